/-! the class: hidden SETS, FU -/
set_option maxRecDepth 8000
theorem zq_tget {xs : Nat × (Nat → Int32)} {j : Nat} {C : Nat → List Value → zM → zQ → Prop} {Z : zK} {code : zT} {np oc nL : Nat} {b pc : Nat} {lv : zL} {μ : zM} (h : z_clo xs j C Z) (hH : zH j code np oc nL) {idx : Nat} (hi : z_tk code.2.1 pc = some (.getfield idx)) {r ci f t : Nat} {st : List Value} (h1 : z_lk (z_flds.getD oc []) idx = some (ci, f) ∧ (Nat.blt r np && (Nat.beq (z_sh r).1 0 && (Nat.beq (z_sh r).2.1 ci && Nat.blt f (z_sh r).2.2))) = true ∧ z_fk ci f = 4) (ht : μ.2.2 r = t) (h2 : (Nat.beq t 0 || Nat.ble 79 t) = false) (k : Z b (pc + 3) lv (.ref t :: st) μ) : Z b pc lv (.ref r :: st) μ := by
  refine zq_st h hH hi ?_ k
  show (match z_hp xs np oc (.getfield idx) (.ref r :: st) μ with | some (st', μ') => some (pc + 3, lv, st', μ') | none => none) = _
  unfold z_hp z_gv
  simp only [h1.1, h1.2.1, h1.2.2, cond_true]
  unfold z_rv
  rw [ht, h2]
  rfl
theorem fb_bitCount (d : Nat) (hd : 1 ≤ d) (μ : zM) (x : Int64) : z_C d mi_J13_bitCount_95d88 [.long x] μ (zR μ (.int ((((((((((x - (((x.toUInt64 >>> ((1 : Int32).toInt64.toUInt64 &&& Int64.toUInt64 63)).toInt64) &&& 6148914691236517205)) &&& 3689348814741910323) + ((((x - (((x.toUInt64 >>> ((1 : Int32).toInt64.toUInt64 &&& Int64.toUInt64 63)).toInt64) &&& 6148914691236517205)).toUInt64 >>> ((2 : Int32).toInt64.toUInt64 &&& Int64.toUInt64 63)).toInt64) &&& 3689348814741910323)) + (((((x - (((x.toUInt64 >>> ((1 : Int32).toInt64.toUInt64 &&& Int64.toUInt64 63)).toInt64) &&& 6148914691236517205)) &&& 3689348814741910323) + ((((x - (((x.toUInt64 >>> ((1 : Int32).toInt64.toUInt64 &&& Int64.toUInt64 63)).toInt64) &&& 6148914691236517205)).toUInt64 >>> ((2 : Int32).toInt64.toUInt64 &&& Int64.toUInt64 63)).toInt64) &&& 3689348814741910323)).toUInt64 >>> ((4 : Int32).toInt64.toUInt64 &&& Int64.toUInt64 63)).toInt64)) &&& 1085102592571150095) + (((((((x - (((x.toUInt64 >>> ((1 : Int32).toInt64.toUInt64 &&& Int64.toUInt64 63)).toInt64) &&& 6148914691236517205)) &&& 3689348814741910323) + ((((x - (((x.toUInt64 >>> ((1 : Int32).toInt64.toUInt64 &&& Int64.toUInt64 63)).toInt64) &&& 6148914691236517205)).toUInt64 >>> ((2 : Int32).toInt64.toUInt64 &&& Int64.toUInt64 63)).toInt64) &&& 3689348814741910323)) + (((((x - (((x.toUInt64 >>> ((1 : Int32).toInt64.toUInt64 &&& Int64.toUInt64 63)).toInt64) &&& 6148914691236517205)) &&& 3689348814741910323) + ((((x - (((x.toUInt64 >>> ((1 : Int32).toInt64.toUInt64 &&& Int64.toUInt64 63)).toInt64) &&& 6148914691236517205)).toUInt64 >>> ((2 : Int32).toInt64.toUInt64 &&& Int64.toUInt64 63)).toInt64) &&& 3689348814741910323)).toUInt64 >>> ((4 : Int32).toInt64.toUInt64 &&& Int64.toUInt64 63)).toInt64)) &&& 1085102592571150095).toUInt64 >>> ((8 : Int32).toInt64.toUInt64 &&& Int64.toUInt64 63)).toInt64)) + ((((((((x - (((x.toUInt64 >>> ((1 : Int32).toInt64.toUInt64 &&& Int64.toUInt64 63)).toInt64) &&& 6148914691236517205)) &&& 3689348814741910323) + ((((x - (((x.toUInt64 >>> ((1 : Int32).toInt64.toUInt64 &&& Int64.toUInt64 63)).toInt64) &&& 6148914691236517205)).toUInt64 >>> ((2 : Int32).toInt64.toUInt64 &&& Int64.toUInt64 63)).toInt64) &&& 3689348814741910323)) + (((((x - (((x.toUInt64 >>> ((1 : Int32).toInt64.toUInt64 &&& Int64.toUInt64 63)).toInt64) &&& 6148914691236517205)) &&& 3689348814741910323) + ((((x - (((x.toUInt64 >>> ((1 : Int32).toInt64.toUInt64 &&& Int64.toUInt64 63)).toInt64) &&& 6148914691236517205)).toUInt64 >>> ((2 : Int32).toInt64.toUInt64 &&& Int64.toUInt64 63)).toInt64) &&& 3689348814741910323)).toUInt64 >>> ((4 : Int32).toInt64.toUInt64 &&& Int64.toUInt64 63)).toInt64)) &&& 1085102592571150095) + (((((((x - (((x.toUInt64 >>> ((1 : Int32).toInt64.toUInt64 &&& Int64.toUInt64 63)).toInt64) &&& 6148914691236517205)) &&& 3689348814741910323) + ((((x - (((x.toUInt64 >>> ((1 : Int32).toInt64.toUInt64 &&& Int64.toUInt64 63)).toInt64) &&& 6148914691236517205)).toUInt64 >>> ((2 : Int32).toInt64.toUInt64 &&& Int64.toUInt64 63)).toInt64) &&& 3689348814741910323)) + (((((x - (((x.toUInt64 >>> ((1 : Int32).toInt64.toUInt64 &&& Int64.toUInt64 63)).toInt64) &&& 6148914691236517205)) &&& 3689348814741910323) + ((((x - (((x.toUInt64 >>> ((1 : Int32).toInt64.toUInt64 &&& Int64.toUInt64 63)).toInt64) &&& 6148914691236517205)).toUInt64 >>> ((2 : Int32).toInt64.toUInt64 &&& Int64.toUInt64 63)).toInt64) &&& 3689348814741910323)).toUInt64 >>> ((4 : Int32).toInt64.toUInt64 &&& Int64.toUInt64 63)).toInt64)) &&& 1085102592571150095).toUInt64 >>> ((8 : Int32).toInt64.toUInt64 &&& Int64.toUInt64 63)).toInt64)).toUInt64 >>> ((16 : Int32).toInt64.toUInt64 &&& Int64.toUInt64 63)).toInt64)) + (((((((((x - (((x.toUInt64 >>> ((1 : Int32).toInt64.toUInt64 &&& Int64.toUInt64 63)).toInt64) &&& 6148914691236517205)) &&& 3689348814741910323) + ((((x - (((x.toUInt64 >>> ((1 : Int32).toInt64.toUInt64 &&& Int64.toUInt64 63)).toInt64) &&& 6148914691236517205)).toUInt64 >>> ((2 : Int32).toInt64.toUInt64 &&& Int64.toUInt64 63)).toInt64) &&& 3689348814741910323)) + (((((x - (((x.toUInt64 >>> ((1 : Int32).toInt64.toUInt64 &&& Int64.toUInt64 63)).toInt64) &&& 6148914691236517205)) &&& 3689348814741910323) + ((((x - (((x.toUInt64 >>> ((1 : Int32).toInt64.toUInt64 &&& Int64.toUInt64 63)).toInt64) &&& 6148914691236517205)).toUInt64 >>> ((2 : Int32).toInt64.toUInt64 &&& Int64.toUInt64 63)).toInt64) &&& 3689348814741910323)).toUInt64 >>> ((4 : Int32).toInt64.toUInt64 &&& Int64.toUInt64 63)).toInt64)) &&& 1085102592571150095) + (((((((x - (((x.toUInt64 >>> ((1 : Int32).toInt64.toUInt64 &&& Int64.toUInt64 63)).toInt64) &&& 6148914691236517205)) &&& 3689348814741910323) + ((((x - (((x.toUInt64 >>> ((1 : Int32).toInt64.toUInt64 &&& Int64.toUInt64 63)).toInt64) &&& 6148914691236517205)).toUInt64 >>> ((2 : Int32).toInt64.toUInt64 &&& Int64.toUInt64 63)).toInt64) &&& 3689348814741910323)) + (((((x - (((x.toUInt64 >>> ((1 : Int32).toInt64.toUInt64 &&& Int64.toUInt64 63)).toInt64) &&& 6148914691236517205)) &&& 3689348814741910323) + ((((x - (((x.toUInt64 >>> ((1 : Int32).toInt64.toUInt64 &&& Int64.toUInt64 63)).toInt64) &&& 6148914691236517205)).toUInt64 >>> ((2 : Int32).toInt64.toUInt64 &&& Int64.toUInt64 63)).toInt64) &&& 3689348814741910323)).toUInt64 >>> ((4 : Int32).toInt64.toUInt64 &&& Int64.toUInt64 63)).toInt64)) &&& 1085102592571150095).toUInt64 >>> ((8 : Int32).toInt64.toUInt64 &&& Int64.toUInt64 63)).toInt64)) + ((((((((x - (((x.toUInt64 >>> ((1 : Int32).toInt64.toUInt64 &&& Int64.toUInt64 63)).toInt64) &&& 6148914691236517205)) &&& 3689348814741910323) + ((((x - (((x.toUInt64 >>> ((1 : Int32).toInt64.toUInt64 &&& Int64.toUInt64 63)).toInt64) &&& 6148914691236517205)).toUInt64 >>> ((2 : Int32).toInt64.toUInt64 &&& Int64.toUInt64 63)).toInt64) &&& 3689348814741910323)) + (((((x - (((x.toUInt64 >>> ((1 : Int32).toInt64.toUInt64 &&& Int64.toUInt64 63)).toInt64) &&& 6148914691236517205)) &&& 3689348814741910323) + ((((x - (((x.toUInt64 >>> ((1 : Int32).toInt64.toUInt64 &&& Int64.toUInt64 63)).toInt64) &&& 6148914691236517205)).toUInt64 >>> ((2 : Int32).toInt64.toUInt64 &&& Int64.toUInt64 63)).toInt64) &&& 3689348814741910323)).toUInt64 >>> ((4 : Int32).toInt64.toUInt64 &&& Int64.toUInt64 63)).toInt64)) &&& 1085102592571150095) + (((((((x - (((x.toUInt64 >>> ((1 : Int32).toInt64.toUInt64 &&& Int64.toUInt64 63)).toInt64) &&& 6148914691236517205)) &&& 3689348814741910323) + ((((x - (((x.toUInt64 >>> ((1 : Int32).toInt64.toUInt64 &&& Int64.toUInt64 63)).toInt64) &&& 6148914691236517205)).toUInt64 >>> ((2 : Int32).toInt64.toUInt64 &&& Int64.toUInt64 63)).toInt64) &&& 3689348814741910323)) + (((((x - (((x.toUInt64 >>> ((1 : Int32).toInt64.toUInt64 &&& Int64.toUInt64 63)).toInt64) &&& 6148914691236517205)) &&& 3689348814741910323) + ((((x - (((x.toUInt64 >>> ((1 : Int32).toInt64.toUInt64 &&& Int64.toUInt64 63)).toInt64) &&& 6148914691236517205)).toUInt64 >>> ((2 : Int32).toInt64.toUInt64 &&& Int64.toUInt64 63)).toInt64) &&& 3689348814741910323)).toUInt64 >>> ((4 : Int32).toInt64.toUInt64 &&& Int64.toUInt64 63)).toInt64)) &&& 1085102592571150095).toUInt64 >>> ((8 : Int32).toInt64.toUInt64 &&& Int64.toUInt64 63)).toInt64)).toUInt64 >>> ((16 : Int32).toInt64.toUInt64 &&& Int64.toUInt64 63)).toInt64)).toUInt64 >>> ((32 : Int32).toInt64.toUInt64 &&& Int64.toUInt64 63)).toInt64)).toInt32) &&& 127))) := by
  refine z_C_in (by decide) (by omega) (fun d' Z ed hc hr => ?_)
  have hH : zH mi_J13_bitCount_95d88 zt_J13_bitCount_95d88 79 8 2 := hh_J13_bitCount_95d88
  refine z_rcs hc hH 48 (pc' := 60) (lv' := [(0, .long ((((((((x - (((x.toUInt64 >>> ((1 : Int32).toInt64.toUInt64 &&& Int64.toUInt64 63)).toInt64) &&& 6148914691236517205)) &&& 3689348814741910323) + ((((x - (((x.toUInt64 >>> ((1 : Int32).toInt64.toUInt64 &&& Int64.toUInt64 63)).toInt64) &&& 6148914691236517205)).toUInt64 >>> ((2 : Int32).toInt64.toUInt64 &&& Int64.toUInt64 63)).toInt64) &&& 3689348814741910323)) + (((((x - (((x.toUInt64 >>> ((1 : Int32).toInt64.toUInt64 &&& Int64.toUInt64 63)).toInt64) &&& 6148914691236517205)) &&& 3689348814741910323) + ((((x - (((x.toUInt64 >>> ((1 : Int32).toInt64.toUInt64 &&& Int64.toUInt64 63)).toInt64) &&& 6148914691236517205)).toUInt64 >>> ((2 : Int32).toInt64.toUInt64 &&& Int64.toUInt64 63)).toInt64) &&& 3689348814741910323)).toUInt64 >>> ((4 : Int32).toInt64.toUInt64 &&& Int64.toUInt64 63)).toInt64)) &&& 1085102592571150095) + (((((((x - (((x.toUInt64 >>> ((1 : Int32).toInt64.toUInt64 &&& Int64.toUInt64 63)).toInt64) &&& 6148914691236517205)) &&& 3689348814741910323) + ((((x - (((x.toUInt64 >>> ((1 : Int32).toInt64.toUInt64 &&& Int64.toUInt64 63)).toInt64) &&& 6148914691236517205)).toUInt64 >>> ((2 : Int32).toInt64.toUInt64 &&& Int64.toUInt64 63)).toInt64) &&& 3689348814741910323)) + (((((x - (((x.toUInt64 >>> ((1 : Int32).toInt64.toUInt64 &&& Int64.toUInt64 63)).toInt64) &&& 6148914691236517205)) &&& 3689348814741910323) + ((((x - (((x.toUInt64 >>> ((1 : Int32).toInt64.toUInt64 &&& Int64.toUInt64 63)).toInt64) &&& 6148914691236517205)).toUInt64 >>> ((2 : Int32).toInt64.toUInt64 &&& Int64.toUInt64 63)).toInt64) &&& 3689348814741910323)).toUInt64 >>> ((4 : Int32).toInt64.toUInt64 &&& Int64.toUInt64 63)).toInt64)) &&& 1085102592571150095).toUInt64 >>> ((8 : Int32).toInt64.toUInt64 &&& Int64.toUInt64 63)).toInt64)) + ((((((((x - (((x.toUInt64 >>> ((1 : Int32).toInt64.toUInt64 &&& Int64.toUInt64 63)).toInt64) &&& 6148914691236517205)) &&& 3689348814741910323) + ((((x - (((x.toUInt64 >>> ((1 : Int32).toInt64.toUInt64 &&& Int64.toUInt64 63)).toInt64) &&& 6148914691236517205)).toUInt64 >>> ((2 : Int32).toInt64.toUInt64 &&& Int64.toUInt64 63)).toInt64) &&& 3689348814741910323)) + (((((x - (((x.toUInt64 >>> ((1 : Int32).toInt64.toUInt64 &&& Int64.toUInt64 63)).toInt64) &&& 6148914691236517205)) &&& 3689348814741910323) + ((((x - (((x.toUInt64 >>> ((1 : Int32).toInt64.toUInt64 &&& Int64.toUInt64 63)).toInt64) &&& 6148914691236517205)).toUInt64 >>> ((2 : Int32).toInt64.toUInt64 &&& Int64.toUInt64 63)).toInt64) &&& 3689348814741910323)).toUInt64 >>> ((4 : Int32).toInt64.toUInt64 &&& Int64.toUInt64 63)).toInt64)) &&& 1085102592571150095) + (((((((x - (((x.toUInt64 >>> ((1 : Int32).toInt64.toUInt64 &&& Int64.toUInt64 63)).toInt64) &&& 6148914691236517205)) &&& 3689348814741910323) + ((((x - (((x.toUInt64 >>> ((1 : Int32).toInt64.toUInt64 &&& Int64.toUInt64 63)).toInt64) &&& 6148914691236517205)).toUInt64 >>> ((2 : Int32).toInt64.toUInt64 &&& Int64.toUInt64 63)).toInt64) &&& 3689348814741910323)) + (((((x - (((x.toUInt64 >>> ((1 : Int32).toInt64.toUInt64 &&& Int64.toUInt64 63)).toInt64) &&& 6148914691236517205)) &&& 3689348814741910323) + ((((x - (((x.toUInt64 >>> ((1 : Int32).toInt64.toUInt64 &&& Int64.toUInt64 63)).toInt64) &&& 6148914691236517205)).toUInt64 >>> ((2 : Int32).toInt64.toUInt64 &&& Int64.toUInt64 63)).toInt64) &&& 3689348814741910323)).toUInt64 >>> ((4 : Int32).toInt64.toUInt64 &&& Int64.toUInt64 63)).toInt64)) &&& 1085102592571150095).toUInt64 >>> ((8 : Int32).toInt64.toUInt64 &&& Int64.toUInt64 63)).toInt64)).toUInt64 >>> ((16 : Int32).toInt64.toUInt64 &&& Int64.toUInt64 63)).toInt64)) + (((((((((x - (((x.toUInt64 >>> ((1 : Int32).toInt64.toUInt64 &&& Int64.toUInt64 63)).toInt64) &&& 6148914691236517205)) &&& 3689348814741910323) + ((((x - (((x.toUInt64 >>> ((1 : Int32).toInt64.toUInt64 &&& Int64.toUInt64 63)).toInt64) &&& 6148914691236517205)).toUInt64 >>> ((2 : Int32).toInt64.toUInt64 &&& Int64.toUInt64 63)).toInt64) &&& 3689348814741910323)) + (((((x - (((x.toUInt64 >>> ((1 : Int32).toInt64.toUInt64 &&& Int64.toUInt64 63)).toInt64) &&& 6148914691236517205)) &&& 3689348814741910323) + ((((x - (((x.toUInt64 >>> ((1 : Int32).toInt64.toUInt64 &&& Int64.toUInt64 63)).toInt64) &&& 6148914691236517205)).toUInt64 >>> ((2 : Int32).toInt64.toUInt64 &&& Int64.toUInt64 63)).toInt64) &&& 3689348814741910323)).toUInt64 >>> ((4 : Int32).toInt64.toUInt64 &&& Int64.toUInt64 63)).toInt64)) &&& 1085102592571150095) + (((((((x - (((x.toUInt64 >>> ((1 : Int32).toInt64.toUInt64 &&& Int64.toUInt64 63)).toInt64) &&& 6148914691236517205)) &&& 3689348814741910323) + ((((x - (((x.toUInt64 >>> ((1 : Int32).toInt64.toUInt64 &&& Int64.toUInt64 63)).toInt64) &&& 6148914691236517205)).toUInt64 >>> ((2 : Int32).toInt64.toUInt64 &&& Int64.toUInt64 63)).toInt64) &&& 3689348814741910323)) + (((((x - (((x.toUInt64 >>> ((1 : Int32).toInt64.toUInt64 &&& Int64.toUInt64 63)).toInt64) &&& 6148914691236517205)) &&& 3689348814741910323) + ((((x - (((x.toUInt64 >>> ((1 : Int32).toInt64.toUInt64 &&& Int64.toUInt64 63)).toInt64) &&& 6148914691236517205)).toUInt64 >>> ((2 : Int32).toInt64.toUInt64 &&& Int64.toUInt64 63)).toInt64) &&& 3689348814741910323)).toUInt64 >>> ((4 : Int32).toInt64.toUInt64 &&& Int64.toUInt64 63)).toInt64)) &&& 1085102592571150095).toUInt64 >>> ((8 : Int32).toInt64.toUInt64 &&& Int64.toUInt64 63)).toInt64)) + ((((((((x - (((x.toUInt64 >>> ((1 : Int32).toInt64.toUInt64 &&& Int64.toUInt64 63)).toInt64) &&& 6148914691236517205)) &&& 3689348814741910323) + ((((x - (((x.toUInt64 >>> ((1 : Int32).toInt64.toUInt64 &&& Int64.toUInt64 63)).toInt64) &&& 6148914691236517205)).toUInt64 >>> ((2 : Int32).toInt64.toUInt64 &&& Int64.toUInt64 63)).toInt64) &&& 3689348814741910323)) + (((((x - (((x.toUInt64 >>> ((1 : Int32).toInt64.toUInt64 &&& Int64.toUInt64 63)).toInt64) &&& 6148914691236517205)) &&& 3689348814741910323) + ((((x - (((x.toUInt64 >>> ((1 : Int32).toInt64.toUInt64 &&& Int64.toUInt64 63)).toInt64) &&& 6148914691236517205)).toUInt64 >>> ((2 : Int32).toInt64.toUInt64 &&& Int64.toUInt64 63)).toInt64) &&& 3689348814741910323)).toUInt64 >>> ((4 : Int32).toInt64.toUInt64 &&& Int64.toUInt64 63)).toInt64)) &&& 1085102592571150095) + (((((((x - (((x.toUInt64 >>> ((1 : Int32).toInt64.toUInt64 &&& Int64.toUInt64 63)).toInt64) &&& 6148914691236517205)) &&& 3689348814741910323) + ((((x - (((x.toUInt64 >>> ((1 : Int32).toInt64.toUInt64 &&& Int64.toUInt64 63)).toInt64) &&& 6148914691236517205)).toUInt64 >>> ((2 : Int32).toInt64.toUInt64 &&& Int64.toUInt64 63)).toInt64) &&& 3689348814741910323)) + (((((x - (((x.toUInt64 >>> ((1 : Int32).toInt64.toUInt64 &&& Int64.toUInt64 63)).toInt64) &&& 6148914691236517205)) &&& 3689348814741910323) + ((((x - (((x.toUInt64 >>> ((1 : Int32).toInt64.toUInt64 &&& Int64.toUInt64 63)).toInt64) &&& 6148914691236517205)).toUInt64 >>> ((2 : Int32).toInt64.toUInt64 &&& Int64.toUInt64 63)).toInt64) &&& 3689348814741910323)).toUInt64 >>> ((4 : Int32).toInt64.toUInt64 &&& Int64.toUInt64 63)).toInt64)) &&& 1085102592571150095).toUInt64 >>> ((8 : Int32).toInt64.toUInt64 &&& Int64.toUInt64 63)).toInt64)).toUInt64 >>> ((16 : Int32).toInt64.toUInt64 &&& Int64.toUInt64 63)).toInt64)).toUInt64 >>> ((32 : Int32).toInt64.toUInt64 &&& Int64.toUInt64 63)).toInt64)))]) (st' := [.int ((((((((((x - (((x.toUInt64 >>> ((1 : Int32).toInt64.toUInt64 &&& Int64.toUInt64 63)).toInt64) &&& 6148914691236517205)) &&& 3689348814741910323) + ((((x - (((x.toUInt64 >>> ((1 : Int32).toInt64.toUInt64 &&& Int64.toUInt64 63)).toInt64) &&& 6148914691236517205)).toUInt64 >>> ((2 : Int32).toInt64.toUInt64 &&& Int64.toUInt64 63)).toInt64) &&& 3689348814741910323)) + (((((x - (((x.toUInt64 >>> ((1 : Int32).toInt64.toUInt64 &&& Int64.toUInt64 63)).toInt64) &&& 6148914691236517205)) &&& 3689348814741910323) + ((((x - (((x.toUInt64 >>> ((1 : Int32).toInt64.toUInt64 &&& Int64.toUInt64 63)).toInt64) &&& 6148914691236517205)).toUInt64 >>> ((2 : Int32).toInt64.toUInt64 &&& Int64.toUInt64 63)).toInt64) &&& 3689348814741910323)).toUInt64 >>> ((4 : Int32).toInt64.toUInt64 &&& Int64.toUInt64 63)).toInt64)) &&& 1085102592571150095) + (((((((x - (((x.toUInt64 >>> ((1 : Int32).toInt64.toUInt64 &&& Int64.toUInt64 63)).toInt64) &&& 6148914691236517205)) &&& 3689348814741910323) + ((((x - (((x.toUInt64 >>> ((1 : Int32).toInt64.toUInt64 &&& Int64.toUInt64 63)).toInt64) &&& 6148914691236517205)).toUInt64 >>> ((2 : Int32).toInt64.toUInt64 &&& Int64.toUInt64 63)).toInt64) &&& 3689348814741910323)) + (((((x - (((x.toUInt64 >>> ((1 : Int32).toInt64.toUInt64 &&& Int64.toUInt64 63)).toInt64) &&& 6148914691236517205)) &&& 3689348814741910323) + ((((x - (((x.toUInt64 >>> ((1 : Int32).toInt64.toUInt64 &&& Int64.toUInt64 63)).toInt64) &&& 6148914691236517205)).toUInt64 >>> ((2 : Int32).toInt64.toUInt64 &&& Int64.toUInt64 63)).toInt64) &&& 3689348814741910323)).toUInt64 >>> ((4 : Int32).toInt64.toUInt64 &&& Int64.toUInt64 63)).toInt64)) &&& 1085102592571150095).toUInt64 >>> ((8 : Int32).toInt64.toUInt64 &&& Int64.toUInt64 63)).toInt64)) + ((((((((x - (((x.toUInt64 >>> ((1 : Int32).toInt64.toUInt64 &&& Int64.toUInt64 63)).toInt64) &&& 6148914691236517205)) &&& 3689348814741910323) + ((((x - (((x.toUInt64 >>> ((1 : Int32).toInt64.toUInt64 &&& Int64.toUInt64 63)).toInt64) &&& 6148914691236517205)).toUInt64 >>> ((2 : Int32).toInt64.toUInt64 &&& Int64.toUInt64 63)).toInt64) &&& 3689348814741910323)) + (((((x - (((x.toUInt64 >>> ((1 : Int32).toInt64.toUInt64 &&& Int64.toUInt64 63)).toInt64) &&& 6148914691236517205)) &&& 3689348814741910323) + ((((x - (((x.toUInt64 >>> ((1 : Int32).toInt64.toUInt64 &&& Int64.toUInt64 63)).toInt64) &&& 6148914691236517205)).toUInt64 >>> ((2 : Int32).toInt64.toUInt64 &&& Int64.toUInt64 63)).toInt64) &&& 3689348814741910323)).toUInt64 >>> ((4 : Int32).toInt64.toUInt64 &&& Int64.toUInt64 63)).toInt64)) &&& 1085102592571150095) + (((((((x - (((x.toUInt64 >>> ((1 : Int32).toInt64.toUInt64 &&& Int64.toUInt64 63)).toInt64) &&& 6148914691236517205)) &&& 3689348814741910323) + ((((x - (((x.toUInt64 >>> ((1 : Int32).toInt64.toUInt64 &&& Int64.toUInt64 63)).toInt64) &&& 6148914691236517205)).toUInt64 >>> ((2 : Int32).toInt64.toUInt64 &&& Int64.toUInt64 63)).toInt64) &&& 3689348814741910323)) + (((((x - (((x.toUInt64 >>> ((1 : Int32).toInt64.toUInt64 &&& Int64.toUInt64 63)).toInt64) &&& 6148914691236517205)) &&& 3689348814741910323) + ((((x - (((x.toUInt64 >>> ((1 : Int32).toInt64.toUInt64 &&& Int64.toUInt64 63)).toInt64) &&& 6148914691236517205)).toUInt64 >>> ((2 : Int32).toInt64.toUInt64 &&& Int64.toUInt64 63)).toInt64) &&& 3689348814741910323)).toUInt64 >>> ((4 : Int32).toInt64.toUInt64 &&& Int64.toUInt64 63)).toInt64)) &&& 1085102592571150095).toUInt64 >>> ((8 : Int32).toInt64.toUInt64 &&& Int64.toUInt64 63)).toInt64)).toUInt64 >>> ((16 : Int32).toInt64.toUInt64 &&& Int64.toUInt64 63)).toInt64)) + (((((((((x - (((x.toUInt64 >>> ((1 : Int32).toInt64.toUInt64 &&& Int64.toUInt64 63)).toInt64) &&& 6148914691236517205)) &&& 3689348814741910323) + ((((x - (((x.toUInt64 >>> ((1 : Int32).toInt64.toUInt64 &&& Int64.toUInt64 63)).toInt64) &&& 6148914691236517205)).toUInt64 >>> ((2 : Int32).toInt64.toUInt64 &&& Int64.toUInt64 63)).toInt64) &&& 3689348814741910323)) + (((((x - (((x.toUInt64 >>> ((1 : Int32).toInt64.toUInt64 &&& Int64.toUInt64 63)).toInt64) &&& 6148914691236517205)) &&& 3689348814741910323) + ((((x - (((x.toUInt64 >>> ((1 : Int32).toInt64.toUInt64 &&& Int64.toUInt64 63)).toInt64) &&& 6148914691236517205)).toUInt64 >>> ((2 : Int32).toInt64.toUInt64 &&& Int64.toUInt64 63)).toInt64) &&& 3689348814741910323)).toUInt64 >>> ((4 : Int32).toInt64.toUInt64 &&& Int64.toUInt64 63)).toInt64)) &&& 1085102592571150095) + (((((((x - (((x.toUInt64 >>> ((1 : Int32).toInt64.toUInt64 &&& Int64.toUInt64 63)).toInt64) &&& 6148914691236517205)) &&& 3689348814741910323) + ((((x - (((x.toUInt64 >>> ((1 : Int32).toInt64.toUInt64 &&& Int64.toUInt64 63)).toInt64) &&& 6148914691236517205)).toUInt64 >>> ((2 : Int32).toInt64.toUInt64 &&& Int64.toUInt64 63)).toInt64) &&& 3689348814741910323)) + (((((x - (((x.toUInt64 >>> ((1 : Int32).toInt64.toUInt64 &&& Int64.toUInt64 63)).toInt64) &&& 6148914691236517205)) &&& 3689348814741910323) + ((((x - (((x.toUInt64 >>> ((1 : Int32).toInt64.toUInt64 &&& Int64.toUInt64 63)).toInt64) &&& 6148914691236517205)).toUInt64 >>> ((2 : Int32).toInt64.toUInt64 &&& Int64.toUInt64 63)).toInt64) &&& 3689348814741910323)).toUInt64 >>> ((4 : Int32).toInt64.toUInt64 &&& Int64.toUInt64 63)).toInt64)) &&& 1085102592571150095).toUInt64 >>> ((8 : Int32).toInt64.toUInt64 &&& Int64.toUInt64 63)).toInt64)) + ((((((((x - (((x.toUInt64 >>> ((1 : Int32).toInt64.toUInt64 &&& Int64.toUInt64 63)).toInt64) &&& 6148914691236517205)) &&& 3689348814741910323) + ((((x - (((x.toUInt64 >>> ((1 : Int32).toInt64.toUInt64 &&& Int64.toUInt64 63)).toInt64) &&& 6148914691236517205)).toUInt64 >>> ((2 : Int32).toInt64.toUInt64 &&& Int64.toUInt64 63)).toInt64) &&& 3689348814741910323)) + (((((x - (((x.toUInt64 >>> ((1 : Int32).toInt64.toUInt64 &&& Int64.toUInt64 63)).toInt64) &&& 6148914691236517205)) &&& 3689348814741910323) + ((((x - (((x.toUInt64 >>> ((1 : Int32).toInt64.toUInt64 &&& Int64.toUInt64 63)).toInt64) &&& 6148914691236517205)).toUInt64 >>> ((2 : Int32).toInt64.toUInt64 &&& Int64.toUInt64 63)).toInt64) &&& 3689348814741910323)).toUInt64 >>> ((4 : Int32).toInt64.toUInt64 &&& Int64.toUInt64 63)).toInt64)) &&& 1085102592571150095) + (((((((x - (((x.toUInt64 >>> ((1 : Int32).toInt64.toUInt64 &&& Int64.toUInt64 63)).toInt64) &&& 6148914691236517205)) &&& 3689348814741910323) + ((((x - (((x.toUInt64 >>> ((1 : Int32).toInt64.toUInt64 &&& Int64.toUInt64 63)).toInt64) &&& 6148914691236517205)).toUInt64 >>> ((2 : Int32).toInt64.toUInt64 &&& Int64.toUInt64 63)).toInt64) &&& 3689348814741910323)) + (((((x - (((x.toUInt64 >>> ((1 : Int32).toInt64.toUInt64 &&& Int64.toUInt64 63)).toInt64) &&& 6148914691236517205)) &&& 3689348814741910323) + ((((x - (((x.toUInt64 >>> ((1 : Int32).toInt64.toUInt64 &&& Int64.toUInt64 63)).toInt64) &&& 6148914691236517205)).toUInt64 >>> ((2 : Int32).toInt64.toUInt64 &&& Int64.toUInt64 63)).toInt64) &&& 3689348814741910323)).toUInt64 >>> ((4 : Int32).toInt64.toUInt64 &&& Int64.toUInt64 63)).toInt64)) &&& 1085102592571150095).toUInt64 >>> ((8 : Int32).toInt64.toUInt64 &&& Int64.toUInt64 63)).toInt64)).toUInt64 >>> ((16 : Int32).toInt64.toUInt64 &&& Int64.toUInt64 63)).toInt64)).toUInt64 >>> ((32 : Int32).toInt64.toUInt64 &&& Int64.toUInt64 63)).toInt64)).toInt32) &&& 127)]) (μ' := μ) (by rfl) ?_
  exact hr 0 60 _ _ _ (some (.int ((((((((((x - (((x.toUInt64 >>> ((1 : Int32).toInt64.toUInt64 &&& Int64.toUInt64 63)).toInt64) &&& 6148914691236517205)) &&& 3689348814741910323) + ((((x - (((x.toUInt64 >>> ((1 : Int32).toInt64.toUInt64 &&& Int64.toUInt64 63)).toInt64) &&& 6148914691236517205)).toUInt64 >>> ((2 : Int32).toInt64.toUInt64 &&& Int64.toUInt64 63)).toInt64) &&& 3689348814741910323)) + (((((x - (((x.toUInt64 >>> ((1 : Int32).toInt64.toUInt64 &&& Int64.toUInt64 63)).toInt64) &&& 6148914691236517205)) &&& 3689348814741910323) + ((((x - (((x.toUInt64 >>> ((1 : Int32).toInt64.toUInt64 &&& Int64.toUInt64 63)).toInt64) &&& 6148914691236517205)).toUInt64 >>> ((2 : Int32).toInt64.toUInt64 &&& Int64.toUInt64 63)).toInt64) &&& 3689348814741910323)).toUInt64 >>> ((4 : Int32).toInt64.toUInt64 &&& Int64.toUInt64 63)).toInt64)) &&& 1085102592571150095) + (((((((x - (((x.toUInt64 >>> ((1 : Int32).toInt64.toUInt64 &&& Int64.toUInt64 63)).toInt64) &&& 6148914691236517205)) &&& 3689348814741910323) + ((((x - (((x.toUInt64 >>> ((1 : Int32).toInt64.toUInt64 &&& Int64.toUInt64 63)).toInt64) &&& 6148914691236517205)).toUInt64 >>> ((2 : Int32).toInt64.toUInt64 &&& Int64.toUInt64 63)).toInt64) &&& 3689348814741910323)) + (((((x - (((x.toUInt64 >>> ((1 : Int32).toInt64.toUInt64 &&& Int64.toUInt64 63)).toInt64) &&& 6148914691236517205)) &&& 3689348814741910323) + ((((x - (((x.toUInt64 >>> ((1 : Int32).toInt64.toUInt64 &&& Int64.toUInt64 63)).toInt64) &&& 6148914691236517205)).toUInt64 >>> ((2 : Int32).toInt64.toUInt64 &&& Int64.toUInt64 63)).toInt64) &&& 3689348814741910323)).toUInt64 >>> ((4 : Int32).toInt64.toUInt64 &&& Int64.toUInt64 63)).toInt64)) &&& 1085102592571150095).toUInt64 >>> ((8 : Int32).toInt64.toUInt64 &&& Int64.toUInt64 63)).toInt64)) + ((((((((x - (((x.toUInt64 >>> ((1 : Int32).toInt64.toUInt64 &&& Int64.toUInt64 63)).toInt64) &&& 6148914691236517205)) &&& 3689348814741910323) + ((((x - (((x.toUInt64 >>> ((1 : Int32).toInt64.toUInt64 &&& Int64.toUInt64 63)).toInt64) &&& 6148914691236517205)).toUInt64 >>> ((2 : Int32).toInt64.toUInt64 &&& Int64.toUInt64 63)).toInt64) &&& 3689348814741910323)) + (((((x - (((x.toUInt64 >>> ((1 : Int32).toInt64.toUInt64 &&& Int64.toUInt64 63)).toInt64) &&& 6148914691236517205)) &&& 3689348814741910323) + ((((x - (((x.toUInt64 >>> ((1 : Int32).toInt64.toUInt64 &&& Int64.toUInt64 63)).toInt64) &&& 6148914691236517205)).toUInt64 >>> ((2 : Int32).toInt64.toUInt64 &&& Int64.toUInt64 63)).toInt64) &&& 3689348814741910323)).toUInt64 >>> ((4 : Int32).toInt64.toUInt64 &&& Int64.toUInt64 63)).toInt64)) &&& 1085102592571150095) + (((((((x - (((x.toUInt64 >>> ((1 : Int32).toInt64.toUInt64 &&& Int64.toUInt64 63)).toInt64) &&& 6148914691236517205)) &&& 3689348814741910323) + ((((x - (((x.toUInt64 >>> ((1 : Int32).toInt64.toUInt64 &&& Int64.toUInt64 63)).toInt64) &&& 6148914691236517205)).toUInt64 >>> ((2 : Int32).toInt64.toUInt64 &&& Int64.toUInt64 63)).toInt64) &&& 3689348814741910323)) + (((((x - (((x.toUInt64 >>> ((1 : Int32).toInt64.toUInt64 &&& Int64.toUInt64 63)).toInt64) &&& 6148914691236517205)) &&& 3689348814741910323) + ((((x - (((x.toUInt64 >>> ((1 : Int32).toInt64.toUInt64 &&& Int64.toUInt64 63)).toInt64) &&& 6148914691236517205)).toUInt64 >>> ((2 : Int32).toInt64.toUInt64 &&& Int64.toUInt64 63)).toInt64) &&& 3689348814741910323)).toUInt64 >>> ((4 : Int32).toInt64.toUInt64 &&& Int64.toUInt64 63)).toInt64)) &&& 1085102592571150095).toUInt64 >>> ((8 : Int32).toInt64.toUInt64 &&& Int64.toUInt64 63)).toInt64)).toUInt64 >>> ((16 : Int32).toInt64.toUInt64 &&& Int64.toUInt64 63)).toInt64)) + (((((((((x - (((x.toUInt64 >>> ((1 : Int32).toInt64.toUInt64 &&& Int64.toUInt64 63)).toInt64) &&& 6148914691236517205)) &&& 3689348814741910323) + ((((x - (((x.toUInt64 >>> ((1 : Int32).toInt64.toUInt64 &&& Int64.toUInt64 63)).toInt64) &&& 6148914691236517205)).toUInt64 >>> ((2 : Int32).toInt64.toUInt64 &&& Int64.toUInt64 63)).toInt64) &&& 3689348814741910323)) + (((((x - (((x.toUInt64 >>> ((1 : Int32).toInt64.toUInt64 &&& Int64.toUInt64 63)).toInt64) &&& 6148914691236517205)) &&& 3689348814741910323) + ((((x - (((x.toUInt64 >>> ((1 : Int32).toInt64.toUInt64 &&& Int64.toUInt64 63)).toInt64) &&& 6148914691236517205)).toUInt64 >>> ((2 : Int32).toInt64.toUInt64 &&& Int64.toUInt64 63)).toInt64) &&& 3689348814741910323)).toUInt64 >>> ((4 : Int32).toInt64.toUInt64 &&& Int64.toUInt64 63)).toInt64)) &&& 1085102592571150095) + (((((((x - (((x.toUInt64 >>> ((1 : Int32).toInt64.toUInt64 &&& Int64.toUInt64 63)).toInt64) &&& 6148914691236517205)) &&& 3689348814741910323) + ((((x - (((x.toUInt64 >>> ((1 : Int32).toInt64.toUInt64 &&& Int64.toUInt64 63)).toInt64) &&& 6148914691236517205)).toUInt64 >>> ((2 : Int32).toInt64.toUInt64 &&& Int64.toUInt64 63)).toInt64) &&& 3689348814741910323)) + (((((x - (((x.toUInt64 >>> ((1 : Int32).toInt64.toUInt64 &&& Int64.toUInt64 63)).toInt64) &&& 6148914691236517205)) &&& 3689348814741910323) + ((((x - (((x.toUInt64 >>> ((1 : Int32).toInt64.toUInt64 &&& Int64.toUInt64 63)).toInt64) &&& 6148914691236517205)).toUInt64 >>> ((2 : Int32).toInt64.toUInt64 &&& Int64.toUInt64 63)).toInt64) &&& 3689348814741910323)).toUInt64 >>> ((4 : Int32).toInt64.toUInt64 &&& Int64.toUInt64 63)).toInt64)) &&& 1085102592571150095).toUInt64 >>> ((8 : Int32).toInt64.toUInt64 &&& Int64.toUInt64 63)).toInt64)) + ((((((((x - (((x.toUInt64 >>> ((1 : Int32).toInt64.toUInt64 &&& Int64.toUInt64 63)).toInt64) &&& 6148914691236517205)) &&& 3689348814741910323) + ((((x - (((x.toUInt64 >>> ((1 : Int32).toInt64.toUInt64 &&& Int64.toUInt64 63)).toInt64) &&& 6148914691236517205)).toUInt64 >>> ((2 : Int32).toInt64.toUInt64 &&& Int64.toUInt64 63)).toInt64) &&& 3689348814741910323)) + (((((x - (((x.toUInt64 >>> ((1 : Int32).toInt64.toUInt64 &&& Int64.toUInt64 63)).toInt64) &&& 6148914691236517205)) &&& 3689348814741910323) + ((((x - (((x.toUInt64 >>> ((1 : Int32).toInt64.toUInt64 &&& Int64.toUInt64 63)).toInt64) &&& 6148914691236517205)).toUInt64 >>> ((2 : Int32).toInt64.toUInt64 &&& Int64.toUInt64 63)).toInt64) &&& 3689348814741910323)).toUInt64 >>> ((4 : Int32).toInt64.toUInt64 &&& Int64.toUInt64 63)).toInt64)) &&& 1085102592571150095) + (((((((x - (((x.toUInt64 >>> ((1 : Int32).toInt64.toUInt64 &&& Int64.toUInt64 63)).toInt64) &&& 6148914691236517205)) &&& 3689348814741910323) + ((((x - (((x.toUInt64 >>> ((1 : Int32).toInt64.toUInt64 &&& Int64.toUInt64 63)).toInt64) &&& 6148914691236517205)).toUInt64 >>> ((2 : Int32).toInt64.toUInt64 &&& Int64.toUInt64 63)).toInt64) &&& 3689348814741910323)) + (((((x - (((x.toUInt64 >>> ((1 : Int32).toInt64.toUInt64 &&& Int64.toUInt64 63)).toInt64) &&& 6148914691236517205)) &&& 3689348814741910323) + ((((x - (((x.toUInt64 >>> ((1 : Int32).toInt64.toUInt64 &&& Int64.toUInt64 63)).toInt64) &&& 6148914691236517205)).toUInt64 >>> ((2 : Int32).toInt64.toUInt64 &&& Int64.toUInt64 63)).toInt64) &&& 3689348814741910323)).toUInt64 >>> ((4 : Int32).toInt64.toUInt64 &&& Int64.toUInt64 63)).toInt64)) &&& 1085102592571150095).toUInt64 >>> ((8 : Int32).toInt64.toUInt64 &&& Int64.toUInt64 63)).toInt64)).toUInt64 >>> ((16 : Int32).toInt64.toUInt64 &&& Int64.toUInt64 63)).toInt64)).toUInt64 >>> ((32 : Int32).toInt64.toUInt64 &&& Int64.toUInt64 63)).toInt64)).toInt32) &&& 127))) (by decide +kernel) (z_rx_ok hH (by rfl)) (⟨rfl, (by rfl)⟩)
theorem fb_X1_isHidden_0_0 (d : Nat) (hd : 1 ≤ d) (μ : zM) (ht : μ.2.2 14 = 9) : z_C d mi_X1_isHidden [.ref 14, .int 0, .int 0] μ (zR μ (.int (nB (bif decide ((μ.1 9 4) ≤ (0 : Int32)) then !(decide ((μ.1 14 7) = 0)) else decide ((μ.1 15 0) = 3))))) := by
  refine z_C_in (by decide) (by omega) (fun d' Z ed hc hr => ?_)
  have hH : zH mi_X1_isHidden zt_X1_isHidden 79 1 3 := hh_X1_isHidden
  refine z_rcs hc hH 2 (pc' := 2) (lv' := [(0, .ref 14), (1, .int 0), (2, .int 0)]) (st' := [.ref 14, .int 0]) (μ' := μ) (by rfl) ?_
  refine zq_tget hc hH (by rfl) (ci := 0) (f := 5) (t := 9) (by decide +kernel) ht (by decide) ?_
  refine z_rcs hc hH 1 (pc' := 8) (lv' := [(0, .ref 14), (1, .int 0), (2, .int 0)]) (st' := [.int (μ.1 9 4), .int 0]) (μ' := μ) (by rfl) ?_
  refine zq_ic hc hH (by rfl) (tg := 27) (by rfl) (fun h1 => ?_) (fun h1 => ?_)
  · have h1 : (decide ((μ.1 9 4) ≤ (0 : Int32))) = true := decide_eq_true (cm_ge.mp h1)
    refine z_rcs hc hH 2 (pc' := 31) (lv' := [(0, .ref 14), (1, .int 0), (2, .int 0)]) (st' := [.int (μ.1 14 7)]) (μ' := μ) (by rfl) ?_
    have hJ2 : Z 0 44 [(0, .ref 14), (1, .int 0), (2, .int 0)] [.int (nB (!(decide ((μ.1 14 7) = 0))))] μ := by
      exact hr 0 44 _ _ _ (some (.int (nB (!(decide ((μ.1 14 7) = 0)))))) (by decide +kernel) ((fun b : Bool => (by cases b <;> rfl : z_rn mi_X1_isHidden 44 [.int (nB b)] = some (some (.int (nB b))))) (!(decide ((μ.1 14 7) = 0)))) (⟨rfl, (by simp only [h1, lb_f, Int64.or_zero, Int32.add_zero, nB_t, nB_f, Bool.not_true, Bool.not_false, Bool.and_true, Bool.true_and, Bool.false_and, Bool.and_false, Bool.or_true, Bool.true_or, Bool.false_or, Bool.or_false, cond_true, cond_false])⟩)
    refine zq_if hc hH (by rfl) (tg := 39) (by rfl) (fun h3 => ?_) (fun h3 => ?_)
    · have h3 : (decide ((μ.1 14 7) = 0)) = false := decide_eq_false (cm_ne.mp h3)
      refine z_rcs hc hH 2 (pc' := 44) (lv' := [(0, .ref 14), (1, .int 0), (2, .int 0)]) (st' := [.int 1]) (μ' := μ) (by rfl) ?_
      exact zJ hJ2 rfl (by first | with_reducible rfl | (simp only [h3, lb_f, Int64.or_zero, Int32.add_zero, nB_t, nB_f, Bool.not_true, Bool.not_false, Bool.and_true, Bool.true_and, Bool.false_and, Bool.and_false, Bool.or_true, Bool.true_or, Bool.false_or, Bool.or_false, cond_true, cond_false]; done) | rfl) rfl
    · have h3 : (decide ((μ.1 14 7) = 0)) = true := decide_eq_true (cn_ne.mp h3)
      refine z_rcs hc hH 4 (pc' := 44) (lv' := [(0, .ref 14), (1, .int 0), (2, .int 0)]) (st' := [.int 0]) (μ' := μ) (by rfl) ?_
      exact zJ hJ2 rfl (by first | with_reducible rfl | (simp only [h3, lb_f, Int64.or_zero, Int32.add_zero, nB_t, nB_f, Bool.not_true, Bool.not_false, Bool.and_true, Bool.true_and, Bool.false_and, Bool.and_false, Bool.or_true, Bool.true_or, Bool.false_or, Bool.or_false, cond_true, cond_false]; done) | rfl) rfl
  · have h1 : (decide ((μ.1 9 4) ≤ (0 : Int32))) = false := decide_eq_false (cn_ge.mp h1)
    refine z_rcs hc hH 3 (pc' := 16) (lv' := [(0, .ref 14), (1, .int 0), (2, .int 0)]) (st' := [.int 0, .ref 15]) (μ' := μ) (by rfl) ?_
    refine zq_iald hc hH (by rfl) 4 (by decide +kernel) (show vp_in (nI 0) 4 from vp_in_nI (by decide) (by decide)) ?_
    show Z 0 17 [(0, .ref 14), (1, .int 0), (2, .int 0)] [.int (μ.1 15 0)] μ
    refine z_rcs hc hH 1 (pc' := 18) (lv' := [(0, .ref 14), (1, .int 0), (2, .int 0)]) (st' := [.int 3, .int (μ.1 15 0)]) (μ' := μ) (by rfl) ?_
    have hJ4 : Z 0 26 [(0, .ref 14), (1, .int 0), (2, .int 0)] [.int (nB (decide ((μ.1 15 0) = 3)))] μ := by
      exact hr 0 26 _ _ _ (some (.int (nB (decide ((μ.1 15 0) = 3))))) (by decide +kernel) ((fun b : Bool => (by cases b <;> rfl : z_rn mi_X1_isHidden 26 [.int (nB b)] = some (some (.int (nB b))))) (decide ((μ.1 15 0) = 3))) (⟨rfl, (by simp only [h1, lb_f, Int64.or_zero, Int32.add_zero, nB_t, nB_f, Bool.not_true, Bool.not_false, Bool.and_true, Bool.true_and, Bool.false_and, Bool.and_false, Bool.or_true, Bool.true_or, Bool.false_or, Bool.or_false, cond_true, cond_false])⟩)
    refine zq_ic hc hH (by rfl) (tg := 25) (by rfl) (fun h5 => ?_) (fun h5 => ?_)
    · have h5 : (decide ((μ.1 15 0) = 3)) = false := decide_eq_false (cm_ne.mp h5)
      refine z_rcs hc hH 1 (pc' := 26) (lv' := [(0, .ref 14), (1, .int 0), (2, .int 0)]) (st' := [.int 0]) (μ' := μ) (by rfl) ?_
      exact zJ hJ4 rfl (by first | with_reducible rfl | (simp only [h5, lb_f, Int64.or_zero, Int32.add_zero, nB_t, nB_f, Bool.not_true, Bool.not_false, Bool.and_true, Bool.true_and, Bool.false_and, Bool.and_false, Bool.or_true, Bool.true_or, Bool.false_or, Bool.or_false, cond_true, cond_false]; done) | rfl) rfl
    · have h5 : (decide ((μ.1 15 0) = 3)) = true := decide_eq_true (cn_ne.mp h5)
      refine z_rcs hc hH 2 (pc' := 26) (lv' := [(0, .ref 14), (1, .int 0), (2, .int 0)]) (st' := [.int 1]) (μ' := μ) (by rfl) ?_
      exact zJ hJ4 rfl (by first | with_reducible rfl | (simp only [h5, lb_f, Int64.or_zero, Int32.add_zero, nB_t, nB_f, Bool.not_true, Bool.not_false, Bool.and_true, Bool.true_and, Bool.false_and, Bool.and_false, Bool.or_true, Bool.true_or, Bool.false_or, Bool.or_false, cond_true, cond_false]; done) | rfl) rfl
theorem fb_X1_isHidden_0_1 (d : Nat) (hd : 1 ≤ d) (μ : zM) (ht : μ.2.2 14 = 9) : z_C d mi_X1_isHidden [.ref 14, .int 0, .int 1] μ (zR μ (.int (nB ((decide ((μ.1 9 4) ≤ (0 : Int32))) || (decide ((μ.1 15 0) = 3)))))) := by
  refine z_C_in (by decide) (by omega) (fun d' Z ed hc hr => ?_)
  have hH : zH mi_X1_isHidden zt_X1_isHidden 79 1 3 := hh_X1_isHidden
  refine z_rcs hc hH 2 (pc' := 2) (lv' := [(0, .ref 14), (1, .int 0), (2, .int 1)]) (st' := [.ref 14, .int 0]) (μ' := μ) (by rfl) ?_
  refine zq_tget hc hH (by rfl) (ci := 0) (f := 5) (t := 9) (by decide +kernel) ht (by decide) ?_
  refine z_rcs hc hH 1 (pc' := 8) (lv' := [(0, .ref 14), (1, .int 0), (2, .int 1)]) (st' := [.int (μ.1 9 4), .int 0]) (μ' := μ) (by rfl) ?_
  refine zq_ic hc hH (by rfl) (tg := 27) (by rfl) (fun h1 => ?_) (fun h1 => ?_)
  · have h1 : (decide ((μ.1 9 4) ≤ (0 : Int32))) = true := decide_eq_true (cm_ge.mp h1)
    refine z_rcs hc hH 2 (pc' := 31) (lv' := [(0, .ref 14), (1, .int 0), (2, .int 1)]) (st' := [.int (μ.1 14 7)]) (μ' := μ) (by rfl) ?_
    have hJ2 : Z 0 44 [(0, .ref 14), (1, .int 0), (2, .int 1)] [.int 1] μ := by
      exact hr 0 44 _ _ _ (some (.int 1)) (by decide +kernel) (z_rx_ok hH (by rfl)) (⟨rfl, (by simp only [h1, lb_f, Int64.or_zero, Int32.add_zero, nB_t, nB_f, Bool.not_true, Bool.not_false, Bool.and_true, Bool.true_and, Bool.false_and, Bool.and_false, Bool.or_true, Bool.true_or, Bool.false_or, Bool.or_false, cond_true, cond_false])⟩)
    refine zq_if hc hH (by rfl) (tg := 39) (by rfl) (fun h3 => ?_) (fun h3 => ?_)
    · have h3 : (decide ((μ.1 14 7) = 0)) = false := decide_eq_false (cm_ne.mp h3)
      refine z_rcs hc hH 2 (pc' := 44) (lv' := [(0, .ref 14), (1, .int 0), (2, .int 1)]) (st' := [.int 1]) (μ' := μ) (by rfl) ?_
      exact zJ hJ2 rfl rfl rfl
    · have h3 : (decide ((μ.1 14 7) = 0)) = true := decide_eq_true (cn_ne.mp h3)
      refine z_rcs hc hH 5 (pc' := 44) (lv' := [(0, .ref 14), (1, .int 0), (2, .int 1)]) (st' := [.int 1]) (μ' := μ) (by rfl) ?_
      exact zJ hJ2 rfl rfl rfl
  · have h1 : (decide ((μ.1 9 4) ≤ (0 : Int32))) = false := decide_eq_false (cn_ge.mp h1)
    refine z_rcs hc hH 3 (pc' := 16) (lv' := [(0, .ref 14), (1, .int 0), (2, .int 1)]) (st' := [.int 0, .ref 15]) (μ' := μ) (by rfl) ?_
    refine zq_iald hc hH (by rfl) 4 (by decide +kernel) (show vp_in (nI 0) 4 from vp_in_nI (by decide) (by decide)) ?_
    show Z 0 17 [(0, .ref 14), (1, .int 0), (2, .int 1)] [.int (μ.1 15 0)] μ
    refine z_rcs hc hH 1 (pc' := 18) (lv' := [(0, .ref 14), (1, .int 0), (2, .int 1)]) (st' := [.int 3, .int (μ.1 15 0)]) (μ' := μ) (by rfl) ?_
    have hJ4 : Z 0 26 [(0, .ref 14), (1, .int 0), (2, .int 1)] [.int (nB (decide ((μ.1 15 0) = 3)))] μ := by
      exact hr 0 26 _ _ _ (some (.int (nB (decide ((μ.1 15 0) = 3))))) (by decide +kernel) ((fun b : Bool => (by cases b <;> rfl : z_rn mi_X1_isHidden 26 [.int (nB b)] = some (some (.int (nB b))))) (decide ((μ.1 15 0) = 3))) (⟨rfl, (by simp only [h1, lb_f, Int64.or_zero, Int32.add_zero, nB_t, nB_f, Bool.not_true, Bool.not_false, Bool.and_true, Bool.true_and, Bool.false_and, Bool.and_false, Bool.or_true, Bool.true_or, Bool.false_or, Bool.or_false, cond_true, cond_false])⟩)
    refine zq_ic hc hH (by rfl) (tg := 25) (by rfl) (fun h5 => ?_) (fun h5 => ?_)
    · have h5 : (decide ((μ.1 15 0) = 3)) = false := decide_eq_false (cm_ne.mp h5)
      refine z_rcs hc hH 1 (pc' := 26) (lv' := [(0, .ref 14), (1, .int 0), (2, .int 1)]) (st' := [.int 0]) (μ' := μ) (by rfl) ?_
      exact zJ hJ4 rfl (by first | with_reducible rfl | (simp only [h5, lb_f, Int64.or_zero, Int32.add_zero, nB_t, nB_f, Bool.not_true, Bool.not_false, Bool.and_true, Bool.true_and, Bool.false_and, Bool.and_false, Bool.or_true, Bool.true_or, Bool.false_or, Bool.or_false, cond_true, cond_false]; done) | rfl) rfl
    · have h5 : (decide ((μ.1 15 0) = 3)) = true := decide_eq_true (cn_ne.mp h5)
      refine z_rcs hc hH 2 (pc' := 26) (lv' := [(0, .ref 14), (1, .int 0), (2, .int 1)]) (st' := [.int 1]) (μ' := μ) (by rfl) ?_
      exact zJ hJ4 rfl (by first | with_reducible rfl | (simp only [h5, lb_f, Int64.or_zero, Int32.add_zero, nB_t, nB_f, Bool.not_true, Bool.not_false, Bool.and_true, Bool.true_and, Bool.false_and, Bool.and_false, Bool.or_true, Bool.true_or, Bool.false_or, Bool.or_false, cond_true, cond_false]; done) | rfl) rfl
theorem fb_X1_isHidden_0_2 (d : Nat) (hd : 1 ≤ d) (μ : zM) (ht : μ.2.2 14 = 9) : z_C d mi_X1_isHidden [.ref 14, .int 0, .int 2] μ (zR μ (.int (nB ((decide ((μ.1 9 4) ≤ (0 : Int32))) || (decide ((μ.1 15 0) = 3)))))) := by
  refine z_C_in (by decide) (by omega) (fun d' Z ed hc hr => ?_)
  have hH : zH mi_X1_isHidden zt_X1_isHidden 79 1 3 := hh_X1_isHidden
  refine z_rcs hc hH 2 (pc' := 2) (lv' := [(0, .ref 14), (1, .int 0), (2, .int 2)]) (st' := [.ref 14, .int 0]) (μ' := μ) (by rfl) ?_
  refine zq_tget hc hH (by rfl) (ci := 0) (f := 5) (t := 9) (by decide +kernel) ht (by decide) ?_
  refine z_rcs hc hH 1 (pc' := 8) (lv' := [(0, .ref 14), (1, .int 0), (2, .int 2)]) (st' := [.int (μ.1 9 4), .int 0]) (μ' := μ) (by rfl) ?_
  refine zq_ic hc hH (by rfl) (tg := 27) (by rfl) (fun h1 => ?_) (fun h1 => ?_)
  · have h1 : (decide ((μ.1 9 4) ≤ (0 : Int32))) = true := decide_eq_true (cm_ge.mp h1)
    refine z_rcs hc hH 2 (pc' := 31) (lv' := [(0, .ref 14), (1, .int 0), (2, .int 2)]) (st' := [.int (μ.1 14 7)]) (μ' := μ) (by rfl) ?_
    have hJ2 : Z 0 44 [(0, .ref 14), (1, .int 0), (2, .int 2)] [.int 1] μ := by
      exact hr 0 44 _ _ _ (some (.int 1)) (by decide +kernel) (z_rx_ok hH (by rfl)) (⟨rfl, (by simp only [h1, lb_f, Int64.or_zero, Int32.add_zero, nB_t, nB_f, Bool.not_true, Bool.not_false, Bool.and_true, Bool.true_and, Bool.false_and, Bool.and_false, Bool.or_true, Bool.true_or, Bool.false_or, Bool.or_false, cond_true, cond_false])⟩)
    refine zq_if hc hH (by rfl) (tg := 39) (by rfl) (fun h3 => ?_) (fun h3 => ?_)
    · have h3 : (decide ((μ.1 14 7) = 0)) = false := decide_eq_false (cm_ne.mp h3)
      refine z_rcs hc hH 2 (pc' := 44) (lv' := [(0, .ref 14), (1, .int 0), (2, .int 2)]) (st' := [.int 1]) (μ' := μ) (by rfl) ?_
      exact zJ hJ2 rfl rfl rfl
    · have h3 : (decide ((μ.1 14 7) = 0)) = true := decide_eq_true (cn_ne.mp h3)
      refine z_rcs hc hH 5 (pc' := 44) (lv' := [(0, .ref 14), (1, .int 0), (2, .int 2)]) (st' := [.int 1]) (μ' := μ) (by rfl) ?_
      exact zJ hJ2 rfl rfl rfl
  · have h1 : (decide ((μ.1 9 4) ≤ (0 : Int32))) = false := decide_eq_false (cn_ge.mp h1)
    refine z_rcs hc hH 3 (pc' := 16) (lv' := [(0, .ref 14), (1, .int 0), (2, .int 2)]) (st' := [.int 0, .ref 15]) (μ' := μ) (by rfl) ?_
    refine zq_iald hc hH (by rfl) 4 (by decide +kernel) (show vp_in (nI 0) 4 from vp_in_nI (by decide) (by decide)) ?_
    show Z 0 17 [(0, .ref 14), (1, .int 0), (2, .int 2)] [.int (μ.1 15 0)] μ
    refine z_rcs hc hH 1 (pc' := 18) (lv' := [(0, .ref 14), (1, .int 0), (2, .int 2)]) (st' := [.int 3, .int (μ.1 15 0)]) (μ' := μ) (by rfl) ?_
    have hJ4 : Z 0 26 [(0, .ref 14), (1, .int 0), (2, .int 2)] [.int (nB (decide ((μ.1 15 0) = 3)))] μ := by
      exact hr 0 26 _ _ _ (some (.int (nB (decide ((μ.1 15 0) = 3))))) (by decide +kernel) ((fun b : Bool => (by cases b <;> rfl : z_rn mi_X1_isHidden 26 [.int (nB b)] = some (some (.int (nB b))))) (decide ((μ.1 15 0) = 3))) (⟨rfl, (by simp only [h1, lb_f, Int64.or_zero, Int32.add_zero, nB_t, nB_f, Bool.not_true, Bool.not_false, Bool.and_true, Bool.true_and, Bool.false_and, Bool.and_false, Bool.or_true, Bool.true_or, Bool.false_or, Bool.or_false, cond_true, cond_false])⟩)
    refine zq_ic hc hH (by rfl) (tg := 25) (by rfl) (fun h5 => ?_) (fun h5 => ?_)
    · have h5 : (decide ((μ.1 15 0) = 3)) = false := decide_eq_false (cm_ne.mp h5)
      refine z_rcs hc hH 1 (pc' := 26) (lv' := [(0, .ref 14), (1, .int 0), (2, .int 2)]) (st' := [.int 0]) (μ' := μ) (by rfl) ?_
      exact zJ hJ4 rfl (by first | with_reducible rfl | (simp only [h5, lb_f, Int64.or_zero, Int32.add_zero, nB_t, nB_f, Bool.not_true, Bool.not_false, Bool.and_true, Bool.true_and, Bool.false_and, Bool.and_false, Bool.or_true, Bool.true_or, Bool.false_or, Bool.or_false, cond_true, cond_false]; done) | rfl) rfl
    · have h5 : (decide ((μ.1 15 0) = 3)) = true := decide_eq_true (cn_ne.mp h5)
      refine z_rcs hc hH 2 (pc' := 26) (lv' := [(0, .ref 14), (1, .int 0), (2, .int 2)]) (st' := [.int 1]) (μ' := μ) (by rfl) ?_
      exact zJ hJ4 rfl (by first | with_reducible rfl | (simp only [h5, lb_f, Int64.or_zero, Int32.add_zero, nB_t, nB_f, Bool.not_true, Bool.not_false, Bool.and_true, Bool.true_and, Bool.false_and, Bool.and_false, Bool.or_true, Bool.true_or, Bool.false_or, Bool.or_false, cond_true, cond_false]; done) | rfl) rfl
theorem fb_X1_isHidden_0_3 (d : Nat) (hd : 1 ≤ d) (μ : zM) (ht : μ.2.2 14 = 9) : z_C d mi_X1_isHidden [.ref 14, .int 0, .int 3] μ (zR μ (.int (nB ((decide ((μ.1 9 4) ≤ (0 : Int32))) || (decide ((μ.1 15 0) = 3)))))) := by
  refine z_C_in (by decide) (by omega) (fun d' Z ed hc hr => ?_)
  have hH : zH mi_X1_isHidden zt_X1_isHidden 79 1 3 := hh_X1_isHidden
  refine z_rcs hc hH 2 (pc' := 2) (lv' := [(0, .ref 14), (1, .int 0), (2, .int 3)]) (st' := [.ref 14, .int 0]) (μ' := μ) (by rfl) ?_
  refine zq_tget hc hH (by rfl) (ci := 0) (f := 5) (t := 9) (by decide +kernel) ht (by decide) ?_
  refine z_rcs hc hH 1 (pc' := 8) (lv' := [(0, .ref 14), (1, .int 0), (2, .int 3)]) (st' := [.int (μ.1 9 4), .int 0]) (μ' := μ) (by rfl) ?_
  refine zq_ic hc hH (by rfl) (tg := 27) (by rfl) (fun h1 => ?_) (fun h1 => ?_)
  · have h1 : (decide ((μ.1 9 4) ≤ (0 : Int32))) = true := decide_eq_true (cm_ge.mp h1)
    refine z_rcs hc hH 2 (pc' := 31) (lv' := [(0, .ref 14), (1, .int 0), (2, .int 3)]) (st' := [.int (μ.1 14 7)]) (μ' := μ) (by rfl) ?_
    have hJ2 : Z 0 44 [(0, .ref 14), (1, .int 0), (2, .int 3)] [.int 1] μ := by
      exact hr 0 44 _ _ _ (some (.int 1)) (by decide +kernel) (z_rx_ok hH (by rfl)) (⟨rfl, (by simp only [h1, lb_f, Int64.or_zero, Int32.add_zero, nB_t, nB_f, Bool.not_true, Bool.not_false, Bool.and_true, Bool.true_and, Bool.false_and, Bool.and_false, Bool.or_true, Bool.true_or, Bool.false_or, Bool.or_false, cond_true, cond_false])⟩)
    refine zq_if hc hH (by rfl) (tg := 39) (by rfl) (fun h3 => ?_) (fun h3 => ?_)
    · have h3 : (decide ((μ.1 14 7) = 0)) = false := decide_eq_false (cm_ne.mp h3)
      refine z_rcs hc hH 2 (pc' := 44) (lv' := [(0, .ref 14), (1, .int 0), (2, .int 3)]) (st' := [.int 1]) (μ' := μ) (by rfl) ?_
      exact zJ hJ2 rfl rfl rfl
    · have h3 : (decide ((μ.1 14 7) = 0)) = true := decide_eq_true (cn_ne.mp h3)
      refine z_rcs hc hH 5 (pc' := 44) (lv' := [(0, .ref 14), (1, .int 0), (2, .int 3)]) (st' := [.int 1]) (μ' := μ) (by rfl) ?_
      exact zJ hJ2 rfl rfl rfl
  · have h1 : (decide ((μ.1 9 4) ≤ (0 : Int32))) = false := decide_eq_false (cn_ge.mp h1)
    refine z_rcs hc hH 3 (pc' := 16) (lv' := [(0, .ref 14), (1, .int 0), (2, .int 3)]) (st' := [.int 0, .ref 15]) (μ' := μ) (by rfl) ?_
    refine zq_iald hc hH (by rfl) 4 (by decide +kernel) (show vp_in (nI 0) 4 from vp_in_nI (by decide) (by decide)) ?_
    show Z 0 17 [(0, .ref 14), (1, .int 0), (2, .int 3)] [.int (μ.1 15 0)] μ
    refine z_rcs hc hH 1 (pc' := 18) (lv' := [(0, .ref 14), (1, .int 0), (2, .int 3)]) (st' := [.int 3, .int (μ.1 15 0)]) (μ' := μ) (by rfl) ?_
    have hJ4 : Z 0 26 [(0, .ref 14), (1, .int 0), (2, .int 3)] [.int (nB (decide ((μ.1 15 0) = 3)))] μ := by
      exact hr 0 26 _ _ _ (some (.int (nB (decide ((μ.1 15 0) = 3))))) (by decide +kernel) ((fun b : Bool => (by cases b <;> rfl : z_rn mi_X1_isHidden 26 [.int (nB b)] = some (some (.int (nB b))))) (decide ((μ.1 15 0) = 3))) (⟨rfl, (by simp only [h1, lb_f, Int64.or_zero, Int32.add_zero, nB_t, nB_f, Bool.not_true, Bool.not_false, Bool.and_true, Bool.true_and, Bool.false_and, Bool.and_false, Bool.or_true, Bool.true_or, Bool.false_or, Bool.or_false, cond_true, cond_false])⟩)
    refine zq_ic hc hH (by rfl) (tg := 25) (by rfl) (fun h5 => ?_) (fun h5 => ?_)
    · have h5 : (decide ((μ.1 15 0) = 3)) = false := decide_eq_false (cm_ne.mp h5)
      refine z_rcs hc hH 1 (pc' := 26) (lv' := [(0, .ref 14), (1, .int 0), (2, .int 3)]) (st' := [.int 0]) (μ' := μ) (by rfl) ?_
      exact zJ hJ4 rfl (by first | with_reducible rfl | (simp only [h5, lb_f, Int64.or_zero, Int32.add_zero, nB_t, nB_f, Bool.not_true, Bool.not_false, Bool.and_true, Bool.true_and, Bool.false_and, Bool.and_false, Bool.or_true, Bool.true_or, Bool.false_or, Bool.or_false, cond_true, cond_false]; done) | rfl) rfl
    · have h5 : (decide ((μ.1 15 0) = 3)) = true := decide_eq_true (cn_ne.mp h5)
      refine z_rcs hc hH 2 (pc' := 26) (lv' := [(0, .ref 14), (1, .int 0), (2, .int 3)]) (st' := [.int 1]) (μ' := μ) (by rfl) ?_
      exact zJ hJ4 rfl (by first | with_reducible rfl | (simp only [h5, lb_f, Int64.or_zero, Int32.add_zero, nB_t, nB_f, Bool.not_true, Bool.not_false, Bool.and_true, Bool.true_and, Bool.false_and, Bool.and_false, Bool.or_true, Bool.true_or, Bool.false_or, Bool.or_false, cond_true, cond_false]; done) | rfl) rfl
theorem fb_X1_isHidden_0_4 (d : Nat) (hd : 1 ≤ d) (μ : zM) (ht : μ.2.2 14 = 9) : z_C d mi_X1_isHidden [.ref 14, .int 0, .int 4] μ (zR μ (.int (nB ((decide ((μ.1 9 4) ≤ (0 : Int32))) || (decide ((μ.1 15 0) = 3)))))) := by
  refine z_C_in (by decide) (by omega) (fun d' Z ed hc hr => ?_)
  have hH : zH mi_X1_isHidden zt_X1_isHidden 79 1 3 := hh_X1_isHidden
  refine z_rcs hc hH 2 (pc' := 2) (lv' := [(0, .ref 14), (1, .int 0), (2, .int 4)]) (st' := [.ref 14, .int 0]) (μ' := μ) (by rfl) ?_
  refine zq_tget hc hH (by rfl) (ci := 0) (f := 5) (t := 9) (by decide +kernel) ht (by decide) ?_
  refine z_rcs hc hH 1 (pc' := 8) (lv' := [(0, .ref 14), (1, .int 0), (2, .int 4)]) (st' := [.int (μ.1 9 4), .int 0]) (μ' := μ) (by rfl) ?_
  refine zq_ic hc hH (by rfl) (tg := 27) (by rfl) (fun h1 => ?_) (fun h1 => ?_)
  · have h1 : (decide ((μ.1 9 4) ≤ (0 : Int32))) = true := decide_eq_true (cm_ge.mp h1)
    refine z_rcs hc hH 2 (pc' := 31) (lv' := [(0, .ref 14), (1, .int 0), (2, .int 4)]) (st' := [.int (μ.1 14 7)]) (μ' := μ) (by rfl) ?_
    have hJ2 : Z 0 44 [(0, .ref 14), (1, .int 0), (2, .int 4)] [.int 1] μ := by
      exact hr 0 44 _ _ _ (some (.int 1)) (by decide +kernel) (z_rx_ok hH (by rfl)) (⟨rfl, (by simp only [h1, lb_f, Int64.or_zero, Int32.add_zero, nB_t, nB_f, Bool.not_true, Bool.not_false, Bool.and_true, Bool.true_and, Bool.false_and, Bool.and_false, Bool.or_true, Bool.true_or, Bool.false_or, Bool.or_false, cond_true, cond_false])⟩)
    refine zq_if hc hH (by rfl) (tg := 39) (by rfl) (fun h3 => ?_) (fun h3 => ?_)
    · have h3 : (decide ((μ.1 14 7) = 0)) = false := decide_eq_false (cm_ne.mp h3)
      refine z_rcs hc hH 2 (pc' := 44) (lv' := [(0, .ref 14), (1, .int 0), (2, .int 4)]) (st' := [.int 1]) (μ' := μ) (by rfl) ?_
      exact zJ hJ2 rfl rfl rfl
    · have h3 : (decide ((μ.1 14 7) = 0)) = true := decide_eq_true (cn_ne.mp h3)
      refine z_rcs hc hH 5 (pc' := 44) (lv' := [(0, .ref 14), (1, .int 0), (2, .int 4)]) (st' := [.int 1]) (μ' := μ) (by rfl) ?_
      exact zJ hJ2 rfl rfl rfl
  · have h1 : (decide ((μ.1 9 4) ≤ (0 : Int32))) = false := decide_eq_false (cn_ge.mp h1)
    refine z_rcs hc hH 3 (pc' := 16) (lv' := [(0, .ref 14), (1, .int 0), (2, .int 4)]) (st' := [.int 0, .ref 15]) (μ' := μ) (by rfl) ?_
    refine zq_iald hc hH (by rfl) 4 (by decide +kernel) (show vp_in (nI 0) 4 from vp_in_nI (by decide) (by decide)) ?_
    show Z 0 17 [(0, .ref 14), (1, .int 0), (2, .int 4)] [.int (μ.1 15 0)] μ
    refine z_rcs hc hH 1 (pc' := 18) (lv' := [(0, .ref 14), (1, .int 0), (2, .int 4)]) (st' := [.int 3, .int (μ.1 15 0)]) (μ' := μ) (by rfl) ?_
    have hJ4 : Z 0 26 [(0, .ref 14), (1, .int 0), (2, .int 4)] [.int (nB (decide ((μ.1 15 0) = 3)))] μ := by
      exact hr 0 26 _ _ _ (some (.int (nB (decide ((μ.1 15 0) = 3))))) (by decide +kernel) ((fun b : Bool => (by cases b <;> rfl : z_rn mi_X1_isHidden 26 [.int (nB b)] = some (some (.int (nB b))))) (decide ((μ.1 15 0) = 3))) (⟨rfl, (by simp only [h1, lb_f, Int64.or_zero, Int32.add_zero, nB_t, nB_f, Bool.not_true, Bool.not_false, Bool.and_true, Bool.true_and, Bool.false_and, Bool.and_false, Bool.or_true, Bool.true_or, Bool.false_or, Bool.or_false, cond_true, cond_false])⟩)
    refine zq_ic hc hH (by rfl) (tg := 25) (by rfl) (fun h5 => ?_) (fun h5 => ?_)
    · have h5 : (decide ((μ.1 15 0) = 3)) = false := decide_eq_false (cm_ne.mp h5)
      refine z_rcs hc hH 1 (pc' := 26) (lv' := [(0, .ref 14), (1, .int 0), (2, .int 4)]) (st' := [.int 0]) (μ' := μ) (by rfl) ?_
      exact zJ hJ4 rfl (by first | with_reducible rfl | (simp only [h5, lb_f, Int64.or_zero, Int32.add_zero, nB_t, nB_f, Bool.not_true, Bool.not_false, Bool.and_true, Bool.true_and, Bool.false_and, Bool.and_false, Bool.or_true, Bool.true_or, Bool.false_or, Bool.or_false, cond_true, cond_false]; done) | rfl) rfl
    · have h5 : (decide ((μ.1 15 0) = 3)) = true := decide_eq_true (cn_ne.mp h5)
      refine z_rcs hc hH 2 (pc' := 26) (lv' := [(0, .ref 14), (1, .int 0), (2, .int 4)]) (st' := [.int 1]) (μ' := μ) (by rfl) ?_
      exact zJ hJ4 rfl (by first | with_reducible rfl | (simp only [h5, lb_f, Int64.or_zero, Int32.add_zero, nB_t, nB_f, Bool.not_true, Bool.not_false, Bool.and_true, Bool.true_and, Bool.false_and, Bool.and_false, Bool.or_true, Bool.true_or, Bool.false_or, Bool.or_false, cond_true, cond_false]; done) | rfl) rfl
theorem fb_X1_isHidden_1_0 (d : Nat) (hd : 1 ≤ d) (μ : zM) (ht : μ.2.2 14 = 9) : z_C d mi_X1_isHidden [.ref 14, .int 1, .int 0] μ (zR μ (.int (nB ((decide ((μ.1 9 4) ≤ (1 : Int32))) || (decide ((μ.1 15 1) = 3)))))) := by
  refine z_C_in (by decide) (by omega) (fun d' Z ed hc hr => ?_)
  have hH : zH mi_X1_isHidden zt_X1_isHidden 79 1 3 := hh_X1_isHidden
  refine z_rcs hc hH 2 (pc' := 2) (lv' := [(0, .ref 14), (1, .int 1), (2, .int 0)]) (st' := [.ref 14, .int 1]) (μ' := μ) (by rfl) ?_
  refine zq_tget hc hH (by rfl) (ci := 0) (f := 5) (t := 9) (by decide +kernel) ht (by decide) ?_
  refine z_rcs hc hH 1 (pc' := 8) (lv' := [(0, .ref 14), (1, .int 1), (2, .int 0)]) (st' := [.int (μ.1 9 4), .int 1]) (μ' := μ) (by rfl) ?_
  refine zq_ic hc hH (by rfl) (tg := 27) (by rfl) (fun h1 => ?_) (fun h1 => ?_)
  · have h1 : (decide ((μ.1 9 4) ≤ (1 : Int32))) = true := decide_eq_true (cm_ge.mp h1)
    refine z_rcs hc hH 2 (pc' := 31) (lv' := [(0, .ref 14), (1, .int 1), (2, .int 0)]) (st' := [.int (μ.1 14 7)]) (μ' := μ) (by rfl) ?_
    have hJ2 : Z 0 44 [(0, .ref 14), (1, .int 1), (2, .int 0)] [.int 1] μ := by
      exact hr 0 44 _ _ _ (some (.int 1)) (by decide +kernel) (z_rx_ok hH (by rfl)) (⟨rfl, (by simp only [h1, lb_f, Int64.or_zero, Int32.add_zero, nB_t, nB_f, Bool.not_true, Bool.not_false, Bool.and_true, Bool.true_and, Bool.false_and, Bool.and_false, Bool.or_true, Bool.true_or, Bool.false_or, Bool.or_false, cond_true, cond_false])⟩)
    refine zq_if hc hH (by rfl) (tg := 39) (by rfl) (fun h3 => ?_) (fun h3 => ?_)
    · have h3 : (decide ((μ.1 14 7) = 0)) = false := decide_eq_false (cm_ne.mp h3)
      refine z_rcs hc hH 2 (pc' := 44) (lv' := [(0, .ref 14), (1, .int 1), (2, .int 0)]) (st' := [.int 1]) (μ' := μ) (by rfl) ?_
      exact zJ hJ2 rfl rfl rfl
    · have h3 : (decide ((μ.1 14 7) = 0)) = true := decide_eq_true (cn_ne.mp h3)
      refine z_rcs hc hH 5 (pc' := 44) (lv' := [(0, .ref 14), (1, .int 1), (2, .int 0)]) (st' := [.int 1]) (μ' := μ) (by rfl) ?_
      exact zJ hJ2 rfl rfl rfl
  · have h1 : (decide ((μ.1 9 4) ≤ (1 : Int32))) = false := decide_eq_false (cn_ge.mp h1)
    refine z_rcs hc hH 3 (pc' := 16) (lv' := [(0, .ref 14), (1, .int 1), (2, .int 0)]) (st' := [.int 1, .ref 15]) (μ' := μ) (by rfl) ?_
    refine zq_iald hc hH (by rfl) 4 (by decide +kernel) (show vp_in (nI 1) 4 from vp_in_nI (by decide) (by decide)) ?_
    show Z 0 17 [(0, .ref 14), (1, .int 1), (2, .int 0)] [.int (μ.1 15 1)] μ
    refine z_rcs hc hH 1 (pc' := 18) (lv' := [(0, .ref 14), (1, .int 1), (2, .int 0)]) (st' := [.int 3, .int (μ.1 15 1)]) (μ' := μ) (by rfl) ?_
    have hJ4 : Z 0 26 [(0, .ref 14), (1, .int 1), (2, .int 0)] [.int (nB (decide ((μ.1 15 1) = 3)))] μ := by
      exact hr 0 26 _ _ _ (some (.int (nB (decide ((μ.1 15 1) = 3))))) (by decide +kernel) ((fun b : Bool => (by cases b <;> rfl : z_rn mi_X1_isHidden 26 [.int (nB b)] = some (some (.int (nB b))))) (decide ((μ.1 15 1) = 3))) (⟨rfl, (by simp only [h1, lb_f, Int64.or_zero, Int32.add_zero, nB_t, nB_f, Bool.not_true, Bool.not_false, Bool.and_true, Bool.true_and, Bool.false_and, Bool.and_false, Bool.or_true, Bool.true_or, Bool.false_or, Bool.or_false, cond_true, cond_false])⟩)
    refine zq_ic hc hH (by rfl) (tg := 25) (by rfl) (fun h5 => ?_) (fun h5 => ?_)
    · have h5 : (decide ((μ.1 15 1) = 3)) = false := decide_eq_false (cm_ne.mp h5)
      refine z_rcs hc hH 1 (pc' := 26) (lv' := [(0, .ref 14), (1, .int 1), (2, .int 0)]) (st' := [.int 0]) (μ' := μ) (by rfl) ?_
      exact zJ hJ4 rfl (by first | with_reducible rfl | (simp only [h5, lb_f, Int64.or_zero, Int32.add_zero, nB_t, nB_f, Bool.not_true, Bool.not_false, Bool.and_true, Bool.true_and, Bool.false_and, Bool.and_false, Bool.or_true, Bool.true_or, Bool.false_or, Bool.or_false, cond_true, cond_false]; done) | rfl) rfl
    · have h5 : (decide ((μ.1 15 1) = 3)) = true := decide_eq_true (cn_ne.mp h5)
      refine z_rcs hc hH 2 (pc' := 26) (lv' := [(0, .ref 14), (1, .int 1), (2, .int 0)]) (st' := [.int 1]) (μ' := μ) (by rfl) ?_
      exact zJ hJ4 rfl (by first | with_reducible rfl | (simp only [h5, lb_f, Int64.or_zero, Int32.add_zero, nB_t, nB_f, Bool.not_true, Bool.not_false, Bool.and_true, Bool.true_and, Bool.false_and, Bool.and_false, Bool.or_true, Bool.true_or, Bool.false_or, Bool.or_false, cond_true, cond_false]; done) | rfl) rfl
theorem fb_X1_isHidden_1_1 (d : Nat) (hd : 1 ≤ d) (μ : zM) (ht : μ.2.2 14 = 9) : z_C d mi_X1_isHidden [.ref 14, .int 1, .int 1] μ (zR μ (.int (nB (bif decide ((μ.1 9 4) ≤ (1 : Int32)) then !(decide ((μ.1 14 7) = 0)) else decide ((μ.1 15 1) = 3))))) := by
  refine z_C_in (by decide) (by omega) (fun d' Z ed hc hr => ?_)
  have hH : zH mi_X1_isHidden zt_X1_isHidden 79 1 3 := hh_X1_isHidden
  refine z_rcs hc hH 2 (pc' := 2) (lv' := [(0, .ref 14), (1, .int 1), (2, .int 1)]) (st' := [.ref 14, .int 1]) (μ' := μ) (by rfl) ?_
  refine zq_tget hc hH (by rfl) (ci := 0) (f := 5) (t := 9) (by decide +kernel) ht (by decide) ?_
  refine z_rcs hc hH 1 (pc' := 8) (lv' := [(0, .ref 14), (1, .int 1), (2, .int 1)]) (st' := [.int (μ.1 9 4), .int 1]) (μ' := μ) (by rfl) ?_
  refine zq_ic hc hH (by rfl) (tg := 27) (by rfl) (fun h1 => ?_) (fun h1 => ?_)
  · have h1 : (decide ((μ.1 9 4) ≤ (1 : Int32))) = true := decide_eq_true (cm_ge.mp h1)
    refine z_rcs hc hH 2 (pc' := 31) (lv' := [(0, .ref 14), (1, .int 1), (2, .int 1)]) (st' := [.int (μ.1 14 7)]) (μ' := μ) (by rfl) ?_
    have hJ2 : Z 0 44 [(0, .ref 14), (1, .int 1), (2, .int 1)] [.int (nB (!(decide ((μ.1 14 7) = 0))))] μ := by
      exact hr 0 44 _ _ _ (some (.int (nB (!(decide ((μ.1 14 7) = 0)))))) (by decide +kernel) ((fun b : Bool => (by cases b <;> rfl : z_rn mi_X1_isHidden 44 [.int (nB b)] = some (some (.int (nB b))))) (!(decide ((μ.1 14 7) = 0)))) (⟨rfl, (by simp only [h1, lb_f, Int64.or_zero, Int32.add_zero, nB_t, nB_f, Bool.not_true, Bool.not_false, Bool.and_true, Bool.true_and, Bool.false_and, Bool.and_false, Bool.or_true, Bool.true_or, Bool.false_or, Bool.or_false, cond_true, cond_false])⟩)
    refine zq_if hc hH (by rfl) (tg := 39) (by rfl) (fun h3 => ?_) (fun h3 => ?_)
    · have h3 : (decide ((μ.1 14 7) = 0)) = false := decide_eq_false (cm_ne.mp h3)
      refine z_rcs hc hH 2 (pc' := 44) (lv' := [(0, .ref 14), (1, .int 1), (2, .int 1)]) (st' := [.int 1]) (μ' := μ) (by rfl) ?_
      exact zJ hJ2 rfl (by first | with_reducible rfl | (simp only [h3, lb_f, Int64.or_zero, Int32.add_zero, nB_t, nB_f, Bool.not_true, Bool.not_false, Bool.and_true, Bool.true_and, Bool.false_and, Bool.and_false, Bool.or_true, Bool.true_or, Bool.false_or, Bool.or_false, cond_true, cond_false]; done) | rfl) rfl
    · have h3 : (decide ((μ.1 14 7) = 0)) = true := decide_eq_true (cn_ne.mp h3)
      refine z_rcs hc hH 4 (pc' := 44) (lv' := [(0, .ref 14), (1, .int 1), (2, .int 1)]) (st' := [.int 0]) (μ' := μ) (by rfl) ?_
      exact zJ hJ2 rfl (by first | with_reducible rfl | (simp only [h3, lb_f, Int64.or_zero, Int32.add_zero, nB_t, nB_f, Bool.not_true, Bool.not_false, Bool.and_true, Bool.true_and, Bool.false_and, Bool.and_false, Bool.or_true, Bool.true_or, Bool.false_or, Bool.or_false, cond_true, cond_false]; done) | rfl) rfl
  · have h1 : (decide ((μ.1 9 4) ≤ (1 : Int32))) = false := decide_eq_false (cn_ge.mp h1)
    refine z_rcs hc hH 3 (pc' := 16) (lv' := [(0, .ref 14), (1, .int 1), (2, .int 1)]) (st' := [.int 1, .ref 15]) (μ' := μ) (by rfl) ?_
    refine zq_iald hc hH (by rfl) 4 (by decide +kernel) (show vp_in (nI 1) 4 from vp_in_nI (by decide) (by decide)) ?_
    show Z 0 17 [(0, .ref 14), (1, .int 1), (2, .int 1)] [.int (μ.1 15 1)] μ
    refine z_rcs hc hH 1 (pc' := 18) (lv' := [(0, .ref 14), (1, .int 1), (2, .int 1)]) (st' := [.int 3, .int (μ.1 15 1)]) (μ' := μ) (by rfl) ?_
    have hJ4 : Z 0 26 [(0, .ref 14), (1, .int 1), (2, .int 1)] [.int (nB (decide ((μ.1 15 1) = 3)))] μ := by
      exact hr 0 26 _ _ _ (some (.int (nB (decide ((μ.1 15 1) = 3))))) (by decide +kernel) ((fun b : Bool => (by cases b <;> rfl : z_rn mi_X1_isHidden 26 [.int (nB b)] = some (some (.int (nB b))))) (decide ((μ.1 15 1) = 3))) (⟨rfl, (by simp only [h1, lb_f, Int64.or_zero, Int32.add_zero, nB_t, nB_f, Bool.not_true, Bool.not_false, Bool.and_true, Bool.true_and, Bool.false_and, Bool.and_false, Bool.or_true, Bool.true_or, Bool.false_or, Bool.or_false, cond_true, cond_false])⟩)
    refine zq_ic hc hH (by rfl) (tg := 25) (by rfl) (fun h5 => ?_) (fun h5 => ?_)
    · have h5 : (decide ((μ.1 15 1) = 3)) = false := decide_eq_false (cm_ne.mp h5)
      refine z_rcs hc hH 1 (pc' := 26) (lv' := [(0, .ref 14), (1, .int 1), (2, .int 1)]) (st' := [.int 0]) (μ' := μ) (by rfl) ?_
      exact zJ hJ4 rfl (by first | with_reducible rfl | (simp only [h5, lb_f, Int64.or_zero, Int32.add_zero, nB_t, nB_f, Bool.not_true, Bool.not_false, Bool.and_true, Bool.true_and, Bool.false_and, Bool.and_false, Bool.or_true, Bool.true_or, Bool.false_or, Bool.or_false, cond_true, cond_false]; done) | rfl) rfl
    · have h5 : (decide ((μ.1 15 1) = 3)) = true := decide_eq_true (cn_ne.mp h5)
      refine z_rcs hc hH 2 (pc' := 26) (lv' := [(0, .ref 14), (1, .int 1), (2, .int 1)]) (st' := [.int 1]) (μ' := μ) (by rfl) ?_
      exact zJ hJ4 rfl (by first | with_reducible rfl | (simp only [h5, lb_f, Int64.or_zero, Int32.add_zero, nB_t, nB_f, Bool.not_true, Bool.not_false, Bool.and_true, Bool.true_and, Bool.false_and, Bool.and_false, Bool.or_true, Bool.true_or, Bool.false_or, Bool.or_false, cond_true, cond_false]; done) | rfl) rfl
theorem fb_X1_isHidden_1_2 (d : Nat) (hd : 1 ≤ d) (μ : zM) (ht : μ.2.2 14 = 9) : z_C d mi_X1_isHidden [.ref 14, .int 1, .int 2] μ (zR μ (.int (nB ((decide ((μ.1 9 4) ≤ (1 : Int32))) || (decide ((μ.1 15 1) = 3)))))) := by
  refine z_C_in (by decide) (by omega) (fun d' Z ed hc hr => ?_)
  have hH : zH mi_X1_isHidden zt_X1_isHidden 79 1 3 := hh_X1_isHidden
  refine z_rcs hc hH 2 (pc' := 2) (lv' := [(0, .ref 14), (1, .int 1), (2, .int 2)]) (st' := [.ref 14, .int 1]) (μ' := μ) (by rfl) ?_
  refine zq_tget hc hH (by rfl) (ci := 0) (f := 5) (t := 9) (by decide +kernel) ht (by decide) ?_
  refine z_rcs hc hH 1 (pc' := 8) (lv' := [(0, .ref 14), (1, .int 1), (2, .int 2)]) (st' := [.int (μ.1 9 4), .int 1]) (μ' := μ) (by rfl) ?_
  refine zq_ic hc hH (by rfl) (tg := 27) (by rfl) (fun h1 => ?_) (fun h1 => ?_)
  · have h1 : (decide ((μ.1 9 4) ≤ (1 : Int32))) = true := decide_eq_true (cm_ge.mp h1)
    refine z_rcs hc hH 2 (pc' := 31) (lv' := [(0, .ref 14), (1, .int 1), (2, .int 2)]) (st' := [.int (μ.1 14 7)]) (μ' := μ) (by rfl) ?_
    have hJ2 : Z 0 44 [(0, .ref 14), (1, .int 1), (2, .int 2)] [.int 1] μ := by
      exact hr 0 44 _ _ _ (some (.int 1)) (by decide +kernel) (z_rx_ok hH (by rfl)) (⟨rfl, (by simp only [h1, lb_f, Int64.or_zero, Int32.add_zero, nB_t, nB_f, Bool.not_true, Bool.not_false, Bool.and_true, Bool.true_and, Bool.false_and, Bool.and_false, Bool.or_true, Bool.true_or, Bool.false_or, Bool.or_false, cond_true, cond_false])⟩)
    refine zq_if hc hH (by rfl) (tg := 39) (by rfl) (fun h3 => ?_) (fun h3 => ?_)
    · have h3 : (decide ((μ.1 14 7) = 0)) = false := decide_eq_false (cm_ne.mp h3)
      refine z_rcs hc hH 2 (pc' := 44) (lv' := [(0, .ref 14), (1, .int 1), (2, .int 2)]) (st' := [.int 1]) (μ' := μ) (by rfl) ?_
      exact zJ hJ2 rfl rfl rfl
    · have h3 : (decide ((μ.1 14 7) = 0)) = true := decide_eq_true (cn_ne.mp h3)
      refine z_rcs hc hH 5 (pc' := 44) (lv' := [(0, .ref 14), (1, .int 1), (2, .int 2)]) (st' := [.int 1]) (μ' := μ) (by rfl) ?_
      exact zJ hJ2 rfl rfl rfl
  · have h1 : (decide ((μ.1 9 4) ≤ (1 : Int32))) = false := decide_eq_false (cn_ge.mp h1)
    refine z_rcs hc hH 3 (pc' := 16) (lv' := [(0, .ref 14), (1, .int 1), (2, .int 2)]) (st' := [.int 1, .ref 15]) (μ' := μ) (by rfl) ?_
    refine zq_iald hc hH (by rfl) 4 (by decide +kernel) (show vp_in (nI 1) 4 from vp_in_nI (by decide) (by decide)) ?_
    show Z 0 17 [(0, .ref 14), (1, .int 1), (2, .int 2)] [.int (μ.1 15 1)] μ
    refine z_rcs hc hH 1 (pc' := 18) (lv' := [(0, .ref 14), (1, .int 1), (2, .int 2)]) (st' := [.int 3, .int (μ.1 15 1)]) (μ' := μ) (by rfl) ?_
    have hJ4 : Z 0 26 [(0, .ref 14), (1, .int 1), (2, .int 2)] [.int (nB (decide ((μ.1 15 1) = 3)))] μ := by
      exact hr 0 26 _ _ _ (some (.int (nB (decide ((μ.1 15 1) = 3))))) (by decide +kernel) ((fun b : Bool => (by cases b <;> rfl : z_rn mi_X1_isHidden 26 [.int (nB b)] = some (some (.int (nB b))))) (decide ((μ.1 15 1) = 3))) (⟨rfl, (by simp only [h1, lb_f, Int64.or_zero, Int32.add_zero, nB_t, nB_f, Bool.not_true, Bool.not_false, Bool.and_true, Bool.true_and, Bool.false_and, Bool.and_false, Bool.or_true, Bool.true_or, Bool.false_or, Bool.or_false, cond_true, cond_false])⟩)
    refine zq_ic hc hH (by rfl) (tg := 25) (by rfl) (fun h5 => ?_) (fun h5 => ?_)
    · have h5 : (decide ((μ.1 15 1) = 3)) = false := decide_eq_false (cm_ne.mp h5)
      refine z_rcs hc hH 1 (pc' := 26) (lv' := [(0, .ref 14), (1, .int 1), (2, .int 2)]) (st' := [.int 0]) (μ' := μ) (by rfl) ?_
      exact zJ hJ4 rfl (by first | with_reducible rfl | (simp only [h5, lb_f, Int64.or_zero, Int32.add_zero, nB_t, nB_f, Bool.not_true, Bool.not_false, Bool.and_true, Bool.true_and, Bool.false_and, Bool.and_false, Bool.or_true, Bool.true_or, Bool.false_or, Bool.or_false, cond_true, cond_false]; done) | rfl) rfl
    · have h5 : (decide ((μ.1 15 1) = 3)) = true := decide_eq_true (cn_ne.mp h5)
      refine z_rcs hc hH 2 (pc' := 26) (lv' := [(0, .ref 14), (1, .int 1), (2, .int 2)]) (st' := [.int 1]) (μ' := μ) (by rfl) ?_
      exact zJ hJ4 rfl (by first | with_reducible rfl | (simp only [h5, lb_f, Int64.or_zero, Int32.add_zero, nB_t, nB_f, Bool.not_true, Bool.not_false, Bool.and_true, Bool.true_and, Bool.false_and, Bool.and_false, Bool.or_true, Bool.true_or, Bool.false_or, Bool.or_false, cond_true, cond_false]; done) | rfl) rfl
theorem fb_X1_isHidden_1_3 (d : Nat) (hd : 1 ≤ d) (μ : zM) (ht : μ.2.2 14 = 9) : z_C d mi_X1_isHidden [.ref 14, .int 1, .int 3] μ (zR μ (.int (nB ((decide ((μ.1 9 4) ≤ (1 : Int32))) || (decide ((μ.1 15 1) = 3)))))) := by
  refine z_C_in (by decide) (by omega) (fun d' Z ed hc hr => ?_)
  have hH : zH mi_X1_isHidden zt_X1_isHidden 79 1 3 := hh_X1_isHidden
  refine z_rcs hc hH 2 (pc' := 2) (lv' := [(0, .ref 14), (1, .int 1), (2, .int 3)]) (st' := [.ref 14, .int 1]) (μ' := μ) (by rfl) ?_
  refine zq_tget hc hH (by rfl) (ci := 0) (f := 5) (t := 9) (by decide +kernel) ht (by decide) ?_
  refine z_rcs hc hH 1 (pc' := 8) (lv' := [(0, .ref 14), (1, .int 1), (2, .int 3)]) (st' := [.int (μ.1 9 4), .int 1]) (μ' := μ) (by rfl) ?_
  refine zq_ic hc hH (by rfl) (tg := 27) (by rfl) (fun h1 => ?_) (fun h1 => ?_)
  · have h1 : (decide ((μ.1 9 4) ≤ (1 : Int32))) = true := decide_eq_true (cm_ge.mp h1)
    refine z_rcs hc hH 2 (pc' := 31) (lv' := [(0, .ref 14), (1, .int 1), (2, .int 3)]) (st' := [.int (μ.1 14 7)]) (μ' := μ) (by rfl) ?_
    have hJ2 : Z 0 44 [(0, .ref 14), (1, .int 1), (2, .int 3)] [.int 1] μ := by
      exact hr 0 44 _ _ _ (some (.int 1)) (by decide +kernel) (z_rx_ok hH (by rfl)) (⟨rfl, (by simp only [h1, lb_f, Int64.or_zero, Int32.add_zero, nB_t, nB_f, Bool.not_true, Bool.not_false, Bool.and_true, Bool.true_and, Bool.false_and, Bool.and_false, Bool.or_true, Bool.true_or, Bool.false_or, Bool.or_false, cond_true, cond_false])⟩)
    refine zq_if hc hH (by rfl) (tg := 39) (by rfl) (fun h3 => ?_) (fun h3 => ?_)
    · have h3 : (decide ((μ.1 14 7) = 0)) = false := decide_eq_false (cm_ne.mp h3)
      refine z_rcs hc hH 2 (pc' := 44) (lv' := [(0, .ref 14), (1, .int 1), (2, .int 3)]) (st' := [.int 1]) (μ' := μ) (by rfl) ?_
      exact zJ hJ2 rfl rfl rfl
    · have h3 : (decide ((μ.1 14 7) = 0)) = true := decide_eq_true (cn_ne.mp h3)
      refine z_rcs hc hH 5 (pc' := 44) (lv' := [(0, .ref 14), (1, .int 1), (2, .int 3)]) (st' := [.int 1]) (μ' := μ) (by rfl) ?_
      exact zJ hJ2 rfl rfl rfl
  · have h1 : (decide ((μ.1 9 4) ≤ (1 : Int32))) = false := decide_eq_false (cn_ge.mp h1)
    refine z_rcs hc hH 3 (pc' := 16) (lv' := [(0, .ref 14), (1, .int 1), (2, .int 3)]) (st' := [.int 1, .ref 15]) (μ' := μ) (by rfl) ?_
    refine zq_iald hc hH (by rfl) 4 (by decide +kernel) (show vp_in (nI 1) 4 from vp_in_nI (by decide) (by decide)) ?_
    show Z 0 17 [(0, .ref 14), (1, .int 1), (2, .int 3)] [.int (μ.1 15 1)] μ
    refine z_rcs hc hH 1 (pc' := 18) (lv' := [(0, .ref 14), (1, .int 1), (2, .int 3)]) (st' := [.int 3, .int (μ.1 15 1)]) (μ' := μ) (by rfl) ?_
    have hJ4 : Z 0 26 [(0, .ref 14), (1, .int 1), (2, .int 3)] [.int (nB (decide ((μ.1 15 1) = 3)))] μ := by
      exact hr 0 26 _ _ _ (some (.int (nB (decide ((μ.1 15 1) = 3))))) (by decide +kernel) ((fun b : Bool => (by cases b <;> rfl : z_rn mi_X1_isHidden 26 [.int (nB b)] = some (some (.int (nB b))))) (decide ((μ.1 15 1) = 3))) (⟨rfl, (by simp only [h1, lb_f, Int64.or_zero, Int32.add_zero, nB_t, nB_f, Bool.not_true, Bool.not_false, Bool.and_true, Bool.true_and, Bool.false_and, Bool.and_false, Bool.or_true, Bool.true_or, Bool.false_or, Bool.or_false, cond_true, cond_false])⟩)
    refine zq_ic hc hH (by rfl) (tg := 25) (by rfl) (fun h5 => ?_) (fun h5 => ?_)
    · have h5 : (decide ((μ.1 15 1) = 3)) = false := decide_eq_false (cm_ne.mp h5)
      refine z_rcs hc hH 1 (pc' := 26) (lv' := [(0, .ref 14), (1, .int 1), (2, .int 3)]) (st' := [.int 0]) (μ' := μ) (by rfl) ?_
      exact zJ hJ4 rfl (by first | with_reducible rfl | (simp only [h5, lb_f, Int64.or_zero, Int32.add_zero, nB_t, nB_f, Bool.not_true, Bool.not_false, Bool.and_true, Bool.true_and, Bool.false_and, Bool.and_false, Bool.or_true, Bool.true_or, Bool.false_or, Bool.or_false, cond_true, cond_false]; done) | rfl) rfl
    · have h5 : (decide ((μ.1 15 1) = 3)) = true := decide_eq_true (cn_ne.mp h5)
      refine z_rcs hc hH 2 (pc' := 26) (lv' := [(0, .ref 14), (1, .int 1), (2, .int 3)]) (st' := [.int 1]) (μ' := μ) (by rfl) ?_
      exact zJ hJ4 rfl (by first | with_reducible rfl | (simp only [h5, lb_f, Int64.or_zero, Int32.add_zero, nB_t, nB_f, Bool.not_true, Bool.not_false, Bool.and_true, Bool.true_and, Bool.false_and, Bool.and_false, Bool.or_true, Bool.true_or, Bool.false_or, Bool.or_false, cond_true, cond_false]; done) | rfl) rfl
theorem fb_X1_isHidden_1_4 (d : Nat) (hd : 1 ≤ d) (μ : zM) (ht : μ.2.2 14 = 9) : z_C d mi_X1_isHidden [.ref 14, .int 1, .int 4] μ (zR μ (.int (nB ((decide ((μ.1 9 4) ≤ (1 : Int32))) || (decide ((μ.1 15 1) = 3)))))) := by
  refine z_C_in (by decide) (by omega) (fun d' Z ed hc hr => ?_)
  have hH : zH mi_X1_isHidden zt_X1_isHidden 79 1 3 := hh_X1_isHidden
  refine z_rcs hc hH 2 (pc' := 2) (lv' := [(0, .ref 14), (1, .int 1), (2, .int 4)]) (st' := [.ref 14, .int 1]) (μ' := μ) (by rfl) ?_
  refine zq_tget hc hH (by rfl) (ci := 0) (f := 5) (t := 9) (by decide +kernel) ht (by decide) ?_
  refine z_rcs hc hH 1 (pc' := 8) (lv' := [(0, .ref 14), (1, .int 1), (2, .int 4)]) (st' := [.int (μ.1 9 4), .int 1]) (μ' := μ) (by rfl) ?_
  refine zq_ic hc hH (by rfl) (tg := 27) (by rfl) (fun h1 => ?_) (fun h1 => ?_)
  · have h1 : (decide ((μ.1 9 4) ≤ (1 : Int32))) = true := decide_eq_true (cm_ge.mp h1)
    refine z_rcs hc hH 2 (pc' := 31) (lv' := [(0, .ref 14), (1, .int 1), (2, .int 4)]) (st' := [.int (μ.1 14 7)]) (μ' := μ) (by rfl) ?_
    have hJ2 : Z 0 44 [(0, .ref 14), (1, .int 1), (2, .int 4)] [.int 1] μ := by
      exact hr 0 44 _ _ _ (some (.int 1)) (by decide +kernel) (z_rx_ok hH (by rfl)) (⟨rfl, (by simp only [h1, lb_f, Int64.or_zero, Int32.add_zero, nB_t, nB_f, Bool.not_true, Bool.not_false, Bool.and_true, Bool.true_and, Bool.false_and, Bool.and_false, Bool.or_true, Bool.true_or, Bool.false_or, Bool.or_false, cond_true, cond_false])⟩)
    refine zq_if hc hH (by rfl) (tg := 39) (by rfl) (fun h3 => ?_) (fun h3 => ?_)
    · have h3 : (decide ((μ.1 14 7) = 0)) = false := decide_eq_false (cm_ne.mp h3)
      refine z_rcs hc hH 2 (pc' := 44) (lv' := [(0, .ref 14), (1, .int 1), (2, .int 4)]) (st' := [.int 1]) (μ' := μ) (by rfl) ?_
      exact zJ hJ2 rfl rfl rfl
    · have h3 : (decide ((μ.1 14 7) = 0)) = true := decide_eq_true (cn_ne.mp h3)
      refine z_rcs hc hH 5 (pc' := 44) (lv' := [(0, .ref 14), (1, .int 1), (2, .int 4)]) (st' := [.int 1]) (μ' := μ) (by rfl) ?_
      exact zJ hJ2 rfl rfl rfl
  · have h1 : (decide ((μ.1 9 4) ≤ (1 : Int32))) = false := decide_eq_false (cn_ge.mp h1)
    refine z_rcs hc hH 3 (pc' := 16) (lv' := [(0, .ref 14), (1, .int 1), (2, .int 4)]) (st' := [.int 1, .ref 15]) (μ' := μ) (by rfl) ?_
    refine zq_iald hc hH (by rfl) 4 (by decide +kernel) (show vp_in (nI 1) 4 from vp_in_nI (by decide) (by decide)) ?_
    show Z 0 17 [(0, .ref 14), (1, .int 1), (2, .int 4)] [.int (μ.1 15 1)] μ
    refine z_rcs hc hH 1 (pc' := 18) (lv' := [(0, .ref 14), (1, .int 1), (2, .int 4)]) (st' := [.int 3, .int (μ.1 15 1)]) (μ' := μ) (by rfl) ?_
    have hJ4 : Z 0 26 [(0, .ref 14), (1, .int 1), (2, .int 4)] [.int (nB (decide ((μ.1 15 1) = 3)))] μ := by
      exact hr 0 26 _ _ _ (some (.int (nB (decide ((μ.1 15 1) = 3))))) (by decide +kernel) ((fun b : Bool => (by cases b <;> rfl : z_rn mi_X1_isHidden 26 [.int (nB b)] = some (some (.int (nB b))))) (decide ((μ.1 15 1) = 3))) (⟨rfl, (by simp only [h1, lb_f, Int64.or_zero, Int32.add_zero, nB_t, nB_f, Bool.not_true, Bool.not_false, Bool.and_true, Bool.true_and, Bool.false_and, Bool.and_false, Bool.or_true, Bool.true_or, Bool.false_or, Bool.or_false, cond_true, cond_false])⟩)
    refine zq_ic hc hH (by rfl) (tg := 25) (by rfl) (fun h5 => ?_) (fun h5 => ?_)
    · have h5 : (decide ((μ.1 15 1) = 3)) = false := decide_eq_false (cm_ne.mp h5)
      refine z_rcs hc hH 1 (pc' := 26) (lv' := [(0, .ref 14), (1, .int 1), (2, .int 4)]) (st' := [.int 0]) (μ' := μ) (by rfl) ?_
      exact zJ hJ4 rfl (by first | with_reducible rfl | (simp only [h5, lb_f, Int64.or_zero, Int32.add_zero, nB_t, nB_f, Bool.not_true, Bool.not_false, Bool.and_true, Bool.true_and, Bool.false_and, Bool.and_false, Bool.or_true, Bool.true_or, Bool.false_or, Bool.or_false, cond_true, cond_false]; done) | rfl) rfl
    · have h5 : (decide ((μ.1 15 1) = 3)) = true := decide_eq_true (cn_ne.mp h5)
      refine z_rcs hc hH 2 (pc' := 26) (lv' := [(0, .ref 14), (1, .int 1), (2, .int 4)]) (st' := [.int 1]) (μ' := μ) (by rfl) ?_
      exact zJ hJ4 rfl (by first | with_reducible rfl | (simp only [h5, lb_f, Int64.or_zero, Int32.add_zero, nB_t, nB_f, Bool.not_true, Bool.not_false, Bool.and_true, Bool.true_and, Bool.false_and, Bool.and_false, Bool.or_true, Bool.true_or, Bool.false_or, Bool.or_false, cond_true, cond_false]; done) | rfl) rfl
theorem fb_X1_isHidden_2_0 (d : Nat) (hd : 1 ≤ d) (μ : zM) (ht : μ.2.2 14 = 9) : z_C d mi_X1_isHidden [.ref 14, .int 2, .int 0] μ (zR μ (.int (nB ((decide ((μ.1 9 4) ≤ (2 : Int32))) || (decide ((μ.1 15 2) = 3)))))) := by
  refine z_C_in (by decide) (by omega) (fun d' Z ed hc hr => ?_)
  have hH : zH mi_X1_isHidden zt_X1_isHidden 79 1 3 := hh_X1_isHidden
  refine z_rcs hc hH 2 (pc' := 2) (lv' := [(0, .ref 14), (1, .int 2), (2, .int 0)]) (st' := [.ref 14, .int 2]) (μ' := μ) (by rfl) ?_
  refine zq_tget hc hH (by rfl) (ci := 0) (f := 5) (t := 9) (by decide +kernel) ht (by decide) ?_
  refine z_rcs hc hH 1 (pc' := 8) (lv' := [(0, .ref 14), (1, .int 2), (2, .int 0)]) (st' := [.int (μ.1 9 4), .int 2]) (μ' := μ) (by rfl) ?_
  refine zq_ic hc hH (by rfl) (tg := 27) (by rfl) (fun h1 => ?_) (fun h1 => ?_)
  · have h1 : (decide ((μ.1 9 4) ≤ (2 : Int32))) = true := decide_eq_true (cm_ge.mp h1)
    refine z_rcs hc hH 2 (pc' := 31) (lv' := [(0, .ref 14), (1, .int 2), (2, .int 0)]) (st' := [.int (μ.1 14 7)]) (μ' := μ) (by rfl) ?_
    have hJ2 : Z 0 44 [(0, .ref 14), (1, .int 2), (2, .int 0)] [.int 1] μ := by
      exact hr 0 44 _ _ _ (some (.int 1)) (by decide +kernel) (z_rx_ok hH (by rfl)) (⟨rfl, (by simp only [h1, lb_f, Int64.or_zero, Int32.add_zero, nB_t, nB_f, Bool.not_true, Bool.not_false, Bool.and_true, Bool.true_and, Bool.false_and, Bool.and_false, Bool.or_true, Bool.true_or, Bool.false_or, Bool.or_false, cond_true, cond_false])⟩)
    refine zq_if hc hH (by rfl) (tg := 39) (by rfl) (fun h3 => ?_) (fun h3 => ?_)
    · have h3 : (decide ((μ.1 14 7) = 0)) = false := decide_eq_false (cm_ne.mp h3)
      refine z_rcs hc hH 2 (pc' := 44) (lv' := [(0, .ref 14), (1, .int 2), (2, .int 0)]) (st' := [.int 1]) (μ' := μ) (by rfl) ?_
      exact zJ hJ2 rfl rfl rfl
    · have h3 : (decide ((μ.1 14 7) = 0)) = true := decide_eq_true (cn_ne.mp h3)
      refine z_rcs hc hH 5 (pc' := 44) (lv' := [(0, .ref 14), (1, .int 2), (2, .int 0)]) (st' := [.int 1]) (μ' := μ) (by rfl) ?_
      exact zJ hJ2 rfl rfl rfl
  · have h1 : (decide ((μ.1 9 4) ≤ (2 : Int32))) = false := decide_eq_false (cn_ge.mp h1)
    refine z_rcs hc hH 3 (pc' := 16) (lv' := [(0, .ref 14), (1, .int 2), (2, .int 0)]) (st' := [.int 2, .ref 15]) (μ' := μ) (by rfl) ?_
    refine zq_iald hc hH (by rfl) 4 (by decide +kernel) (show vp_in (nI 2) 4 from vp_in_nI (by decide) (by decide)) ?_
    show Z 0 17 [(0, .ref 14), (1, .int 2), (2, .int 0)] [.int (μ.1 15 2)] μ
    refine z_rcs hc hH 1 (pc' := 18) (lv' := [(0, .ref 14), (1, .int 2), (2, .int 0)]) (st' := [.int 3, .int (μ.1 15 2)]) (μ' := μ) (by rfl) ?_
    have hJ4 : Z 0 26 [(0, .ref 14), (1, .int 2), (2, .int 0)] [.int (nB (decide ((μ.1 15 2) = 3)))] μ := by
      exact hr 0 26 _ _ _ (some (.int (nB (decide ((μ.1 15 2) = 3))))) (by decide +kernel) ((fun b : Bool => (by cases b <;> rfl : z_rn mi_X1_isHidden 26 [.int (nB b)] = some (some (.int (nB b))))) (decide ((μ.1 15 2) = 3))) (⟨rfl, (by simp only [h1, lb_f, Int64.or_zero, Int32.add_zero, nB_t, nB_f, Bool.not_true, Bool.not_false, Bool.and_true, Bool.true_and, Bool.false_and, Bool.and_false, Bool.or_true, Bool.true_or, Bool.false_or, Bool.or_false, cond_true, cond_false])⟩)
    refine zq_ic hc hH (by rfl) (tg := 25) (by rfl) (fun h5 => ?_) (fun h5 => ?_)
    · have h5 : (decide ((μ.1 15 2) = 3)) = false := decide_eq_false (cm_ne.mp h5)
      refine z_rcs hc hH 1 (pc' := 26) (lv' := [(0, .ref 14), (1, .int 2), (2, .int 0)]) (st' := [.int 0]) (μ' := μ) (by rfl) ?_
      exact zJ hJ4 rfl (by first | with_reducible rfl | (simp only [h5, lb_f, Int64.or_zero, Int32.add_zero, nB_t, nB_f, Bool.not_true, Bool.not_false, Bool.and_true, Bool.true_and, Bool.false_and, Bool.and_false, Bool.or_true, Bool.true_or, Bool.false_or, Bool.or_false, cond_true, cond_false]; done) | rfl) rfl
    · have h5 : (decide ((μ.1 15 2) = 3)) = true := decide_eq_true (cn_ne.mp h5)
      refine z_rcs hc hH 2 (pc' := 26) (lv' := [(0, .ref 14), (1, .int 2), (2, .int 0)]) (st' := [.int 1]) (μ' := μ) (by rfl) ?_
      exact zJ hJ4 rfl (by first | with_reducible rfl | (simp only [h5, lb_f, Int64.or_zero, Int32.add_zero, nB_t, nB_f, Bool.not_true, Bool.not_false, Bool.and_true, Bool.true_and, Bool.false_and, Bool.and_false, Bool.or_true, Bool.true_or, Bool.false_or, Bool.or_false, cond_true, cond_false]; done) | rfl) rfl
theorem fb_X1_isHidden_2_1 (d : Nat) (hd : 1 ≤ d) (μ : zM) (ht : μ.2.2 14 = 9) : z_C d mi_X1_isHidden [.ref 14, .int 2, .int 1] μ (zR μ (.int (nB ((decide ((μ.1 9 4) ≤ (2 : Int32))) || (decide ((μ.1 15 2) = 3)))))) := by
  refine z_C_in (by decide) (by omega) (fun d' Z ed hc hr => ?_)
  have hH : zH mi_X1_isHidden zt_X1_isHidden 79 1 3 := hh_X1_isHidden
  refine z_rcs hc hH 2 (pc' := 2) (lv' := [(0, .ref 14), (1, .int 2), (2, .int 1)]) (st' := [.ref 14, .int 2]) (μ' := μ) (by rfl) ?_
  refine zq_tget hc hH (by rfl) (ci := 0) (f := 5) (t := 9) (by decide +kernel) ht (by decide) ?_
  refine z_rcs hc hH 1 (pc' := 8) (lv' := [(0, .ref 14), (1, .int 2), (2, .int 1)]) (st' := [.int (μ.1 9 4), .int 2]) (μ' := μ) (by rfl) ?_
  refine zq_ic hc hH (by rfl) (tg := 27) (by rfl) (fun h1 => ?_) (fun h1 => ?_)
  · have h1 : (decide ((μ.1 9 4) ≤ (2 : Int32))) = true := decide_eq_true (cm_ge.mp h1)
    refine z_rcs hc hH 2 (pc' := 31) (lv' := [(0, .ref 14), (1, .int 2), (2, .int 1)]) (st' := [.int (μ.1 14 7)]) (μ' := μ) (by rfl) ?_
    have hJ2 : Z 0 44 [(0, .ref 14), (1, .int 2), (2, .int 1)] [.int 1] μ := by
      exact hr 0 44 _ _ _ (some (.int 1)) (by decide +kernel) (z_rx_ok hH (by rfl)) (⟨rfl, (by simp only [h1, lb_f, Int64.or_zero, Int32.add_zero, nB_t, nB_f, Bool.not_true, Bool.not_false, Bool.and_true, Bool.true_and, Bool.false_and, Bool.and_false, Bool.or_true, Bool.true_or, Bool.false_or, Bool.or_false, cond_true, cond_false])⟩)
    refine zq_if hc hH (by rfl) (tg := 39) (by rfl) (fun h3 => ?_) (fun h3 => ?_)
    · have h3 : (decide ((μ.1 14 7) = 0)) = false := decide_eq_false (cm_ne.mp h3)
      refine z_rcs hc hH 2 (pc' := 44) (lv' := [(0, .ref 14), (1, .int 2), (2, .int 1)]) (st' := [.int 1]) (μ' := μ) (by rfl) ?_
      exact zJ hJ2 rfl rfl rfl
    · have h3 : (decide ((μ.1 14 7) = 0)) = true := decide_eq_true (cn_ne.mp h3)
      refine z_rcs hc hH 5 (pc' := 44) (lv' := [(0, .ref 14), (1, .int 2), (2, .int 1)]) (st' := [.int 1]) (μ' := μ) (by rfl) ?_
      exact zJ hJ2 rfl rfl rfl
  · have h1 : (decide ((μ.1 9 4) ≤ (2 : Int32))) = false := decide_eq_false (cn_ge.mp h1)
    refine z_rcs hc hH 3 (pc' := 16) (lv' := [(0, .ref 14), (1, .int 2), (2, .int 1)]) (st' := [.int 2, .ref 15]) (μ' := μ) (by rfl) ?_
    refine zq_iald hc hH (by rfl) 4 (by decide +kernel) (show vp_in (nI 2) 4 from vp_in_nI (by decide) (by decide)) ?_
    show Z 0 17 [(0, .ref 14), (1, .int 2), (2, .int 1)] [.int (μ.1 15 2)] μ
    refine z_rcs hc hH 1 (pc' := 18) (lv' := [(0, .ref 14), (1, .int 2), (2, .int 1)]) (st' := [.int 3, .int (μ.1 15 2)]) (μ' := μ) (by rfl) ?_
    have hJ4 : Z 0 26 [(0, .ref 14), (1, .int 2), (2, .int 1)] [.int (nB (decide ((μ.1 15 2) = 3)))] μ := by
      exact hr 0 26 _ _ _ (some (.int (nB (decide ((μ.1 15 2) = 3))))) (by decide +kernel) ((fun b : Bool => (by cases b <;> rfl : z_rn mi_X1_isHidden 26 [.int (nB b)] = some (some (.int (nB b))))) (decide ((μ.1 15 2) = 3))) (⟨rfl, (by simp only [h1, lb_f, Int64.or_zero, Int32.add_zero, nB_t, nB_f, Bool.not_true, Bool.not_false, Bool.and_true, Bool.true_and, Bool.false_and, Bool.and_false, Bool.or_true, Bool.true_or, Bool.false_or, Bool.or_false, cond_true, cond_false])⟩)
    refine zq_ic hc hH (by rfl) (tg := 25) (by rfl) (fun h5 => ?_) (fun h5 => ?_)
    · have h5 : (decide ((μ.1 15 2) = 3)) = false := decide_eq_false (cm_ne.mp h5)
      refine z_rcs hc hH 1 (pc' := 26) (lv' := [(0, .ref 14), (1, .int 2), (2, .int 1)]) (st' := [.int 0]) (μ' := μ) (by rfl) ?_
      exact zJ hJ4 rfl (by first | with_reducible rfl | (simp only [h5, lb_f, Int64.or_zero, Int32.add_zero, nB_t, nB_f, Bool.not_true, Bool.not_false, Bool.and_true, Bool.true_and, Bool.false_and, Bool.and_false, Bool.or_true, Bool.true_or, Bool.false_or, Bool.or_false, cond_true, cond_false]; done) | rfl) rfl
    · have h5 : (decide ((μ.1 15 2) = 3)) = true := decide_eq_true (cn_ne.mp h5)
      refine z_rcs hc hH 2 (pc' := 26) (lv' := [(0, .ref 14), (1, .int 2), (2, .int 1)]) (st' := [.int 1]) (μ' := μ) (by rfl) ?_
      exact zJ hJ4 rfl (by first | with_reducible rfl | (simp only [h5, lb_f, Int64.or_zero, Int32.add_zero, nB_t, nB_f, Bool.not_true, Bool.not_false, Bool.and_true, Bool.true_and, Bool.false_and, Bool.and_false, Bool.or_true, Bool.true_or, Bool.false_or, Bool.or_false, cond_true, cond_false]; done) | rfl) rfl
theorem fb_X1_isHidden_2_2 (d : Nat) (hd : 1 ≤ d) (μ : zM) (ht : μ.2.2 14 = 9) : z_C d mi_X1_isHidden [.ref 14, .int 2, .int 2] μ (zR μ (.int (nB (bif decide ((μ.1 9 4) ≤ (2 : Int32)) then !(decide ((μ.1 14 7) = 0)) else decide ((μ.1 15 2) = 3))))) := by
  refine z_C_in (by decide) (by omega) (fun d' Z ed hc hr => ?_)
  have hH : zH mi_X1_isHidden zt_X1_isHidden 79 1 3 := hh_X1_isHidden
  refine z_rcs hc hH 2 (pc' := 2) (lv' := [(0, .ref 14), (1, .int 2), (2, .int 2)]) (st' := [.ref 14, .int 2]) (μ' := μ) (by rfl) ?_
  refine zq_tget hc hH (by rfl) (ci := 0) (f := 5) (t := 9) (by decide +kernel) ht (by decide) ?_
  refine z_rcs hc hH 1 (pc' := 8) (lv' := [(0, .ref 14), (1, .int 2), (2, .int 2)]) (st' := [.int (μ.1 9 4), .int 2]) (μ' := μ) (by rfl) ?_
  refine zq_ic hc hH (by rfl) (tg := 27) (by rfl) (fun h1 => ?_) (fun h1 => ?_)
  · have h1 : (decide ((μ.1 9 4) ≤ (2 : Int32))) = true := decide_eq_true (cm_ge.mp h1)
    refine z_rcs hc hH 2 (pc' := 31) (lv' := [(0, .ref 14), (1, .int 2), (2, .int 2)]) (st' := [.int (μ.1 14 7)]) (μ' := μ) (by rfl) ?_
    have hJ2 : Z 0 44 [(0, .ref 14), (1, .int 2), (2, .int 2)] [.int (nB (!(decide ((μ.1 14 7) = 0))))] μ := by
      exact hr 0 44 _ _ _ (some (.int (nB (!(decide ((μ.1 14 7) = 0)))))) (by decide +kernel) ((fun b : Bool => (by cases b <;> rfl : z_rn mi_X1_isHidden 44 [.int (nB b)] = some (some (.int (nB b))))) (!(decide ((μ.1 14 7) = 0)))) (⟨rfl, (by simp only [h1, lb_f, Int64.or_zero, Int32.add_zero, nB_t, nB_f, Bool.not_true, Bool.not_false, Bool.and_true, Bool.true_and, Bool.false_and, Bool.and_false, Bool.or_true, Bool.true_or, Bool.false_or, Bool.or_false, cond_true, cond_false])⟩)
    refine zq_if hc hH (by rfl) (tg := 39) (by rfl) (fun h3 => ?_) (fun h3 => ?_)
    · have h3 : (decide ((μ.1 14 7) = 0)) = false := decide_eq_false (cm_ne.mp h3)
      refine z_rcs hc hH 2 (pc' := 44) (lv' := [(0, .ref 14), (1, .int 2), (2, .int 2)]) (st' := [.int 1]) (μ' := μ) (by rfl) ?_
      exact zJ hJ2 rfl (by first | with_reducible rfl | (simp only [h3, lb_f, Int64.or_zero, Int32.add_zero, nB_t, nB_f, Bool.not_true, Bool.not_false, Bool.and_true, Bool.true_and, Bool.false_and, Bool.and_false, Bool.or_true, Bool.true_or, Bool.false_or, Bool.or_false, cond_true, cond_false]; done) | rfl) rfl
    · have h3 : (decide ((μ.1 14 7) = 0)) = true := decide_eq_true (cn_ne.mp h3)
      refine z_rcs hc hH 4 (pc' := 44) (lv' := [(0, .ref 14), (1, .int 2), (2, .int 2)]) (st' := [.int 0]) (μ' := μ) (by rfl) ?_
      exact zJ hJ2 rfl (by first | with_reducible rfl | (simp only [h3, lb_f, Int64.or_zero, Int32.add_zero, nB_t, nB_f, Bool.not_true, Bool.not_false, Bool.and_true, Bool.true_and, Bool.false_and, Bool.and_false, Bool.or_true, Bool.true_or, Bool.false_or, Bool.or_false, cond_true, cond_false]; done) | rfl) rfl
  · have h1 : (decide ((μ.1 9 4) ≤ (2 : Int32))) = false := decide_eq_false (cn_ge.mp h1)
    refine z_rcs hc hH 3 (pc' := 16) (lv' := [(0, .ref 14), (1, .int 2), (2, .int 2)]) (st' := [.int 2, .ref 15]) (μ' := μ) (by rfl) ?_
    refine zq_iald hc hH (by rfl) 4 (by decide +kernel) (show vp_in (nI 2) 4 from vp_in_nI (by decide) (by decide)) ?_
    show Z 0 17 [(0, .ref 14), (1, .int 2), (2, .int 2)] [.int (μ.1 15 2)] μ
    refine z_rcs hc hH 1 (pc' := 18) (lv' := [(0, .ref 14), (1, .int 2), (2, .int 2)]) (st' := [.int 3, .int (μ.1 15 2)]) (μ' := μ) (by rfl) ?_
    have hJ4 : Z 0 26 [(0, .ref 14), (1, .int 2), (2, .int 2)] [.int (nB (decide ((μ.1 15 2) = 3)))] μ := by
      exact hr 0 26 _ _ _ (some (.int (nB (decide ((μ.1 15 2) = 3))))) (by decide +kernel) ((fun b : Bool => (by cases b <;> rfl : z_rn mi_X1_isHidden 26 [.int (nB b)] = some (some (.int (nB b))))) (decide ((μ.1 15 2) = 3))) (⟨rfl, (by simp only [h1, lb_f, Int64.or_zero, Int32.add_zero, nB_t, nB_f, Bool.not_true, Bool.not_false, Bool.and_true, Bool.true_and, Bool.false_and, Bool.and_false, Bool.or_true, Bool.true_or, Bool.false_or, Bool.or_false, cond_true, cond_false])⟩)
    refine zq_ic hc hH (by rfl) (tg := 25) (by rfl) (fun h5 => ?_) (fun h5 => ?_)
    · have h5 : (decide ((μ.1 15 2) = 3)) = false := decide_eq_false (cm_ne.mp h5)
      refine z_rcs hc hH 1 (pc' := 26) (lv' := [(0, .ref 14), (1, .int 2), (2, .int 2)]) (st' := [.int 0]) (μ' := μ) (by rfl) ?_
      exact zJ hJ4 rfl (by first | with_reducible rfl | (simp only [h5, lb_f, Int64.or_zero, Int32.add_zero, nB_t, nB_f, Bool.not_true, Bool.not_false, Bool.and_true, Bool.true_and, Bool.false_and, Bool.and_false, Bool.or_true, Bool.true_or, Bool.false_or, Bool.or_false, cond_true, cond_false]; done) | rfl) rfl
    · have h5 : (decide ((μ.1 15 2) = 3)) = true := decide_eq_true (cn_ne.mp h5)
      refine z_rcs hc hH 2 (pc' := 26) (lv' := [(0, .ref 14), (1, .int 2), (2, .int 2)]) (st' := [.int 1]) (μ' := μ) (by rfl) ?_
      exact zJ hJ4 rfl (by first | with_reducible rfl | (simp only [h5, lb_f, Int64.or_zero, Int32.add_zero, nB_t, nB_f, Bool.not_true, Bool.not_false, Bool.and_true, Bool.true_and, Bool.false_and, Bool.and_false, Bool.or_true, Bool.true_or, Bool.false_or, Bool.or_false, cond_true, cond_false]; done) | rfl) rfl
theorem fb_X1_isHidden_2_3 (d : Nat) (hd : 1 ≤ d) (μ : zM) (ht : μ.2.2 14 = 9) : z_C d mi_X1_isHidden [.ref 14, .int 2, .int 3] μ (zR μ (.int (nB ((decide ((μ.1 9 4) ≤ (2 : Int32))) || (decide ((μ.1 15 2) = 3)))))) := by
  refine z_C_in (by decide) (by omega) (fun d' Z ed hc hr => ?_)
  have hH : zH mi_X1_isHidden zt_X1_isHidden 79 1 3 := hh_X1_isHidden
  refine z_rcs hc hH 2 (pc' := 2) (lv' := [(0, .ref 14), (1, .int 2), (2, .int 3)]) (st' := [.ref 14, .int 2]) (μ' := μ) (by rfl) ?_
  refine zq_tget hc hH (by rfl) (ci := 0) (f := 5) (t := 9) (by decide +kernel) ht (by decide) ?_
  refine z_rcs hc hH 1 (pc' := 8) (lv' := [(0, .ref 14), (1, .int 2), (2, .int 3)]) (st' := [.int (μ.1 9 4), .int 2]) (μ' := μ) (by rfl) ?_
  refine zq_ic hc hH (by rfl) (tg := 27) (by rfl) (fun h1 => ?_) (fun h1 => ?_)
  · have h1 : (decide ((μ.1 9 4) ≤ (2 : Int32))) = true := decide_eq_true (cm_ge.mp h1)
    refine z_rcs hc hH 2 (pc' := 31) (lv' := [(0, .ref 14), (1, .int 2), (2, .int 3)]) (st' := [.int (μ.1 14 7)]) (μ' := μ) (by rfl) ?_
    have hJ2 : Z 0 44 [(0, .ref 14), (1, .int 2), (2, .int 3)] [.int 1] μ := by
      exact hr 0 44 _ _ _ (some (.int 1)) (by decide +kernel) (z_rx_ok hH (by rfl)) (⟨rfl, (by simp only [h1, lb_f, Int64.or_zero, Int32.add_zero, nB_t, nB_f, Bool.not_true, Bool.not_false, Bool.and_true, Bool.true_and, Bool.false_and, Bool.and_false, Bool.or_true, Bool.true_or, Bool.false_or, Bool.or_false, cond_true, cond_false])⟩)
    refine zq_if hc hH (by rfl) (tg := 39) (by rfl) (fun h3 => ?_) (fun h3 => ?_)
    · have h3 : (decide ((μ.1 14 7) = 0)) = false := decide_eq_false (cm_ne.mp h3)
      refine z_rcs hc hH 2 (pc' := 44) (lv' := [(0, .ref 14), (1, .int 2), (2, .int 3)]) (st' := [.int 1]) (μ' := μ) (by rfl) ?_
      exact zJ hJ2 rfl rfl rfl
    · have h3 : (decide ((μ.1 14 7) = 0)) = true := decide_eq_true (cn_ne.mp h3)
      refine z_rcs hc hH 5 (pc' := 44) (lv' := [(0, .ref 14), (1, .int 2), (2, .int 3)]) (st' := [.int 1]) (μ' := μ) (by rfl) ?_
      exact zJ hJ2 rfl rfl rfl
  · have h1 : (decide ((μ.1 9 4) ≤ (2 : Int32))) = false := decide_eq_false (cn_ge.mp h1)
    refine z_rcs hc hH 3 (pc' := 16) (lv' := [(0, .ref 14), (1, .int 2), (2, .int 3)]) (st' := [.int 2, .ref 15]) (μ' := μ) (by rfl) ?_
    refine zq_iald hc hH (by rfl) 4 (by decide +kernel) (show vp_in (nI 2) 4 from vp_in_nI (by decide) (by decide)) ?_
    show Z 0 17 [(0, .ref 14), (1, .int 2), (2, .int 3)] [.int (μ.1 15 2)] μ
    refine z_rcs hc hH 1 (pc' := 18) (lv' := [(0, .ref 14), (1, .int 2), (2, .int 3)]) (st' := [.int 3, .int (μ.1 15 2)]) (μ' := μ) (by rfl) ?_
    have hJ4 : Z 0 26 [(0, .ref 14), (1, .int 2), (2, .int 3)] [.int (nB (decide ((μ.1 15 2) = 3)))] μ := by
      exact hr 0 26 _ _ _ (some (.int (nB (decide ((μ.1 15 2) = 3))))) (by decide +kernel) ((fun b : Bool => (by cases b <;> rfl : z_rn mi_X1_isHidden 26 [.int (nB b)] = some (some (.int (nB b))))) (decide ((μ.1 15 2) = 3))) (⟨rfl, (by simp only [h1, lb_f, Int64.or_zero, Int32.add_zero, nB_t, nB_f, Bool.not_true, Bool.not_false, Bool.and_true, Bool.true_and, Bool.false_and, Bool.and_false, Bool.or_true, Bool.true_or, Bool.false_or, Bool.or_false, cond_true, cond_false])⟩)
    refine zq_ic hc hH (by rfl) (tg := 25) (by rfl) (fun h5 => ?_) (fun h5 => ?_)
    · have h5 : (decide ((μ.1 15 2) = 3)) = false := decide_eq_false (cm_ne.mp h5)
      refine z_rcs hc hH 1 (pc' := 26) (lv' := [(0, .ref 14), (1, .int 2), (2, .int 3)]) (st' := [.int 0]) (μ' := μ) (by rfl) ?_
      exact zJ hJ4 rfl (by first | with_reducible rfl | (simp only [h5, lb_f, Int64.or_zero, Int32.add_zero, nB_t, nB_f, Bool.not_true, Bool.not_false, Bool.and_true, Bool.true_and, Bool.false_and, Bool.and_false, Bool.or_true, Bool.true_or, Bool.false_or, Bool.or_false, cond_true, cond_false]; done) | rfl) rfl
    · have h5 : (decide ((μ.1 15 2) = 3)) = true := decide_eq_true (cn_ne.mp h5)
      refine z_rcs hc hH 2 (pc' := 26) (lv' := [(0, .ref 14), (1, .int 2), (2, .int 3)]) (st' := [.int 1]) (μ' := μ) (by rfl) ?_
      exact zJ hJ4 rfl (by first | with_reducible rfl | (simp only [h5, lb_f, Int64.or_zero, Int32.add_zero, nB_t, nB_f, Bool.not_true, Bool.not_false, Bool.and_true, Bool.true_and, Bool.false_and, Bool.and_false, Bool.or_true, Bool.true_or, Bool.false_or, Bool.or_false, cond_true, cond_false]; done) | rfl) rfl
theorem fb_X1_isHidden_2_4 (d : Nat) (hd : 1 ≤ d) (μ : zM) (ht : μ.2.2 14 = 9) : z_C d mi_X1_isHidden [.ref 14, .int 2, .int 4] μ (zR μ (.int (nB ((decide ((μ.1 9 4) ≤ (2 : Int32))) || (decide ((μ.1 15 2) = 3)))))) := by
  refine z_C_in (by decide) (by omega) (fun d' Z ed hc hr => ?_)
  have hH : zH mi_X1_isHidden zt_X1_isHidden 79 1 3 := hh_X1_isHidden
  refine z_rcs hc hH 2 (pc' := 2) (lv' := [(0, .ref 14), (1, .int 2), (2, .int 4)]) (st' := [.ref 14, .int 2]) (μ' := μ) (by rfl) ?_
  refine zq_tget hc hH (by rfl) (ci := 0) (f := 5) (t := 9) (by decide +kernel) ht (by decide) ?_
  refine z_rcs hc hH 1 (pc' := 8) (lv' := [(0, .ref 14), (1, .int 2), (2, .int 4)]) (st' := [.int (μ.1 9 4), .int 2]) (μ' := μ) (by rfl) ?_
  refine zq_ic hc hH (by rfl) (tg := 27) (by rfl) (fun h1 => ?_) (fun h1 => ?_)
  · have h1 : (decide ((μ.1 9 4) ≤ (2 : Int32))) = true := decide_eq_true (cm_ge.mp h1)
    refine z_rcs hc hH 2 (pc' := 31) (lv' := [(0, .ref 14), (1, .int 2), (2, .int 4)]) (st' := [.int (μ.1 14 7)]) (μ' := μ) (by rfl) ?_
    have hJ2 : Z 0 44 [(0, .ref 14), (1, .int 2), (2, .int 4)] [.int 1] μ := by
      exact hr 0 44 _ _ _ (some (.int 1)) (by decide +kernel) (z_rx_ok hH (by rfl)) (⟨rfl, (by simp only [h1, lb_f, Int64.or_zero, Int32.add_zero, nB_t, nB_f, Bool.not_true, Bool.not_false, Bool.and_true, Bool.true_and, Bool.false_and, Bool.and_false, Bool.or_true, Bool.true_or, Bool.false_or, Bool.or_false, cond_true, cond_false])⟩)
    refine zq_if hc hH (by rfl) (tg := 39) (by rfl) (fun h3 => ?_) (fun h3 => ?_)
    · have h3 : (decide ((μ.1 14 7) = 0)) = false := decide_eq_false (cm_ne.mp h3)
      refine z_rcs hc hH 2 (pc' := 44) (lv' := [(0, .ref 14), (1, .int 2), (2, .int 4)]) (st' := [.int 1]) (μ' := μ) (by rfl) ?_
      exact zJ hJ2 rfl rfl rfl
    · have h3 : (decide ((μ.1 14 7) = 0)) = true := decide_eq_true (cn_ne.mp h3)
      refine z_rcs hc hH 5 (pc' := 44) (lv' := [(0, .ref 14), (1, .int 2), (2, .int 4)]) (st' := [.int 1]) (μ' := μ) (by rfl) ?_
      exact zJ hJ2 rfl rfl rfl
  · have h1 : (decide ((μ.1 9 4) ≤ (2 : Int32))) = false := decide_eq_false (cn_ge.mp h1)
    refine z_rcs hc hH 3 (pc' := 16) (lv' := [(0, .ref 14), (1, .int 2), (2, .int 4)]) (st' := [.int 2, .ref 15]) (μ' := μ) (by rfl) ?_
    refine zq_iald hc hH (by rfl) 4 (by decide +kernel) (show vp_in (nI 2) 4 from vp_in_nI (by decide) (by decide)) ?_
    show Z 0 17 [(0, .ref 14), (1, .int 2), (2, .int 4)] [.int (μ.1 15 2)] μ
    refine z_rcs hc hH 1 (pc' := 18) (lv' := [(0, .ref 14), (1, .int 2), (2, .int 4)]) (st' := [.int 3, .int (μ.1 15 2)]) (μ' := μ) (by rfl) ?_
    have hJ4 : Z 0 26 [(0, .ref 14), (1, .int 2), (2, .int 4)] [.int (nB (decide ((μ.1 15 2) = 3)))] μ := by
      exact hr 0 26 _ _ _ (some (.int (nB (decide ((μ.1 15 2) = 3))))) (by decide +kernel) ((fun b : Bool => (by cases b <;> rfl : z_rn mi_X1_isHidden 26 [.int (nB b)] = some (some (.int (nB b))))) (decide ((μ.1 15 2) = 3))) (⟨rfl, (by simp only [h1, lb_f, Int64.or_zero, Int32.add_zero, nB_t, nB_f, Bool.not_true, Bool.not_false, Bool.and_true, Bool.true_and, Bool.false_and, Bool.and_false, Bool.or_true, Bool.true_or, Bool.false_or, Bool.or_false, cond_true, cond_false])⟩)
    refine zq_ic hc hH (by rfl) (tg := 25) (by rfl) (fun h5 => ?_) (fun h5 => ?_)
    · have h5 : (decide ((μ.1 15 2) = 3)) = false := decide_eq_false (cm_ne.mp h5)
      refine z_rcs hc hH 1 (pc' := 26) (lv' := [(0, .ref 14), (1, .int 2), (2, .int 4)]) (st' := [.int 0]) (μ' := μ) (by rfl) ?_
      exact zJ hJ4 rfl (by first | with_reducible rfl | (simp only [h5, lb_f, Int64.or_zero, Int32.add_zero, nB_t, nB_f, Bool.not_true, Bool.not_false, Bool.and_true, Bool.true_and, Bool.false_and, Bool.and_false, Bool.or_true, Bool.true_or, Bool.false_or, Bool.or_false, cond_true, cond_false]; done) | rfl) rfl
    · have h5 : (decide ((μ.1 15 2) = 3)) = true := decide_eq_true (cn_ne.mp h5)
      refine z_rcs hc hH 2 (pc' := 26) (lv' := [(0, .ref 14), (1, .int 2), (2, .int 4)]) (st' := [.int 1]) (μ' := μ) (by rfl) ?_
      exact zJ hJ4 rfl (by first | with_reducible rfl | (simp only [h5, lb_f, Int64.or_zero, Int32.add_zero, nB_t, nB_f, Bool.not_true, Bool.not_false, Bool.and_true, Bool.true_and, Bool.false_and, Bool.and_false, Bool.or_true, Bool.true_or, Bool.false_or, Bool.or_false, cond_true, cond_false]; done) | rfl) rfl
theorem fb_X1_isHidden_3_0 (d : Nat) (hd : 1 ≤ d) (μ : zM) (ht : μ.2.2 14 = 9) : z_C d mi_X1_isHidden [.ref 14, .int 3, .int 0] μ (zR μ (.int (nB ((decide ((μ.1 9 4) ≤ (3 : Int32))) || (decide ((μ.1 15 3) = 3)))))) := by
  refine z_C_in (by decide) (by omega) (fun d' Z ed hc hr => ?_)
  have hH : zH mi_X1_isHidden zt_X1_isHidden 79 1 3 := hh_X1_isHidden
  refine z_rcs hc hH 2 (pc' := 2) (lv' := [(0, .ref 14), (1, .int 3), (2, .int 0)]) (st' := [.ref 14, .int 3]) (μ' := μ) (by rfl) ?_
  refine zq_tget hc hH (by rfl) (ci := 0) (f := 5) (t := 9) (by decide +kernel) ht (by decide) ?_
  refine z_rcs hc hH 1 (pc' := 8) (lv' := [(0, .ref 14), (1, .int 3), (2, .int 0)]) (st' := [.int (μ.1 9 4), .int 3]) (μ' := μ) (by rfl) ?_
  refine zq_ic hc hH (by rfl) (tg := 27) (by rfl) (fun h1 => ?_) (fun h1 => ?_)
  · have h1 : (decide ((μ.1 9 4) ≤ (3 : Int32))) = true := decide_eq_true (cm_ge.mp h1)
    refine z_rcs hc hH 2 (pc' := 31) (lv' := [(0, .ref 14), (1, .int 3), (2, .int 0)]) (st' := [.int (μ.1 14 7)]) (μ' := μ) (by rfl) ?_
    have hJ2 : Z 0 44 [(0, .ref 14), (1, .int 3), (2, .int 0)] [.int 1] μ := by
      exact hr 0 44 _ _ _ (some (.int 1)) (by decide +kernel) (z_rx_ok hH (by rfl)) (⟨rfl, (by simp only [h1, lb_f, Int64.or_zero, Int32.add_zero, nB_t, nB_f, Bool.not_true, Bool.not_false, Bool.and_true, Bool.true_and, Bool.false_and, Bool.and_false, Bool.or_true, Bool.true_or, Bool.false_or, Bool.or_false, cond_true, cond_false])⟩)
    refine zq_if hc hH (by rfl) (tg := 39) (by rfl) (fun h3 => ?_) (fun h3 => ?_)
    · have h3 : (decide ((μ.1 14 7) = 0)) = false := decide_eq_false (cm_ne.mp h3)
      refine z_rcs hc hH 2 (pc' := 44) (lv' := [(0, .ref 14), (1, .int 3), (2, .int 0)]) (st' := [.int 1]) (μ' := μ) (by rfl) ?_
      exact zJ hJ2 rfl rfl rfl
    · have h3 : (decide ((μ.1 14 7) = 0)) = true := decide_eq_true (cn_ne.mp h3)
      refine z_rcs hc hH 5 (pc' := 44) (lv' := [(0, .ref 14), (1, .int 3), (2, .int 0)]) (st' := [.int 1]) (μ' := μ) (by rfl) ?_
      exact zJ hJ2 rfl rfl rfl
  · have h1 : (decide ((μ.1 9 4) ≤ (3 : Int32))) = false := decide_eq_false (cn_ge.mp h1)
    refine z_rcs hc hH 3 (pc' := 16) (lv' := [(0, .ref 14), (1, .int 3), (2, .int 0)]) (st' := [.int 3, .ref 15]) (μ' := μ) (by rfl) ?_
    refine zq_iald hc hH (by rfl) 4 (by decide +kernel) (show vp_in (nI 3) 4 from vp_in_nI (by decide) (by decide)) ?_
    show Z 0 17 [(0, .ref 14), (1, .int 3), (2, .int 0)] [.int (μ.1 15 3)] μ
    refine z_rcs hc hH 1 (pc' := 18) (lv' := [(0, .ref 14), (1, .int 3), (2, .int 0)]) (st' := [.int 3, .int (μ.1 15 3)]) (μ' := μ) (by rfl) ?_
    have hJ4 : Z 0 26 [(0, .ref 14), (1, .int 3), (2, .int 0)] [.int (nB (decide ((μ.1 15 3) = 3)))] μ := by
      exact hr 0 26 _ _ _ (some (.int (nB (decide ((μ.1 15 3) = 3))))) (by decide +kernel) ((fun b : Bool => (by cases b <;> rfl : z_rn mi_X1_isHidden 26 [.int (nB b)] = some (some (.int (nB b))))) (decide ((μ.1 15 3) = 3))) (⟨rfl, (by simp only [h1, lb_f, Int64.or_zero, Int32.add_zero, nB_t, nB_f, Bool.not_true, Bool.not_false, Bool.and_true, Bool.true_and, Bool.false_and, Bool.and_false, Bool.or_true, Bool.true_or, Bool.false_or, Bool.or_false, cond_true, cond_false])⟩)
    refine zq_ic hc hH (by rfl) (tg := 25) (by rfl) (fun h5 => ?_) (fun h5 => ?_)
    · have h5 : (decide ((μ.1 15 3) = 3)) = false := decide_eq_false (cm_ne.mp h5)
      refine z_rcs hc hH 1 (pc' := 26) (lv' := [(0, .ref 14), (1, .int 3), (2, .int 0)]) (st' := [.int 0]) (μ' := μ) (by rfl) ?_
      exact zJ hJ4 rfl (by first | with_reducible rfl | (simp only [h5, lb_f, Int64.or_zero, Int32.add_zero, nB_t, nB_f, Bool.not_true, Bool.not_false, Bool.and_true, Bool.true_and, Bool.false_and, Bool.and_false, Bool.or_true, Bool.true_or, Bool.false_or, Bool.or_false, cond_true, cond_false]; done) | rfl) rfl
    · have h5 : (decide ((μ.1 15 3) = 3)) = true := decide_eq_true (cn_ne.mp h5)
      refine z_rcs hc hH 2 (pc' := 26) (lv' := [(0, .ref 14), (1, .int 3), (2, .int 0)]) (st' := [.int 1]) (μ' := μ) (by rfl) ?_
      exact zJ hJ4 rfl (by first | with_reducible rfl | (simp only [h5, lb_f, Int64.or_zero, Int32.add_zero, nB_t, nB_f, Bool.not_true, Bool.not_false, Bool.and_true, Bool.true_and, Bool.false_and, Bool.and_false, Bool.or_true, Bool.true_or, Bool.false_or, Bool.or_false, cond_true, cond_false]; done) | rfl) rfl
theorem fb_X1_isHidden_3_1 (d : Nat) (hd : 1 ≤ d) (μ : zM) (ht : μ.2.2 14 = 9) : z_C d mi_X1_isHidden [.ref 14, .int 3, .int 1] μ (zR μ (.int (nB ((decide ((μ.1 9 4) ≤ (3 : Int32))) || (decide ((μ.1 15 3) = 3)))))) := by
  refine z_C_in (by decide) (by omega) (fun d' Z ed hc hr => ?_)
  have hH : zH mi_X1_isHidden zt_X1_isHidden 79 1 3 := hh_X1_isHidden
  refine z_rcs hc hH 2 (pc' := 2) (lv' := [(0, .ref 14), (1, .int 3), (2, .int 1)]) (st' := [.ref 14, .int 3]) (μ' := μ) (by rfl) ?_
  refine zq_tget hc hH (by rfl) (ci := 0) (f := 5) (t := 9) (by decide +kernel) ht (by decide) ?_
  refine z_rcs hc hH 1 (pc' := 8) (lv' := [(0, .ref 14), (1, .int 3), (2, .int 1)]) (st' := [.int (μ.1 9 4), .int 3]) (μ' := μ) (by rfl) ?_
  refine zq_ic hc hH (by rfl) (tg := 27) (by rfl) (fun h1 => ?_) (fun h1 => ?_)
  · have h1 : (decide ((μ.1 9 4) ≤ (3 : Int32))) = true := decide_eq_true (cm_ge.mp h1)
    refine z_rcs hc hH 2 (pc' := 31) (lv' := [(0, .ref 14), (1, .int 3), (2, .int 1)]) (st' := [.int (μ.1 14 7)]) (μ' := μ) (by rfl) ?_
    have hJ2 : Z 0 44 [(0, .ref 14), (1, .int 3), (2, .int 1)] [.int 1] μ := by
      exact hr 0 44 _ _ _ (some (.int 1)) (by decide +kernel) (z_rx_ok hH (by rfl)) (⟨rfl, (by simp only [h1, lb_f, Int64.or_zero, Int32.add_zero, nB_t, nB_f, Bool.not_true, Bool.not_false, Bool.and_true, Bool.true_and, Bool.false_and, Bool.and_false, Bool.or_true, Bool.true_or, Bool.false_or, Bool.or_false, cond_true, cond_false])⟩)
    refine zq_if hc hH (by rfl) (tg := 39) (by rfl) (fun h3 => ?_) (fun h3 => ?_)
    · have h3 : (decide ((μ.1 14 7) = 0)) = false := decide_eq_false (cm_ne.mp h3)
      refine z_rcs hc hH 2 (pc' := 44) (lv' := [(0, .ref 14), (1, .int 3), (2, .int 1)]) (st' := [.int 1]) (μ' := μ) (by rfl) ?_
      exact zJ hJ2 rfl rfl rfl
    · have h3 : (decide ((μ.1 14 7) = 0)) = true := decide_eq_true (cn_ne.mp h3)
      refine z_rcs hc hH 5 (pc' := 44) (lv' := [(0, .ref 14), (1, .int 3), (2, .int 1)]) (st' := [.int 1]) (μ' := μ) (by rfl) ?_
      exact zJ hJ2 rfl rfl rfl
  · have h1 : (decide ((μ.1 9 4) ≤ (3 : Int32))) = false := decide_eq_false (cn_ge.mp h1)
    refine z_rcs hc hH 3 (pc' := 16) (lv' := [(0, .ref 14), (1, .int 3), (2, .int 1)]) (st' := [.int 3, .ref 15]) (μ' := μ) (by rfl) ?_
    refine zq_iald hc hH (by rfl) 4 (by decide +kernel) (show vp_in (nI 3) 4 from vp_in_nI (by decide) (by decide)) ?_
    show Z 0 17 [(0, .ref 14), (1, .int 3), (2, .int 1)] [.int (μ.1 15 3)] μ
    refine z_rcs hc hH 1 (pc' := 18) (lv' := [(0, .ref 14), (1, .int 3), (2, .int 1)]) (st' := [.int 3, .int (μ.1 15 3)]) (μ' := μ) (by rfl) ?_
    have hJ4 : Z 0 26 [(0, .ref 14), (1, .int 3), (2, .int 1)] [.int (nB (decide ((μ.1 15 3) = 3)))] μ := by
      exact hr 0 26 _ _ _ (some (.int (nB (decide ((μ.1 15 3) = 3))))) (by decide +kernel) ((fun b : Bool => (by cases b <;> rfl : z_rn mi_X1_isHidden 26 [.int (nB b)] = some (some (.int (nB b))))) (decide ((μ.1 15 3) = 3))) (⟨rfl, (by simp only [h1, lb_f, Int64.or_zero, Int32.add_zero, nB_t, nB_f, Bool.not_true, Bool.not_false, Bool.and_true, Bool.true_and, Bool.false_and, Bool.and_false, Bool.or_true, Bool.true_or, Bool.false_or, Bool.or_false, cond_true, cond_false])⟩)
    refine zq_ic hc hH (by rfl) (tg := 25) (by rfl) (fun h5 => ?_) (fun h5 => ?_)
    · have h5 : (decide ((μ.1 15 3) = 3)) = false := decide_eq_false (cm_ne.mp h5)
      refine z_rcs hc hH 1 (pc' := 26) (lv' := [(0, .ref 14), (1, .int 3), (2, .int 1)]) (st' := [.int 0]) (μ' := μ) (by rfl) ?_
      exact zJ hJ4 rfl (by first | with_reducible rfl | (simp only [h5, lb_f, Int64.or_zero, Int32.add_zero, nB_t, nB_f, Bool.not_true, Bool.not_false, Bool.and_true, Bool.true_and, Bool.false_and, Bool.and_false, Bool.or_true, Bool.true_or, Bool.false_or, Bool.or_false, cond_true, cond_false]; done) | rfl) rfl
    · have h5 : (decide ((μ.1 15 3) = 3)) = true := decide_eq_true (cn_ne.mp h5)
      refine z_rcs hc hH 2 (pc' := 26) (lv' := [(0, .ref 14), (1, .int 3), (2, .int 1)]) (st' := [.int 1]) (μ' := μ) (by rfl) ?_
      exact zJ hJ4 rfl (by first | with_reducible rfl | (simp only [h5, lb_f, Int64.or_zero, Int32.add_zero, nB_t, nB_f, Bool.not_true, Bool.not_false, Bool.and_true, Bool.true_and, Bool.false_and, Bool.and_false, Bool.or_true, Bool.true_or, Bool.false_or, Bool.or_false, cond_true, cond_false]; done) | rfl) rfl
theorem fb_X1_isHidden_3_2 (d : Nat) (hd : 1 ≤ d) (μ : zM) (ht : μ.2.2 14 = 9) : z_C d mi_X1_isHidden [.ref 14, .int 3, .int 2] μ (zR μ (.int (nB ((decide ((μ.1 9 4) ≤ (3 : Int32))) || (decide ((μ.1 15 3) = 3)))))) := by
  refine z_C_in (by decide) (by omega) (fun d' Z ed hc hr => ?_)
  have hH : zH mi_X1_isHidden zt_X1_isHidden 79 1 3 := hh_X1_isHidden
  refine z_rcs hc hH 2 (pc' := 2) (lv' := [(0, .ref 14), (1, .int 3), (2, .int 2)]) (st' := [.ref 14, .int 3]) (μ' := μ) (by rfl) ?_
  refine zq_tget hc hH (by rfl) (ci := 0) (f := 5) (t := 9) (by decide +kernel) ht (by decide) ?_
  refine z_rcs hc hH 1 (pc' := 8) (lv' := [(0, .ref 14), (1, .int 3), (2, .int 2)]) (st' := [.int (μ.1 9 4), .int 3]) (μ' := μ) (by rfl) ?_
  refine zq_ic hc hH (by rfl) (tg := 27) (by rfl) (fun h1 => ?_) (fun h1 => ?_)
  · have h1 : (decide ((μ.1 9 4) ≤ (3 : Int32))) = true := decide_eq_true (cm_ge.mp h1)
    refine z_rcs hc hH 2 (pc' := 31) (lv' := [(0, .ref 14), (1, .int 3), (2, .int 2)]) (st' := [.int (μ.1 14 7)]) (μ' := μ) (by rfl) ?_
    have hJ2 : Z 0 44 [(0, .ref 14), (1, .int 3), (2, .int 2)] [.int 1] μ := by
      exact hr 0 44 _ _ _ (some (.int 1)) (by decide +kernel) (z_rx_ok hH (by rfl)) (⟨rfl, (by simp only [h1, lb_f, Int64.or_zero, Int32.add_zero, nB_t, nB_f, Bool.not_true, Bool.not_false, Bool.and_true, Bool.true_and, Bool.false_and, Bool.and_false, Bool.or_true, Bool.true_or, Bool.false_or, Bool.or_false, cond_true, cond_false])⟩)
    refine zq_if hc hH (by rfl) (tg := 39) (by rfl) (fun h3 => ?_) (fun h3 => ?_)
    · have h3 : (decide ((μ.1 14 7) = 0)) = false := decide_eq_false (cm_ne.mp h3)
      refine z_rcs hc hH 2 (pc' := 44) (lv' := [(0, .ref 14), (1, .int 3), (2, .int 2)]) (st' := [.int 1]) (μ' := μ) (by rfl) ?_
      exact zJ hJ2 rfl rfl rfl
    · have h3 : (decide ((μ.1 14 7) = 0)) = true := decide_eq_true (cn_ne.mp h3)
      refine z_rcs hc hH 5 (pc' := 44) (lv' := [(0, .ref 14), (1, .int 3), (2, .int 2)]) (st' := [.int 1]) (μ' := μ) (by rfl) ?_
      exact zJ hJ2 rfl rfl rfl
  · have h1 : (decide ((μ.1 9 4) ≤ (3 : Int32))) = false := decide_eq_false (cn_ge.mp h1)
    refine z_rcs hc hH 3 (pc' := 16) (lv' := [(0, .ref 14), (1, .int 3), (2, .int 2)]) (st' := [.int 3, .ref 15]) (μ' := μ) (by rfl) ?_
    refine zq_iald hc hH (by rfl) 4 (by decide +kernel) (show vp_in (nI 3) 4 from vp_in_nI (by decide) (by decide)) ?_
    show Z 0 17 [(0, .ref 14), (1, .int 3), (2, .int 2)] [.int (μ.1 15 3)] μ
    refine z_rcs hc hH 1 (pc' := 18) (lv' := [(0, .ref 14), (1, .int 3), (2, .int 2)]) (st' := [.int 3, .int (μ.1 15 3)]) (μ' := μ) (by rfl) ?_
    have hJ4 : Z 0 26 [(0, .ref 14), (1, .int 3), (2, .int 2)] [.int (nB (decide ((μ.1 15 3) = 3)))] μ := by
      exact hr 0 26 _ _ _ (some (.int (nB (decide ((μ.1 15 3) = 3))))) (by decide +kernel) ((fun b : Bool => (by cases b <;> rfl : z_rn mi_X1_isHidden 26 [.int (nB b)] = some (some (.int (nB b))))) (decide ((μ.1 15 3) = 3))) (⟨rfl, (by simp only [h1, lb_f, Int64.or_zero, Int32.add_zero, nB_t, nB_f, Bool.not_true, Bool.not_false, Bool.and_true, Bool.true_and, Bool.false_and, Bool.and_false, Bool.or_true, Bool.true_or, Bool.false_or, Bool.or_false, cond_true, cond_false])⟩)
    refine zq_ic hc hH (by rfl) (tg := 25) (by rfl) (fun h5 => ?_) (fun h5 => ?_)
    · have h5 : (decide ((μ.1 15 3) = 3)) = false := decide_eq_false (cm_ne.mp h5)
      refine z_rcs hc hH 1 (pc' := 26) (lv' := [(0, .ref 14), (1, .int 3), (2, .int 2)]) (st' := [.int 0]) (μ' := μ) (by rfl) ?_
      exact zJ hJ4 rfl (by first | with_reducible rfl | (simp only [h5, lb_f, Int64.or_zero, Int32.add_zero, nB_t, nB_f, Bool.not_true, Bool.not_false, Bool.and_true, Bool.true_and, Bool.false_and, Bool.and_false, Bool.or_true, Bool.true_or, Bool.false_or, Bool.or_false, cond_true, cond_false]; done) | rfl) rfl
    · have h5 : (decide ((μ.1 15 3) = 3)) = true := decide_eq_true (cn_ne.mp h5)
      refine z_rcs hc hH 2 (pc' := 26) (lv' := [(0, .ref 14), (1, .int 3), (2, .int 2)]) (st' := [.int 1]) (μ' := μ) (by rfl) ?_
      exact zJ hJ4 rfl (by first | with_reducible rfl | (simp only [h5, lb_f, Int64.or_zero, Int32.add_zero, nB_t, nB_f, Bool.not_true, Bool.not_false, Bool.and_true, Bool.true_and, Bool.false_and, Bool.and_false, Bool.or_true, Bool.true_or, Bool.false_or, Bool.or_false, cond_true, cond_false]; done) | rfl) rfl
theorem fb_X1_isHidden_3_3 (d : Nat) (hd : 1 ≤ d) (μ : zM) (ht : μ.2.2 14 = 9) : z_C d mi_X1_isHidden [.ref 14, .int 3, .int 3] μ (zR μ (.int (nB (bif decide ((μ.1 9 4) ≤ (3 : Int32)) then !(decide ((μ.1 14 7) = 0)) else decide ((μ.1 15 3) = 3))))) := by
  refine z_C_in (by decide) (by omega) (fun d' Z ed hc hr => ?_)
  have hH : zH mi_X1_isHidden zt_X1_isHidden 79 1 3 := hh_X1_isHidden
  refine z_rcs hc hH 2 (pc' := 2) (lv' := [(0, .ref 14), (1, .int 3), (2, .int 3)]) (st' := [.ref 14, .int 3]) (μ' := μ) (by rfl) ?_
  refine zq_tget hc hH (by rfl) (ci := 0) (f := 5) (t := 9) (by decide +kernel) ht (by decide) ?_
  refine z_rcs hc hH 1 (pc' := 8) (lv' := [(0, .ref 14), (1, .int 3), (2, .int 3)]) (st' := [.int (μ.1 9 4), .int 3]) (μ' := μ) (by rfl) ?_
  refine zq_ic hc hH (by rfl) (tg := 27) (by rfl) (fun h1 => ?_) (fun h1 => ?_)
  · have h1 : (decide ((μ.1 9 4) ≤ (3 : Int32))) = true := decide_eq_true (cm_ge.mp h1)
    refine z_rcs hc hH 2 (pc' := 31) (lv' := [(0, .ref 14), (1, .int 3), (2, .int 3)]) (st' := [.int (μ.1 14 7)]) (μ' := μ) (by rfl) ?_
    have hJ2 : Z 0 44 [(0, .ref 14), (1, .int 3), (2, .int 3)] [.int (nB (!(decide ((μ.1 14 7) = 0))))] μ := by
      exact hr 0 44 _ _ _ (some (.int (nB (!(decide ((μ.1 14 7) = 0)))))) (by decide +kernel) ((fun b : Bool => (by cases b <;> rfl : z_rn mi_X1_isHidden 44 [.int (nB b)] = some (some (.int (nB b))))) (!(decide ((μ.1 14 7) = 0)))) (⟨rfl, (by simp only [h1, lb_f, Int64.or_zero, Int32.add_zero, nB_t, nB_f, Bool.not_true, Bool.not_false, Bool.and_true, Bool.true_and, Bool.false_and, Bool.and_false, Bool.or_true, Bool.true_or, Bool.false_or, Bool.or_false, cond_true, cond_false])⟩)
    refine zq_if hc hH (by rfl) (tg := 39) (by rfl) (fun h3 => ?_) (fun h3 => ?_)
    · have h3 : (decide ((μ.1 14 7) = 0)) = false := decide_eq_false (cm_ne.mp h3)
      refine z_rcs hc hH 2 (pc' := 44) (lv' := [(0, .ref 14), (1, .int 3), (2, .int 3)]) (st' := [.int 1]) (μ' := μ) (by rfl) ?_
      exact zJ hJ2 rfl (by first | with_reducible rfl | (simp only [h3, lb_f, Int64.or_zero, Int32.add_zero, nB_t, nB_f, Bool.not_true, Bool.not_false, Bool.and_true, Bool.true_and, Bool.false_and, Bool.and_false, Bool.or_true, Bool.true_or, Bool.false_or, Bool.or_false, cond_true, cond_false]; done) | rfl) rfl
    · have h3 : (decide ((μ.1 14 7) = 0)) = true := decide_eq_true (cn_ne.mp h3)
      refine z_rcs hc hH 4 (pc' := 44) (lv' := [(0, .ref 14), (1, .int 3), (2, .int 3)]) (st' := [.int 0]) (μ' := μ) (by rfl) ?_
      exact zJ hJ2 rfl (by first | with_reducible rfl | (simp only [h3, lb_f, Int64.or_zero, Int32.add_zero, nB_t, nB_f, Bool.not_true, Bool.not_false, Bool.and_true, Bool.true_and, Bool.false_and, Bool.and_false, Bool.or_true, Bool.true_or, Bool.false_or, Bool.or_false, cond_true, cond_false]; done) | rfl) rfl
  · have h1 : (decide ((μ.1 9 4) ≤ (3 : Int32))) = false := decide_eq_false (cn_ge.mp h1)
    refine z_rcs hc hH 3 (pc' := 16) (lv' := [(0, .ref 14), (1, .int 3), (2, .int 3)]) (st' := [.int 3, .ref 15]) (μ' := μ) (by rfl) ?_
    refine zq_iald hc hH (by rfl) 4 (by decide +kernel) (show vp_in (nI 3) 4 from vp_in_nI (by decide) (by decide)) ?_
    show Z 0 17 [(0, .ref 14), (1, .int 3), (2, .int 3)] [.int (μ.1 15 3)] μ
    refine z_rcs hc hH 1 (pc' := 18) (lv' := [(0, .ref 14), (1, .int 3), (2, .int 3)]) (st' := [.int 3, .int (μ.1 15 3)]) (μ' := μ) (by rfl) ?_
    have hJ4 : Z 0 26 [(0, .ref 14), (1, .int 3), (2, .int 3)] [.int (nB (decide ((μ.1 15 3) = 3)))] μ := by
      exact hr 0 26 _ _ _ (some (.int (nB (decide ((μ.1 15 3) = 3))))) (by decide +kernel) ((fun b : Bool => (by cases b <;> rfl : z_rn mi_X1_isHidden 26 [.int (nB b)] = some (some (.int (nB b))))) (decide ((μ.1 15 3) = 3))) (⟨rfl, (by simp only [h1, lb_f, Int64.or_zero, Int32.add_zero, nB_t, nB_f, Bool.not_true, Bool.not_false, Bool.and_true, Bool.true_and, Bool.false_and, Bool.and_false, Bool.or_true, Bool.true_or, Bool.false_or, Bool.or_false, cond_true, cond_false])⟩)
    refine zq_ic hc hH (by rfl) (tg := 25) (by rfl) (fun h5 => ?_) (fun h5 => ?_)
    · have h5 : (decide ((μ.1 15 3) = 3)) = false := decide_eq_false (cm_ne.mp h5)
      refine z_rcs hc hH 1 (pc' := 26) (lv' := [(0, .ref 14), (1, .int 3), (2, .int 3)]) (st' := [.int 0]) (μ' := μ) (by rfl) ?_
      exact zJ hJ4 rfl (by first | with_reducible rfl | (simp only [h5, lb_f, Int64.or_zero, Int32.add_zero, nB_t, nB_f, Bool.not_true, Bool.not_false, Bool.and_true, Bool.true_and, Bool.false_and, Bool.and_false, Bool.or_true, Bool.true_or, Bool.false_or, Bool.or_false, cond_true, cond_false]; done) | rfl) rfl
    · have h5 : (decide ((μ.1 15 3) = 3)) = true := decide_eq_true (cn_ne.mp h5)
      refine z_rcs hc hH 2 (pc' := 26) (lv' := [(0, .ref 14), (1, .int 3), (2, .int 3)]) (st' := [.int 1]) (μ' := μ) (by rfl) ?_
      exact zJ hJ4 rfl (by first | with_reducible rfl | (simp only [h5, lb_f, Int64.or_zero, Int32.add_zero, nB_t, nB_f, Bool.not_true, Bool.not_false, Bool.and_true, Bool.true_and, Bool.false_and, Bool.and_false, Bool.or_true, Bool.true_or, Bool.false_or, Bool.or_false, cond_true, cond_false]; done) | rfl) rfl
theorem fb_X1_isHidden_3_4 (d : Nat) (hd : 1 ≤ d) (μ : zM) (ht : μ.2.2 14 = 9) : z_C d mi_X1_isHidden [.ref 14, .int 3, .int 4] μ (zR μ (.int (nB ((decide ((μ.1 9 4) ≤ (3 : Int32))) || (decide ((μ.1 15 3) = 3)))))) := by
  refine z_C_in (by decide) (by omega) (fun d' Z ed hc hr => ?_)
  have hH : zH mi_X1_isHidden zt_X1_isHidden 79 1 3 := hh_X1_isHidden
  refine z_rcs hc hH 2 (pc' := 2) (lv' := [(0, .ref 14), (1, .int 3), (2, .int 4)]) (st' := [.ref 14, .int 3]) (μ' := μ) (by rfl) ?_
  refine zq_tget hc hH (by rfl) (ci := 0) (f := 5) (t := 9) (by decide +kernel) ht (by decide) ?_
  refine z_rcs hc hH 1 (pc' := 8) (lv' := [(0, .ref 14), (1, .int 3), (2, .int 4)]) (st' := [.int (μ.1 9 4), .int 3]) (μ' := μ) (by rfl) ?_
  refine zq_ic hc hH (by rfl) (tg := 27) (by rfl) (fun h1 => ?_) (fun h1 => ?_)
  · have h1 : (decide ((μ.1 9 4) ≤ (3 : Int32))) = true := decide_eq_true (cm_ge.mp h1)
    refine z_rcs hc hH 2 (pc' := 31) (lv' := [(0, .ref 14), (1, .int 3), (2, .int 4)]) (st' := [.int (μ.1 14 7)]) (μ' := μ) (by rfl) ?_
    have hJ2 : Z 0 44 [(0, .ref 14), (1, .int 3), (2, .int 4)] [.int 1] μ := by
      exact hr 0 44 _ _ _ (some (.int 1)) (by decide +kernel) (z_rx_ok hH (by rfl)) (⟨rfl, (by simp only [h1, lb_f, Int64.or_zero, Int32.add_zero, nB_t, nB_f, Bool.not_true, Bool.not_false, Bool.and_true, Bool.true_and, Bool.false_and, Bool.and_false, Bool.or_true, Bool.true_or, Bool.false_or, Bool.or_false, cond_true, cond_false])⟩)
    refine zq_if hc hH (by rfl) (tg := 39) (by rfl) (fun h3 => ?_) (fun h3 => ?_)
    · have h3 : (decide ((μ.1 14 7) = 0)) = false := decide_eq_false (cm_ne.mp h3)
      refine z_rcs hc hH 2 (pc' := 44) (lv' := [(0, .ref 14), (1, .int 3), (2, .int 4)]) (st' := [.int 1]) (μ' := μ) (by rfl) ?_
      exact zJ hJ2 rfl rfl rfl
    · have h3 : (decide ((μ.1 14 7) = 0)) = true := decide_eq_true (cn_ne.mp h3)
      refine z_rcs hc hH 5 (pc' := 44) (lv' := [(0, .ref 14), (1, .int 3), (2, .int 4)]) (st' := [.int 1]) (μ' := μ) (by rfl) ?_
      exact zJ hJ2 rfl rfl rfl
  · have h1 : (decide ((μ.1 9 4) ≤ (3 : Int32))) = false := decide_eq_false (cn_ge.mp h1)
    refine z_rcs hc hH 3 (pc' := 16) (lv' := [(0, .ref 14), (1, .int 3), (2, .int 4)]) (st' := [.int 3, .ref 15]) (μ' := μ) (by rfl) ?_
    refine zq_iald hc hH (by rfl) 4 (by decide +kernel) (show vp_in (nI 3) 4 from vp_in_nI (by decide) (by decide)) ?_
    show Z 0 17 [(0, .ref 14), (1, .int 3), (2, .int 4)] [.int (μ.1 15 3)] μ
    refine z_rcs hc hH 1 (pc' := 18) (lv' := [(0, .ref 14), (1, .int 3), (2, .int 4)]) (st' := [.int 3, .int (μ.1 15 3)]) (μ' := μ) (by rfl) ?_
    have hJ4 : Z 0 26 [(0, .ref 14), (1, .int 3), (2, .int 4)] [.int (nB (decide ((μ.1 15 3) = 3)))] μ := by
      exact hr 0 26 _ _ _ (some (.int (nB (decide ((μ.1 15 3) = 3))))) (by decide +kernel) ((fun b : Bool => (by cases b <;> rfl : z_rn mi_X1_isHidden 26 [.int (nB b)] = some (some (.int (nB b))))) (decide ((μ.1 15 3) = 3))) (⟨rfl, (by simp only [h1, lb_f, Int64.or_zero, Int32.add_zero, nB_t, nB_f, Bool.not_true, Bool.not_false, Bool.and_true, Bool.true_and, Bool.false_and, Bool.and_false, Bool.or_true, Bool.true_or, Bool.false_or, Bool.or_false, cond_true, cond_false])⟩)
    refine zq_ic hc hH (by rfl) (tg := 25) (by rfl) (fun h5 => ?_) (fun h5 => ?_)
    · have h5 : (decide ((μ.1 15 3) = 3)) = false := decide_eq_false (cm_ne.mp h5)
      refine z_rcs hc hH 1 (pc' := 26) (lv' := [(0, .ref 14), (1, .int 3), (2, .int 4)]) (st' := [.int 0]) (μ' := μ) (by rfl) ?_
      exact zJ hJ4 rfl (by first | with_reducible rfl | (simp only [h5, lb_f, Int64.or_zero, Int32.add_zero, nB_t, nB_f, Bool.not_true, Bool.not_false, Bool.and_true, Bool.true_and, Bool.false_and, Bool.and_false, Bool.or_true, Bool.true_or, Bool.false_or, Bool.or_false, cond_true, cond_false]; done) | rfl) rfl
    · have h5 : (decide ((μ.1 15 3) = 3)) = true := decide_eq_true (cn_ne.mp h5)
      refine z_rcs hc hH 2 (pc' := 26) (lv' := [(0, .ref 14), (1, .int 3), (2, .int 4)]) (st' := [.int 1]) (μ' := μ) (by rfl) ?_
      exact zJ hJ4 rfl (by first | with_reducible rfl | (simp only [h5, lb_f, Int64.or_zero, Int32.add_zero, nB_t, nB_f, Bool.not_true, Bool.not_false, Bool.and_true, Bool.true_and, Bool.false_and, Bool.and_false, Bool.or_true, Bool.true_or, Bool.false_or, Bool.or_false, cond_true, cond_false]; done) | rfl) rfl
