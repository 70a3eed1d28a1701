/-! the class: hidden SETS, FU -/
set_option maxRecDepth 8000
theorem zq_tget {xs : Nat × (Nat → Int32)} {j : Nat} {C : Nat → List Value → zM → zQ → Prop} {Z : zK} {code : zT} {np oc nL : Nat} {b pc : Nat} {lv : zL} {μ : zM} (h : z_clo xs j C Z) (hH : zH j code np oc nL) {idx : Nat} (hi : z_tk code.2.1 pc = some (.getfield idx)) {r ci f t : Nat} {st : List Value} (h1 : z_lk (z_flds.getD oc []) idx = some (ci, f) ∧ (Nat.blt r np && (Nat.beq (z_sh r).1 0 && (Nat.beq (z_sh r).2.1 ci && Nat.blt f (z_sh r).2.2))) = true ∧ z_fk ci f = 4) (ht : μ.2.2 r = t) (h2 : (Nat.beq t 0 || Nat.ble 79 t) = false) (k : Z b (pc + 3) lv (.ref t :: st) μ) : Z b pc lv (.ref r :: st) μ := by
  refine zq_st h hH hi ?_ k
  show (match z_hp xs np oc (.getfield idx) (.ref r :: st) μ with | some (st', μ') => some (pc + 3, lv, st', μ') | none => none) = _
  unfold z_hp z_gv
  simp only [h1.1, h1.2.1, h1.2.2, cond_true]
  unfold z_rv
  rw [ht, h2]
  rfl
theorem fb_bitCount (d : Nat) (hd : 1 ≤ d) (μ : zM) (x : Int64) : z_C d mi_J13_bitCount_95d88 [.long x] μ (zR μ (.int ((((((((((x - (((x.toUInt64 >>> ((1 : Int32).toInt64.toUInt64 &&& Int64.toUInt64 63)).toInt64) &&& 6148914691236517205)) &&& 3689348814741910323) + ((((x - (((x.toUInt64 >>> ((1 : Int32).toInt64.toUInt64 &&& Int64.toUInt64 63)).toInt64) &&& 6148914691236517205)).toUInt64 >>> ((2 : Int32).toInt64.toUInt64 &&& Int64.toUInt64 63)).toInt64) &&& 3689348814741910323)) + (((((x - (((x.toUInt64 >>> ((1 : Int32).toInt64.toUInt64 &&& Int64.toUInt64 63)).toInt64) &&& 6148914691236517205)) &&& 3689348814741910323) + ((((x - (((x.toUInt64 >>> ((1 : Int32).toInt64.toUInt64 &&& Int64.toUInt64 63)).toInt64) &&& 6148914691236517205)).toUInt64 >>> ((2 : Int32).toInt64.toUInt64 &&& Int64.toUInt64 63)).toInt64) &&& 3689348814741910323)).toUInt64 >>> ((4 : Int32).toInt64.toUInt64 &&& Int64.toUInt64 63)).toInt64)) &&& 1085102592571150095) + (((((((x - (((x.toUInt64 >>> ((1 : Int32).toInt64.toUInt64 &&& Int64.toUInt64 63)).toInt64) &&& 6148914691236517205)) &&& 3689348814741910323) + ((((x - (((x.toUInt64 >>> ((1 : Int32).toInt64.toUInt64 &&& Int64.toUInt64 63)).toInt64) &&& 6148914691236517205)).toUInt64 >>> ((2 : Int32).toInt64.toUInt64 &&& Int64.toUInt64 63)).toInt64) &&& 3689348814741910323)) + (((((x - (((x.toUInt64 >>> ((1 : Int32).toInt64.toUInt64 &&& Int64.toUInt64 63)).toInt64) &&& 6148914691236517205)) &&& 3689348814741910323) + ((((x - (((x.toUInt64 >>> ((1 : Int32).toInt64.toUInt64 &&& Int64.toUInt64 63)).toInt64) &&& 6148914691236517205)).toUInt64 >>> ((2 : Int32).toInt64.toUInt64 &&& Int64.toUInt64 63)).toInt64) &&& 3689348814741910323)).toUInt64 >>> ((4 : Int32).toInt64.toUInt64 &&& Int64.toUInt64 63)).toInt64)) &&& 1085102592571150095).toUInt64 >>> ((8 : Int32).toInt64.toUInt64 &&& Int64.toUInt64 63)).toInt64)) + ((((((((x - (((x.toUInt64 >>> ((1 : Int32).toInt64.toUInt64 &&& Int64.toUInt64 63)).toInt64) &&& 6148914691236517205)) &&& 3689348814741910323) + ((((x - (((x.toUInt64 >>> ((1 : Int32).toInt64.toUInt64 &&& Int64.toUInt64 63)).toInt64) &&& 6148914691236517205)).toUInt64 >>> ((2 : Int32).toInt64.toUInt64 &&& Int64.toUInt64 63)).toInt64) &&& 3689348814741910323)) + (((((x - (((x.toUInt64 >>> ((1 : Int32).toInt64.toUInt64 &&& Int64.toUInt64 63)).toInt64) &&& 6148914691236517205)) &&& 3689348814741910323) + ((((x - (((x.toUInt64 >>> ((1 : Int32).toInt64.toUInt64 &&& Int64.toUInt64 63)).toInt64) &&& 6148914691236517205)).toUInt64 >>> ((2 : Int32).toInt64.toUInt64 &&& Int64.toUInt64 63)).toInt64) &&& 3689348814741910323)).toUInt64 >>> ((4 : Int32).toInt64.toUInt64 &&& Int64.toUInt64 63)).toInt64)) &&& 1085102592571150095) + (((((((x - (((x.toUInt64 >>> ((1 : Int32).toInt64.toUInt64 &&& Int64.toUInt64 63)).toInt64) &&& 6148914691236517205)) &&& 3689348814741910323) + ((((x - (((x.toUInt64 >>> ((1 : Int32).toInt64.toUInt64 &&& Int64.toUInt64 63)).toInt64) &&& 6148914691236517205)).toUInt64 >>> ((2 : Int32).toInt64.toUInt64 &&& Int64.toUInt64 63)).toInt64) &&& 3689348814741910323)) + (((((x - (((x.toUInt64 >>> ((1 : Int32).toInt64.toUInt64 &&& Int64.toUInt64 63)).toInt64) &&& 6148914691236517205)) &&& 3689348814741910323) + ((((x - (((x.toUInt64 >>> ((1 : Int32).toInt64.toUInt64 &&& Int64.toUInt64 63)).toInt64) &&& 6148914691236517205)).toUInt64 >>> ((2 : Int32).toInt64.toUInt64 &&& Int64.toUInt64 63)).toInt64) &&& 3689348814741910323)).toUInt64 >>> ((4 : Int32).toInt64.toUInt64 &&& Int64.toUInt64 63)).toInt64)) &&& 1085102592571150095).toUInt64 >>> ((8 : Int32).toInt64.toUInt64 &&& Int64.toUInt64 63)).toInt64)).toUInt64 >>> ((16 : Int32).toInt64.toUInt64 &&& Int64.toUInt64 63)).toInt64)) + (((((((((x - (((x.toUInt64 >>> ((1 : Int32).toInt64.toUInt64 &&& Int64.toUInt64 63)).toInt64) &&& 6148914691236517205)) &&& 3689348814741910323) + ((((x - (((x.toUInt64 >>> ((1 : Int32).toInt64.toUInt64 &&& Int64.toUInt64 63)).toInt64) &&& 6148914691236517205)).toUInt64 >>> ((2 : Int32).toInt64.toUInt64 &&& Int64.toUInt64 63)).toInt64) &&& 3689348814741910323)) + (((((x - (((x.toUInt64 >>> ((1 : Int32).toInt64.toUInt64 &&& Int64.toUInt64 63)).toInt64) &&& 6148914691236517205)) &&& 3689348814741910323) + ((((x - (((x.toUInt64 >>> ((1 : Int32).toInt64.toUInt64 &&& Int64.toUInt64 63)).toInt64) &&& 6148914691236517205)).toUInt64 >>> ((2 : Int32).toInt64.toUInt64 &&& Int64.toUInt64 63)).toInt64) &&& 3689348814741910323)).toUInt64 >>> ((4 : Int32).toInt64.toUInt64 &&& Int64.toUInt64 63)).toInt64)) &&& 1085102592571150095) + (((((((x - (((x.toUInt64 >>> ((1 : Int32).toInt64.toUInt64 &&& Int64.toUInt64 63)).toInt64) &&& 6148914691236517205)) &&& 3689348814741910323) + ((((x - (((x.toUInt64 >>> ((1 : Int32).toInt64.toUInt64 &&& Int64.toUInt64 63)).toInt64) &&& 6148914691236517205)).toUInt64 >>> ((2 : Int32).toInt64.toUInt64 &&& Int64.toUInt64 63)).toInt64) &&& 3689348814741910323)) + (((((x - (((x.toUInt64 >>> ((1 : Int32).toInt64.toUInt64 &&& Int64.toUInt64 63)).toInt64) &&& 6148914691236517205)) &&& 3689348814741910323) + ((((x - (((x.toUInt64 >>> ((1 : Int32).toInt64.toUInt64 &&& Int64.toUInt64 63)).toInt64) &&& 6148914691236517205)).toUInt64 >>> ((2 : Int32).toInt64.toUInt64 &&& Int64.toUInt64 63)).toInt64) &&& 3689348814741910323)).toUInt64 >>> ((4 : Int32).toInt64.toUInt64 &&& Int64.toUInt64 63)).toInt64)) &&& 1085102592571150095).toUInt64 >>> ((8 : Int32).toInt64.toUInt64 &&& Int64.toUInt64 63)).toInt64)) + ((((((((x - (((x.toUInt64 >>> ((1 : Int32).toInt64.toUInt64 &&& Int64.toUInt64 63)).toInt64) &&& 6148914691236517205)) &&& 3689348814741910323) + ((((x - (((x.toUInt64 >>> ((1 : Int32).toInt64.toUInt64 &&& Int64.toUInt64 63)).toInt64) &&& 6148914691236517205)).toUInt64 >>> ((2 : Int32).toInt64.toUInt64 &&& Int64.toUInt64 63)).toInt64) &&& 3689348814741910323)) + (((((x - (((x.toUInt64 >>> ((1 : Int32).toInt64.toUInt64 &&& Int64.toUInt64 63)).toInt64) &&& 6148914691236517205)) &&& 3689348814741910323) + ((((x - (((x.toUInt64 >>> ((1 : Int32).toInt64.toUInt64 &&& Int64.toUInt64 63)).toInt64) &&& 6148914691236517205)).toUInt64 >>> ((2 : Int32).toInt64.toUInt64 &&& Int64.toUInt64 63)).toInt64) &&& 3689348814741910323)).toUInt64 >>> ((4 : Int32).toInt64.toUInt64 &&& Int64.toUInt64 63)).toInt64)) &&& 1085102592571150095) + (((((((x - (((x.toUInt64 >>> ((1 : Int32).toInt64.toUInt64 &&& Int64.toUInt64 63)).toInt64) &&& 6148914691236517205)) &&& 3689348814741910323) + ((((x - (((x.toUInt64 >>> ((1 : Int32).toInt64.toUInt64 &&& Int64.toUInt64 63)).toInt64) &&& 6148914691236517205)).toUInt64 >>> ((2 : Int32).toInt64.toUInt64 &&& Int64.toUInt64 63)).toInt64) &&& 3689348814741910323)) + (((((x - (((x.toUInt64 >>> ((1 : Int32).toInt64.toUInt64 &&& Int64.toUInt64 63)).toInt64) &&& 6148914691236517205)) &&& 3689348814741910323) + ((((x - (((x.toUInt64 >>> ((1 : Int32).toInt64.toUInt64 &&& Int64.toUInt64 63)).toInt64) &&& 6148914691236517205)).toUInt64 >>> ((2 : Int32).toInt64.toUInt64 &&& Int64.toUInt64 63)).toInt64) &&& 3689348814741910323)).toUInt64 >>> ((4 : Int32).toInt64.toUInt64 &&& Int64.toUInt64 63)).toInt64)) &&& 1085102592571150095).toUInt64 >>> ((8 : Int32).toInt64.toUInt64 &&& Int64.toUInt64 63)).toInt64)).toUInt64 >>> ((16 : Int32).toInt64.toUInt64 &&& Int64.toUInt64 63)).toInt64)).toUInt64 >>> ((32 : Int32).toInt64.toUInt64 &&& Int64.toUInt64 63)).toInt64)).toInt32) &&& 127))) := by
  refine z_C_in (by decide) (by omega) (fun d' Z ed hc hr => ?_)
  have hH : zH mi_J13_bitCount_95d88 zt_J13_bitCount_95d88 79 8 2 := hh_J13_bitCount_95d88
  refine z_rcs hc hH 48 (pc' := 60) (lv' := [(0, .long ((((((((x - (((x.toUInt64 >>> ((1 : Int32).toInt64.toUInt64 &&& Int64.toUInt64 63)).toInt64) &&& 6148914691236517205)) &&& 3689348814741910323) + ((((x - (((x.toUInt64 >>> ((1 : Int32).toInt64.toUInt64 &&& Int64.toUInt64 63)).toInt64) &&& 6148914691236517205)).toUInt64 >>> ((2 : Int32).toInt64.toUInt64 &&& Int64.toUInt64 63)).toInt64) &&& 3689348814741910323)) + (((((x - (((x.toUInt64 >>> ((1 : Int32).toInt64.toUInt64 &&& Int64.toUInt64 63)).toInt64) &&& 6148914691236517205)) &&& 3689348814741910323) + ((((x - (((x.toUInt64 >>> ((1 : Int32).toInt64.toUInt64 &&& Int64.toUInt64 63)).toInt64) &&& 6148914691236517205)).toUInt64 >>> ((2 : Int32).toInt64.toUInt64 &&& Int64.toUInt64 63)).toInt64) &&& 3689348814741910323)).toUInt64 >>> ((4 : Int32).toInt64.toUInt64 &&& Int64.toUInt64 63)).toInt64)) &&& 1085102592571150095) + (((((((x - (((x.toUInt64 >>> ((1 : Int32).toInt64.toUInt64 &&& Int64.toUInt64 63)).toInt64) &&& 6148914691236517205)) &&& 3689348814741910323) + ((((x - (((x.toUInt64 >>> ((1 : Int32).toInt64.toUInt64 &&& Int64.toUInt64 63)).toInt64) &&& 6148914691236517205)).toUInt64 >>> ((2 : Int32).toInt64.toUInt64 &&& Int64.toUInt64 63)).toInt64) &&& 3689348814741910323)) + (((((x - (((x.toUInt64 >>> ((1 : Int32).toInt64.toUInt64 &&& Int64.toUInt64 63)).toInt64) &&& 6148914691236517205)) &&& 3689348814741910323) + ((((x - (((x.toUInt64 >>> ((1 : Int32).toInt64.toUInt64 &&& Int64.toUInt64 63)).toInt64) &&& 6148914691236517205)).toUInt64 >>> ((2 : Int32).toInt64.toUInt64 &&& Int64.toUInt64 63)).toInt64) &&& 3689348814741910323)).toUInt64 >>> ((4 : Int32).toInt64.toUInt64 &&& Int64.toUInt64 63)).toInt64)) &&& 1085102592571150095).toUInt64 >>> ((8 : Int32).toInt64.toUInt64 &&& Int64.toUInt64 63)).toInt64)) + ((((((((x - (((x.toUInt64 >>> ((1 : Int32).toInt64.toUInt64 &&& Int64.toUInt64 63)).toInt64) &&& 6148914691236517205)) &&& 3689348814741910323) + ((((x - (((x.toUInt64 >>> ((1 : Int32).toInt64.toUInt64 &&& Int64.toUInt64 63)).toInt64) &&& 6148914691236517205)).toUInt64 >>> ((2 : Int32).toInt64.toUInt64 &&& Int64.toUInt64 63)).toInt64) &&& 3689348814741910323)) + (((((x - (((x.toUInt64 >>> ((1 : Int32).toInt64.toUInt64 &&& Int64.toUInt64 63)).toInt64) &&& 6148914691236517205)) &&& 3689348814741910323) + ((((x - (((x.toUInt64 >>> ((1 : Int32).toInt64.toUInt64 &&& Int64.toUInt64 63)).toInt64) &&& 6148914691236517205)).toUInt64 >>> ((2 : Int32).toInt64.toUInt64 &&& Int64.toUInt64 63)).toInt64) &&& 3689348814741910323)).toUInt64 >>> ((4 : Int32).toInt64.toUInt64 &&& Int64.toUInt64 63)).toInt64)) &&& 1085102592571150095) + (((((((x - (((x.toUInt64 >>> ((1 : Int32).toInt64.toUInt64 &&& Int64.toUInt64 63)).toInt64) &&& 6148914691236517205)) &&& 3689348814741910323) + ((((x - (((x.toUInt64 >>> ((1 : Int32).toInt64.toUInt64 &&& Int64.toUInt64 63)).toInt64) &&& 6148914691236517205)).toUInt64 >>> ((2 : Int32).toInt64.toUInt64 &&& Int64.toUInt64 63)).toInt64) &&& 3689348814741910323)) + (((((x - (((x.toUInt64 >>> ((1 : Int32).toInt64.toUInt64 &&& Int64.toUInt64 63)).toInt64) &&& 6148914691236517205)) &&& 3689348814741910323) + ((((x - (((x.toUInt64 >>> ((1 : Int32).toInt64.toUInt64 &&& Int64.toUInt64 63)).toInt64) &&& 6148914691236517205)).toUInt64 >>> ((2 : Int32).toInt64.toUInt64 &&& Int64.toUInt64 63)).toInt64) &&& 3689348814741910323)).toUInt64 >>> ((4 : Int32).toInt64.toUInt64 &&& Int64.toUInt64 63)).toInt64)) &&& 1085102592571150095).toUInt64 >>> ((8 : Int32).toInt64.toUInt64 &&& Int64.toUInt64 63)).toInt64)).toUInt64 >>> ((16 : Int32).toInt64.toUInt64 &&& Int64.toUInt64 63)).toInt64)) + (((((((((x - (((x.toUInt64 >>> ((1 : Int32).toInt64.toUInt64 &&& Int64.toUInt64 63)).toInt64) &&& 6148914691236517205)) &&& 3689348814741910323) + ((((x - (((x.toUInt64 >>> ((1 : Int32).toInt64.toUInt64 &&& Int64.toUInt64 63)).toInt64) &&& 6148914691236517205)).toUInt64 >>> ((2 : Int32).toInt64.toUInt64 &&& Int64.toUInt64 63)).toInt64) &&& 3689348814741910323)) + (((((x - (((x.toUInt64 >>> ((1 : Int32).toInt64.toUInt64 &&& Int64.toUInt64 63)).toInt64) &&& 6148914691236517205)) &&& 3689348814741910323) + ((((x - (((x.toUInt64 >>> ((1 : Int32).toInt64.toUInt64 &&& Int64.toUInt64 63)).toInt64) &&& 6148914691236517205)).toUInt64 >>> ((2 : Int32).toInt64.toUInt64 &&& Int64.toUInt64 63)).toInt64) &&& 3689348814741910323)).toUInt64 >>> ((4 : Int32).toInt64.toUInt64 &&& Int64.toUInt64 63)).toInt64)) &&& 1085102592571150095) + (((((((x - (((x.toUInt64 >>> ((1 : Int32).toInt64.toUInt64 &&& Int64.toUInt64 63)).toInt64) &&& 6148914691236517205)) &&& 3689348814741910323) + ((((x - (((x.toUInt64 >>> ((1 : Int32).toInt64.toUInt64 &&& Int64.toUInt64 63)).toInt64) &&& 6148914691236517205)).toUInt64 >>> ((2 : Int32).toInt64.toUInt64 &&& Int64.toUInt64 63)).toInt64) &&& 3689348814741910323)) + (((((x - (((x.toUInt64 >>> ((1 : Int32).toInt64.toUInt64 &&& Int64.toUInt64 63)).toInt64) &&& 6148914691236517205)) &&& 3689348814741910323) + ((((x - (((x.toUInt64 >>> ((1 : Int32).toInt64.toUInt64 &&& Int64.toUInt64 63)).toInt64) &&& 6148914691236517205)).toUInt64 >>> ((2 : Int32).toInt64.toUInt64 &&& Int64.toUInt64 63)).toInt64) &&& 3689348814741910323)).toUInt64 >>> ((4 : Int32).toInt64.toUInt64 &&& Int64.toUInt64 63)).toInt64)) &&& 1085102592571150095).toUInt64 >>> ((8 : Int32).toInt64.toUInt64 &&& Int64.toUInt64 63)).toInt64)) + ((((((((x - (((x.toUInt64 >>> ((1 : Int32).toInt64.toUInt64 &&& Int64.toUInt64 63)).toInt64) &&& 6148914691236517205)) &&& 3689348814741910323) + ((((x - (((x.toUInt64 >>> ((1 : Int32).toInt64.toUInt64 &&& Int64.toUInt64 63)).toInt64) &&& 6148914691236517205)).toUInt64 >>> ((2 : Int32).toInt64.toUInt64 &&& Int64.toUInt64 63)).toInt64) &&& 3689348814741910323)) + (((((x - (((x.toUInt64 >>> ((1 : Int32).toInt64.toUInt64 &&& Int64.toUInt64 63)).toInt64) &&& 6148914691236517205)) &&& 3689348814741910323) + ((((x - (((x.toUInt64 >>> ((1 : Int32).toInt64.toUInt64 &&& Int64.toUInt64 63)).toInt64) &&& 6148914691236517205)).toUInt64 >>> ((2 : Int32).toInt64.toUInt64 &&& Int64.toUInt64 63)).toInt64) &&& 3689348814741910323)).toUInt64 >>> ((4 : Int32).toInt64.toUInt64 &&& Int64.toUInt64 63)).toInt64)) &&& 1085102592571150095) + (((((((x - (((x.toUInt64 >>> ((1 : Int32).toInt64.toUInt64 &&& Int64.toUInt64 63)).toInt64) &&& 6148914691236517205)) &&& 3689348814741910323) + ((((x - (((x.toUInt64 >>> ((1 : Int32).toInt64.toUInt64 &&& Int64.toUInt64 63)).toInt64) &&& 6148914691236517205)).toUInt64 >>> ((2 : Int32).toInt64.toUInt64 &&& Int64.toUInt64 63)).toInt64) &&& 3689348814741910323)) + (((((x - (((x.toUInt64 >>> ((1 : Int32).toInt64.toUInt64 &&& Int64.toUInt64 63)).toInt64) &&& 6148914691236517205)) &&& 3689348814741910323) + ((((x - (((x.toUInt64 >>> ((1 : Int32).toInt64.toUInt64 &&& Int64.toUInt64 63)).toInt64) &&& 6148914691236517205)).toUInt64 >>> ((2 : Int32).toInt64.toUInt64 &&& Int64.toUInt64 63)).toInt64) &&& 3689348814741910323)).toUInt64 >>> ((4 : Int32).toInt64.toUInt64 &&& Int64.toUInt64 63)).toInt64)) &&& 1085102592571150095).toUInt64 >>> ((8 : Int32).toInt64.toUInt64 &&& Int64.toUInt64 63)).toInt64)).toUInt64 >>> ((16 : Int32).toInt64.toUInt64 &&& Int64.toUInt64 63)).toInt64)).toUInt64 >>> ((32 : Int32).toInt64.toUInt64 &&& Int64.toUInt64 63)).toInt64)))]) (st' := [.int ((((((((((x - (((x.toUInt64 >>> ((1 : Int32).toInt64.toUInt64 &&& Int64.toUInt64 63)).toInt64) &&& 6148914691236517205)) &&& 3689348814741910323) + ((((x - (((x.toUInt64 >>> ((1 : Int32).toInt64.toUInt64 &&& Int64.toUInt64 63)).toInt64) &&& 6148914691236517205)).toUInt64 >>> ((2 : Int32).toInt64.toUInt64 &&& Int64.toUInt64 63)).toInt64) &&& 3689348814741910323)) + (((((x - (((x.toUInt64 >>> ((1 : Int32).toInt64.toUInt64 &&& Int64.toUInt64 63)).toInt64) &&& 6148914691236517205)) &&& 3689348814741910323) + ((((x - (((x.toUInt64 >>> ((1 : Int32).toInt64.toUInt64 &&& Int64.toUInt64 63)).toInt64) &&& 6148914691236517205)).toUInt64 >>> ((2 : Int32).toInt64.toUInt64 &&& Int64.toUInt64 63)).toInt64) &&& 3689348814741910323)).toUInt64 >>> ((4 : Int32).toInt64.toUInt64 &&& Int64.toUInt64 63)).toInt64)) &&& 1085102592571150095) + (((((((x - (((x.toUInt64 >>> ((1 : Int32).toInt64.toUInt64 &&& Int64.toUInt64 63)).toInt64) &&& 6148914691236517205)) &&& 3689348814741910323) + ((((x - (((x.toUInt64 >>> ((1 : Int32).toInt64.toUInt64 &&& Int64.toUInt64 63)).toInt64) &&& 6148914691236517205)).toUInt64 >>> ((2 : Int32).toInt64.toUInt64 &&& Int64.toUInt64 63)).toInt64) &&& 3689348814741910323)) + (((((x - (((x.toUInt64 >>> ((1 : Int32).toInt64.toUInt64 &&& Int64.toUInt64 63)).toInt64) &&& 6148914691236517205)) &&& 3689348814741910323) + ((((x - (((x.toUInt64 >>> ((1 : Int32).toInt64.toUInt64 &&& Int64.toUInt64 63)).toInt64) &&& 6148914691236517205)).toUInt64 >>> ((2 : Int32).toInt64.toUInt64 &&& Int64.toUInt64 63)).toInt64) &&& 3689348814741910323)).toUInt64 >>> ((4 : Int32).toInt64.toUInt64 &&& Int64.toUInt64 63)).toInt64)) &&& 1085102592571150095).toUInt64 >>> ((8 : Int32).toInt64.toUInt64 &&& Int64.toUInt64 63)).toInt64)) + ((((((((x - (((x.toUInt64 >>> ((1 : Int32).toInt64.toUInt64 &&& Int64.toUInt64 63)).toInt64) &&& 6148914691236517205)) &&& 3689348814741910323) + ((((x - (((x.toUInt64 >>> ((1 : Int32).toInt64.toUInt64 &&& Int64.toUInt64 63)).toInt64) &&& 6148914691236517205)).toUInt64 >>> ((2 : Int32).toInt64.toUInt64 &&& Int64.toUInt64 63)).toInt64) &&& 3689348814741910323)) + (((((x - (((x.toUInt64 >>> ((1 : Int32).toInt64.toUInt64 &&& Int64.toUInt64 63)).toInt64) &&& 6148914691236517205)) &&& 3689348814741910323) + ((((x - (((x.toUInt64 >>> ((1 : Int32).toInt64.toUInt64 &&& Int64.toUInt64 63)).toInt64) &&& 6148914691236517205)).toUInt64 >>> ((2 : Int32).toInt64.toUInt64 &&& Int64.toUInt64 63)).toInt64) &&& 3689348814741910323)).toUInt64 >>> ((4 : Int32).toInt64.toUInt64 &&& Int64.toUInt64 63)).toInt64)) &&& 1085102592571150095) + (((((((x - (((x.toUInt64 >>> ((1 : Int32).toInt64.toUInt64 &&& Int64.toUInt64 63)).toInt64) &&& 6148914691236517205)) &&& 3689348814741910323) + ((((x - (((x.toUInt64 >>> ((1 : Int32).toInt64.toUInt64 &&& Int64.toUInt64 63)).toInt64) &&& 6148914691236517205)).toUInt64 >>> ((2 : Int32).toInt64.toUInt64 &&& Int64.toUInt64 63)).toInt64) &&& 3689348814741910323)) + (((((x - (((x.toUInt64 >>> ((1 : Int32).toInt64.toUInt64 &&& Int64.toUInt64 63)).toInt64) &&& 6148914691236517205)) &&& 3689348814741910323) + ((((x - (((x.toUInt64 >>> ((1 : Int32).toInt64.toUInt64 &&& Int64.toUInt64 63)).toInt64) &&& 6148914691236517205)).toUInt64 >>> ((2 : Int32).toInt64.toUInt64 &&& Int64.toUInt64 63)).toInt64) &&& 3689348814741910323)).toUInt64 >>> ((4 : Int32).toInt64.toUInt64 &&& Int64.toUInt64 63)).toInt64)) &&& 1085102592571150095).toUInt64 >>> ((8 : Int32).toInt64.toUInt64 &&& Int64.toUInt64 63)).toInt64)).toUInt64 >>> ((16 : Int32).toInt64.toUInt64 &&& Int64.toUInt64 63)).toInt64)) + (((((((((x - (((x.toUInt64 >>> ((1 : Int32).toInt64.toUInt64 &&& Int64.toUInt64 63)).toInt64) &&& 6148914691236517205)) &&& 3689348814741910323) + ((((x - (((x.toUInt64 >>> ((1 : Int32).toInt64.toUInt64 &&& Int64.toUInt64 63)).toInt64) &&& 6148914691236517205)).toUInt64 >>> ((2 : Int32).toInt64.toUInt64 &&& Int64.toUInt64 63)).toInt64) &&& 3689348814741910323)) + (((((x - (((x.toUInt64 >>> ((1 : Int32).toInt64.toUInt64 &&& Int64.toUInt64 63)).toInt64) &&& 6148914691236517205)) &&& 3689348814741910323) + ((((x - (((x.toUInt64 >>> ((1 : Int32).toInt64.toUInt64 &&& Int64.toUInt64 63)).toInt64) &&& 6148914691236517205)).toUInt64 >>> ((2 : Int32).toInt64.toUInt64 &&& Int64.toUInt64 63)).toInt64) &&& 3689348814741910323)).toUInt64 >>> ((4 : Int32).toInt64.toUInt64 &&& Int64.toUInt64 63)).toInt64)) &&& 1085102592571150095) + (((((((x - (((x.toUInt64 >>> ((1 : Int32).toInt64.toUInt64 &&& Int64.toUInt64 63)).toInt64) &&& 6148914691236517205)) &&& 3689348814741910323) + ((((x - (((x.toUInt64 >>> ((1 : Int32).toInt64.toUInt64 &&& Int64.toUInt64 63)).toInt64) &&& 6148914691236517205)).toUInt64 >>> ((2 : Int32).toInt64.toUInt64 &&& Int64.toUInt64 63)).toInt64) &&& 3689348814741910323)) + (((((x - (((x.toUInt64 >>> ((1 : Int32).toInt64.toUInt64 &&& Int64.toUInt64 63)).toInt64) &&& 6148914691236517205)) &&& 3689348814741910323) + ((((x - (((x.toUInt64 >>> ((1 : Int32).toInt64.toUInt64 &&& Int64.toUInt64 63)).toInt64) &&& 6148914691236517205)).toUInt64 >>> ((2 : Int32).toInt64.toUInt64 &&& Int64.toUInt64 63)).toInt64) &&& 3689348814741910323)).toUInt64 >>> ((4 : Int32).toInt64.toUInt64 &&& Int64.toUInt64 63)).toInt64)) &&& 1085102592571150095).toUInt64 >>> ((8 : Int32).toInt64.toUInt64 &&& Int64.toUInt64 63)).toInt64)) + ((((((((x - (((x.toUInt64 >>> ((1 : Int32).toInt64.toUInt64 &&& Int64.toUInt64 63)).toInt64) &&& 6148914691236517205)) &&& 3689348814741910323) + ((((x - (((x.toUInt64 >>> ((1 : Int32).toInt64.toUInt64 &&& Int64.toUInt64 63)).toInt64) &&& 6148914691236517205)).toUInt64 >>> ((2 : Int32).toInt64.toUInt64 &&& Int64.toUInt64 63)).toInt64) &&& 3689348814741910323)) + (((((x - (((x.toUInt64 >>> ((1 : Int32).toInt64.toUInt64 &&& Int64.toUInt64 63)).toInt64) &&& 6148914691236517205)) &&& 3689348814741910323) + ((((x - (((x.toUInt64 >>> ((1 : Int32).toInt64.toUInt64 &&& Int64.toUInt64 63)).toInt64) &&& 6148914691236517205)).toUInt64 >>> ((2 : Int32).toInt64.toUInt64 &&& Int64.toUInt64 63)).toInt64) &&& 3689348814741910323)).toUInt64 >>> ((4 : Int32).toInt64.toUInt64 &&& Int64.toUInt64 63)).toInt64)) &&& 1085102592571150095) + (((((((x - (((x.toUInt64 >>> ((1 : Int32).toInt64.toUInt64 &&& Int64.toUInt64 63)).toInt64) &&& 6148914691236517205)) &&& 3689348814741910323) + ((((x - (((x.toUInt64 >>> ((1 : Int32).toInt64.toUInt64 &&& Int64.toUInt64 63)).toInt64) &&& 6148914691236517205)).toUInt64 >>> ((2 : Int32).toInt64.toUInt64 &&& Int64.toUInt64 63)).toInt64) &&& 3689348814741910323)) + (((((x - (((x.toUInt64 >>> ((1 : Int32).toInt64.toUInt64 &&& Int64.toUInt64 63)).toInt64) &&& 6148914691236517205)) &&& 3689348814741910323) + ((((x - (((x.toUInt64 >>> ((1 : Int32).toInt64.toUInt64 &&& Int64.toUInt64 63)).toInt64) &&& 6148914691236517205)).toUInt64 >>> ((2 : Int32).toInt64.toUInt64 &&& Int64.toUInt64 63)).toInt64) &&& 3689348814741910323)).toUInt64 >>> ((4 : Int32).toInt64.toUInt64 &&& Int64.toUInt64 63)).toInt64)) &&& 1085102592571150095).toUInt64 >>> ((8 : Int32).toInt64.toUInt64 &&& Int64.toUInt64 63)).toInt64)).toUInt64 >>> ((16 : Int32).toInt64.toUInt64 &&& Int64.toUInt64 63)).toInt64)).toUInt64 >>> ((32 : Int32).toInt64.toUInt64 &&& Int64.toUInt64 63)).toInt64)).toInt32) &&& 127)]) (μ' := μ) (by rfl) ?_
  exact hr 0 60 _ _ _ (some (.int ((((((((((x - (((x.toUInt64 >>> ((1 : Int32).toInt64.toUInt64 &&& Int64.toUInt64 63)).toInt64) &&& 6148914691236517205)) &&& 3689348814741910323) + ((((x - (((x.toUInt64 >>> ((1 : Int32).toInt64.toUInt64 &&& Int64.toUInt64 63)).toInt64) &&& 6148914691236517205)).toUInt64 >>> ((2 : Int32).toInt64.toUInt64 &&& Int64.toUInt64 63)).toInt64) &&& 3689348814741910323)) + (((((x - (((x.toUInt64 >>> ((1 : Int32).toInt64.toUInt64 &&& Int64.toUInt64 63)).toInt64) &&& 6148914691236517205)) &&& 3689348814741910323) + ((((x - (((x.toUInt64 >>> ((1 : Int32).toInt64.toUInt64 &&& Int64.toUInt64 63)).toInt64) &&& 6148914691236517205)).toUInt64 >>> ((2 : Int32).toInt64.toUInt64 &&& Int64.toUInt64 63)).toInt64) &&& 3689348814741910323)).toUInt64 >>> ((4 : Int32).toInt64.toUInt64 &&& Int64.toUInt64 63)).toInt64)) &&& 1085102592571150095) + (((((((x - (((x.toUInt64 >>> ((1 : Int32).toInt64.toUInt64 &&& Int64.toUInt64 63)).toInt64) &&& 6148914691236517205)) &&& 3689348814741910323) + ((((x - (((x.toUInt64 >>> ((1 : Int32).toInt64.toUInt64 &&& Int64.toUInt64 63)).toInt64) &&& 6148914691236517205)).toUInt64 >>> ((2 : Int32).toInt64.toUInt64 &&& Int64.toUInt64 63)).toInt64) &&& 3689348814741910323)) + (((((x - (((x.toUInt64 >>> ((1 : Int32).toInt64.toUInt64 &&& Int64.toUInt64 63)).toInt64) &&& 6148914691236517205)) &&& 3689348814741910323) + ((((x - (((x.toUInt64 >>> ((1 : Int32).toInt64.toUInt64 &&& Int64.toUInt64 63)).toInt64) &&& 6148914691236517205)).toUInt64 >>> ((2 : Int32).toInt64.toUInt64 &&& Int64.toUInt64 63)).toInt64) &&& 3689348814741910323)).toUInt64 >>> ((4 : Int32).toInt64.toUInt64 &&& Int64.toUInt64 63)).toInt64)) &&& 1085102592571150095).toUInt64 >>> ((8 : Int32).toInt64.toUInt64 &&& Int64.toUInt64 63)).toInt64)) + ((((((((x - (((x.toUInt64 >>> ((1 : Int32).toInt64.toUInt64 &&& Int64.toUInt64 63)).toInt64) &&& 6148914691236517205)) &&& 3689348814741910323) + ((((x - (((x.toUInt64 >>> ((1 : Int32).toInt64.toUInt64 &&& Int64.toUInt64 63)).toInt64) &&& 6148914691236517205)).toUInt64 >>> ((2 : Int32).toInt64.toUInt64 &&& Int64.toUInt64 63)).toInt64) &&& 3689348814741910323)) + (((((x - (((x.toUInt64 >>> ((1 : Int32).toInt64.toUInt64 &&& Int64.toUInt64 63)).toInt64) &&& 6148914691236517205)) &&& 3689348814741910323) + ((((x - (((x.toUInt64 >>> ((1 : Int32).toInt64.toUInt64 &&& Int64.toUInt64 63)).toInt64) &&& 6148914691236517205)).toUInt64 >>> ((2 : Int32).toInt64.toUInt64 &&& Int64.toUInt64 63)).toInt64) &&& 3689348814741910323)).toUInt64 >>> ((4 : Int32).toInt64.toUInt64 &&& Int64.toUInt64 63)).toInt64)) &&& 1085102592571150095) + (((((((x - (((x.toUInt64 >>> ((1 : Int32).toInt64.toUInt64 &&& Int64.toUInt64 63)).toInt64) &&& 6148914691236517205)) &&& 3689348814741910323) + ((((x - (((x.toUInt64 >>> ((1 : Int32).toInt64.toUInt64 &&& Int64.toUInt64 63)).toInt64) &&& 6148914691236517205)).toUInt64 >>> ((2 : Int32).toInt64.toUInt64 &&& Int64.toUInt64 63)).toInt64) &&& 3689348814741910323)) + (((((x - (((x.toUInt64 >>> ((1 : Int32).toInt64.toUInt64 &&& Int64.toUInt64 63)).toInt64) &&& 6148914691236517205)) &&& 3689348814741910323) + ((((x - (((x.toUInt64 >>> ((1 : Int32).toInt64.toUInt64 &&& Int64.toUInt64 63)).toInt64) &&& 6148914691236517205)).toUInt64 >>> ((2 : Int32).toInt64.toUInt64 &&& Int64.toUInt64 63)).toInt64) &&& 3689348814741910323)).toUInt64 >>> ((4 : Int32).toInt64.toUInt64 &&& Int64.toUInt64 63)).toInt64)) &&& 1085102592571150095).toUInt64 >>> ((8 : Int32).toInt64.toUInt64 &&& Int64.toUInt64 63)).toInt64)).toUInt64 >>> ((16 : Int32).toInt64.toUInt64 &&& Int64.toUInt64 63)).toInt64)) + (((((((((x - (((x.toUInt64 >>> ((1 : Int32).toInt64.toUInt64 &&& Int64.toUInt64 63)).toInt64) &&& 6148914691236517205)) &&& 3689348814741910323) + ((((x - (((x.toUInt64 >>> ((1 : Int32).toInt64.toUInt64 &&& Int64.toUInt64 63)).toInt64) &&& 6148914691236517205)).toUInt64 >>> ((2 : Int32).toInt64.toUInt64 &&& Int64.toUInt64 63)).toInt64) &&& 3689348814741910323)) + (((((x - (((x.toUInt64 >>> ((1 : Int32).toInt64.toUInt64 &&& Int64.toUInt64 63)).toInt64) &&& 6148914691236517205)) &&& 3689348814741910323) + ((((x - (((x.toUInt64 >>> ((1 : Int32).toInt64.toUInt64 &&& Int64.toUInt64 63)).toInt64) &&& 6148914691236517205)).toUInt64 >>> ((2 : Int32).toInt64.toUInt64 &&& Int64.toUInt64 63)).toInt64) &&& 3689348814741910323)).toUInt64 >>> ((4 : Int32).toInt64.toUInt64 &&& Int64.toUInt64 63)).toInt64)) &&& 1085102592571150095) + (((((((x - (((x.toUInt64 >>> ((1 : Int32).toInt64.toUInt64 &&& Int64.toUInt64 63)).toInt64) &&& 6148914691236517205)) &&& 3689348814741910323) + ((((x - (((x.toUInt64 >>> ((1 : Int32).toInt64.toUInt64 &&& Int64.toUInt64 63)).toInt64) &&& 6148914691236517205)).toUInt64 >>> ((2 : Int32).toInt64.toUInt64 &&& Int64.toUInt64 63)).toInt64) &&& 3689348814741910323)) + (((((x - (((x.toUInt64 >>> ((1 : Int32).toInt64.toUInt64 &&& Int64.toUInt64 63)).toInt64) &&& 6148914691236517205)) &&& 3689348814741910323) + ((((x - (((x.toUInt64 >>> ((1 : Int32).toInt64.toUInt64 &&& Int64.toUInt64 63)).toInt64) &&& 6148914691236517205)).toUInt64 >>> ((2 : Int32).toInt64.toUInt64 &&& Int64.toUInt64 63)).toInt64) &&& 3689348814741910323)).toUInt64 >>> ((4 : Int32).toInt64.toUInt64 &&& Int64.toUInt64 63)).toInt64)) &&& 1085102592571150095).toUInt64 >>> ((8 : Int32).toInt64.toUInt64 &&& Int64.toUInt64 63)).toInt64)) + ((((((((x - (((x.toUInt64 >>> ((1 : Int32).toInt64.toUInt64 &&& Int64.toUInt64 63)).toInt64) &&& 6148914691236517205)) &&& 3689348814741910323) + ((((x - (((x.toUInt64 >>> ((1 : Int32).toInt64.toUInt64 &&& Int64.toUInt64 63)).toInt64) &&& 6148914691236517205)).toUInt64 >>> ((2 : Int32).toInt64.toUInt64 &&& Int64.toUInt64 63)).toInt64) &&& 3689348814741910323)) + (((((x - (((x.toUInt64 >>> ((1 : Int32).toInt64.toUInt64 &&& Int64.toUInt64 63)).toInt64) &&& 6148914691236517205)) &&& 3689348814741910323) + ((((x - (((x.toUInt64 >>> ((1 : Int32).toInt64.toUInt64 &&& Int64.toUInt64 63)).toInt64) &&& 6148914691236517205)).toUInt64 >>> ((2 : Int32).toInt64.toUInt64 &&& Int64.toUInt64 63)).toInt64) &&& 3689348814741910323)).toUInt64 >>> ((4 : Int32).toInt64.toUInt64 &&& Int64.toUInt64 63)).toInt64)) &&& 1085102592571150095) + (((((((x - (((x.toUInt64 >>> ((1 : Int32).toInt64.toUInt64 &&& Int64.toUInt64 63)).toInt64) &&& 6148914691236517205)) &&& 3689348814741910323) + ((((x - (((x.toUInt64 >>> ((1 : Int32).toInt64.toUInt64 &&& Int64.toUInt64 63)).toInt64) &&& 6148914691236517205)).toUInt64 >>> ((2 : Int32).toInt64.toUInt64 &&& Int64.toUInt64 63)).toInt64) &&& 3689348814741910323)) + (((((x - (((x.toUInt64 >>> ((1 : Int32).toInt64.toUInt64 &&& Int64.toUInt64 63)).toInt64) &&& 6148914691236517205)) &&& 3689348814741910323) + ((((x - (((x.toUInt64 >>> ((1 : Int32).toInt64.toUInt64 &&& Int64.toUInt64 63)).toInt64) &&& 6148914691236517205)).toUInt64 >>> ((2 : Int32).toInt64.toUInt64 &&& Int64.toUInt64 63)).toInt64) &&& 3689348814741910323)).toUInt64 >>> ((4 : Int32).toInt64.toUInt64 &&& Int64.toUInt64 63)).toInt64)) &&& 1085102592571150095).toUInt64 >>> ((8 : Int32).toInt64.toUInt64 &&& Int64.toUInt64 63)).toInt64)).toUInt64 >>> ((16 : Int32).toInt64.toUInt64 &&& Int64.toUInt64 63)).toInt64)).toUInt64 >>> ((32 : Int32).toInt64.toUInt64 &&& Int64.toUInt64 63)).toInt64)).toInt32) &&& 127))) (by decide +kernel) (z_rx_ok hH (by rfl)) (⟨rfl, (by rfl)⟩)
theorem fb_X1_isHidden_0_0 (d : Nat) (hd : 1 ≤ d) (μ : zM) (ht : μ.2.2 14 = 9) : z_C d mi_X1_isHidden [.ref 14, .int 0, .int 0] μ (zR μ (.int (nB (bif decide ((μ.1 9 4) ≤ (0 : Int32)) then !(decide ((μ.1 14 7) = 0)) else decide ((μ.1 15 0) = 3))))) := by
  refine z_C_in (by decide) (by omega) (fun d' Z ed hc hr => ?_)
  have hH : zH mi_X1_isHidden zt_X1_isHidden 79 1 3 := hh_X1_isHidden
  refine z_rcs hc hH 2 (pc' := 2) (lv' := [(0, .ref 14), (1, .int 0), (2, .int 0)]) (st' := [.ref 14, .int 0]) (μ' := μ) (by rfl) ?_
  refine zq_tget hc hH (by rfl) (ci := 0) (f := 5) (t := 9) (by decide +kernel) ht (by decide) ?_
  refine z_rcs hc hH 1 (pc' := 8) (lv' := [(0, .ref 14), (1, .int 0), (2, .int 0)]) (st' := [.int (μ.1 9 4), .int 0]) (μ' := μ) (by rfl) ?_
  refine zq_ic hc hH (by rfl) (tg := 27) (by rfl) (fun h1 => ?_) (fun h1 => ?_)
  · have h1 : (decide ((μ.1 9 4) ≤ (0 : Int32))) = true := decide_eq_true (cm_ge.mp h1)
    refine z_rcs hc hH 2 (pc' := 31) (lv' := [(0, .ref 14), (1, .int 0), (2, .int 0)]) (st' := [.int (μ.1 14 7)]) (μ' := μ) (by rfl) ?_
    have hJ2 : Z 0 44 [(0, .ref 14), (1, .int 0), (2, .int 0)] [.int (nB (!(decide ((μ.1 14 7) = 0))))] μ := by
      exact hr 0 44 _ _ _ (some (.int (nB (!(decide ((μ.1 14 7) = 0)))))) (by decide +kernel) ((fun b : Bool => (by cases b <;> rfl : z_rn mi_X1_isHidden 44 [.int (nB b)] = some (some (.int (nB b))))) (!(decide ((μ.1 14 7) = 0)))) (⟨rfl, (by simp only [h1, lb_f, Int64.or_zero, Int32.add_zero, nB_t, nB_f, Bool.not_true, Bool.not_false, Bool.and_true, Bool.true_and, Bool.false_and, Bool.and_false, Bool.or_true, Bool.true_or, Bool.false_or, Bool.or_false, cond_true, cond_false])⟩)
    refine zq_if hc hH (by rfl) (tg := 39) (by rfl) (fun h3 => ?_) (fun h3 => ?_)
    · have h3 : (decide ((μ.1 14 7) = 0)) = false := decide_eq_false (cm_ne.mp h3)
      refine z_rcs hc hH 2 (pc' := 44) (lv' := [(0, .ref 14), (1, .int 0), (2, .int 0)]) (st' := [.int 1]) (μ' := μ) (by rfl) ?_
      exact zJ hJ2 rfl (by first | with_reducible rfl | (simp only [h3, lb_f, Int64.or_zero, Int32.add_zero, nB_t, nB_f, Bool.not_true, Bool.not_false, Bool.and_true, Bool.true_and, Bool.false_and, Bool.and_false, Bool.or_true, Bool.true_or, Bool.false_or, Bool.or_false, cond_true, cond_false]; done) | rfl) rfl
    · have h3 : (decide ((μ.1 14 7) = 0)) = true := decide_eq_true (cn_ne.mp h3)
      refine z_rcs hc hH 4 (pc' := 44) (lv' := [(0, .ref 14), (1, .int 0), (2, .int 0)]) (st' := [.int 0]) (μ' := μ) (by rfl) ?_
      exact zJ hJ2 rfl (by first | with_reducible rfl | (simp only [h3, lb_f, Int64.or_zero, Int32.add_zero, nB_t, nB_f, Bool.not_true, Bool.not_false, Bool.and_true, Bool.true_and, Bool.false_and, Bool.and_false, Bool.or_true, Bool.true_or, Bool.false_or, Bool.or_false, cond_true, cond_false]; done) | rfl) rfl
  · have h1 : (decide ((μ.1 9 4) ≤ (0 : Int32))) = false := decide_eq_false (cn_ge.mp h1)
    refine z_rcs hc hH 3 (pc' := 16) (lv' := [(0, .ref 14), (1, .int 0), (2, .int 0)]) (st' := [.int 0, .ref 15]) (μ' := μ) (by rfl) ?_
    refine zq_iald hc hH (by rfl) 4 (by decide +kernel) (show vp_in (nI 0) 4 from vp_in_nI (by decide) (by decide)) ?_
    show Z 0 17 [(0, .ref 14), (1, .int 0), (2, .int 0)] [.int (μ.1 15 0)] μ
    refine z_rcs hc hH 1 (pc' := 18) (lv' := [(0, .ref 14), (1, .int 0), (2, .int 0)]) (st' := [.int 3, .int (μ.1 15 0)]) (μ' := μ) (by rfl) ?_
    have hJ4 : Z 0 26 [(0, .ref 14), (1, .int 0), (2, .int 0)] [.int (nB (decide ((μ.1 15 0) = 3)))] μ := by
      exact hr 0 26 _ _ _ (some (.int (nB (decide ((μ.1 15 0) = 3))))) (by decide +kernel) ((fun b : Bool => (by cases b <;> rfl : z_rn mi_X1_isHidden 26 [.int (nB b)] = some (some (.int (nB b))))) (decide ((μ.1 15 0) = 3))) (⟨rfl, (by simp only [h1, lb_f, Int64.or_zero, Int32.add_zero, nB_t, nB_f, Bool.not_true, Bool.not_false, Bool.and_true, Bool.true_and, Bool.false_and, Bool.and_false, Bool.or_true, Bool.true_or, Bool.false_or, Bool.or_false, cond_true, cond_false])⟩)
    refine zq_ic hc hH (by rfl) (tg := 25) (by rfl) (fun h5 => ?_) (fun h5 => ?_)
    · have h5 : (decide ((μ.1 15 0) = 3)) = false := decide_eq_false (cm_ne.mp h5)
      refine z_rcs hc hH 1 (pc' := 26) (lv' := [(0, .ref 14), (1, .int 0), (2, .int 0)]) (st' := [.int 0]) (μ' := μ) (by rfl) ?_
      exact zJ hJ4 rfl (by first | with_reducible rfl | (simp only [h5, lb_f, Int64.or_zero, Int32.add_zero, nB_t, nB_f, Bool.not_true, Bool.not_false, Bool.and_true, Bool.true_and, Bool.false_and, Bool.and_false, Bool.or_true, Bool.true_or, Bool.false_or, Bool.or_false, cond_true, cond_false]; done) | rfl) rfl
    · have h5 : (decide ((μ.1 15 0) = 3)) = true := decide_eq_true (cn_ne.mp h5)
      refine z_rcs hc hH 2 (pc' := 26) (lv' := [(0, .ref 14), (1, .int 0), (2, .int 0)]) (st' := [.int 1]) (μ' := μ) (by rfl) ?_
      exact zJ hJ4 rfl (by first | with_reducible rfl | (simp only [h5, lb_f, Int64.or_zero, Int32.add_zero, nB_t, nB_f, Bool.not_true, Bool.not_false, Bool.and_true, Bool.true_and, Bool.false_and, Bool.and_false, Bool.or_true, Bool.true_or, Bool.false_or, Bool.or_false, cond_true, cond_false]; done) | rfl) rfl
theorem fb_X1_isHidden_0_1 (d : Nat) (hd : 1 ≤ d) (μ : zM) (ht : μ.2.2 14 = 9) : z_C d mi_X1_isHidden [.ref 14, .int 0, .int 1] μ (zR μ (.int (nB ((decide ((μ.1 9 4) ≤ (0 : Int32))) || (decide ((μ.1 15 0) = 3)))))) := by
  refine z_C_in (by decide) (by omega) (fun d' Z ed hc hr => ?_)
  have hH : zH mi_X1_isHidden zt_X1_isHidden 79 1 3 := hh_X1_isHidden
  refine z_rcs hc hH 2 (pc' := 2) (lv' := [(0, .ref 14), (1, .int 0), (2, .int 1)]) (st' := [.ref 14, .int 0]) (μ' := μ) (by rfl) ?_
  refine zq_tget hc hH (by rfl) (ci := 0) (f := 5) (t := 9) (by decide +kernel) ht (by decide) ?_
  refine z_rcs hc hH 1 (pc' := 8) (lv' := [(0, .ref 14), (1, .int 0), (2, .int 1)]) (st' := [.int (μ.1 9 4), .int 0]) (μ' := μ) (by rfl) ?_
  refine zq_ic hc hH (by rfl) (tg := 27) (by rfl) (fun h1 => ?_) (fun h1 => ?_)
  · have h1 : (decide ((μ.1 9 4) ≤ (0 : Int32))) = true := decide_eq_true (cm_ge.mp h1)
    refine z_rcs hc hH 2 (pc' := 31) (lv' := [(0, .ref 14), (1, .int 0), (2, .int 1)]) (st' := [.int (μ.1 14 7)]) (μ' := μ) (by rfl) ?_
    have hJ2 : Z 0 44 [(0, .ref 14), (1, .int 0), (2, .int 1)] [.int 1] μ := by
      exact hr 0 44 _ _ _ (some (.int 1)) (by decide +kernel) (z_rx_ok hH (by rfl)) (⟨rfl, (by simp only [h1, lb_f, Int64.or_zero, Int32.add_zero, nB_t, nB_f, Bool.not_true, Bool.not_false, Bool.and_true, Bool.true_and, Bool.false_and, Bool.and_false, Bool.or_true, Bool.true_or, Bool.false_or, Bool.or_false, cond_true, cond_false])⟩)
    refine zq_if hc hH (by rfl) (tg := 39) (by rfl) (fun h3 => ?_) (fun h3 => ?_)
    · have h3 : (decide ((μ.1 14 7) = 0)) = false := decide_eq_false (cm_ne.mp h3)
      refine z_rcs hc hH 2 (pc' := 44) (lv' := [(0, .ref 14), (1, .int 0), (2, .int 1)]) (st' := [.int 1]) (μ' := μ) (by rfl) ?_
      exact zJ hJ2 rfl rfl rfl
    · have h3 : (decide ((μ.1 14 7) = 0)) = true := decide_eq_true (cn_ne.mp h3)
      refine z_rcs hc hH 5 (pc' := 44) (lv' := [(0, .ref 14), (1, .int 0), (2, .int 1)]) (st' := [.int 1]) (μ' := μ) (by rfl) ?_
      exact zJ hJ2 rfl rfl rfl
  · have h1 : (decide ((μ.1 9 4) ≤ (0 : Int32))) = false := decide_eq_false (cn_ge.mp h1)
    refine z_rcs hc hH 3 (pc' := 16) (lv' := [(0, .ref 14), (1, .int 0), (2, .int 1)]) (st' := [.int 0, .ref 15]) (μ' := μ) (by rfl) ?_
    refine zq_iald hc hH (by rfl) 4 (by decide +kernel) (show vp_in (nI 0) 4 from vp_in_nI (by decide) (by decide)) ?_
    show Z 0 17 [(0, .ref 14), (1, .int 0), (2, .int 1)] [.int (μ.1 15 0)] μ
    refine z_rcs hc hH 1 (pc' := 18) (lv' := [(0, .ref 14), (1, .int 0), (2, .int 1)]) (st' := [.int 3, .int (μ.1 15 0)]) (μ' := μ) (by rfl) ?_
    have hJ4 : Z 0 26 [(0, .ref 14), (1, .int 0), (2, .int 1)] [.int (nB (decide ((μ.1 15 0) = 3)))] μ := by
      exact hr 0 26 _ _ _ (some (.int (nB (decide ((μ.1 15 0) = 3))))) (by decide +kernel) ((fun b : Bool => (by cases b <;> rfl : z_rn mi_X1_isHidden 26 [.int (nB b)] = some (some (.int (nB b))))) (decide ((μ.1 15 0) = 3))) (⟨rfl, (by simp only [h1, lb_f, Int64.or_zero, Int32.add_zero, nB_t, nB_f, Bool.not_true, Bool.not_false, Bool.and_true, Bool.true_and, Bool.false_and, Bool.and_false, Bool.or_true, Bool.true_or, Bool.false_or, Bool.or_false, cond_true, cond_false])⟩)
    refine zq_ic hc hH (by rfl) (tg := 25) (by rfl) (fun h5 => ?_) (fun h5 => ?_)
    · have h5 : (decide ((μ.1 15 0) = 3)) = false := decide_eq_false (cm_ne.mp h5)
      refine z_rcs hc hH 1 (pc' := 26) (lv' := [(0, .ref 14), (1, .int 0), (2, .int 1)]) (st' := [.int 0]) (μ' := μ) (by rfl) ?_
      exact zJ hJ4 rfl (by first | with_reducible rfl | (simp only [h5, lb_f, Int64.or_zero, Int32.add_zero, nB_t, nB_f, Bool.not_true, Bool.not_false, Bool.and_true, Bool.true_and, Bool.false_and, Bool.and_false, Bool.or_true, Bool.true_or, Bool.false_or, Bool.or_false, cond_true, cond_false]; done) | rfl) rfl
    · have h5 : (decide ((μ.1 15 0) = 3)) = true := decide_eq_true (cn_ne.mp h5)
      refine z_rcs hc hH 2 (pc' := 26) (lv' := [(0, .ref 14), (1, .int 0), (2, .int 1)]) (st' := [.int 1]) (μ' := μ) (by rfl) ?_
      exact zJ hJ4 rfl (by first | with_reducible rfl | (simp only [h5, lb_f, Int64.or_zero, Int32.add_zero, nB_t, nB_f, Bool.not_true, Bool.not_false, Bool.and_true, Bool.true_and, Bool.false_and, Bool.and_false, Bool.or_true, Bool.true_or, Bool.false_or, Bool.or_false, cond_true, cond_false]; done) | rfl) rfl
theorem fb_X1_isHidden_0_2 (d : Nat) (hd : 1 ≤ d) (μ : zM) (ht : μ.2.2 14 = 9) : z_C d mi_X1_isHidden [.ref 14, .int 0, .int 2] μ (zR μ (.int (nB ((decide ((μ.1 9 4) ≤ (0 : Int32))) || (decide ((μ.1 15 0) = 3)))))) := by
  refine z_C_in (by decide) (by omega) (fun d' Z ed hc hr => ?_)
  have hH : zH mi_X1_isHidden zt_X1_isHidden 79 1 3 := hh_X1_isHidden
  refine z_rcs hc hH 2 (pc' := 2) (lv' := [(0, .ref 14), (1, .int 0), (2, .int 2)]) (st' := [.ref 14, .int 0]) (μ' := μ) (by rfl) ?_
  refine zq_tget hc hH (by rfl) (ci := 0) (f := 5) (t := 9) (by decide +kernel) ht (by decide) ?_
  refine z_rcs hc hH 1 (pc' := 8) (lv' := [(0, .ref 14), (1, .int 0), (2, .int 2)]) (st' := [.int (μ.1 9 4), .int 0]) (μ' := μ) (by rfl) ?_
  refine zq_ic hc hH (by rfl) (tg := 27) (by rfl) (fun h1 => ?_) (fun h1 => ?_)
  · have h1 : (decide ((μ.1 9 4) ≤ (0 : Int32))) = true := decide_eq_true (cm_ge.mp h1)
    refine z_rcs hc hH 2 (pc' := 31) (lv' := [(0, .ref 14), (1, .int 0), (2, .int 2)]) (st' := [.int (μ.1 14 7)]) (μ' := μ) (by rfl) ?_
    have hJ2 : Z 0 44 [(0, .ref 14), (1, .int 0), (2, .int 2)] [.int 1] μ := by
      exact hr 0 44 _ _ _ (some (.int 1)) (by decide +kernel) (z_rx_ok hH (by rfl)) (⟨rfl, (by simp only [h1, lb_f, Int64.or_zero, Int32.add_zero, nB_t, nB_f, Bool.not_true, Bool.not_false, Bool.and_true, Bool.true_and, Bool.false_and, Bool.and_false, Bool.or_true, Bool.true_or, Bool.false_or, Bool.or_false, cond_true, cond_false])⟩)
    refine zq_if hc hH (by rfl) (tg := 39) (by rfl) (fun h3 => ?_) (fun h3 => ?_)
    · have h3 : (decide ((μ.1 14 7) = 0)) = false := decide_eq_false (cm_ne.mp h3)
      refine z_rcs hc hH 2 (pc' := 44) (lv' := [(0, .ref 14), (1, .int 0), (2, .int 2)]) (st' := [.int 1]) (μ' := μ) (by rfl) ?_
      exact zJ hJ2 rfl rfl rfl
    · have h3 : (decide ((μ.1 14 7) = 0)) = true := decide_eq_true (cn_ne.mp h3)
      refine z_rcs hc hH 5 (pc' := 44) (lv' := [(0, .ref 14), (1, .int 0), (2, .int 2)]) (st' := [.int 1]) (μ' := μ) (by rfl) ?_
      exact zJ hJ2 rfl rfl rfl
  · have h1 : (decide ((μ.1 9 4) ≤ (0 : Int32))) = false := decide_eq_false (cn_ge.mp h1)
    refine z_rcs hc hH 3 (pc' := 16) (lv' := [(0, .ref 14), (1, .int 0), (2, .int 2)]) (st' := [.int 0, .ref 15]) (μ' := μ) (by rfl) ?_
    refine zq_iald hc hH (by rfl) 4 (by decide +kernel) (show vp_in (nI 0) 4 from vp_in_nI (by decide) (by decide)) ?_
    show Z 0 17 [(0, .ref 14), (1, .int 0), (2, .int 2)] [.int (μ.1 15 0)] μ
    refine z_rcs hc hH 1 (pc' := 18) (lv' := [(0, .ref 14), (1, .int 0), (2, .int 2)]) (st' := [.int 3, .int (μ.1 15 0)]) (μ' := μ) (by rfl) ?_
    have hJ4 : Z 0 26 [(0, .ref 14), (1, .int 0), (2, .int 2)] [.int (nB (decide ((μ.1 15 0) = 3)))] μ := by
      exact hr 0 26 _ _ _ (some (.int (nB (decide ((μ.1 15 0) = 3))))) (by decide +kernel) ((fun b : Bool => (by cases b <;> rfl : z_rn mi_X1_isHidden 26 [.int (nB b)] = some (some (.int (nB b))))) (decide ((μ.1 15 0) = 3))) (⟨rfl, (by simp only [h1, lb_f, Int64.or_zero, Int32.add_zero, nB_t, nB_f, Bool.not_true, Bool.not_false, Bool.and_true, Bool.true_and, Bool.false_and, Bool.and_false, Bool.or_true, Bool.true_or, Bool.false_or, Bool.or_false, cond_true, cond_false])⟩)
    refine zq_ic hc hH (by rfl) (tg := 25) (by rfl) (fun h5 => ?_) (fun h5 => ?_)
    · have h5 : (decide ((μ.1 15 0) = 3)) = false := decide_eq_false (cm_ne.mp h5)
      refine z_rcs hc hH 1 (pc' := 26) (lv' := [(0, .ref 14), (1, .int 0), (2, .int 2)]) (st' := [.int 0]) (μ' := μ) (by rfl) ?_
      exact zJ hJ4 rfl (by first | with_reducible rfl | (simp only [h5, lb_f, Int64.or_zero, Int32.add_zero, nB_t, nB_f, Bool.not_true, Bool.not_false, Bool.and_true, Bool.true_and, Bool.false_and, Bool.and_false, Bool.or_true, Bool.true_or, Bool.false_or, Bool.or_false, cond_true, cond_false]; done) | rfl) rfl
    · have h5 : (decide ((μ.1 15 0) = 3)) = true := decide_eq_true (cn_ne.mp h5)
      refine z_rcs hc hH 2 (pc' := 26) (lv' := [(0, .ref 14), (1, .int 0), (2, .int 2)]) (st' := [.int 1]) (μ' := μ) (by rfl) ?_
      exact zJ hJ4 rfl (by first | with_reducible rfl | (simp only [h5, lb_f, Int64.or_zero, Int32.add_zero, nB_t, nB_f, Bool.not_true, Bool.not_false, Bool.and_true, Bool.true_and, Bool.false_and, Bool.and_false, Bool.or_true, Bool.true_or, Bool.false_or, Bool.or_false, cond_true, cond_false]; done) | rfl) rfl
theorem fb_X1_isHidden_0_3 (d : Nat) (hd : 1 ≤ d) (μ : zM) (ht : μ.2.2 14 = 9) : z_C d mi_X1_isHidden [.ref 14, .int 0, .int 3] μ (zR μ (.int (nB ((decide ((μ.1 9 4) ≤ (0 : Int32))) || (decide ((μ.1 15 0) = 3)))))) := by
  refine z_C_in (by decide) (by omega) (fun d' Z ed hc hr => ?_)
  have hH : zH mi_X1_isHidden zt_X1_isHidden 79 1 3 := hh_X1_isHidden
  refine z_rcs hc hH 2 (pc' := 2) (lv' := [(0, .ref 14), (1, .int 0), (2, .int 3)]) (st' := [.ref 14, .int 0]) (μ' := μ) (by rfl) ?_
  refine zq_tget hc hH (by rfl) (ci := 0) (f := 5) (t := 9) (by decide +kernel) ht (by decide) ?_
  refine z_rcs hc hH 1 (pc' := 8) (lv' := [(0, .ref 14), (1, .int 0), (2, .int 3)]) (st' := [.int (μ.1 9 4), .int 0]) (μ' := μ) (by rfl) ?_
  refine zq_ic hc hH (by rfl) (tg := 27) (by rfl) (fun h1 => ?_) (fun h1 => ?_)
  · have h1 : (decide ((μ.1 9 4) ≤ (0 : Int32))) = true := decide_eq_true (cm_ge.mp h1)
    refine z_rcs hc hH 2 (pc' := 31) (lv' := [(0, .ref 14), (1, .int 0), (2, .int 3)]) (st' := [.int (μ.1 14 7)]) (μ' := μ) (by rfl) ?_
    have hJ2 : Z 0 44 [(0, .ref 14), (1, .int 0), (2, .int 3)] [.int 1] μ := by
      exact hr 0 44 _ _ _ (some (.int 1)) (by decide +kernel) (z_rx_ok hH (by rfl)) (⟨rfl, (by simp only [h1, lb_f, Int64.or_zero, Int32.add_zero, nB_t, nB_f, Bool.not_true, Bool.not_false, Bool.and_true, Bool.true_and, Bool.false_and, Bool.and_false, Bool.or_true, Bool.true_or, Bool.false_or, Bool.or_false, cond_true, cond_false])⟩)
    refine zq_if hc hH (by rfl) (tg := 39) (by rfl) (fun h3 => ?_) (fun h3 => ?_)
    · have h3 : (decide ((μ.1 14 7) = 0)) = false := decide_eq_false (cm_ne.mp h3)
      refine z_rcs hc hH 2 (pc' := 44) (lv' := [(0, .ref 14), (1, .int 0), (2, .int 3)]) (st' := [.int 1]) (μ' := μ) (by rfl) ?_
      exact zJ hJ2 rfl rfl rfl
    · have h3 : (decide ((μ.1 14 7) = 0)) = true := decide_eq_true (cn_ne.mp h3)
      refine z_rcs hc hH 5 (pc' := 44) (lv' := [(0, .ref 14), (1, .int 0), (2, .int 3)]) (st' := [.int 1]) (μ' := μ) (by rfl) ?_
      exact zJ hJ2 rfl rfl rfl
  · have h1 : (decide ((μ.1 9 4) ≤ (0 : Int32))) = false := decide_eq_false (cn_ge.mp h1)
    refine z_rcs hc hH 3 (pc' := 16) (lv' := [(0, .ref 14), (1, .int 0), (2, .int 3)]) (st' := [.int 0, .ref 15]) (μ' := μ) (by rfl) ?_
    refine zq_iald hc hH (by rfl) 4 (by decide +kernel) (show vp_in (nI 0) 4 from vp_in_nI (by decide) (by decide)) ?_
    show Z 0 17 [(0, .ref 14), (1, .int 0), (2, .int 3)] [.int (μ.1 15 0)] μ
    refine z_rcs hc hH 1 (pc' := 18) (lv' := [(0, .ref 14), (1, .int 0), (2, .int 3)]) (st' := [.int 3, .int (μ.1 15 0)]) (μ' := μ) (by rfl) ?_
    have hJ4 : Z 0 26 [(0, .ref 14), (1, .int 0), (2, .int 3)] [.int (nB (decide ((μ.1 15 0) = 3)))] μ := by
      exact hr 0 26 _ _ _ (some (.int (nB (decide ((μ.1 15 0) = 3))))) (by decide +kernel) ((fun b : Bool => (by cases b <;> rfl : z_rn mi_X1_isHidden 26 [.int (nB b)] = some (some (.int (nB b))))) (decide ((μ.1 15 0) = 3))) (⟨rfl, (by simp only [h1, lb_f, Int64.or_zero, Int32.add_zero, nB_t, nB_f, Bool.not_true, Bool.not_false, Bool.and_true, Bool.true_and, Bool.false_and, Bool.and_false, Bool.or_true, Bool.true_or, Bool.false_or, Bool.or_false, cond_true, cond_false])⟩)
    refine zq_ic hc hH (by rfl) (tg := 25) (by rfl) (fun h5 => ?_) (fun h5 => ?_)
    · have h5 : (decide ((μ.1 15 0) = 3)) = false := decide_eq_false (cm_ne.mp h5)
      refine z_rcs hc hH 1 (pc' := 26) (lv' := [(0, .ref 14), (1, .int 0), (2, .int 3)]) (st' := [.int 0]) (μ' := μ) (by rfl) ?_
      exact zJ hJ4 rfl (by first | with_reducible rfl | (simp only [h5, lb_f, Int64.or_zero, Int32.add_zero, nB_t, nB_f, Bool.not_true, Bool.not_false, Bool.and_true, Bool.true_and, Bool.false_and, Bool.and_false, Bool.or_true, Bool.true_or, Bool.false_or, Bool.or_false, cond_true, cond_false]; done) | rfl) rfl
    · have h5 : (decide ((μ.1 15 0) = 3)) = true := decide_eq_true (cn_ne.mp h5)
      refine z_rcs hc hH 2 (pc' := 26) (lv' := [(0, .ref 14), (1, .int 0), (2, .int 3)]) (st' := [.int 1]) (μ' := μ) (by rfl) ?_
      exact zJ hJ4 rfl (by first | with_reducible rfl | (simp only [h5, lb_f, Int64.or_zero, Int32.add_zero, nB_t, nB_f, Bool.not_true, Bool.not_false, Bool.and_true, Bool.true_and, Bool.false_and, Bool.and_false, Bool.or_true, Bool.true_or, Bool.false_or, Bool.or_false, cond_true, cond_false]; done) | rfl) rfl
theorem fb_X1_isHidden_0_4 (d : Nat) (hd : 1 ≤ d) (μ : zM) (ht : μ.2.2 14 = 9) : z_C d mi_X1_isHidden [.ref 14, .int 0, .int 4] μ (zR μ (.int (nB ((decide ((μ.1 9 4) ≤ (0 : Int32))) || (decide ((μ.1 15 0) = 3)))))) := by
  refine z_C_in (by decide) (by omega) (fun d' Z ed hc hr => ?_)
  have hH : zH mi_X1_isHidden zt_X1_isHidden 79 1 3 := hh_X1_isHidden
  refine z_rcs hc hH 2 (pc' := 2) (lv' := [(0, .ref 14), (1, .int 0), (2, .int 4)]) (st' := [.ref 14, .int 0]) (μ' := μ) (by rfl) ?_
  refine zq_tget hc hH (by rfl) (ci := 0) (f := 5) (t := 9) (by decide +kernel) ht (by decide) ?_
  refine z_rcs hc hH 1 (pc' := 8) (lv' := [(0, .ref 14), (1, .int 0), (2, .int 4)]) (st' := [.int (μ.1 9 4), .int 0]) (μ' := μ) (by rfl) ?_
  refine zq_ic hc hH (by rfl) (tg := 27) (by rfl) (fun h1 => ?_) (fun h1 => ?_)
  · have h1 : (decide ((μ.1 9 4) ≤ (0 : Int32))) = true := decide_eq_true (cm_ge.mp h1)
    refine z_rcs hc hH 2 (pc' := 31) (lv' := [(0, .ref 14), (1, .int 0), (2, .int 4)]) (st' := [.int (μ.1 14 7)]) (μ' := μ) (by rfl) ?_
    have hJ2 : Z 0 44 [(0, .ref 14), (1, .int 0), (2, .int 4)] [.int 1] μ := by
      exact hr 0 44 _ _ _ (some (.int 1)) (by decide +kernel) (z_rx_ok hH (by rfl)) (⟨rfl, (by simp only [h1, lb_f, Int64.or_zero, Int32.add_zero, nB_t, nB_f, Bool.not_true, Bool.not_false, Bool.and_true, Bool.true_and, Bool.false_and, Bool.and_false, Bool.or_true, Bool.true_or, Bool.false_or, Bool.or_false, cond_true, cond_false])⟩)
    refine zq_if hc hH (by rfl) (tg := 39) (by rfl) (fun h3 => ?_) (fun h3 => ?_)
    · have h3 : (decide ((μ.1 14 7) = 0)) = false := decide_eq_false (cm_ne.mp h3)
      refine z_rcs hc hH 2 (pc' := 44) (lv' := [(0, .ref 14), (1, .int 0), (2, .int 4)]) (st' := [.int 1]) (μ' := μ) (by rfl) ?_
      exact zJ hJ2 rfl rfl rfl
    · have h3 : (decide ((μ.1 14 7) = 0)) = true := decide_eq_true (cn_ne.mp h3)
      refine z_rcs hc hH 5 (pc' := 44) (lv' := [(0, .ref 14), (1, .int 0), (2, .int 4)]) (st' := [.int 1]) (μ' := μ) (by rfl) ?_
      exact zJ hJ2 rfl rfl rfl
  · have h1 : (decide ((μ.1 9 4) ≤ (0 : Int32))) = false := decide_eq_false (cn_ge.mp h1)
    refine z_rcs hc hH 3 (pc' := 16) (lv' := [(0, .ref 14), (1, .int 0), (2, .int 4)]) (st' := [.int 0, .ref 15]) (μ' := μ) (by rfl) ?_
    refine zq_iald hc hH (by rfl) 4 (by decide +kernel) (show vp_in (nI 0) 4 from vp_in_nI (by decide) (by decide)) ?_
    show Z 0 17 [(0, .ref 14), (1, .int 0), (2, .int 4)] [.int (μ.1 15 0)] μ
    refine z_rcs hc hH 1 (pc' := 18) (lv' := [(0, .ref 14), (1, .int 0), (2, .int 4)]) (st' := [.int 3, .int (μ.1 15 0)]) (μ' := μ) (by rfl) ?_
    have hJ4 : Z 0 26 [(0, .ref 14), (1, .int 0), (2, .int 4)] [.int (nB (decide ((μ.1 15 0) = 3)))] μ := by
      exact hr 0 26 _ _ _ (some (.int (nB (decide ((μ.1 15 0) = 3))))) (by decide +kernel) ((fun b : Bool => (by cases b <;> rfl : z_rn mi_X1_isHidden 26 [.int (nB b)] = some (some (.int (nB b))))) (decide ((μ.1 15 0) = 3))) (⟨rfl, (by simp only [h1, lb_f, Int64.or_zero, Int32.add_zero, nB_t, nB_f, Bool.not_true, Bool.not_false, Bool.and_true, Bool.true_and, Bool.false_and, Bool.and_false, Bool.or_true, Bool.true_or, Bool.false_or, Bool.or_false, cond_true, cond_false])⟩)
    refine zq_ic hc hH (by rfl) (tg := 25) (by rfl) (fun h5 => ?_) (fun h5 => ?_)
    · have h5 : (decide ((μ.1 15 0) = 3)) = false := decide_eq_false (cm_ne.mp h5)
      refine z_rcs hc hH 1 (pc' := 26) (lv' := [(0, .ref 14), (1, .int 0), (2, .int 4)]) (st' := [.int 0]) (μ' := μ) (by rfl) ?_
      exact zJ hJ4 rfl (by first | with_reducible rfl | (simp only [h5, lb_f, Int64.or_zero, Int32.add_zero, nB_t, nB_f, Bool.not_true, Bool.not_false, Bool.and_true, Bool.true_and, Bool.false_and, Bool.and_false, Bool.or_true, Bool.true_or, Bool.false_or, Bool.or_false, cond_true, cond_false]; done) | rfl) rfl
    · have h5 : (decide ((μ.1 15 0) = 3)) = true := decide_eq_true (cn_ne.mp h5)
      refine z_rcs hc hH 2 (pc' := 26) (lv' := [(0, .ref 14), (1, .int 0), (2, .int 4)]) (st' := [.int 1]) (μ' := μ) (by rfl) ?_
      exact zJ hJ4 rfl (by first | with_reducible rfl | (simp only [h5, lb_f, Int64.or_zero, Int32.add_zero, nB_t, nB_f, Bool.not_true, Bool.not_false, Bool.and_true, Bool.true_and, Bool.false_and, Bool.and_false, Bool.or_true, Bool.true_or, Bool.false_or, Bool.or_false, cond_true, cond_false]; done) | rfl) rfl
theorem fb_X1_isHidden_1_0 (d : Nat) (hd : 1 ≤ d) (μ : zM) (ht : μ.2.2 14 = 9) : z_C d mi_X1_isHidden [.ref 14, .int 1, .int 0] μ (zR μ (.int (nB ((decide ((μ.1 9 4) ≤ (1 : Int32))) || (decide ((μ.1 15 1) = 3)))))) := by
  refine z_C_in (by decide) (by omega) (fun d' Z ed hc hr => ?_)
  have hH : zH mi_X1_isHidden zt_X1_isHidden 79 1 3 := hh_X1_isHidden
  refine z_rcs hc hH 2 (pc' := 2) (lv' := [(0, .ref 14), (1, .int 1), (2, .int 0)]) (st' := [.ref 14, .int 1]) (μ' := μ) (by rfl) ?_
  refine zq_tget hc hH (by rfl) (ci := 0) (f := 5) (t := 9) (by decide +kernel) ht (by decide) ?_
  refine z_rcs hc hH 1 (pc' := 8) (lv' := [(0, .ref 14), (1, .int 1), (2, .int 0)]) (st' := [.int (μ.1 9 4), .int 1]) (μ' := μ) (by rfl) ?_
  refine zq_ic hc hH (by rfl) (tg := 27) (by rfl) (fun h1 => ?_) (fun h1 => ?_)
  · have h1 : (decide ((μ.1 9 4) ≤ (1 : Int32))) = true := decide_eq_true (cm_ge.mp h1)
    refine z_rcs hc hH 2 (pc' := 31) (lv' := [(0, .ref 14), (1, .int 1), (2, .int 0)]) (st' := [.int (μ.1 14 7)]) (μ' := μ) (by rfl) ?_
    have hJ2 : Z 0 44 [(0, .ref 14), (1, .int 1), (2, .int 0)] [.int 1] μ := by
      exact hr 0 44 _ _ _ (some (.int 1)) (by decide +kernel) (z_rx_ok hH (by rfl)) (⟨rfl, (by simp only [h1, lb_f, Int64.or_zero, Int32.add_zero, nB_t, nB_f, Bool.not_true, Bool.not_false, Bool.and_true, Bool.true_and, Bool.false_and, Bool.and_false, Bool.or_true, Bool.true_or, Bool.false_or, Bool.or_false, cond_true, cond_false])⟩)
    refine zq_if hc hH (by rfl) (tg := 39) (by rfl) (fun h3 => ?_) (fun h3 => ?_)
    · have h3 : (decide ((μ.1 14 7) = 0)) = false := decide_eq_false (cm_ne.mp h3)
      refine z_rcs hc hH 2 (pc' := 44) (lv' := [(0, .ref 14), (1, .int 1), (2, .int 0)]) (st' := [.int 1]) (μ' := μ) (by rfl) ?_
      exact zJ hJ2 rfl rfl rfl
    · have h3 : (decide ((μ.1 14 7) = 0)) = true := decide_eq_true (cn_ne.mp h3)
      refine z_rcs hc hH 5 (pc' := 44) (lv' := [(0, .ref 14), (1, .int 1), (2, .int 0)]) (st' := [.int 1]) (μ' := μ) (by rfl) ?_
      exact zJ hJ2 rfl rfl rfl
  · have h1 : (decide ((μ.1 9 4) ≤ (1 : Int32))) = false := decide_eq_false (cn_ge.mp h1)
    refine z_rcs hc hH 3 (pc' := 16) (lv' := [(0, .ref 14), (1, .int 1), (2, .int 0)]) (st' := [.int 1, .ref 15]) (μ' := μ) (by rfl) ?_
    refine zq_iald hc hH (by rfl) 4 (by decide +kernel) (show vp_in (nI 1) 4 from vp_in_nI (by decide) (by decide)) ?_
    show Z 0 17 [(0, .ref 14), (1, .int 1), (2, .int 0)] [.int (μ.1 15 1)] μ
    refine z_rcs hc hH 1 (pc' := 18) (lv' := [(0, .ref 14), (1, .int 1), (2, .int 0)]) (st' := [.int 3, .int (μ.1 15 1)]) (μ' := μ) (by rfl) ?_
    have hJ4 : Z 0 26 [(0, .ref 14), (1, .int 1), (2, .int 0)] [.int (nB (decide ((μ.1 15 1) = 3)))] μ := by
      exact hr 0 26 _ _ _ (some (.int (nB (decide ((μ.1 15 1) = 3))))) (by decide +kernel) ((fun b : Bool => (by cases b <;> rfl : z_rn mi_X1_isHidden 26 [.int (nB b)] = some (some (.int (nB b))))) (decide ((μ.1 15 1) = 3))) (⟨rfl, (by simp only [h1, lb_f, Int64.or_zero, Int32.add_zero, nB_t, nB_f, Bool.not_true, Bool.not_false, Bool.and_true, Bool.true_and, Bool.false_and, Bool.and_false, Bool.or_true, Bool.true_or, Bool.false_or, Bool.or_false, cond_true, cond_false])⟩)
    refine zq_ic hc hH (by rfl) (tg := 25) (by rfl) (fun h5 => ?_) (fun h5 => ?_)
    · have h5 : (decide ((μ.1 15 1) = 3)) = false := decide_eq_false (cm_ne.mp h5)
      refine z_rcs hc hH 1 (pc' := 26) (lv' := [(0, .ref 14), (1, .int 1), (2, .int 0)]) (st' := [.int 0]) (μ' := μ) (by rfl) ?_
      exact zJ hJ4 rfl (by first | with_reducible rfl | (simp only [h5, lb_f, Int64.or_zero, Int32.add_zero, nB_t, nB_f, Bool.not_true, Bool.not_false, Bool.and_true, Bool.true_and, Bool.false_and, Bool.and_false, Bool.or_true, Bool.true_or, Bool.false_or, Bool.or_false, cond_true, cond_false]; done) | rfl) rfl
    · have h5 : (decide ((μ.1 15 1) = 3)) = true := decide_eq_true (cn_ne.mp h5)
      refine z_rcs hc hH 2 (pc' := 26) (lv' := [(0, .ref 14), (1, .int 1), (2, .int 0)]) (st' := [.int 1]) (μ' := μ) (by rfl) ?_
      exact zJ hJ4 rfl (by first | with_reducible rfl | (simp only [h5, lb_f, Int64.or_zero, Int32.add_zero, nB_t, nB_f, Bool.not_true, Bool.not_false, Bool.and_true, Bool.true_and, Bool.false_and, Bool.and_false, Bool.or_true, Bool.true_or, Bool.false_or, Bool.or_false, cond_true, cond_false]; done) | rfl) rfl
theorem fb_X1_isHidden_1_1 (d : Nat) (hd : 1 ≤ d) (μ : zM) (ht : μ.2.2 14 = 9) : z_C d mi_X1_isHidden [.ref 14, .int 1, .int 1] μ (zR μ (.int (nB (bif decide ((μ.1 9 4) ≤ (1 : Int32)) then !(decide ((μ.1 14 7) = 0)) else decide ((μ.1 15 1) = 3))))) := by
  refine z_C_in (by decide) (by omega) (fun d' Z ed hc hr => ?_)
  have hH : zH mi_X1_isHidden zt_X1_isHidden 79 1 3 := hh_X1_isHidden
  refine z_rcs hc hH 2 (pc' := 2) (lv' := [(0, .ref 14), (1, .int 1), (2, .int 1)]) (st' := [.ref 14, .int 1]) (μ' := μ) (by rfl) ?_
  refine zq_tget hc hH (by rfl) (ci := 0) (f := 5) (t := 9) (by decide +kernel) ht (by decide) ?_
  refine z_rcs hc hH 1 (pc' := 8) (lv' := [(0, .ref 14), (1, .int 1), (2, .int 1)]) (st' := [.int (μ.1 9 4), .int 1]) (μ' := μ) (by rfl) ?_
  refine zq_ic hc hH (by rfl) (tg := 27) (by rfl) (fun h1 => ?_) (fun h1 => ?_)
  · have h1 : (decide ((μ.1 9 4) ≤ (1 : Int32))) = true := decide_eq_true (cm_ge.mp h1)
    refine z_rcs hc hH 2 (pc' := 31) (lv' := [(0, .ref 14), (1, .int 1), (2, .int 1)]) (st' := [.int (μ.1 14 7)]) (μ' := μ) (by rfl) ?_
    have hJ2 : Z 0 44 [(0, .ref 14), (1, .int 1), (2, .int 1)] [.int (nB (!(decide ((μ.1 14 7) = 0))))] μ := by
      exact hr 0 44 _ _ _ (some (.int (nB (!(decide ((μ.1 14 7) = 0)))))) (by decide +kernel) ((fun b : Bool => (by cases b <;> rfl : z_rn mi_X1_isHidden 44 [.int (nB b)] = some (some (.int (nB b))))) (!(decide ((μ.1 14 7) = 0)))) (⟨rfl, (by simp only [h1, lb_f, Int64.or_zero, Int32.add_zero, nB_t, nB_f, Bool.not_true, Bool.not_false, Bool.and_true, Bool.true_and, Bool.false_and, Bool.and_false, Bool.or_true, Bool.true_or, Bool.false_or, Bool.or_false, cond_true, cond_false])⟩)
    refine zq_if hc hH (by rfl) (tg := 39) (by rfl) (fun h3 => ?_) (fun h3 => ?_)
    · have h3 : (decide ((μ.1 14 7) = 0)) = false := decide_eq_false (cm_ne.mp h3)
      refine z_rcs hc hH 2 (pc' := 44) (lv' := [(0, .ref 14), (1, .int 1), (2, .int 1)]) (st' := [.int 1]) (μ' := μ) (by rfl) ?_
      exact zJ hJ2 rfl (by first | with_reducible rfl | (simp only [h3, lb_f, Int64.or_zero, Int32.add_zero, nB_t, nB_f, Bool.not_true, Bool.not_false, Bool.and_true, Bool.true_and, Bool.false_and, Bool.and_false, Bool.or_true, Bool.true_or, Bool.false_or, Bool.or_false, cond_true, cond_false]; done) | rfl) rfl
    · have h3 : (decide ((μ.1 14 7) = 0)) = true := decide_eq_true (cn_ne.mp h3)
      refine z_rcs hc hH 4 (pc' := 44) (lv' := [(0, .ref 14), (1, .int 1), (2, .int 1)]) (st' := [.int 0]) (μ' := μ) (by rfl) ?_
      exact zJ hJ2 rfl (by first | with_reducible rfl | (simp only [h3, lb_f, Int64.or_zero, Int32.add_zero, nB_t, nB_f, Bool.not_true, Bool.not_false, Bool.and_true, Bool.true_and, Bool.false_and, Bool.and_false, Bool.or_true, Bool.true_or, Bool.false_or, Bool.or_false, cond_true, cond_false]; done) | rfl) rfl
  · have h1 : (decide ((μ.1 9 4) ≤ (1 : Int32))) = false := decide_eq_false (cn_ge.mp h1)
    refine z_rcs hc hH 3 (pc' := 16) (lv' := [(0, .ref 14), (1, .int 1), (2, .int 1)]) (st' := [.int 1, .ref 15]) (μ' := μ) (by rfl) ?_
    refine zq_iald hc hH (by rfl) 4 (by decide +kernel) (show vp_in (nI 1) 4 from vp_in_nI (by decide) (by decide)) ?_
    show Z 0 17 [(0, .ref 14), (1, .int 1), (2, .int 1)] [.int (μ.1 15 1)] μ
    refine z_rcs hc hH 1 (pc' := 18) (lv' := [(0, .ref 14), (1, .int 1), (2, .int 1)]) (st' := [.int 3, .int (μ.1 15 1)]) (μ' := μ) (by rfl) ?_
    have hJ4 : Z 0 26 [(0, .ref 14), (1, .int 1), (2, .int 1)] [.int (nB (decide ((μ.1 15 1) = 3)))] μ := by
      exact hr 0 26 _ _ _ (some (.int (nB (decide ((μ.1 15 1) = 3))))) (by decide +kernel) ((fun b : Bool => (by cases b <;> rfl : z_rn mi_X1_isHidden 26 [.int (nB b)] = some (some (.int (nB b))))) (decide ((μ.1 15 1) = 3))) (⟨rfl, (by simp only [h1, lb_f, Int64.or_zero, Int32.add_zero, nB_t, nB_f, Bool.not_true, Bool.not_false, Bool.and_true, Bool.true_and, Bool.false_and, Bool.and_false, Bool.or_true, Bool.true_or, Bool.false_or, Bool.or_false, cond_true, cond_false])⟩)
    refine zq_ic hc hH (by rfl) (tg := 25) (by rfl) (fun h5 => ?_) (fun h5 => ?_)
    · have h5 : (decide ((μ.1 15 1) = 3)) = false := decide_eq_false (cm_ne.mp h5)
      refine z_rcs hc hH 1 (pc' := 26) (lv' := [(0, .ref 14), (1, .int 1), (2, .int 1)]) (st' := [.int 0]) (μ' := μ) (by rfl) ?_
      exact zJ hJ4 rfl (by first | with_reducible rfl | (simp only [h5, lb_f, Int64.or_zero, Int32.add_zero, nB_t, nB_f, Bool.not_true, Bool.not_false, Bool.and_true, Bool.true_and, Bool.false_and, Bool.and_false, Bool.or_true, Bool.true_or, Bool.false_or, Bool.or_false, cond_true, cond_false]; done) | rfl) rfl
    · have h5 : (decide ((μ.1 15 1) = 3)) = true := decide_eq_true (cn_ne.mp h5)
      refine z_rcs hc hH 2 (pc' := 26) (lv' := [(0, .ref 14), (1, .int 1), (2, .int 1)]) (st' := [.int 1]) (μ' := μ) (by rfl) ?_
      exact zJ hJ4 rfl (by first | with_reducible rfl | (simp only [h5, lb_f, Int64.or_zero, Int32.add_zero, nB_t, nB_f, Bool.not_true, Bool.not_false, Bool.and_true, Bool.true_and, Bool.false_and, Bool.and_false, Bool.or_true, Bool.true_or, Bool.false_or, Bool.or_false, cond_true, cond_false]; done) | rfl) rfl
theorem fb_X1_isHidden_1_2 (d : Nat) (hd : 1 ≤ d) (μ : zM) (ht : μ.2.2 14 = 9) : z_C d mi_X1_isHidden [.ref 14, .int 1, .int 2] μ (zR μ (.int (nB ((decide ((μ.1 9 4) ≤ (1 : Int32))) || (decide ((μ.1 15 1) = 3)))))) := by
  refine z_C_in (by decide) (by omega) (fun d' Z ed hc hr => ?_)
  have hH : zH mi_X1_isHidden zt_X1_isHidden 79 1 3 := hh_X1_isHidden
  refine z_rcs hc hH 2 (pc' := 2) (lv' := [(0, .ref 14), (1, .int 1), (2, .int 2)]) (st' := [.ref 14, .int 1]) (μ' := μ) (by rfl) ?_
  refine zq_tget hc hH (by rfl) (ci := 0) (f := 5) (t := 9) (by decide +kernel) ht (by decide) ?_
  refine z_rcs hc hH 1 (pc' := 8) (lv' := [(0, .ref 14), (1, .int 1), (2, .int 2)]) (st' := [.int (μ.1 9 4), .int 1]) (μ' := μ) (by rfl) ?_
  refine zq_ic hc hH (by rfl) (tg := 27) (by rfl) (fun h1 => ?_) (fun h1 => ?_)
  · have h1 : (decide ((μ.1 9 4) ≤ (1 : Int32))) = true := decide_eq_true (cm_ge.mp h1)
    refine z_rcs hc hH 2 (pc' := 31) (lv' := [(0, .ref 14), (1, .int 1), (2, .int 2)]) (st' := [.int (μ.1 14 7)]) (μ' := μ) (by rfl) ?_
    have hJ2 : Z 0 44 [(0, .ref 14), (1, .int 1), (2, .int 2)] [.int 1] μ := by
      exact hr 0 44 _ _ _ (some (.int 1)) (by decide +kernel) (z_rx_ok hH (by rfl)) (⟨rfl, (by simp only [h1, lb_f, Int64.or_zero, Int32.add_zero, nB_t, nB_f, Bool.not_true, Bool.not_false, Bool.and_true, Bool.true_and, Bool.false_and, Bool.and_false, Bool.or_true, Bool.true_or, Bool.false_or, Bool.or_false, cond_true, cond_false])⟩)
    refine zq_if hc hH (by rfl) (tg := 39) (by rfl) (fun h3 => ?_) (fun h3 => ?_)
    · have h3 : (decide ((μ.1 14 7) = 0)) = false := decide_eq_false (cm_ne.mp h3)
      refine z_rcs hc hH 2 (pc' := 44) (lv' := [(0, .ref 14), (1, .int 1), (2, .int 2)]) (st' := [.int 1]) (μ' := μ) (by rfl) ?_
      exact zJ hJ2 rfl rfl rfl
    · have h3 : (decide ((μ.1 14 7) = 0)) = true := decide_eq_true (cn_ne.mp h3)
      refine z_rcs hc hH 5 (pc' := 44) (lv' := [(0, .ref 14), (1, .int 1), (2, .int 2)]) (st' := [.int 1]) (μ' := μ) (by rfl) ?_
      exact zJ hJ2 rfl rfl rfl
  · have h1 : (decide ((μ.1 9 4) ≤ (1 : Int32))) = false := decide_eq_false (cn_ge.mp h1)
    refine z_rcs hc hH 3 (pc' := 16) (lv' := [(0, .ref 14), (1, .int 1), (2, .int 2)]) (st' := [.int 1, .ref 15]) (μ' := μ) (by rfl) ?_
    refine zq_iald hc hH (by rfl) 4 (by decide +kernel) (show vp_in (nI 1) 4 from vp_in_nI (by decide) (by decide)) ?_
    show Z 0 17 [(0, .ref 14), (1, .int 1), (2, .int 2)] [.int (μ.1 15 1)] μ
    refine z_rcs hc hH 1 (pc' := 18) (lv' := [(0, .ref 14), (1, .int 1), (2, .int 2)]) (st' := [.int 3, .int (μ.1 15 1)]) (μ' := μ) (by rfl) ?_
    have hJ4 : Z 0 26 [(0, .ref 14), (1, .int 1), (2, .int 2)] [.int (nB (decide ((μ.1 15 1) = 3)))] μ := by
      exact hr 0 26 _ _ _ (some (.int (nB (decide ((μ.1 15 1) = 3))))) (by decide +kernel) ((fun b : Bool => (by cases b <;> rfl : z_rn mi_X1_isHidden 26 [.int (nB b)] = some (some (.int (nB b))))) (decide ((μ.1 15 1) = 3))) (⟨rfl, (by simp only [h1, lb_f, Int64.or_zero, Int32.add_zero, nB_t, nB_f, Bool.not_true, Bool.not_false, Bool.and_true, Bool.true_and, Bool.false_and, Bool.and_false, Bool.or_true, Bool.true_or, Bool.false_or, Bool.or_false, cond_true, cond_false])⟩)
    refine zq_ic hc hH (by rfl) (tg := 25) (by rfl) (fun h5 => ?_) (fun h5 => ?_)
    · have h5 : (decide ((μ.1 15 1) = 3)) = false := decide_eq_false (cm_ne.mp h5)
      refine z_rcs hc hH 1 (pc' := 26) (lv' := [(0, .ref 14), (1, .int 1), (2, .int 2)]) (st' := [.int 0]) (μ' := μ) (by rfl) ?_
      exact zJ hJ4 rfl (by first | with_reducible rfl | (simp only [h5, lb_f, Int64.or_zero, Int32.add_zero, nB_t, nB_f, Bool.not_true, Bool.not_false, Bool.and_true, Bool.true_and, Bool.false_and, Bool.and_false, Bool.or_true, Bool.true_or, Bool.false_or, Bool.or_false, cond_true, cond_false]; done) | rfl) rfl
    · have h5 : (decide ((μ.1 15 1) = 3)) = true := decide_eq_true (cn_ne.mp h5)
      refine z_rcs hc hH 2 (pc' := 26) (lv' := [(0, .ref 14), (1, .int 1), (2, .int 2)]) (st' := [.int 1]) (μ' := μ) (by rfl) ?_
      exact zJ hJ4 rfl (by first | with_reducible rfl | (simp only [h5, lb_f, Int64.or_zero, Int32.add_zero, nB_t, nB_f, Bool.not_true, Bool.not_false, Bool.and_true, Bool.true_and, Bool.false_and, Bool.and_false, Bool.or_true, Bool.true_or, Bool.false_or, Bool.or_false, cond_true, cond_false]; done) | rfl) rfl
theorem fb_X1_isHidden_1_3 (d : Nat) (hd : 1 ≤ d) (μ : zM) (ht : μ.2.2 14 = 9) : z_C d mi_X1_isHidden [.ref 14, .int 1, .int 3] μ (zR μ (.int (nB ((decide ((μ.1 9 4) ≤ (1 : Int32))) || (decide ((μ.1 15 1) = 3)))))) := by
  refine z_C_in (by decide) (by omega) (fun d' Z ed hc hr => ?_)
  have hH : zH mi_X1_isHidden zt_X1_isHidden 79 1 3 := hh_X1_isHidden
  refine z_rcs hc hH 2 (pc' := 2) (lv' := [(0, .ref 14), (1, .int 1), (2, .int 3)]) (st' := [.ref 14, .int 1]) (μ' := μ) (by rfl) ?_
  refine zq_tget hc hH (by rfl) (ci := 0) (f := 5) (t := 9) (by decide +kernel) ht (by decide) ?_
  refine z_rcs hc hH 1 (pc' := 8) (lv' := [(0, .ref 14), (1, .int 1), (2, .int 3)]) (st' := [.int (μ.1 9 4), .int 1]) (μ' := μ) (by rfl) ?_
  refine zq_ic hc hH (by rfl) (tg := 27) (by rfl) (fun h1 => ?_) (fun h1 => ?_)
  · have h1 : (decide ((μ.1 9 4) ≤ (1 : Int32))) = true := decide_eq_true (cm_ge.mp h1)
    refine z_rcs hc hH 2 (pc' := 31) (lv' := [(0, .ref 14), (1, .int 1), (2, .int 3)]) (st' := [.int (μ.1 14 7)]) (μ' := μ) (by rfl) ?_
    have hJ2 : Z 0 44 [(0, .ref 14), (1, .int 1), (2, .int 3)] [.int 1] μ := by
      exact hr 0 44 _ _ _ (some (.int 1)) (by decide +kernel) (z_rx_ok hH (by rfl)) (⟨rfl, (by simp only [h1, lb_f, Int64.or_zero, Int32.add_zero, nB_t, nB_f, Bool.not_true, Bool.not_false, Bool.and_true, Bool.true_and, Bool.false_and, Bool.and_false, Bool.or_true, Bool.true_or, Bool.false_or, Bool.or_false, cond_true, cond_false])⟩)
    refine zq_if hc hH (by rfl) (tg := 39) (by rfl) (fun h3 => ?_) (fun h3 => ?_)
    · have h3 : (decide ((μ.1 14 7) = 0)) = false := decide_eq_false (cm_ne.mp h3)
      refine z_rcs hc hH 2 (pc' := 44) (lv' := [(0, .ref 14), (1, .int 1), (2, .int 3)]) (st' := [.int 1]) (μ' := μ) (by rfl) ?_
      exact zJ hJ2 rfl rfl rfl
    · have h3 : (decide ((μ.1 14 7) = 0)) = true := decide_eq_true (cn_ne.mp h3)
      refine z_rcs hc hH 5 (pc' := 44) (lv' := [(0, .ref 14), (1, .int 1), (2, .int 3)]) (st' := [.int 1]) (μ' := μ) (by rfl) ?_
      exact zJ hJ2 rfl rfl rfl
  · have h1 : (decide ((μ.1 9 4) ≤ (1 : Int32))) = false := decide_eq_false (cn_ge.mp h1)
    refine z_rcs hc hH 3 (pc' := 16) (lv' := [(0, .ref 14), (1, .int 1), (2, .int 3)]) (st' := [.int 1, .ref 15]) (μ' := μ) (by rfl) ?_
    refine zq_iald hc hH (by rfl) 4 (by decide +kernel) (show vp_in (nI 1) 4 from vp_in_nI (by decide) (by decide)) ?_
    show Z 0 17 [(0, .ref 14), (1, .int 1), (2, .int 3)] [.int (μ.1 15 1)] μ
    refine z_rcs hc hH 1 (pc' := 18) (lv' := [(0, .ref 14), (1, .int 1), (2, .int 3)]) (st' := [.int 3, .int (μ.1 15 1)]) (μ' := μ) (by rfl) ?_
    have hJ4 : Z 0 26 [(0, .ref 14), (1, .int 1), (2, .int 3)] [.int (nB (decide ((μ.1 15 1) = 3)))] μ := by
      exact hr 0 26 _ _ _ (some (.int (nB (decide ((μ.1 15 1) = 3))))) (by decide +kernel) ((fun b : Bool => (by cases b <;> rfl : z_rn mi_X1_isHidden 26 [.int (nB b)] = some (some (.int (nB b))))) (decide ((μ.1 15 1) = 3))) (⟨rfl, (by simp only [h1, lb_f, Int64.or_zero, Int32.add_zero, nB_t, nB_f, Bool.not_true, Bool.not_false, Bool.and_true, Bool.true_and, Bool.false_and, Bool.and_false, Bool.or_true, Bool.true_or, Bool.false_or, Bool.or_false, cond_true, cond_false])⟩)
    refine zq_ic hc hH (by rfl) (tg := 25) (by rfl) (fun h5 => ?_) (fun h5 => ?_)
    · have h5 : (decide ((μ.1 15 1) = 3)) = false := decide_eq_false (cm_ne.mp h5)
      refine z_rcs hc hH 1 (pc' := 26) (lv' := [(0, .ref 14), (1, .int 1), (2, .int 3)]) (st' := [.int 0]) (μ' := μ) (by rfl) ?_
      exact zJ hJ4 rfl (by first | with_reducible rfl | (simp only [h5, lb_f, Int64.or_zero, Int32.add_zero, nB_t, nB_f, Bool.not_true, Bool.not_false, Bool.and_true, Bool.true_and, Bool.false_and, Bool.and_false, Bool.or_true, Bool.true_or, Bool.false_or, Bool.or_false, cond_true, cond_false]; done) | rfl) rfl
    · have h5 : (decide ((μ.1 15 1) = 3)) = true := decide_eq_true (cn_ne.mp h5)
      refine z_rcs hc hH 2 (pc' := 26) (lv' := [(0, .ref 14), (1, .int 1), (2, .int 3)]) (st' := [.int 1]) (μ' := μ) (by rfl) ?_
      exact zJ hJ4 rfl (by first | with_reducible rfl | (simp only [h5, lb_f, Int64.or_zero, Int32.add_zero, nB_t, nB_f, Bool.not_true, Bool.not_false, Bool.and_true, Bool.true_and, Bool.false_and, Bool.and_false, Bool.or_true, Bool.true_or, Bool.false_or, Bool.or_false, cond_true, cond_false]; done) | rfl) rfl
theorem fb_X1_isHidden_1_4 (d : Nat) (hd : 1 ≤ d) (μ : zM) (ht : μ.2.2 14 = 9) : z_C d mi_X1_isHidden [.ref 14, .int 1, .int 4] μ (zR μ (.int (nB ((decide ((μ.1 9 4) ≤ (1 : Int32))) || (decide ((μ.1 15 1) = 3)))))) := by
  refine z_C_in (by decide) (by omega) (fun d' Z ed hc hr => ?_)
  have hH : zH mi_X1_isHidden zt_X1_isHidden 79 1 3 := hh_X1_isHidden
  refine z_rcs hc hH 2 (pc' := 2) (lv' := [(0, .ref 14), (1, .int 1), (2, .int 4)]) (st' := [.ref 14, .int 1]) (μ' := μ) (by rfl) ?_
  refine zq_tget hc hH (by rfl) (ci := 0) (f := 5) (t := 9) (by decide +kernel) ht (by decide) ?_
  refine z_rcs hc hH 1 (pc' := 8) (lv' := [(0, .ref 14), (1, .int 1), (2, .int 4)]) (st' := [.int (μ.1 9 4), .int 1]) (μ' := μ) (by rfl) ?_
  refine zq_ic hc hH (by rfl) (tg := 27) (by rfl) (fun h1 => ?_) (fun h1 => ?_)
  · have h1 : (decide ((μ.1 9 4) ≤ (1 : Int32))) = true := decide_eq_true (cm_ge.mp h1)
    refine z_rcs hc hH 2 (pc' := 31) (lv' := [(0, .ref 14), (1, .int 1), (2, .int 4)]) (st' := [.int (μ.1 14 7)]) (μ' := μ) (by rfl) ?_
    have hJ2 : Z 0 44 [(0, .ref 14), (1, .int 1), (2, .int 4)] [.int 1] μ := by
      exact hr 0 44 _ _ _ (some (.int 1)) (by decide +kernel) (z_rx_ok hH (by rfl)) (⟨rfl, (by simp only [h1, lb_f, Int64.or_zero, Int32.add_zero, nB_t, nB_f, Bool.not_true, Bool.not_false, Bool.and_true, Bool.true_and, Bool.false_and, Bool.and_false, Bool.or_true, Bool.true_or, Bool.false_or, Bool.or_false, cond_true, cond_false])⟩)
    refine zq_if hc hH (by rfl) (tg := 39) (by rfl) (fun h3 => ?_) (fun h3 => ?_)
    · have h3 : (decide ((μ.1 14 7) = 0)) = false := decide_eq_false (cm_ne.mp h3)
      refine z_rcs hc hH 2 (pc' := 44) (lv' := [(0, .ref 14), (1, .int 1), (2, .int 4)]) (st' := [.int 1]) (μ' := μ) (by rfl) ?_
      exact zJ hJ2 rfl rfl rfl
    · have h3 : (decide ((μ.1 14 7) = 0)) = true := decide_eq_true (cn_ne.mp h3)
      refine z_rcs hc hH 5 (pc' := 44) (lv' := [(0, .ref 14), (1, .int 1), (2, .int 4)]) (st' := [.int 1]) (μ' := μ) (by rfl) ?_
      exact zJ hJ2 rfl rfl rfl
  · have h1 : (decide ((μ.1 9 4) ≤ (1 : Int32))) = false := decide_eq_false (cn_ge.mp h1)
    refine z_rcs hc hH 3 (pc' := 16) (lv' := [(0, .ref 14), (1, .int 1), (2, .int 4)]) (st' := [.int 1, .ref 15]) (μ' := μ) (by rfl) ?_
    refine zq_iald hc hH (by rfl) 4 (by decide +kernel) (show vp_in (nI 1) 4 from vp_in_nI (by decide) (by decide)) ?_
    show Z 0 17 [(0, .ref 14), (1, .int 1), (2, .int 4)] [.int (μ.1 15 1)] μ
    refine z_rcs hc hH 1 (pc' := 18) (lv' := [(0, .ref 14), (1, .int 1), (2, .int 4)]) (st' := [.int 3, .int (μ.1 15 1)]) (μ' := μ) (by rfl) ?_
    have hJ4 : Z 0 26 [(0, .ref 14), (1, .int 1), (2, .int 4)] [.int (nB (decide ((μ.1 15 1) = 3)))] μ := by
      exact hr 0 26 _ _ _ (some (.int (nB (decide ((μ.1 15 1) = 3))))) (by decide +kernel) ((fun b : Bool => (by cases b <;> rfl : z_rn mi_X1_isHidden 26 [.int (nB b)] = some (some (.int (nB b))))) (decide ((μ.1 15 1) = 3))) (⟨rfl, (by simp only [h1, lb_f, Int64.or_zero, Int32.add_zero, nB_t, nB_f, Bool.not_true, Bool.not_false, Bool.and_true, Bool.true_and, Bool.false_and, Bool.and_false, Bool.or_true, Bool.true_or, Bool.false_or, Bool.or_false, cond_true, cond_false])⟩)
    refine zq_ic hc hH (by rfl) (tg := 25) (by rfl) (fun h5 => ?_) (fun h5 => ?_)
    · have h5 : (decide ((μ.1 15 1) = 3)) = false := decide_eq_false (cm_ne.mp h5)
      refine z_rcs hc hH 1 (pc' := 26) (lv' := [(0, .ref 14), (1, .int 1), (2, .int 4)]) (st' := [.int 0]) (μ' := μ) (by rfl) ?_
      exact zJ hJ4 rfl (by first | with_reducible rfl | (simp only [h5, lb_f, Int64.or_zero, Int32.add_zero, nB_t, nB_f, Bool.not_true, Bool.not_false, Bool.and_true, Bool.true_and, Bool.false_and, Bool.and_false, Bool.or_true, Bool.true_or, Bool.false_or, Bool.or_false, cond_true, cond_false]; done) | rfl) rfl
    · have h5 : (decide ((μ.1 15 1) = 3)) = true := decide_eq_true (cn_ne.mp h5)
      refine z_rcs hc hH 2 (pc' := 26) (lv' := [(0, .ref 14), (1, .int 1), (2, .int 4)]) (st' := [.int 1]) (μ' := μ) (by rfl) ?_
      exact zJ hJ4 rfl (by first | with_reducible rfl | (simp only [h5, lb_f, Int64.or_zero, Int32.add_zero, nB_t, nB_f, Bool.not_true, Bool.not_false, Bool.and_true, Bool.true_and, Bool.false_and, Bool.and_false, Bool.or_true, Bool.true_or, Bool.false_or, Bool.or_false, cond_true, cond_false]; done) | rfl) rfl
theorem fb_X1_isHidden_2_0 (d : Nat) (hd : 1 ≤ d) (μ : zM) (ht : μ.2.2 14 = 9) : z_C d mi_X1_isHidden [.ref 14, .int 2, .int 0] μ (zR μ (.int (nB ((decide ((μ.1 9 4) ≤ (2 : Int32))) || (decide ((μ.1 15 2) = 3)))))) := by
  refine z_C_in (by decide) (by omega) (fun d' Z ed hc hr => ?_)
  have hH : zH mi_X1_isHidden zt_X1_isHidden 79 1 3 := hh_X1_isHidden
  refine z_rcs hc hH 2 (pc' := 2) (lv' := [(0, .ref 14), (1, .int 2), (2, .int 0)]) (st' := [.ref 14, .int 2]) (μ' := μ) (by rfl) ?_
  refine zq_tget hc hH (by rfl) (ci := 0) (f := 5) (t := 9) (by decide +kernel) ht (by decide) ?_
  refine z_rcs hc hH 1 (pc' := 8) (lv' := [(0, .ref 14), (1, .int 2), (2, .int 0)]) (st' := [.int (μ.1 9 4), .int 2]) (μ' := μ) (by rfl) ?_
  refine zq_ic hc hH (by rfl) (tg := 27) (by rfl) (fun h1 => ?_) (fun h1 => ?_)
  · have h1 : (decide ((μ.1 9 4) ≤ (2 : Int32))) = true := decide_eq_true (cm_ge.mp h1)
    refine z_rcs hc hH 2 (pc' := 31) (lv' := [(0, .ref 14), (1, .int 2), (2, .int 0)]) (st' := [.int (μ.1 14 7)]) (μ' := μ) (by rfl) ?_
    have hJ2 : Z 0 44 [(0, .ref 14), (1, .int 2), (2, .int 0)] [.int 1] μ := by
      exact hr 0 44 _ _ _ (some (.int 1)) (by decide +kernel) (z_rx_ok hH (by rfl)) (⟨rfl, (by simp only [h1, lb_f, Int64.or_zero, Int32.add_zero, nB_t, nB_f, Bool.not_true, Bool.not_false, Bool.and_true, Bool.true_and, Bool.false_and, Bool.and_false, Bool.or_true, Bool.true_or, Bool.false_or, Bool.or_false, cond_true, cond_false])⟩)
    refine zq_if hc hH (by rfl) (tg := 39) (by rfl) (fun h3 => ?_) (fun h3 => ?_)
    · have h3 : (decide ((μ.1 14 7) = 0)) = false := decide_eq_false (cm_ne.mp h3)
      refine z_rcs hc hH 2 (pc' := 44) (lv' := [(0, .ref 14), (1, .int 2), (2, .int 0)]) (st' := [.int 1]) (μ' := μ) (by rfl) ?_
      exact zJ hJ2 rfl rfl rfl
    · have h3 : (decide ((μ.1 14 7) = 0)) = true := decide_eq_true (cn_ne.mp h3)
      refine z_rcs hc hH 5 (pc' := 44) (lv' := [(0, .ref 14), (1, .int 2), (2, .int 0)]) (st' := [.int 1]) (μ' := μ) (by rfl) ?_
      exact zJ hJ2 rfl rfl rfl
  · have h1 : (decide ((μ.1 9 4) ≤ (2 : Int32))) = false := decide_eq_false (cn_ge.mp h1)
    refine z_rcs hc hH 3 (pc' := 16) (lv' := [(0, .ref 14), (1, .int 2), (2, .int 0)]) (st' := [.int 2, .ref 15]) (μ' := μ) (by rfl) ?_
    refine zq_iald hc hH (by rfl) 4 (by decide +kernel) (show vp_in (nI 2) 4 from vp_in_nI (by decide) (by decide)) ?_
    show Z 0 17 [(0, .ref 14), (1, .int 2), (2, .int 0)] [.int (μ.1 15 2)] μ
    refine z_rcs hc hH 1 (pc' := 18) (lv' := [(0, .ref 14), (1, .int 2), (2, .int 0)]) (st' := [.int 3, .int (μ.1 15 2)]) (μ' := μ) (by rfl) ?_
    have hJ4 : Z 0 26 [(0, .ref 14), (1, .int 2), (2, .int 0)] [.int (nB (decide ((μ.1 15 2) = 3)))] μ := by
      exact hr 0 26 _ _ _ (some (.int (nB (decide ((μ.1 15 2) = 3))))) (by decide +kernel) ((fun b : Bool => (by cases b <;> rfl : z_rn mi_X1_isHidden 26 [.int (nB b)] = some (some (.int (nB b))))) (decide ((μ.1 15 2) = 3))) (⟨rfl, (by simp only [h1, lb_f, Int64.or_zero, Int32.add_zero, nB_t, nB_f, Bool.not_true, Bool.not_false, Bool.and_true, Bool.true_and, Bool.false_and, Bool.and_false, Bool.or_true, Bool.true_or, Bool.false_or, Bool.or_false, cond_true, cond_false])⟩)
    refine zq_ic hc hH (by rfl) (tg := 25) (by rfl) (fun h5 => ?_) (fun h5 => ?_)
    · have h5 : (decide ((μ.1 15 2) = 3)) = false := decide_eq_false (cm_ne.mp h5)
      refine z_rcs hc hH 1 (pc' := 26) (lv' := [(0, .ref 14), (1, .int 2), (2, .int 0)]) (st' := [.int 0]) (μ' := μ) (by rfl) ?_
      exact zJ hJ4 rfl (by first | with_reducible rfl | (simp only [h5, lb_f, Int64.or_zero, Int32.add_zero, nB_t, nB_f, Bool.not_true, Bool.not_false, Bool.and_true, Bool.true_and, Bool.false_and, Bool.and_false, Bool.or_true, Bool.true_or, Bool.false_or, Bool.or_false, cond_true, cond_false]; done) | rfl) rfl
    · have h5 : (decide ((μ.1 15 2) = 3)) = true := decide_eq_true (cn_ne.mp h5)
      refine z_rcs hc hH 2 (pc' := 26) (lv' := [(0, .ref 14), (1, .int 2), (2, .int 0)]) (st' := [.int 1]) (μ' := μ) (by rfl) ?_
      exact zJ hJ4 rfl (by first | with_reducible rfl | (simp only [h5, lb_f, Int64.or_zero, Int32.add_zero, nB_t, nB_f, Bool.not_true, Bool.not_false, Bool.and_true, Bool.true_and, Bool.false_and, Bool.and_false, Bool.or_true, Bool.true_or, Bool.false_or, Bool.or_false, cond_true, cond_false]; done) | rfl) rfl
theorem fb_X1_isHidden_2_1 (d : Nat) (hd : 1 ≤ d) (μ : zM) (ht : μ.2.2 14 = 9) : z_C d mi_X1_isHidden [.ref 14, .int 2, .int 1] μ (zR μ (.int (nB ((decide ((μ.1 9 4) ≤ (2 : Int32))) || (decide ((μ.1 15 2) = 3)))))) := by
  refine z_C_in (by decide) (by omega) (fun d' Z ed hc hr => ?_)
  have hH : zH mi_X1_isHidden zt_X1_isHidden 79 1 3 := hh_X1_isHidden
  refine z_rcs hc hH 2 (pc' := 2) (lv' := [(0, .ref 14), (1, .int 2), (2, .int 1)]) (st' := [.ref 14, .int 2]) (μ' := μ) (by rfl) ?_
  refine zq_tget hc hH (by rfl) (ci := 0) (f := 5) (t := 9) (by decide +kernel) ht (by decide) ?_
  refine z_rcs hc hH 1 (pc' := 8) (lv' := [(0, .ref 14), (1, .int 2), (2, .int 1)]) (st' := [.int (μ.1 9 4), .int 2]) (μ' := μ) (by rfl) ?_
  refine zq_ic hc hH (by rfl) (tg := 27) (by rfl) (fun h1 => ?_) (fun h1 => ?_)
  · have h1 : (decide ((μ.1 9 4) ≤ (2 : Int32))) = true := decide_eq_true (cm_ge.mp h1)
    refine z_rcs hc hH 2 (pc' := 31) (lv' := [(0, .ref 14), (1, .int 2), (2, .int 1)]) (st' := [.int (μ.1 14 7)]) (μ' := μ) (by rfl) ?_
    have hJ2 : Z 0 44 [(0, .ref 14), (1, .int 2), (2, .int 1)] [.int 1] μ := by
      exact hr 0 44 _ _ _ (some (.int 1)) (by decide +kernel) (z_rx_ok hH (by rfl)) (⟨rfl, (by simp only [h1, lb_f, Int64.or_zero, Int32.add_zero, nB_t, nB_f, Bool.not_true, Bool.not_false, Bool.and_true, Bool.true_and, Bool.false_and, Bool.and_false, Bool.or_true, Bool.true_or, Bool.false_or, Bool.or_false, cond_true, cond_false])⟩)
    refine zq_if hc hH (by rfl) (tg := 39) (by rfl) (fun h3 => ?_) (fun h3 => ?_)
    · have h3 : (decide ((μ.1 14 7) = 0)) = false := decide_eq_false (cm_ne.mp h3)
      refine z_rcs hc hH 2 (pc' := 44) (lv' := [(0, .ref 14), (1, .int 2), (2, .int 1)]) (st' := [.int 1]) (μ' := μ) (by rfl) ?_
      exact zJ hJ2 rfl rfl rfl
    · have h3 : (decide ((μ.1 14 7) = 0)) = true := decide_eq_true (cn_ne.mp h3)
      refine z_rcs hc hH 5 (pc' := 44) (lv' := [(0, .ref 14), (1, .int 2), (2, .int 1)]) (st' := [.int 1]) (μ' := μ) (by rfl) ?_
      exact zJ hJ2 rfl rfl rfl
  · have h1 : (decide ((μ.1 9 4) ≤ (2 : Int32))) = false := decide_eq_false (cn_ge.mp h1)
    refine z_rcs hc hH 3 (pc' := 16) (lv' := [(0, .ref 14), (1, .int 2), (2, .int 1)]) (st' := [.int 2, .ref 15]) (μ' := μ) (by rfl) ?_
    refine zq_iald hc hH (by rfl) 4 (by decide +kernel) (show vp_in (nI 2) 4 from vp_in_nI (by decide) (by decide)) ?_
    show Z 0 17 [(0, .ref 14), (1, .int 2), (2, .int 1)] [.int (μ.1 15 2)] μ
    refine z_rcs hc hH 1 (pc' := 18) (lv' := [(0, .ref 14), (1, .int 2), (2, .int 1)]) (st' := [.int 3, .int (μ.1 15 2)]) (μ' := μ) (by rfl) ?_
    have hJ4 : Z 0 26 [(0, .ref 14), (1, .int 2), (2, .int 1)] [.int (nB (decide ((μ.1 15 2) = 3)))] μ := by
      exact hr 0 26 _ _ _ (some (.int (nB (decide ((μ.1 15 2) = 3))))) (by decide +kernel) ((fun b : Bool => (by cases b <;> rfl : z_rn mi_X1_isHidden 26 [.int (nB b)] = some (some (.int (nB b))))) (decide ((μ.1 15 2) = 3))) (⟨rfl, (by simp only [h1, lb_f, Int64.or_zero, Int32.add_zero, nB_t, nB_f, Bool.not_true, Bool.not_false, Bool.and_true, Bool.true_and, Bool.false_and, Bool.and_false, Bool.or_true, Bool.true_or, Bool.false_or, Bool.or_false, cond_true, cond_false])⟩)
    refine zq_ic hc hH (by rfl) (tg := 25) (by rfl) (fun h5 => ?_) (fun h5 => ?_)
    · have h5 : (decide ((μ.1 15 2) = 3)) = false := decide_eq_false (cm_ne.mp h5)
      refine z_rcs hc hH 1 (pc' := 26) (lv' := [(0, .ref 14), (1, .int 2), (2, .int 1)]) (st' := [.int 0]) (μ' := μ) (by rfl) ?_
      exact zJ hJ4 rfl (by first | with_reducible rfl | (simp only [h5, lb_f, Int64.or_zero, Int32.add_zero, nB_t, nB_f, Bool.not_true, Bool.not_false, Bool.and_true, Bool.true_and, Bool.false_and, Bool.and_false, Bool.or_true, Bool.true_or, Bool.false_or, Bool.or_false, cond_true, cond_false]; done) | rfl) rfl
    · have h5 : (decide ((μ.1 15 2) = 3)) = true := decide_eq_true (cn_ne.mp h5)
      refine z_rcs hc hH 2 (pc' := 26) (lv' := [(0, .ref 14), (1, .int 2), (2, .int 1)]) (st' := [.int 1]) (μ' := μ) (by rfl) ?_
      exact zJ hJ4 rfl (by first | with_reducible rfl | (simp only [h5, lb_f, Int64.or_zero, Int32.add_zero, nB_t, nB_f, Bool.not_true, Bool.not_false, Bool.and_true, Bool.true_and, Bool.false_and, Bool.and_false, Bool.or_true, Bool.true_or, Bool.false_or, Bool.or_false, cond_true, cond_false]; done) | rfl) rfl
theorem fb_X1_isHidden_2_2 (d : Nat) (hd : 1 ≤ d) (μ : zM) (ht : μ.2.2 14 = 9) : z_C d mi_X1_isHidden [.ref 14, .int 2, .int 2] μ (zR μ (.int (nB (bif decide ((μ.1 9 4) ≤ (2 : Int32)) then !(decide ((μ.1 14 7) = 0)) else decide ((μ.1 15 2) = 3))))) := by
  refine z_C_in (by decide) (by omega) (fun d' Z ed hc hr => ?_)
  have hH : zH mi_X1_isHidden zt_X1_isHidden 79 1 3 := hh_X1_isHidden
  refine z_rcs hc hH 2 (pc' := 2) (lv' := [(0, .ref 14), (1, .int 2), (2, .int 2)]) (st' := [.ref 14, .int 2]) (μ' := μ) (by rfl) ?_
  refine zq_tget hc hH (by rfl) (ci := 0) (f := 5) (t := 9) (by decide +kernel) ht (by decide) ?_
  refine z_rcs hc hH 1 (pc' := 8) (lv' := [(0, .ref 14), (1, .int 2), (2, .int 2)]) (st' := [.int (μ.1 9 4), .int 2]) (μ' := μ) (by rfl) ?_
  refine zq_ic hc hH (by rfl) (tg := 27) (by rfl) (fun h1 => ?_) (fun h1 => ?_)
  · have h1 : (decide ((μ.1 9 4) ≤ (2 : Int32))) = true := decide_eq_true (cm_ge.mp h1)
    refine z_rcs hc hH 2 (pc' := 31) (lv' := [(0, .ref 14), (1, .int 2), (2, .int 2)]) (st' := [.int (μ.1 14 7)]) (μ' := μ) (by rfl) ?_
    have hJ2 : Z 0 44 [(0, .ref 14), (1, .int 2), (2, .int 2)] [.int (nB (!(decide ((μ.1 14 7) = 0))))] μ := by
      exact hr 0 44 _ _ _ (some (.int (nB (!(decide ((μ.1 14 7) = 0)))))) (by decide +kernel) ((fun b : Bool => (by cases b <;> rfl : z_rn mi_X1_isHidden 44 [.int (nB b)] = some (some (.int (nB b))))) (!(decide ((μ.1 14 7) = 0)))) (⟨rfl, (by simp only [h1, lb_f, Int64.or_zero, Int32.add_zero, nB_t, nB_f, Bool.not_true, Bool.not_false, Bool.and_true, Bool.true_and, Bool.false_and, Bool.and_false, Bool.or_true, Bool.true_or, Bool.false_or, Bool.or_false, cond_true, cond_false])⟩)
    refine zq_if hc hH (by rfl) (tg := 39) (by rfl) (fun h3 => ?_) (fun h3 => ?_)
    · have h3 : (decide ((μ.1 14 7) = 0)) = false := decide_eq_false (cm_ne.mp h3)
      refine z_rcs hc hH 2 (pc' := 44) (lv' := [(0, .ref 14), (1, .int 2), (2, .int 2)]) (st' := [.int 1]) (μ' := μ) (by rfl) ?_
      exact zJ hJ2 rfl (by first | with_reducible rfl | (simp only [h3, lb_f, Int64.or_zero, Int32.add_zero, nB_t, nB_f, Bool.not_true, Bool.not_false, Bool.and_true, Bool.true_and, Bool.false_and, Bool.and_false, Bool.or_true, Bool.true_or, Bool.false_or, Bool.or_false, cond_true, cond_false]; done) | rfl) rfl
    · have h3 : (decide ((μ.1 14 7) = 0)) = true := decide_eq_true (cn_ne.mp h3)
      refine z_rcs hc hH 4 (pc' := 44) (lv' := [(0, .ref 14), (1, .int 2), (2, .int 2)]) (st' := [.int 0]) (μ' := μ) (by rfl) ?_
      exact zJ hJ2 rfl (by first | with_reducible rfl | (simp only [h3, lb_f, Int64.or_zero, Int32.add_zero, nB_t, nB_f, Bool.not_true, Bool.not_false, Bool.and_true, Bool.true_and, Bool.false_and, Bool.and_false, Bool.or_true, Bool.true_or, Bool.false_or, Bool.or_false, cond_true, cond_false]; done) | rfl) rfl
  · have h1 : (decide ((μ.1 9 4) ≤ (2 : Int32))) = false := decide_eq_false (cn_ge.mp h1)
    refine z_rcs hc hH 3 (pc' := 16) (lv' := [(0, .ref 14), (1, .int 2), (2, .int 2)]) (st' := [.int 2, .ref 15]) (μ' := μ) (by rfl) ?_
    refine zq_iald hc hH (by rfl) 4 (by decide +kernel) (show vp_in (nI 2) 4 from vp_in_nI (by decide) (by decide)) ?_
    show Z 0 17 [(0, .ref 14), (1, .int 2), (2, .int 2)] [.int (μ.1 15 2)] μ
    refine z_rcs hc hH 1 (pc' := 18) (lv' := [(0, .ref 14), (1, .int 2), (2, .int 2)]) (st' := [.int 3, .int (μ.1 15 2)]) (μ' := μ) (by rfl) ?_
    have hJ4 : Z 0 26 [(0, .ref 14), (1, .int 2), (2, .int 2)] [.int (nB (decide ((μ.1 15 2) = 3)))] μ := by
      exact hr 0 26 _ _ _ (some (.int (nB (decide ((μ.1 15 2) = 3))))) (by decide +kernel) ((fun b : Bool => (by cases b <;> rfl : z_rn mi_X1_isHidden 26 [.int (nB b)] = some (some (.int (nB b))))) (decide ((μ.1 15 2) = 3))) (⟨rfl, (by simp only [h1, lb_f, Int64.or_zero, Int32.add_zero, nB_t, nB_f, Bool.not_true, Bool.not_false, Bool.and_true, Bool.true_and, Bool.false_and, Bool.and_false, Bool.or_true, Bool.true_or, Bool.false_or, Bool.or_false, cond_true, cond_false])⟩)
    refine zq_ic hc hH (by rfl) (tg := 25) (by rfl) (fun h5 => ?_) (fun h5 => ?_)
    · have h5 : (decide ((μ.1 15 2) = 3)) = false := decide_eq_false (cm_ne.mp h5)
      refine z_rcs hc hH 1 (pc' := 26) (lv' := [(0, .ref 14), (1, .int 2), (2, .int 2)]) (st' := [.int 0]) (μ' := μ) (by rfl) ?_
      exact zJ hJ4 rfl (by first | with_reducible rfl | (simp only [h5, lb_f, Int64.or_zero, Int32.add_zero, nB_t, nB_f, Bool.not_true, Bool.not_false, Bool.and_true, Bool.true_and, Bool.false_and, Bool.and_false, Bool.or_true, Bool.true_or, Bool.false_or, Bool.or_false, cond_true, cond_false]; done) | rfl) rfl
    · have h5 : (decide ((μ.1 15 2) = 3)) = true := decide_eq_true (cn_ne.mp h5)
      refine z_rcs hc hH 2 (pc' := 26) (lv' := [(0, .ref 14), (1, .int 2), (2, .int 2)]) (st' := [.int 1]) (μ' := μ) (by rfl) ?_
      exact zJ hJ4 rfl (by first | with_reducible rfl | (simp only [h5, lb_f, Int64.or_zero, Int32.add_zero, nB_t, nB_f, Bool.not_true, Bool.not_false, Bool.and_true, Bool.true_and, Bool.false_and, Bool.and_false, Bool.or_true, Bool.true_or, Bool.false_or, Bool.or_false, cond_true, cond_false]; done) | rfl) rfl
theorem fb_X1_isHidden_2_3 (d : Nat) (hd : 1 ≤ d) (μ : zM) (ht : μ.2.2 14 = 9) : z_C d mi_X1_isHidden [.ref 14, .int 2, .int 3] μ (zR μ (.int (nB ((decide ((μ.1 9 4) ≤ (2 : Int32))) || (decide ((μ.1 15 2) = 3)))))) := by
  refine z_C_in (by decide) (by omega) (fun d' Z ed hc hr => ?_)
  have hH : zH mi_X1_isHidden zt_X1_isHidden 79 1 3 := hh_X1_isHidden
  refine z_rcs hc hH 2 (pc' := 2) (lv' := [(0, .ref 14), (1, .int 2), (2, .int 3)]) (st' := [.ref 14, .int 2]) (μ' := μ) (by rfl) ?_
  refine zq_tget hc hH (by rfl) (ci := 0) (f := 5) (t := 9) (by decide +kernel) ht (by decide) ?_
  refine z_rcs hc hH 1 (pc' := 8) (lv' := [(0, .ref 14), (1, .int 2), (2, .int 3)]) (st' := [.int (μ.1 9 4), .int 2]) (μ' := μ) (by rfl) ?_
  refine zq_ic hc hH (by rfl) (tg := 27) (by rfl) (fun h1 => ?_) (fun h1 => ?_)
  · have h1 : (decide ((μ.1 9 4) ≤ (2 : Int32))) = true := decide_eq_true (cm_ge.mp h1)
    refine z_rcs hc hH 2 (pc' := 31) (lv' := [(0, .ref 14), (1, .int 2), (2, .int 3)]) (st' := [.int (μ.1 14 7)]) (μ' := μ) (by rfl) ?_
    have hJ2 : Z 0 44 [(0, .ref 14), (1, .int 2), (2, .int 3)] [.int 1] μ := by
      exact hr 0 44 _ _ _ (some (.int 1)) (by decide +kernel) (z_rx_ok hH (by rfl)) (⟨rfl, (by simp only [h1, lb_f, Int64.or_zero, Int32.add_zero, nB_t, nB_f, Bool.not_true, Bool.not_false, Bool.and_true, Bool.true_and, Bool.false_and, Bool.and_false, Bool.or_true, Bool.true_or, Bool.false_or, Bool.or_false, cond_true, cond_false])⟩)
    refine zq_if hc hH (by rfl) (tg := 39) (by rfl) (fun h3 => ?_) (fun h3 => ?_)
    · have h3 : (decide ((μ.1 14 7) = 0)) = false := decide_eq_false (cm_ne.mp h3)
      refine z_rcs hc hH 2 (pc' := 44) (lv' := [(0, .ref 14), (1, .int 2), (2, .int 3)]) (st' := [.int 1]) (μ' := μ) (by rfl) ?_
      exact zJ hJ2 rfl rfl rfl
    · have h3 : (decide ((μ.1 14 7) = 0)) = true := decide_eq_true (cn_ne.mp h3)
      refine z_rcs hc hH 5 (pc' := 44) (lv' := [(0, .ref 14), (1, .int 2), (2, .int 3)]) (st' := [.int 1]) (μ' := μ) (by rfl) ?_
      exact zJ hJ2 rfl rfl rfl
  · have h1 : (decide ((μ.1 9 4) ≤ (2 : Int32))) = false := decide_eq_false (cn_ge.mp h1)
    refine z_rcs hc hH 3 (pc' := 16) (lv' := [(0, .ref 14), (1, .int 2), (2, .int 3)]) (st' := [.int 2, .ref 15]) (μ' := μ) (by rfl) ?_
    refine zq_iald hc hH (by rfl) 4 (by decide +kernel) (show vp_in (nI 2) 4 from vp_in_nI (by decide) (by decide)) ?_
    show Z 0 17 [(0, .ref 14), (1, .int 2), (2, .int 3)] [.int (μ.1 15 2)] μ
    refine z_rcs hc hH 1 (pc' := 18) (lv' := [(0, .ref 14), (1, .int 2), (2, .int 3)]) (st' := [.int 3, .int (μ.1 15 2)]) (μ' := μ) (by rfl) ?_
    have hJ4 : Z 0 26 [(0, .ref 14), (1, .int 2), (2, .int 3)] [.int (nB (decide ((μ.1 15 2) = 3)))] μ := by
      exact hr 0 26 _ _ _ (some (.int (nB (decide ((μ.1 15 2) = 3))))) (by decide +kernel) ((fun b : Bool => (by cases b <;> rfl : z_rn mi_X1_isHidden 26 [.int (nB b)] = some (some (.int (nB b))))) (decide ((μ.1 15 2) = 3))) (⟨rfl, (by simp only [h1, lb_f, Int64.or_zero, Int32.add_zero, nB_t, nB_f, Bool.not_true, Bool.not_false, Bool.and_true, Bool.true_and, Bool.false_and, Bool.and_false, Bool.or_true, Bool.true_or, Bool.false_or, Bool.or_false, cond_true, cond_false])⟩)
    refine zq_ic hc hH (by rfl) (tg := 25) (by rfl) (fun h5 => ?_) (fun h5 => ?_)
    · have h5 : (decide ((μ.1 15 2) = 3)) = false := decide_eq_false (cm_ne.mp h5)
      refine z_rcs hc hH 1 (pc' := 26) (lv' := [(0, .ref 14), (1, .int 2), (2, .int 3)]) (st' := [.int 0]) (μ' := μ) (by rfl) ?_
      exact zJ hJ4 rfl (by first | with_reducible rfl | (simp only [h5, lb_f, Int64.or_zero, Int32.add_zero, nB_t, nB_f, Bool.not_true, Bool.not_false, Bool.and_true, Bool.true_and, Bool.false_and, Bool.and_false, Bool.or_true, Bool.true_or, Bool.false_or, Bool.or_false, cond_true, cond_false]; done) | rfl) rfl
    · have h5 : (decide ((μ.1 15 2) = 3)) = true := decide_eq_true (cn_ne.mp h5)
      refine z_rcs hc hH 2 (pc' := 26) (lv' := [(0, .ref 14), (1, .int 2), (2, .int 3)]) (st' := [.int 1]) (μ' := μ) (by rfl) ?_
      exact zJ hJ4 rfl (by first | with_reducible rfl | (simp only [h5, lb_f, Int64.or_zero, Int32.add_zero, nB_t, nB_f, Bool.not_true, Bool.not_false, Bool.and_true, Bool.true_and, Bool.false_and, Bool.and_false, Bool.or_true, Bool.true_or, Bool.false_or, Bool.or_false, cond_true, cond_false]; done) | rfl) rfl
theorem fb_X1_isHidden_2_4 (d : Nat) (hd : 1 ≤ d) (μ : zM) (ht : μ.2.2 14 = 9) : z_C d mi_X1_isHidden [.ref 14, .int 2, .int 4] μ (zR μ (.int (nB ((decide ((μ.1 9 4) ≤ (2 : Int32))) || (decide ((μ.1 15 2) = 3)))))) := by
  refine z_C_in (by decide) (by omega) (fun d' Z ed hc hr => ?_)
  have hH : zH mi_X1_isHidden zt_X1_isHidden 79 1 3 := hh_X1_isHidden
  refine z_rcs hc hH 2 (pc' := 2) (lv' := [(0, .ref 14), (1, .int 2), (2, .int 4)]) (st' := [.ref 14, .int 2]) (μ' := μ) (by rfl) ?_
  refine zq_tget hc hH (by rfl) (ci := 0) (f := 5) (t := 9) (by decide +kernel) ht (by decide) ?_
  refine z_rcs hc hH 1 (pc' := 8) (lv' := [(0, .ref 14), (1, .int 2), (2, .int 4)]) (st' := [.int (μ.1 9 4), .int 2]) (μ' := μ) (by rfl) ?_
  refine zq_ic hc hH (by rfl) (tg := 27) (by rfl) (fun h1 => ?_) (fun h1 => ?_)
  · have h1 : (decide ((μ.1 9 4) ≤ (2 : Int32))) = true := decide_eq_true (cm_ge.mp h1)
    refine z_rcs hc hH 2 (pc' := 31) (lv' := [(0, .ref 14), (1, .int 2), (2, .int 4)]) (st' := [.int (μ.1 14 7)]) (μ' := μ) (by rfl) ?_
    have hJ2 : Z 0 44 [(0, .ref 14), (1, .int 2), (2, .int 4)] [.int 1] μ := by
      exact hr 0 44 _ _ _ (some (.int 1)) (by decide +kernel) (z_rx_ok hH (by rfl)) (⟨rfl, (by simp only [h1, lb_f, Int64.or_zero, Int32.add_zero, nB_t, nB_f, Bool.not_true, Bool.not_false, Bool.and_true, Bool.true_and, Bool.false_and, Bool.and_false, Bool.or_true, Bool.true_or, Bool.false_or, Bool.or_false, cond_true, cond_false])⟩)
    refine zq_if hc hH (by rfl) (tg := 39) (by rfl) (fun h3 => ?_) (fun h3 => ?_)
    · have h3 : (decide ((μ.1 14 7) = 0)) = false := decide_eq_false (cm_ne.mp h3)
      refine z_rcs hc hH 2 (pc' := 44) (lv' := [(0, .ref 14), (1, .int 2), (2, .int 4)]) (st' := [.int 1]) (μ' := μ) (by rfl) ?_
      exact zJ hJ2 rfl rfl rfl
    · have h3 : (decide ((μ.1 14 7) = 0)) = true := decide_eq_true (cn_ne.mp h3)
      refine z_rcs hc hH 5 (pc' := 44) (lv' := [(0, .ref 14), (1, .int 2), (2, .int 4)]) (st' := [.int 1]) (μ' := μ) (by rfl) ?_
      exact zJ hJ2 rfl rfl rfl
  · have h1 : (decide ((μ.1 9 4) ≤ (2 : Int32))) = false := decide_eq_false (cn_ge.mp h1)
    refine z_rcs hc hH 3 (pc' := 16) (lv' := [(0, .ref 14), (1, .int 2), (2, .int 4)]) (st' := [.int 2, .ref 15]) (μ' := μ) (by rfl) ?_
    refine zq_iald hc hH (by rfl) 4 (by decide +kernel) (show vp_in (nI 2) 4 from vp_in_nI (by decide) (by decide)) ?_
    show Z 0 17 [(0, .ref 14), (1, .int 2), (2, .int 4)] [.int (μ.1 15 2)] μ
    refine z_rcs hc hH 1 (pc' := 18) (lv' := [(0, .ref 14), (1, .int 2), (2, .int 4)]) (st' := [.int 3, .int (μ.1 15 2)]) (μ' := μ) (by rfl) ?_
    have hJ4 : Z 0 26 [(0, .ref 14), (1, .int 2), (2, .int 4)] [.int (nB (decide ((μ.1 15 2) = 3)))] μ := by
      exact hr 0 26 _ _ _ (some (.int (nB (decide ((μ.1 15 2) = 3))))) (by decide +kernel) ((fun b : Bool => (by cases b <;> rfl : z_rn mi_X1_isHidden 26 [.int (nB b)] = some (some (.int (nB b))))) (decide ((μ.1 15 2) = 3))) (⟨rfl, (by simp only [h1, lb_f, Int64.or_zero, Int32.add_zero, nB_t, nB_f, Bool.not_true, Bool.not_false, Bool.and_true, Bool.true_and, Bool.false_and, Bool.and_false, Bool.or_true, Bool.true_or, Bool.false_or, Bool.or_false, cond_true, cond_false])⟩)
    refine zq_ic hc hH (by rfl) (tg := 25) (by rfl) (fun h5 => ?_) (fun h5 => ?_)
    · have h5 : (decide ((μ.1 15 2) = 3)) = false := decide_eq_false (cm_ne.mp h5)
      refine z_rcs hc hH 1 (pc' := 26) (lv' := [(0, .ref 14), (1, .int 2), (2, .int 4)]) (st' := [.int 0]) (μ' := μ) (by rfl) ?_
      exact zJ hJ4 rfl (by first | with_reducible rfl | (simp only [h5, lb_f, Int64.or_zero, Int32.add_zero, nB_t, nB_f, Bool.not_true, Bool.not_false, Bool.and_true, Bool.true_and, Bool.false_and, Bool.and_false, Bool.or_true, Bool.true_or, Bool.false_or, Bool.or_false, cond_true, cond_false]; done) | rfl) rfl
    · have h5 : (decide ((μ.1 15 2) = 3)) = true := decide_eq_true (cn_ne.mp h5)
      refine z_rcs hc hH 2 (pc' := 26) (lv' := [(0, .ref 14), (1, .int 2), (2, .int 4)]) (st' := [.int 1]) (μ' := μ) (by rfl) ?_
      exact zJ hJ4 rfl (by first | with_reducible rfl | (simp only [h5, lb_f, Int64.or_zero, Int32.add_zero, nB_t, nB_f, Bool.not_true, Bool.not_false, Bool.and_true, Bool.true_and, Bool.false_and, Bool.and_false, Bool.or_true, Bool.true_or, Bool.false_or, Bool.or_false, cond_true, cond_false]; done) | rfl) rfl
theorem fb_X1_isHidden_3_0 (d : Nat) (hd : 1 ≤ d) (μ : zM) (ht : μ.2.2 14 = 9) : z_C d mi_X1_isHidden [.ref 14, .int 3, .int 0] μ (zR μ (.int (nB ((decide ((μ.1 9 4) ≤ (3 : Int32))) || (decide ((μ.1 15 3) = 3)))))) := by
  refine z_C_in (by decide) (by omega) (fun d' Z ed hc hr => ?_)
  have hH : zH mi_X1_isHidden zt_X1_isHidden 79 1 3 := hh_X1_isHidden
  refine z_rcs hc hH 2 (pc' := 2) (lv' := [(0, .ref 14), (1, .int 3), (2, .int 0)]) (st' := [.ref 14, .int 3]) (μ' := μ) (by rfl) ?_
  refine zq_tget hc hH (by rfl) (ci := 0) (f := 5) (t := 9) (by decide +kernel) ht (by decide) ?_
  refine z_rcs hc hH 1 (pc' := 8) (lv' := [(0, .ref 14), (1, .int 3), (2, .int 0)]) (st' := [.int (μ.1 9 4), .int 3]) (μ' := μ) (by rfl) ?_
  refine zq_ic hc hH (by rfl) (tg := 27) (by rfl) (fun h1 => ?_) (fun h1 => ?_)
  · have h1 : (decide ((μ.1 9 4) ≤ (3 : Int32))) = true := decide_eq_true (cm_ge.mp h1)
    refine z_rcs hc hH 2 (pc' := 31) (lv' := [(0, .ref 14), (1, .int 3), (2, .int 0)]) (st' := [.int (μ.1 14 7)]) (μ' := μ) (by rfl) ?_
    have hJ2 : Z 0 44 [(0, .ref 14), (1, .int 3), (2, .int 0)] [.int 1] μ := by
      exact hr 0 44 _ _ _ (some (.int 1)) (by decide +kernel) (z_rx_ok hH (by rfl)) (⟨rfl, (by simp only [h1, lb_f, Int64.or_zero, Int32.add_zero, nB_t, nB_f, Bool.not_true, Bool.not_false, Bool.and_true, Bool.true_and, Bool.false_and, Bool.and_false, Bool.or_true, Bool.true_or, Bool.false_or, Bool.or_false, cond_true, cond_false])⟩)
    refine zq_if hc hH (by rfl) (tg := 39) (by rfl) (fun h3 => ?_) (fun h3 => ?_)
    · have h3 : (decide ((μ.1 14 7) = 0)) = false := decide_eq_false (cm_ne.mp h3)
      refine z_rcs hc hH 2 (pc' := 44) (lv' := [(0, .ref 14), (1, .int 3), (2, .int 0)]) (st' := [.int 1]) (μ' := μ) (by rfl) ?_
      exact zJ hJ2 rfl rfl rfl
    · have h3 : (decide ((μ.1 14 7) = 0)) = true := decide_eq_true (cn_ne.mp h3)
      refine z_rcs hc hH 5 (pc' := 44) (lv' := [(0, .ref 14), (1, .int 3), (2, .int 0)]) (st' := [.int 1]) (μ' := μ) (by rfl) ?_
      exact zJ hJ2 rfl rfl rfl
  · have h1 : (decide ((μ.1 9 4) ≤ (3 : Int32))) = false := decide_eq_false (cn_ge.mp h1)
    refine z_rcs hc hH 3 (pc' := 16) (lv' := [(0, .ref 14), (1, .int 3), (2, .int 0)]) (st' := [.int 3, .ref 15]) (μ' := μ) (by rfl) ?_
    refine zq_iald hc hH (by rfl) 4 (by decide +kernel) (show vp_in (nI 3) 4 from vp_in_nI (by decide) (by decide)) ?_
    show Z 0 17 [(0, .ref 14), (1, .int 3), (2, .int 0)] [.int (μ.1 15 3)] μ
    refine z_rcs hc hH 1 (pc' := 18) (lv' := [(0, .ref 14), (1, .int 3), (2, .int 0)]) (st' := [.int 3, .int (μ.1 15 3)]) (μ' := μ) (by rfl) ?_
    have hJ4 : Z 0 26 [(0, .ref 14), (1, .int 3), (2, .int 0)] [.int (nB (decide ((μ.1 15 3) = 3)))] μ := by
      exact hr 0 26 _ _ _ (some (.int (nB (decide ((μ.1 15 3) = 3))))) (by decide +kernel) ((fun b : Bool => (by cases b <;> rfl : z_rn mi_X1_isHidden 26 [.int (nB b)] = some (some (.int (nB b))))) (decide ((μ.1 15 3) = 3))) (⟨rfl, (by simp only [h1, lb_f, Int64.or_zero, Int32.add_zero, nB_t, nB_f, Bool.not_true, Bool.not_false, Bool.and_true, Bool.true_and, Bool.false_and, Bool.and_false, Bool.or_true, Bool.true_or, Bool.false_or, Bool.or_false, cond_true, cond_false])⟩)
    refine zq_ic hc hH (by rfl) (tg := 25) (by rfl) (fun h5 => ?_) (fun h5 => ?_)
    · have h5 : (decide ((μ.1 15 3) = 3)) = false := decide_eq_false (cm_ne.mp h5)
      refine z_rcs hc hH 1 (pc' := 26) (lv' := [(0, .ref 14), (1, .int 3), (2, .int 0)]) (st' := [.int 0]) (μ' := μ) (by rfl) ?_
      exact zJ hJ4 rfl (by first | with_reducible rfl | (simp only [h5, lb_f, Int64.or_zero, Int32.add_zero, nB_t, nB_f, Bool.not_true, Bool.not_false, Bool.and_true, Bool.true_and, Bool.false_and, Bool.and_false, Bool.or_true, Bool.true_or, Bool.false_or, Bool.or_false, cond_true, cond_false]; done) | rfl) rfl
    · have h5 : (decide ((μ.1 15 3) = 3)) = true := decide_eq_true (cn_ne.mp h5)
      refine z_rcs hc hH 2 (pc' := 26) (lv' := [(0, .ref 14), (1, .int 3), (2, .int 0)]) (st' := [.int 1]) (μ' := μ) (by rfl) ?_
      exact zJ hJ4 rfl (by first | with_reducible rfl | (simp only [h5, lb_f, Int64.or_zero, Int32.add_zero, nB_t, nB_f, Bool.not_true, Bool.not_false, Bool.and_true, Bool.true_and, Bool.false_and, Bool.and_false, Bool.or_true, Bool.true_or, Bool.false_or, Bool.or_false, cond_true, cond_false]; done) | rfl) rfl
theorem fb_X1_isHidden_3_1 (d : Nat) (hd : 1 ≤ d) (μ : zM) (ht : μ.2.2 14 = 9) : z_C d mi_X1_isHidden [.ref 14, .int 3, .int 1] μ (zR μ (.int (nB ((decide ((μ.1 9 4) ≤ (3 : Int32))) || (decide ((μ.1 15 3) = 3)))))) := by
  refine z_C_in (by decide) (by omega) (fun d' Z ed hc hr => ?_)
  have hH : zH mi_X1_isHidden zt_X1_isHidden 79 1 3 := hh_X1_isHidden
  refine z_rcs hc hH 2 (pc' := 2) (lv' := [(0, .ref 14), (1, .int 3), (2, .int 1)]) (st' := [.ref 14, .int 3]) (μ' := μ) (by rfl) ?_
  refine zq_tget hc hH (by rfl) (ci := 0) (f := 5) (t := 9) (by decide +kernel) ht (by decide) ?_
  refine z_rcs hc hH 1 (pc' := 8) (lv' := [(0, .ref 14), (1, .int 3), (2, .int 1)]) (st' := [.int (μ.1 9 4), .int 3]) (μ' := μ) (by rfl) ?_
  refine zq_ic hc hH (by rfl) (tg := 27) (by rfl) (fun h1 => ?_) (fun h1 => ?_)
  · have h1 : (decide ((μ.1 9 4) ≤ (3 : Int32))) = true := decide_eq_true (cm_ge.mp h1)
    refine z_rcs hc hH 2 (pc' := 31) (lv' := [(0, .ref 14), (1, .int 3), (2, .int 1)]) (st' := [.int (μ.1 14 7)]) (μ' := μ) (by rfl) ?_
    have hJ2 : Z 0 44 [(0, .ref 14), (1, .int 3), (2, .int 1)] [.int 1] μ := by
      exact hr 0 44 _ _ _ (some (.int 1)) (by decide +kernel) (z_rx_ok hH (by rfl)) (⟨rfl, (by simp only [h1, lb_f, Int64.or_zero, Int32.add_zero, nB_t, nB_f, Bool.not_true, Bool.not_false, Bool.and_true, Bool.true_and, Bool.false_and, Bool.and_false, Bool.or_true, Bool.true_or, Bool.false_or, Bool.or_false, cond_true, cond_false])⟩)
    refine zq_if hc hH (by rfl) (tg := 39) (by rfl) (fun h3 => ?_) (fun h3 => ?_)
    · have h3 : (decide ((μ.1 14 7) = 0)) = false := decide_eq_false (cm_ne.mp h3)
      refine z_rcs hc hH 2 (pc' := 44) (lv' := [(0, .ref 14), (1, .int 3), (2, .int 1)]) (st' := [.int 1]) (μ' := μ) (by rfl) ?_
      exact zJ hJ2 rfl rfl rfl
    · have h3 : (decide ((μ.1 14 7) = 0)) = true := decide_eq_true (cn_ne.mp h3)
      refine z_rcs hc hH 5 (pc' := 44) (lv' := [(0, .ref 14), (1, .int 3), (2, .int 1)]) (st' := [.int 1]) (μ' := μ) (by rfl) ?_
      exact zJ hJ2 rfl rfl rfl
  · have h1 : (decide ((μ.1 9 4) ≤ (3 : Int32))) = false := decide_eq_false (cn_ge.mp h1)
    refine z_rcs hc hH 3 (pc' := 16) (lv' := [(0, .ref 14), (1, .int 3), (2, .int 1)]) (st' := [.int 3, .ref 15]) (μ' := μ) (by rfl) ?_
    refine zq_iald hc hH (by rfl) 4 (by decide +kernel) (show vp_in (nI 3) 4 from vp_in_nI (by decide) (by decide)) ?_
    show Z 0 17 [(0, .ref 14), (1, .int 3), (2, .int 1)] [.int (μ.1 15 3)] μ
    refine z_rcs hc hH 1 (pc' := 18) (lv' := [(0, .ref 14), (1, .int 3), (2, .int 1)]) (st' := [.int 3, .int (μ.1 15 3)]) (μ' := μ) (by rfl) ?_
    have hJ4 : Z 0 26 [(0, .ref 14), (1, .int 3), (2, .int 1)] [.int (nB (decide ((μ.1 15 3) = 3)))] μ := by
      exact hr 0 26 _ _ _ (some (.int (nB (decide ((μ.1 15 3) = 3))))) (by decide +kernel) ((fun b : Bool => (by cases b <;> rfl : z_rn mi_X1_isHidden 26 [.int (nB b)] = some (some (.int (nB b))))) (decide ((μ.1 15 3) = 3))) (⟨rfl, (by simp only [h1, lb_f, Int64.or_zero, Int32.add_zero, nB_t, nB_f, Bool.not_true, Bool.not_false, Bool.and_true, Bool.true_and, Bool.false_and, Bool.and_false, Bool.or_true, Bool.true_or, Bool.false_or, Bool.or_false, cond_true, cond_false])⟩)
    refine zq_ic hc hH (by rfl) (tg := 25) (by rfl) (fun h5 => ?_) (fun h5 => ?_)
    · have h5 : (decide ((μ.1 15 3) = 3)) = false := decide_eq_false (cm_ne.mp h5)
      refine z_rcs hc hH 1 (pc' := 26) (lv' := [(0, .ref 14), (1, .int 3), (2, .int 1)]) (st' := [.int 0]) (μ' := μ) (by rfl) ?_
      exact zJ hJ4 rfl (by first | with_reducible rfl | (simp only [h5, lb_f, Int64.or_zero, Int32.add_zero, nB_t, nB_f, Bool.not_true, Bool.not_false, Bool.and_true, Bool.true_and, Bool.false_and, Bool.and_false, Bool.or_true, Bool.true_or, Bool.false_or, Bool.or_false, cond_true, cond_false]; done) | rfl) rfl
    · have h5 : (decide ((μ.1 15 3) = 3)) = true := decide_eq_true (cn_ne.mp h5)
      refine z_rcs hc hH 2 (pc' := 26) (lv' := [(0, .ref 14), (1, .int 3), (2, .int 1)]) (st' := [.int 1]) (μ' := μ) (by rfl) ?_
      exact zJ hJ4 rfl (by first | with_reducible rfl | (simp only [h5, lb_f, Int64.or_zero, Int32.add_zero, nB_t, nB_f, Bool.not_true, Bool.not_false, Bool.and_true, Bool.true_and, Bool.false_and, Bool.and_false, Bool.or_true, Bool.true_or, Bool.false_or, Bool.or_false, cond_true, cond_false]; done) | rfl) rfl
theorem fb_X1_isHidden_3_2 (d : Nat) (hd : 1 ≤ d) (μ : zM) (ht : μ.2.2 14 = 9) : z_C d mi_X1_isHidden [.ref 14, .int 3, .int 2] μ (zR μ (.int (nB ((decide ((μ.1 9 4) ≤ (3 : Int32))) || (decide ((μ.1 15 3) = 3)))))) := by
  refine z_C_in (by decide) (by omega) (fun d' Z ed hc hr => ?_)
  have hH : zH mi_X1_isHidden zt_X1_isHidden 79 1 3 := hh_X1_isHidden
  refine z_rcs hc hH 2 (pc' := 2) (lv' := [(0, .ref 14), (1, .int 3), (2, .int 2)]) (st' := [.ref 14, .int 3]) (μ' := μ) (by rfl) ?_
  refine zq_tget hc hH (by rfl) (ci := 0) (f := 5) (t := 9) (by decide +kernel) ht (by decide) ?_
  refine z_rcs hc hH 1 (pc' := 8) (lv' := [(0, .ref 14), (1, .int 3), (2, .int 2)]) (st' := [.int (μ.1 9 4), .int 3]) (μ' := μ) (by rfl) ?_
  refine zq_ic hc hH (by rfl) (tg := 27) (by rfl) (fun h1 => ?_) (fun h1 => ?_)
  · have h1 : (decide ((μ.1 9 4) ≤ (3 : Int32))) = true := decide_eq_true (cm_ge.mp h1)
    refine z_rcs hc hH 2 (pc' := 31) (lv' := [(0, .ref 14), (1, .int 3), (2, .int 2)]) (st' := [.int (μ.1 14 7)]) (μ' := μ) (by rfl) ?_
    have hJ2 : Z 0 44 [(0, .ref 14), (1, .int 3), (2, .int 2)] [.int 1] μ := by
      exact hr 0 44 _ _ _ (some (.int 1)) (by decide +kernel) (z_rx_ok hH (by rfl)) (⟨rfl, (by simp only [h1, lb_f, Int64.or_zero, Int32.add_zero, nB_t, nB_f, Bool.not_true, Bool.not_false, Bool.and_true, Bool.true_and, Bool.false_and, Bool.and_false, Bool.or_true, Bool.true_or, Bool.false_or, Bool.or_false, cond_true, cond_false])⟩)
    refine zq_if hc hH (by rfl) (tg := 39) (by rfl) (fun h3 => ?_) (fun h3 => ?_)
    · have h3 : (decide ((μ.1 14 7) = 0)) = false := decide_eq_false (cm_ne.mp h3)
      refine z_rcs hc hH 2 (pc' := 44) (lv' := [(0, .ref 14), (1, .int 3), (2, .int 2)]) (st' := [.int 1]) (μ' := μ) (by rfl) ?_
      exact zJ hJ2 rfl rfl rfl
    · have h3 : (decide ((μ.1 14 7) = 0)) = true := decide_eq_true (cn_ne.mp h3)
      refine z_rcs hc hH 5 (pc' := 44) (lv' := [(0, .ref 14), (1, .int 3), (2, .int 2)]) (st' := [.int 1]) (μ' := μ) (by rfl) ?_
      exact zJ hJ2 rfl rfl rfl
  · have h1 : (decide ((μ.1 9 4) ≤ (3 : Int32))) = false := decide_eq_false (cn_ge.mp h1)
    refine z_rcs hc hH 3 (pc' := 16) (lv' := [(0, .ref 14), (1, .int 3), (2, .int 2)]) (st' := [.int 3, .ref 15]) (μ' := μ) (by rfl) ?_
    refine zq_iald hc hH (by rfl) 4 (by decide +kernel) (show vp_in (nI 3) 4 from vp_in_nI (by decide) (by decide)) ?_
    show Z 0 17 [(0, .ref 14), (1, .int 3), (2, .int 2)] [.int (μ.1 15 3)] μ
    refine z_rcs hc hH 1 (pc' := 18) (lv' := [(0, .ref 14), (1, .int 3), (2, .int 2)]) (st' := [.int 3, .int (μ.1 15 3)]) (μ' := μ) (by rfl) ?_
    have hJ4 : Z 0 26 [(0, .ref 14), (1, .int 3), (2, .int 2)] [.int (nB (decide ((μ.1 15 3) = 3)))] μ := by
      exact hr 0 26 _ _ _ (some (.int (nB (decide ((μ.1 15 3) = 3))))) (by decide +kernel) ((fun b : Bool => (by cases b <;> rfl : z_rn mi_X1_isHidden 26 [.int (nB b)] = some (some (.int (nB b))))) (decide ((μ.1 15 3) = 3))) (⟨rfl, (by simp only [h1, lb_f, Int64.or_zero, Int32.add_zero, nB_t, nB_f, Bool.not_true, Bool.not_false, Bool.and_true, Bool.true_and, Bool.false_and, Bool.and_false, Bool.or_true, Bool.true_or, Bool.false_or, Bool.or_false, cond_true, cond_false])⟩)
    refine zq_ic hc hH (by rfl) (tg := 25) (by rfl) (fun h5 => ?_) (fun h5 => ?_)
    · have h5 : (decide ((μ.1 15 3) = 3)) = false := decide_eq_false (cm_ne.mp h5)
      refine z_rcs hc hH 1 (pc' := 26) (lv' := [(0, .ref 14), (1, .int 3), (2, .int 2)]) (st' := [.int 0]) (μ' := μ) (by rfl) ?_
      exact zJ hJ4 rfl (by first | with_reducible rfl | (simp only [h5, lb_f, Int64.or_zero, Int32.add_zero, nB_t, nB_f, Bool.not_true, Bool.not_false, Bool.and_true, Bool.true_and, Bool.false_and, Bool.and_false, Bool.or_true, Bool.true_or, Bool.false_or, Bool.or_false, cond_true, cond_false]; done) | rfl) rfl
    · have h5 : (decide ((μ.1 15 3) = 3)) = true := decide_eq_true (cn_ne.mp h5)
      refine z_rcs hc hH 2 (pc' := 26) (lv' := [(0, .ref 14), (1, .int 3), (2, .int 2)]) (st' := [.int 1]) (μ' := μ) (by rfl) ?_
      exact zJ hJ4 rfl (by first | with_reducible rfl | (simp only [h5, lb_f, Int64.or_zero, Int32.add_zero, nB_t, nB_f, Bool.not_true, Bool.not_false, Bool.and_true, Bool.true_and, Bool.false_and, Bool.and_false, Bool.or_true, Bool.true_or, Bool.false_or, Bool.or_false, cond_true, cond_false]; done) | rfl) rfl
theorem fb_X1_isHidden_3_3 (d : Nat) (hd : 1 ≤ d) (μ : zM) (ht : μ.2.2 14 = 9) : z_C d mi_X1_isHidden [.ref 14, .int 3, .int 3] μ (zR μ (.int (nB (bif decide ((μ.1 9 4) ≤ (3 : Int32)) then !(decide ((μ.1 14 7) = 0)) else decide ((μ.1 15 3) = 3))))) := by
  refine z_C_in (by decide) (by omega) (fun d' Z ed hc hr => ?_)
  have hH : zH mi_X1_isHidden zt_X1_isHidden 79 1 3 := hh_X1_isHidden
  refine z_rcs hc hH 2 (pc' := 2) (lv' := [(0, .ref 14), (1, .int 3), (2, .int 3)]) (st' := [.ref 14, .int 3]) (μ' := μ) (by rfl) ?_
  refine zq_tget hc hH (by rfl) (ci := 0) (f := 5) (t := 9) (by decide +kernel) ht (by decide) ?_
  refine z_rcs hc hH 1 (pc' := 8) (lv' := [(0, .ref 14), (1, .int 3), (2, .int 3)]) (st' := [.int (μ.1 9 4), .int 3]) (μ' := μ) (by rfl) ?_
  refine zq_ic hc hH (by rfl) (tg := 27) (by rfl) (fun h1 => ?_) (fun h1 => ?_)
  · have h1 : (decide ((μ.1 9 4) ≤ (3 : Int32))) = true := decide_eq_true (cm_ge.mp h1)
    refine z_rcs hc hH 2 (pc' := 31) (lv' := [(0, .ref 14), (1, .int 3), (2, .int 3)]) (st' := [.int (μ.1 14 7)]) (μ' := μ) (by rfl) ?_
    have hJ2 : Z 0 44 [(0, .ref 14), (1, .int 3), (2, .int 3)] [.int (nB (!(decide ((μ.1 14 7) = 0))))] μ := by
      exact hr 0 44 _ _ _ (some (.int (nB (!(decide ((μ.1 14 7) = 0)))))) (by decide +kernel) ((fun b : Bool => (by cases b <;> rfl : z_rn mi_X1_isHidden 44 [.int (nB b)] = some (some (.int (nB b))))) (!(decide ((μ.1 14 7) = 0)))) (⟨rfl, (by simp only [h1, lb_f, Int64.or_zero, Int32.add_zero, nB_t, nB_f, Bool.not_true, Bool.not_false, Bool.and_true, Bool.true_and, Bool.false_and, Bool.and_false, Bool.or_true, Bool.true_or, Bool.false_or, Bool.or_false, cond_true, cond_false])⟩)
    refine zq_if hc hH (by rfl) (tg := 39) (by rfl) (fun h3 => ?_) (fun h3 => ?_)
    · have h3 : (decide ((μ.1 14 7) = 0)) = false := decide_eq_false (cm_ne.mp h3)
      refine z_rcs hc hH 2 (pc' := 44) (lv' := [(0, .ref 14), (1, .int 3), (2, .int 3)]) (st' := [.int 1]) (μ' := μ) (by rfl) ?_
      exact zJ hJ2 rfl (by first | with_reducible rfl | (simp only [h3, lb_f, Int64.or_zero, Int32.add_zero, nB_t, nB_f, Bool.not_true, Bool.not_false, Bool.and_true, Bool.true_and, Bool.false_and, Bool.and_false, Bool.or_true, Bool.true_or, Bool.false_or, Bool.or_false, cond_true, cond_false]; done) | rfl) rfl
    · have h3 : (decide ((μ.1 14 7) = 0)) = true := decide_eq_true (cn_ne.mp h3)
      refine z_rcs hc hH 4 (pc' := 44) (lv' := [(0, .ref 14), (1, .int 3), (2, .int 3)]) (st' := [.int 0]) (μ' := μ) (by rfl) ?_
      exact zJ hJ2 rfl (by first | with_reducible rfl | (simp only [h3, lb_f, Int64.or_zero, Int32.add_zero, nB_t, nB_f, Bool.not_true, Bool.not_false, Bool.and_true, Bool.true_and, Bool.false_and, Bool.and_false, Bool.or_true, Bool.true_or, Bool.false_or, Bool.or_false, cond_true, cond_false]; done) | rfl) rfl
  · have h1 : (decide ((μ.1 9 4) ≤ (3 : Int32))) = false := decide_eq_false (cn_ge.mp h1)
    refine z_rcs hc hH 3 (pc' := 16) (lv' := [(0, .ref 14), (1, .int 3), (2, .int 3)]) (st' := [.int 3, .ref 15]) (μ' := μ) (by rfl) ?_
    refine zq_iald hc hH (by rfl) 4 (by decide +kernel) (show vp_in (nI 3) 4 from vp_in_nI (by decide) (by decide)) ?_
    show Z 0 17 [(0, .ref 14), (1, .int 3), (2, .int 3)] [.int (μ.1 15 3)] μ
    refine z_rcs hc hH 1 (pc' := 18) (lv' := [(0, .ref 14), (1, .int 3), (2, .int 3)]) (st' := [.int 3, .int (μ.1 15 3)]) (μ' := μ) (by rfl) ?_
    have hJ4 : Z 0 26 [(0, .ref 14), (1, .int 3), (2, .int 3)] [.int (nB (decide ((μ.1 15 3) = 3)))] μ := by
      exact hr 0 26 _ _ _ (some (.int (nB (decide ((μ.1 15 3) = 3))))) (by decide +kernel) ((fun b : Bool => (by cases b <;> rfl : z_rn mi_X1_isHidden 26 [.int (nB b)] = some (some (.int (nB b))))) (decide ((μ.1 15 3) = 3))) (⟨rfl, (by simp only [h1, lb_f, Int64.or_zero, Int32.add_zero, nB_t, nB_f, Bool.not_true, Bool.not_false, Bool.and_true, Bool.true_and, Bool.false_and, Bool.and_false, Bool.or_true, Bool.true_or, Bool.false_or, Bool.or_false, cond_true, cond_false])⟩)
    refine zq_ic hc hH (by rfl) (tg := 25) (by rfl) (fun h5 => ?_) (fun h5 => ?_)
    · have h5 : (decide ((μ.1 15 3) = 3)) = false := decide_eq_false (cm_ne.mp h5)
      refine z_rcs hc hH 1 (pc' := 26) (lv' := [(0, .ref 14), (1, .int 3), (2, .int 3)]) (st' := [.int 0]) (μ' := μ) (by rfl) ?_
      exact zJ hJ4 rfl (by first | with_reducible rfl | (simp only [h5, lb_f, Int64.or_zero, Int32.add_zero, nB_t, nB_f, Bool.not_true, Bool.not_false, Bool.and_true, Bool.true_and, Bool.false_and, Bool.and_false, Bool.or_true, Bool.true_or, Bool.false_or, Bool.or_false, cond_true, cond_false]; done) | rfl) rfl
    · have h5 : (decide ((μ.1 15 3) = 3)) = true := decide_eq_true (cn_ne.mp h5)
      refine z_rcs hc hH 2 (pc' := 26) (lv' := [(0, .ref 14), (1, .int 3), (2, .int 3)]) (st' := [.int 1]) (μ' := μ) (by rfl) ?_
      exact zJ hJ4 rfl (by first | with_reducible rfl | (simp only [h5, lb_f, Int64.or_zero, Int32.add_zero, nB_t, nB_f, Bool.not_true, Bool.not_false, Bool.and_true, Bool.true_and, Bool.false_and, Bool.and_false, Bool.or_true, Bool.true_or, Bool.false_or, Bool.or_false, cond_true, cond_false]; done) | rfl) rfl
theorem fb_X1_isHidden_3_4 (d : Nat) (hd : 1 ≤ d) (μ : zM) (ht : μ.2.2 14 = 9) : z_C d mi_X1_isHidden [.ref 14, .int 3, .int 4] μ (zR μ (.int (nB ((decide ((μ.1 9 4) ≤ (3 : Int32))) || (decide ((μ.1 15 3) = 3)))))) := by
  refine z_C_in (by decide) (by omega) (fun d' Z ed hc hr => ?_)
  have hH : zH mi_X1_isHidden zt_X1_isHidden 79 1 3 := hh_X1_isHidden
  refine z_rcs hc hH 2 (pc' := 2) (lv' := [(0, .ref 14), (1, .int 3), (2, .int 4)]) (st' := [.ref 14, .int 3]) (μ' := μ) (by rfl) ?_
  refine zq_tget hc hH (by rfl) (ci := 0) (f := 5) (t := 9) (by decide +kernel) ht (by decide) ?_
  refine z_rcs hc hH 1 (pc' := 8) (lv' := [(0, .ref 14), (1, .int 3), (2, .int 4)]) (st' := [.int (μ.1 9 4), .int 3]) (μ' := μ) (by rfl) ?_
  refine zq_ic hc hH (by rfl) (tg := 27) (by rfl) (fun h1 => ?_) (fun h1 => ?_)
  · have h1 : (decide ((μ.1 9 4) ≤ (3 : Int32))) = true := decide_eq_true (cm_ge.mp h1)
    refine z_rcs hc hH 2 (pc' := 31) (lv' := [(0, .ref 14), (1, .int 3), (2, .int 4)]) (st' := [.int (μ.1 14 7)]) (μ' := μ) (by rfl) ?_
    have hJ2 : Z 0 44 [(0, .ref 14), (1, .int 3), (2, .int 4)] [.int 1] μ := by
      exact hr 0 44 _ _ _ (some (.int 1)) (by decide +kernel) (z_rx_ok hH (by rfl)) (⟨rfl, (by simp only [h1, lb_f, Int64.or_zero, Int32.add_zero, nB_t, nB_f, Bool.not_true, Bool.not_false, Bool.and_true, Bool.true_and, Bool.false_and, Bool.and_false, Bool.or_true, Bool.true_or, Bool.false_or, Bool.or_false, cond_true, cond_false])⟩)
    refine zq_if hc hH (by rfl) (tg := 39) (by rfl) (fun h3 => ?_) (fun h3 => ?_)
    · have h3 : (decide ((μ.1 14 7) = 0)) = false := decide_eq_false (cm_ne.mp h3)
      refine z_rcs hc hH 2 (pc' := 44) (lv' := [(0, .ref 14), (1, .int 3), (2, .int 4)]) (st' := [.int 1]) (μ' := μ) (by rfl) ?_
      exact zJ hJ2 rfl rfl rfl
    · have h3 : (decide ((μ.1 14 7) = 0)) = true := decide_eq_true (cn_ne.mp h3)
      refine z_rcs hc hH 5 (pc' := 44) (lv' := [(0, .ref 14), (1, .int 3), (2, .int 4)]) (st' := [.int 1]) (μ' := μ) (by rfl) ?_
      exact zJ hJ2 rfl rfl rfl
  · have h1 : (decide ((μ.1 9 4) ≤ (3 : Int32))) = false := decide_eq_false (cn_ge.mp h1)
    refine z_rcs hc hH 3 (pc' := 16) (lv' := [(0, .ref 14), (1, .int 3), (2, .int 4)]) (st' := [.int 3, .ref 15]) (μ' := μ) (by rfl) ?_
    refine zq_iald hc hH (by rfl) 4 (by decide +kernel) (show vp_in (nI 3) 4 from vp_in_nI (by decide) (by decide)) ?_
    show Z 0 17 [(0, .ref 14), (1, .int 3), (2, .int 4)] [.int (μ.1 15 3)] μ
    refine z_rcs hc hH 1 (pc' := 18) (lv' := [(0, .ref 14), (1, .int 3), (2, .int 4)]) (st' := [.int 3, .int (μ.1 15 3)]) (μ' := μ) (by rfl) ?_
    have hJ4 : Z 0 26 [(0, .ref 14), (1, .int 3), (2, .int 4)] [.int (nB (decide ((μ.1 15 3) = 3)))] μ := by
      exact hr 0 26 _ _ _ (some (.int (nB (decide ((μ.1 15 3) = 3))))) (by decide +kernel) ((fun b : Bool => (by cases b <;> rfl : z_rn mi_X1_isHidden 26 [.int (nB b)] = some (some (.int (nB b))))) (decide ((μ.1 15 3) = 3))) (⟨rfl, (by simp only [h1, lb_f, Int64.or_zero, Int32.add_zero, nB_t, nB_f, Bool.not_true, Bool.not_false, Bool.and_true, Bool.true_and, Bool.false_and, Bool.and_false, Bool.or_true, Bool.true_or, Bool.false_or, Bool.or_false, cond_true, cond_false])⟩)
    refine zq_ic hc hH (by rfl) (tg := 25) (by rfl) (fun h5 => ?_) (fun h5 => ?_)
    · have h5 : (decide ((μ.1 15 3) = 3)) = false := decide_eq_false (cm_ne.mp h5)
      refine z_rcs hc hH 1 (pc' := 26) (lv' := [(0, .ref 14), (1, .int 3), (2, .int 4)]) (st' := [.int 0]) (μ' := μ) (by rfl) ?_
      exact zJ hJ4 rfl (by first | with_reducible rfl | (simp only [h5, lb_f, Int64.or_zero, Int32.add_zero, nB_t, nB_f, Bool.not_true, Bool.not_false, Bool.and_true, Bool.true_and, Bool.false_and, Bool.and_false, Bool.or_true, Bool.true_or, Bool.false_or, Bool.or_false, cond_true, cond_false]; done) | rfl) rfl
    · have h5 : (decide ((μ.1 15 3) = 3)) = true := decide_eq_true (cn_ne.mp h5)
      refine z_rcs hc hH 2 (pc' := 26) (lv' := [(0, .ref 14), (1, .int 3), (2, .int 4)]) (st' := [.int 1]) (μ' := μ) (by rfl) ?_
      exact zJ hJ4 rfl (by first | with_reducible rfl | (simp only [h5, lb_f, Int64.or_zero, Int32.add_zero, nB_t, nB_f, Bool.not_true, Bool.not_false, Bool.and_true, Bool.true_and, Bool.false_and, Bool.and_false, Bool.or_true, Bool.true_or, Bool.false_or, Bool.or_false, cond_true, cond_false]; done) | rfl) rfl
/-! the class: FU of a way, forms of SETS and tiles -/
set_option maxRecDepth 8000
noncomputable def xBc (x : Int64) : Int32 := (((((((((x - (((x.toUInt64 >>> ((1 : Int32).toInt64.toUInt64 &&& Int64.toUInt64 63)).toInt64) &&& 6148914691236517205)) &&& 3689348814741910323) + ((((x - (((x.toUInt64 >>> ((1 : Int32).toInt64.toUInt64 &&& Int64.toUInt64 63)).toInt64) &&& 6148914691236517205)).toUInt64 >>> ((2 : Int32).toInt64.toUInt64 &&& Int64.toUInt64 63)).toInt64) &&& 3689348814741910323)) + (((((x - (((x.toUInt64 >>> ((1 : Int32).toInt64.toUInt64 &&& Int64.toUInt64 63)).toInt64) &&& 6148914691236517205)) &&& 3689348814741910323) + ((((x - (((x.toUInt64 >>> ((1 : Int32).toInt64.toUInt64 &&& Int64.toUInt64 63)).toInt64) &&& 6148914691236517205)).toUInt64 >>> ((2 : Int32).toInt64.toUInt64 &&& Int64.toUInt64 63)).toInt64) &&& 3689348814741910323)).toUInt64 >>> ((4 : Int32).toInt64.toUInt64 &&& Int64.toUInt64 63)).toInt64)) &&& 1085102592571150095) + (((((((x - (((x.toUInt64 >>> ((1 : Int32).toInt64.toUInt64 &&& Int64.toUInt64 63)).toInt64) &&& 6148914691236517205)) &&& 3689348814741910323) + ((((x - (((x.toUInt64 >>> ((1 : Int32).toInt64.toUInt64 &&& Int64.toUInt64 63)).toInt64) &&& 6148914691236517205)).toUInt64 >>> ((2 : Int32).toInt64.toUInt64 &&& Int64.toUInt64 63)).toInt64) &&& 3689348814741910323)) + (((((x - (((x.toUInt64 >>> ((1 : Int32).toInt64.toUInt64 &&& Int64.toUInt64 63)).toInt64) &&& 6148914691236517205)) &&& 3689348814741910323) + ((((x - (((x.toUInt64 >>> ((1 : Int32).toInt64.toUInt64 &&& Int64.toUInt64 63)).toInt64) &&& 6148914691236517205)).toUInt64 >>> ((2 : Int32).toInt64.toUInt64 &&& Int64.toUInt64 63)).toInt64) &&& 3689348814741910323)).toUInt64 >>> ((4 : Int32).toInt64.toUInt64 &&& Int64.toUInt64 63)).toInt64)) &&& 1085102592571150095).toUInt64 >>> ((8 : Int32).toInt64.toUInt64 &&& Int64.toUInt64 63)).toInt64)) + ((((((((x - (((x.toUInt64 >>> ((1 : Int32).toInt64.toUInt64 &&& Int64.toUInt64 63)).toInt64) &&& 6148914691236517205)) &&& 3689348814741910323) + ((((x - (((x.toUInt64 >>> ((1 : Int32).toInt64.toUInt64 &&& Int64.toUInt64 63)).toInt64) &&& 6148914691236517205)).toUInt64 >>> ((2 : Int32).toInt64.toUInt64 &&& Int64.toUInt64 63)).toInt64) &&& 3689348814741910323)) + (((((x - (((x.toUInt64 >>> ((1 : Int32).toInt64.toUInt64 &&& Int64.toUInt64 63)).toInt64) &&& 6148914691236517205)) &&& 3689348814741910323) + ((((x - (((x.toUInt64 >>> ((1 : Int32).toInt64.toUInt64 &&& Int64.toUInt64 63)).toInt64) &&& 6148914691236517205)).toUInt64 >>> ((2 : Int32).toInt64.toUInt64 &&& Int64.toUInt64 63)).toInt64) &&& 3689348814741910323)).toUInt64 >>> ((4 : Int32).toInt64.toUInt64 &&& Int64.toUInt64 63)).toInt64)) &&& 1085102592571150095) + (((((((x - (((x.toUInt64 >>> ((1 : Int32).toInt64.toUInt64 &&& Int64.toUInt64 63)).toInt64) &&& 6148914691236517205)) &&& 3689348814741910323) + ((((x - (((x.toUInt64 >>> ((1 : Int32).toInt64.toUInt64 &&& Int64.toUInt64 63)).toInt64) &&& 6148914691236517205)).toUInt64 >>> ((2 : Int32).toInt64.toUInt64 &&& Int64.toUInt64 63)).toInt64) &&& 3689348814741910323)) + (((((x - (((x.toUInt64 >>> ((1 : Int32).toInt64.toUInt64 &&& Int64.toUInt64 63)).toInt64) &&& 6148914691236517205)) &&& 3689348814741910323) + ((((x - (((x.toUInt64 >>> ((1 : Int32).toInt64.toUInt64 &&& Int64.toUInt64 63)).toInt64) &&& 6148914691236517205)).toUInt64 >>> ((2 : Int32).toInt64.toUInt64 &&& Int64.toUInt64 63)).toInt64) &&& 3689348814741910323)).toUInt64 >>> ((4 : Int32).toInt64.toUInt64 &&& Int64.toUInt64 63)).toInt64)) &&& 1085102592571150095).toUInt64 >>> ((8 : Int32).toInt64.toUInt64 &&& Int64.toUInt64 63)).toInt64)).toUInt64 >>> ((16 : Int32).toInt64.toUInt64 &&& Int64.toUInt64 63)).toInt64)) + (((((((((x - (((x.toUInt64 >>> ((1 : Int32).toInt64.toUInt64 &&& Int64.toUInt64 63)).toInt64) &&& 6148914691236517205)) &&& 3689348814741910323) + ((((x - (((x.toUInt64 >>> ((1 : Int32).toInt64.toUInt64 &&& Int64.toUInt64 63)).toInt64) &&& 6148914691236517205)).toUInt64 >>> ((2 : Int32).toInt64.toUInt64 &&& Int64.toUInt64 63)).toInt64) &&& 3689348814741910323)) + (((((x - (((x.toUInt64 >>> ((1 : Int32).toInt64.toUInt64 &&& Int64.toUInt64 63)).toInt64) &&& 6148914691236517205)) &&& 3689348814741910323) + ((((x - (((x.toUInt64 >>> ((1 : Int32).toInt64.toUInt64 &&& Int64.toUInt64 63)).toInt64) &&& 6148914691236517205)).toUInt64 >>> ((2 : Int32).toInt64.toUInt64 &&& Int64.toUInt64 63)).toInt64) &&& 3689348814741910323)).toUInt64 >>> ((4 : Int32).toInt64.toUInt64 &&& Int64.toUInt64 63)).toInt64)) &&& 1085102592571150095) + (((((((x - (((x.toUInt64 >>> ((1 : Int32).toInt64.toUInt64 &&& Int64.toUInt64 63)).toInt64) &&& 6148914691236517205)) &&& 3689348814741910323) + ((((x - (((x.toUInt64 >>> ((1 : Int32).toInt64.toUInt64 &&& Int64.toUInt64 63)).toInt64) &&& 6148914691236517205)).toUInt64 >>> ((2 : Int32).toInt64.toUInt64 &&& Int64.toUInt64 63)).toInt64) &&& 3689348814741910323)) + (((((x - (((x.toUInt64 >>> ((1 : Int32).toInt64.toUInt64 &&& Int64.toUInt64 63)).toInt64) &&& 6148914691236517205)) &&& 3689348814741910323) + ((((x - (((x.toUInt64 >>> ((1 : Int32).toInt64.toUInt64 &&& Int64.toUInt64 63)).toInt64) &&& 6148914691236517205)).toUInt64 >>> ((2 : Int32).toInt64.toUInt64 &&& Int64.toUInt64 63)).toInt64) &&& 3689348814741910323)).toUInt64 >>> ((4 : Int32).toInt64.toUInt64 &&& Int64.toUInt64 63)).toInt64)) &&& 1085102592571150095).toUInt64 >>> ((8 : Int32).toInt64.toUInt64 &&& Int64.toUInt64 63)).toInt64)) + ((((((((x - (((x.toUInt64 >>> ((1 : Int32).toInt64.toUInt64 &&& Int64.toUInt64 63)).toInt64) &&& 6148914691236517205)) &&& 3689348814741910323) + ((((x - (((x.toUInt64 >>> ((1 : Int32).toInt64.toUInt64 &&& Int64.toUInt64 63)).toInt64) &&& 6148914691236517205)).toUInt64 >>> ((2 : Int32).toInt64.toUInt64 &&& Int64.toUInt64 63)).toInt64) &&& 3689348814741910323)) + (((((x - (((x.toUInt64 >>> ((1 : Int32).toInt64.toUInt64 &&& Int64.toUInt64 63)).toInt64) &&& 6148914691236517205)) &&& 3689348814741910323) + ((((x - (((x.toUInt64 >>> ((1 : Int32).toInt64.toUInt64 &&& Int64.toUInt64 63)).toInt64) &&& 6148914691236517205)).toUInt64 >>> ((2 : Int32).toInt64.toUInt64 &&& Int64.toUInt64 63)).toInt64) &&& 3689348814741910323)).toUInt64 >>> ((4 : Int32).toInt64.toUInt64 &&& Int64.toUInt64 63)).toInt64)) &&& 1085102592571150095) + (((((((x - (((x.toUInt64 >>> ((1 : Int32).toInt64.toUInt64 &&& Int64.toUInt64 63)).toInt64) &&& 6148914691236517205)) &&& 3689348814741910323) + ((((x - (((x.toUInt64 >>> ((1 : Int32).toInt64.toUInt64 &&& Int64.toUInt64 63)).toInt64) &&& 6148914691236517205)).toUInt64 >>> ((2 : Int32).toInt64.toUInt64 &&& Int64.toUInt64 63)).toInt64) &&& 3689348814741910323)) + (((((x - (((x.toUInt64 >>> ((1 : Int32).toInt64.toUInt64 &&& Int64.toUInt64 63)).toInt64) &&& 6148914691236517205)) &&& 3689348814741910323) + ((((x - (((x.toUInt64 >>> ((1 : Int32).toInt64.toUInt64 &&& Int64.toUInt64 63)).toInt64) &&& 6148914691236517205)).toUInt64 >>> ((2 : Int32).toInt64.toUInt64 &&& Int64.toUInt64 63)).toInt64) &&& 3689348814741910323)).toUInt64 >>> ((4 : Int32).toInt64.toUInt64 &&& Int64.toUInt64 63)).toInt64)) &&& 1085102592571150095).toUInt64 >>> ((8 : Int32).toInt64.toUInt64 &&& Int64.toUInt64 63)).toInt64)).toUInt64 >>> ((16 : Int32).toInt64.toUInt64 &&& Int64.toUInt64 63)).toInt64)).toUInt64 >>> ((32 : Int32).toInt64.toUInt64 &&& Int64.toUInt64 63)).toInt64)).toInt32) &&& 127
noncomputable def xPf (μ : zM) : Int32 := ((bif decide ((μ.1 14 15) < 31) then (0 : Int32) else 2) + (bif decide ((μ.1 14 15) = (μ.1 14 9)) then (2 : Int32) else 0)) + (bif decide ((μ.1 14 15) = (μ.1 14 10)) then (2 : Int32) else 0)
noncomputable def xWf0 (μ : zM) : Int32 := bif decide ((μ.1 15 0) = 0) then bif decide (((μ.1 14 6) - (μ.1 16 0)) = 1) then (2 : Int32) else bif decide (((μ.1 14 6) - (μ.1 16 0)) = 2) then bif decide (((μ.1 16 0) - (μ.1 16 0) / 9 * 9) = 0) then (2 : Int32) else bif decide (((μ.1 14 6) - (μ.1 16 0)) = 0) then bif decide (((μ.1 16 0) - (μ.1 16 0) / 9 * 9) = 6) then (2 : Int32) else 0 else 0 else bif decide (((μ.1 14 6) - (μ.1 16 0)) = 0) then bif decide (((μ.1 16 0) - (μ.1 16 0) / 9 * 9) = 6) then (2 : Int32) else 0 else 0 else 0
noncomputable def xWf1 (μ : zM) : Int32 := bif decide ((μ.1 15 1) = 0) then bif decide (((μ.1 14 6) - (μ.1 16 1)) = 1) then (2 : Int32) else bif decide (((μ.1 14 6) - (μ.1 16 1)) = 2) then bif decide (((μ.1 16 1) - (μ.1 16 1) / 9 * 9) = 0) then (2 : Int32) else bif decide (((μ.1 14 6) - (μ.1 16 1)) = 0) then bif decide (((μ.1 16 1) - (μ.1 16 1) / 9 * 9) = 6) then (2 : Int32) else 0 else 0 else bif decide (((μ.1 14 6) - (μ.1 16 1)) = 0) then bif decide (((μ.1 16 1) - (μ.1 16 1) / 9 * 9) = 6) then (2 : Int32) else 0 else 0 else 0
noncomputable def xWf2 (μ : zM) : Int32 := bif decide ((μ.1 15 2) = 0) then bif decide (((μ.1 14 6) - (μ.1 16 2)) = 1) then (2 : Int32) else bif decide (((μ.1 14 6) - (μ.1 16 2)) = 2) then bif decide (((μ.1 16 2) - (μ.1 16 2) / 9 * 9) = 0) then (2 : Int32) else bif decide (((μ.1 14 6) - (μ.1 16 2)) = 0) then bif decide (((μ.1 16 2) - (μ.1 16 2) / 9 * 9) = 6) then (2 : Int32) else 0 else 0 else bif decide (((μ.1 14 6) - (μ.1 16 2)) = 0) then bif decide (((μ.1 16 2) - (μ.1 16 2) / 9 * 9) = 6) then (2 : Int32) else 0 else 0 else 0
noncomputable def xWf3 (μ : zM) : Int32 := bif decide ((μ.1 15 3) = 0) then bif decide (((μ.1 14 6) - (μ.1 16 3)) = 1) then (2 : Int32) else bif decide (((μ.1 14 6) - (μ.1 16 3)) = 2) then bif decide (((μ.1 16 3) - (μ.1 16 3) / 9 * 9) = 0) then (2 : Int32) else bif decide (((μ.1 14 6) - (μ.1 16 3)) = 0) then bif decide (((μ.1 16 3) - (μ.1 16 3) / 9 * 9) = 6) then (2 : Int32) else 0 else 0 else bif decide (((μ.1 14 6) - (μ.1 16 3)) = 0) then bif decide (((μ.1 16 3) - (μ.1 16 3) / 9 * 9) = 6) then (2 : Int32) else 0 else 0 else 0
noncomputable def xWf4 (μ : zM) : Int32 := 2
noncomputable def xHi_0_0 (μ : zM) : Bool := bif decide ((μ.1 9 4) ≤ (0 : Int32)) then !(decide ((μ.1 14 7) = 0)) else decide ((μ.1 15 0) = 3)
noncomputable def xHi_0_1 (μ : zM) : Bool := (decide ((μ.1 9 4) ≤ (0 : Int32))) || (decide ((μ.1 15 0) = 3))
noncomputable def xHi_0_2 (μ : zM) : Bool := (decide ((μ.1 9 4) ≤ (0 : Int32))) || (decide ((μ.1 15 0) = 3))
noncomputable def xHi_0_3 (μ : zM) : Bool := (decide ((μ.1 9 4) ≤ (0 : Int32))) || (decide ((μ.1 15 0) = 3))
noncomputable def xHi_0_4 (μ : zM) : Bool := (decide ((μ.1 9 4) ≤ (0 : Int32))) || (decide ((μ.1 15 0) = 3))
noncomputable def xHi_1_0 (μ : zM) : Bool := (decide ((μ.1 9 4) ≤ (1 : Int32))) || (decide ((μ.1 15 1) = 3))
noncomputable def xHi_1_1 (μ : zM) : Bool := bif decide ((μ.1 9 4) ≤ (1 : Int32)) then !(decide ((μ.1 14 7) = 0)) else decide ((μ.1 15 1) = 3)
noncomputable def xHi_1_2 (μ : zM) : Bool := (decide ((μ.1 9 4) ≤ (1 : Int32))) || (decide ((μ.1 15 1) = 3))
noncomputable def xHi_1_3 (μ : zM) : Bool := (decide ((μ.1 9 4) ≤ (1 : Int32))) || (decide ((μ.1 15 1) = 3))
noncomputable def xHi_1_4 (μ : zM) : Bool := (decide ((μ.1 9 4) ≤ (1 : Int32))) || (decide ((μ.1 15 1) = 3))
noncomputable def xHi_2_0 (μ : zM) : Bool := (decide ((μ.1 9 4) ≤ (2 : Int32))) || (decide ((μ.1 15 2) = 3))
noncomputable def xHi_2_1 (μ : zM) : Bool := (decide ((μ.1 9 4) ≤ (2 : Int32))) || (decide ((μ.1 15 2) = 3))
noncomputable def xHi_2_2 (μ : zM) : Bool := bif decide ((μ.1 9 4) ≤ (2 : Int32)) then !(decide ((μ.1 14 7) = 0)) else decide ((μ.1 15 2) = 3)
noncomputable def xHi_2_3 (μ : zM) : Bool := (decide ((μ.1 9 4) ≤ (2 : Int32))) || (decide ((μ.1 15 2) = 3))
noncomputable def xHi_2_4 (μ : zM) : Bool := (decide ((μ.1 9 4) ≤ (2 : Int32))) || (decide ((μ.1 15 2) = 3))
noncomputable def xHi_3_0 (μ : zM) : Bool := (decide ((μ.1 9 4) ≤ (3 : Int32))) || (decide ((μ.1 15 3) = 3))
noncomputable def xHi_3_1 (μ : zM) : Bool := (decide ((μ.1 9 4) ≤ (3 : Int32))) || (decide ((μ.1 15 3) = 3))
noncomputable def xHi_3_2 (μ : zM) : Bool := (decide ((μ.1 9 4) ≤ (3 : Int32))) || (decide ((μ.1 15 3) = 3))
noncomputable def xHi_3_3 (μ : zM) : Bool := bif decide ((μ.1 9 4) ≤ (3 : Int32)) then !(decide ((μ.1 14 7) = 0)) else decide ((μ.1 15 3) = 3)
noncomputable def xHi_3_4 (μ : zM) : Bool := (decide ((μ.1 9 4) ≤ (3 : Int32))) || (decide ((μ.1 15 3) = 3))
noncomputable def fuI (b : Bool) (so lo x : Int32) : Int32 := bif decide (so = 0) then x else x + (bif xHd 17113154305 lo then 2 * (bif b then 2 * (bif decide (so = 1) then (2 : Int32) else 8) else (bif decide (so = 1) then (2 : Int32) else 8)) else (bif b then 2 * (bif decide (so = 1) then (2 : Int32) else 8) else (bif decide (so = 1) then (2 : Int32) else 8)))
noncomputable def fuS (μ : zM) (wf : Int32) (fl : Bool) : Int32 := (((20 + (xPf μ)) + wf) + (bif decide ((μ.1 14 7) = 0) then bif decide ((μ.1 14 8) = 0) then (10 : Int32) else (0 : Int32) else (0 : Int32))) + (bif decide ((μ.1 14 7) = 0) then (0 : Int32) else bif fl then (0 : Int32) else (2 : Int32))
theorem fu0 (d' : Nat) (Z : zK) (hd : 2 ≤ d') (μ : zM) (fl : Bool) (cc wf : Int32) (hwf : ∀ d, 1 ≤ d → z_C d mi_X1_waitFu [.ref 14, .int cc] μ (zR μ (.int wf))) (hb0 : Bool) (hhd0 : ∀ d, 1 ≤ d → z_C d mi_X1_isHidden [.ref 14, .int 0, .int cc] μ (zR μ (.int (nB hb0)))) (hb1 : Bool) (hhd1 : ∀ d, 1 ≤ d → z_C d mi_X1_isHidden [.ref 14, .int 1, .int cc] μ (zR μ (.int (nB hb1)))) (hb2 : Bool) (hhd2 : ∀ d, 1 ≤ d → z_C d mi_X1_isHidden [.ref 14, .int 2, .int cc] μ (zR μ (.int (nB hb2)))) (hb3 : Bool) (hhd3 : ∀ d, 1 ≤ d → z_C d mi_X1_isHidden [.ref 14, .int 3, .int cc] μ (zR μ (.int (nB hb3)))) (hc : z_clo z_x0 mi_X1_fuOf (z_C d') Z) (K : Z 0 48 [(4, .int 0), (3, .int (fuS μ wf fl)), (0, .ref 14), (1, .int cc), (2, .int (nB fl))] [] μ) : Z 0 0 [(0, .ref 14), (1, .int cc), (2, .int (nB fl))] [] μ := by
  have hH : zH mi_X1_fuOf zt_X1_fuOf 79 1 6 := hh_X1_fuOf
  refine z_rcs hc hH 2 (pc' := 3) (lv' := [(0, .ref 14), (1, .int cc), (2, .int (nB fl))]) (st' := [.ref 14, .int 20]) (μ' := μ) (by rfl) ?_
  refine zq_call hc (z_cx_ok hH (by rfl)) (fb_X1_pairFu d' (by omega) μ) (by decide +kernel) (fun r9 μ9 hq => ?_)
  obtain ⟨hμ9, rfl⟩ := hq
  rw [hμ9]
  clear hμ9 μ9
  show Z 0 6 [(0, .ref 14), (1, .int cc), (2, .int (nB fl))] [.int (xPf μ), .int 20] μ
  refine z_rcs hc hH 3 (pc' := 9) (lv' := [(0, .ref 14), (1, .int cc), (2, .int (nB fl))]) (st' := [.int cc, .ref 14, .int (20 + (xPf μ))]) (μ' := μ) (by rfl) ?_
  refine zq_call hc (z_cx_ok hH (by rfl)) (hwf d' (by omega)) (by decide +kernel) (fun r9 μ9 hq => ?_)
  obtain ⟨hμ9, rfl⟩ := hq
  rw [hμ9]
  clear hμ9 μ9
  show Z 0 12 [(0, .ref 14), (1, .int cc), (2, .int (nB fl))] [.int wf, .int (20 + (xPf μ))] μ
  refine z_rcs hc hH 4 (pc' := 18) (lv' := [(3, .int ((20 + (xPf μ)) + wf)), (0, .ref 14), (1, .int cc), (2, .int (nB fl))]) (st' := [.int (μ.1 14 7)]) (μ' := μ) (by rfl) ?_
  have hJ1 : Z 0 31 [(3, .int (((20 + (xPf μ)) + wf) + (bif decide ((μ.1 14 7) = 0) then bif decide ((μ.1 14 8) = 0) then (10 : Int32) else (0 : Int32) else (0 : Int32)))), (0, .ref 14), (1, .int cc), (2, .int (nB fl))] [] μ := by
    refine z_rcs hc hH 2 (pc' := 35) (lv' := [(3, .int (((20 + (xPf μ)) + wf) + (bif decide ((μ.1 14 7) = 0) then bif decide ((μ.1 14 8) = 0) then (10 : Int32) else (0 : Int32) else (0 : Int32)))), (0, .ref 14), (1, .int cc), (2, .int (nB fl))]) (st' := [.int (μ.1 14 7)]) (μ' := μ) (by rfl) ?_
    have hJ2 : Z 0 45 [(3, .int ((((20 + (xPf μ)) + wf) + (bif decide ((μ.1 14 7) = 0) then bif decide ((μ.1 14 8) = 0) then (10 : Int32) else (0 : Int32) else (0 : Int32))) + (bif decide ((μ.1 14 7) = 0) then (0 : Int32) else bif fl then (0 : Int32) else (2 : Int32)))), (0, .ref 14), (1, .int cc), (2, .int (nB fl))] [] μ := by
      refine z_rcs hc hH 2 (pc' := 48) (lv' := [(4, .int 0), (3, .int ((((20 + (xPf μ)) + wf) + (bif decide ((μ.1 14 7) = 0) then bif decide ((μ.1 14 8) = 0) then (10 : Int32) else (0 : Int32) else (0 : Int32))) + (bif decide ((μ.1 14 7) = 0) then (0 : Int32) else bif fl then (0 : Int32) else (2 : Int32)))), (0, .ref 14), (1, .int cc), (2, .int (nB fl))]) (st' := []) (μ' := μ) (by rfl) ?_
      exact K
    refine zq_if hc hH (by rfl) (tg := 45) (by rfl) (fun h3 => ?_) (fun h3 => ?_)
    · have h3 : (decide ((μ.1 14 7) = 0)) = true := decide_eq_true (cm_eq9.mp h3)
      exact zJ hJ2 (by first | with_reducible rfl | (simp only [h3, lb_f, Int64.or_zero, Int32.add_zero, nB_t, nB_f, Bool.not_true, Bool.not_false, Bool.and_true, Bool.true_and, Bool.false_and, Bool.and_false, Bool.or_true, Bool.true_or, Bool.false_or, Bool.or_false, cond_true, cond_false]; done) | rfl) rfl rfl
    · have h3 : (decide ((μ.1 14 7) = 0)) = false := decide_eq_false (cn_eq.mp h3)
      refine z_rcs hc hH 1 (pc' := 39) (lv' := [(3, .int (((20 + (xPf μ)) + wf) + (bif decide ((μ.1 14 7) = 0) then bif decide ((μ.1 14 8) = 0) then (10 : Int32) else (0 : Int32) else (0 : Int32)))), (0, .ref 14), (1, .int cc), (2, .int (nB fl))]) (st' := [.int (nB fl)]) (μ' := μ) (by rfl) ?_
      refine zq_if hc hH (by rfl) (tg := 45) (by rfl) (fun h4 => ?_) (fun h4 => ?_)
      · have h4 : (fl) = true := nB_n.mp (cm_ne.mp h4)
        exact zJ hJ2 (by first | with_reducible rfl | (simp only [h3, h4, lb_f, Int64.or_zero, Int32.add_zero, nB_t, nB_f, Bool.not_true, Bool.not_false, Bool.and_true, Bool.true_and, Bool.false_and, Bool.and_false, Bool.or_true, Bool.true_or, Bool.false_or, Bool.or_false, cond_true, cond_false]; done) | rfl) rfl rfl
      · have h4 : (fl) = false := nB_z.mp (cn_ne.mp h4)
        refine z_rcs hc hH 1 (pc' := 45) (lv' := [(3, .int ((((20 + (xPf μ)) + wf) + (bif decide ((μ.1 14 7) = 0) then bif decide ((μ.1 14 8) = 0) then (10 : Int32) else (0 : Int32) else (0 : Int32))) + 2)), (0, .ref 14), (1, .int cc), (2, .int (nB fl))]) (st' := []) (μ' := μ) (by rfl) ?_
        exact zJ hJ2 (by first | with_reducible rfl | (simp only [h3, h4, lb_f, Int64.or_zero, Int32.add_zero, nB_t, nB_f, Bool.not_true, Bool.not_false, Bool.and_true, Bool.true_and, Bool.false_and, Bool.and_false, Bool.or_true, Bool.true_or, Bool.false_or, Bool.or_false, cond_true, cond_false]; done) | rfl) rfl rfl
  refine zq_if hc hH (by rfl) (tg := 31) (by rfl) (fun h5 => ?_) (fun h5 => ?_)
  · have h5 : (decide ((μ.1 14 7) = 0)) = false := decide_eq_false (cm_ne.mp h5)
    exact zJ hJ1 (by first | with_reducible rfl | (simp only [h5, lb_f, Int64.or_zero, Int32.add_zero, nB_t, nB_f, Bool.not_true, Bool.not_false, Bool.and_true, Bool.true_and, Bool.false_and, Bool.and_false, Bool.or_true, Bool.true_or, Bool.false_or, Bool.or_false, cond_true, cond_false]; done) | rfl) rfl rfl
  · have h5 : (decide ((μ.1 14 7) = 0)) = true := decide_eq_true (cn_ne.mp h5)
    refine z_rcs hc hH 2 (pc' := 25) (lv' := [(3, .int ((20 + (xPf μ)) + wf)), (0, .ref 14), (1, .int cc), (2, .int (nB fl))]) (st' := [.int (μ.1 14 8)]) (μ' := μ) (by rfl) ?_
    refine zq_if hc hH (by rfl) (tg := 31) (by rfl) (fun h6 => ?_) (fun h6 => ?_)
    · have h6 : (decide ((μ.1 14 8) = 0)) = false := decide_eq_false (cm_ne.mp h6)
      exact zJ hJ1 (by first | with_reducible rfl | (simp only [h5, h6, lb_f, Int64.or_zero, Int32.add_zero, nB_t, nB_f, Bool.not_true, Bool.not_false, Bool.and_true, Bool.true_and, Bool.false_and, Bool.and_false, Bool.or_true, Bool.true_or, Bool.false_or, Bool.or_false, cond_true, cond_false]; done) | rfl) rfl rfl
    · have h6 : (decide ((μ.1 14 8) = 0)) = true := decide_eq_true (cn_ne.mp h6)
      refine z_rcs hc hH 1 (pc' := 31) (lv' := [(3, .int (((20 + (xPf μ)) + wf) + 10)), (0, .ref 14), (1, .int cc), (2, .int (nB fl))]) (st' := []) (μ' := μ) (by rfl) ?_
      exact zJ hJ1 (by first | with_reducible rfl | (simp only [h5, h6, lb_f, Int64.or_zero, Int32.add_zero, nB_t, nB_f, Bool.not_true, Bool.not_false, Bool.and_true, Bool.true_and, Bool.false_and, Bool.and_false, Bool.or_true, Bool.true_or, Bool.false_or, Bool.or_false, cond_true, cond_false]; done) | rfl) rfl rfl
theorem fu1_0 (d' : Nat) (Z : zK) (hd : 2 ≤ d') (μ : zM) (fl : Bool) (cc wf : Int32) (hwf : ∀ d, 1 ≤ d → z_C d mi_X1_waitFu [.ref 14, .int cc] μ (zR μ (.int wf))) (hb0 : Bool) (hhd0 : ∀ d, 1 ≤ d → z_C d mi_X1_isHidden [.ref 14, .int 0, .int cc] μ (zR μ (.int (nB hb0)))) (hb1 : Bool) (hhd1 : ∀ d, 1 ≤ d → z_C d mi_X1_isHidden [.ref 14, .int 1, .int cc] μ (zR μ (.int (nB hb1)))) (hb2 : Bool) (hhd2 : ∀ d, 1 ≤ d → z_C d mi_X1_isHidden [.ref 14, .int 2, .int cc] μ (zR μ (.int (nB hb2)))) (hb3 : Bool) (hhd3 : ∀ d, 1 ≤ d → z_C d mi_X1_isHidden [.ref 14, .int 3, .int cc] μ (zR μ (.int (nB hb3)))) (hc : z_clo z_x0 mi_X1_fuOf (z_C d') Z) (x3 : Int32) (K : Z 0 48 [(4, .int 1), (3, .int (fuI hb0 (μ.1 15 0) (μ.1 16 0) x3)), (0, .ref 14), (1, .int cc), (2, .int (nB fl))] [] μ ∧ ∀ x5, Z 0 48 [(4, .int 1), (3, .int (fuI hb0 (μ.1 15 0) (μ.1 16 0) x3)), (5, .int x5), (0, .ref 14), (1, .int cc), (2, .int (nB fl))] [] μ) : Z 0 48 [(4, .int 0), (3, .int x3), (0, .ref 14), (1, .int cc), (2, .int (nB fl))] [] μ ∧ ∀ x5, Z 0 48 [(4, .int 0), (3, .int x3), (5, .int x5), (0, .ref 14), (1, .int cc), (2, .int (nB fl))] [] μ := by
  have hH : zH mi_X1_fuOf zt_X1_fuOf 79 1 6 := hh_X1_fuOf
  refine ⟨?_, fun x5 => ?_⟩
  · skip
    refine z_rcs hc hH 6 (pc' := 60) (lv' := [(4, .int 0), (3, .int x3), (0, .ref 14), (1, .int cc), (2, .int (nB fl))]) (st' := [.int 0, .ref 15]) (μ' := μ) (by rfl) ?_
    refine zq_iald hc hH (by rfl) 4 (by decide +kernel) (show vp_in (nI 0) 4 from vp_in_nI (by decide) (by decide)) ?_
    show Z 0 61 [(4, .int 0), (3, .int x3), (0, .ref 14), (1, .int cc), (2, .int (nB fl))] [.int (μ.1 15 0)] μ
    refine zq_if hc hH (by rfl) (tg := 132) (by rfl) (fun h1 => ?_) (fun h1 => ?_)
    · have h1 : (decide ((μ.1 15 0) = 0)) = true := decide_eq_true (cm_eq9.mp h1)
      refine z_rcs hc hH 2 (pc' := 48) (lv' := [(4, .int 1), (3, .int x3), (0, .ref 14), (1, .int cc), (2, .int (nB fl))]) (st' := []) (μ' := μ) (by rfl) ?_
      exact zJ K.1 (by simp only [fuI, h1, cond_true, cond_false]) rfl rfl
    · have h1 : (decide ((μ.1 15 0) = 0)) = false := decide_eq_false (cn_eq.mp h1)
      refine z_rcs hc hH 3 (pc' := 70) (lv' := [(4, .int 0), (3, .int x3), (0, .ref 14), (1, .int cc), (2, .int (nB fl))]) (st' := [.int 0, .ref 15]) (μ' := μ) (by rfl) ?_
      refine zq_iald hc hH (by rfl) 4 (by decide +kernel) (show vp_in (nI 0) 4 from vp_in_nI (by decide) (by decide)) ?_
      show Z 0 71 [(4, .int 0), (3, .int x3), (0, .ref 14), (1, .int cc), (2, .int (nB fl))] [.int (μ.1 15 0)] μ
      refine z_rcs hc hH 1 (pc' := 72) (lv' := [(4, .int 0), (3, .int x3), (0, .ref 14), (1, .int cc), (2, .int (nB fl))]) (st' := [.int 1, .int (μ.1 15 0)]) (μ' := μ) (by rfl) ?_
      have hJ2 : Z 0 81 [(4, .int 0), (3, .int x3), (0, .ref 14), (1, .int cc), (2, .int (nB fl))] [.int (bif decide ((μ.1 15 0) = 1) then (2 : Int32) else 8)] μ := by
        refine z_rcs hc hH 4 (pc' := 87) (lv' := [(5, .int (bif decide ((μ.1 15 0) = 1) then (2 : Int32) else 8)), (4, .int 0), (3, .int x3), (0, .ref 14), (1, .int cc), (2, .int (nB fl))]) (st' := [.int cc, .int 0, .ref 14]) (μ' := μ) (by rfl) ?_
        refine zq_call hc (z_cx_ok hH (by rfl)) (hhd0 d' (by omega)) (by decide +kernel) (fun r9 μ9 hq => ?_)
        obtain ⟨hμ9, rfl⟩ := hq
        rw [hμ9]
        clear hμ9 μ9
        show Z 0 90 [(5, .int (bif decide ((μ.1 15 0) = 1) then (2 : Int32) else 8)), (4, .int 0), (3, .int x3), (0, .ref 14), (1, .int cc), (2, .int (nB fl))] [.int (nB hb0)] μ
        have hJ3 : Z 0 102 [(5, .int (bif decide ((μ.1 15 0) = 1) then (2 : Int32) else 8)), (4, .int 0), (3, .int x3), (0, .ref 14), (1, .int cc), (2, .int (nB fl))] [.int (bif hb0 then 2 * (bif decide ((μ.1 15 0) = 1) then (2 : Int32) else 8) else bif decide ((μ.1 15 0) = 1) then (2 : Int32) else 8)] μ := by
          refine z_rcs hc hH 6 (pc' := 114) (lv' := [(5, .int (bif hb0 then 2 * (bif decide ((μ.1 15 0) = 1) then (2 : Int32) else 8) else bif decide ((μ.1 15 0) = 1) then (2 : Int32) else 8)), (4, .int 0), (3, .int x3), (0, .ref 14), (1, .int cc), (2, .int (nB fl))]) (st' := [.int 0, .ref 16, .long 17113154305, .int x3]) (μ' := μ) (by rfl) ?_
          refine zq_iald hc hH (by rfl) 4 (by decide +kernel) (show vp_in (nI 0) 4 from vp_in_nI (by decide) (by decide)) ?_
          show Z 0 115 [(5, .int (bif hb0 then 2 * (bif decide ((μ.1 15 0) = 1) then (2 : Int32) else 8) else bif decide ((μ.1 15 0) = 1) then (2 : Int32) else 8)), (4, .int 0), (3, .int x3), (0, .ref 14), (1, .int cc), (2, .int (nB fl))] [.int (μ.1 16 0), .long 17113154305, .int x3] μ
          refine zq_call hc (z_cx_ok hH (by rfl)) (fb_X6_holds d' (by omega) μ (17113154305 : Int64) (μ.1 16 0)) (by decide +kernel) (fun r9 μ9 hq => ?_)
          obtain ⟨hμ9, rfl⟩ := hq
          rw [hμ9]
          clear hμ9 μ9
          show Z 0 118 [(5, .int (bif hb0 then 2 * (bif decide ((μ.1 15 0) = 1) then (2 : Int32) else 8) else bif decide ((μ.1 15 0) = 1) then (2 : Int32) else 8)), (4, .int 0), (3, .int x3), (0, .ref 14), (1, .int cc), (2, .int (nB fl))] [.int (nB (xHd 17113154305 (μ.1 16 0))), .int x3] μ
          have hJ4 : Z 0 130 [(5, .int (bif hb0 then 2 * (bif decide ((μ.1 15 0) = 1) then (2 : Int32) else 8) else bif decide ((μ.1 15 0) = 1) then (2 : Int32) else 8)), (4, .int 0), (3, .int x3), (0, .ref 14), (1, .int cc), (2, .int (nB fl))] [.int (bif xHd 17113154305 (μ.1 16 0) then 2 * (bif hb0 then 2 * (bif decide ((μ.1 15 0) = 1) then (2 : Int32) else 8) else bif decide ((μ.1 15 0) = 1) then (2 : Int32) else 8) else bif hb0 then 2 * (bif decide ((μ.1 15 0) = 1) then (2 : Int32) else 8) else bif decide ((μ.1 15 0) = 1) then (2 : Int32) else 8), .int x3] μ := by
            refine z_rcs hc hH 4 (pc' := 48) (lv' := [(4, .int 1), (3, .int (x3 + (bif xHd 17113154305 (μ.1 16 0) then 2 * (bif hb0 then 2 * (bif decide ((μ.1 15 0) = 1) then (2 : Int32) else 8) else bif decide ((μ.1 15 0) = 1) then (2 : Int32) else 8) else bif hb0 then 2 * (bif decide ((μ.1 15 0) = 1) then (2 : Int32) else 8) else bif decide ((μ.1 15 0) = 1) then (2 : Int32) else 8))), (5, .int (bif hb0 then 2 * (bif decide ((μ.1 15 0) = 1) then (2 : Int32) else 8) else bif decide ((μ.1 15 0) = 1) then (2 : Int32) else 8)), (0, .ref 14), (1, .int cc), (2, .int (nB fl))]) (st' := []) (μ' := μ) (by rfl) ?_
            exact zJ (K.2 (bif hb0 then 2 * (bif decide ((μ.1 15 0) = 1) then (2 : Int32) else 8) else bif decide ((μ.1 15 0) = 1) then (2 : Int32) else 8)) (by simp only [fuI, h1, cond_true, cond_false]) rfl rfl
          refine zq_if hc hH (by rfl) (tg := 128) (by rfl) (fun h5 => ?_) (fun h5 => ?_)
          · have h5 : (xHd 17113154305 (μ.1 16 0)) = false := nB_z.mp (cm_eq9.mp h5)
            refine z_rcs hc hH 1 (pc' := 130) (lv' := [(5, .int (bif hb0 then 2 * (bif decide ((μ.1 15 0) = 1) then (2 : Int32) else 8) else bif decide ((μ.1 15 0) = 1) then (2 : Int32) else 8)), (4, .int 0), (3, .int x3), (0, .ref 14), (1, .int cc), (2, .int (nB fl))]) (st' := [.int (bif hb0 then 2 * (bif decide ((μ.1 15 0) = 1) then (2 : Int32) else 8) else bif decide ((μ.1 15 0) = 1) then (2 : Int32) else 8), .int x3]) (μ' := μ) (by rfl) ?_
            exact zJ hJ4 rfl (by first | with_reducible rfl | (simp only [h5, lb_f, Int64.or_zero, Int32.add_zero, nB_t, nB_f, Bool.not_true, Bool.not_false, Bool.and_true, Bool.true_and, Bool.false_and, Bool.and_false, Bool.or_true, Bool.true_or, Bool.false_or, Bool.or_false, cond_true, cond_false]; done) | rfl) rfl
          · have h5 : (xHd 17113154305 (μ.1 16 0)) = true := nB_n.mp (cn_eq.mp h5)
            refine z_rcs hc hH 4 (pc' := 130) (lv' := [(5, .int (bif hb0 then 2 * (bif decide ((μ.1 15 0) = 1) then (2 : Int32) else 8) else bif decide ((μ.1 15 0) = 1) then (2 : Int32) else 8)), (4, .int 0), (3, .int x3), (0, .ref 14), (1, .int cc), (2, .int (nB fl))]) (st' := [.int (2 * (bif hb0 then 2 * (bif decide ((μ.1 15 0) = 1) then (2 : Int32) else 8) else bif decide ((μ.1 15 0) = 1) then (2 : Int32) else 8)), .int x3]) (μ' := μ) (by rfl) ?_
            exact zJ hJ4 rfl (by first | with_reducible rfl | (simp only [h5, lb_f, Int64.or_zero, Int32.add_zero, nB_t, nB_f, Bool.not_true, Bool.not_false, Bool.and_true, Bool.true_and, Bool.false_and, Bool.and_false, Bool.or_true, Bool.true_or, Bool.false_or, Bool.or_false, cond_true, cond_false]; done) | rfl) rfl
        refine zq_if hc hH (by rfl) (tg := 100) (by rfl) (fun h6 => ?_) (fun h6 => ?_)
        · have h6 : (hb0) = false := nB_z.mp (cm_eq9.mp h6)
          refine z_rcs hc hH 1 (pc' := 102) (lv' := [(5, .int (bif decide ((μ.1 15 0) = 1) then (2 : Int32) else 8)), (4, .int 0), (3, .int x3), (0, .ref 14), (1, .int cc), (2, .int (nB fl))]) (st' := [.int (bif decide ((μ.1 15 0) = 1) then (2 : Int32) else 8)]) (μ' := μ) (by rfl) ?_
          exact zJ hJ3 rfl (by first | with_reducible rfl | (simp only [h6, lb_f, Int64.or_zero, Int32.add_zero, nB_t, nB_f, Bool.not_true, Bool.not_false, Bool.and_true, Bool.true_and, Bool.false_and, Bool.and_false, Bool.or_true, Bool.true_or, Bool.false_or, Bool.or_false, cond_true, cond_false]; done) | rfl) rfl
        · have h6 : (hb0) = true := nB_n.mp (cn_eq.mp h6)
          refine z_rcs hc hH 4 (pc' := 102) (lv' := [(5, .int (bif decide ((μ.1 15 0) = 1) then (2 : Int32) else 8)), (4, .int 0), (3, .int x3), (0, .ref 14), (1, .int cc), (2, .int (nB fl))]) (st' := [.int (2 * (bif decide ((μ.1 15 0) = 1) then (2 : Int32) else 8))]) (μ' := μ) (by rfl) ?_
          exact zJ hJ3 rfl (by first | with_reducible rfl | (simp only [h6, lb_f, Int64.or_zero, Int32.add_zero, nB_t, nB_f, Bool.not_true, Bool.not_false, Bool.and_true, Bool.true_and, Bool.false_and, Bool.and_false, Bool.or_true, Bool.true_or, Bool.false_or, Bool.or_false, cond_true, cond_false]; done) | rfl) rfl
      refine zq_ic hc hH (by rfl) (tg := 79) (by rfl) (fun h7 => ?_) (fun h7 => ?_)
      · have h7 : (decide ((μ.1 15 0) = 1)) = false := decide_eq_false (cm_ne.mp h7)
        refine z_rcs hc hH 1 (pc' := 81) (lv' := [(4, .int 0), (3, .int x3), (0, .ref 14), (1, .int cc), (2, .int (nB fl))]) (st' := [.int 8]) (μ' := μ) (by rfl) ?_
        exact zJ hJ2 rfl (by first | with_reducible rfl | (simp only [h7, lb_f, Int64.or_zero, Int32.add_zero, nB_t, nB_f, Bool.not_true, Bool.not_false, Bool.and_true, Bool.true_and, Bool.false_and, Bool.and_false, Bool.or_true, Bool.true_or, Bool.false_or, Bool.or_false, cond_true, cond_false]; done) | rfl) rfl
      · have h7 : (decide ((μ.1 15 0) = 1)) = true := decide_eq_true (cn_ne.mp h7)
        refine z_rcs hc hH 2 (pc' := 81) (lv' := [(4, .int 0), (3, .int x3), (0, .ref 14), (1, .int cc), (2, .int (nB fl))]) (st' := [.int 2]) (μ' := μ) (by rfl) ?_
        exact zJ hJ2 rfl (by first | with_reducible rfl | (simp only [h7, lb_f, Int64.or_zero, Int32.add_zero, nB_t, nB_f, Bool.not_true, Bool.not_false, Bool.and_true, Bool.true_and, Bool.false_and, Bool.and_false, Bool.or_true, Bool.true_or, Bool.false_or, Bool.or_false, cond_true, cond_false]; done) | rfl) rfl
  · skip
    refine z_rcs hc hH 6 (pc' := 60) (lv' := [(4, .int 0), (3, .int x3), (5, .int x5), (0, .ref 14), (1, .int cc), (2, .int (nB fl))]) (st' := [.int 0, .ref 15]) (μ' := μ) (by rfl) ?_
    refine zq_iald hc hH (by rfl) 4 (by decide +kernel) (show vp_in (nI 0) 4 from vp_in_nI (by decide) (by decide)) ?_
    show Z 0 61 [(4, .int 0), (3, .int x3), (5, .int x5), (0, .ref 14), (1, .int cc), (2, .int (nB fl))] [.int (μ.1 15 0)] μ
    refine zq_if hc hH (by rfl) (tg := 132) (by rfl) (fun h1 => ?_) (fun h1 => ?_)
    · have h1 : (decide ((μ.1 15 0) = 0)) = true := decide_eq_true (cm_eq9.mp h1)
      refine z_rcs hc hH 2 (pc' := 48) (lv' := [(4, .int 1), (3, .int x3), (5, .int x5), (0, .ref 14), (1, .int cc), (2, .int (nB fl))]) (st' := []) (μ' := μ) (by rfl) ?_
      exact zJ (K.2 x5) (by simp only [fuI, h1, cond_true, cond_false]) rfl rfl
    · have h1 : (decide ((μ.1 15 0) = 0)) = false := decide_eq_false (cn_eq.mp h1)
      refine z_rcs hc hH 3 (pc' := 70) (lv' := [(4, .int 0), (3, .int x3), (5, .int x5), (0, .ref 14), (1, .int cc), (2, .int (nB fl))]) (st' := [.int 0, .ref 15]) (μ' := μ) (by rfl) ?_
      refine zq_iald hc hH (by rfl) 4 (by decide +kernel) (show vp_in (nI 0) 4 from vp_in_nI (by decide) (by decide)) ?_
      show Z 0 71 [(4, .int 0), (3, .int x3), (5, .int x5), (0, .ref 14), (1, .int cc), (2, .int (nB fl))] [.int (μ.1 15 0)] μ
      refine z_rcs hc hH 1 (pc' := 72) (lv' := [(4, .int 0), (3, .int x3), (5, .int x5), (0, .ref 14), (1, .int cc), (2, .int (nB fl))]) (st' := [.int 1, .int (μ.1 15 0)]) (μ' := μ) (by rfl) ?_
      have hJ2 : Z 0 81 [(4, .int 0), (3, .int x3), (5, .int x5), (0, .ref 14), (1, .int cc), (2, .int (nB fl))] [.int (bif decide ((μ.1 15 0) = 1) then (2 : Int32) else 8)] μ := by
        refine z_rcs hc hH 4 (pc' := 87) (lv' := [(5, .int (bif decide ((μ.1 15 0) = 1) then (2 : Int32) else 8)), (4, .int 0), (3, .int x3), (0, .ref 14), (1, .int cc), (2, .int (nB fl))]) (st' := [.int cc, .int 0, .ref 14]) (μ' := μ) (by rfl) ?_
        refine zq_call hc (z_cx_ok hH (by rfl)) (hhd0 d' (by omega)) (by decide +kernel) (fun r9 μ9 hq => ?_)
        obtain ⟨hμ9, rfl⟩ := hq
        rw [hμ9]
        clear hμ9 μ9
        show Z 0 90 [(5, .int (bif decide ((μ.1 15 0) = 1) then (2 : Int32) else 8)), (4, .int 0), (3, .int x3), (0, .ref 14), (1, .int cc), (2, .int (nB fl))] [.int (nB hb0)] μ
        have hJ3 : Z 0 102 [(5, .int (bif decide ((μ.1 15 0) = 1) then (2 : Int32) else 8)), (4, .int 0), (3, .int x3), (0, .ref 14), (1, .int cc), (2, .int (nB fl))] [.int (bif hb0 then 2 * (bif decide ((μ.1 15 0) = 1) then (2 : Int32) else 8) else bif decide ((μ.1 15 0) = 1) then (2 : Int32) else 8)] μ := by
          refine z_rcs hc hH 6 (pc' := 114) (lv' := [(5, .int (bif hb0 then 2 * (bif decide ((μ.1 15 0) = 1) then (2 : Int32) else 8) else bif decide ((μ.1 15 0) = 1) then (2 : Int32) else 8)), (4, .int 0), (3, .int x3), (0, .ref 14), (1, .int cc), (2, .int (nB fl))]) (st' := [.int 0, .ref 16, .long 17113154305, .int x3]) (μ' := μ) (by rfl) ?_
          refine zq_iald hc hH (by rfl) 4 (by decide +kernel) (show vp_in (nI 0) 4 from vp_in_nI (by decide) (by decide)) ?_
          show Z 0 115 [(5, .int (bif hb0 then 2 * (bif decide ((μ.1 15 0) = 1) then (2 : Int32) else 8) else bif decide ((μ.1 15 0) = 1) then (2 : Int32) else 8)), (4, .int 0), (3, .int x3), (0, .ref 14), (1, .int cc), (2, .int (nB fl))] [.int (μ.1 16 0), .long 17113154305, .int x3] μ
          refine zq_call hc (z_cx_ok hH (by rfl)) (fb_X6_holds d' (by omega) μ (17113154305 : Int64) (μ.1 16 0)) (by decide +kernel) (fun r9 μ9 hq => ?_)
          obtain ⟨hμ9, rfl⟩ := hq
          rw [hμ9]
          clear hμ9 μ9
          show Z 0 118 [(5, .int (bif hb0 then 2 * (bif decide ((μ.1 15 0) = 1) then (2 : Int32) else 8) else bif decide ((μ.1 15 0) = 1) then (2 : Int32) else 8)), (4, .int 0), (3, .int x3), (0, .ref 14), (1, .int cc), (2, .int (nB fl))] [.int (nB (xHd 17113154305 (μ.1 16 0))), .int x3] μ
          have hJ4 : Z 0 130 [(5, .int (bif hb0 then 2 * (bif decide ((μ.1 15 0) = 1) then (2 : Int32) else 8) else bif decide ((μ.1 15 0) = 1) then (2 : Int32) else 8)), (4, .int 0), (3, .int x3), (0, .ref 14), (1, .int cc), (2, .int (nB fl))] [.int (bif xHd 17113154305 (μ.1 16 0) then 2 * (bif hb0 then 2 * (bif decide ((μ.1 15 0) = 1) then (2 : Int32) else 8) else bif decide ((μ.1 15 0) = 1) then (2 : Int32) else 8) else bif hb0 then 2 * (bif decide ((μ.1 15 0) = 1) then (2 : Int32) else 8) else bif decide ((μ.1 15 0) = 1) then (2 : Int32) else 8), .int x3] μ := by
            refine z_rcs hc hH 4 (pc' := 48) (lv' := [(4, .int 1), (3, .int (x3 + (bif xHd 17113154305 (μ.1 16 0) then 2 * (bif hb0 then 2 * (bif decide ((μ.1 15 0) = 1) then (2 : Int32) else 8) else bif decide ((μ.1 15 0) = 1) then (2 : Int32) else 8) else bif hb0 then 2 * (bif decide ((μ.1 15 0) = 1) then (2 : Int32) else 8) else bif decide ((μ.1 15 0) = 1) then (2 : Int32) else 8))), (5, .int (bif hb0 then 2 * (bif decide ((μ.1 15 0) = 1) then (2 : Int32) else 8) else bif decide ((μ.1 15 0) = 1) then (2 : Int32) else 8)), (0, .ref 14), (1, .int cc), (2, .int (nB fl))]) (st' := []) (μ' := μ) (by rfl) ?_
            exact zJ (K.2 (bif hb0 then 2 * (bif decide ((μ.1 15 0) = 1) then (2 : Int32) else 8) else bif decide ((μ.1 15 0) = 1) then (2 : Int32) else 8)) (by simp only [fuI, h1, cond_true, cond_false]) rfl rfl
          refine zq_if hc hH (by rfl) (tg := 128) (by rfl) (fun h5 => ?_) (fun h5 => ?_)
          · have h5 : (xHd 17113154305 (μ.1 16 0)) = false := nB_z.mp (cm_eq9.mp h5)
            refine z_rcs hc hH 1 (pc' := 130) (lv' := [(5, .int (bif hb0 then 2 * (bif decide ((μ.1 15 0) = 1) then (2 : Int32) else 8) else bif decide ((μ.1 15 0) = 1) then (2 : Int32) else 8)), (4, .int 0), (3, .int x3), (0, .ref 14), (1, .int cc), (2, .int (nB fl))]) (st' := [.int (bif hb0 then 2 * (bif decide ((μ.1 15 0) = 1) then (2 : Int32) else 8) else bif decide ((μ.1 15 0) = 1) then (2 : Int32) else 8), .int x3]) (μ' := μ) (by rfl) ?_
            exact zJ hJ4 rfl (by first | with_reducible rfl | (simp only [h5, lb_f, Int64.or_zero, Int32.add_zero, nB_t, nB_f, Bool.not_true, Bool.not_false, Bool.and_true, Bool.true_and, Bool.false_and, Bool.and_false, Bool.or_true, Bool.true_or, Bool.false_or, Bool.or_false, cond_true, cond_false]; done) | rfl) rfl
          · have h5 : (xHd 17113154305 (μ.1 16 0)) = true := nB_n.mp (cn_eq.mp h5)
            refine z_rcs hc hH 4 (pc' := 130) (lv' := [(5, .int (bif hb0 then 2 * (bif decide ((μ.1 15 0) = 1) then (2 : Int32) else 8) else bif decide ((μ.1 15 0) = 1) then (2 : Int32) else 8)), (4, .int 0), (3, .int x3), (0, .ref 14), (1, .int cc), (2, .int (nB fl))]) (st' := [.int (2 * (bif hb0 then 2 * (bif decide ((μ.1 15 0) = 1) then (2 : Int32) else 8) else bif decide ((μ.1 15 0) = 1) then (2 : Int32) else 8)), .int x3]) (μ' := μ) (by rfl) ?_
            exact zJ hJ4 rfl (by first | with_reducible rfl | (simp only [h5, lb_f, Int64.or_zero, Int32.add_zero, nB_t, nB_f, Bool.not_true, Bool.not_false, Bool.and_true, Bool.true_and, Bool.false_and, Bool.and_false, Bool.or_true, Bool.true_or, Bool.false_or, Bool.or_false, cond_true, cond_false]; done) | rfl) rfl
        refine zq_if hc hH (by rfl) (tg := 100) (by rfl) (fun h6 => ?_) (fun h6 => ?_)
        · have h6 : (hb0) = false := nB_z.mp (cm_eq9.mp h6)
          refine z_rcs hc hH 1 (pc' := 102) (lv' := [(5, .int (bif decide ((μ.1 15 0) = 1) then (2 : Int32) else 8)), (4, .int 0), (3, .int x3), (0, .ref 14), (1, .int cc), (2, .int (nB fl))]) (st' := [.int (bif decide ((μ.1 15 0) = 1) then (2 : Int32) else 8)]) (μ' := μ) (by rfl) ?_
          exact zJ hJ3 rfl (by first | with_reducible rfl | (simp only [h6, lb_f, Int64.or_zero, Int32.add_zero, nB_t, nB_f, Bool.not_true, Bool.not_false, Bool.and_true, Bool.true_and, Bool.false_and, Bool.and_false, Bool.or_true, Bool.true_or, Bool.false_or, Bool.or_false, cond_true, cond_false]; done) | rfl) rfl
        · have h6 : (hb0) = true := nB_n.mp (cn_eq.mp h6)
          refine z_rcs hc hH 4 (pc' := 102) (lv' := [(5, .int (bif decide ((μ.1 15 0) = 1) then (2 : Int32) else 8)), (4, .int 0), (3, .int x3), (0, .ref 14), (1, .int cc), (2, .int (nB fl))]) (st' := [.int (2 * (bif decide ((μ.1 15 0) = 1) then (2 : Int32) else 8))]) (μ' := μ) (by rfl) ?_
          exact zJ hJ3 rfl (by first | with_reducible rfl | (simp only [h6, lb_f, Int64.or_zero, Int32.add_zero, nB_t, nB_f, Bool.not_true, Bool.not_false, Bool.and_true, Bool.true_and, Bool.false_and, Bool.and_false, Bool.or_true, Bool.true_or, Bool.false_or, Bool.or_false, cond_true, cond_false]; done) | rfl) rfl
      refine zq_ic hc hH (by rfl) (tg := 79) (by rfl) (fun h7 => ?_) (fun h7 => ?_)
      · have h7 : (decide ((μ.1 15 0) = 1)) = false := decide_eq_false (cm_ne.mp h7)
        refine z_rcs hc hH 1 (pc' := 81) (lv' := [(4, .int 0), (3, .int x3), (5, .int x5), (0, .ref 14), (1, .int cc), (2, .int (nB fl))]) (st' := [.int 8]) (μ' := μ) (by rfl) ?_
        exact zJ hJ2 rfl (by first | with_reducible rfl | (simp only [h7, lb_f, Int64.or_zero, Int32.add_zero, nB_t, nB_f, Bool.not_true, Bool.not_false, Bool.and_true, Bool.true_and, Bool.false_and, Bool.and_false, Bool.or_true, Bool.true_or, Bool.false_or, Bool.or_false, cond_true, cond_false]; done) | rfl) rfl
      · have h7 : (decide ((μ.1 15 0) = 1)) = true := decide_eq_true (cn_ne.mp h7)
        refine z_rcs hc hH 2 (pc' := 81) (lv' := [(4, .int 0), (3, .int x3), (5, .int x5), (0, .ref 14), (1, .int cc), (2, .int (nB fl))]) (st' := [.int 2]) (μ' := μ) (by rfl) ?_
        exact zJ hJ2 rfl (by first | with_reducible rfl | (simp only [h7, lb_f, Int64.or_zero, Int32.add_zero, nB_t, nB_f, Bool.not_true, Bool.not_false, Bool.and_true, Bool.true_and, Bool.false_and, Bool.and_false, Bool.or_true, Bool.true_or, Bool.false_or, Bool.or_false, cond_true, cond_false]; done) | rfl) rfl
theorem fu1_1 (d' : Nat) (Z : zK) (hd : 2 ≤ d') (μ : zM) (fl : Bool) (cc wf : Int32) (hwf : ∀ d, 1 ≤ d → z_C d mi_X1_waitFu [.ref 14, .int cc] μ (zR μ (.int wf))) (hb0 : Bool) (hhd0 : ∀ d, 1 ≤ d → z_C d mi_X1_isHidden [.ref 14, .int 0, .int cc] μ (zR μ (.int (nB hb0)))) (hb1 : Bool) (hhd1 : ∀ d, 1 ≤ d → z_C d mi_X1_isHidden [.ref 14, .int 1, .int cc] μ (zR μ (.int (nB hb1)))) (hb2 : Bool) (hhd2 : ∀ d, 1 ≤ d → z_C d mi_X1_isHidden [.ref 14, .int 2, .int cc] μ (zR μ (.int (nB hb2)))) (hb3 : Bool) (hhd3 : ∀ d, 1 ≤ d → z_C d mi_X1_isHidden [.ref 14, .int 3, .int cc] μ (zR μ (.int (nB hb3)))) (hc : z_clo z_x0 mi_X1_fuOf (z_C d') Z) (x3 : Int32) (K : Z 0 48 [(4, .int 2), (3, .int (fuI hb1 (μ.1 15 1) (μ.1 16 1) x3)), (0, .ref 14), (1, .int cc), (2, .int (nB fl))] [] μ ∧ ∀ x5, Z 0 48 [(4, .int 2), (3, .int (fuI hb1 (μ.1 15 1) (μ.1 16 1) x3)), (5, .int x5), (0, .ref 14), (1, .int cc), (2, .int (nB fl))] [] μ) : Z 0 48 [(4, .int 1), (3, .int x3), (0, .ref 14), (1, .int cc), (2, .int (nB fl))] [] μ ∧ ∀ x5, Z 0 48 [(4, .int 1), (3, .int x3), (5, .int x5), (0, .ref 14), (1, .int cc), (2, .int (nB fl))] [] μ := by
  have hH : zH mi_X1_fuOf zt_X1_fuOf 79 1 6 := hh_X1_fuOf
  refine ⟨?_, fun x5 => ?_⟩
  · skip
    refine z_rcs hc hH 6 (pc' := 60) (lv' := [(4, .int 1), (3, .int x3), (0, .ref 14), (1, .int cc), (2, .int (nB fl))]) (st' := [.int 1, .ref 15]) (μ' := μ) (by rfl) ?_
    refine zq_iald hc hH (by rfl) 4 (by decide +kernel) (show vp_in (nI 1) 4 from vp_in_nI (by decide) (by decide)) ?_
    show Z 0 61 [(4, .int 1), (3, .int x3), (0, .ref 14), (1, .int cc), (2, .int (nB fl))] [.int (μ.1 15 1)] μ
    refine zq_if hc hH (by rfl) (tg := 132) (by rfl) (fun h1 => ?_) (fun h1 => ?_)
    · have h1 : (decide ((μ.1 15 1) = 0)) = true := decide_eq_true (cm_eq9.mp h1)
      refine z_rcs hc hH 2 (pc' := 48) (lv' := [(4, .int 2), (3, .int x3), (0, .ref 14), (1, .int cc), (2, .int (nB fl))]) (st' := []) (μ' := μ) (by rfl) ?_
      exact zJ K.1 (by simp only [fuI, h1, cond_true, cond_false]) rfl rfl
    · have h1 : (decide ((μ.1 15 1) = 0)) = false := decide_eq_false (cn_eq.mp h1)
      refine z_rcs hc hH 3 (pc' := 70) (lv' := [(4, .int 1), (3, .int x3), (0, .ref 14), (1, .int cc), (2, .int (nB fl))]) (st' := [.int 1, .ref 15]) (μ' := μ) (by rfl) ?_
      refine zq_iald hc hH (by rfl) 4 (by decide +kernel) (show vp_in (nI 1) 4 from vp_in_nI (by decide) (by decide)) ?_
      show Z 0 71 [(4, .int 1), (3, .int x3), (0, .ref 14), (1, .int cc), (2, .int (nB fl))] [.int (μ.1 15 1)] μ
      refine z_rcs hc hH 1 (pc' := 72) (lv' := [(4, .int 1), (3, .int x3), (0, .ref 14), (1, .int cc), (2, .int (nB fl))]) (st' := [.int 1, .int (μ.1 15 1)]) (μ' := μ) (by rfl) ?_
      have hJ2 : Z 0 81 [(4, .int 1), (3, .int x3), (0, .ref 14), (1, .int cc), (2, .int (nB fl))] [.int (bif decide ((μ.1 15 1) = 1) then (2 : Int32) else 8)] μ := by
        refine z_rcs hc hH 4 (pc' := 87) (lv' := [(5, .int (bif decide ((μ.1 15 1) = 1) then (2 : Int32) else 8)), (4, .int 1), (3, .int x3), (0, .ref 14), (1, .int cc), (2, .int (nB fl))]) (st' := [.int cc, .int 1, .ref 14]) (μ' := μ) (by rfl) ?_
        refine zq_call hc (z_cx_ok hH (by rfl)) (hhd1 d' (by omega)) (by decide +kernel) (fun r9 μ9 hq => ?_)
        obtain ⟨hμ9, rfl⟩ := hq
        rw [hμ9]
        clear hμ9 μ9
        show Z 0 90 [(5, .int (bif decide ((μ.1 15 1) = 1) then (2 : Int32) else 8)), (4, .int 1), (3, .int x3), (0, .ref 14), (1, .int cc), (2, .int (nB fl))] [.int (nB hb1)] μ
        have hJ3 : Z 0 102 [(5, .int (bif decide ((μ.1 15 1) = 1) then (2 : Int32) else 8)), (4, .int 1), (3, .int x3), (0, .ref 14), (1, .int cc), (2, .int (nB fl))] [.int (bif hb1 then 2 * (bif decide ((μ.1 15 1) = 1) then (2 : Int32) else 8) else bif decide ((μ.1 15 1) = 1) then (2 : Int32) else 8)] μ := by
          refine z_rcs hc hH 6 (pc' := 114) (lv' := [(5, .int (bif hb1 then 2 * (bif decide ((μ.1 15 1) = 1) then (2 : Int32) else 8) else bif decide ((μ.1 15 1) = 1) then (2 : Int32) else 8)), (4, .int 1), (3, .int x3), (0, .ref 14), (1, .int cc), (2, .int (nB fl))]) (st' := [.int 1, .ref 16, .long 17113154305, .int x3]) (μ' := μ) (by rfl) ?_
          refine zq_iald hc hH (by rfl) 4 (by decide +kernel) (show vp_in (nI 1) 4 from vp_in_nI (by decide) (by decide)) ?_
          show Z 0 115 [(5, .int (bif hb1 then 2 * (bif decide ((μ.1 15 1) = 1) then (2 : Int32) else 8) else bif decide ((μ.1 15 1) = 1) then (2 : Int32) else 8)), (4, .int 1), (3, .int x3), (0, .ref 14), (1, .int cc), (2, .int (nB fl))] [.int (μ.1 16 1), .long 17113154305, .int x3] μ
          refine zq_call hc (z_cx_ok hH (by rfl)) (fb_X6_holds d' (by omega) μ (17113154305 : Int64) (μ.1 16 1)) (by decide +kernel) (fun r9 μ9 hq => ?_)
          obtain ⟨hμ9, rfl⟩ := hq
          rw [hμ9]
          clear hμ9 μ9
          show Z 0 118 [(5, .int (bif hb1 then 2 * (bif decide ((μ.1 15 1) = 1) then (2 : Int32) else 8) else bif decide ((μ.1 15 1) = 1) then (2 : Int32) else 8)), (4, .int 1), (3, .int x3), (0, .ref 14), (1, .int cc), (2, .int (nB fl))] [.int (nB (xHd 17113154305 (μ.1 16 1))), .int x3] μ
          have hJ4 : Z 0 130 [(5, .int (bif hb1 then 2 * (bif decide ((μ.1 15 1) = 1) then (2 : Int32) else 8) else bif decide ((μ.1 15 1) = 1) then (2 : Int32) else 8)), (4, .int 1), (3, .int x3), (0, .ref 14), (1, .int cc), (2, .int (nB fl))] [.int (bif xHd 17113154305 (μ.1 16 1) then 2 * (bif hb1 then 2 * (bif decide ((μ.1 15 1) = 1) then (2 : Int32) else 8) else bif decide ((μ.1 15 1) = 1) then (2 : Int32) else 8) else bif hb1 then 2 * (bif decide ((μ.1 15 1) = 1) then (2 : Int32) else 8) else bif decide ((μ.1 15 1) = 1) then (2 : Int32) else 8), .int x3] μ := by
            refine z_rcs hc hH 4 (pc' := 48) (lv' := [(4, .int 2), (3, .int (x3 + (bif xHd 17113154305 (μ.1 16 1) then 2 * (bif hb1 then 2 * (bif decide ((μ.1 15 1) = 1) then (2 : Int32) else 8) else bif decide ((μ.1 15 1) = 1) then (2 : Int32) else 8) else bif hb1 then 2 * (bif decide ((μ.1 15 1) = 1) then (2 : Int32) else 8) else bif decide ((μ.1 15 1) = 1) then (2 : Int32) else 8))), (5, .int (bif hb1 then 2 * (bif decide ((μ.1 15 1) = 1) then (2 : Int32) else 8) else bif decide ((μ.1 15 1) = 1) then (2 : Int32) else 8)), (0, .ref 14), (1, .int cc), (2, .int (nB fl))]) (st' := []) (μ' := μ) (by rfl) ?_
            exact zJ (K.2 (bif hb1 then 2 * (bif decide ((μ.1 15 1) = 1) then (2 : Int32) else 8) else bif decide ((μ.1 15 1) = 1) then (2 : Int32) else 8)) (by simp only [fuI, h1, cond_true, cond_false]) rfl rfl
          refine zq_if hc hH (by rfl) (tg := 128) (by rfl) (fun h5 => ?_) (fun h5 => ?_)
          · have h5 : (xHd 17113154305 (μ.1 16 1)) = false := nB_z.mp (cm_eq9.mp h5)
            refine z_rcs hc hH 1 (pc' := 130) (lv' := [(5, .int (bif hb1 then 2 * (bif decide ((μ.1 15 1) = 1) then (2 : Int32) else 8) else bif decide ((μ.1 15 1) = 1) then (2 : Int32) else 8)), (4, .int 1), (3, .int x3), (0, .ref 14), (1, .int cc), (2, .int (nB fl))]) (st' := [.int (bif hb1 then 2 * (bif decide ((μ.1 15 1) = 1) then (2 : Int32) else 8) else bif decide ((μ.1 15 1) = 1) then (2 : Int32) else 8), .int x3]) (μ' := μ) (by rfl) ?_
            exact zJ hJ4 rfl (by first | with_reducible rfl | (simp only [h5, lb_f, Int64.or_zero, Int32.add_zero, nB_t, nB_f, Bool.not_true, Bool.not_false, Bool.and_true, Bool.true_and, Bool.false_and, Bool.and_false, Bool.or_true, Bool.true_or, Bool.false_or, Bool.or_false, cond_true, cond_false]; done) | rfl) rfl
          · have h5 : (xHd 17113154305 (μ.1 16 1)) = true := nB_n.mp (cn_eq.mp h5)
            refine z_rcs hc hH 4 (pc' := 130) (lv' := [(5, .int (bif hb1 then 2 * (bif decide ((μ.1 15 1) = 1) then (2 : Int32) else 8) else bif decide ((μ.1 15 1) = 1) then (2 : Int32) else 8)), (4, .int 1), (3, .int x3), (0, .ref 14), (1, .int cc), (2, .int (nB fl))]) (st' := [.int (2 * (bif hb1 then 2 * (bif decide ((μ.1 15 1) = 1) then (2 : Int32) else 8) else bif decide ((μ.1 15 1) = 1) then (2 : Int32) else 8)), .int x3]) (μ' := μ) (by rfl) ?_
            exact zJ hJ4 rfl (by first | with_reducible rfl | (simp only [h5, lb_f, Int64.or_zero, Int32.add_zero, nB_t, nB_f, Bool.not_true, Bool.not_false, Bool.and_true, Bool.true_and, Bool.false_and, Bool.and_false, Bool.or_true, Bool.true_or, Bool.false_or, Bool.or_false, cond_true, cond_false]; done) | rfl) rfl
        refine zq_if hc hH (by rfl) (tg := 100) (by rfl) (fun h6 => ?_) (fun h6 => ?_)
        · have h6 : (hb1) = false := nB_z.mp (cm_eq9.mp h6)
          refine z_rcs hc hH 1 (pc' := 102) (lv' := [(5, .int (bif decide ((μ.1 15 1) = 1) then (2 : Int32) else 8)), (4, .int 1), (3, .int x3), (0, .ref 14), (1, .int cc), (2, .int (nB fl))]) (st' := [.int (bif decide ((μ.1 15 1) = 1) then (2 : Int32) else 8)]) (μ' := μ) (by rfl) ?_
          exact zJ hJ3 rfl (by first | with_reducible rfl | (simp only [h6, lb_f, Int64.or_zero, Int32.add_zero, nB_t, nB_f, Bool.not_true, Bool.not_false, Bool.and_true, Bool.true_and, Bool.false_and, Bool.and_false, Bool.or_true, Bool.true_or, Bool.false_or, Bool.or_false, cond_true, cond_false]; done) | rfl) rfl
        · have h6 : (hb1) = true := nB_n.mp (cn_eq.mp h6)
          refine z_rcs hc hH 4 (pc' := 102) (lv' := [(5, .int (bif decide ((μ.1 15 1) = 1) then (2 : Int32) else 8)), (4, .int 1), (3, .int x3), (0, .ref 14), (1, .int cc), (2, .int (nB fl))]) (st' := [.int (2 * (bif decide ((μ.1 15 1) = 1) then (2 : Int32) else 8))]) (μ' := μ) (by rfl) ?_
          exact zJ hJ3 rfl (by first | with_reducible rfl | (simp only [h6, lb_f, Int64.or_zero, Int32.add_zero, nB_t, nB_f, Bool.not_true, Bool.not_false, Bool.and_true, Bool.true_and, Bool.false_and, Bool.and_false, Bool.or_true, Bool.true_or, Bool.false_or, Bool.or_false, cond_true, cond_false]; done) | rfl) rfl
      refine zq_ic hc hH (by rfl) (tg := 79) (by rfl) (fun h7 => ?_) (fun h7 => ?_)
      · have h7 : (decide ((μ.1 15 1) = 1)) = false := decide_eq_false (cm_ne.mp h7)
        refine z_rcs hc hH 1 (pc' := 81) (lv' := [(4, .int 1), (3, .int x3), (0, .ref 14), (1, .int cc), (2, .int (nB fl))]) (st' := [.int 8]) (μ' := μ) (by rfl) ?_
        exact zJ hJ2 rfl (by first | with_reducible rfl | (simp only [h7, lb_f, Int64.or_zero, Int32.add_zero, nB_t, nB_f, Bool.not_true, Bool.not_false, Bool.and_true, Bool.true_and, Bool.false_and, Bool.and_false, Bool.or_true, Bool.true_or, Bool.false_or, Bool.or_false, cond_true, cond_false]; done) | rfl) rfl
      · have h7 : (decide ((μ.1 15 1) = 1)) = true := decide_eq_true (cn_ne.mp h7)
        refine z_rcs hc hH 2 (pc' := 81) (lv' := [(4, .int 1), (3, .int x3), (0, .ref 14), (1, .int cc), (2, .int (nB fl))]) (st' := [.int 2]) (μ' := μ) (by rfl) ?_
        exact zJ hJ2 rfl (by first | with_reducible rfl | (simp only [h7, lb_f, Int64.or_zero, Int32.add_zero, nB_t, nB_f, Bool.not_true, Bool.not_false, Bool.and_true, Bool.true_and, Bool.false_and, Bool.and_false, Bool.or_true, Bool.true_or, Bool.false_or, Bool.or_false, cond_true, cond_false]; done) | rfl) rfl
  · skip
    refine z_rcs hc hH 6 (pc' := 60) (lv' := [(4, .int 1), (3, .int x3), (5, .int x5), (0, .ref 14), (1, .int cc), (2, .int (nB fl))]) (st' := [.int 1, .ref 15]) (μ' := μ) (by rfl) ?_
    refine zq_iald hc hH (by rfl) 4 (by decide +kernel) (show vp_in (nI 1) 4 from vp_in_nI (by decide) (by decide)) ?_
    show Z 0 61 [(4, .int 1), (3, .int x3), (5, .int x5), (0, .ref 14), (1, .int cc), (2, .int (nB fl))] [.int (μ.1 15 1)] μ
    refine zq_if hc hH (by rfl) (tg := 132) (by rfl) (fun h1 => ?_) (fun h1 => ?_)
    · have h1 : (decide ((μ.1 15 1) = 0)) = true := decide_eq_true (cm_eq9.mp h1)
      refine z_rcs hc hH 2 (pc' := 48) (lv' := [(4, .int 2), (3, .int x3), (5, .int x5), (0, .ref 14), (1, .int cc), (2, .int (nB fl))]) (st' := []) (μ' := μ) (by rfl) ?_
      exact zJ (K.2 x5) (by simp only [fuI, h1, cond_true, cond_false]) rfl rfl
    · have h1 : (decide ((μ.1 15 1) = 0)) = false := decide_eq_false (cn_eq.mp h1)
      refine z_rcs hc hH 3 (pc' := 70) (lv' := [(4, .int 1), (3, .int x3), (5, .int x5), (0, .ref 14), (1, .int cc), (2, .int (nB fl))]) (st' := [.int 1, .ref 15]) (μ' := μ) (by rfl) ?_
      refine zq_iald hc hH (by rfl) 4 (by decide +kernel) (show vp_in (nI 1) 4 from vp_in_nI (by decide) (by decide)) ?_
      show Z 0 71 [(4, .int 1), (3, .int x3), (5, .int x5), (0, .ref 14), (1, .int cc), (2, .int (nB fl))] [.int (μ.1 15 1)] μ
      refine z_rcs hc hH 1 (pc' := 72) (lv' := [(4, .int 1), (3, .int x3), (5, .int x5), (0, .ref 14), (1, .int cc), (2, .int (nB fl))]) (st' := [.int 1, .int (μ.1 15 1)]) (μ' := μ) (by rfl) ?_
      have hJ2 : Z 0 81 [(4, .int 1), (3, .int x3), (5, .int x5), (0, .ref 14), (1, .int cc), (2, .int (nB fl))] [.int (bif decide ((μ.1 15 1) = 1) then (2 : Int32) else 8)] μ := by
        refine z_rcs hc hH 4 (pc' := 87) (lv' := [(5, .int (bif decide ((μ.1 15 1) = 1) then (2 : Int32) else 8)), (4, .int 1), (3, .int x3), (0, .ref 14), (1, .int cc), (2, .int (nB fl))]) (st' := [.int cc, .int 1, .ref 14]) (μ' := μ) (by rfl) ?_
        refine zq_call hc (z_cx_ok hH (by rfl)) (hhd1 d' (by omega)) (by decide +kernel) (fun r9 μ9 hq => ?_)
        obtain ⟨hμ9, rfl⟩ := hq
        rw [hμ9]
        clear hμ9 μ9
        show Z 0 90 [(5, .int (bif decide ((μ.1 15 1) = 1) then (2 : Int32) else 8)), (4, .int 1), (3, .int x3), (0, .ref 14), (1, .int cc), (2, .int (nB fl))] [.int (nB hb1)] μ
        have hJ3 : Z 0 102 [(5, .int (bif decide ((μ.1 15 1) = 1) then (2 : Int32) else 8)), (4, .int 1), (3, .int x3), (0, .ref 14), (1, .int cc), (2, .int (nB fl))] [.int (bif hb1 then 2 * (bif decide ((μ.1 15 1) = 1) then (2 : Int32) else 8) else bif decide ((μ.1 15 1) = 1) then (2 : Int32) else 8)] μ := by
          refine z_rcs hc hH 6 (pc' := 114) (lv' := [(5, .int (bif hb1 then 2 * (bif decide ((μ.1 15 1) = 1) then (2 : Int32) else 8) else bif decide ((μ.1 15 1) = 1) then (2 : Int32) else 8)), (4, .int 1), (3, .int x3), (0, .ref 14), (1, .int cc), (2, .int (nB fl))]) (st' := [.int 1, .ref 16, .long 17113154305, .int x3]) (μ' := μ) (by rfl) ?_
          refine zq_iald hc hH (by rfl) 4 (by decide +kernel) (show vp_in (nI 1) 4 from vp_in_nI (by decide) (by decide)) ?_
          show Z 0 115 [(5, .int (bif hb1 then 2 * (bif decide ((μ.1 15 1) = 1) then (2 : Int32) else 8) else bif decide ((μ.1 15 1) = 1) then (2 : Int32) else 8)), (4, .int 1), (3, .int x3), (0, .ref 14), (1, .int cc), (2, .int (nB fl))] [.int (μ.1 16 1), .long 17113154305, .int x3] μ
          refine zq_call hc (z_cx_ok hH (by rfl)) (fb_X6_holds d' (by omega) μ (17113154305 : Int64) (μ.1 16 1)) (by decide +kernel) (fun r9 μ9 hq => ?_)
          obtain ⟨hμ9, rfl⟩ := hq
          rw [hμ9]
          clear hμ9 μ9
          show Z 0 118 [(5, .int (bif hb1 then 2 * (bif decide ((μ.1 15 1) = 1) then (2 : Int32) else 8) else bif decide ((μ.1 15 1) = 1) then (2 : Int32) else 8)), (4, .int 1), (3, .int x3), (0, .ref 14), (1, .int cc), (2, .int (nB fl))] [.int (nB (xHd 17113154305 (μ.1 16 1))), .int x3] μ
          have hJ4 : Z 0 130 [(5, .int (bif hb1 then 2 * (bif decide ((μ.1 15 1) = 1) then (2 : Int32) else 8) else bif decide ((μ.1 15 1) = 1) then (2 : Int32) else 8)), (4, .int 1), (3, .int x3), (0, .ref 14), (1, .int cc), (2, .int (nB fl))] [.int (bif xHd 17113154305 (μ.1 16 1) then 2 * (bif hb1 then 2 * (bif decide ((μ.1 15 1) = 1) then (2 : Int32) else 8) else bif decide ((μ.1 15 1) = 1) then (2 : Int32) else 8) else bif hb1 then 2 * (bif decide ((μ.1 15 1) = 1) then (2 : Int32) else 8) else bif decide ((μ.1 15 1) = 1) then (2 : Int32) else 8), .int x3] μ := by
            refine z_rcs hc hH 4 (pc' := 48) (lv' := [(4, .int 2), (3, .int (x3 + (bif xHd 17113154305 (μ.1 16 1) then 2 * (bif hb1 then 2 * (bif decide ((μ.1 15 1) = 1) then (2 : Int32) else 8) else bif decide ((μ.1 15 1) = 1) then (2 : Int32) else 8) else bif hb1 then 2 * (bif decide ((μ.1 15 1) = 1) then (2 : Int32) else 8) else bif decide ((μ.1 15 1) = 1) then (2 : Int32) else 8))), (5, .int (bif hb1 then 2 * (bif decide ((μ.1 15 1) = 1) then (2 : Int32) else 8) else bif decide ((μ.1 15 1) = 1) then (2 : Int32) else 8)), (0, .ref 14), (1, .int cc), (2, .int (nB fl))]) (st' := []) (μ' := μ) (by rfl) ?_
            exact zJ (K.2 (bif hb1 then 2 * (bif decide ((μ.1 15 1) = 1) then (2 : Int32) else 8) else bif decide ((μ.1 15 1) = 1) then (2 : Int32) else 8)) (by simp only [fuI, h1, cond_true, cond_false]) rfl rfl
          refine zq_if hc hH (by rfl) (tg := 128) (by rfl) (fun h5 => ?_) (fun h5 => ?_)
          · have h5 : (xHd 17113154305 (μ.1 16 1)) = false := nB_z.mp (cm_eq9.mp h5)
            refine z_rcs hc hH 1 (pc' := 130) (lv' := [(5, .int (bif hb1 then 2 * (bif decide ((μ.1 15 1) = 1) then (2 : Int32) else 8) else bif decide ((μ.1 15 1) = 1) then (2 : Int32) else 8)), (4, .int 1), (3, .int x3), (0, .ref 14), (1, .int cc), (2, .int (nB fl))]) (st' := [.int (bif hb1 then 2 * (bif decide ((μ.1 15 1) = 1) then (2 : Int32) else 8) else bif decide ((μ.1 15 1) = 1) then (2 : Int32) else 8), .int x3]) (μ' := μ) (by rfl) ?_
            exact zJ hJ4 rfl (by first | with_reducible rfl | (simp only [h5, lb_f, Int64.or_zero, Int32.add_zero, nB_t, nB_f, Bool.not_true, Bool.not_false, Bool.and_true, Bool.true_and, Bool.false_and, Bool.and_false, Bool.or_true, Bool.true_or, Bool.false_or, Bool.or_false, cond_true, cond_false]; done) | rfl) rfl
          · have h5 : (xHd 17113154305 (μ.1 16 1)) = true := nB_n.mp (cn_eq.mp h5)
            refine z_rcs hc hH 4 (pc' := 130) (lv' := [(5, .int (bif hb1 then 2 * (bif decide ((μ.1 15 1) = 1) then (2 : Int32) else 8) else bif decide ((μ.1 15 1) = 1) then (2 : Int32) else 8)), (4, .int 1), (3, .int x3), (0, .ref 14), (1, .int cc), (2, .int (nB fl))]) (st' := [.int (2 * (bif hb1 then 2 * (bif decide ((μ.1 15 1) = 1) then (2 : Int32) else 8) else bif decide ((μ.1 15 1) = 1) then (2 : Int32) else 8)), .int x3]) (μ' := μ) (by rfl) ?_
            exact zJ hJ4 rfl (by first | with_reducible rfl | (simp only [h5, lb_f, Int64.or_zero, Int32.add_zero, nB_t, nB_f, Bool.not_true, Bool.not_false, Bool.and_true, Bool.true_and, Bool.false_and, Bool.and_false, Bool.or_true, Bool.true_or, Bool.false_or, Bool.or_false, cond_true, cond_false]; done) | rfl) rfl
        refine zq_if hc hH (by rfl) (tg := 100) (by rfl) (fun h6 => ?_) (fun h6 => ?_)
        · have h6 : (hb1) = false := nB_z.mp (cm_eq9.mp h6)
          refine z_rcs hc hH 1 (pc' := 102) (lv' := [(5, .int (bif decide ((μ.1 15 1) = 1) then (2 : Int32) else 8)), (4, .int 1), (3, .int x3), (0, .ref 14), (1, .int cc), (2, .int (nB fl))]) (st' := [.int (bif decide ((μ.1 15 1) = 1) then (2 : Int32) else 8)]) (μ' := μ) (by rfl) ?_
          exact zJ hJ3 rfl (by first | with_reducible rfl | (simp only [h6, lb_f, Int64.or_zero, Int32.add_zero, nB_t, nB_f, Bool.not_true, Bool.not_false, Bool.and_true, Bool.true_and, Bool.false_and, Bool.and_false, Bool.or_true, Bool.true_or, Bool.false_or, Bool.or_false, cond_true, cond_false]; done) | rfl) rfl
        · have h6 : (hb1) = true := nB_n.mp (cn_eq.mp h6)
          refine z_rcs hc hH 4 (pc' := 102) (lv' := [(5, .int (bif decide ((μ.1 15 1) = 1) then (2 : Int32) else 8)), (4, .int 1), (3, .int x3), (0, .ref 14), (1, .int cc), (2, .int (nB fl))]) (st' := [.int (2 * (bif decide ((μ.1 15 1) = 1) then (2 : Int32) else 8))]) (μ' := μ) (by rfl) ?_
          exact zJ hJ3 rfl (by first | with_reducible rfl | (simp only [h6, lb_f, Int64.or_zero, Int32.add_zero, nB_t, nB_f, Bool.not_true, Bool.not_false, Bool.and_true, Bool.true_and, Bool.false_and, Bool.and_false, Bool.or_true, Bool.true_or, Bool.false_or, Bool.or_false, cond_true, cond_false]; done) | rfl) rfl
      refine zq_ic hc hH (by rfl) (tg := 79) (by rfl) (fun h7 => ?_) (fun h7 => ?_)
      · have h7 : (decide ((μ.1 15 1) = 1)) = false := decide_eq_false (cm_ne.mp h7)
        refine z_rcs hc hH 1 (pc' := 81) (lv' := [(4, .int 1), (3, .int x3), (5, .int x5), (0, .ref 14), (1, .int cc), (2, .int (nB fl))]) (st' := [.int 8]) (μ' := μ) (by rfl) ?_
        exact zJ hJ2 rfl (by first | with_reducible rfl | (simp only [h7, lb_f, Int64.or_zero, Int32.add_zero, nB_t, nB_f, Bool.not_true, Bool.not_false, Bool.and_true, Bool.true_and, Bool.false_and, Bool.and_false, Bool.or_true, Bool.true_or, Bool.false_or, Bool.or_false, cond_true, cond_false]; done) | rfl) rfl
      · have h7 : (decide ((μ.1 15 1) = 1)) = true := decide_eq_true (cn_ne.mp h7)
        refine z_rcs hc hH 2 (pc' := 81) (lv' := [(4, .int 1), (3, .int x3), (5, .int x5), (0, .ref 14), (1, .int cc), (2, .int (nB fl))]) (st' := [.int 2]) (μ' := μ) (by rfl) ?_
        exact zJ hJ2 rfl (by first | with_reducible rfl | (simp only [h7, lb_f, Int64.or_zero, Int32.add_zero, nB_t, nB_f, Bool.not_true, Bool.not_false, Bool.and_true, Bool.true_and, Bool.false_and, Bool.and_false, Bool.or_true, Bool.true_or, Bool.false_or, Bool.or_false, cond_true, cond_false]; done) | rfl) rfl
theorem fu1_2 (d' : Nat) (Z : zK) (hd : 2 ≤ d') (μ : zM) (fl : Bool) (cc wf : Int32) (hwf : ∀ d, 1 ≤ d → z_C d mi_X1_waitFu [.ref 14, .int cc] μ (zR μ (.int wf))) (hb0 : Bool) (hhd0 : ∀ d, 1 ≤ d → z_C d mi_X1_isHidden [.ref 14, .int 0, .int cc] μ (zR μ (.int (nB hb0)))) (hb1 : Bool) (hhd1 : ∀ d, 1 ≤ d → z_C d mi_X1_isHidden [.ref 14, .int 1, .int cc] μ (zR μ (.int (nB hb1)))) (hb2 : Bool) (hhd2 : ∀ d, 1 ≤ d → z_C d mi_X1_isHidden [.ref 14, .int 2, .int cc] μ (zR μ (.int (nB hb2)))) (hb3 : Bool) (hhd3 : ∀ d, 1 ≤ d → z_C d mi_X1_isHidden [.ref 14, .int 3, .int cc] μ (zR μ (.int (nB hb3)))) (hc : z_clo z_x0 mi_X1_fuOf (z_C d') Z) (x3 : Int32) (K : Z 0 48 [(4, .int 3), (3, .int (fuI hb2 (μ.1 15 2) (μ.1 16 2) x3)), (0, .ref 14), (1, .int cc), (2, .int (nB fl))] [] μ ∧ ∀ x5, Z 0 48 [(4, .int 3), (3, .int (fuI hb2 (μ.1 15 2) (μ.1 16 2) x3)), (5, .int x5), (0, .ref 14), (1, .int cc), (2, .int (nB fl))] [] μ) : Z 0 48 [(4, .int 2), (3, .int x3), (0, .ref 14), (1, .int cc), (2, .int (nB fl))] [] μ ∧ ∀ x5, Z 0 48 [(4, .int 2), (3, .int x3), (5, .int x5), (0, .ref 14), (1, .int cc), (2, .int (nB fl))] [] μ := by
  have hH : zH mi_X1_fuOf zt_X1_fuOf 79 1 6 := hh_X1_fuOf
  refine ⟨?_, fun x5 => ?_⟩
  · skip
    refine z_rcs hc hH 6 (pc' := 60) (lv' := [(4, .int 2), (3, .int x3), (0, .ref 14), (1, .int cc), (2, .int (nB fl))]) (st' := [.int 2, .ref 15]) (μ' := μ) (by rfl) ?_
    refine zq_iald hc hH (by rfl) 4 (by decide +kernel) (show vp_in (nI 2) 4 from vp_in_nI (by decide) (by decide)) ?_
    show Z 0 61 [(4, .int 2), (3, .int x3), (0, .ref 14), (1, .int cc), (2, .int (nB fl))] [.int (μ.1 15 2)] μ
    refine zq_if hc hH (by rfl) (tg := 132) (by rfl) (fun h1 => ?_) (fun h1 => ?_)
    · have h1 : (decide ((μ.1 15 2) = 0)) = true := decide_eq_true (cm_eq9.mp h1)
      refine z_rcs hc hH 2 (pc' := 48) (lv' := [(4, .int 3), (3, .int x3), (0, .ref 14), (1, .int cc), (2, .int (nB fl))]) (st' := []) (μ' := μ) (by rfl) ?_
      exact zJ K.1 (by simp only [fuI, h1, cond_true, cond_false]) rfl rfl
    · have h1 : (decide ((μ.1 15 2) = 0)) = false := decide_eq_false (cn_eq.mp h1)
      refine z_rcs hc hH 3 (pc' := 70) (lv' := [(4, .int 2), (3, .int x3), (0, .ref 14), (1, .int cc), (2, .int (nB fl))]) (st' := [.int 2, .ref 15]) (μ' := μ) (by rfl) ?_
      refine zq_iald hc hH (by rfl) 4 (by decide +kernel) (show vp_in (nI 2) 4 from vp_in_nI (by decide) (by decide)) ?_
      show Z 0 71 [(4, .int 2), (3, .int x3), (0, .ref 14), (1, .int cc), (2, .int (nB fl))] [.int (μ.1 15 2)] μ
      refine z_rcs hc hH 1 (pc' := 72) (lv' := [(4, .int 2), (3, .int x3), (0, .ref 14), (1, .int cc), (2, .int (nB fl))]) (st' := [.int 1, .int (μ.1 15 2)]) (μ' := μ) (by rfl) ?_
      have hJ2 : Z 0 81 [(4, .int 2), (3, .int x3), (0, .ref 14), (1, .int cc), (2, .int (nB fl))] [.int (bif decide ((μ.1 15 2) = 1) then (2 : Int32) else 8)] μ := by
        refine z_rcs hc hH 4 (pc' := 87) (lv' := [(5, .int (bif decide ((μ.1 15 2) = 1) then (2 : Int32) else 8)), (4, .int 2), (3, .int x3), (0, .ref 14), (1, .int cc), (2, .int (nB fl))]) (st' := [.int cc, .int 2, .ref 14]) (μ' := μ) (by rfl) ?_
        refine zq_call hc (z_cx_ok hH (by rfl)) (hhd2 d' (by omega)) (by decide +kernel) (fun r9 μ9 hq => ?_)
        obtain ⟨hμ9, rfl⟩ := hq
        rw [hμ9]
        clear hμ9 μ9
        show Z 0 90 [(5, .int (bif decide ((μ.1 15 2) = 1) then (2 : Int32) else 8)), (4, .int 2), (3, .int x3), (0, .ref 14), (1, .int cc), (2, .int (nB fl))] [.int (nB hb2)] μ
        have hJ3 : Z 0 102 [(5, .int (bif decide ((μ.1 15 2) = 1) then (2 : Int32) else 8)), (4, .int 2), (3, .int x3), (0, .ref 14), (1, .int cc), (2, .int (nB fl))] [.int (bif hb2 then 2 * (bif decide ((μ.1 15 2) = 1) then (2 : Int32) else 8) else bif decide ((μ.1 15 2) = 1) then (2 : Int32) else 8)] μ := by
          refine z_rcs hc hH 6 (pc' := 114) (lv' := [(5, .int (bif hb2 then 2 * (bif decide ((μ.1 15 2) = 1) then (2 : Int32) else 8) else bif decide ((μ.1 15 2) = 1) then (2 : Int32) else 8)), (4, .int 2), (3, .int x3), (0, .ref 14), (1, .int cc), (2, .int (nB fl))]) (st' := [.int 2, .ref 16, .long 17113154305, .int x3]) (μ' := μ) (by rfl) ?_
          refine zq_iald hc hH (by rfl) 4 (by decide +kernel) (show vp_in (nI 2) 4 from vp_in_nI (by decide) (by decide)) ?_
          show Z 0 115 [(5, .int (bif hb2 then 2 * (bif decide ((μ.1 15 2) = 1) then (2 : Int32) else 8) else bif decide ((μ.1 15 2) = 1) then (2 : Int32) else 8)), (4, .int 2), (3, .int x3), (0, .ref 14), (1, .int cc), (2, .int (nB fl))] [.int (μ.1 16 2), .long 17113154305, .int x3] μ
          refine zq_call hc (z_cx_ok hH (by rfl)) (fb_X6_holds d' (by omega) μ (17113154305 : Int64) (μ.1 16 2)) (by decide +kernel) (fun r9 μ9 hq => ?_)
          obtain ⟨hμ9, rfl⟩ := hq
          rw [hμ9]
          clear hμ9 μ9
          show Z 0 118 [(5, .int (bif hb2 then 2 * (bif decide ((μ.1 15 2) = 1) then (2 : Int32) else 8) else bif decide ((μ.1 15 2) = 1) then (2 : Int32) else 8)), (4, .int 2), (3, .int x3), (0, .ref 14), (1, .int cc), (2, .int (nB fl))] [.int (nB (xHd 17113154305 (μ.1 16 2))), .int x3] μ
          have hJ4 : Z 0 130 [(5, .int (bif hb2 then 2 * (bif decide ((μ.1 15 2) = 1) then (2 : Int32) else 8) else bif decide ((μ.1 15 2) = 1) then (2 : Int32) else 8)), (4, .int 2), (3, .int x3), (0, .ref 14), (1, .int cc), (2, .int (nB fl))] [.int (bif xHd 17113154305 (μ.1 16 2) then 2 * (bif hb2 then 2 * (bif decide ((μ.1 15 2) = 1) then (2 : Int32) else 8) else bif decide ((μ.1 15 2) = 1) then (2 : Int32) else 8) else bif hb2 then 2 * (bif decide ((μ.1 15 2) = 1) then (2 : Int32) else 8) else bif decide ((μ.1 15 2) = 1) then (2 : Int32) else 8), .int x3] μ := by
            refine z_rcs hc hH 4 (pc' := 48) (lv' := [(4, .int 3), (3, .int (x3 + (bif xHd 17113154305 (μ.1 16 2) then 2 * (bif hb2 then 2 * (bif decide ((μ.1 15 2) = 1) then (2 : Int32) else 8) else bif decide ((μ.1 15 2) = 1) then (2 : Int32) else 8) else bif hb2 then 2 * (bif decide ((μ.1 15 2) = 1) then (2 : Int32) else 8) else bif decide ((μ.1 15 2) = 1) then (2 : Int32) else 8))), (5, .int (bif hb2 then 2 * (bif decide ((μ.1 15 2) = 1) then (2 : Int32) else 8) else bif decide ((μ.1 15 2) = 1) then (2 : Int32) else 8)), (0, .ref 14), (1, .int cc), (2, .int (nB fl))]) (st' := []) (μ' := μ) (by rfl) ?_
            exact zJ (K.2 (bif hb2 then 2 * (bif decide ((μ.1 15 2) = 1) then (2 : Int32) else 8) else bif decide ((μ.1 15 2) = 1) then (2 : Int32) else 8)) (by simp only [fuI, h1, cond_true, cond_false]) rfl rfl
          refine zq_if hc hH (by rfl) (tg := 128) (by rfl) (fun h5 => ?_) (fun h5 => ?_)
          · have h5 : (xHd 17113154305 (μ.1 16 2)) = false := nB_z.mp (cm_eq9.mp h5)
            refine z_rcs hc hH 1 (pc' := 130) (lv' := [(5, .int (bif hb2 then 2 * (bif decide ((μ.1 15 2) = 1) then (2 : Int32) else 8) else bif decide ((μ.1 15 2) = 1) then (2 : Int32) else 8)), (4, .int 2), (3, .int x3), (0, .ref 14), (1, .int cc), (2, .int (nB fl))]) (st' := [.int (bif hb2 then 2 * (bif decide ((μ.1 15 2) = 1) then (2 : Int32) else 8) else bif decide ((μ.1 15 2) = 1) then (2 : Int32) else 8), .int x3]) (μ' := μ) (by rfl) ?_
            exact zJ hJ4 rfl (by first | with_reducible rfl | (simp only [h5, lb_f, Int64.or_zero, Int32.add_zero, nB_t, nB_f, Bool.not_true, Bool.not_false, Bool.and_true, Bool.true_and, Bool.false_and, Bool.and_false, Bool.or_true, Bool.true_or, Bool.false_or, Bool.or_false, cond_true, cond_false]; done) | rfl) rfl
          · have h5 : (xHd 17113154305 (μ.1 16 2)) = true := nB_n.mp (cn_eq.mp h5)
            refine z_rcs hc hH 4 (pc' := 130) (lv' := [(5, .int (bif hb2 then 2 * (bif decide ((μ.1 15 2) = 1) then (2 : Int32) else 8) else bif decide ((μ.1 15 2) = 1) then (2 : Int32) else 8)), (4, .int 2), (3, .int x3), (0, .ref 14), (1, .int cc), (2, .int (nB fl))]) (st' := [.int (2 * (bif hb2 then 2 * (bif decide ((μ.1 15 2) = 1) then (2 : Int32) else 8) else bif decide ((μ.1 15 2) = 1) then (2 : Int32) else 8)), .int x3]) (μ' := μ) (by rfl) ?_
            exact zJ hJ4 rfl (by first | with_reducible rfl | (simp only [h5, lb_f, Int64.or_zero, Int32.add_zero, nB_t, nB_f, Bool.not_true, Bool.not_false, Bool.and_true, Bool.true_and, Bool.false_and, Bool.and_false, Bool.or_true, Bool.true_or, Bool.false_or, Bool.or_false, cond_true, cond_false]; done) | rfl) rfl
        refine zq_if hc hH (by rfl) (tg := 100) (by rfl) (fun h6 => ?_) (fun h6 => ?_)
        · have h6 : (hb2) = false := nB_z.mp (cm_eq9.mp h6)
          refine z_rcs hc hH 1 (pc' := 102) (lv' := [(5, .int (bif decide ((μ.1 15 2) = 1) then (2 : Int32) else 8)), (4, .int 2), (3, .int x3), (0, .ref 14), (1, .int cc), (2, .int (nB fl))]) (st' := [.int (bif decide ((μ.1 15 2) = 1) then (2 : Int32) else 8)]) (μ' := μ) (by rfl) ?_
          exact zJ hJ3 rfl (by first | with_reducible rfl | (simp only [h6, lb_f, Int64.or_zero, Int32.add_zero, nB_t, nB_f, Bool.not_true, Bool.not_false, Bool.and_true, Bool.true_and, Bool.false_and, Bool.and_false, Bool.or_true, Bool.true_or, Bool.false_or, Bool.or_false, cond_true, cond_false]; done) | rfl) rfl
        · have h6 : (hb2) = true := nB_n.mp (cn_eq.mp h6)
          refine z_rcs hc hH 4 (pc' := 102) (lv' := [(5, .int (bif decide ((μ.1 15 2) = 1) then (2 : Int32) else 8)), (4, .int 2), (3, .int x3), (0, .ref 14), (1, .int cc), (2, .int (nB fl))]) (st' := [.int (2 * (bif decide ((μ.1 15 2) = 1) then (2 : Int32) else 8))]) (μ' := μ) (by rfl) ?_
          exact zJ hJ3 rfl (by first | with_reducible rfl | (simp only [h6, lb_f, Int64.or_zero, Int32.add_zero, nB_t, nB_f, Bool.not_true, Bool.not_false, Bool.and_true, Bool.true_and, Bool.false_and, Bool.and_false, Bool.or_true, Bool.true_or, Bool.false_or, Bool.or_false, cond_true, cond_false]; done) | rfl) rfl
      refine zq_ic hc hH (by rfl) (tg := 79) (by rfl) (fun h7 => ?_) (fun h7 => ?_)
      · have h7 : (decide ((μ.1 15 2) = 1)) = false := decide_eq_false (cm_ne.mp h7)
        refine z_rcs hc hH 1 (pc' := 81) (lv' := [(4, .int 2), (3, .int x3), (0, .ref 14), (1, .int cc), (2, .int (nB fl))]) (st' := [.int 8]) (μ' := μ) (by rfl) ?_
        exact zJ hJ2 rfl (by first | with_reducible rfl | (simp only [h7, lb_f, Int64.or_zero, Int32.add_zero, nB_t, nB_f, Bool.not_true, Bool.not_false, Bool.and_true, Bool.true_and, Bool.false_and, Bool.and_false, Bool.or_true, Bool.true_or, Bool.false_or, Bool.or_false, cond_true, cond_false]; done) | rfl) rfl
      · have h7 : (decide ((μ.1 15 2) = 1)) = true := decide_eq_true (cn_ne.mp h7)
        refine z_rcs hc hH 2 (pc' := 81) (lv' := [(4, .int 2), (3, .int x3), (0, .ref 14), (1, .int cc), (2, .int (nB fl))]) (st' := [.int 2]) (μ' := μ) (by rfl) ?_
        exact zJ hJ2 rfl (by first | with_reducible rfl | (simp only [h7, lb_f, Int64.or_zero, Int32.add_zero, nB_t, nB_f, Bool.not_true, Bool.not_false, Bool.and_true, Bool.true_and, Bool.false_and, Bool.and_false, Bool.or_true, Bool.true_or, Bool.false_or, Bool.or_false, cond_true, cond_false]; done) | rfl) rfl
  · skip
    refine z_rcs hc hH 6 (pc' := 60) (lv' := [(4, .int 2), (3, .int x3), (5, .int x5), (0, .ref 14), (1, .int cc), (2, .int (nB fl))]) (st' := [.int 2, .ref 15]) (μ' := μ) (by rfl) ?_
    refine zq_iald hc hH (by rfl) 4 (by decide +kernel) (show vp_in (nI 2) 4 from vp_in_nI (by decide) (by decide)) ?_
    show Z 0 61 [(4, .int 2), (3, .int x3), (5, .int x5), (0, .ref 14), (1, .int cc), (2, .int (nB fl))] [.int (μ.1 15 2)] μ
    refine zq_if hc hH (by rfl) (tg := 132) (by rfl) (fun h1 => ?_) (fun h1 => ?_)
    · have h1 : (decide ((μ.1 15 2) = 0)) = true := decide_eq_true (cm_eq9.mp h1)
      refine z_rcs hc hH 2 (pc' := 48) (lv' := [(4, .int 3), (3, .int x3), (5, .int x5), (0, .ref 14), (1, .int cc), (2, .int (nB fl))]) (st' := []) (μ' := μ) (by rfl) ?_
      exact zJ (K.2 x5) (by simp only [fuI, h1, cond_true, cond_false]) rfl rfl
    · have h1 : (decide ((μ.1 15 2) = 0)) = false := decide_eq_false (cn_eq.mp h1)
      refine z_rcs hc hH 3 (pc' := 70) (lv' := [(4, .int 2), (3, .int x3), (5, .int x5), (0, .ref 14), (1, .int cc), (2, .int (nB fl))]) (st' := [.int 2, .ref 15]) (μ' := μ) (by rfl) ?_
      refine zq_iald hc hH (by rfl) 4 (by decide +kernel) (show vp_in (nI 2) 4 from vp_in_nI (by decide) (by decide)) ?_
      show Z 0 71 [(4, .int 2), (3, .int x3), (5, .int x5), (0, .ref 14), (1, .int cc), (2, .int (nB fl))] [.int (μ.1 15 2)] μ
      refine z_rcs hc hH 1 (pc' := 72) (lv' := [(4, .int 2), (3, .int x3), (5, .int x5), (0, .ref 14), (1, .int cc), (2, .int (nB fl))]) (st' := [.int 1, .int (μ.1 15 2)]) (μ' := μ) (by rfl) ?_
      have hJ2 : Z 0 81 [(4, .int 2), (3, .int x3), (5, .int x5), (0, .ref 14), (1, .int cc), (2, .int (nB fl))] [.int (bif decide ((μ.1 15 2) = 1) then (2 : Int32) else 8)] μ := by
        refine z_rcs hc hH 4 (pc' := 87) (lv' := [(5, .int (bif decide ((μ.1 15 2) = 1) then (2 : Int32) else 8)), (4, .int 2), (3, .int x3), (0, .ref 14), (1, .int cc), (2, .int (nB fl))]) (st' := [.int cc, .int 2, .ref 14]) (μ' := μ) (by rfl) ?_
        refine zq_call hc (z_cx_ok hH (by rfl)) (hhd2 d' (by omega)) (by decide +kernel) (fun r9 μ9 hq => ?_)
        obtain ⟨hμ9, rfl⟩ := hq
        rw [hμ9]
        clear hμ9 μ9
        show Z 0 90 [(5, .int (bif decide ((μ.1 15 2) = 1) then (2 : Int32) else 8)), (4, .int 2), (3, .int x3), (0, .ref 14), (1, .int cc), (2, .int (nB fl))] [.int (nB hb2)] μ
        have hJ3 : Z 0 102 [(5, .int (bif decide ((μ.1 15 2) = 1) then (2 : Int32) else 8)), (4, .int 2), (3, .int x3), (0, .ref 14), (1, .int cc), (2, .int (nB fl))] [.int (bif hb2 then 2 * (bif decide ((μ.1 15 2) = 1) then (2 : Int32) else 8) else bif decide ((μ.1 15 2) = 1) then (2 : Int32) else 8)] μ := by
          refine z_rcs hc hH 6 (pc' := 114) (lv' := [(5, .int (bif hb2 then 2 * (bif decide ((μ.1 15 2) = 1) then (2 : Int32) else 8) else bif decide ((μ.1 15 2) = 1) then (2 : Int32) else 8)), (4, .int 2), (3, .int x3), (0, .ref 14), (1, .int cc), (2, .int (nB fl))]) (st' := [.int 2, .ref 16, .long 17113154305, .int x3]) (μ' := μ) (by rfl) ?_
          refine zq_iald hc hH (by rfl) 4 (by decide +kernel) (show vp_in (nI 2) 4 from vp_in_nI (by decide) (by decide)) ?_
          show Z 0 115 [(5, .int (bif hb2 then 2 * (bif decide ((μ.1 15 2) = 1) then (2 : Int32) else 8) else bif decide ((μ.1 15 2) = 1) then (2 : Int32) else 8)), (4, .int 2), (3, .int x3), (0, .ref 14), (1, .int cc), (2, .int (nB fl))] [.int (μ.1 16 2), .long 17113154305, .int x3] μ
          refine zq_call hc (z_cx_ok hH (by rfl)) (fb_X6_holds d' (by omega) μ (17113154305 : Int64) (μ.1 16 2)) (by decide +kernel) (fun r9 μ9 hq => ?_)
          obtain ⟨hμ9, rfl⟩ := hq
          rw [hμ9]
          clear hμ9 μ9
          show Z 0 118 [(5, .int (bif hb2 then 2 * (bif decide ((μ.1 15 2) = 1) then (2 : Int32) else 8) else bif decide ((μ.1 15 2) = 1) then (2 : Int32) else 8)), (4, .int 2), (3, .int x3), (0, .ref 14), (1, .int cc), (2, .int (nB fl))] [.int (nB (xHd 17113154305 (μ.1 16 2))), .int x3] μ
          have hJ4 : Z 0 130 [(5, .int (bif hb2 then 2 * (bif decide ((μ.1 15 2) = 1) then (2 : Int32) else 8) else bif decide ((μ.1 15 2) = 1) then (2 : Int32) else 8)), (4, .int 2), (3, .int x3), (0, .ref 14), (1, .int cc), (2, .int (nB fl))] [.int (bif xHd 17113154305 (μ.1 16 2) then 2 * (bif hb2 then 2 * (bif decide ((μ.1 15 2) = 1) then (2 : Int32) else 8) else bif decide ((μ.1 15 2) = 1) then (2 : Int32) else 8) else bif hb2 then 2 * (bif decide ((μ.1 15 2) = 1) then (2 : Int32) else 8) else bif decide ((μ.1 15 2) = 1) then (2 : Int32) else 8), .int x3] μ := by
            refine z_rcs hc hH 4 (pc' := 48) (lv' := [(4, .int 3), (3, .int (x3 + (bif xHd 17113154305 (μ.1 16 2) then 2 * (bif hb2 then 2 * (bif decide ((μ.1 15 2) = 1) then (2 : Int32) else 8) else bif decide ((μ.1 15 2) = 1) then (2 : Int32) else 8) else bif hb2 then 2 * (bif decide ((μ.1 15 2) = 1) then (2 : Int32) else 8) else bif decide ((μ.1 15 2) = 1) then (2 : Int32) else 8))), (5, .int (bif hb2 then 2 * (bif decide ((μ.1 15 2) = 1) then (2 : Int32) else 8) else bif decide ((μ.1 15 2) = 1) then (2 : Int32) else 8)), (0, .ref 14), (1, .int cc), (2, .int (nB fl))]) (st' := []) (μ' := μ) (by rfl) ?_
            exact zJ (K.2 (bif hb2 then 2 * (bif decide ((μ.1 15 2) = 1) then (2 : Int32) else 8) else bif decide ((μ.1 15 2) = 1) then (2 : Int32) else 8)) (by simp only [fuI, h1, cond_true, cond_false]) rfl rfl
          refine zq_if hc hH (by rfl) (tg := 128) (by rfl) (fun h5 => ?_) (fun h5 => ?_)
          · have h5 : (xHd 17113154305 (μ.1 16 2)) = false := nB_z.mp (cm_eq9.mp h5)
            refine z_rcs hc hH 1 (pc' := 130) (lv' := [(5, .int (bif hb2 then 2 * (bif decide ((μ.1 15 2) = 1) then (2 : Int32) else 8) else bif decide ((μ.1 15 2) = 1) then (2 : Int32) else 8)), (4, .int 2), (3, .int x3), (0, .ref 14), (1, .int cc), (2, .int (nB fl))]) (st' := [.int (bif hb2 then 2 * (bif decide ((μ.1 15 2) = 1) then (2 : Int32) else 8) else bif decide ((μ.1 15 2) = 1) then (2 : Int32) else 8), .int x3]) (μ' := μ) (by rfl) ?_
            exact zJ hJ4 rfl (by first | with_reducible rfl | (simp only [h5, lb_f, Int64.or_zero, Int32.add_zero, nB_t, nB_f, Bool.not_true, Bool.not_false, Bool.and_true, Bool.true_and, Bool.false_and, Bool.and_false, Bool.or_true, Bool.true_or, Bool.false_or, Bool.or_false, cond_true, cond_false]; done) | rfl) rfl
          · have h5 : (xHd 17113154305 (μ.1 16 2)) = true := nB_n.mp (cn_eq.mp h5)
            refine z_rcs hc hH 4 (pc' := 130) (lv' := [(5, .int (bif hb2 then 2 * (bif decide ((μ.1 15 2) = 1) then (2 : Int32) else 8) else bif decide ((μ.1 15 2) = 1) then (2 : Int32) else 8)), (4, .int 2), (3, .int x3), (0, .ref 14), (1, .int cc), (2, .int (nB fl))]) (st' := [.int (2 * (bif hb2 then 2 * (bif decide ((μ.1 15 2) = 1) then (2 : Int32) else 8) else bif decide ((μ.1 15 2) = 1) then (2 : Int32) else 8)), .int x3]) (μ' := μ) (by rfl) ?_
            exact zJ hJ4 rfl (by first | with_reducible rfl | (simp only [h5, lb_f, Int64.or_zero, Int32.add_zero, nB_t, nB_f, Bool.not_true, Bool.not_false, Bool.and_true, Bool.true_and, Bool.false_and, Bool.and_false, Bool.or_true, Bool.true_or, Bool.false_or, Bool.or_false, cond_true, cond_false]; done) | rfl) rfl
        refine zq_if hc hH (by rfl) (tg := 100) (by rfl) (fun h6 => ?_) (fun h6 => ?_)
        · have h6 : (hb2) = false := nB_z.mp (cm_eq9.mp h6)
          refine z_rcs hc hH 1 (pc' := 102) (lv' := [(5, .int (bif decide ((μ.1 15 2) = 1) then (2 : Int32) else 8)), (4, .int 2), (3, .int x3), (0, .ref 14), (1, .int cc), (2, .int (nB fl))]) (st' := [.int (bif decide ((μ.1 15 2) = 1) then (2 : Int32) else 8)]) (μ' := μ) (by rfl) ?_
          exact zJ hJ3 rfl (by first | with_reducible rfl | (simp only [h6, lb_f, Int64.or_zero, Int32.add_zero, nB_t, nB_f, Bool.not_true, Bool.not_false, Bool.and_true, Bool.true_and, Bool.false_and, Bool.and_false, Bool.or_true, Bool.true_or, Bool.false_or, Bool.or_false, cond_true, cond_false]; done) | rfl) rfl
        · have h6 : (hb2) = true := nB_n.mp (cn_eq.mp h6)
          refine z_rcs hc hH 4 (pc' := 102) (lv' := [(5, .int (bif decide ((μ.1 15 2) = 1) then (2 : Int32) else 8)), (4, .int 2), (3, .int x3), (0, .ref 14), (1, .int cc), (2, .int (nB fl))]) (st' := [.int (2 * (bif decide ((μ.1 15 2) = 1) then (2 : Int32) else 8))]) (μ' := μ) (by rfl) ?_
          exact zJ hJ3 rfl (by first | with_reducible rfl | (simp only [h6, lb_f, Int64.or_zero, Int32.add_zero, nB_t, nB_f, Bool.not_true, Bool.not_false, Bool.and_true, Bool.true_and, Bool.false_and, Bool.and_false, Bool.or_true, Bool.true_or, Bool.false_or, Bool.or_false, cond_true, cond_false]; done) | rfl) rfl
      refine zq_ic hc hH (by rfl) (tg := 79) (by rfl) (fun h7 => ?_) (fun h7 => ?_)
      · have h7 : (decide ((μ.1 15 2) = 1)) = false := decide_eq_false (cm_ne.mp h7)
        refine z_rcs hc hH 1 (pc' := 81) (lv' := [(4, .int 2), (3, .int x3), (5, .int x5), (0, .ref 14), (1, .int cc), (2, .int (nB fl))]) (st' := [.int 8]) (μ' := μ) (by rfl) ?_
        exact zJ hJ2 rfl (by first | with_reducible rfl | (simp only [h7, lb_f, Int64.or_zero, Int32.add_zero, nB_t, nB_f, Bool.not_true, Bool.not_false, Bool.and_true, Bool.true_and, Bool.false_and, Bool.and_false, Bool.or_true, Bool.true_or, Bool.false_or, Bool.or_false, cond_true, cond_false]; done) | rfl) rfl
      · have h7 : (decide ((μ.1 15 2) = 1)) = true := decide_eq_true (cn_ne.mp h7)
        refine z_rcs hc hH 2 (pc' := 81) (lv' := [(4, .int 2), (3, .int x3), (5, .int x5), (0, .ref 14), (1, .int cc), (2, .int (nB fl))]) (st' := [.int 2]) (μ' := μ) (by rfl) ?_
        exact zJ hJ2 rfl (by first | with_reducible rfl | (simp only [h7, lb_f, Int64.or_zero, Int32.add_zero, nB_t, nB_f, Bool.not_true, Bool.not_false, Bool.and_true, Bool.true_and, Bool.false_and, Bool.and_false, Bool.or_true, Bool.true_or, Bool.false_or, Bool.or_false, cond_true, cond_false]; done) | rfl) rfl
theorem fu1_3 (d' : Nat) (Z : zK) (hd : 2 ≤ d') (μ : zM) (fl : Bool) (cc wf : Int32) (hwf : ∀ d, 1 ≤ d → z_C d mi_X1_waitFu [.ref 14, .int cc] μ (zR μ (.int wf))) (hb0 : Bool) (hhd0 : ∀ d, 1 ≤ d → z_C d mi_X1_isHidden [.ref 14, .int 0, .int cc] μ (zR μ (.int (nB hb0)))) (hb1 : Bool) (hhd1 : ∀ d, 1 ≤ d → z_C d mi_X1_isHidden [.ref 14, .int 1, .int cc] μ (zR μ (.int (nB hb1)))) (hb2 : Bool) (hhd2 : ∀ d, 1 ≤ d → z_C d mi_X1_isHidden [.ref 14, .int 2, .int cc] μ (zR μ (.int (nB hb2)))) (hb3 : Bool) (hhd3 : ∀ d, 1 ≤ d → z_C d mi_X1_isHidden [.ref 14, .int 3, .int cc] μ (zR μ (.int (nB hb3)))) (hc : z_clo z_x0 mi_X1_fuOf (z_C d') Z) (x3 : Int32) (K : Z 0 48 [(4, .int 4), (3, .int (fuI hb3 (μ.1 15 3) (μ.1 16 3) x3)), (0, .ref 14), (1, .int cc), (2, .int (nB fl))] [] μ ∧ ∀ x5, Z 0 48 [(4, .int 4), (3, .int (fuI hb3 (μ.1 15 3) (μ.1 16 3) x3)), (5, .int x5), (0, .ref 14), (1, .int cc), (2, .int (nB fl))] [] μ) : Z 0 48 [(4, .int 3), (3, .int x3), (0, .ref 14), (1, .int cc), (2, .int (nB fl))] [] μ ∧ ∀ x5, Z 0 48 [(4, .int 3), (3, .int x3), (5, .int x5), (0, .ref 14), (1, .int cc), (2, .int (nB fl))] [] μ := by
  have hH : zH mi_X1_fuOf zt_X1_fuOf 79 1 6 := hh_X1_fuOf
  refine ⟨?_, fun x5 => ?_⟩
  · skip
    refine z_rcs hc hH 6 (pc' := 60) (lv' := [(4, .int 3), (3, .int x3), (0, .ref 14), (1, .int cc), (2, .int (nB fl))]) (st' := [.int 3, .ref 15]) (μ' := μ) (by rfl) ?_
    refine zq_iald hc hH (by rfl) 4 (by decide +kernel) (show vp_in (nI 3) 4 from vp_in_nI (by decide) (by decide)) ?_
    show Z 0 61 [(4, .int 3), (3, .int x3), (0, .ref 14), (1, .int cc), (2, .int (nB fl))] [.int (μ.1 15 3)] μ
    refine zq_if hc hH (by rfl) (tg := 132) (by rfl) (fun h1 => ?_) (fun h1 => ?_)
    · have h1 : (decide ((μ.1 15 3) = 0)) = true := decide_eq_true (cm_eq9.mp h1)
      refine z_rcs hc hH 2 (pc' := 48) (lv' := [(4, .int 4), (3, .int x3), (0, .ref 14), (1, .int cc), (2, .int (nB fl))]) (st' := []) (μ' := μ) (by rfl) ?_
      exact zJ K.1 (by simp only [fuI, h1, cond_true, cond_false]) rfl rfl
    · have h1 : (decide ((μ.1 15 3) = 0)) = false := decide_eq_false (cn_eq.mp h1)
      refine z_rcs hc hH 3 (pc' := 70) (lv' := [(4, .int 3), (3, .int x3), (0, .ref 14), (1, .int cc), (2, .int (nB fl))]) (st' := [.int 3, .ref 15]) (μ' := μ) (by rfl) ?_
      refine zq_iald hc hH (by rfl) 4 (by decide +kernel) (show vp_in (nI 3) 4 from vp_in_nI (by decide) (by decide)) ?_
      show Z 0 71 [(4, .int 3), (3, .int x3), (0, .ref 14), (1, .int cc), (2, .int (nB fl))] [.int (μ.1 15 3)] μ
      refine z_rcs hc hH 1 (pc' := 72) (lv' := [(4, .int 3), (3, .int x3), (0, .ref 14), (1, .int cc), (2, .int (nB fl))]) (st' := [.int 1, .int (μ.1 15 3)]) (μ' := μ) (by rfl) ?_
      have hJ2 : Z 0 81 [(4, .int 3), (3, .int x3), (0, .ref 14), (1, .int cc), (2, .int (nB fl))] [.int (bif decide ((μ.1 15 3) = 1) then (2 : Int32) else 8)] μ := by
        refine z_rcs hc hH 4 (pc' := 87) (lv' := [(5, .int (bif decide ((μ.1 15 3) = 1) then (2 : Int32) else 8)), (4, .int 3), (3, .int x3), (0, .ref 14), (1, .int cc), (2, .int (nB fl))]) (st' := [.int cc, .int 3, .ref 14]) (μ' := μ) (by rfl) ?_
        refine zq_call hc (z_cx_ok hH (by rfl)) (hhd3 d' (by omega)) (by decide +kernel) (fun r9 μ9 hq => ?_)
        obtain ⟨hμ9, rfl⟩ := hq
        rw [hμ9]
        clear hμ9 μ9
        show Z 0 90 [(5, .int (bif decide ((μ.1 15 3) = 1) then (2 : Int32) else 8)), (4, .int 3), (3, .int x3), (0, .ref 14), (1, .int cc), (2, .int (nB fl))] [.int (nB hb3)] μ
        have hJ3 : Z 0 102 [(5, .int (bif decide ((μ.1 15 3) = 1) then (2 : Int32) else 8)), (4, .int 3), (3, .int x3), (0, .ref 14), (1, .int cc), (2, .int (nB fl))] [.int (bif hb3 then 2 * (bif decide ((μ.1 15 3) = 1) then (2 : Int32) else 8) else bif decide ((μ.1 15 3) = 1) then (2 : Int32) else 8)] μ := by
          refine z_rcs hc hH 6 (pc' := 114) (lv' := [(5, .int (bif hb3 then 2 * (bif decide ((μ.1 15 3) = 1) then (2 : Int32) else 8) else bif decide ((μ.1 15 3) = 1) then (2 : Int32) else 8)), (4, .int 3), (3, .int x3), (0, .ref 14), (1, .int cc), (2, .int (nB fl))]) (st' := [.int 3, .ref 16, .long 17113154305, .int x3]) (μ' := μ) (by rfl) ?_
          refine zq_iald hc hH (by rfl) 4 (by decide +kernel) (show vp_in (nI 3) 4 from vp_in_nI (by decide) (by decide)) ?_
          show Z 0 115 [(5, .int (bif hb3 then 2 * (bif decide ((μ.1 15 3) = 1) then (2 : Int32) else 8) else bif decide ((μ.1 15 3) = 1) then (2 : Int32) else 8)), (4, .int 3), (3, .int x3), (0, .ref 14), (1, .int cc), (2, .int (nB fl))] [.int (μ.1 16 3), .long 17113154305, .int x3] μ
          refine zq_call hc (z_cx_ok hH (by rfl)) (fb_X6_holds d' (by omega) μ (17113154305 : Int64) (μ.1 16 3)) (by decide +kernel) (fun r9 μ9 hq => ?_)
          obtain ⟨hμ9, rfl⟩ := hq
          rw [hμ9]
          clear hμ9 μ9
          show Z 0 118 [(5, .int (bif hb3 then 2 * (bif decide ((μ.1 15 3) = 1) then (2 : Int32) else 8) else bif decide ((μ.1 15 3) = 1) then (2 : Int32) else 8)), (4, .int 3), (3, .int x3), (0, .ref 14), (1, .int cc), (2, .int (nB fl))] [.int (nB (xHd 17113154305 (μ.1 16 3))), .int x3] μ
          have hJ4 : Z 0 130 [(5, .int (bif hb3 then 2 * (bif decide ((μ.1 15 3) = 1) then (2 : Int32) else 8) else bif decide ((μ.1 15 3) = 1) then (2 : Int32) else 8)), (4, .int 3), (3, .int x3), (0, .ref 14), (1, .int cc), (2, .int (nB fl))] [.int (bif xHd 17113154305 (μ.1 16 3) then 2 * (bif hb3 then 2 * (bif decide ((μ.1 15 3) = 1) then (2 : Int32) else 8) else bif decide ((μ.1 15 3) = 1) then (2 : Int32) else 8) else bif hb3 then 2 * (bif decide ((μ.1 15 3) = 1) then (2 : Int32) else 8) else bif decide ((μ.1 15 3) = 1) then (2 : Int32) else 8), .int x3] μ := by
            refine z_rcs hc hH 4 (pc' := 48) (lv' := [(4, .int 4), (3, .int (x3 + (bif xHd 17113154305 (μ.1 16 3) then 2 * (bif hb3 then 2 * (bif decide ((μ.1 15 3) = 1) then (2 : Int32) else 8) else bif decide ((μ.1 15 3) = 1) then (2 : Int32) else 8) else bif hb3 then 2 * (bif decide ((μ.1 15 3) = 1) then (2 : Int32) else 8) else bif decide ((μ.1 15 3) = 1) then (2 : Int32) else 8))), (5, .int (bif hb3 then 2 * (bif decide ((μ.1 15 3) = 1) then (2 : Int32) else 8) else bif decide ((μ.1 15 3) = 1) then (2 : Int32) else 8)), (0, .ref 14), (1, .int cc), (2, .int (nB fl))]) (st' := []) (μ' := μ) (by rfl) ?_
            exact zJ (K.2 (bif hb3 then 2 * (bif decide ((μ.1 15 3) = 1) then (2 : Int32) else 8) else bif decide ((μ.1 15 3) = 1) then (2 : Int32) else 8)) (by simp only [fuI, h1, cond_true, cond_false]) rfl rfl
          refine zq_if hc hH (by rfl) (tg := 128) (by rfl) (fun h5 => ?_) (fun h5 => ?_)
          · have h5 : (xHd 17113154305 (μ.1 16 3)) = false := nB_z.mp (cm_eq9.mp h5)
            refine z_rcs hc hH 1 (pc' := 130) (lv' := [(5, .int (bif hb3 then 2 * (bif decide ((μ.1 15 3) = 1) then (2 : Int32) else 8) else bif decide ((μ.1 15 3) = 1) then (2 : Int32) else 8)), (4, .int 3), (3, .int x3), (0, .ref 14), (1, .int cc), (2, .int (nB fl))]) (st' := [.int (bif hb3 then 2 * (bif decide ((μ.1 15 3) = 1) then (2 : Int32) else 8) else bif decide ((μ.1 15 3) = 1) then (2 : Int32) else 8), .int x3]) (μ' := μ) (by rfl) ?_
            exact zJ hJ4 rfl (by first | with_reducible rfl | (simp only [h5, lb_f, Int64.or_zero, Int32.add_zero, nB_t, nB_f, Bool.not_true, Bool.not_false, Bool.and_true, Bool.true_and, Bool.false_and, Bool.and_false, Bool.or_true, Bool.true_or, Bool.false_or, Bool.or_false, cond_true, cond_false]; done) | rfl) rfl
          · have h5 : (xHd 17113154305 (μ.1 16 3)) = true := nB_n.mp (cn_eq.mp h5)
            refine z_rcs hc hH 4 (pc' := 130) (lv' := [(5, .int (bif hb3 then 2 * (bif decide ((μ.1 15 3) = 1) then (2 : Int32) else 8) else bif decide ((μ.1 15 3) = 1) then (2 : Int32) else 8)), (4, .int 3), (3, .int x3), (0, .ref 14), (1, .int cc), (2, .int (nB fl))]) (st' := [.int (2 * (bif hb3 then 2 * (bif decide ((μ.1 15 3) = 1) then (2 : Int32) else 8) else bif decide ((μ.1 15 3) = 1) then (2 : Int32) else 8)), .int x3]) (μ' := μ) (by rfl) ?_
            exact zJ hJ4 rfl (by first | with_reducible rfl | (simp only [h5, lb_f, Int64.or_zero, Int32.add_zero, nB_t, nB_f, Bool.not_true, Bool.not_false, Bool.and_true, Bool.true_and, Bool.false_and, Bool.and_false, Bool.or_true, Bool.true_or, Bool.false_or, Bool.or_false, cond_true, cond_false]; done) | rfl) rfl
        refine zq_if hc hH (by rfl) (tg := 100) (by rfl) (fun h6 => ?_) (fun h6 => ?_)
        · have h6 : (hb3) = false := nB_z.mp (cm_eq9.mp h6)
          refine z_rcs hc hH 1 (pc' := 102) (lv' := [(5, .int (bif decide ((μ.1 15 3) = 1) then (2 : Int32) else 8)), (4, .int 3), (3, .int x3), (0, .ref 14), (1, .int cc), (2, .int (nB fl))]) (st' := [.int (bif decide ((μ.1 15 3) = 1) then (2 : Int32) else 8)]) (μ' := μ) (by rfl) ?_
          exact zJ hJ3 rfl (by first | with_reducible rfl | (simp only [h6, lb_f, Int64.or_zero, Int32.add_zero, nB_t, nB_f, Bool.not_true, Bool.not_false, Bool.and_true, Bool.true_and, Bool.false_and, Bool.and_false, Bool.or_true, Bool.true_or, Bool.false_or, Bool.or_false, cond_true, cond_false]; done) | rfl) rfl
        · have h6 : (hb3) = true := nB_n.mp (cn_eq.mp h6)
          refine z_rcs hc hH 4 (pc' := 102) (lv' := [(5, .int (bif decide ((μ.1 15 3) = 1) then (2 : Int32) else 8)), (4, .int 3), (3, .int x3), (0, .ref 14), (1, .int cc), (2, .int (nB fl))]) (st' := [.int (2 * (bif decide ((μ.1 15 3) = 1) then (2 : Int32) else 8))]) (μ' := μ) (by rfl) ?_
          exact zJ hJ3 rfl (by first | with_reducible rfl | (simp only [h6, lb_f, Int64.or_zero, Int32.add_zero, nB_t, nB_f, Bool.not_true, Bool.not_false, Bool.and_true, Bool.true_and, Bool.false_and, Bool.and_false, Bool.or_true, Bool.true_or, Bool.false_or, Bool.or_false, cond_true, cond_false]; done) | rfl) rfl
      refine zq_ic hc hH (by rfl) (tg := 79) (by rfl) (fun h7 => ?_) (fun h7 => ?_)
      · have h7 : (decide ((μ.1 15 3) = 1)) = false := decide_eq_false (cm_ne.mp h7)
        refine z_rcs hc hH 1 (pc' := 81) (lv' := [(4, .int 3), (3, .int x3), (0, .ref 14), (1, .int cc), (2, .int (nB fl))]) (st' := [.int 8]) (μ' := μ) (by rfl) ?_
        exact zJ hJ2 rfl (by first | with_reducible rfl | (simp only [h7, lb_f, Int64.or_zero, Int32.add_zero, nB_t, nB_f, Bool.not_true, Bool.not_false, Bool.and_true, Bool.true_and, Bool.false_and, Bool.and_false, Bool.or_true, Bool.true_or, Bool.false_or, Bool.or_false, cond_true, cond_false]; done) | rfl) rfl
      · have h7 : (decide ((μ.1 15 3) = 1)) = true := decide_eq_true (cn_ne.mp h7)
        refine z_rcs hc hH 2 (pc' := 81) (lv' := [(4, .int 3), (3, .int x3), (0, .ref 14), (1, .int cc), (2, .int (nB fl))]) (st' := [.int 2]) (μ' := μ) (by rfl) ?_
        exact zJ hJ2 rfl (by first | with_reducible rfl | (simp only [h7, lb_f, Int64.or_zero, Int32.add_zero, nB_t, nB_f, Bool.not_true, Bool.not_false, Bool.and_true, Bool.true_and, Bool.false_and, Bool.and_false, Bool.or_true, Bool.true_or, Bool.false_or, Bool.or_false, cond_true, cond_false]; done) | rfl) rfl
  · skip
    refine z_rcs hc hH 6 (pc' := 60) (lv' := [(4, .int 3), (3, .int x3), (5, .int x5), (0, .ref 14), (1, .int cc), (2, .int (nB fl))]) (st' := [.int 3, .ref 15]) (μ' := μ) (by rfl) ?_
    refine zq_iald hc hH (by rfl) 4 (by decide +kernel) (show vp_in (nI 3) 4 from vp_in_nI (by decide) (by decide)) ?_
    show Z 0 61 [(4, .int 3), (3, .int x3), (5, .int x5), (0, .ref 14), (1, .int cc), (2, .int (nB fl))] [.int (μ.1 15 3)] μ
    refine zq_if hc hH (by rfl) (tg := 132) (by rfl) (fun h1 => ?_) (fun h1 => ?_)
    · have h1 : (decide ((μ.1 15 3) = 0)) = true := decide_eq_true (cm_eq9.mp h1)
      refine z_rcs hc hH 2 (pc' := 48) (lv' := [(4, .int 4), (3, .int x3), (5, .int x5), (0, .ref 14), (1, .int cc), (2, .int (nB fl))]) (st' := []) (μ' := μ) (by rfl) ?_
      exact zJ (K.2 x5) (by simp only [fuI, h1, cond_true, cond_false]) rfl rfl
    · have h1 : (decide ((μ.1 15 3) = 0)) = false := decide_eq_false (cn_eq.mp h1)
      refine z_rcs hc hH 3 (pc' := 70) (lv' := [(4, .int 3), (3, .int x3), (5, .int x5), (0, .ref 14), (1, .int cc), (2, .int (nB fl))]) (st' := [.int 3, .ref 15]) (μ' := μ) (by rfl) ?_
      refine zq_iald hc hH (by rfl) 4 (by decide +kernel) (show vp_in (nI 3) 4 from vp_in_nI (by decide) (by decide)) ?_
      show Z 0 71 [(4, .int 3), (3, .int x3), (5, .int x5), (0, .ref 14), (1, .int cc), (2, .int (nB fl))] [.int (μ.1 15 3)] μ
      refine z_rcs hc hH 1 (pc' := 72) (lv' := [(4, .int 3), (3, .int x3), (5, .int x5), (0, .ref 14), (1, .int cc), (2, .int (nB fl))]) (st' := [.int 1, .int (μ.1 15 3)]) (μ' := μ) (by rfl) ?_
      have hJ2 : Z 0 81 [(4, .int 3), (3, .int x3), (5, .int x5), (0, .ref 14), (1, .int cc), (2, .int (nB fl))] [.int (bif decide ((μ.1 15 3) = 1) then (2 : Int32) else 8)] μ := by
        refine z_rcs hc hH 4 (pc' := 87) (lv' := [(5, .int (bif decide ((μ.1 15 3) = 1) then (2 : Int32) else 8)), (4, .int 3), (3, .int x3), (0, .ref 14), (1, .int cc), (2, .int (nB fl))]) (st' := [.int cc, .int 3, .ref 14]) (μ' := μ) (by rfl) ?_
        refine zq_call hc (z_cx_ok hH (by rfl)) (hhd3 d' (by omega)) (by decide +kernel) (fun r9 μ9 hq => ?_)
        obtain ⟨hμ9, rfl⟩ := hq
        rw [hμ9]
        clear hμ9 μ9
        show Z 0 90 [(5, .int (bif decide ((μ.1 15 3) = 1) then (2 : Int32) else 8)), (4, .int 3), (3, .int x3), (0, .ref 14), (1, .int cc), (2, .int (nB fl))] [.int (nB hb3)] μ
        have hJ3 : Z 0 102 [(5, .int (bif decide ((μ.1 15 3) = 1) then (2 : Int32) else 8)), (4, .int 3), (3, .int x3), (0, .ref 14), (1, .int cc), (2, .int (nB fl))] [.int (bif hb3 then 2 * (bif decide ((μ.1 15 3) = 1) then (2 : Int32) else 8) else bif decide ((μ.1 15 3) = 1) then (2 : Int32) else 8)] μ := by
          refine z_rcs hc hH 6 (pc' := 114) (lv' := [(5, .int (bif hb3 then 2 * (bif decide ((μ.1 15 3) = 1) then (2 : Int32) else 8) else bif decide ((μ.1 15 3) = 1) then (2 : Int32) else 8)), (4, .int 3), (3, .int x3), (0, .ref 14), (1, .int cc), (2, .int (nB fl))]) (st' := [.int 3, .ref 16, .long 17113154305, .int x3]) (μ' := μ) (by rfl) ?_
          refine zq_iald hc hH (by rfl) 4 (by decide +kernel) (show vp_in (nI 3) 4 from vp_in_nI (by decide) (by decide)) ?_
          show Z 0 115 [(5, .int (bif hb3 then 2 * (bif decide ((μ.1 15 3) = 1) then (2 : Int32) else 8) else bif decide ((μ.1 15 3) = 1) then (2 : Int32) else 8)), (4, .int 3), (3, .int x3), (0, .ref 14), (1, .int cc), (2, .int (nB fl))] [.int (μ.1 16 3), .long 17113154305, .int x3] μ
          refine zq_call hc (z_cx_ok hH (by rfl)) (fb_X6_holds d' (by omega) μ (17113154305 : Int64) (μ.1 16 3)) (by decide +kernel) (fun r9 μ9 hq => ?_)
          obtain ⟨hμ9, rfl⟩ := hq
          rw [hμ9]
          clear hμ9 μ9
          show Z 0 118 [(5, .int (bif hb3 then 2 * (bif decide ((μ.1 15 3) = 1) then (2 : Int32) else 8) else bif decide ((μ.1 15 3) = 1) then (2 : Int32) else 8)), (4, .int 3), (3, .int x3), (0, .ref 14), (1, .int cc), (2, .int (nB fl))] [.int (nB (xHd 17113154305 (μ.1 16 3))), .int x3] μ
          have hJ4 : Z 0 130 [(5, .int (bif hb3 then 2 * (bif decide ((μ.1 15 3) = 1) then (2 : Int32) else 8) else bif decide ((μ.1 15 3) = 1) then (2 : Int32) else 8)), (4, .int 3), (3, .int x3), (0, .ref 14), (1, .int cc), (2, .int (nB fl))] [.int (bif xHd 17113154305 (μ.1 16 3) then 2 * (bif hb3 then 2 * (bif decide ((μ.1 15 3) = 1) then (2 : Int32) else 8) else bif decide ((μ.1 15 3) = 1) then (2 : Int32) else 8) else bif hb3 then 2 * (bif decide ((μ.1 15 3) = 1) then (2 : Int32) else 8) else bif decide ((μ.1 15 3) = 1) then (2 : Int32) else 8), .int x3] μ := by
            refine z_rcs hc hH 4 (pc' := 48) (lv' := [(4, .int 4), (3, .int (x3 + (bif xHd 17113154305 (μ.1 16 3) then 2 * (bif hb3 then 2 * (bif decide ((μ.1 15 3) = 1) then (2 : Int32) else 8) else bif decide ((μ.1 15 3) = 1) then (2 : Int32) else 8) else bif hb3 then 2 * (bif decide ((μ.1 15 3) = 1) then (2 : Int32) else 8) else bif decide ((μ.1 15 3) = 1) then (2 : Int32) else 8))), (5, .int (bif hb3 then 2 * (bif decide ((μ.1 15 3) = 1) then (2 : Int32) else 8) else bif decide ((μ.1 15 3) = 1) then (2 : Int32) else 8)), (0, .ref 14), (1, .int cc), (2, .int (nB fl))]) (st' := []) (μ' := μ) (by rfl) ?_
            exact zJ (K.2 (bif hb3 then 2 * (bif decide ((μ.1 15 3) = 1) then (2 : Int32) else 8) else bif decide ((μ.1 15 3) = 1) then (2 : Int32) else 8)) (by simp only [fuI, h1, cond_true, cond_false]) rfl rfl
          refine zq_if hc hH (by rfl) (tg := 128) (by rfl) (fun h5 => ?_) (fun h5 => ?_)
          · have h5 : (xHd 17113154305 (μ.1 16 3)) = false := nB_z.mp (cm_eq9.mp h5)
            refine z_rcs hc hH 1 (pc' := 130) (lv' := [(5, .int (bif hb3 then 2 * (bif decide ((μ.1 15 3) = 1) then (2 : Int32) else 8) else bif decide ((μ.1 15 3) = 1) then (2 : Int32) else 8)), (4, .int 3), (3, .int x3), (0, .ref 14), (1, .int cc), (2, .int (nB fl))]) (st' := [.int (bif hb3 then 2 * (bif decide ((μ.1 15 3) = 1) then (2 : Int32) else 8) else bif decide ((μ.1 15 3) = 1) then (2 : Int32) else 8), .int x3]) (μ' := μ) (by rfl) ?_
            exact zJ hJ4 rfl (by first | with_reducible rfl | (simp only [h5, lb_f, Int64.or_zero, Int32.add_zero, nB_t, nB_f, Bool.not_true, Bool.not_false, Bool.and_true, Bool.true_and, Bool.false_and, Bool.and_false, Bool.or_true, Bool.true_or, Bool.false_or, Bool.or_false, cond_true, cond_false]; done) | rfl) rfl
          · have h5 : (xHd 17113154305 (μ.1 16 3)) = true := nB_n.mp (cn_eq.mp h5)
            refine z_rcs hc hH 4 (pc' := 130) (lv' := [(5, .int (bif hb3 then 2 * (bif decide ((μ.1 15 3) = 1) then (2 : Int32) else 8) else bif decide ((μ.1 15 3) = 1) then (2 : Int32) else 8)), (4, .int 3), (3, .int x3), (0, .ref 14), (1, .int cc), (2, .int (nB fl))]) (st' := [.int (2 * (bif hb3 then 2 * (bif decide ((μ.1 15 3) = 1) then (2 : Int32) else 8) else bif decide ((μ.1 15 3) = 1) then (2 : Int32) else 8)), .int x3]) (μ' := μ) (by rfl) ?_
            exact zJ hJ4 rfl (by first | with_reducible rfl | (simp only [h5, lb_f, Int64.or_zero, Int32.add_zero, nB_t, nB_f, Bool.not_true, Bool.not_false, Bool.and_true, Bool.true_and, Bool.false_and, Bool.and_false, Bool.or_true, Bool.true_or, Bool.false_or, Bool.or_false, cond_true, cond_false]; done) | rfl) rfl
        refine zq_if hc hH (by rfl) (tg := 100) (by rfl) (fun h6 => ?_) (fun h6 => ?_)
        · have h6 : (hb3) = false := nB_z.mp (cm_eq9.mp h6)
          refine z_rcs hc hH 1 (pc' := 102) (lv' := [(5, .int (bif decide ((μ.1 15 3) = 1) then (2 : Int32) else 8)), (4, .int 3), (3, .int x3), (0, .ref 14), (1, .int cc), (2, .int (nB fl))]) (st' := [.int (bif decide ((μ.1 15 3) = 1) then (2 : Int32) else 8)]) (μ' := μ) (by rfl) ?_
          exact zJ hJ3 rfl (by first | with_reducible rfl | (simp only [h6, lb_f, Int64.or_zero, Int32.add_zero, nB_t, nB_f, Bool.not_true, Bool.not_false, Bool.and_true, Bool.true_and, Bool.false_and, Bool.and_false, Bool.or_true, Bool.true_or, Bool.false_or, Bool.or_false, cond_true, cond_false]; done) | rfl) rfl
        · have h6 : (hb3) = true := nB_n.mp (cn_eq.mp h6)
          refine z_rcs hc hH 4 (pc' := 102) (lv' := [(5, .int (bif decide ((μ.1 15 3) = 1) then (2 : Int32) else 8)), (4, .int 3), (3, .int x3), (0, .ref 14), (1, .int cc), (2, .int (nB fl))]) (st' := [.int (2 * (bif decide ((μ.1 15 3) = 1) then (2 : Int32) else 8))]) (μ' := μ) (by rfl) ?_
          exact zJ hJ3 rfl (by first | with_reducible rfl | (simp only [h6, lb_f, Int64.or_zero, Int32.add_zero, nB_t, nB_f, Bool.not_true, Bool.not_false, Bool.and_true, Bool.true_and, Bool.false_and, Bool.and_false, Bool.or_true, Bool.true_or, Bool.false_or, Bool.or_false, cond_true, cond_false]; done) | rfl) rfl
      refine zq_ic hc hH (by rfl) (tg := 79) (by rfl) (fun h7 => ?_) (fun h7 => ?_)
      · have h7 : (decide ((μ.1 15 3) = 1)) = false := decide_eq_false (cm_ne.mp h7)
        refine z_rcs hc hH 1 (pc' := 81) (lv' := [(4, .int 3), (3, .int x3), (5, .int x5), (0, .ref 14), (1, .int cc), (2, .int (nB fl))]) (st' := [.int 8]) (μ' := μ) (by rfl) ?_
        exact zJ hJ2 rfl (by first | with_reducible rfl | (simp only [h7, lb_f, Int64.or_zero, Int32.add_zero, nB_t, nB_f, Bool.not_true, Bool.not_false, Bool.and_true, Bool.true_and, Bool.false_and, Bool.and_false, Bool.or_true, Bool.true_or, Bool.false_or, Bool.or_false, cond_true, cond_false]; done) | rfl) rfl
      · have h7 : (decide ((μ.1 15 3) = 1)) = true := decide_eq_true (cn_ne.mp h7)
        refine z_rcs hc hH 2 (pc' := 81) (lv' := [(4, .int 3), (3, .int x3), (5, .int x5), (0, .ref 14), (1, .int cc), (2, .int (nB fl))]) (st' := [.int 2]) (μ' := μ) (by rfl) ?_
        exact zJ hJ2 rfl (by first | with_reducible rfl | (simp only [h7, lb_f, Int64.or_zero, Int32.add_zero, nB_t, nB_f, Bool.not_true, Bool.not_false, Bool.and_true, Bool.true_and, Bool.false_and, Bool.and_false, Bool.or_true, Bool.true_or, Bool.false_or, Bool.or_false, cond_true, cond_false]; done) | rfl) rfl
noncomputable def fuE (μ : zM) (x3 : Int32) : Int32 := bif decide ((μ.1 14 8) = 0) then ((x3 + 9) / 10) * 10 else if (30 : Int32) < (((x3 + 9) / 10) * 10) then ((x3 + 9) / 10) * 10 else 30
theorem fu2A (d' : Nat) (Z : zK) (hd : 2 ≤ d') (μ : zM) (fl : Bool) (cc wf : Int32) (hwf : ∀ d, 1 ≤ d → z_C d mi_X1_waitFu [.ref 14, .int cc] μ (zR μ (.int wf))) (hb0 : Bool) (hhd0 : ∀ d, 1 ≤ d → z_C d mi_X1_isHidden [.ref 14, .int 0, .int cc] μ (zR μ (.int (nB hb0)))) (hb1 : Bool) (hhd1 : ∀ d, 1 ≤ d → z_C d mi_X1_isHidden [.ref 14, .int 1, .int cc] μ (zR μ (.int (nB hb1)))) (hb2 : Bool) (hhd2 : ∀ d, 1 ≤ d → z_C d mi_X1_isHidden [.ref 14, .int 2, .int cc] μ (zR μ (.int (nB hb2)))) (hb3 : Bool) (hhd3 : ∀ d, 1 ≤ d → z_C d mi_X1_isHidden [.ref 14, .int 3, .int cc] μ (zR μ (.int (nB hb3)))) (hc : z_clo z_x0 mi_X1_fuOf (z_C d') Z) (x3 : Int32) (hr : z_ret mi_X1_fuOf (zR μ (.int (fuE μ x3))) Z) : Z 0 48 [(4, .int 4), (3, .int x3), (0, .ref 14), (1, .int cc), (2, .int (nB fl))] [] μ := by
  have hH : zH mi_X1_fuOf zt_X1_fuOf 79 1 6 := hh_X1_fuOf
  refine z_rcs hc hH 13 (pc' := 153) (lv' := [(3, .int (((x3 + 9) / 10) * 10)), (4, .int 4), (0, .ref 14), (1, .int cc), (2, .int (nB fl))]) (st' := [.int (μ.1 14 8)]) (μ' := μ) (by rfl) ?_
  have hJ1 : Z 0 166 [(3, .int (((x3 + 9) / 10) * 10)), (4, .int 4), (0, .ref 14), (1, .int cc), (2, .int (nB fl))] [.int (bif decide ((μ.1 14 8) = 0) then ((x3 + 9) / 10) * 10 else if 30 < (((x3 + 9) / 10) * 10) then ((x3 + 9) / 10) * 10 else 30)] μ := by
    exact hr 0 166 _ _ _ (some (.int (bif decide ((μ.1 14 8) = 0) then ((x3 + 9) / 10) * 10 else if 30 < (((x3 + 9) / 10) * 10) then ((x3 + 9) / 10) * 10 else 30))) (by decide +kernel) (z_rx_ok hH (by rfl)) (⟨rfl, rfl⟩)
  refine zq_if hc hH (by rfl) (tg := 165) (by rfl) (fun h2 => ?_) (fun h2 => ?_)
  · have h2 : (decide ((μ.1 14 8) = 0)) = true := decide_eq_true (cm_eq9.mp h2)
    refine z_rcs hc hH 1 (pc' := 166) (lv' := [(3, .int (((x3 + 9) / 10) * 10)), (4, .int 4), (0, .ref 14), (1, .int cc), (2, .int (nB fl))]) (st' := [.int (((x3 + 9) / 10) * 10)]) (μ' := μ) (by rfl) ?_
    exact zJ hJ1 rfl (by first | with_reducible rfl | (simp only [h2, lb_f, Int64.or_zero, Int32.add_zero, nB_t, nB_f, Bool.not_true, Bool.not_false, Bool.and_true, Bool.true_and, Bool.false_and, Bool.and_false, Bool.or_true, Bool.true_or, Bool.false_or, Bool.or_false, cond_true, cond_false]; done) | rfl) rfl
  · have h2 : (decide ((μ.1 14 8) = 0)) = false := decide_eq_false (cn_eq.mp h2)
    refine z_rcs hc hH 4 (pc' := 166) (lv' := [(3, .int (((x3 + 9) / 10) * 10)), (4, .int 4), (0, .ref 14), (1, .int cc), (2, .int (nB fl))]) (st' := [.int (if 30 < (((x3 + 9) / 10) * 10) then ((x3 + 9) / 10) * 10 else 30)]) (μ' := μ) (by rfl) ?_
    exact zJ hJ1 rfl (by first | with_reducible rfl | (simp only [h2, lb_f, Int64.or_zero, Int32.add_zero, nB_t, nB_f, Bool.not_true, Bool.not_false, Bool.and_true, Bool.true_and, Bool.false_and, Bool.and_false, Bool.or_true, Bool.true_or, Bool.false_or, Bool.or_false, cond_true, cond_false]; done) | rfl) rfl
theorem fu2B (d' : Nat) (Z : zK) (hd : 2 ≤ d') (μ : zM) (fl : Bool) (cc wf : Int32) (hwf : ∀ d, 1 ≤ d → z_C d mi_X1_waitFu [.ref 14, .int cc] μ (zR μ (.int wf))) (hb0 : Bool) (hhd0 : ∀ d, 1 ≤ d → z_C d mi_X1_isHidden [.ref 14, .int 0, .int cc] μ (zR μ (.int (nB hb0)))) (hb1 : Bool) (hhd1 : ∀ d, 1 ≤ d → z_C d mi_X1_isHidden [.ref 14, .int 1, .int cc] μ (zR μ (.int (nB hb1)))) (hb2 : Bool) (hhd2 : ∀ d, 1 ≤ d → z_C d mi_X1_isHidden [.ref 14, .int 2, .int cc] μ (zR μ (.int (nB hb2)))) (hb3 : Bool) (hhd3 : ∀ d, 1 ≤ d → z_C d mi_X1_isHidden [.ref 14, .int 3, .int cc] μ (zR μ (.int (nB hb3)))) (hc : z_clo z_x0 mi_X1_fuOf (z_C d') Z) (x3 x5 : Int32) (hr : z_ret mi_X1_fuOf (zR μ (.int (fuE μ x3))) Z) : Z 0 48 [(4, .int 4), (3, .int x3), (5, .int x5), (0, .ref 14), (1, .int cc), (2, .int (nB fl))] [] μ := by
  have hH : zH mi_X1_fuOf zt_X1_fuOf 79 1 6 := hh_X1_fuOf
  refine z_rcs hc hH 13 (pc' := 153) (lv' := [(3, .int (((x3 + 9) / 10) * 10)), (4, .int 4), (5, .int x5), (0, .ref 14), (1, .int cc), (2, .int (nB fl))]) (st' := [.int (μ.1 14 8)]) (μ' := μ) (by rfl) ?_
  have hJ1 : Z 0 166 [(3, .int (((x3 + 9) / 10) * 10)), (4, .int 4), (5, .int x5), (0, .ref 14), (1, .int cc), (2, .int (nB fl))] [.int (bif decide ((μ.1 14 8) = 0) then ((x3 + 9) / 10) * 10 else if 30 < (((x3 + 9) / 10) * 10) then ((x3 + 9) / 10) * 10 else 30)] μ := by
    exact hr 0 166 _ _ _ (some (.int (bif decide ((μ.1 14 8) = 0) then ((x3 + 9) / 10) * 10 else if 30 < (((x3 + 9) / 10) * 10) then ((x3 + 9) / 10) * 10 else 30))) (by decide +kernel) (z_rx_ok hH (by rfl)) (⟨rfl, rfl⟩)
  refine zq_if hc hH (by rfl) (tg := 165) (by rfl) (fun h2 => ?_) (fun h2 => ?_)
  · have h2 : (decide ((μ.1 14 8) = 0)) = true := decide_eq_true (cm_eq9.mp h2)
    refine z_rcs hc hH 1 (pc' := 166) (lv' := [(3, .int (((x3 + 9) / 10) * 10)), (4, .int 4), (5, .int x5), (0, .ref 14), (1, .int cc), (2, .int (nB fl))]) (st' := [.int (((x3 + 9) / 10) * 10)]) (μ' := μ) (by rfl) ?_
    exact zJ hJ1 rfl (by first | with_reducible rfl | (simp only [h2, lb_f, Int64.or_zero, Int32.add_zero, nB_t, nB_f, Bool.not_true, Bool.not_false, Bool.and_true, Bool.true_and, Bool.false_and, Bool.and_false, Bool.or_true, Bool.true_or, Bool.false_or, Bool.or_false, cond_true, cond_false]; done) | rfl) rfl
  · have h2 : (decide ((μ.1 14 8) = 0)) = false := decide_eq_false (cn_eq.mp h2)
    refine z_rcs hc hH 4 (pc' := 166) (lv' := [(3, .int (((x3 + 9) / 10) * 10)), (4, .int 4), (5, .int x5), (0, .ref 14), (1, .int cc), (2, .int (nB fl))]) (st' := [.int (if 30 < (((x3 + 9) / 10) * 10) then ((x3 + 9) / 10) * 10 else 30)]) (μ' := μ) (by rfl) ?_
    exact zJ hJ1 rfl (by first | with_reducible rfl | (simp only [h2, lb_f, Int64.or_zero, Int32.add_zero, nB_t, nB_f, Bool.not_true, Bool.not_false, Bool.and_true, Bool.true_and, Bool.false_and, Bool.and_false, Bool.or_true, Bool.true_or, Bool.false_or, Bool.or_false, cond_true, cond_false]; done) | rfl) rfl
noncomputable def fuC (μ : zM) (fl : Bool) (wf : Int32) (hb0 hb1 hb2 hb3 : Bool) : Int32 := fuE μ (fuI hb3 (μ.1 15 3) (μ.1 16 3) (fuI hb2 (μ.1 15 2) (μ.1 16 2) (fuI hb1 (μ.1 15 1) (μ.1 16 1) (fuI hb0 (μ.1 15 0) (μ.1 16 0) (fuS μ wf fl)))))
theorem fb_X1_fuOf (d : Nat) (hd : 3 ≤ d) (μ : zM) (fl : Bool) (cc wf : Int32) (hwf : ∀ d, 1 ≤ d → z_C d mi_X1_waitFu [.ref 14, .int cc] μ (zR μ (.int wf))) (hb0 : Bool) (hhd0 : ∀ d, 1 ≤ d → z_C d mi_X1_isHidden [.ref 14, .int 0, .int cc] μ (zR μ (.int (nB hb0)))) (hb1 : Bool) (hhd1 : ∀ d, 1 ≤ d → z_C d mi_X1_isHidden [.ref 14, .int 1, .int cc] μ (zR μ (.int (nB hb1)))) (hb2 : Bool) (hhd2 : ∀ d, 1 ≤ d → z_C d mi_X1_isHidden [.ref 14, .int 2, .int cc] μ (zR μ (.int (nB hb2)))) (hb3 : Bool) (hhd3 : ∀ d, 1 ≤ d → z_C d mi_X1_isHidden [.ref 14, .int 3, .int cc] μ (zR μ (.int (nB hb3)))) : z_C d mi_X1_fuOf [.ref 14, .int cc, .int (nB fl)] μ (zR μ (.int (fuC μ fl wf hb0 hb1 hb2 hb3))) := by
  refine z_C_in (by decide) (by omega) (fun d' Z ed hc hr => ?_)
  exact fu0 d' Z (by omega) μ fl cc wf hwf hb0 hhd0 hb1 hhd1 hb2 hhd2 hb3 hhd3 hc (fu1_0 d' Z (by omega) μ fl cc wf hwf hb0 hhd0 hb1 hhd1 hb2 hhd2 hb3 hhd3 hc _ (fu1_1 d' Z (by omega) μ fl cc wf hwf hb0 hhd0 hb1 hhd1 hb2 hhd2 hb3 hhd3 hc _ (fu1_2 d' Z (by omega) μ fl cc wf hwf hb0 hhd0 hb1 hhd1 hb2 hhd2 hb3 hhd3 hc _ (fu1_3 d' Z (by omega) μ fl cc wf hwf hb0 hhd0 hb1 hhd1 hb2 hhd2 hb3 hhd3 hc _ ⟨fu2A d' Z (by omega) μ fl cc wf hwf hb0 hhd0 hb1 hhd1 hb2 hhd2 hb3 hhd3 hc _ hr, fun x5 => fu2B d' Z (by omega) μ fl cc wf hwf hb0 hhd0 hb1 hhd1 hb2 hhd2 hb3 hhd3 hc _ x5 hr⟩)))).1
theorem fb_X1_setForms (d : Nat) (hd : 2 ≤ d) (μ : zM) : z_C d mi_X1_setForms [.ref 14] μ (zR μ (.long (((((((((((((((((μ.2.1 14 17) &&& 15032385536).toUInt64 >>> ((31 : Int32).toInt64.toUInt64 &&& Int64.toUInt64 63)).toInt64) <<< ((11 : Int32).toInt64 &&& 63)) ||| (lb (xHd (μ.2.1 14 17) (μ.1 14 9)) 14)) ||| (lb (xHd (μ.2.1 14 17) (μ.1 14 10)) 15)) ||| (lb (!(decide ((lg_cmp ((((μ.2.1 14 16) &&& (((μ.2.1 14 16).toUInt64 >>> ((9 : Int32).toInt64.toUInt64 &&& Int64.toUInt64 63)).toInt64)) &&& (((μ.2.1 14 16).toUInt64 >>> ((18 : Int32).toInt64.toUInt64 &&& Int64.toUInt64 63)).toInt64)) &&& 511) 0) = 0))) 17)) ||| (lb (((decide ((lg_cmp ((((μ.2.1 14 16).toUInt64 >>> ((0 : Int32).toInt64.toUInt64 &&& Int64.toUInt64 63)).toInt64) &&& 73) 73) = 0)) || (decide ((lg_cmp ((((μ.2.1 14 16).toUInt64 >>> ((9 : Int32).toInt64.toUInt64 &&& Int64.toUInt64 63)).toInt64) &&& 73) 73) = 0))) || (decide ((lg_cmp ((((μ.2.1 14 16).toUInt64 >>> ((18 : Int32).toInt64.toUInt64 &&& Int64.toUInt64 63)).toInt64) &&& 73) 73) = 0))) 18)) ||| (lb (decide ((lg_cmp (μ.2.1 14 16) 0) = 0)) 19)) ||| (lb (decide (((((0 + (nB ((decide ((μ.1 15 0) = 2)) || (decide ((μ.1 15 0) = 3))))) + (nB ((decide ((μ.1 15 1) = 2)) || (decide ((μ.1 15 1) = 3))))) + (nB ((decide ((μ.1 15 2) = 2)) || (decide ((μ.1 15 2) = 3))))) + (nB ((decide ((μ.1 15 3) = 2)) || (decide ((μ.1 15 3) = 3))))) = 3)) 21)) ||| (lb (!(decide ((lg_cmp ((((μ.2.1 14 17) &&& (((μ.2.1 14 17).toUInt64 >>> ((9 : Int32).toInt64.toUInt64 &&& Int64.toUInt64 63)).toInt64)) &&& (((μ.2.1 14 17).toUInt64 >>> ((18 : Int32).toInt64.toUInt64 &&& Int64.toUInt64 63)).toInt64)) &&& 511) 0) = 0))) 22)) ||| (lb ((decide ((xBc ((μ.2.1 14 17) &&& 15032385536)) = 2)) && (xHd 15032385536 (μ.1 14 15))) 25)) ||| (lb (decide ((xBc ((μ.2.1 14 17) &&& 15032385536)) = 3)) 34)) ||| (lb ((decide ((xBc ((μ.2.1 14 17) &&& 2013265920)) = 3)) && (xHd 2013265920 (μ.1 14 15))) 35)) ||| (lb (decide ((xBc ((μ.2.1 14 17) &&& 2013265920)) = 4)) 36)) ||| (lb (decide (((((0 + (nB ((decide ((μ.1 15 0) = 2)) || (decide ((μ.1 15 0) = 3))))) + (nB ((decide ((μ.1 15 1) = 2)) || (decide ((μ.1 15 1) = 3))))) + (nB ((decide ((μ.1 15 2) = 2)) || (decide ((μ.1 15 2) = 3))))) + (nB ((decide ((μ.1 15 3) = 2)) || (decide ((μ.1 15 3) = 3))))) = 4)) 41)))) := by
  refine z_C_in (by decide) (by omega) (fun d' Z ed hc hr => ?_)
  have hH : zH mi_X1_setForms zt_X1_setForms 79 1 5 := hh_X1_setForms
  refine z_rcs hc hH 13 (pc' := 17) (lv' := [(3, .int 0), (2, .int 0), (1, .int 0), (0, .ref 14)]) (st' := [.int 0, .ref 15, .int 0]) (μ' := μ) (by rfl) ?_
  refine zq_iald hc hH (by rfl) 4 (by decide +kernel) (show vp_in (nI 0) 4 from vp_in_nI (by decide) (by decide)) ?_
  show Z 0 18 [(3, .int 0), (2, .int 0), (1, .int 0), (0, .ref 14)] [.int (μ.1 15 0), .int 0] μ
  refine z_rcs hc hH 1 (pc' := 19) (lv' := [(3, .int 0), (2, .int 0), (1, .int 0), (0, .ref 14)]) (st' := [.int 2, .int (μ.1 15 0), .int 0]) (μ' := μ) (by rfl) ?_
  have hJ1 : Z 0 37 [(3, .int 0), (2, .int 0), (1, .int 0), (0, .ref 14)] [.int (nB ((decide ((μ.1 15 0) = 2)) || (decide ((μ.1 15 0) = 3)))), .int 0] μ := by
    refine z_rcs hc hH 11 (pc' := 17) (lv' := [(3, .int 1), (1, .int (0 + (nB ((decide ((μ.1 15 0) = 2)) || (decide ((μ.1 15 0) = 3)))))), (2, .int 0), (0, .ref 14)]) (st' := [.int 1, .ref 15, .int (0 + (nB ((decide ((μ.1 15 0) = 2)) || (decide ((μ.1 15 0) = 3)))))]) (μ' := μ) (by rfl) ?_
    refine zq_iald hc hH (by rfl) 4 (by decide +kernel) (show vp_in (nI 1) 4 from vp_in_nI (by decide) (by decide)) ?_
    show Z 0 18 [(3, .int 1), (1, .int (0 + (nB ((decide ((μ.1 15 0) = 2)) || (decide ((μ.1 15 0) = 3)))))), (2, .int 0), (0, .ref 14)] [.int (μ.1 15 1), .int (0 + (nB ((decide ((μ.1 15 0) = 2)) || (decide ((μ.1 15 0) = 3)))))] μ
    refine z_rcs hc hH 1 (pc' := 19) (lv' := [(3, .int 1), (1, .int (0 + (nB ((decide ((μ.1 15 0) = 2)) || (decide ((μ.1 15 0) = 3)))))), (2, .int 0), (0, .ref 14)]) (st' := [.int 2, .int (μ.1 15 1), .int (0 + (nB ((decide ((μ.1 15 0) = 2)) || (decide ((μ.1 15 0) = 3)))))]) (μ' := μ) (by rfl) ?_
    have hJ2 : Z 0 37 [(3, .int 1), (1, .int (0 + (nB ((decide ((μ.1 15 0) = 2)) || (decide ((μ.1 15 0) = 3)))))), (2, .int 0), (0, .ref 14)] [.int (nB ((decide ((μ.1 15 1) = 2)) || (decide ((μ.1 15 1) = 3)))), .int (0 + (nB ((decide ((μ.1 15 0) = 2)) || (decide ((μ.1 15 0) = 3)))))] μ := by
      refine z_rcs hc hH 11 (pc' := 17) (lv' := [(3, .int 2), (1, .int ((0 + (nB ((decide ((μ.1 15 0) = 2)) || (decide ((μ.1 15 0) = 3))))) + (nB ((decide ((μ.1 15 1) = 2)) || (decide ((μ.1 15 1) = 3)))))), (2, .int 0), (0, .ref 14)]) (st' := [.int 2, .ref 15, .int ((0 + (nB ((decide ((μ.1 15 0) = 2)) || (decide ((μ.1 15 0) = 3))))) + (nB ((decide ((μ.1 15 1) = 2)) || (decide ((μ.1 15 1) = 3)))))]) (μ' := μ) (by rfl) ?_
      refine zq_iald hc hH (by rfl) 4 (by decide +kernel) (show vp_in (nI 2) 4 from vp_in_nI (by decide) (by decide)) ?_
      show Z 0 18 [(3, .int 2), (1, .int ((0 + (nB ((decide ((μ.1 15 0) = 2)) || (decide ((μ.1 15 0) = 3))))) + (nB ((decide ((μ.1 15 1) = 2)) || (decide ((μ.1 15 1) = 3)))))), (2, .int 0), (0, .ref 14)] [.int (μ.1 15 2), .int ((0 + (nB ((decide ((μ.1 15 0) = 2)) || (decide ((μ.1 15 0) = 3))))) + (nB ((decide ((μ.1 15 1) = 2)) || (decide ((μ.1 15 1) = 3)))))] μ
      refine z_rcs hc hH 1 (pc' := 19) (lv' := [(3, .int 2), (1, .int ((0 + (nB ((decide ((μ.1 15 0) = 2)) || (decide ((μ.1 15 0) = 3))))) + (nB ((decide ((μ.1 15 1) = 2)) || (decide ((μ.1 15 1) = 3)))))), (2, .int 0), (0, .ref 14)]) (st' := [.int 2, .int (μ.1 15 2), .int ((0 + (nB ((decide ((μ.1 15 0) = 2)) || (decide ((μ.1 15 0) = 3))))) + (nB ((decide ((μ.1 15 1) = 2)) || (decide ((μ.1 15 1) = 3)))))]) (μ' := μ) (by rfl) ?_
      have hJ3 : Z 0 37 [(3, .int 2), (1, .int ((0 + (nB ((decide ((μ.1 15 0) = 2)) || (decide ((μ.1 15 0) = 3))))) + (nB ((decide ((μ.1 15 1) = 2)) || (decide ((μ.1 15 1) = 3)))))), (2, .int 0), (0, .ref 14)] [.int (nB ((decide ((μ.1 15 2) = 2)) || (decide ((μ.1 15 2) = 3)))), .int ((0 + (nB ((decide ((μ.1 15 0) = 2)) || (decide ((μ.1 15 0) = 3))))) + (nB ((decide ((μ.1 15 1) = 2)) || (decide ((μ.1 15 1) = 3)))))] μ := by
        generalize hyy4 : ((0 + (nB ((decide ((μ.1 15 0) = 2)) || (decide ((μ.1 15 0) = 3))))) + (nB ((decide ((μ.1 15 1) = 2)) || (decide ((μ.1 15 1) = 3)))) : Int32) = yy4
        refine z_rcs hc hH 11 (pc' := 17) (lv' := [(3, .int 3), (1, .int (yy4 + (nB ((decide ((μ.1 15 2) = 2)) || (decide ((μ.1 15 2) = 3)))))), (2, .int 0), (0, .ref 14)]) (st' := [.int 3, .ref 15, .int (yy4 + (nB ((decide ((μ.1 15 2) = 2)) || (decide ((μ.1 15 2) = 3)))))]) (μ' := μ) (by rfl) ?_
        refine zq_iald hc hH (by rfl) 4 (by decide +kernel) (show vp_in (nI 3) 4 from vp_in_nI (by decide) (by decide)) ?_
        show Z 0 18 [(3, .int 3), (1, .int (yy4 + (nB ((decide ((μ.1 15 2) = 2)) || (decide ((μ.1 15 2) = 3)))))), (2, .int 0), (0, .ref 14)] [.int (μ.1 15 3), .int (yy4 + (nB ((decide ((μ.1 15 2) = 2)) || (decide ((μ.1 15 2) = 3)))))] μ
        refine z_rcs hc hH 1 (pc' := 19) (lv' := [(3, .int 3), (1, .int (yy4 + (nB ((decide ((μ.1 15 2) = 2)) || (decide ((μ.1 15 2) = 3)))))), (2, .int 0), (0, .ref 14)]) (st' := [.int 2, .int (μ.1 15 3), .int (yy4 + (nB ((decide ((μ.1 15 2) = 2)) || (decide ((μ.1 15 2) = 3)))))]) (μ' := μ) (by rfl) ?_
        have hJ5 : Z 0 37 [(3, .int 3), (1, .int (yy4 + (nB ((decide ((μ.1 15 2) = 2)) || (decide ((μ.1 15 2) = 3)))))), (2, .int 0), (0, .ref 14)] [.int (nB ((decide ((μ.1 15 3) = 2)) || (decide ((μ.1 15 3) = 3)))), .int (yy4 + (nB ((decide ((μ.1 15 2) = 2)) || (decide ((μ.1 15 2) = 3)))))] μ := by
          refine z_rcs hc hH 24 (pc' := 73) (lv' := [(3, .int 0), (1, .int ((yy4 + (nB ((decide ((μ.1 15 2) = 2)) || (decide ((μ.1 15 2) = 3))))) + (nB ((decide ((μ.1 15 3) = 2)) || (decide ((μ.1 15 3) = 3)))))), (2, .int 0), (0, .ref 14)]) (st' := [.int (lg_cmp ((((μ.2.1 14 16).toUInt64 >>> ((0 : Int32).toInt64.toUInt64 &&& Int64.toUInt64 63)).toInt64) &&& 73) 73)]) (μ' := μ) (by rfl) ?_
          have hJ6 : Z 0 81 [(3, .int 0), (1, .int ((yy4 + (nB ((decide ((μ.1 15 2) = 2)) || (decide ((μ.1 15 2) = 3))))) + (nB ((decide ((μ.1 15 3) = 2)) || (decide ((μ.1 15 3) = 3)))))), (2, .int 0), (0, .ref 14)] [.int (nB (decide ((lg_cmp ((((μ.2.1 14 16).toUInt64 >>> ((0 : Int32).toInt64.toUInt64 &&& Int64.toUInt64 63)).toInt64) &&& 73) 73) = 0)))] μ := by
            generalize hyy7 : ((yy4 + (nB ((decide ((μ.1 15 2) = 2)) || (decide ((μ.1 15 2) = 3))))) + (nB ((decide ((μ.1 15 3) = 2)) || (decide ((μ.1 15 3) = 3)))) : Int32) = yy7
            generalize hee8 : (decide ((lg_cmp ((((μ.2.1 14 16).toUInt64 >>> ((0 : Int32).toInt64.toUInt64 &&& Int64.toUInt64 63)).toInt64) &&& 73) 73) = 0)) = ee8
            refine z_rcs hc hH 7 (pc' := 53) (lv' := [(3, .int 1), (2, .int (nB ee8)), (1, .int yy7), (0, .ref 14)]) (st' := [.int (nB ee8)]) (μ' := μ) (by rfl) ?_
            have hJ9 : Z 0 81 [(3, .int 1), (2, .int (nB ee8)), (1, .int yy7), (0, .ref 14)] [.int (nB (ee8 || (decide ((lg_cmp ((((μ.2.1 14 16).toUInt64 >>> ((9 : Int32).toInt64.toUInt64 &&& Int64.toUInt64 63)).toInt64) &&& 73) 73) = 0))))] μ := by
              generalize hee10 : (ee8 || (decide ((lg_cmp ((((μ.2.1 14 16).toUInt64 >>> ((9 : Int32).toInt64.toUInt64 &&& Int64.toUInt64 63)).toInt64) &&& 73) 73) = 0))) = ee10
              refine z_rcs hc hH 7 (pc' := 53) (lv' := [(3, .int 2), (2, .int (nB ee10)), (1, .int yy7), (0, .ref 14)]) (st' := [.int (nB ee10)]) (μ' := μ) (by rfl) ?_
              have hJ11 : Z 0 81 [(3, .int 2), (2, .int (nB ee10)), (1, .int yy7), (0, .ref 14)] [.int (nB (ee10 || (decide ((lg_cmp ((((μ.2.1 14 16).toUInt64 >>> ((18 : Int32).toInt64.toUInt64 &&& Int64.toUInt64 63)).toInt64) &&& 73) 73) = 0))))] μ := by
                generalize hee12 : (ee10 || (decide ((lg_cmp ((((μ.2.1 14 16).toUInt64 >>> ((18 : Int32).toInt64.toUInt64 &&& Int64.toUInt64 63)).toInt64) &&& 73) 73) = 0))) = ee12
                refine z_rcs hc hH 10 (pc' := 96) (lv' := [(3, .int 3), (2, .int (nB ee12)), (1, .int yy7), (0, .ref 14)]) (st' := [.long ((μ.2.1 14 17) &&& 15032385536)]) (μ' := μ) (by rfl) ?_
                refine zq_call hc (z_cx_ok hH (by rfl)) (fb_bitCount d' (by omega) μ ((μ.2.1 14 17) &&& 15032385536)) (by decide +kernel) (fun r9 μ9 hq => ?_)
                obtain ⟨hμ9, rfl⟩ := hq
                rw [hμ9]
                clear hμ9 μ9
                show Z 0 99 [(3, .int 3), (2, .int (nB ee12)), (1, .int yy7), (0, .ref 14)] [.int (xBc ((μ.2.1 14 17) &&& 15032385536))] μ
                refine z_rcs hc hH 5 (pc' := 108) (lv' := [(3, .int (xBc ((μ.2.1 14 17) &&& 15032385536))), (2, .int (nB ee12)), (1, .int yy7), (0, .ref 14)]) (st' := [.long ((μ.2.1 14 17) &&& 2013265920)]) (μ' := μ) (by rfl) ?_
                refine zq_call hc (z_cx_ok hH (by rfl)) (fb_bitCount d' (by omega) μ ((μ.2.1 14 17) &&& 2013265920)) (by decide +kernel) (fun r9 μ9 hq => ?_)
                obtain ⟨hμ9, rfl⟩ := hq
                rw [hμ9]
                clear hμ9 μ9
                show Z 0 111 [(3, .int (xBc ((μ.2.1 14 17) &&& 15032385536))), (2, .int (nB ee12)), (1, .int yy7), (0, .ref 14)] [.int (xBc ((μ.2.1 14 17) &&& 2013265920))] μ
                refine z_rcs hc hH 13 (pc' := 135) (lv' := [(4, .int (xBc ((μ.2.1 14 17) &&& 2013265920))), (3, .int (xBc ((μ.2.1 14 17) &&& 15032385536))), (2, .int (nB ee12)), (1, .int yy7), (0, .ref 14)]) (st' := [.int (μ.1 14 9), .long (μ.2.1 14 17), .long (((((μ.2.1 14 17) &&& 15032385536).toUInt64 >>> ((31 : Int32).toInt64.toUInt64 &&& Int64.toUInt64 63)).toInt64) <<< ((11 : Int32).toInt64 &&& 63))]) (μ' := μ) (by rfl) ?_
                refine zq_call hc (z_cx_ok hH (by rfl)) (fb_X6_holds d' (by omega) μ (μ.2.1 14 17) (μ.1 14 9)) (by decide +kernel) (fun r9 μ9 hq => ?_)
                obtain ⟨hμ9, rfl⟩ := hq
                rw [hμ9]
                clear hμ9 μ9
                show Z 0 138 [(4, .int (xBc ((μ.2.1 14 17) &&& 2013265920))), (3, .int (xBc ((μ.2.1 14 17) &&& 15032385536))), (2, .int (nB ee12)), (1, .int yy7), (0, .ref 14)] [.int (nB (xHd (μ.2.1 14 17) (μ.1 14 9))), .long (((((μ.2.1 14 17) &&& 15032385536).toUInt64 >>> ((31 : Int32).toInt64.toUInt64 &&& Int64.toUInt64 63)).toInt64) <<< ((11 : Int32).toInt64 &&& 63))] μ
                refine z_rcs hc hH 1 (pc' := 140) (lv' := [(4, .int (xBc ((μ.2.1 14 17) &&& 2013265920))), (3, .int (xBc ((μ.2.1 14 17) &&& 15032385536))), (2, .int (nB ee12)), (1, .int yy7), (0, .ref 14)]) (st' := [.int 14, .int (nB (xHd (μ.2.1 14 17) (μ.1 14 9))), .long (((((μ.2.1 14 17) &&& 15032385536).toUInt64 >>> ((31 : Int32).toInt64.toUInt64 &&& Int64.toUInt64 63)).toInt64) <<< ((11 : Int32).toInt64 &&& 63))]) (μ' := μ) (by rfl) ?_
                refine zq_call hc (z_cx_ok hH (by rfl)) (fb_X1_bit d' (by omega) μ (xHd (μ.2.1 14 17) (μ.1 14 9)) 14) (by decide +kernel) (fun r9 μ9 hq => ?_)
                obtain ⟨hμ9, rfl⟩ := hq
                rw [hμ9]
                clear hμ9 μ9
                show Z 0 143 [(4, .int (xBc ((μ.2.1 14 17) &&& 2013265920))), (3, .int (xBc ((μ.2.1 14 17) &&& 15032385536))), (2, .int (nB ee12)), (1, .int yy7), (0, .ref 14)] [.long (lb (xHd (μ.2.1 14 17) (μ.1 14 9)) 14), .long (((((μ.2.1 14 17) &&& 15032385536).toUInt64 >>> ((31 : Int32).toInt64.toUInt64 &&& Int64.toUInt64 63)).toInt64) <<< ((11 : Int32).toInt64 &&& 63))] μ
                refine z_rcs hc hH 5 (pc' := 152) (lv' := [(4, .int (xBc ((μ.2.1 14 17) &&& 2013265920))), (3, .int (xBc ((μ.2.1 14 17) &&& 15032385536))), (2, .int (nB ee12)), (1, .int yy7), (0, .ref 14)]) (st' := [.int (μ.1 14 10), .long (μ.2.1 14 17), .long ((((((μ.2.1 14 17) &&& 15032385536).toUInt64 >>> ((31 : Int32).toInt64.toUInt64 &&& Int64.toUInt64 63)).toInt64) <<< ((11 : Int32).toInt64 &&& 63)) ||| (lb (xHd (μ.2.1 14 17) (μ.1 14 9)) 14))]) (μ' := μ) (by rfl) ?_
                refine zq_call hc (z_cx_ok hH (by rfl)) (fb_X6_holds d' (by omega) μ (μ.2.1 14 17) (μ.1 14 10)) (by decide +kernel) (fun r9 μ9 hq => ?_)
                obtain ⟨hμ9, rfl⟩ := hq
                rw [hμ9]
                clear hμ9 μ9
                show Z 0 155 [(4, .int (xBc ((μ.2.1 14 17) &&& 2013265920))), (3, .int (xBc ((μ.2.1 14 17) &&& 15032385536))), (2, .int (nB ee12)), (1, .int yy7), (0, .ref 14)] [.int (nB (xHd (μ.2.1 14 17) (μ.1 14 10))), .long ((((((μ.2.1 14 17) &&& 15032385536).toUInt64 >>> ((31 : Int32).toInt64.toUInt64 &&& Int64.toUInt64 63)).toInt64) <<< ((11 : Int32).toInt64 &&& 63)) ||| (lb (xHd (μ.2.1 14 17) (μ.1 14 9)) 14))] μ
                refine z_rcs hc hH 1 (pc' := 157) (lv' := [(4, .int (xBc ((μ.2.1 14 17) &&& 2013265920))), (3, .int (xBc ((μ.2.1 14 17) &&& 15032385536))), (2, .int (nB ee12)), (1, .int yy7), (0, .ref 14)]) (st' := [.int 15, .int (nB (xHd (μ.2.1 14 17) (μ.1 14 10))), .long ((((((μ.2.1 14 17) &&& 15032385536).toUInt64 >>> ((31 : Int32).toInt64.toUInt64 &&& Int64.toUInt64 63)).toInt64) <<< ((11 : Int32).toInt64 &&& 63)) ||| (lb (xHd (μ.2.1 14 17) (μ.1 14 9)) 14))]) (μ' := μ) (by rfl) ?_
                refine zq_call hc (z_cx_ok hH (by rfl)) (fb_X1_bit d' (by omega) μ (xHd (μ.2.1 14 17) (μ.1 14 10)) 15) (by decide +kernel) (fun r9 μ9 hq => ?_)
                obtain ⟨hμ9, rfl⟩ := hq
                rw [hμ9]
                clear hμ9 μ9
                show Z 0 160 [(4, .int (xBc ((μ.2.1 14 17) &&& 2013265920))), (3, .int (xBc ((μ.2.1 14 17) &&& 15032385536))), (2, .int (nB ee12)), (1, .int yy7), (0, .ref 14)] [.long (lb (xHd (μ.2.1 14 17) (μ.1 14 10)) 15), .long ((((((μ.2.1 14 17) &&& 15032385536).toUInt64 >>> ((31 : Int32).toInt64.toUInt64 &&& Int64.toUInt64 63)).toInt64) <<< ((11 : Int32).toInt64 &&& 63)) ||| (lb (xHd (μ.2.1 14 17) (μ.1 14 9)) 14))] μ
                refine z_rcs hc hH 17 (pc' := 187) (lv' := [(4, .int (xBc ((μ.2.1 14 17) &&& 2013265920))), (3, .int (xBc ((μ.2.1 14 17) &&& 15032385536))), (2, .int (nB ee12)), (1, .int yy7), (0, .ref 14)]) (st' := [.int (lg_cmp ((((μ.2.1 14 16) &&& (((μ.2.1 14 16).toUInt64 >>> ((9 : Int32).toInt64.toUInt64 &&& Int64.toUInt64 63)).toInt64)) &&& (((μ.2.1 14 16).toUInt64 >>> ((18 : Int32).toInt64.toUInt64 &&& Int64.toUInt64 63)).toInt64)) &&& 511) 0), .long (((((((μ.2.1 14 17) &&& 15032385536).toUInt64 >>> ((31 : Int32).toInt64.toUInt64 &&& Int64.toUInt64 63)).toInt64) <<< ((11 : Int32).toInt64 &&& 63)) ||| (lb (xHd (μ.2.1 14 17) (μ.1 14 9)) 14)) ||| (lb (xHd (μ.2.1 14 17) (μ.1 14 10)) 15))]) (μ' := μ) (by rfl) ?_
                have hJ13 : Z 0 195 [(4, .int (xBc ((μ.2.1 14 17) &&& 2013265920))), (3, .int (xBc ((μ.2.1 14 17) &&& 15032385536))), (2, .int (nB ee12)), (1, .int yy7), (0, .ref 14)] [.int (nB (!(decide ((lg_cmp ((((μ.2.1 14 16) &&& (((μ.2.1 14 16).toUInt64 >>> ((9 : Int32).toInt64.toUInt64 &&& Int64.toUInt64 63)).toInt64)) &&& (((μ.2.1 14 16).toUInt64 >>> ((18 : Int32).toInt64.toUInt64 &&& Int64.toUInt64 63)).toInt64)) &&& 511) 0) = 0)))), .long (((((((μ.2.1 14 17) &&& 15032385536).toUInt64 >>> ((31 : Int32).toInt64.toUInt64 &&& Int64.toUInt64 63)).toInt64) <<< ((11 : Int32).toInt64 &&& 63)) ||| (lb (xHd (μ.2.1 14 17) (μ.1 14 9)) 14)) ||| (lb (xHd (μ.2.1 14 17) (μ.1 14 10)) 15))] μ := by
                  generalize hee14 : (!(decide ((lg_cmp ((((μ.2.1 14 16) &&& (((μ.2.1 14 16).toUInt64 >>> ((9 : Int32).toInt64.toUInt64 &&& Int64.toUInt64 63)).toInt64)) &&& (((μ.2.1 14 16).toUInt64 >>> ((18 : Int32).toInt64.toUInt64 &&& Int64.toUInt64 63)).toInt64)) &&& 511) 0) = 0))) = ee14
                  generalize hyy15 : (((((((μ.2.1 14 17) &&& 15032385536).toUInt64 >>> ((31 : Int32).toInt64.toUInt64 &&& Int64.toUInt64 63)).toInt64) <<< ((11 : Int32).toInt64 &&& 63)) ||| (lb (xHd (μ.2.1 14 17) (μ.1 14 9)) 14)) ||| (lb (xHd (μ.2.1 14 17) (μ.1 14 10)) 15) : Int64) = yy15
                  refine z_rcs hc hH 1 (pc' := 197) (lv' := [(4, .int (xBc ((μ.2.1 14 17) &&& 2013265920))), (3, .int (xBc ((μ.2.1 14 17) &&& 15032385536))), (2, .int (nB ee12)), (1, .int yy7), (0, .ref 14)]) (st' := [.int 17, .int (nB ee14), .long yy15]) (μ' := μ) (by rfl) ?_
                  refine zq_call hc (z_cx_ok hH (by rfl)) (fb_X1_bit d' (by omega) μ ee14 17) (by decide +kernel) (fun r9 μ9 hq => ?_)
                  obtain ⟨hμ9, rfl⟩ := hq
                  rw [hμ9]
                  clear hμ9 μ9
                  show Z 0 200 [(4, .int (xBc ((μ.2.1 14 17) &&& 2013265920))), (3, .int (xBc ((μ.2.1 14 17) &&& 15032385536))), (2, .int (nB ee12)), (1, .int yy7), (0, .ref 14)] [.long (lb ee14 17), .long yy15] μ
                  refine z_rcs hc hH 3 (pc' := 204) (lv' := [(4, .int (xBc ((μ.2.1 14 17) &&& 2013265920))), (3, .int (xBc ((μ.2.1 14 17) &&& 15032385536))), (2, .int (nB ee12)), (1, .int yy7), (0, .ref 14)]) (st' := [.int 18, .int (nB ee12), .long (yy15 ||| (lb ee14 17))]) (μ' := μ) (by rfl) ?_
                  refine zq_call hc (z_cx_ok hH (by rfl)) (fb_X1_bit d' (by omega) μ ee12 18) (by decide +kernel) (fun r9 μ9 hq => ?_)
                  obtain ⟨hμ9, rfl⟩ := hq
                  rw [hμ9]
                  clear hμ9 μ9
                  show Z 0 207 [(4, .int (xBc ((μ.2.1 14 17) &&& 2013265920))), (3, .int (xBc ((μ.2.1 14 17) &&& 15032385536))), (2, .int (nB ee12)), (1, .int yy7), (0, .ref 14)] [.long (lb ee12 18), .long (yy15 ||| (lb ee14 17))] μ
                  refine z_rcs hc hH 5 (pc' := 214) (lv' := [(4, .int (xBc ((μ.2.1 14 17) &&& 2013265920))), (3, .int (xBc ((μ.2.1 14 17) &&& 15032385536))), (2, .int (nB ee12)), (1, .int yy7), (0, .ref 14)]) (st' := [.int (lg_cmp (μ.2.1 14 16) 0), .long ((yy15 ||| (lb ee14 17)) ||| (lb ee12 18))]) (μ' := μ) (by rfl) ?_
                  have hJ16 : Z 0 222 [(4, .int (xBc ((μ.2.1 14 17) &&& 2013265920))), (3, .int (xBc ((μ.2.1 14 17) &&& 15032385536))), (2, .int (nB ee12)), (1, .int yy7), (0, .ref 14)] [.int (nB (decide ((lg_cmp (μ.2.1 14 16) 0) = 0))), .long ((yy15 ||| (lb ee14 17)) ||| (lb ee12 18))] μ := by
                    refine z_rcs hc hH 1 (pc' := 224) (lv' := [(4, .int (xBc ((μ.2.1 14 17) &&& 2013265920))), (3, .int (xBc ((μ.2.1 14 17) &&& 15032385536))), (2, .int (nB ee12)), (1, .int yy7), (0, .ref 14)]) (st' := [.int 19, .int (nB (decide ((lg_cmp (μ.2.1 14 16) 0) = 0))), .long ((yy15 ||| (lb ee14 17)) ||| (lb ee12 18))]) (μ' := μ) (by rfl) ?_
                    refine zq_call hc (z_cx_ok hH (by rfl)) (fb_X1_bit d' (by omega) μ (decide ((lg_cmp (μ.2.1 14 16) 0) = 0)) 19) (by decide +kernel) (fun r9 μ9 hq => ?_)
                    obtain ⟨hμ9, rfl⟩ := hq
                    rw [hμ9]
                    clear hμ9 μ9
                    show Z 0 227 [(4, .int (xBc ((μ.2.1 14 17) &&& 2013265920))), (3, .int (xBc ((μ.2.1 14 17) &&& 15032385536))), (2, .int (nB ee12)), (1, .int yy7), (0, .ref 14)] [.long (lb (decide ((lg_cmp (μ.2.1 14 16) 0) = 0)) 19), .long ((yy15 ||| (lb ee14 17)) ||| (lb ee12 18))] μ
                    refine z_rcs hc hH 3 (pc' := 230) (lv' := [(4, .int (xBc ((μ.2.1 14 17) &&& 2013265920))), (3, .int (xBc ((μ.2.1 14 17) &&& 15032385536))), (2, .int (nB ee12)), (1, .int yy7), (0, .ref 14)]) (st' := [.int 3, .int yy7, .long (((yy15 ||| (lb ee14 17)) ||| (lb ee12 18)) ||| (lb (decide ((lg_cmp (μ.2.1 14 16) 0) = 0)) 19))]) (μ' := μ) (by rfl) ?_
                    have hJ17 : Z 0 238 [(4, .int (xBc ((μ.2.1 14 17) &&& 2013265920))), (3, .int (xBc ((μ.2.1 14 17) &&& 15032385536))), (2, .int (nB ee12)), (1, .int yy7), (0, .ref 14)] [.int (nB (decide (yy7 = 3))), .long (((yy15 ||| (lb ee14 17)) ||| (lb ee12 18)) ||| (lb (decide ((lg_cmp (μ.2.1 14 16) 0) = 0)) 19))] μ := by
                      generalize hyy18 : (((yy15 ||| (lb ee14 17)) ||| (lb ee12 18)) ||| (lb (decide ((lg_cmp (μ.2.1 14 16) 0) = 0)) 19) : Int64) = yy18
                      refine z_rcs hc hH 1 (pc' := 240) (lv' := [(4, .int (xBc ((μ.2.1 14 17) &&& 2013265920))), (3, .int (xBc ((μ.2.1 14 17) &&& 15032385536))), (2, .int (nB ee12)), (1, .int yy7), (0, .ref 14)]) (st' := [.int 21, .int (nB (decide (yy7 = 3))), .long yy18]) (μ' := μ) (by rfl) ?_
                      refine zq_call hc (z_cx_ok hH (by rfl)) (fb_X1_bit d' (by omega) μ (decide (yy7 = 3)) 21) (by decide +kernel) (fun r9 μ9 hq => ?_)
                      obtain ⟨hμ9, rfl⟩ := hq
                      rw [hμ9]
                      clear hμ9 μ9
                      show Z 0 243 [(4, .int (xBc ((μ.2.1 14 17) &&& 2013265920))), (3, .int (xBc ((μ.2.1 14 17) &&& 15032385536))), (2, .int (nB ee12)), (1, .int yy7), (0, .ref 14)] [.long (lb (decide (yy7 = 3)) 21), .long yy18] μ
                      refine z_rcs hc hH 17 (pc' := 270) (lv' := [(4, .int (xBc ((μ.2.1 14 17) &&& 2013265920))), (3, .int (xBc ((μ.2.1 14 17) &&& 15032385536))), (2, .int (nB ee12)), (1, .int yy7), (0, .ref 14)]) (st' := [.int (lg_cmp ((((μ.2.1 14 17) &&& (((μ.2.1 14 17).toUInt64 >>> ((9 : Int32).toInt64.toUInt64 &&& Int64.toUInt64 63)).toInt64)) &&& (((μ.2.1 14 17).toUInt64 >>> ((18 : Int32).toInt64.toUInt64 &&& Int64.toUInt64 63)).toInt64)) &&& 511) 0), .long (yy18 ||| (lb (decide (yy7 = 3)) 21))]) (μ' := μ) (by rfl) ?_
                      have hJ19 : Z 0 278 [(4, .int (xBc ((μ.2.1 14 17) &&& 2013265920))), (3, .int (xBc ((μ.2.1 14 17) &&& 15032385536))), (2, .int (nB ee12)), (1, .int yy7), (0, .ref 14)] [.int (nB (!(decide ((lg_cmp ((((μ.2.1 14 17) &&& (((μ.2.1 14 17).toUInt64 >>> ((9 : Int32).toInt64.toUInt64 &&& Int64.toUInt64 63)).toInt64)) &&& (((μ.2.1 14 17).toUInt64 >>> ((18 : Int32).toInt64.toUInt64 &&& Int64.toUInt64 63)).toInt64)) &&& 511) 0) = 0)))), .long (yy18 ||| (lb (decide (yy7 = 3)) 21))] μ := by
                        generalize hee20 : (!(decide ((lg_cmp ((((μ.2.1 14 17) &&& (((μ.2.1 14 17).toUInt64 >>> ((9 : Int32).toInt64.toUInt64 &&& Int64.toUInt64 63)).toInt64)) &&& (((μ.2.1 14 17).toUInt64 >>> ((18 : Int32).toInt64.toUInt64 &&& Int64.toUInt64 63)).toInt64)) &&& 511) 0) = 0))) = ee20
                        refine z_rcs hc hH 1 (pc' := 280) (lv' := [(4, .int (xBc ((μ.2.1 14 17) &&& 2013265920))), (3, .int (xBc ((μ.2.1 14 17) &&& 15032385536))), (2, .int (nB ee12)), (1, .int yy7), (0, .ref 14)]) (st' := [.int 22, .int (nB ee20), .long (yy18 ||| (lb (decide (yy7 = 3)) 21))]) (μ' := μ) (by rfl) ?_
                        refine zq_call hc (z_cx_ok hH (by rfl)) (fb_X1_bit d' (by omega) μ ee20 22) (by decide +kernel) (fun r9 μ9 hq => ?_)
                        obtain ⟨hμ9, rfl⟩ := hq
                        rw [hμ9]
                        clear hμ9 μ9
                        show Z 0 283 [(4, .int (xBc ((μ.2.1 14 17) &&& 2013265920))), (3, .int (xBc ((μ.2.1 14 17) &&& 15032385536))), (2, .int (nB ee12)), (1, .int yy7), (0, .ref 14)] [.long (lb ee20 22), .long (yy18 ||| (lb (decide (yy7 = 3)) 21))] μ
                        refine z_rcs hc hH 3 (pc' := 286) (lv' := [(4, .int (xBc ((μ.2.1 14 17) &&& 2013265920))), (3, .int (xBc ((μ.2.1 14 17) &&& 15032385536))), (2, .int (nB ee12)), (1, .int yy7), (0, .ref 14)]) (st' := [.int 2, .int (xBc ((μ.2.1 14 17) &&& 15032385536)), .long ((yy18 ||| (lb (decide (yy7 = 3)) 21)) ||| (lb ee20 22))]) (μ' := μ) (by rfl) ?_
                        have hJ21 : Z 0 307 [(4, .int (xBc ((μ.2.1 14 17) &&& 2013265920))), (3, .int (xBc ((μ.2.1 14 17) &&& 15032385536))), (2, .int (nB ee12)), (1, .int yy7), (0, .ref 14)] [.int (nB ((decide ((xBc ((μ.2.1 14 17) &&& 15032385536)) = 2)) && (xHd 15032385536 (μ.1 14 15)))), .long ((yy18 ||| (lb (decide (yy7 = 3)) 21)) ||| (lb ee20 22))] μ := by
                          generalize hee22 : ((decide ((xBc ((μ.2.1 14 17) &&& 15032385536)) = 2)) && (xHd 15032385536 (μ.1 14 15))) = ee22
                          refine z_rcs hc hH 1 (pc' := 309) (lv' := [(4, .int (xBc ((μ.2.1 14 17) &&& 2013265920))), (3, .int (xBc ((μ.2.1 14 17) &&& 15032385536))), (2, .int (nB ee12)), (1, .int yy7), (0, .ref 14)]) (st' := [.int 25, .int (nB ee22), .long ((yy18 ||| (lb (decide (yy7 = 3)) 21)) ||| (lb ee20 22))]) (μ' := μ) (by rfl) ?_
                          refine zq_call hc (z_cx_ok hH (by rfl)) (fb_X1_bit d' (by omega) μ ee22 25) (by decide +kernel) (fun r9 μ9 hq => ?_)
                          obtain ⟨hμ9, rfl⟩ := hq
                          rw [hμ9]
                          clear hμ9 μ9
                          show Z 0 312 [(4, .int (xBc ((μ.2.1 14 17) &&& 2013265920))), (3, .int (xBc ((μ.2.1 14 17) &&& 15032385536))), (2, .int (nB ee12)), (1, .int yy7), (0, .ref 14)] [.long (lb ee22 25), .long ((yy18 ||| (lb (decide (yy7 = 3)) 21)) ||| (lb ee20 22))] μ
                          refine z_rcs hc hH 3 (pc' := 315) (lv' := [(4, .int (xBc ((μ.2.1 14 17) &&& 2013265920))), (3, .int (xBc ((μ.2.1 14 17) &&& 15032385536))), (2, .int (nB ee12)), (1, .int yy7), (0, .ref 14)]) (st' := [.int 3, .int (xBc ((μ.2.1 14 17) &&& 15032385536)), .long (((yy18 ||| (lb (decide (yy7 = 3)) 21)) ||| (lb ee20 22)) ||| (lb ee22 25))]) (μ' := μ) (by rfl) ?_
                          have hJ23 : Z 0 323 [(4, .int (xBc ((μ.2.1 14 17) &&& 2013265920))), (3, .int (xBc ((μ.2.1 14 17) &&& 15032385536))), (2, .int (nB ee12)), (1, .int yy7), (0, .ref 14)] [.int (nB (decide ((xBc ((μ.2.1 14 17) &&& 15032385536)) = 3))), .long (((yy18 ||| (lb (decide (yy7 = 3)) 21)) ||| (lb ee20 22)) ||| (lb ee22 25))] μ := by
                            generalize hyy24 : (((yy18 ||| (lb (decide (yy7 = 3)) 21)) ||| (lb ee20 22)) ||| (lb ee22 25) : Int64) = yy24
                            refine z_rcs hc hH 1 (pc' := 325) (lv' := [(4, .int (xBc ((μ.2.1 14 17) &&& 2013265920))), (3, .int (xBc ((μ.2.1 14 17) &&& 15032385536))), (2, .int (nB ee12)), (1, .int yy7), (0, .ref 14)]) (st' := [.int 34, .int (nB (decide ((xBc ((μ.2.1 14 17) &&& 15032385536)) = 3))), .long yy24]) (μ' := μ) (by rfl) ?_
                            refine zq_call hc (z_cx_ok hH (by rfl)) (fb_X1_bit d' (by omega) μ (decide ((xBc ((μ.2.1 14 17) &&& 15032385536)) = 3)) 34) (by decide +kernel) (fun r9 μ9 hq => ?_)
                            obtain ⟨hμ9, rfl⟩ := hq
                            rw [hμ9]
                            clear hμ9 μ9
                            show Z 0 328 [(4, .int (xBc ((μ.2.1 14 17) &&& 2013265920))), (3, .int (xBc ((μ.2.1 14 17) &&& 15032385536))), (2, .int (nB ee12)), (1, .int yy7), (0, .ref 14)] [.long (lb (decide ((xBc ((μ.2.1 14 17) &&& 15032385536)) = 3)) 34), .long yy24] μ
                            refine z_rcs hc hH 3 (pc' := 332) (lv' := [(4, .int (xBc ((μ.2.1 14 17) &&& 2013265920))), (3, .int (xBc ((μ.2.1 14 17) &&& 15032385536))), (2, .int (nB ee12)), (1, .int yy7), (0, .ref 14)]) (st' := [.int 3, .int (xBc ((μ.2.1 14 17) &&& 2013265920)), .long (yy24 ||| (lb (decide ((xBc ((μ.2.1 14 17) &&& 15032385536)) = 3)) 34))]) (μ' := μ) (by rfl) ?_
                            have hJ25 : Z 0 353 [(4, .int (xBc ((μ.2.1 14 17) &&& 2013265920))), (3, .int (xBc ((μ.2.1 14 17) &&& 15032385536))), (2, .int (nB ee12)), (1, .int yy7), (0, .ref 14)] [.int (nB ((decide ((xBc ((μ.2.1 14 17) &&& 2013265920)) = 3)) && (xHd 2013265920 (μ.1 14 15)))), .long (yy24 ||| (lb (decide ((xBc ((μ.2.1 14 17) &&& 15032385536)) = 3)) 34))] μ := by
                              generalize hee26 : ((decide ((xBc ((μ.2.1 14 17) &&& 2013265920)) = 3)) && (xHd 2013265920 (μ.1 14 15))) = ee26
                              refine z_rcs hc hH 1 (pc' := 355) (lv' := [(4, .int (xBc ((μ.2.1 14 17) &&& 2013265920))), (3, .int (xBc ((μ.2.1 14 17) &&& 15032385536))), (2, .int (nB ee12)), (1, .int yy7), (0, .ref 14)]) (st' := [.int 35, .int (nB ee26), .long (yy24 ||| (lb (decide ((xBc ((μ.2.1 14 17) &&& 15032385536)) = 3)) 34))]) (μ' := μ) (by rfl) ?_
                              refine zq_call hc (z_cx_ok hH (by rfl)) (fb_X1_bit d' (by omega) μ ee26 35) (by decide +kernel) (fun r9 μ9 hq => ?_)
                              obtain ⟨hμ9, rfl⟩ := hq
                              rw [hμ9]
                              clear hμ9 μ9
                              show Z 0 358 [(4, .int (xBc ((μ.2.1 14 17) &&& 2013265920))), (3, .int (xBc ((μ.2.1 14 17) &&& 15032385536))), (2, .int (nB ee12)), (1, .int yy7), (0, .ref 14)] [.long (lb ee26 35), .long (yy24 ||| (lb (decide ((xBc ((μ.2.1 14 17) &&& 15032385536)) = 3)) 34))] μ
                              refine z_rcs hc hH 3 (pc' := 362) (lv' := [(4, .int (xBc ((μ.2.1 14 17) &&& 2013265920))), (3, .int (xBc ((μ.2.1 14 17) &&& 15032385536))), (2, .int (nB ee12)), (1, .int yy7), (0, .ref 14)]) (st' := [.int 4, .int (xBc ((μ.2.1 14 17) &&& 2013265920)), .long ((yy24 ||| (lb (decide ((xBc ((μ.2.1 14 17) &&& 15032385536)) = 3)) 34)) ||| (lb ee26 35))]) (μ' := μ) (by rfl) ?_
                              have hJ27 : Z 0 370 [(4, .int (xBc ((μ.2.1 14 17) &&& 2013265920))), (3, .int (xBc ((μ.2.1 14 17) &&& 15032385536))), (2, .int (nB ee12)), (1, .int yy7), (0, .ref 14)] [.int (nB (decide ((xBc ((μ.2.1 14 17) &&& 2013265920)) = 4))), .long ((yy24 ||| (lb (decide ((xBc ((μ.2.1 14 17) &&& 15032385536)) = 3)) 34)) ||| (lb ee26 35))] μ := by
                                generalize hyy28 : ((yy24 ||| (lb (decide ((xBc ((μ.2.1 14 17) &&& 15032385536)) = 3)) 34)) ||| (lb ee26 35) : Int64) = yy28
                                refine z_rcs hc hH 1 (pc' := 372) (lv' := [(4, .int (xBc ((μ.2.1 14 17) &&& 2013265920))), (3, .int (xBc ((μ.2.1 14 17) &&& 15032385536))), (2, .int (nB ee12)), (1, .int yy7), (0, .ref 14)]) (st' := [.int 36, .int (nB (decide ((xBc ((μ.2.1 14 17) &&& 2013265920)) = 4))), .long yy28]) (μ' := μ) (by rfl) ?_
                                refine zq_call hc (z_cx_ok hH (by rfl)) (fb_X1_bit d' (by omega) μ (decide ((xBc ((μ.2.1 14 17) &&& 2013265920)) = 4)) 36) (by decide +kernel) (fun r9 μ9 hq => ?_)
                                obtain ⟨hμ9, rfl⟩ := hq
                                rw [hμ9]
                                clear hμ9 μ9
                                show Z 0 375 [(4, .int (xBc ((μ.2.1 14 17) &&& 2013265920))), (3, .int (xBc ((μ.2.1 14 17) &&& 15032385536))), (2, .int (nB ee12)), (1, .int yy7), (0, .ref 14)] [.long (lb (decide ((xBc ((μ.2.1 14 17) &&& 2013265920)) = 4)) 36), .long yy28] μ
                                refine z_rcs hc hH 3 (pc' := 378) (lv' := [(4, .int (xBc ((μ.2.1 14 17) &&& 2013265920))), (3, .int (xBc ((μ.2.1 14 17) &&& 15032385536))), (2, .int (nB ee12)), (1, .int yy7), (0, .ref 14)]) (st' := [.int 4, .int yy7, .long (yy28 ||| (lb (decide ((xBc ((μ.2.1 14 17) &&& 2013265920)) = 4)) 36))]) (μ' := μ) (by rfl) ?_
                                have hJ29 : Z 0 386 [(4, .int (xBc ((μ.2.1 14 17) &&& 2013265920))), (3, .int (xBc ((μ.2.1 14 17) &&& 15032385536))), (2, .int (nB ee12)), (1, .int yy7), (0, .ref 14)] [.int (nB (decide (yy7 = 4))), .long (yy28 ||| (lb (decide ((xBc ((μ.2.1 14 17) &&& 2013265920)) = 4)) 36))] μ := by
                                  refine z_rcs hc hH 1 (pc' := 388) (lv' := [(4, .int (xBc ((μ.2.1 14 17) &&& 2013265920))), (3, .int (xBc ((μ.2.1 14 17) &&& 15032385536))), (2, .int (nB ee12)), (1, .int yy7), (0, .ref 14)]) (st' := [.int 41, .int (nB (decide (yy7 = 4))), .long (yy28 ||| (lb (decide ((xBc ((μ.2.1 14 17) &&& 2013265920)) = 4)) 36))]) (μ' := μ) (by rfl) ?_
                                  refine zq_call hc (z_cx_ok hH (by rfl)) (fb_X1_bit d' (by omega) μ (decide (yy7 = 4)) 41) (by decide +kernel) (fun r9 μ9 hq => ?_)
                                  obtain ⟨hμ9, rfl⟩ := hq
                                  rw [hμ9]
                                  clear hμ9 μ9
                                  show Z 0 391 [(4, .int (xBc ((μ.2.1 14 17) &&& 2013265920))), (3, .int (xBc ((μ.2.1 14 17) &&& 15032385536))), (2, .int (nB ee12)), (1, .int yy7), (0, .ref 14)] [.long (lb (decide (yy7 = 4)) 41), .long (yy28 ||| (lb (decide ((xBc ((μ.2.1 14 17) &&& 2013265920)) = 4)) 36))] μ
                                  refine z_rcs hc hH 1 (pc' := 392) (lv' := [(4, .int (xBc ((μ.2.1 14 17) &&& 2013265920))), (3, .int (xBc ((μ.2.1 14 17) &&& 15032385536))), (2, .int (nB ee12)), (1, .int yy7), (0, .ref 14)]) (st' := [.long ((yy28 ||| (lb (decide ((xBc ((μ.2.1 14 17) &&& 2013265920)) = 4)) 36)) ||| (lb (decide (yy7 = 4)) 41))]) (μ' := μ) (by rfl) ?_
                                  exact hr 0 392 _ _ _ (some (.long ((yy28 ||| (lb (decide ((xBc ((μ.2.1 14 17) &&& 2013265920)) = 4)) 36)) ||| (lb (decide (yy7 = 4)) 41)))) (by decide +kernel) (z_rx_ok hH (by rfl)) (⟨rfl, (by subst hyy28; subst hee26; subst hyy24; subst hee22; subst hee20; subst hyy18; subst hyy15; subst hee14; subst hee12; subst hee10; subst hee8; subst hyy7; subst hyy4; rfl)⟩)
                                refine zq_ic hc hH (by rfl) (tg := 385) (by rfl) (fun h30 => ?_) (fun h30 => ?_)
                                · have h30 : (decide (yy7 = 4)) = false := decide_eq_false (cm_ne.mp h30)
                                  refine z_rcs hc hH 1 (pc' := 386) (lv' := [(4, .int (xBc ((μ.2.1 14 17) &&& 2013265920))), (3, .int (xBc ((μ.2.1 14 17) &&& 15032385536))), (2, .int (nB ee12)), (1, .int yy7), (0, .ref 14)]) (st' := [.int 0, .long (yy28 ||| (lb (decide ((xBc ((μ.2.1 14 17) &&& 2013265920)) = 4)) 36))]) (μ' := μ) (by rfl) ?_
                                  exact zJ hJ29 rfl (by first | with_reducible rfl | (simp only [h30, lb_f, Int64.or_zero, Int32.add_zero, nB_t, nB_f, Bool.not_true, Bool.not_false, Bool.and_true, Bool.true_and, Bool.false_and, Bool.and_false, Bool.or_true, Bool.true_or, Bool.false_or, Bool.or_false, cond_true, cond_false]; done) | rfl) rfl
                                · have h30 : (decide (yy7 = 4)) = true := decide_eq_true (cn_ne.mp h30)
                                  refine z_rcs hc hH 2 (pc' := 386) (lv' := [(4, .int (xBc ((μ.2.1 14 17) &&& 2013265920))), (3, .int (xBc ((μ.2.1 14 17) &&& 15032385536))), (2, .int (nB ee12)), (1, .int yy7), (0, .ref 14)]) (st' := [.int 1, .long (yy28 ||| (lb (decide ((xBc ((μ.2.1 14 17) &&& 2013265920)) = 4)) 36))]) (μ' := μ) (by rfl) ?_
                                  exact zJ hJ29 rfl (by first | with_reducible rfl | (simp only [h30, lb_f, Int64.or_zero, Int32.add_zero, nB_t, nB_f, Bool.not_true, Bool.not_false, Bool.and_true, Bool.true_and, Bool.false_and, Bool.and_false, Bool.or_true, Bool.true_or, Bool.false_or, Bool.or_false, cond_true, cond_false]; done) | rfl) rfl
                              refine zq_ic hc hH (by rfl) (tg := 369) (by rfl) (fun h31 => ?_) (fun h31 => ?_)
                              · have h31 : (decide ((xBc ((μ.2.1 14 17) &&& 2013265920)) = 4)) = false := decide_eq_false (cm_ne.mp h31)
                                refine z_rcs hc hH 1 (pc' := 370) (lv' := [(4, .int (xBc ((μ.2.1 14 17) &&& 2013265920))), (3, .int (xBc ((μ.2.1 14 17) &&& 15032385536))), (2, .int (nB ee12)), (1, .int yy7), (0, .ref 14)]) (st' := [.int 0, .long ((yy24 ||| (lb (decide ((xBc ((μ.2.1 14 17) &&& 15032385536)) = 3)) 34)) ||| (lb ee26 35))]) (μ' := μ) (by rfl) ?_
                                exact zJ hJ27 rfl (by first | with_reducible rfl | (simp only [h31, lb_f, Int64.or_zero, Int32.add_zero, nB_t, nB_f, Bool.not_true, Bool.not_false, Bool.and_true, Bool.true_and, Bool.false_and, Bool.and_false, Bool.or_true, Bool.true_or, Bool.false_or, Bool.or_false, cond_true, cond_false]; done) | rfl) rfl
                              · have h31 : (decide ((xBc ((μ.2.1 14 17) &&& 2013265920)) = 4)) = true := decide_eq_true (cn_ne.mp h31)
                                refine z_rcs hc hH 2 (pc' := 370) (lv' := [(4, .int (xBc ((μ.2.1 14 17) &&& 2013265920))), (3, .int (xBc ((μ.2.1 14 17) &&& 15032385536))), (2, .int (nB ee12)), (1, .int yy7), (0, .ref 14)]) (st' := [.int 1, .long ((yy24 ||| (lb (decide ((xBc ((μ.2.1 14 17) &&& 15032385536)) = 3)) 34)) ||| (lb ee26 35))]) (μ' := μ) (by rfl) ?_
                                exact zJ hJ27 rfl (by first | with_reducible rfl | (simp only [h31, lb_f, Int64.or_zero, Int32.add_zero, nB_t, nB_f, Bool.not_true, Bool.not_false, Bool.and_true, Bool.true_and, Bool.false_and, Bool.and_false, Bool.or_true, Bool.true_or, Bool.false_or, Bool.or_false, cond_true, cond_false]; done) | rfl) rfl
                            refine zq_ic hc hH (by rfl) (tg := 352) (by rfl) (fun h32 => ?_) (fun h32 => ?_)
                            · have h32 : (decide ((xBc ((μ.2.1 14 17) &&& 2013265920)) = 3)) = false := decide_eq_false (cm_ne.mp h32)
                              refine z_rcs hc hH 1 (pc' := 353) (lv' := [(4, .int (xBc ((μ.2.1 14 17) &&& 2013265920))), (3, .int (xBc ((μ.2.1 14 17) &&& 15032385536))), (2, .int (nB ee12)), (1, .int yy7), (0, .ref 14)]) (st' := [.int 0, .long (yy24 ||| (lb (decide ((xBc ((μ.2.1 14 17) &&& 15032385536)) = 3)) 34))]) (μ' := μ) (by rfl) ?_
                              exact zJ hJ25 rfl (by first | with_reducible rfl | (simp only [h32, lb_f, Int64.or_zero, Int32.add_zero, nB_t, nB_f, Bool.not_true, Bool.not_false, Bool.and_true, Bool.true_and, Bool.false_and, Bool.and_false, Bool.or_true, Bool.true_or, Bool.false_or, Bool.or_false, cond_true, cond_false]; done) | rfl) rfl
                            · have h32 : (decide ((xBc ((μ.2.1 14 17) &&& 2013265920)) = 3)) = true := decide_eq_true (cn_ne.mp h32)
                              refine z_rcs hc hH 3 (pc' := 342) (lv' := [(4, .int (xBc ((μ.2.1 14 17) &&& 2013265920))), (3, .int (xBc ((μ.2.1 14 17) &&& 15032385536))), (2, .int (nB ee12)), (1, .int yy7), (0, .ref 14)]) (st' := [.int (μ.1 14 15), .long 2013265920, .long (yy24 ||| (lb (decide ((xBc ((μ.2.1 14 17) &&& 15032385536)) = 3)) 34))]) (μ' := μ) (by rfl) ?_
                              refine zq_call hc (z_cx_ok hH (by rfl)) (fb_X6_holds d' (by omega) μ (2013265920 : Int64) (μ.1 14 15)) (by decide +kernel) (fun r9 μ9 hq => ?_)
                              obtain ⟨hμ9, rfl⟩ := hq
                              rw [hμ9]
                              clear hμ9 μ9
                              show Z 0 345 [(4, .int (xBc ((μ.2.1 14 17) &&& 2013265920))), (3, .int (xBc ((μ.2.1 14 17) &&& 15032385536))), (2, .int (nB ee12)), (1, .int yy7), (0, .ref 14)] [.int (nB (xHd 2013265920 (μ.1 14 15))), .long (yy24 ||| (lb (decide ((xBc ((μ.2.1 14 17) &&& 15032385536)) = 3)) 34))] μ
                              refine zq_if hc hH (by rfl) (tg := 352) (by rfl) (fun h33 => ?_) (fun h33 => ?_)
                              · have h33 : (xHd 2013265920 (μ.1 14 15)) = false := nB_z.mp (cm_eq9.mp h33)
                                refine z_rcs hc hH 1 (pc' := 353) (lv' := [(4, .int (xBc ((μ.2.1 14 17) &&& 2013265920))), (3, .int (xBc ((μ.2.1 14 17) &&& 15032385536))), (2, .int (nB ee12)), (1, .int yy7), (0, .ref 14)]) (st' := [.int 0, .long (yy24 ||| (lb (decide ((xBc ((μ.2.1 14 17) &&& 15032385536)) = 3)) 34))]) (μ' := μ) (by rfl) ?_
                                exact zJ hJ25 rfl (by first | with_reducible rfl | (simp only [h32, h33, lb_f, Int64.or_zero, Int32.add_zero, nB_t, nB_f, Bool.not_true, Bool.not_false, Bool.and_true, Bool.true_and, Bool.false_and, Bool.and_false, Bool.or_true, Bool.true_or, Bool.false_or, Bool.or_false, cond_true, cond_false]; done) | rfl) rfl
                              · have h33 : (xHd 2013265920 (μ.1 14 15)) = true := nB_n.mp (cn_eq.mp h33)
                                refine z_rcs hc hH 2 (pc' := 353) (lv' := [(4, .int (xBc ((μ.2.1 14 17) &&& 2013265920))), (3, .int (xBc ((μ.2.1 14 17) &&& 15032385536))), (2, .int (nB ee12)), (1, .int yy7), (0, .ref 14)]) (st' := [.int 1, .long (yy24 ||| (lb (decide ((xBc ((μ.2.1 14 17) &&& 15032385536)) = 3)) 34))]) (μ' := μ) (by rfl) ?_
                                exact zJ hJ25 rfl (by first | with_reducible rfl | (simp only [h32, h33, lb_f, Int64.or_zero, Int32.add_zero, nB_t, nB_f, Bool.not_true, Bool.not_false, Bool.and_true, Bool.true_and, Bool.false_and, Bool.and_false, Bool.or_true, Bool.true_or, Bool.false_or, Bool.or_false, cond_true, cond_false]; done) | rfl) rfl
                          refine zq_ic hc hH (by rfl) (tg := 322) (by rfl) (fun h34 => ?_) (fun h34 => ?_)
                          · have h34 : (decide ((xBc ((μ.2.1 14 17) &&& 15032385536)) = 3)) = false := decide_eq_false (cm_ne.mp h34)
                            refine z_rcs hc hH 1 (pc' := 323) (lv' := [(4, .int (xBc ((μ.2.1 14 17) &&& 2013265920))), (3, .int (xBc ((μ.2.1 14 17) &&& 15032385536))), (2, .int (nB ee12)), (1, .int yy7), (0, .ref 14)]) (st' := [.int 0, .long (((yy18 ||| (lb (decide (yy7 = 3)) 21)) ||| (lb ee20 22)) ||| (lb ee22 25))]) (μ' := μ) (by rfl) ?_
                            exact zJ hJ23 rfl (by first | with_reducible rfl | (simp only [h34, lb_f, Int64.or_zero, Int32.add_zero, nB_t, nB_f, Bool.not_true, Bool.not_false, Bool.and_true, Bool.true_and, Bool.false_and, Bool.and_false, Bool.or_true, Bool.true_or, Bool.false_or, Bool.or_false, cond_true, cond_false]; done) | rfl) rfl
                          · have h34 : (decide ((xBc ((μ.2.1 14 17) &&& 15032385536)) = 3)) = true := decide_eq_true (cn_ne.mp h34)
                            refine z_rcs hc hH 2 (pc' := 323) (lv' := [(4, .int (xBc ((μ.2.1 14 17) &&& 2013265920))), (3, .int (xBc ((μ.2.1 14 17) &&& 15032385536))), (2, .int (nB ee12)), (1, .int yy7), (0, .ref 14)]) (st' := [.int 1, .long (((yy18 ||| (lb (decide (yy7 = 3)) 21)) ||| (lb ee20 22)) ||| (lb ee22 25))]) (μ' := μ) (by rfl) ?_
                            exact zJ hJ23 rfl (by first | with_reducible rfl | (simp only [h34, lb_f, Int64.or_zero, Int32.add_zero, nB_t, nB_f, Bool.not_true, Bool.not_false, Bool.and_true, Bool.true_and, Bool.false_and, Bool.and_false, Bool.or_true, Bool.true_or, Bool.false_or, Bool.or_false, cond_true, cond_false]; done) | rfl) rfl
                        refine zq_ic hc hH (by rfl) (tg := 306) (by rfl) (fun h35 => ?_) (fun h35 => ?_)
                        · have h35 : (decide ((xBc ((μ.2.1 14 17) &&& 15032385536)) = 2)) = false := decide_eq_false (cm_ne.mp h35)
                          refine z_rcs hc hH 1 (pc' := 307) (lv' := [(4, .int (xBc ((μ.2.1 14 17) &&& 2013265920))), (3, .int (xBc ((μ.2.1 14 17) &&& 15032385536))), (2, .int (nB ee12)), (1, .int yy7), (0, .ref 14)]) (st' := [.int 0, .long ((yy18 ||| (lb (decide (yy7 = 3)) 21)) ||| (lb ee20 22))]) (μ' := μ) (by rfl) ?_
                          exact zJ hJ21 rfl (by first | with_reducible rfl | (simp only [h35, lb_f, Int64.or_zero, Int32.add_zero, nB_t, nB_f, Bool.not_true, Bool.not_false, Bool.and_true, Bool.true_and, Bool.false_and, Bool.and_false, Bool.or_true, Bool.true_or, Bool.false_or, Bool.or_false, cond_true, cond_false]; done) | rfl) rfl
                        · have h35 : (decide ((xBc ((μ.2.1 14 17) &&& 15032385536)) = 2)) = true := decide_eq_true (cn_ne.mp h35)
                          refine z_rcs hc hH 3 (pc' := 296) (lv' := [(4, .int (xBc ((μ.2.1 14 17) &&& 2013265920))), (3, .int (xBc ((μ.2.1 14 17) &&& 15032385536))), (2, .int (nB ee12)), (1, .int yy7), (0, .ref 14)]) (st' := [.int (μ.1 14 15), .long 15032385536, .long ((yy18 ||| (lb (decide (yy7 = 3)) 21)) ||| (lb ee20 22))]) (μ' := μ) (by rfl) ?_
                          refine zq_call hc (z_cx_ok hH (by rfl)) (fb_X6_holds d' (by omega) μ (15032385536 : Int64) (μ.1 14 15)) (by decide +kernel) (fun r9 μ9 hq => ?_)
                          obtain ⟨hμ9, rfl⟩ := hq
                          rw [hμ9]
                          clear hμ9 μ9
                          show Z 0 299 [(4, .int (xBc ((μ.2.1 14 17) &&& 2013265920))), (3, .int (xBc ((μ.2.1 14 17) &&& 15032385536))), (2, .int (nB ee12)), (1, .int yy7), (0, .ref 14)] [.int (nB (xHd 15032385536 (μ.1 14 15))), .long ((yy18 ||| (lb (decide (yy7 = 3)) 21)) ||| (lb ee20 22))] μ
                          refine zq_if hc hH (by rfl) (tg := 306) (by rfl) (fun h36 => ?_) (fun h36 => ?_)
                          · have h36 : (xHd 15032385536 (μ.1 14 15)) = false := nB_z.mp (cm_eq9.mp h36)
                            refine z_rcs hc hH 1 (pc' := 307) (lv' := [(4, .int (xBc ((μ.2.1 14 17) &&& 2013265920))), (3, .int (xBc ((μ.2.1 14 17) &&& 15032385536))), (2, .int (nB ee12)), (1, .int yy7), (0, .ref 14)]) (st' := [.int 0, .long ((yy18 ||| (lb (decide (yy7 = 3)) 21)) ||| (lb ee20 22))]) (μ' := μ) (by rfl) ?_
                            exact zJ hJ21 rfl (by first | with_reducible rfl | (simp only [h35, h36, lb_f, Int64.or_zero, Int32.add_zero, nB_t, nB_f, Bool.not_true, Bool.not_false, Bool.and_true, Bool.true_and, Bool.false_and, Bool.and_false, Bool.or_true, Bool.true_or, Bool.false_or, Bool.or_false, cond_true, cond_false]; done) | rfl) rfl
                          · have h36 : (xHd 15032385536 (μ.1 14 15)) = true := nB_n.mp (cn_eq.mp h36)
                            refine z_rcs hc hH 2 (pc' := 307) (lv' := [(4, .int (xBc ((μ.2.1 14 17) &&& 2013265920))), (3, .int (xBc ((μ.2.1 14 17) &&& 15032385536))), (2, .int (nB ee12)), (1, .int yy7), (0, .ref 14)]) (st' := [.int 1, .long ((yy18 ||| (lb (decide (yy7 = 3)) 21)) ||| (lb ee20 22))]) (μ' := μ) (by rfl) ?_
                            exact zJ hJ21 rfl (by first | with_reducible rfl | (simp only [h35, h36, lb_f, Int64.or_zero, Int32.add_zero, nB_t, nB_f, Bool.not_true, Bool.not_false, Bool.and_true, Bool.true_and, Bool.false_and, Bool.and_false, Bool.or_true, Bool.true_or, Bool.false_or, Bool.or_false, cond_true, cond_false]; done) | rfl) rfl
                      refine zq_if hc hH (by rfl) (tg := 277) (by rfl) (fun h37 => ?_) (fun h37 => ?_)
                      · have h37 : (decide ((lg_cmp ((((μ.2.1 14 17) &&& (((μ.2.1 14 17).toUInt64 >>> ((9 : Int32).toInt64.toUInt64 &&& Int64.toUInt64 63)).toInt64)) &&& (((μ.2.1 14 17).toUInt64 >>> ((18 : Int32).toInt64.toUInt64 &&& Int64.toUInt64 63)).toInt64)) &&& 511) 0) = 0)) = true := decide_eq_true (cm_eq9.mp h37)
                        refine z_rcs hc hH 1 (pc' := 278) (lv' := [(4, .int (xBc ((μ.2.1 14 17) &&& 2013265920))), (3, .int (xBc ((μ.2.1 14 17) &&& 15032385536))), (2, .int (nB ee12)), (1, .int yy7), (0, .ref 14)]) (st' := [.int 0, .long (yy18 ||| (lb (decide (yy7 = 3)) 21))]) (μ' := μ) (by rfl) ?_
                        exact zJ hJ19 rfl (by first | with_reducible rfl | (simp only [h37, lb_f, Int64.or_zero, Int32.add_zero, nB_t, nB_f, Bool.not_true, Bool.not_false, Bool.and_true, Bool.true_and, Bool.false_and, Bool.and_false, Bool.or_true, Bool.true_or, Bool.false_or, Bool.or_false, cond_true, cond_false]; done) | rfl) rfl
                      · have h37 : (decide ((lg_cmp ((((μ.2.1 14 17) &&& (((μ.2.1 14 17).toUInt64 >>> ((9 : Int32).toInt64.toUInt64 &&& Int64.toUInt64 63)).toInt64)) &&& (((μ.2.1 14 17).toUInt64 >>> ((18 : Int32).toInt64.toUInt64 &&& Int64.toUInt64 63)).toInt64)) &&& 511) 0) = 0)) = false := decide_eq_false (cn_eq.mp h37)
                        refine z_rcs hc hH 2 (pc' := 278) (lv' := [(4, .int (xBc ((μ.2.1 14 17) &&& 2013265920))), (3, .int (xBc ((μ.2.1 14 17) &&& 15032385536))), (2, .int (nB ee12)), (1, .int yy7), (0, .ref 14)]) (st' := [.int 1, .long (yy18 ||| (lb (decide (yy7 = 3)) 21))]) (μ' := μ) (by rfl) ?_
                        exact zJ hJ19 rfl (by first | with_reducible rfl | (simp only [h37, lb_f, Int64.or_zero, Int32.add_zero, nB_t, nB_f, Bool.not_true, Bool.not_false, Bool.and_true, Bool.true_and, Bool.false_and, Bool.and_false, Bool.or_true, Bool.true_or, Bool.false_or, Bool.or_false, cond_true, cond_false]; done) | rfl) rfl
                    refine zq_ic hc hH (by rfl) (tg := 237) (by rfl) (fun h38 => ?_) (fun h38 => ?_)
                    · have h38 : (decide (yy7 = 3)) = false := decide_eq_false (cm_ne.mp h38)
                      refine z_rcs hc hH 1 (pc' := 238) (lv' := [(4, .int (xBc ((μ.2.1 14 17) &&& 2013265920))), (3, .int (xBc ((μ.2.1 14 17) &&& 15032385536))), (2, .int (nB ee12)), (1, .int yy7), (0, .ref 14)]) (st' := [.int 0, .long (((yy15 ||| (lb ee14 17)) ||| (lb ee12 18)) ||| (lb (decide ((lg_cmp (μ.2.1 14 16) 0) = 0)) 19))]) (μ' := μ) (by rfl) ?_
                      exact zJ hJ17 rfl (by first | with_reducible rfl | (simp only [h38, lb_f, Int64.or_zero, Int32.add_zero, nB_t, nB_f, Bool.not_true, Bool.not_false, Bool.and_true, Bool.true_and, Bool.false_and, Bool.and_false, Bool.or_true, Bool.true_or, Bool.false_or, Bool.or_false, cond_true, cond_false]; done) | rfl) rfl
                    · have h38 : (decide (yy7 = 3)) = true := decide_eq_true (cn_ne.mp h38)
                      refine z_rcs hc hH 2 (pc' := 238) (lv' := [(4, .int (xBc ((μ.2.1 14 17) &&& 2013265920))), (3, .int (xBc ((μ.2.1 14 17) &&& 15032385536))), (2, .int (nB ee12)), (1, .int yy7), (0, .ref 14)]) (st' := [.int 1, .long (((yy15 ||| (lb ee14 17)) ||| (lb ee12 18)) ||| (lb (decide ((lg_cmp (μ.2.1 14 16) 0) = 0)) 19))]) (μ' := μ) (by rfl) ?_
                      exact zJ hJ17 rfl (by first | with_reducible rfl | (simp only [h38, lb_f, Int64.or_zero, Int32.add_zero, nB_t, nB_f, Bool.not_true, Bool.not_false, Bool.and_true, Bool.true_and, Bool.false_and, Bool.and_false, Bool.or_true, Bool.true_or, Bool.false_or, Bool.or_false, cond_true, cond_false]; done) | rfl) rfl
                  refine zq_if hc hH (by rfl) (tg := 221) (by rfl) (fun h39 => ?_) (fun h39 => ?_)
                  · have h39 : (decide ((lg_cmp (μ.2.1 14 16) 0) = 0)) = false := decide_eq_false (cm_ne.mp h39)
                    refine z_rcs hc hH 1 (pc' := 222) (lv' := [(4, .int (xBc ((μ.2.1 14 17) &&& 2013265920))), (3, .int (xBc ((μ.2.1 14 17) &&& 15032385536))), (2, .int (nB ee12)), (1, .int yy7), (0, .ref 14)]) (st' := [.int 0, .long ((yy15 ||| (lb ee14 17)) ||| (lb ee12 18))]) (μ' := μ) (by rfl) ?_
                    exact zJ hJ16 rfl (by first | with_reducible rfl | (simp only [h39, lb_f, Int64.or_zero, Int32.add_zero, nB_t, nB_f, Bool.not_true, Bool.not_false, Bool.and_true, Bool.true_and, Bool.false_and, Bool.and_false, Bool.or_true, Bool.true_or, Bool.false_or, Bool.or_false, cond_true, cond_false]; done) | rfl) rfl
                  · have h39 : (decide ((lg_cmp (μ.2.1 14 16) 0) = 0)) = true := decide_eq_true (cn_ne.mp h39)
                    refine z_rcs hc hH 2 (pc' := 222) (lv' := [(4, .int (xBc ((μ.2.1 14 17) &&& 2013265920))), (3, .int (xBc ((μ.2.1 14 17) &&& 15032385536))), (2, .int (nB ee12)), (1, .int yy7), (0, .ref 14)]) (st' := [.int 1, .long ((yy15 ||| (lb ee14 17)) ||| (lb ee12 18))]) (μ' := μ) (by rfl) ?_
                    exact zJ hJ16 rfl (by first | with_reducible rfl | (simp only [h39, lb_f, Int64.or_zero, Int32.add_zero, nB_t, nB_f, Bool.not_true, Bool.not_false, Bool.and_true, Bool.true_and, Bool.false_and, Bool.and_false, Bool.or_true, Bool.true_or, Bool.false_or, Bool.or_false, cond_true, cond_false]; done) | rfl) rfl
                refine zq_if hc hH (by rfl) (tg := 194) (by rfl) (fun h40 => ?_) (fun h40 => ?_)
                · have h40 : (decide ((lg_cmp ((((μ.2.1 14 16) &&& (((μ.2.1 14 16).toUInt64 >>> ((9 : Int32).toInt64.toUInt64 &&& Int64.toUInt64 63)).toInt64)) &&& (((μ.2.1 14 16).toUInt64 >>> ((18 : Int32).toInt64.toUInt64 &&& Int64.toUInt64 63)).toInt64)) &&& 511) 0) = 0)) = true := decide_eq_true (cm_eq9.mp h40)
                  refine z_rcs hc hH 1 (pc' := 195) (lv' := [(4, .int (xBc ((μ.2.1 14 17) &&& 2013265920))), (3, .int (xBc ((μ.2.1 14 17) &&& 15032385536))), (2, .int (nB ee12)), (1, .int yy7), (0, .ref 14)]) (st' := [.int 0, .long (((((((μ.2.1 14 17) &&& 15032385536).toUInt64 >>> ((31 : Int32).toInt64.toUInt64 &&& Int64.toUInt64 63)).toInt64) <<< ((11 : Int32).toInt64 &&& 63)) ||| (lb (xHd (μ.2.1 14 17) (μ.1 14 9)) 14)) ||| (lb (xHd (μ.2.1 14 17) (μ.1 14 10)) 15))]) (μ' := μ) (by rfl) ?_
                  exact zJ hJ13 rfl (by first | with_reducible rfl | (simp only [h40, lb_f, Int64.or_zero, Int32.add_zero, nB_t, nB_f, Bool.not_true, Bool.not_false, Bool.and_true, Bool.true_and, Bool.false_and, Bool.and_false, Bool.or_true, Bool.true_or, Bool.false_or, Bool.or_false, cond_true, cond_false]; done) | rfl) rfl
                · have h40 : (decide ((lg_cmp ((((μ.2.1 14 16) &&& (((μ.2.1 14 16).toUInt64 >>> ((9 : Int32).toInt64.toUInt64 &&& Int64.toUInt64 63)).toInt64)) &&& (((μ.2.1 14 16).toUInt64 >>> ((18 : Int32).toInt64.toUInt64 &&& Int64.toUInt64 63)).toInt64)) &&& 511) 0) = 0)) = false := decide_eq_false (cn_eq.mp h40)
                  refine z_rcs hc hH 2 (pc' := 195) (lv' := [(4, .int (xBc ((μ.2.1 14 17) &&& 2013265920))), (3, .int (xBc ((μ.2.1 14 17) &&& 15032385536))), (2, .int (nB ee12)), (1, .int yy7), (0, .ref 14)]) (st' := [.int 1, .long (((((((μ.2.1 14 17) &&& 15032385536).toUInt64 >>> ((31 : Int32).toInt64.toUInt64 &&& Int64.toUInt64 63)).toInt64) <<< ((11 : Int32).toInt64 &&& 63)) ||| (lb (xHd (μ.2.1 14 17) (μ.1 14 9)) 14)) ||| (lb (xHd (μ.2.1 14 17) (μ.1 14 10)) 15))]) (μ' := μ) (by rfl) ?_
                  exact zJ hJ13 rfl (by first | with_reducible rfl | (simp only [h40, lb_f, Int64.or_zero, Int32.add_zero, nB_t, nB_f, Bool.not_true, Bool.not_false, Bool.and_true, Bool.true_and, Bool.false_and, Bool.and_false, Bool.or_true, Bool.true_or, Bool.false_or, Bool.or_false, cond_true, cond_false]; done) | rfl) rfl
              refine zq_if hc hH (by rfl) (tg := 76) (by rfl) (fun h41 => ?_) (fun h41 => ?_)
              · have h41 : (ee10) = true := nB_n.mp (cm_ne.mp h41)
                refine z_rcs hc hH 2 (pc' := 81) (lv' := [(3, .int 2), (2, .int (nB ee10)), (1, .int yy7), (0, .ref 14)]) (st' := [.int 1]) (μ' := μ) (by rfl) ?_
                exact zJ hJ11 rfl (by first | with_reducible rfl | (simp only [h41, lb_f, Int64.or_zero, Int32.add_zero, nB_t, nB_f, Bool.not_true, Bool.not_false, Bool.and_true, Bool.true_and, Bool.false_and, Bool.and_false, Bool.or_true, Bool.true_or, Bool.false_or, Bool.or_false, cond_true, cond_false]; done) | rfl) rfl
              · have h41 : (ee10) = false := nB_z.mp (cn_ne.mp h41)
                refine z_rcs hc hH 10 (pc' := 73) (lv' := [(3, .int 2), (2, .int (nB ee10)), (1, .int yy7), (0, .ref 14)]) (st' := [.int (lg_cmp ((((μ.2.1 14 16).toUInt64 >>> ((18 : Int32).toInt64.toUInt64 &&& Int64.toUInt64 63)).toInt64) &&& 73) 73)]) (μ' := μ) (by rfl) ?_
                refine zq_if hc hH (by rfl) (tg := 80) (by rfl) (fun h42 => ?_) (fun h42 => ?_)
                · have h42 : (decide ((lg_cmp ((((μ.2.1 14 16).toUInt64 >>> ((18 : Int32).toInt64.toUInt64 &&& Int64.toUInt64 63)).toInt64) &&& 73) 73) = 0)) = false := decide_eq_false (cm_ne.mp h42)
                  refine z_rcs hc hH 1 (pc' := 81) (lv' := [(3, .int 2), (2, .int (nB ee10)), (1, .int yy7), (0, .ref 14)]) (st' := [.int 0]) (μ' := μ) (by rfl) ?_
                  exact zJ hJ11 rfl (by first | with_reducible rfl | (simp only [h41, h42, lb_f, Int64.or_zero, Int32.add_zero, nB_t, nB_f, Bool.not_true, Bool.not_false, Bool.and_true, Bool.true_and, Bool.false_and, Bool.and_false, Bool.or_true, Bool.true_or, Bool.false_or, Bool.or_false, cond_true, cond_false]; done) | rfl) rfl
                · have h42 : (decide ((lg_cmp ((((μ.2.1 14 16).toUInt64 >>> ((18 : Int32).toInt64.toUInt64 &&& Int64.toUInt64 63)).toInt64) &&& 73) 73) = 0)) = true := decide_eq_true (cn_ne.mp h42)
                  refine z_rcs hc hH 2 (pc' := 81) (lv' := [(3, .int 2), (2, .int (nB ee10)), (1, .int yy7), (0, .ref 14)]) (st' := [.int 1]) (μ' := μ) (by rfl) ?_
                  exact zJ hJ11 rfl (by first | with_reducible rfl | (simp only [h41, h42, lb_f, Int64.or_zero, Int32.add_zero, nB_t, nB_f, Bool.not_true, Bool.not_false, Bool.and_true, Bool.true_and, Bool.false_and, Bool.and_false, Bool.or_true, Bool.true_or, Bool.false_or, Bool.or_false, cond_true, cond_false]; done) | rfl) rfl
            refine zq_if hc hH (by rfl) (tg := 76) (by rfl) (fun h43 => ?_) (fun h43 => ?_)
            · have h43 : (ee8) = true := nB_n.mp (cm_ne.mp h43)
              refine z_rcs hc hH 2 (pc' := 81) (lv' := [(3, .int 1), (2, .int (nB ee8)), (1, .int yy7), (0, .ref 14)]) (st' := [.int 1]) (μ' := μ) (by rfl) ?_
              exact zJ hJ9 rfl (by first | with_reducible rfl | (simp only [h43, lb_f, Int64.or_zero, Int32.add_zero, nB_t, nB_f, Bool.not_true, Bool.not_false, Bool.and_true, Bool.true_and, Bool.false_and, Bool.and_false, Bool.or_true, Bool.true_or, Bool.false_or, Bool.or_false, cond_true, cond_false]; done) | rfl) rfl
            · have h43 : (ee8) = false := nB_z.mp (cn_ne.mp h43)
              refine z_rcs hc hH 10 (pc' := 73) (lv' := [(3, .int 1), (2, .int (nB ee8)), (1, .int yy7), (0, .ref 14)]) (st' := [.int (lg_cmp ((((μ.2.1 14 16).toUInt64 >>> ((9 : Int32).toInt64.toUInt64 &&& Int64.toUInt64 63)).toInt64) &&& 73) 73)]) (μ' := μ) (by rfl) ?_
              refine zq_if hc hH (by rfl) (tg := 80) (by rfl) (fun h44 => ?_) (fun h44 => ?_)
              · have h44 : (decide ((lg_cmp ((((μ.2.1 14 16).toUInt64 >>> ((9 : Int32).toInt64.toUInt64 &&& Int64.toUInt64 63)).toInt64) &&& 73) 73) = 0)) = false := decide_eq_false (cm_ne.mp h44)
                refine z_rcs hc hH 1 (pc' := 81) (lv' := [(3, .int 1), (2, .int (nB ee8)), (1, .int yy7), (0, .ref 14)]) (st' := [.int 0]) (μ' := μ) (by rfl) ?_
                exact zJ hJ9 rfl (by first | with_reducible rfl | (simp only [h43, h44, lb_f, Int64.or_zero, Int32.add_zero, nB_t, nB_f, Bool.not_true, Bool.not_false, Bool.and_true, Bool.true_and, Bool.false_and, Bool.and_false, Bool.or_true, Bool.true_or, Bool.false_or, Bool.or_false, cond_true, cond_false]; done) | rfl) rfl
              · have h44 : (decide ((lg_cmp ((((μ.2.1 14 16).toUInt64 >>> ((9 : Int32).toInt64.toUInt64 &&& Int64.toUInt64 63)).toInt64) &&& 73) 73) = 0)) = true := decide_eq_true (cn_ne.mp h44)
                refine z_rcs hc hH 2 (pc' := 81) (lv' := [(3, .int 1), (2, .int (nB ee8)), (1, .int yy7), (0, .ref 14)]) (st' := [.int 1]) (μ' := μ) (by rfl) ?_
                exact zJ hJ9 rfl (by first | with_reducible rfl | (simp only [h43, h44, lb_f, Int64.or_zero, Int32.add_zero, nB_t, nB_f, Bool.not_true, Bool.not_false, Bool.and_true, Bool.true_and, Bool.false_and, Bool.and_false, Bool.or_true, Bool.true_or, Bool.false_or, Bool.or_false, cond_true, cond_false]; done) | rfl) rfl
          refine zq_if hc hH (by rfl) (tg := 80) (by rfl) (fun h45 => ?_) (fun h45 => ?_)
          · have h45 : (decide ((lg_cmp ((((μ.2.1 14 16).toUInt64 >>> ((0 : Int32).toInt64.toUInt64 &&& Int64.toUInt64 63)).toInt64) &&& 73) 73) = 0)) = false := decide_eq_false (cm_ne.mp h45)
            refine z_rcs hc hH 1 (pc' := 81) (lv' := [(3, .int 0), (1, .int ((yy4 + (nB ((decide ((μ.1 15 2) = 2)) || (decide ((μ.1 15 2) = 3))))) + (nB ((decide ((μ.1 15 3) = 2)) || (decide ((μ.1 15 3) = 3)))))), (2, .int 0), (0, .ref 14)]) (st' := [.int 0]) (μ' := μ) (by rfl) ?_
            exact zJ hJ6 rfl (by first | with_reducible rfl | (simp only [h45, lb_f, Int64.or_zero, Int32.add_zero, nB_t, nB_f, Bool.not_true, Bool.not_false, Bool.and_true, Bool.true_and, Bool.false_and, Bool.and_false, Bool.or_true, Bool.true_or, Bool.false_or, Bool.or_false, cond_true, cond_false]; done) | rfl) rfl
          · have h45 : (decide ((lg_cmp ((((μ.2.1 14 16).toUInt64 >>> ((0 : Int32).toInt64.toUInt64 &&& Int64.toUInt64 63)).toInt64) &&& 73) 73) = 0)) = true := decide_eq_true (cn_ne.mp h45)
            refine z_rcs hc hH 2 (pc' := 81) (lv' := [(3, .int 0), (1, .int ((yy4 + (nB ((decide ((μ.1 15 2) = 2)) || (decide ((μ.1 15 2) = 3))))) + (nB ((decide ((μ.1 15 3) = 2)) || (decide ((μ.1 15 3) = 3)))))), (2, .int 0), (0, .ref 14)]) (st' := [.int 1]) (μ' := μ) (by rfl) ?_
            exact zJ hJ6 rfl (by first | with_reducible rfl | (simp only [h45, lb_f, Int64.or_zero, Int32.add_zero, nB_t, nB_f, Bool.not_true, Bool.not_false, Bool.and_true, Bool.true_and, Bool.false_and, Bool.and_false, Bool.or_true, Bool.true_or, Bool.false_or, Bool.or_false, cond_true, cond_false]; done) | rfl) rfl
        refine zq_ic hc hH (by rfl) (tg := 32) (by rfl) (fun h46 => ?_) (fun h46 => ?_)
        · have h46 : (decide ((μ.1 15 3) = 2)) = true := decide_eq_true (cm_eq9.mp h46)
          refine z_rcs hc hH 2 (pc' := 37) (lv' := [(3, .int 3), (1, .int (yy4 + (nB ((decide ((μ.1 15 2) = 2)) || (decide ((μ.1 15 2) = 3)))))), (2, .int 0), (0, .ref 14)]) (st' := [.int 1, .int (yy4 + (nB ((decide ((μ.1 15 2) = 2)) || (decide ((μ.1 15 2) = 3)))))]) (μ' := μ) (by rfl) ?_
          exact zJ hJ5 rfl (by first | with_reducible rfl | (simp only [h46, lb_f, Int64.or_zero, Int32.add_zero, nB_t, nB_f, Bool.not_true, Bool.not_false, Bool.and_true, Bool.true_and, Bool.false_and, Bool.and_false, Bool.or_true, Bool.true_or, Bool.false_or, Bool.or_false, cond_true, cond_false]; done) | rfl) rfl
        · have h46 : (decide ((μ.1 15 3) = 2)) = false := decide_eq_false (cn_eq.mp h46)
          refine z_rcs hc hH 3 (pc' := 27) (lv' := [(3, .int 3), (1, .int (yy4 + (nB ((decide ((μ.1 15 2) = 2)) || (decide ((μ.1 15 2) = 3)))))), (2, .int 0), (0, .ref 14)]) (st' := [.int 3, .ref 15, .int (yy4 + (nB ((decide ((μ.1 15 2) = 2)) || (decide ((μ.1 15 2) = 3)))))]) (μ' := μ) (by rfl) ?_
          refine zq_iald hc hH (by rfl) 4 (by decide +kernel) (show vp_in (nI 3) 4 from vp_in_nI (by decide) (by decide)) ?_
          show Z 0 28 [(3, .int 3), (1, .int (yy4 + (nB ((decide ((μ.1 15 2) = 2)) || (decide ((μ.1 15 2) = 3)))))), (2, .int 0), (0, .ref 14)] [.int (μ.1 15 3), .int (yy4 + (nB ((decide ((μ.1 15 2) = 2)) || (decide ((μ.1 15 2) = 3)))))] μ
          refine z_rcs hc hH 1 (pc' := 29) (lv' := [(3, .int 3), (1, .int (yy4 + (nB ((decide ((μ.1 15 2) = 2)) || (decide ((μ.1 15 2) = 3)))))), (2, .int 0), (0, .ref 14)]) (st' := [.int 3, .int (μ.1 15 3), .int (yy4 + (nB ((decide ((μ.1 15 2) = 2)) || (decide ((μ.1 15 2) = 3)))))]) (μ' := μ) (by rfl) ?_
          refine zq_ic hc hH (by rfl) (tg := 36) (by rfl) (fun h47 => ?_) (fun h47 => ?_)
          · have h47 : (decide ((μ.1 15 3) = 3)) = false := decide_eq_false (cm_ne.mp h47)
            refine z_rcs hc hH 1 (pc' := 37) (lv' := [(3, .int 3), (1, .int (yy4 + (nB ((decide ((μ.1 15 2) = 2)) || (decide ((μ.1 15 2) = 3)))))), (2, .int 0), (0, .ref 14)]) (st' := [.int 0, .int (yy4 + (nB ((decide ((μ.1 15 2) = 2)) || (decide ((μ.1 15 2) = 3)))))]) (μ' := μ) (by rfl) ?_
            exact zJ hJ5 rfl (by first | with_reducible rfl | (simp only [h46, h47, lb_f, Int64.or_zero, Int32.add_zero, nB_t, nB_f, Bool.not_true, Bool.not_false, Bool.and_true, Bool.true_and, Bool.false_and, Bool.and_false, Bool.or_true, Bool.true_or, Bool.false_or, Bool.or_false, cond_true, cond_false]; done) | rfl) rfl
          · have h47 : (decide ((μ.1 15 3) = 3)) = true := decide_eq_true (cn_ne.mp h47)
            refine z_rcs hc hH 2 (pc' := 37) (lv' := [(3, .int 3), (1, .int (yy4 + (nB ((decide ((μ.1 15 2) = 2)) || (decide ((μ.1 15 2) = 3)))))), (2, .int 0), (0, .ref 14)]) (st' := [.int 1, .int (yy4 + (nB ((decide ((μ.1 15 2) = 2)) || (decide ((μ.1 15 2) = 3)))))]) (μ' := μ) (by rfl) ?_
            exact zJ hJ5 rfl (by first | with_reducible rfl | (simp only [h46, h47, lb_f, Int64.or_zero, Int32.add_zero, nB_t, nB_f, Bool.not_true, Bool.not_false, Bool.and_true, Bool.true_and, Bool.false_and, Bool.and_false, Bool.or_true, Bool.true_or, Bool.false_or, Bool.or_false, cond_true, cond_false]; done) | rfl) rfl
      refine zq_ic hc hH (by rfl) (tg := 32) (by rfl) (fun h48 => ?_) (fun h48 => ?_)
      · have h48 : (decide ((μ.1 15 2) = 2)) = true := decide_eq_true (cm_eq9.mp h48)
        refine z_rcs hc hH 2 (pc' := 37) (lv' := [(3, .int 2), (1, .int ((0 + (nB ((decide ((μ.1 15 0) = 2)) || (decide ((μ.1 15 0) = 3))))) + (nB ((decide ((μ.1 15 1) = 2)) || (decide ((μ.1 15 1) = 3)))))), (2, .int 0), (0, .ref 14)]) (st' := [.int 1, .int ((0 + (nB ((decide ((μ.1 15 0) = 2)) || (decide ((μ.1 15 0) = 3))))) + (nB ((decide ((μ.1 15 1) = 2)) || (decide ((μ.1 15 1) = 3)))))]) (μ' := μ) (by rfl) ?_
        exact zJ hJ3 rfl (by first | with_reducible rfl | (simp only [h48, lb_f, Int64.or_zero, Int32.add_zero, nB_t, nB_f, Bool.not_true, Bool.not_false, Bool.and_true, Bool.true_and, Bool.false_and, Bool.and_false, Bool.or_true, Bool.true_or, Bool.false_or, Bool.or_false, cond_true, cond_false]; done) | rfl) rfl
      · have h48 : (decide ((μ.1 15 2) = 2)) = false := decide_eq_false (cn_eq.mp h48)
        refine z_rcs hc hH 3 (pc' := 27) (lv' := [(3, .int 2), (1, .int ((0 + (nB ((decide ((μ.1 15 0) = 2)) || (decide ((μ.1 15 0) = 3))))) + (nB ((decide ((μ.1 15 1) = 2)) || (decide ((μ.1 15 1) = 3)))))), (2, .int 0), (0, .ref 14)]) (st' := [.int 2, .ref 15, .int ((0 + (nB ((decide ((μ.1 15 0) = 2)) || (decide ((μ.1 15 0) = 3))))) + (nB ((decide ((μ.1 15 1) = 2)) || (decide ((μ.1 15 1) = 3)))))]) (μ' := μ) (by rfl) ?_
        refine zq_iald hc hH (by rfl) 4 (by decide +kernel) (show vp_in (nI 2) 4 from vp_in_nI (by decide) (by decide)) ?_
        show Z 0 28 [(3, .int 2), (1, .int ((0 + (nB ((decide ((μ.1 15 0) = 2)) || (decide ((μ.1 15 0) = 3))))) + (nB ((decide ((μ.1 15 1) = 2)) || (decide ((μ.1 15 1) = 3)))))), (2, .int 0), (0, .ref 14)] [.int (μ.1 15 2), .int ((0 + (nB ((decide ((μ.1 15 0) = 2)) || (decide ((μ.1 15 0) = 3))))) + (nB ((decide ((μ.1 15 1) = 2)) || (decide ((μ.1 15 1) = 3)))))] μ
        refine z_rcs hc hH 1 (pc' := 29) (lv' := [(3, .int 2), (1, .int ((0 + (nB ((decide ((μ.1 15 0) = 2)) || (decide ((μ.1 15 0) = 3))))) + (nB ((decide ((μ.1 15 1) = 2)) || (decide ((μ.1 15 1) = 3)))))), (2, .int 0), (0, .ref 14)]) (st' := [.int 3, .int (μ.1 15 2), .int ((0 + (nB ((decide ((μ.1 15 0) = 2)) || (decide ((μ.1 15 0) = 3))))) + (nB ((decide ((μ.1 15 1) = 2)) || (decide ((μ.1 15 1) = 3)))))]) (μ' := μ) (by rfl) ?_
        refine zq_ic hc hH (by rfl) (tg := 36) (by rfl) (fun h49 => ?_) (fun h49 => ?_)
        · have h49 : (decide ((μ.1 15 2) = 3)) = false := decide_eq_false (cm_ne.mp h49)
          refine z_rcs hc hH 1 (pc' := 37) (lv' := [(3, .int 2), (1, .int ((0 + (nB ((decide ((μ.1 15 0) = 2)) || (decide ((μ.1 15 0) = 3))))) + (nB ((decide ((μ.1 15 1) = 2)) || (decide ((μ.1 15 1) = 3)))))), (2, .int 0), (0, .ref 14)]) (st' := [.int 0, .int ((0 + (nB ((decide ((μ.1 15 0) = 2)) || (decide ((μ.1 15 0) = 3))))) + (nB ((decide ((μ.1 15 1) = 2)) || (decide ((μ.1 15 1) = 3)))))]) (μ' := μ) (by rfl) ?_
          exact zJ hJ3 rfl (by first | with_reducible rfl | (simp only [h48, h49, lb_f, Int64.or_zero, Int32.add_zero, nB_t, nB_f, Bool.not_true, Bool.not_false, Bool.and_true, Bool.true_and, Bool.false_and, Bool.and_false, Bool.or_true, Bool.true_or, Bool.false_or, Bool.or_false, cond_true, cond_false]; done) | rfl) rfl
        · have h49 : (decide ((μ.1 15 2) = 3)) = true := decide_eq_true (cn_ne.mp h49)
          refine z_rcs hc hH 2 (pc' := 37) (lv' := [(3, .int 2), (1, .int ((0 + (nB ((decide ((μ.1 15 0) = 2)) || (decide ((μ.1 15 0) = 3))))) + (nB ((decide ((μ.1 15 1) = 2)) || (decide ((μ.1 15 1) = 3)))))), (2, .int 0), (0, .ref 14)]) (st' := [.int 1, .int ((0 + (nB ((decide ((μ.1 15 0) = 2)) || (decide ((μ.1 15 0) = 3))))) + (nB ((decide ((μ.1 15 1) = 2)) || (decide ((μ.1 15 1) = 3)))))]) (μ' := μ) (by rfl) ?_
          exact zJ hJ3 rfl (by first | with_reducible rfl | (simp only [h48, h49, lb_f, Int64.or_zero, Int32.add_zero, nB_t, nB_f, Bool.not_true, Bool.not_false, Bool.and_true, Bool.true_and, Bool.false_and, Bool.and_false, Bool.or_true, Bool.true_or, Bool.false_or, Bool.or_false, cond_true, cond_false]; done) | rfl) rfl
    refine zq_ic hc hH (by rfl) (tg := 32) (by rfl) (fun h50 => ?_) (fun h50 => ?_)
    · have h50 : (decide ((μ.1 15 1) = 2)) = true := decide_eq_true (cm_eq9.mp h50)
      refine z_rcs hc hH 2 (pc' := 37) (lv' := [(3, .int 1), (1, .int (0 + (nB ((decide ((μ.1 15 0) = 2)) || (decide ((μ.1 15 0) = 3)))))), (2, .int 0), (0, .ref 14)]) (st' := [.int 1, .int (0 + (nB ((decide ((μ.1 15 0) = 2)) || (decide ((μ.1 15 0) = 3)))))]) (μ' := μ) (by rfl) ?_
      exact zJ hJ2 rfl (by first | with_reducible rfl | (simp only [h50, lb_f, Int64.or_zero, Int32.add_zero, nB_t, nB_f, Bool.not_true, Bool.not_false, Bool.and_true, Bool.true_and, Bool.false_and, Bool.and_false, Bool.or_true, Bool.true_or, Bool.false_or, Bool.or_false, cond_true, cond_false]; done) | rfl) rfl
    · have h50 : (decide ((μ.1 15 1) = 2)) = false := decide_eq_false (cn_eq.mp h50)
      refine z_rcs hc hH 3 (pc' := 27) (lv' := [(3, .int 1), (1, .int (0 + (nB ((decide ((μ.1 15 0) = 2)) || (decide ((μ.1 15 0) = 3)))))), (2, .int 0), (0, .ref 14)]) (st' := [.int 1, .ref 15, .int (0 + (nB ((decide ((μ.1 15 0) = 2)) || (decide ((μ.1 15 0) = 3)))))]) (μ' := μ) (by rfl) ?_
      refine zq_iald hc hH (by rfl) 4 (by decide +kernel) (show vp_in (nI 1) 4 from vp_in_nI (by decide) (by decide)) ?_
      show Z 0 28 [(3, .int 1), (1, .int (0 + (nB ((decide ((μ.1 15 0) = 2)) || (decide ((μ.1 15 0) = 3)))))), (2, .int 0), (0, .ref 14)] [.int (μ.1 15 1), .int (0 + (nB ((decide ((μ.1 15 0) = 2)) || (decide ((μ.1 15 0) = 3)))))] μ
      refine z_rcs hc hH 1 (pc' := 29) (lv' := [(3, .int 1), (1, .int (0 + (nB ((decide ((μ.1 15 0) = 2)) || (decide ((μ.1 15 0) = 3)))))), (2, .int 0), (0, .ref 14)]) (st' := [.int 3, .int (μ.1 15 1), .int (0 + (nB ((decide ((μ.1 15 0) = 2)) || (decide ((μ.1 15 0) = 3)))))]) (μ' := μ) (by rfl) ?_
      refine zq_ic hc hH (by rfl) (tg := 36) (by rfl) (fun h51 => ?_) (fun h51 => ?_)
      · have h51 : (decide ((μ.1 15 1) = 3)) = false := decide_eq_false (cm_ne.mp h51)
        refine z_rcs hc hH 1 (pc' := 37) (lv' := [(3, .int 1), (1, .int (0 + (nB ((decide ((μ.1 15 0) = 2)) || (decide ((μ.1 15 0) = 3)))))), (2, .int 0), (0, .ref 14)]) (st' := [.int 0, .int (0 + (nB ((decide ((μ.1 15 0) = 2)) || (decide ((μ.1 15 0) = 3)))))]) (μ' := μ) (by rfl) ?_
        exact zJ hJ2 rfl (by first | with_reducible rfl | (simp only [h50, h51, lb_f, Int64.or_zero, Int32.add_zero, nB_t, nB_f, Bool.not_true, Bool.not_false, Bool.and_true, Bool.true_and, Bool.false_and, Bool.and_false, Bool.or_true, Bool.true_or, Bool.false_or, Bool.or_false, cond_true, cond_false]; done) | rfl) rfl
      · have h51 : (decide ((μ.1 15 1) = 3)) = true := decide_eq_true (cn_ne.mp h51)
        refine z_rcs hc hH 2 (pc' := 37) (lv' := [(3, .int 1), (1, .int (0 + (nB ((decide ((μ.1 15 0) = 2)) || (decide ((μ.1 15 0) = 3)))))), (2, .int 0), (0, .ref 14)]) (st' := [.int 1, .int (0 + (nB ((decide ((μ.1 15 0) = 2)) || (decide ((μ.1 15 0) = 3)))))]) (μ' := μ) (by rfl) ?_
        exact zJ hJ2 rfl (by first | with_reducible rfl | (simp only [h50, h51, lb_f, Int64.or_zero, Int32.add_zero, nB_t, nB_f, Bool.not_true, Bool.not_false, Bool.and_true, Bool.true_and, Bool.false_and, Bool.and_false, Bool.or_true, Bool.true_or, Bool.false_or, Bool.or_false, cond_true, cond_false]; done) | rfl) rfl
  refine zq_ic hc hH (by rfl) (tg := 32) (by rfl) (fun h52 => ?_) (fun h52 => ?_)
  · have h52 : (decide ((μ.1 15 0) = 2)) = true := decide_eq_true (cm_eq9.mp h52)
    refine z_rcs hc hH 2 (pc' := 37) (lv' := [(3, .int 0), (2, .int 0), (1, .int 0), (0, .ref 14)]) (st' := [.int 1, .int 0]) (μ' := μ) (by rfl) ?_
    exact zJ hJ1 rfl (by first | with_reducible rfl | (simp only [h52, lb_f, Int64.or_zero, Int32.add_zero, nB_t, nB_f, Bool.not_true, Bool.not_false, Bool.and_true, Bool.true_and, Bool.false_and, Bool.and_false, Bool.or_true, Bool.true_or, Bool.false_or, Bool.or_false, cond_true, cond_false]; done) | rfl) rfl
  · have h52 : (decide ((μ.1 15 0) = 2)) = false := decide_eq_false (cn_eq.mp h52)
    refine z_rcs hc hH 3 (pc' := 27) (lv' := [(3, .int 0), (2, .int 0), (1, .int 0), (0, .ref 14)]) (st' := [.int 0, .ref 15, .int 0]) (μ' := μ) (by rfl) ?_
    refine zq_iald hc hH (by rfl) 4 (by decide +kernel) (show vp_in (nI 0) 4 from vp_in_nI (by decide) (by decide)) ?_
    show Z 0 28 [(3, .int 0), (2, .int 0), (1, .int 0), (0, .ref 14)] [.int (μ.1 15 0), .int 0] μ
    refine z_rcs hc hH 1 (pc' := 29) (lv' := [(3, .int 0), (2, .int 0), (1, .int 0), (0, .ref 14)]) (st' := [.int 3, .int (μ.1 15 0), .int 0]) (μ' := μ) (by rfl) ?_
    refine zq_ic hc hH (by rfl) (tg := 36) (by rfl) (fun h53 => ?_) (fun h53 => ?_)
    · have h53 : (decide ((μ.1 15 0) = 3)) = false := decide_eq_false (cm_ne.mp h53)
      refine z_rcs hc hH 1 (pc' := 37) (lv' := [(3, .int 0), (2, .int 0), (1, .int 0), (0, .ref 14)]) (st' := [.int 0, .int 0]) (μ' := μ) (by rfl) ?_
      exact zJ hJ1 rfl (by first | with_reducible rfl | (simp only [h52, h53, lb_f, Int64.or_zero, Int32.add_zero, nB_t, nB_f, Bool.not_true, Bool.not_false, Bool.and_true, Bool.true_and, Bool.false_and, Bool.and_false, Bool.or_true, Bool.true_or, Bool.false_or, Bool.or_false, cond_true, cond_false]; done) | rfl) rfl
    · have h53 : (decide ((μ.1 15 0) = 3)) = true := decide_eq_true (cn_ne.mp h53)
      refine z_rcs hc hH 2 (pc' := 37) (lv' := [(3, .int 0), (2, .int 0), (1, .int 0), (0, .ref 14)]) (st' := [.int 1, .int 0]) (μ' := μ) (by rfl) ?_
      exact zJ hJ1 rfl (by first | with_reducible rfl | (simp only [h52, h53, lb_f, Int64.or_zero, Int32.add_zero, nB_t, nB_f, Bool.not_true, Bool.not_false, Bool.and_true, Bool.true_and, Bool.false_and, Bool.and_false, Bool.or_true, Bool.true_or, Bool.false_or, Bool.or_false, cond_true, cond_false]; done) | rfl) rfl
theorem fb_X1_tileForms (d : Nat) (hd : 4 ≤ d) (μ : zM) (ks : Int64) (ng : Bool) (hng : ∀ d, 3 ≤ d → z_C d mi_X1_isNineGates [.ref 14, .long ks] μ (zR μ (.int (nB ng)))) : z_C d mi_X1_tileForms [.ref 14, .long ks] μ (zR μ (.long ((((((((lb (decide ((lg_cmp (ks &&& 17113154305) 0) = 0)) 8) ||| (lb (decide ((lg_cmp (ks &&& (-17113154306)) 0) = 0)) 24)) ||| (lb ((decide ((((0 + (nB (!(decide ((lg_cmp (ks &&& (511 <<< ((0 : Int32).toInt64 &&& 63))) 0) = 0))))) + (nB (!(decide ((lg_cmp (ks &&& (511 <<< ((9 : Int32).toInt64 &&& 63))) 0) = 0))))) + (nB (!(decide ((lg_cmp (ks &&& (511 <<< ((18 : Int32).toInt64 &&& 63))) 0) = 0))))) = 1)) && (!(decide ((lg_cmp (ks &&& 17045651456) 0) = 0)))) 26)) ||| (lb ((decide ((((0 + (nB (!(decide ((lg_cmp (ks &&& (511 <<< ((0 : Int32).toInt64 &&& 63))) 0) = 0))))) + (nB (!(decide ((lg_cmp (ks &&& (511 <<< ((9 : Int32).toInt64 &&& 63))) 0) = 0))))) + (nB (!(decide ((lg_cmp (ks &&& (511 <<< ((18 : Int32).toInt64 &&& 63))) 0) = 0))))) = 1)) && (!(!(decide ((lg_cmp (ks &&& 17045651456) 0) = 0))))) 29)) ||| (lb (decide ((lg_cmp (ks &&& (-17045651457)) 0) = 0)) 37)) ||| (lb (decide ((lg_cmp (ks &&& (-67502850)) 0) = 0)) 38)) ||| (lb (decide ((lg_cmp (ks &&& (-4340580353)) 0) = 0)) 39)) ||| (lb ng 40)))) := by
  refine z_C_in (by decide) (by omega) (fun d' Z ed hc hr => ?_)
  have hH : zH mi_X1_tileForms zt_X1_tileForms 79 1 6 := hh_X1_tileForms
  refine z_rcs hc hH 5 (pc' := 7) (lv' := [(0, .ref 14), (1, .long ks)]) (st' := [.int (lg_cmp (ks &&& 17045651456) 0)]) (μ' := μ) (by rfl) ?_
  have hJ1 : Z 0 15 [(0, .ref 14), (1, .long ks)] [.int (nB (!(decide ((lg_cmp (ks &&& 17045651456) 0) = 0))))] μ := by
    refine z_rcs hc hH 18 (pc' := 43) (lv' := [(5, .int 0), (4, .int 0), (3, .int (nB (!(decide ((lg_cmp (ks &&& 17045651456) 0) = 0))))), (0, .ref 14), (1, .long ks)]) (st' := [.int (lg_cmp (ks &&& (511 <<< ((0 : Int32).toInt64 &&& 63))) 0), .int 0]) (μ' := μ) (by rfl) ?_
    have hJ2 : Z 0 51 [(5, .int 0), (4, .int 0), (3, .int (nB (!(decide ((lg_cmp (ks &&& 17045651456) 0) = 0))))), (0, .ref 14), (1, .long ks)] [.int (nB (!(decide ((lg_cmp (ks &&& (511 <<< ((0 : Int32).toInt64 &&& 63))) 0) = 0)))), .int 0] μ := by
      generalize hee3 : (!(decide ((lg_cmp (ks &&& (511 <<< ((0 : Int32).toInt64 &&& 63))) 0) = 0))) = ee3
      refine z_rcs hc hH 17 (pc' := 43) (lv' := [(5, .int 1), (4, .int (0 + (nB ee3))), (3, .int (nB (!(decide ((lg_cmp (ks &&& 17045651456) 0) = 0))))), (0, .ref 14), (1, .long ks)]) (st' := [.int (lg_cmp (ks &&& (511 <<< ((9 : Int32).toInt64 &&& 63))) 0), .int (0 + (nB ee3))]) (μ' := μ) (by rfl) ?_
      have hJ4 : Z 0 51 [(5, .int 1), (4, .int (0 + (nB ee3))), (3, .int (nB (!(decide ((lg_cmp (ks &&& 17045651456) 0) = 0))))), (0, .ref 14), (1, .long ks)] [.int (nB (!(decide ((lg_cmp (ks &&& (511 <<< ((9 : Int32).toInt64 &&& 63))) 0) = 0)))), .int (0 + (nB ee3))] μ := by
        generalize hee5 : (!(decide ((lg_cmp (ks &&& (511 <<< ((9 : Int32).toInt64 &&& 63))) 0) = 0))) = ee5
        refine z_rcs hc hH 17 (pc' := 43) (lv' := [(5, .int 2), (4, .int ((0 + (nB ee3)) + (nB ee5))), (3, .int (nB (!(decide ((lg_cmp (ks &&& 17045651456) 0) = 0))))), (0, .ref 14), (1, .long ks)]) (st' := [.int (lg_cmp (ks &&& (511 <<< ((18 : Int32).toInt64 &&& 63))) 0), .int ((0 + (nB ee3)) + (nB ee5))]) (μ' := μ) (by rfl) ?_
        have hJ6 : Z 0 51 [(5, .int 2), (4, .int ((0 + (nB ee3)) + (nB ee5))), (3, .int (nB (!(decide ((lg_cmp (ks &&& 17045651456) 0) = 0))))), (0, .ref 14), (1, .long ks)] [.int (nB (!(decide ((lg_cmp (ks &&& (511 <<< ((18 : Int32).toInt64 &&& 63))) 0) = 0)))), .int ((0 + (nB ee3)) + (nB ee5))] μ := by
          generalize hee7 : (!(decide ((lg_cmp (ks &&& (511 <<< ((18 : Int32).toInt64 &&& 63))) 0) = 0))) = ee7
          refine z_rcs hc hH 12 (pc' := 67) (lv' := [(5, .int 3), (4, .int (((0 + (nB ee3)) + (nB ee5)) + (nB ee7))), (3, .int (nB (!(decide ((lg_cmp (ks &&& 17045651456) 0) = 0))))), (0, .ref 14), (1, .long ks)]) (st' := [.int (lg_cmp (ks &&& 17113154305) 0)]) (μ' := μ) (by rfl) ?_
          have hJ8 : Z 0 75 [(5, .int 3), (4, .int (((0 + (nB ee3)) + (nB ee5)) + (nB ee7))), (3, .int (nB (!(decide ((lg_cmp (ks &&& 17045651456) 0) = 0))))), (0, .ref 14), (1, .long ks)] [.int (nB (decide ((lg_cmp (ks &&& 17113154305) 0) = 0)))] μ := by
            refine z_rcs hc hH 1 (pc' := 77) (lv' := [(5, .int 3), (4, .int (((0 + (nB ee3)) + (nB ee5)) + (nB ee7))), (3, .int (nB (!(decide ((lg_cmp (ks &&& 17045651456) 0) = 0))))), (0, .ref 14), (1, .long ks)]) (st' := [.int 8, .int (nB (decide ((lg_cmp (ks &&& 17113154305) 0) = 0)))]) (μ' := μ) (by rfl) ?_
            refine zq_call hc (z_cx_ok hH (by rfl)) (fb_X1_bit d' (by omega) μ (decide ((lg_cmp (ks &&& 17113154305) 0) = 0)) 8) (by decide +kernel) (fun r9 μ9 hq => ?_)
            obtain ⟨hμ9, rfl⟩ := hq
            rw [hμ9]
            clear hμ9 μ9
            show Z 0 80 [(5, .int 3), (4, .int (((0 + (nB ee3)) + (nB ee5)) + (nB ee7))), (3, .int (nB (!(decide ((lg_cmp (ks &&& 17045651456) 0) = 0))))), (0, .ref 14), (1, .long ks)] [.long (lb (decide ((lg_cmp (ks &&& 17113154305) 0) = 0)) 8)] μ
            refine z_rcs hc hH 5 (pc' := 87) (lv' := [(5, .int 3), (4, .int (((0 + (nB ee3)) + (nB ee5)) + (nB ee7))), (3, .int (nB (!(decide ((lg_cmp (ks &&& 17045651456) 0) = 0))))), (0, .ref 14), (1, .long ks)]) (st' := [.int (lg_cmp (ks &&& (-17113154306)) 0), .long (lb (decide ((lg_cmp (ks &&& 17113154305) 0) = 0)) 8)]) (μ' := μ) (by rfl) ?_
            have hJ9 : Z 0 95 [(5, .int 3), (4, .int (((0 + (nB ee3)) + (nB ee5)) + (nB ee7))), (3, .int (nB (!(decide ((lg_cmp (ks &&& 17045651456) 0) = 0))))), (0, .ref 14), (1, .long ks)] [.int (nB (decide ((lg_cmp (ks &&& (-17113154306)) 0) = 0))), .long (lb (decide ((lg_cmp (ks &&& 17113154305) 0) = 0)) 8)] μ := by
              refine z_rcs hc hH 1 (pc' := 97) (lv' := [(5, .int 3), (4, .int (((0 + (nB ee3)) + (nB ee5)) + (nB ee7))), (3, .int (nB (!(decide ((lg_cmp (ks &&& 17045651456) 0) = 0))))), (0, .ref 14), (1, .long ks)]) (st' := [.int 24, .int (nB (decide ((lg_cmp (ks &&& (-17113154306)) 0) = 0))), .long (lb (decide ((lg_cmp (ks &&& 17113154305) 0) = 0)) 8)]) (μ' := μ) (by rfl) ?_
              refine zq_call hc (z_cx_ok hH (by rfl)) (fb_X1_bit d' (by omega) μ (decide ((lg_cmp (ks &&& (-17113154306)) 0) = 0)) 24) (by decide +kernel) (fun r9 μ9 hq => ?_)
              obtain ⟨hμ9, rfl⟩ := hq
              rw [hμ9]
              clear hμ9 μ9
              show Z 0 100 [(5, .int 3), (4, .int (((0 + (nB ee3)) + (nB ee5)) + (nB ee7))), (3, .int (nB (!(decide ((lg_cmp (ks &&& 17045651456) 0) = 0))))), (0, .ref 14), (1, .long ks)] [.long (lb (decide ((lg_cmp (ks &&& (-17113154306)) 0) = 0)) 24), .long (lb (decide ((lg_cmp (ks &&& 17113154305) 0) = 0)) 8)] μ
              refine z_rcs hc hH 3 (pc' := 104) (lv' := [(5, .int 3), (4, .int (((0 + (nB ee3)) + (nB ee5)) + (nB ee7))), (3, .int (nB (!(decide ((lg_cmp (ks &&& 17045651456) 0) = 0))))), (0, .ref 14), (1, .long ks)]) (st' := [.int 1, .int (((0 + (nB ee3)) + (nB ee5)) + (nB ee7)), .long ((lb (decide ((lg_cmp (ks &&& 17113154305) 0) = 0)) 8) ||| (lb (decide ((lg_cmp (ks &&& (-17113154306)) 0) = 0)) 24))]) (μ' := μ) (by rfl) ?_
              have hJ10 : Z 0 116 [(5, .int 3), (4, .int (((0 + (nB ee3)) + (nB ee5)) + (nB ee7))), (3, .int (nB (!(decide ((lg_cmp (ks &&& 17045651456) 0) = 0))))), (0, .ref 14), (1, .long ks)] [.int (nB ((decide ((((0 + (nB ee3)) + (nB ee5)) + (nB ee7)) = 1)) && (!(decide ((lg_cmp (ks &&& 17045651456) 0) = 0))))), .long ((lb (decide ((lg_cmp (ks &&& 17113154305) 0) = 0)) 8) ||| (lb (decide ((lg_cmp (ks &&& (-17113154306)) 0) = 0)) 24))] μ := by
                generalize hee11 : ((decide ((((0 + (nB ee3)) + (nB ee5)) + (nB ee7)) = 1)) && (!(decide ((lg_cmp (ks &&& 17045651456) 0) = 0)))) = ee11
                generalize hyy12 : ((lb (decide ((lg_cmp (ks &&& 17113154305) 0) = 0)) 8) ||| (lb (decide ((lg_cmp (ks &&& (-17113154306)) 0) = 0)) 24) : Int64) = yy12
                refine z_rcs hc hH 1 (pc' := 118) (lv' := [(5, .int 3), (4, .int (((0 + (nB ee3)) + (nB ee5)) + (nB ee7))), (3, .int (nB (!(decide ((lg_cmp (ks &&& 17045651456) 0) = 0))))), (0, .ref 14), (1, .long ks)]) (st' := [.int 26, .int (nB ee11), .long yy12]) (μ' := μ) (by rfl) ?_
                refine zq_call hc (z_cx_ok hH (by rfl)) (fb_X1_bit d' (by omega) μ ee11 26) (by decide +kernel) (fun r9 μ9 hq => ?_)
                obtain ⟨hμ9, rfl⟩ := hq
                rw [hμ9]
                clear hμ9 μ9
                show Z 0 121 [(5, .int 3), (4, .int (((0 + (nB ee3)) + (nB ee5)) + (nB ee7))), (3, .int (nB (!(decide ((lg_cmp (ks &&& 17045651456) 0) = 0))))), (0, .ref 14), (1, .long ks)] [.long (lb ee11 26), .long yy12] μ
                refine z_rcs hc hH 3 (pc' := 125) (lv' := [(5, .int 3), (4, .int (((0 + (nB ee3)) + (nB ee5)) + (nB ee7))), (3, .int (nB (!(decide ((lg_cmp (ks &&& 17045651456) 0) = 0))))), (0, .ref 14), (1, .long ks)]) (st' := [.int 1, .int (((0 + (nB ee3)) + (nB ee5)) + (nB ee7)), .long (yy12 ||| (lb ee11 26))]) (μ' := μ) (by rfl) ?_
                have hJ13 : Z 0 137 [(5, .int 3), (4, .int (((0 + (nB ee3)) + (nB ee5)) + (nB ee7))), (3, .int (nB (!(decide ((lg_cmp (ks &&& 17045651456) 0) = 0))))), (0, .ref 14), (1, .long ks)] [.int (nB ((decide ((((0 + (nB ee3)) + (nB ee5)) + (nB ee7)) = 1)) && (!(!(decide ((lg_cmp (ks &&& 17045651456) 0) = 0)))))), .long (yy12 ||| (lb ee11 26))] μ := by
                  generalize hee14 : ((decide ((((0 + (nB ee3)) + (nB ee5)) + (nB ee7)) = 1)) && (!(!(decide ((lg_cmp (ks &&& 17045651456) 0) = 0))))) = ee14
                  refine z_rcs hc hH 1 (pc' := 139) (lv' := [(5, .int 3), (4, .int (((0 + (nB ee3)) + (nB ee5)) + (nB ee7))), (3, .int (nB (!(decide ((lg_cmp (ks &&& 17045651456) 0) = 0))))), (0, .ref 14), (1, .long ks)]) (st' := [.int 29, .int (nB ee14), .long (yy12 ||| (lb ee11 26))]) (μ' := μ) (by rfl) ?_
                  refine zq_call hc (z_cx_ok hH (by rfl)) (fb_X1_bit d' (by omega) μ ee14 29) (by decide +kernel) (fun r9 μ9 hq => ?_)
                  obtain ⟨hμ9, rfl⟩ := hq
                  rw [hμ9]
                  clear hμ9 μ9
                  show Z 0 142 [(5, .int 3), (4, .int (((0 + (nB ee3)) + (nB ee5)) + (nB ee7))), (3, .int (nB (!(decide ((lg_cmp (ks &&& 17045651456) 0) = 0))))), (0, .ref 14), (1, .long ks)] [.long (lb ee14 29), .long (yy12 ||| (lb ee11 26))] μ
                  refine z_rcs hc hH 6 (pc' := 150) (lv' := [(5, .int 3), (4, .int (((0 + (nB ee3)) + (nB ee5)) + (nB ee7))), (3, .int (nB (!(decide ((lg_cmp (ks &&& 17045651456) 0) = 0))))), (0, .ref 14), (1, .long ks)]) (st' := [.int (lg_cmp (ks &&& (-17045651457)) 0), .long ((yy12 ||| (lb ee11 26)) ||| (lb ee14 29))]) (μ' := μ) (by rfl) ?_
                  have hJ15 : Z 0 158 [(5, .int 3), (4, .int (((0 + (nB ee3)) + (nB ee5)) + (nB ee7))), (3, .int (nB (!(decide ((lg_cmp (ks &&& 17045651456) 0) = 0))))), (0, .ref 14), (1, .long ks)] [.int (nB (decide ((lg_cmp (ks &&& (-17045651457)) 0) = 0))), .long ((yy12 ||| (lb ee11 26)) ||| (lb ee14 29))] μ := by
                    refine z_rcs hc hH 1 (pc' := 160) (lv' := [(5, .int 3), (4, .int (((0 + (nB ee3)) + (nB ee5)) + (nB ee7))), (3, .int (nB (!(decide ((lg_cmp (ks &&& 17045651456) 0) = 0))))), (0, .ref 14), (1, .long ks)]) (st' := [.int 37, .int (nB (decide ((lg_cmp (ks &&& (-17045651457)) 0) = 0))), .long ((yy12 ||| (lb ee11 26)) ||| (lb ee14 29))]) (μ' := μ) (by rfl) ?_
                    refine zq_call hc (z_cx_ok hH (by rfl)) (fb_X1_bit d' (by omega) μ (decide ((lg_cmp (ks &&& (-17045651457)) 0) = 0)) 37) (by decide +kernel) (fun r9 μ9 hq => ?_)
                    obtain ⟨hμ9, rfl⟩ := hq
                    rw [hμ9]
                    clear hμ9 μ9
                    show Z 0 163 [(5, .int 3), (4, .int (((0 + (nB ee3)) + (nB ee5)) + (nB ee7))), (3, .int (nB (!(decide ((lg_cmp (ks &&& 17045651456) 0) = 0))))), (0, .ref 14), (1, .long ks)] [.long (lb (decide ((lg_cmp (ks &&& (-17045651457)) 0) = 0)) 37), .long ((yy12 ||| (lb ee11 26)) ||| (lb ee14 29))] μ
                    refine z_rcs hc hH 6 (pc' := 171) (lv' := [(5, .int 3), (4, .int (((0 + (nB ee3)) + (nB ee5)) + (nB ee7))), (3, .int (nB (!(decide ((lg_cmp (ks &&& 17045651456) 0) = 0))))), (0, .ref 14), (1, .long ks)]) (st' := [.int (lg_cmp (ks &&& (-67502850)) 0), .long (((yy12 ||| (lb ee11 26)) ||| (lb ee14 29)) ||| (lb (decide ((lg_cmp (ks &&& (-17045651457)) 0) = 0)) 37))]) (μ' := μ) (by rfl) ?_
                    have hJ16 : Z 0 179 [(5, .int 3), (4, .int (((0 + (nB ee3)) + (nB ee5)) + (nB ee7))), (3, .int (nB (!(decide ((lg_cmp (ks &&& 17045651456) 0) = 0))))), (0, .ref 14), (1, .long ks)] [.int (nB (decide ((lg_cmp (ks &&& (-67502850)) 0) = 0))), .long (((yy12 ||| (lb ee11 26)) ||| (lb ee14 29)) ||| (lb (decide ((lg_cmp (ks &&& (-17045651457)) 0) = 0)) 37))] μ := by
                      generalize hyy17 : (((yy12 ||| (lb ee11 26)) ||| (lb ee14 29)) ||| (lb (decide ((lg_cmp (ks &&& (-17045651457)) 0) = 0)) 37) : Int64) = yy17
                      refine z_rcs hc hH 1 (pc' := 181) (lv' := [(5, .int 3), (4, .int (((0 + (nB ee3)) + (nB ee5)) + (nB ee7))), (3, .int (nB (!(decide ((lg_cmp (ks &&& 17045651456) 0) = 0))))), (0, .ref 14), (1, .long ks)]) (st' := [.int 38, .int (nB (decide ((lg_cmp (ks &&& (-67502850)) 0) = 0))), .long yy17]) (μ' := μ) (by rfl) ?_
                      refine zq_call hc (z_cx_ok hH (by rfl)) (fb_X1_bit d' (by omega) μ (decide ((lg_cmp (ks &&& (-67502850)) 0) = 0)) 38) (by decide +kernel) (fun r9 μ9 hq => ?_)
                      obtain ⟨hμ9, rfl⟩ := hq
                      rw [hμ9]
                      clear hμ9 μ9
                      show Z 0 184 [(5, .int 3), (4, .int (((0 + (nB ee3)) + (nB ee5)) + (nB ee7))), (3, .int (nB (!(decide ((lg_cmp (ks &&& 17045651456) 0) = 0))))), (0, .ref 14), (1, .long ks)] [.long (lb (decide ((lg_cmp (ks &&& (-67502850)) 0) = 0)) 38), .long yy17] μ
                      refine z_rcs hc hH 6 (pc' := 192) (lv' := [(5, .int 3), (4, .int (((0 + (nB ee3)) + (nB ee5)) + (nB ee7))), (3, .int (nB (!(decide ((lg_cmp (ks &&& 17045651456) 0) = 0))))), (0, .ref 14), (1, .long ks)]) (st' := [.int (lg_cmp (ks &&& (-4340580353)) 0), .long (yy17 ||| (lb (decide ((lg_cmp (ks &&& (-67502850)) 0) = 0)) 38))]) (μ' := μ) (by rfl) ?_
                      have hJ18 : Z 0 200 [(5, .int 3), (4, .int (((0 + (nB ee3)) + (nB ee5)) + (nB ee7))), (3, .int (nB (!(decide ((lg_cmp (ks &&& 17045651456) 0) = 0))))), (0, .ref 14), (1, .long ks)] [.int (nB (decide ((lg_cmp (ks &&& (-4340580353)) 0) = 0))), .long (yy17 ||| (lb (decide ((lg_cmp (ks &&& (-67502850)) 0) = 0)) 38))] μ := by
                        refine z_rcs hc hH 1 (pc' := 202) (lv' := [(5, .int 3), (4, .int (((0 + (nB ee3)) + (nB ee5)) + (nB ee7))), (3, .int (nB (!(decide ((lg_cmp (ks &&& 17045651456) 0) = 0))))), (0, .ref 14), (1, .long ks)]) (st' := [.int 39, .int (nB (decide ((lg_cmp (ks &&& (-4340580353)) 0) = 0))), .long (yy17 ||| (lb (decide ((lg_cmp (ks &&& (-67502850)) 0) = 0)) 38))]) (μ' := μ) (by rfl) ?_
                        refine zq_call hc (z_cx_ok hH (by rfl)) (fb_X1_bit d' (by omega) μ (decide ((lg_cmp (ks &&& (-4340580353)) 0) = 0)) 39) (by decide +kernel) (fun r9 μ9 hq => ?_)
                        obtain ⟨hμ9, rfl⟩ := hq
                        rw [hμ9]
                        clear hμ9 μ9
                        show Z 0 205 [(5, .int 3), (4, .int (((0 + (nB ee3)) + (nB ee5)) + (nB ee7))), (3, .int (nB (!(decide ((lg_cmp (ks &&& 17045651456) 0) = 0))))), (0, .ref 14), (1, .long ks)] [.long (lb (decide ((lg_cmp (ks &&& (-4340580353)) 0) = 0)) 39), .long (yy17 ||| (lb (decide ((lg_cmp (ks &&& (-67502850)) 0) = 0)) 38))] μ
                        refine z_rcs hc hH 3 (pc' := 208) (lv' := [(5, .int 3), (4, .int (((0 + (nB ee3)) + (nB ee5)) + (nB ee7))), (3, .int (nB (!(decide ((lg_cmp (ks &&& 17045651456) 0) = 0))))), (0, .ref 14), (1, .long ks)]) (st' := [.long ks, .ref 14, .long ((yy17 ||| (lb (decide ((lg_cmp (ks &&& (-67502850)) 0) = 0)) 38)) ||| (lb (decide ((lg_cmp (ks &&& (-4340580353)) 0) = 0)) 39))]) (μ' := μ) (by rfl) ?_
                        refine zq_call hc (z_cx_ok hH (by rfl)) (hng d' (by omega)) (by decide +kernel) (fun r9 μ9 hq => ?_)
                        obtain ⟨hμ9, rfl⟩ := hq
                        rw [hμ9]
                        clear hμ9 μ9
                        show Z 0 211 [(5, .int 3), (4, .int (((0 + (nB ee3)) + (nB ee5)) + (nB ee7))), (3, .int (nB (!(decide ((lg_cmp (ks &&& 17045651456) 0) = 0))))), (0, .ref 14), (1, .long ks)] [.int (nB ng), .long ((yy17 ||| (lb (decide ((lg_cmp (ks &&& (-67502850)) 0) = 0)) 38)) ||| (lb (decide ((lg_cmp (ks &&& (-4340580353)) 0) = 0)) 39))] μ
                        refine z_rcs hc hH 1 (pc' := 213) (lv' := [(5, .int 3), (4, .int (((0 + (nB ee3)) + (nB ee5)) + (nB ee7))), (3, .int (nB (!(decide ((lg_cmp (ks &&& 17045651456) 0) = 0))))), (0, .ref 14), (1, .long ks)]) (st' := [.int 40, .int (nB ng), .long ((yy17 ||| (lb (decide ((lg_cmp (ks &&& (-67502850)) 0) = 0)) 38)) ||| (lb (decide ((lg_cmp (ks &&& (-4340580353)) 0) = 0)) 39))]) (μ' := μ) (by rfl) ?_
                        refine zq_call hc (z_cx_ok hH (by rfl)) (fb_X1_bit d' (by omega) μ ng 40) (by decide +kernel) (fun r9 μ9 hq => ?_)
                        obtain ⟨hμ9, rfl⟩ := hq
                        rw [hμ9]
                        clear hμ9 μ9
                        show Z 0 216 [(5, .int 3), (4, .int (((0 + (nB ee3)) + (nB ee5)) + (nB ee7))), (3, .int (nB (!(decide ((lg_cmp (ks &&& 17045651456) 0) = 0))))), (0, .ref 14), (1, .long ks)] [.long (lb ng 40), .long ((yy17 ||| (lb (decide ((lg_cmp (ks &&& (-67502850)) 0) = 0)) 38)) ||| (lb (decide ((lg_cmp (ks &&& (-4340580353)) 0) = 0)) 39))] μ
                        refine z_rcs hc hH 1 (pc' := 217) (lv' := [(5, .int 3), (4, .int (((0 + (nB ee3)) + (nB ee5)) + (nB ee7))), (3, .int (nB (!(decide ((lg_cmp (ks &&& 17045651456) 0) = 0))))), (0, .ref 14), (1, .long ks)]) (st' := [.long (((yy17 ||| (lb (decide ((lg_cmp (ks &&& (-67502850)) 0) = 0)) 38)) ||| (lb (decide ((lg_cmp (ks &&& (-4340580353)) 0) = 0)) 39)) ||| (lb ng 40))]) (μ' := μ) (by rfl) ?_
                        exact hr 0 217 _ _ _ (some (.long (((yy17 ||| (lb (decide ((lg_cmp (ks &&& (-67502850)) 0) = 0)) 38)) ||| (lb (decide ((lg_cmp (ks &&& (-4340580353)) 0) = 0)) 39)) ||| (lb ng 40)))) (by decide +kernel) (z_rx_ok hH (by rfl)) (⟨rfl, (by subst hyy17; subst hee14; subst hyy12; subst hee11; subst hee7; subst hee5; subst hee3; rfl)⟩)
                      refine zq_if hc hH (by rfl) (tg := 199) (by rfl) (fun h19 => ?_) (fun h19 => ?_)
                      · have h19 : (decide ((lg_cmp (ks &&& (-4340580353)) 0) = 0)) = false := decide_eq_false (cm_ne.mp h19)
                        refine z_rcs hc hH 1 (pc' := 200) (lv' := [(5, .int 3), (4, .int (((0 + (nB ee3)) + (nB ee5)) + (nB ee7))), (3, .int (nB (!(decide ((lg_cmp (ks &&& 17045651456) 0) = 0))))), (0, .ref 14), (1, .long ks)]) (st' := [.int 0, .long (yy17 ||| (lb (decide ((lg_cmp (ks &&& (-67502850)) 0) = 0)) 38))]) (μ' := μ) (by rfl) ?_
                        exact zJ hJ18 rfl (by first | with_reducible rfl | (simp only [h19, lb_f, Int64.or_zero, Int32.add_zero, nB_t, nB_f, Bool.not_true, Bool.not_false, Bool.and_true, Bool.true_and, Bool.false_and, Bool.and_false, Bool.or_true, Bool.true_or, Bool.false_or, Bool.or_false, cond_true, cond_false]; done) | rfl) rfl
                      · have h19 : (decide ((lg_cmp (ks &&& (-4340580353)) 0) = 0)) = true := decide_eq_true (cn_ne.mp h19)
                        refine z_rcs hc hH 2 (pc' := 200) (lv' := [(5, .int 3), (4, .int (((0 + (nB ee3)) + (nB ee5)) + (nB ee7))), (3, .int (nB (!(decide ((lg_cmp (ks &&& 17045651456) 0) = 0))))), (0, .ref 14), (1, .long ks)]) (st' := [.int 1, .long (yy17 ||| (lb (decide ((lg_cmp (ks &&& (-67502850)) 0) = 0)) 38))]) (μ' := μ) (by rfl) ?_
                        exact zJ hJ18 rfl (by first | with_reducible rfl | (simp only [h19, lb_f, Int64.or_zero, Int32.add_zero, nB_t, nB_f, Bool.not_true, Bool.not_false, Bool.and_true, Bool.true_and, Bool.false_and, Bool.and_false, Bool.or_true, Bool.true_or, Bool.false_or, Bool.or_false, cond_true, cond_false]; done) | rfl) rfl
                    refine zq_if hc hH (by rfl) (tg := 178) (by rfl) (fun h20 => ?_) (fun h20 => ?_)
                    · have h20 : (decide ((lg_cmp (ks &&& (-67502850)) 0) = 0)) = false := decide_eq_false (cm_ne.mp h20)
                      refine z_rcs hc hH 1 (pc' := 179) (lv' := [(5, .int 3), (4, .int (((0 + (nB ee3)) + (nB ee5)) + (nB ee7))), (3, .int (nB (!(decide ((lg_cmp (ks &&& 17045651456) 0) = 0))))), (0, .ref 14), (1, .long ks)]) (st' := [.int 0, .long (((yy12 ||| (lb ee11 26)) ||| (lb ee14 29)) ||| (lb (decide ((lg_cmp (ks &&& (-17045651457)) 0) = 0)) 37))]) (μ' := μ) (by rfl) ?_
                      exact zJ hJ16 rfl (by first | with_reducible rfl | (simp only [h20, lb_f, Int64.or_zero, Int32.add_zero, nB_t, nB_f, Bool.not_true, Bool.not_false, Bool.and_true, Bool.true_and, Bool.false_and, Bool.and_false, Bool.or_true, Bool.true_or, Bool.false_or, Bool.or_false, cond_true, cond_false]; done) | rfl) rfl
                    · have h20 : (decide ((lg_cmp (ks &&& (-67502850)) 0) = 0)) = true := decide_eq_true (cn_ne.mp h20)
                      refine z_rcs hc hH 2 (pc' := 179) (lv' := [(5, .int 3), (4, .int (((0 + (nB ee3)) + (nB ee5)) + (nB ee7))), (3, .int (nB (!(decide ((lg_cmp (ks &&& 17045651456) 0) = 0))))), (0, .ref 14), (1, .long ks)]) (st' := [.int 1, .long (((yy12 ||| (lb ee11 26)) ||| (lb ee14 29)) ||| (lb (decide ((lg_cmp (ks &&& (-17045651457)) 0) = 0)) 37))]) (μ' := μ) (by rfl) ?_
                      exact zJ hJ16 rfl (by first | with_reducible rfl | (simp only [h20, lb_f, Int64.or_zero, Int32.add_zero, nB_t, nB_f, Bool.not_true, Bool.not_false, Bool.and_true, Bool.true_and, Bool.false_and, Bool.and_false, Bool.or_true, Bool.true_or, Bool.false_or, Bool.or_false, cond_true, cond_false]; done) | rfl) rfl
                  refine zq_if hc hH (by rfl) (tg := 157) (by rfl) (fun h21 => ?_) (fun h21 => ?_)
                  · have h21 : (decide ((lg_cmp (ks &&& (-17045651457)) 0) = 0)) = false := decide_eq_false (cm_ne.mp h21)
                    refine z_rcs hc hH 1 (pc' := 158) (lv' := [(5, .int 3), (4, .int (((0 + (nB ee3)) + (nB ee5)) + (nB ee7))), (3, .int (nB (!(decide ((lg_cmp (ks &&& 17045651456) 0) = 0))))), (0, .ref 14), (1, .long ks)]) (st' := [.int 0, .long ((yy12 ||| (lb ee11 26)) ||| (lb ee14 29))]) (μ' := μ) (by rfl) ?_
                    exact zJ hJ15 rfl (by first | with_reducible rfl | (simp only [h21, lb_f, Int64.or_zero, Int32.add_zero, nB_t, nB_f, Bool.not_true, Bool.not_false, Bool.and_true, Bool.true_and, Bool.false_and, Bool.and_false, Bool.or_true, Bool.true_or, Bool.false_or, Bool.or_false, cond_true, cond_false]; done) | rfl) rfl
                  · have h21 : (decide ((lg_cmp (ks &&& (-17045651457)) 0) = 0)) = true := decide_eq_true (cn_ne.mp h21)
                    refine z_rcs hc hH 2 (pc' := 158) (lv' := [(5, .int 3), (4, .int (((0 + (nB ee3)) + (nB ee5)) + (nB ee7))), (3, .int (nB (!(decide ((lg_cmp (ks &&& 17045651456) 0) = 0))))), (0, .ref 14), (1, .long ks)]) (st' := [.int 1, .long ((yy12 ||| (lb ee11 26)) ||| (lb ee14 29))]) (μ' := μ) (by rfl) ?_
                    exact zJ hJ15 rfl (by first | with_reducible rfl | (simp only [h21, lb_f, Int64.or_zero, Int32.add_zero, nB_t, nB_f, Bool.not_true, Bool.not_false, Bool.and_true, Bool.true_and, Bool.false_and, Bool.and_false, Bool.or_true, Bool.true_or, Bool.false_or, Bool.or_false, cond_true, cond_false]; done) | rfl) rfl
                refine zq_ic hc hH (by rfl) (tg := 136) (by rfl) (fun h22 => ?_) (fun h22 => ?_)
                · have h22 : (decide ((((0 + (nB ee3)) + (nB ee5)) + (nB ee7)) = 1)) = false := decide_eq_false (cm_ne.mp h22)
                  refine z_rcs hc hH 1 (pc' := 137) (lv' := [(5, .int 3), (4, .int (((0 + (nB ee3)) + (nB ee5)) + (nB ee7))), (3, .int (nB (!(decide ((lg_cmp (ks &&& 17045651456) 0) = 0))))), (0, .ref 14), (1, .long ks)]) (st' := [.int 0, .long (yy12 ||| (lb ee11 26))]) (μ' := μ) (by rfl) ?_
                  exact zJ hJ13 rfl (by first | with_reducible rfl | (simp only [h22, lb_f, Int64.or_zero, Int32.add_zero, nB_t, nB_f, Bool.not_true, Bool.not_false, Bool.and_true, Bool.true_and, Bool.false_and, Bool.and_false, Bool.or_true, Bool.true_or, Bool.false_or, Bool.or_false, cond_true, cond_false]; done) | rfl) rfl
                · have h22 : (decide ((((0 + (nB ee3)) + (nB ee5)) + (nB ee7)) = 1)) = true := decide_eq_true (cn_ne.mp h22)
                  refine z_rcs hc hH 1 (pc' := 129) (lv' := [(5, .int 3), (4, .int (((0 + (nB ee3)) + (nB ee5)) + (nB ee7))), (3, .int (nB (!(decide ((lg_cmp (ks &&& 17045651456) 0) = 0))))), (0, .ref 14), (1, .long ks)]) (st' := [.int (nB (!(decide ((lg_cmp (ks &&& 17045651456) 0) = 0)))), .long (yy12 ||| (lb ee11 26))]) (μ' := μ) (by rfl) ?_
                  refine zq_if hc hH (by rfl) (tg := 136) (by rfl) (fun h23 => ?_) (fun h23 => ?_)
                  · have h23 : (!(decide ((lg_cmp (ks &&& 17045651456) 0) = 0))) = true := nB_n.mp (cm_ne.mp h23)
                    refine z_rcs hc hH 1 (pc' := 137) (lv' := [(5, .int 3), (4, .int (((0 + (nB ee3)) + (nB ee5)) + (nB ee7))), (3, .int (nB (!(decide ((lg_cmp (ks &&& 17045651456) 0) = 0))))), (0, .ref 14), (1, .long ks)]) (st' := [.int 0, .long (yy12 ||| (lb ee11 26))]) (μ' := μ) (by rfl) ?_
                    exact zJ hJ13 rfl (by first | with_reducible rfl | (simp only [h22, h23, lb_f, Int64.or_zero, Int32.add_zero, nB_t, nB_f, Bool.not_true, Bool.not_false, Bool.and_true, Bool.true_and, Bool.false_and, Bool.and_false, Bool.or_true, Bool.true_or, Bool.false_or, Bool.or_false, cond_true, cond_false]; done) | rfl) rfl
                  · have h23 : (!(decide ((lg_cmp (ks &&& 17045651456) 0) = 0))) = false := nB_z.mp (cn_ne.mp h23)
                    refine z_rcs hc hH 2 (pc' := 137) (lv' := [(5, .int 3), (4, .int (((0 + (nB ee3)) + (nB ee5)) + (nB ee7))), (3, .int (nB (!(decide ((lg_cmp (ks &&& 17045651456) 0) = 0))))), (0, .ref 14), (1, .long ks)]) (st' := [.int 1, .long (yy12 ||| (lb ee11 26))]) (μ' := μ) (by rfl) ?_
                    exact zJ hJ13 rfl (by first | with_reducible rfl | (simp only [h22, h23, lb_f, Int64.or_zero, Int32.add_zero, nB_t, nB_f, Bool.not_true, Bool.not_false, Bool.and_true, Bool.true_and, Bool.false_and, Bool.and_false, Bool.or_true, Bool.true_or, Bool.false_or, Bool.or_false, cond_true, cond_false]; done) | rfl) rfl
              refine zq_ic hc hH (by rfl) (tg := 115) (by rfl) (fun h24 => ?_) (fun h24 => ?_)
              · have h24 : (decide ((((0 + (nB ee3)) + (nB ee5)) + (nB ee7)) = 1)) = false := decide_eq_false (cm_ne.mp h24)
                refine z_rcs hc hH 1 (pc' := 116) (lv' := [(5, .int 3), (4, .int (((0 + (nB ee3)) + (nB ee5)) + (nB ee7))), (3, .int (nB (!(decide ((lg_cmp (ks &&& 17045651456) 0) = 0))))), (0, .ref 14), (1, .long ks)]) (st' := [.int 0, .long ((lb (decide ((lg_cmp (ks &&& 17113154305) 0) = 0)) 8) ||| (lb (decide ((lg_cmp (ks &&& (-17113154306)) 0) = 0)) 24))]) (μ' := μ) (by rfl) ?_
                exact zJ hJ10 rfl (by first | with_reducible rfl | (simp only [h24, lb_f, Int64.or_zero, Int32.add_zero, nB_t, nB_f, Bool.not_true, Bool.not_false, Bool.and_true, Bool.true_and, Bool.false_and, Bool.and_false, Bool.or_true, Bool.true_or, Bool.false_or, Bool.or_false, cond_true, cond_false]; done) | rfl) rfl
              · have h24 : (decide ((((0 + (nB ee3)) + (nB ee5)) + (nB ee7)) = 1)) = true := decide_eq_true (cn_ne.mp h24)
                refine z_rcs hc hH 1 (pc' := 108) (lv' := [(5, .int 3), (4, .int (((0 + (nB ee3)) + (nB ee5)) + (nB ee7))), (3, .int (nB (!(decide ((lg_cmp (ks &&& 17045651456) 0) = 0))))), (0, .ref 14), (1, .long ks)]) (st' := [.int (nB (!(decide ((lg_cmp (ks &&& 17045651456) 0) = 0)))), .long ((lb (decide ((lg_cmp (ks &&& 17113154305) 0) = 0)) 8) ||| (lb (decide ((lg_cmp (ks &&& (-17113154306)) 0) = 0)) 24))]) (μ' := μ) (by rfl) ?_
                refine zq_if hc hH (by rfl) (tg := 115) (by rfl) (fun h25 => ?_) (fun h25 => ?_)
                · have h25 : (!(decide ((lg_cmp (ks &&& 17045651456) 0) = 0))) = false := nB_z.mp (cm_eq9.mp h25)
                  refine z_rcs hc hH 1 (pc' := 116) (lv' := [(5, .int 3), (4, .int (((0 + (nB ee3)) + (nB ee5)) + (nB ee7))), (3, .int (nB (!(decide ((lg_cmp (ks &&& 17045651456) 0) = 0))))), (0, .ref 14), (1, .long ks)]) (st' := [.int 0, .long ((lb (decide ((lg_cmp (ks &&& 17113154305) 0) = 0)) 8) ||| (lb (decide ((lg_cmp (ks &&& (-17113154306)) 0) = 0)) 24))]) (μ' := μ) (by rfl) ?_
                  exact zJ hJ10 rfl (by first | with_reducible rfl | (simp only [h24, h25, lb_f, Int64.or_zero, Int32.add_zero, nB_t, nB_f, Bool.not_true, Bool.not_false, Bool.and_true, Bool.true_and, Bool.false_and, Bool.and_false, Bool.or_true, Bool.true_or, Bool.false_or, Bool.or_false, cond_true, cond_false]; done) | rfl) rfl
                · have h25 : (!(decide ((lg_cmp (ks &&& 17045651456) 0) = 0))) = true := nB_n.mp (cn_eq.mp h25)
                  refine z_rcs hc hH 2 (pc' := 116) (lv' := [(5, .int 3), (4, .int (((0 + (nB ee3)) + (nB ee5)) + (nB ee7))), (3, .int (nB (!(decide ((lg_cmp (ks &&& 17045651456) 0) = 0))))), (0, .ref 14), (1, .long ks)]) (st' := [.int 1, .long ((lb (decide ((lg_cmp (ks &&& 17113154305) 0) = 0)) 8) ||| (lb (decide ((lg_cmp (ks &&& (-17113154306)) 0) = 0)) 24))]) (μ' := μ) (by rfl) ?_
                  exact zJ hJ10 rfl (by first | with_reducible rfl | (simp only [h24, h25, lb_f, Int64.or_zero, Int32.add_zero, nB_t, nB_f, Bool.not_true, Bool.not_false, Bool.and_true, Bool.true_and, Bool.false_and, Bool.and_false, Bool.or_true, Bool.true_or, Bool.false_or, Bool.or_false, cond_true, cond_false]; done) | rfl) rfl
            refine zq_if hc hH (by rfl) (tg := 94) (by rfl) (fun h26 => ?_) (fun h26 => ?_)
            · have h26 : (decide ((lg_cmp (ks &&& (-17113154306)) 0) = 0)) = false := decide_eq_false (cm_ne.mp h26)
              refine z_rcs hc hH 1 (pc' := 95) (lv' := [(5, .int 3), (4, .int (((0 + (nB ee3)) + (nB ee5)) + (nB ee7))), (3, .int (nB (!(decide ((lg_cmp (ks &&& 17045651456) 0) = 0))))), (0, .ref 14), (1, .long ks)]) (st' := [.int 0, .long (lb (decide ((lg_cmp (ks &&& 17113154305) 0) = 0)) 8)]) (μ' := μ) (by rfl) ?_
              exact zJ hJ9 rfl (by first | with_reducible rfl | (simp only [h26, lb_f, Int64.or_zero, Int32.add_zero, nB_t, nB_f, Bool.not_true, Bool.not_false, Bool.and_true, Bool.true_and, Bool.false_and, Bool.and_false, Bool.or_true, Bool.true_or, Bool.false_or, Bool.or_false, cond_true, cond_false]; done) | rfl) rfl
            · have h26 : (decide ((lg_cmp (ks &&& (-17113154306)) 0) = 0)) = true := decide_eq_true (cn_ne.mp h26)
              refine z_rcs hc hH 2 (pc' := 95) (lv' := [(5, .int 3), (4, .int (((0 + (nB ee3)) + (nB ee5)) + (nB ee7))), (3, .int (nB (!(decide ((lg_cmp (ks &&& 17045651456) 0) = 0))))), (0, .ref 14), (1, .long ks)]) (st' := [.int 1, .long (lb (decide ((lg_cmp (ks &&& 17113154305) 0) = 0)) 8)]) (μ' := μ) (by rfl) ?_
              exact zJ hJ9 rfl (by first | with_reducible rfl | (simp only [h26, lb_f, Int64.or_zero, Int32.add_zero, nB_t, nB_f, Bool.not_true, Bool.not_false, Bool.and_true, Bool.true_and, Bool.false_and, Bool.and_false, Bool.or_true, Bool.true_or, Bool.false_or, Bool.or_false, cond_true, cond_false]; done) | rfl) rfl
          refine zq_if hc hH (by rfl) (tg := 74) (by rfl) (fun h27 => ?_) (fun h27 => ?_)
          · have h27 : (decide ((lg_cmp (ks &&& 17113154305) 0) = 0)) = false := decide_eq_false (cm_ne.mp h27)
            refine z_rcs hc hH 1 (pc' := 75) (lv' := [(5, .int 3), (4, .int (((0 + (nB ee3)) + (nB ee5)) + (nB ee7))), (3, .int (nB (!(decide ((lg_cmp (ks &&& 17045651456) 0) = 0))))), (0, .ref 14), (1, .long ks)]) (st' := [.int 0]) (μ' := μ) (by rfl) ?_
            exact zJ hJ8 rfl (by first | with_reducible rfl | (simp only [h27, lb_f, Int64.or_zero, Int32.add_zero, nB_t, nB_f, Bool.not_true, Bool.not_false, Bool.and_true, Bool.true_and, Bool.false_and, Bool.and_false, Bool.or_true, Bool.true_or, Bool.false_or, Bool.or_false, cond_true, cond_false]; done) | rfl) rfl
          · have h27 : (decide ((lg_cmp (ks &&& 17113154305) 0) = 0)) = true := decide_eq_true (cn_ne.mp h27)
            refine z_rcs hc hH 2 (pc' := 75) (lv' := [(5, .int 3), (4, .int (((0 + (nB ee3)) + (nB ee5)) + (nB ee7))), (3, .int (nB (!(decide ((lg_cmp (ks &&& 17045651456) 0) = 0))))), (0, .ref 14), (1, .long ks)]) (st' := [.int 1]) (μ' := μ) (by rfl) ?_
            exact zJ hJ8 rfl (by first | with_reducible rfl | (simp only [h27, lb_f, Int64.or_zero, Int32.add_zero, nB_t, nB_f, Bool.not_true, Bool.not_false, Bool.and_true, Bool.true_and, Bool.false_and, Bool.and_false, Bool.or_true, Bool.true_or, Bool.false_or, Bool.or_false, cond_true, cond_false]; done) | rfl) rfl
        refine zq_if hc hH (by rfl) (tg := 50) (by rfl) (fun h28 => ?_) (fun h28 => ?_)
        · have h28 : (decide ((lg_cmp (ks &&& (511 <<< ((18 : Int32).toInt64 &&& 63))) 0) = 0)) = true := decide_eq_true (cm_eq9.mp h28)
          refine z_rcs hc hH 1 (pc' := 51) (lv' := [(5, .int 2), (4, .int ((0 + (nB ee3)) + (nB ee5))), (3, .int (nB (!(decide ((lg_cmp (ks &&& 17045651456) 0) = 0))))), (0, .ref 14), (1, .long ks)]) (st' := [.int 0, .int ((0 + (nB ee3)) + (nB ee5))]) (μ' := μ) (by rfl) ?_
          exact zJ hJ6 rfl (by first | with_reducible rfl | (simp only [h28, lb_f, Int64.or_zero, Int32.add_zero, nB_t, nB_f, Bool.not_true, Bool.not_false, Bool.and_true, Bool.true_and, Bool.false_and, Bool.and_false, Bool.or_true, Bool.true_or, Bool.false_or, Bool.or_false, cond_true, cond_false]; done) | rfl) rfl
        · have h28 : (decide ((lg_cmp (ks &&& (511 <<< ((18 : Int32).toInt64 &&& 63))) 0) = 0)) = false := decide_eq_false (cn_eq.mp h28)
          refine z_rcs hc hH 2 (pc' := 51) (lv' := [(5, .int 2), (4, .int ((0 + (nB ee3)) + (nB ee5))), (3, .int (nB (!(decide ((lg_cmp (ks &&& 17045651456) 0) = 0))))), (0, .ref 14), (1, .long ks)]) (st' := [.int 1, .int ((0 + (nB ee3)) + (nB ee5))]) (μ' := μ) (by rfl) ?_
          exact zJ hJ6 rfl (by first | with_reducible rfl | (simp only [h28, lb_f, Int64.or_zero, Int32.add_zero, nB_t, nB_f, Bool.not_true, Bool.not_false, Bool.and_true, Bool.true_and, Bool.false_and, Bool.and_false, Bool.or_true, Bool.true_or, Bool.false_or, Bool.or_false, cond_true, cond_false]; done) | rfl) rfl
      refine zq_if hc hH (by rfl) (tg := 50) (by rfl) (fun h29 => ?_) (fun h29 => ?_)
      · have h29 : (decide ((lg_cmp (ks &&& (511 <<< ((9 : Int32).toInt64 &&& 63))) 0) = 0)) = true := decide_eq_true (cm_eq9.mp h29)
        refine z_rcs hc hH 1 (pc' := 51) (lv' := [(5, .int 1), (4, .int (0 + (nB ee3))), (3, .int (nB (!(decide ((lg_cmp (ks &&& 17045651456) 0) = 0))))), (0, .ref 14), (1, .long ks)]) (st' := [.int 0, .int (0 + (nB ee3))]) (μ' := μ) (by rfl) ?_
        exact zJ hJ4 rfl (by first | with_reducible rfl | (simp only [h29, lb_f, Int64.or_zero, Int32.add_zero, nB_t, nB_f, Bool.not_true, Bool.not_false, Bool.and_true, Bool.true_and, Bool.false_and, Bool.and_false, Bool.or_true, Bool.true_or, Bool.false_or, Bool.or_false, cond_true, cond_false]; done) | rfl) rfl
      · have h29 : (decide ((lg_cmp (ks &&& (511 <<< ((9 : Int32).toInt64 &&& 63))) 0) = 0)) = false := decide_eq_false (cn_eq.mp h29)
        refine z_rcs hc hH 2 (pc' := 51) (lv' := [(5, .int 1), (4, .int (0 + (nB ee3))), (3, .int (nB (!(decide ((lg_cmp (ks &&& 17045651456) 0) = 0))))), (0, .ref 14), (1, .long ks)]) (st' := [.int 1, .int (0 + (nB ee3))]) (μ' := μ) (by rfl) ?_
        exact zJ hJ4 rfl (by first | with_reducible rfl | (simp only [h29, lb_f, Int64.or_zero, Int32.add_zero, nB_t, nB_f, Bool.not_true, Bool.not_false, Bool.and_true, Bool.true_and, Bool.false_and, Bool.and_false, Bool.or_true, Bool.true_or, Bool.false_or, Bool.or_false, cond_true, cond_false]; done) | rfl) rfl
    refine zq_if hc hH (by rfl) (tg := 50) (by rfl) (fun h30 => ?_) (fun h30 => ?_)
    · have h30 : (decide ((lg_cmp (ks &&& (511 <<< ((0 : Int32).toInt64 &&& 63))) 0) = 0)) = true := decide_eq_true (cm_eq9.mp h30)
      refine z_rcs hc hH 1 (pc' := 51) (lv' := [(5, .int 0), (4, .int 0), (3, .int (nB (!(decide ((lg_cmp (ks &&& 17045651456) 0) = 0))))), (0, .ref 14), (1, .long ks)]) (st' := [.int 0, .int 0]) (μ' := μ) (by rfl) ?_
      exact zJ hJ2 rfl (by first | with_reducible rfl | (simp only [h30, lb_f, Int64.or_zero, Int32.add_zero, nB_t, nB_f, Bool.not_true, Bool.not_false, Bool.and_true, Bool.true_and, Bool.false_and, Bool.and_false, Bool.or_true, Bool.true_or, Bool.false_or, Bool.or_false, cond_true, cond_false]; done) | rfl) rfl
    · have h30 : (decide ((lg_cmp (ks &&& (511 <<< ((0 : Int32).toInt64 &&& 63))) 0) = 0)) = false := decide_eq_false (cn_eq.mp h30)
      refine z_rcs hc hH 2 (pc' := 51) (lv' := [(5, .int 0), (4, .int 0), (3, .int (nB (!(decide ((lg_cmp (ks &&& 17045651456) 0) = 0))))), (0, .ref 14), (1, .long ks)]) (st' := [.int 1, .int 0]) (μ' := μ) (by rfl) ?_
      exact zJ hJ2 rfl (by first | with_reducible rfl | (simp only [h30, lb_f, Int64.or_zero, Int32.add_zero, nB_t, nB_f, Bool.not_true, Bool.not_false, Bool.and_true, Bool.true_and, Bool.false_and, Bool.and_false, Bool.or_true, Bool.true_or, Bool.false_or, Bool.or_false, cond_true, cond_false]; done) | rfl) rfl
  refine zq_if hc hH (by rfl) (tg := 14) (by rfl) (fun h31 => ?_) (fun h31 => ?_)
  · have h31 : (decide ((lg_cmp (ks &&& 17045651456) 0) = 0)) = true := decide_eq_true (cm_eq9.mp h31)
    refine z_rcs hc hH 1 (pc' := 15) (lv' := [(0, .ref 14), (1, .long ks)]) (st' := [.int 0]) (μ' := μ) (by rfl) ?_
    exact zJ hJ1 rfl (by first | with_reducible rfl | (simp only [h31, lb_f, Int64.or_zero, Int32.add_zero, nB_t, nB_f, Bool.not_true, Bool.not_false, Bool.and_true, Bool.true_and, Bool.false_and, Bool.and_false, Bool.or_true, Bool.true_or, Bool.false_or, Bool.or_false, cond_true, cond_false]; done) | rfl) rfl
  · have h31 : (decide ((lg_cmp (ks &&& 17045651456) 0) = 0)) = false := decide_eq_false (cn_eq.mp h31)
    refine z_rcs hc hH 2 (pc' := 15) (lv' := [(0, .ref 14), (1, .long ks)]) (st' := [.int 1]) (μ' := μ) (by rfl) ?_
    exact zJ hJ1 rfl (by first | with_reducible rfl | (simp only [h31, lb_f, Int64.or_zero, Int32.add_zero, nB_t, nB_f, Bool.not_true, Bool.not_false, Bool.and_true, Bool.true_and, Bool.false_and, Bool.and_false, Bool.or_true, Bool.true_or, Bool.false_or, Bool.or_false, cond_true, cond_false]; done) | rfl) rfl
theorem fb_X1_toldOnes (d : Nat) (hd : 2 ≤ d) (μ : zM) (to : Int64) : z_C d mi_X1_toldOnes [.ref 14, .long to] μ (zR μ (.long (bif decide ((μ.1 14 7) = 0) then bif decide ((lg_cmp ((((to &&& 13194139533559).toUInt64 >>> ((1 : Int32).toInt64.toUInt64 &&& Int64.toUInt64 63)).toInt64) &&& 1) 0) = 0) then to &&& 13194139533559 else (to &&& 13194139533559) &&& (-2) else (bif decide ((lg_cmp ((((to &&& 13194139533559).toUInt64 >>> ((1 : Int32).toInt64.toUInt64 &&& Int64.toUInt64 63)).toInt64) &&& 1) 0) = 0) then to &&& 13194139533559 else (to &&& 13194139533559) &&& (-2)) ||| 8))) := by
  refine z_C_in (by decide) (by omega) (fun d' Z ed hc hr => ?_)
  have hH : zH mi_X1_toldOnes zt_X1_toldOnes 79 1 5 := hh_X1_toldOnes
  refine z_rcs hc hH 11 (pc' := 13) (lv' := [(3, .long (to &&& 13194139533559)), (0, .ref 14), (1, .long to)]) (st' := [.int (lg_cmp ((((to &&& 13194139533559).toUInt64 >>> ((1 : Int32).toInt64.toUInt64 &&& Int64.toUInt64 63)).toInt64) &&& 1) 0)]) (μ' := μ) (by rfl) ?_
  have hJ1 : Z 0 22 [(3, .long (bif decide ((lg_cmp ((((to &&& 13194139533559).toUInt64 >>> ((1 : Int32).toInt64.toUInt64 &&& Int64.toUInt64 63)).toInt64) &&& 1) 0) = 0) then to &&& 13194139533559 else (to &&& 13194139533559) &&& (-2))), (0, .ref 14), (1, .long to)] [] μ := by
    generalize hyy2 : (bif decide ((lg_cmp ((((to &&& 13194139533559).toUInt64 >>> ((1 : Int32).toInt64.toUInt64 &&& Int64.toUInt64 63)).toInt64) &&& 1) 0) = 0) then to &&& 13194139533559 else (to &&& 13194139533559) &&& (-2) : Int64) = yy2
    refine z_rcs hc hH 2 (pc' := 26) (lv' := [(3, .long yy2), (0, .ref 14), (1, .long to)]) (st' := [.int (μ.1 14 7)]) (μ' := μ) (by rfl) ?_
    have hJ3 : Z 0 38 [(3, .long yy2), (0, .ref 14), (1, .long to)] [.long (bif decide ((μ.1 14 7) = 0) then yy2 else yy2 ||| 8)] μ := by
      exact hr 0 38 _ _ _ (some (.long (bif decide ((μ.1 14 7) = 0) then yy2 else yy2 ||| 8))) (by decide +kernel) (z_rx_ok hH (by rfl)) (⟨rfl, (by subst hyy2; rfl)⟩)
    refine zq_if hc hH (by rfl) (tg := 37) (by rfl) (fun h4 => ?_) (fun h4 => ?_)
    · have h4 : (decide ((μ.1 14 7) = 0)) = true := decide_eq_true (cm_eq9.mp h4)
      refine z_rcs hc hH 1 (pc' := 38) (lv' := [(3, .long yy2), (0, .ref 14), (1, .long to)]) (st' := [.long yy2]) (μ' := μ) (by rfl) ?_
      exact zJ hJ3 rfl (by first | with_reducible rfl | (simp only [h4, lb_f, Int64.or_zero, Int32.add_zero, nB_t, nB_f, Bool.not_true, Bool.not_false, Bool.and_true, Bool.true_and, Bool.false_and, Bool.and_false, Bool.or_true, Bool.true_or, Bool.false_or, Bool.or_false, cond_true, cond_false]; done) | rfl) rfl
    · have h4 : (decide ((μ.1 14 7) = 0)) = false := decide_eq_false (cn_eq.mp h4)
      refine z_rcs hc hH 4 (pc' := 38) (lv' := [(3, .long yy2), (0, .ref 14), (1, .long to)]) (st' := [.long (yy2 ||| 8)]) (μ' := μ) (by rfl) ?_
      exact zJ hJ3 rfl (by first | with_reducible rfl | (simp only [h4, lb_f, Int64.or_zero, Int32.add_zero, nB_t, nB_f, Bool.not_true, Bool.not_false, Bool.and_true, Bool.true_and, Bool.false_and, Bool.and_false, Bool.or_true, Bool.true_or, Bool.false_or, Bool.or_false, cond_true, cond_false]; done) | rfl) rfl
  refine zq_if hc hH (by rfl) (tg := 22) (by rfl) (fun h5 => ?_) (fun h5 => ?_)
  · have h5 : (decide ((lg_cmp ((((to &&& 13194139533559).toUInt64 >>> ((1 : Int32).toInt64.toUInt64 &&& Int64.toUInt64 63)).toInt64) &&& 1) 0) = 0)) = true := decide_eq_true (cm_eq9.mp h5)
    exact zJ hJ1 (by first | with_reducible rfl | (simp only [h5, lb_f, Int64.or_zero, Int32.add_zero, nB_t, nB_f, Bool.not_true, Bool.not_false, Bool.and_true, Bool.true_and, Bool.false_and, Bool.and_false, Bool.or_true, Bool.true_or, Bool.false_or, Bool.or_false, cond_true, cond_false]; done) | rfl) rfl rfl
  · have h5 : (decide ((lg_cmp ((((to &&& 13194139533559).toUInt64 >>> ((1 : Int32).toInt64.toUInt64 &&& Int64.toUInt64 63)).toInt64) &&& 1) 0) = 0)) = false := decide_eq_false (cn_eq.mp h5)
    refine z_rcs hc hH 4 (pc' := 22) (lv' := [(3, .long ((to &&& 13194139533559) &&& (-2))), (0, .ref 14), (1, .long to)]) (st' := []) (μ' := μ) (by rfl) ?_
    exact zJ hJ1 (by first | with_reducible rfl | (simp only [h5, lb_f, Int64.or_zero, Int32.add_zero, nB_t, nB_f, Bool.not_true, Bool.not_false, Bool.and_true, Bool.true_and, Bool.false_and, Bool.and_false, Bool.or_true, Bool.true_or, Bool.false_or, Bool.or_false, cond_true, cond_false]; done) | rfl) rfl rfl
/-! a way is read in few cells -/
set_option maxRecDepth 8000
noncomputable def AG (μ μ' : zM) : Prop := (μ.1 56 0 = μ'.1 56 0) ∧ (μ.1 57 0 = μ'.1 57 0) ∧ (μ.1 56 1 = μ'.1 56 1) ∧ (μ.1 57 1 = μ'.1 57 1) ∧ (μ.1 56 2 = μ'.1 56 2) ∧ (μ.1 57 2 = μ'.1 57 2) ∧ (μ.1 56 3 = μ'.1 56 3) ∧ (μ.1 57 3 = μ'.1 57 3) ∧ (μ.1 50 4 = μ'.1 50 4) ∧ (μ.1 50 7 = μ'.1 50 7) ∧ (μ.1 50 8 = μ'.1 50 8) ∧ (μ.1 50 9 = μ'.1 50 9) ∧ (μ.1 50 10 = μ'.1 50 10) ∧ (μ.1 50 11 = μ'.1 50 11) ∧ (μ.1 50 21 = μ'.1 50 21) ∧ (μ.1 50 22 = μ'.1 50 22) ∧ (μ.1 52 = μ'.1 52) ∧ (μ.1 53 = μ'.1 53) ∧ (μ.1 58 = μ'.1 58) ∧ (μ.2.1 50 12 = μ'.2.1 50 12) ∧ (vp_in (μ'.1 50 22) 5)
theorem AG.s0 {μ μ' : zM} (h : AG μ μ') : μ.1 56 0 = μ'.1 56 0 := h.1
theorem AG.l0 {μ μ' : zM} (h : AG μ μ') : μ.1 57 0 = μ'.1 57 0 := h.2.1
theorem AG.s1 {μ μ' : zM} (h : AG μ μ') : μ.1 56 1 = μ'.1 56 1 := h.2.2.1
theorem AG.l1 {μ μ' : zM} (h : AG μ μ') : μ.1 57 1 = μ'.1 57 1 := h.2.2.2.1
theorem AG.s2 {μ μ' : zM} (h : AG μ μ') : μ.1 56 2 = μ'.1 56 2 := h.2.2.2.2.1
theorem AG.l2 {μ μ' : zM} (h : AG μ μ') : μ.1 57 2 = μ'.1 57 2 := h.2.2.2.2.2.1
theorem AG.s3 {μ μ' : zM} (h : AG μ μ') : μ.1 56 3 = μ'.1 56 3 := h.2.2.2.2.2.2.1
theorem AG.l3 {μ μ' : zM} (h : AG μ μ') : μ.1 57 3 = μ'.1 57 3 := h.2.2.2.2.2.2.2.1
theorem AG.c4 {μ μ' : zM} (h : AG μ μ') : μ.1 50 4 = μ'.1 50 4 := h.2.2.2.2.2.2.2.2.1
theorem AG.c7 {μ μ' : zM} (h : AG μ μ') : μ.1 50 7 = μ'.1 50 7 := h.2.2.2.2.2.2.2.2.2.1
theorem AG.c8 {μ μ' : zM} (h : AG μ μ') : μ.1 50 8 = μ'.1 50 8 := h.2.2.2.2.2.2.2.2.2.2.1
theorem AG.c9 {μ μ' : zM} (h : AG μ μ') : μ.1 50 9 = μ'.1 50 9 := h.2.2.2.2.2.2.2.2.2.2.2.1
theorem AG.c10 {μ μ' : zM} (h : AG μ μ') : μ.1 50 10 = μ'.1 50 10 := h.2.2.2.2.2.2.2.2.2.2.2.2.1
theorem AG.c11 {μ μ' : zM} (h : AG μ μ') : μ.1 50 11 = μ'.1 50 11 := h.2.2.2.2.2.2.2.2.2.2.2.2.2.1
theorem AG.c21 {μ μ' : zM} (h : AG μ μ') : μ.1 50 21 = μ'.1 50 21 := h.2.2.2.2.2.2.2.2.2.2.2.2.2.2.1
theorem AG.c22 {μ μ' : zM} (h : AG μ μ') : μ.1 50 22 = μ'.1 50 22 := h.2.2.2.2.2.2.2.2.2.2.2.2.2.2.2.1
theorem AG.r52 {μ μ' : zM} (h : AG μ μ') : μ.1 52 = μ'.1 52 := h.2.2.2.2.2.2.2.2.2.2.2.2.2.2.2.2.1
theorem AG.r53 {μ μ' : zM} (h : AG μ μ') : μ.1 53 = μ'.1 53 := h.2.2.2.2.2.2.2.2.2.2.2.2.2.2.2.2.2.1
theorem AG.r58 {μ μ' : zM} (h : AG μ μ') : μ.1 58 = μ'.1 58 := h.2.2.2.2.2.2.2.2.2.2.2.2.2.2.2.2.2.2.1
theorem AG.t12 {μ μ' : zM} (h : AG μ μ') : μ.2.1 50 12 = μ'.2.1 50 12 := h.2.2.2.2.2.2.2.2.2.2.2.2.2.2.2.2.2.2.2.1
theorem AG.v22 {μ μ' : zM} (h : AG μ μ') : vp_in (μ'.1 50 22) 5 := h.2.2.2.2.2.2.2.2.2.2.2.2.2.2.2.2.2.2.2.2
theorem ag_xT {μ : zM} {μ' : zM} (h : AG μ μ') (k : Int32) : xT μ k = xT μ' k := by simp only [xT, h.s0, h.s1, h.s2, h.s3, h.l0, h.l1, h.l2, h.l3, h.c4, h.c7, h.c8, h.c9, h.c10, h.c11, h.c21, h.c22, h.r52, h.r53, h.r58, h.t12]
theorem ag_xR {μ : zM} {μ' : zM} (h : AG μ μ') (k : Int32) : xR μ k = xR μ' k := by simp only [xR, h.s0, h.s1, h.s2, h.s3, h.l0, h.l1, h.l2, h.l3, h.c4, h.c7, h.c8, h.c9, h.c10, h.c11, h.c21, h.c22, h.r52, h.r53, h.r58, h.t12]
theorem ag_xE1 {μ : zM} {μ' : zM} (h : AG μ μ') (k : Int32) : xE1 μ k = xE1 μ' k := by simp only [xE1, h.s0, h.s1, h.s2, h.s3, h.l0, h.l1, h.l2, h.l3, h.c4, h.c7, h.c8, h.c9, h.c10, h.c11, h.c21, h.c22, h.r52, h.r53, h.r58, h.t12]
theorem ag_xE2 {μ : zM} {μ' : zM} (h : AG μ μ') (k : Int32) : xE2 μ k = xE2 μ' k := by simp only [xE2, h.s0, h.s1, h.s2, h.s3, h.l0, h.l1, h.l2, h.l3, h.c4, h.c7, h.c8, h.c9, h.c10, h.c11, h.c21, h.c22, h.r52, h.r53, h.r58, h.t12]
theorem ag_xHi0 {μ : zM} {μ' : zM} (h : AG μ μ') : xHi0 μ = xHi0 μ' := by simp only [xHi0, h.s0, h.s1, h.s2, h.s3, h.l0, h.l1, h.l2, h.l3, h.c4, h.c7, h.c8, h.c9, h.c10, h.c11, h.c21, h.c22, h.r52, h.r53, h.r58, h.t12]
theorem ag_xHi1 {μ : zM} {μ' : zM} (h : AG μ μ') : xHi1 μ = xHi1 μ' := by simp only [xHi1, h.s0, h.s1, h.s2, h.s3, h.l0, h.l1, h.l2, h.l3, h.c4, h.c7, h.c8, h.c9, h.c10, h.c11, h.c21, h.c22, h.r52, h.r53, h.r58, h.t12]
theorem ag_xHi2 {μ : zM} {μ' : zM} (h : AG μ μ') : xHi2 μ = xHi2 μ' := by simp only [xHi2, h.s0, h.s1, h.s2, h.s3, h.l0, h.l1, h.l2, h.l3, h.c4, h.c7, h.c8, h.c9, h.c10, h.c11, h.c21, h.c22, h.r52, h.r53, h.r58, h.t12]
theorem ag_xHi3 {μ : zM} {μ' : zM} (h : AG μ μ') : xHi3 μ = xHi3 μ' := by simp only [xHi3, h.s0, h.s1, h.s2, h.s3, h.l0, h.l1, h.l2, h.l3, h.c4, h.c7, h.c8, h.c9, h.c10, h.c11, h.c21, h.c22, h.r52, h.r53, h.r58, h.t12]
theorem ag_xOp {μ : zM} {μ' : zM} (h : AG μ μ') : ∀ q, xOp μ q = xOp μ' q := by
  intro q
  induction q with
  | zero => rfl
  | succ q ih => show (xOp μ q || _) = (xOp μ' q || _); rw [ih, h.r52]
theorem ag_tSt {μ : zM} {μ' : zM} (h : AG μ μ') (q i : Nat) (t : T7) : tSt μ q i t = tSt μ' q i t := by unfold tSt; rw [h.r52, h.r53, h.r58]
theorem ag_tF {μ : zM} {μ' : zM} (h : AG μ μ') (q : Nat) : ∀ n i t, tF μ q n i t = tF μ' q n i t := by
  intro n
  induction n with
  | zero => intro i t; rfl
  | succ n ih => intro i t; show tF μ q n (i + 1) (tSt μ q i t) = tF μ' q n (i + 1) (tSt μ' q i t); rw [ag_tSt h, ih]
theorem ag_tlG {μ : zM} {μ' : zM} (h : AG μ μ') (g : Int64) (t : T7) : tlG μ g t = tlG μ' g t := by unfold tlG; rw [h.c4, h.r58]
theorem ag_tlP {μ : zM} {μ' : zM} (h : AG μ μ') (g : Int64) (t : T7) : tlP μ g t = tlP μ' g t := rfl
theorem ag_w92_6 {μ : zM} {μ' : zM} (h : AG μ μ') (q : Nat) (s l : Nat → Nat) : w92_6 μ q s l = w92_6 μ' q s l := by
  unfold w92_6
  rw [h.c22]
  cases e : decide ((4 : Int32) ≤ μ'.1 50 22)
  · have h4 := vp_in_iff.mp (in4a h.v22 e)
    have hk : (μ'.1 50 22).toNatClampNeg < 4 := by rw [Int32.toNatClampNeg]; omega
    generalize (μ'.1 50 22).toNatClampNeg = k at hk ⊢
    rw [show μ.1 56 k = μ'.1 56 k from by
      rcases k with _ | _ | _ | _ | k
      · exact h.s0
      · exact h.s1
      · exact h.s2
      · exact h.s3
      · omega]
  · rfl
theorem ag_w164_7 {μ : zM} {μ' : zM} (h : AG μ μ') (q : Nat) (s l : Nat → Nat) : w164_7 μ q s l = w164_7 μ' q s l := by
  unfold w164_7
  rw [ag_w92_6 h]
  cases c : w92_6 μ' q s l
  · rfl
  · unfold w92_6 at c
    cases e : decide ((4 : Int32) ≤ μ'.1 50 22)
    · rw [h.c22]
      have h4 := vp_in_iff.mp (in4a h.v22 e)
      have hk : (μ'.1 50 22).toNatClampNeg < 4 := by rw [Int32.toNatClampNeg]; omega
      generalize (μ'.1 50 22).toNatClampNeg = k at hk ⊢
      rw [show μ.1 57 k = μ'.1 57 k from by
        rcases k with _ | _ | _ | _ | k
        · exact h.l0
        · exact h.l1
        · exact h.l2
        · exact h.l3
        · omega]
    · rw [e] at c; exact absurd (show false = true from c) (by decide)
theorem ag_w0_3 {μ : zM} {μ' : zM} (h : AG μ μ') (q : Nat) (s l : Nat → Nat) : w0_3 μ q s l = w0_3 μ' q s l := by simp only [w0_3, h.s0, h.s1, h.s2, h.s3, h.l0, h.l1, h.l2, h.l3, h.c4, h.c7, h.c8, h.c9, h.c10, h.c11, h.c21, h.c22, h.r52, h.r53, h.r58, h.t12]
theorem ag_w0_2 {μ : zM} {μ' : zM} (h : AG μ μ') (q : Nat) (s l : Nat → Nat) : w0_2 μ q s l = w0_2 μ' q s l := by simp only [w0_2, ag_xHi0 h, ag_xHi1 h, ag_xHi2 h, ag_xHi3 h, h.s0, h.s1, h.s2, h.s3, h.l0, h.l1, h.l2, h.l3, h.c4, h.c7, h.c8, h.c9, h.c10, h.c11, h.c21, h.c22, h.r52, h.r53, h.r58, h.t12]
theorem ag_w0_1 {μ : zM} {μ' : zM} (h : AG μ μ') (q : Nat) (s l : Nat → Nat) : w0_1 μ q s l = w0_1 μ' q s l := by simp only [w0_1, h.s0, h.s1, h.s2, h.s3, h.l0, h.l1, h.l2, h.l3, h.c4, h.c7, h.c8, h.c9, h.c10, h.c11, h.c21, h.c22, h.r52, h.r53, h.r58, h.t12]
theorem ag_w0_4 {μ : zM} {μ' : zM} (h : AG μ μ') (q : Nat) (s l : Nat → Nat) : w0_4 μ q s l = w0_4 μ' q s l := by simp only [w0_4, ag_xOp h, h.s0, h.s1, h.s2, h.s3, h.l0, h.l1, h.l2, h.l3, h.c4, h.c7, h.c8, h.c9, h.c10, h.c11, h.c21, h.c22, h.r52, h.r53, h.r58, h.t12]
theorem ag_w92_5 {μ : zM} {μ' : zM} (h : AG μ μ') (q : Nat) (s l : Nat → Nat) : w92_5 μ q s l = w92_5 μ' q s l := by simp only [w92_5, h.s0, h.s1, h.s2, h.s3, h.l0, h.l1, h.l2, h.l3, h.c4, h.c7, h.c8, h.c9, h.c10, h.c11, h.c21, h.c22, h.r52, h.r53, h.r58, h.t12]
theorem ag_w184_9 {μ : zM} {μ' : zM} (h : AG μ μ') (q : Nat) (s l : Nat → Nat) : w184_9 μ q s l = w184_9 μ' q s l := by simp only [w184_9, ag_w92_6 h, ag_w164_7 h, ag_w0_1 h, ag_w0_4 h, ag_w92_5 h, h.s0, h.s1, h.s2, h.s3, h.l0, h.l1, h.l2, h.l3, h.c4, h.c7, h.c8, h.c9, h.c10, h.c11, h.c21, h.c22, h.r52, h.r53, h.r58, h.t12]
theorem ag_w184_8 {μ : zM} {μ' : zM} (h : AG μ μ') (q : Nat) (s l : Nat → Nat) : w184_8 μ q s l = w184_8 μ' q s l := by simp only [w184_8, ag_w92_6 h, ag_w164_7 h, h.s0, h.s1, h.s2, h.s3, h.l0, h.l1, h.l2, h.l3, h.c4, h.c7, h.c8, h.c9, h.c10, h.c11, h.c21, h.c22, h.r52, h.r53, h.r58, h.t12]
theorem ag_w261_g {μ : zM} {μ' : zM} (h : AG μ μ') (q : Nat) (s l : Nat → Nat) : w261_g μ q s l = w261_g μ' q s l := by simp only [w261_g, h.s0, h.s1, h.s2, h.s3, h.l0, h.l1, h.l2, h.l3, h.c4, h.c7, h.c8, h.c9, h.c10, h.c11, h.c21, h.c22, h.r52, h.r53, h.r58, h.t12]
theorem ag_w261_p {μ : zM} {μ' : zM} (h : AG μ μ') (q : Nat) (s l : Nat → Nat) : w261_p μ q s l = w261_p μ' q s l := by simp only [w261_p, ag_w0_4 h, ag_w184_9 h, h.s0, h.s1, h.s2, h.s3, h.l0, h.l1, h.l2, h.l3, h.c4, h.c7, h.c8, h.c9, h.c10, h.c11, h.c21, h.c22, h.r52, h.r53, h.r58, h.t12]
theorem ag_w302_p {μ : zM} {μ' : zM} (h : AG μ μ') (q : Nat) (s l : Nat → Nat) : w302_p μ q s l = w302_p μ' q s l := by simp only [w302_p, ag_w261_p h, ag_xT h, h.s0, h.s1, h.s2, h.s3, h.l0, h.l1, h.l2, h.l3, h.c4, h.c7, h.c8, h.c9, h.c10, h.c11, h.c21, h.c22, h.r52, h.r53, h.r58, h.t12]
theorem ag_w402_0_p {μ : zM} {μ' : zM} (h : AG μ μ') (q : Nat) (s l : Nat → Nat) : w402_0_p μ q s l = w402_0_p μ' q s l := by simp only [w402_0_p, ag_w302_p h, ag_xT h, ag_xR h, h.s0, h.s1, h.s2, h.s3, h.l0, h.l1, h.l2, h.l3, h.c4, h.c7, h.c8, h.c9, h.c10, h.c11, h.c21, h.c22, h.r52, h.r53, h.r58, h.t12]
theorem ag_w402_1_p {μ : zM} {μ' : zM} (h : AG μ μ') (q : Nat) (s l : Nat → Nat) : w402_1_p μ q s l = w402_1_p μ' q s l := by simp only [w402_1_p, ag_w402_0_p h, ag_xT h, ag_xR h, h.s0, h.s1, h.s2, h.s3, h.l0, h.l1, h.l2, h.l3, h.c4, h.c7, h.c8, h.c9, h.c10, h.c11, h.c21, h.c22, h.r52, h.r53, h.r58, h.t12]
theorem ag_w402_2_p {μ : zM} {μ' : zM} (h : AG μ μ') (q : Nat) (s l : Nat → Nat) : w402_2_p μ q s l = w402_2_p μ' q s l := by simp only [w402_2_p, ag_w402_1_p h, ag_xT h, ag_xR h, h.s0, h.s1, h.s2, h.s3, h.l0, h.l1, h.l2, h.l3, h.c4, h.c7, h.c8, h.c9, h.c10, h.c11, h.c21, h.c22, h.r52, h.r53, h.r58, h.t12]
theorem ag_w402_3_p {μ : zM} {μ' : zM} (h : AG μ μ') (q : Nat) (s l : Nat → Nat) : w402_3_p μ q s l = w402_3_p μ' q s l := by simp only [w402_3_p, ag_w402_2_p h, ag_xT h, ag_xR h, h.s0, h.s1, h.s2, h.s3, h.l0, h.l1, h.l2, h.l3, h.c4, h.c7, h.c8, h.c9, h.c10, h.c11, h.c21, h.c22, h.r52, h.r53, h.r58, h.t12]
theorem ag_w402_4_p {μ : zM} {μ' : zM} (h : AG μ μ') (q : Nat) (s l : Nat → Nat) : w402_4_p μ q s l = w402_4_p μ' q s l := by simp only [w402_4_p, ag_w402_3_p h, ag_xT h, ag_xR h, h.s0, h.s1, h.s2, h.s3, h.l0, h.l1, h.l2, h.l3, h.c4, h.c7, h.c8, h.c9, h.c10, h.c11, h.c21, h.c22, h.r52, h.r53, h.r58, h.t12]
theorem ag_w402_5_p {μ : zM} {μ' : zM} (h : AG μ μ') (q : Nat) (s l : Nat → Nat) : w402_5_p μ q s l = w402_5_p μ' q s l := by simp only [w402_5_p, ag_w402_4_p h, ag_xT h, ag_xR h, h.s0, h.s1, h.s2, h.s3, h.l0, h.l1, h.l2, h.l3, h.c4, h.c7, h.c8, h.c9, h.c10, h.c11, h.c21, h.c22, h.r52, h.r53, h.r58, h.t12]
theorem ag_w402_6_p {μ : zM} {μ' : zM} (h : AG μ μ') (q : Nat) (s l : Nat → Nat) : w402_6_p μ q s l = w402_6_p μ' q s l := by simp only [w402_6_p, ag_w402_5_p h, ag_xT h, ag_xR h, h.s0, h.s1, h.s2, h.s3, h.l0, h.l1, h.l2, h.l3, h.c4, h.c7, h.c8, h.c9, h.c10, h.c11, h.c21, h.c22, h.r52, h.r53, h.r58, h.t12]
theorem ag_w402_7_p {μ : zM} {μ' : zM} (h : AG μ μ') (q : Nat) (s l : Nat → Nat) : w402_7_p μ q s l = w402_7_p μ' q s l := by simp only [w402_7_p, ag_w402_6_p h, ag_xT h, h.s0, h.s1, h.s2, h.s3, h.l0, h.l1, h.l2, h.l3, h.c4, h.c7, h.c8, h.c9, h.c10, h.c11, h.c21, h.c22, h.r52, h.r53, h.r58, h.t12]
theorem ag_w402_8_p {μ : zM} {μ' : zM} (h : AG μ μ') (q : Nat) (s l : Nat → Nat) : w402_8_p μ q s l = w402_8_p μ' q s l := by simp only [w402_8_p, ag_w402_7_p h, ag_xT h, h.s0, h.s1, h.s2, h.s3, h.l0, h.l1, h.l2, h.l3, h.c4, h.c7, h.c8, h.c9, h.c10, h.c11, h.c21, h.c22, h.r52, h.r53, h.r58, h.t12]
theorem ag_w519_p {μ : zM} {μ' : zM} (h : AG μ μ') (q : Nat) (s l : Nat → Nat) : w519_p μ q s l = w519_p μ' q s l := by simp only [w519_p, ag_w0_3 h, ag_w0_2 h, ag_w0_1 h, ag_w402_8_p h, ag_xR h, ag_xE1 h, ag_xE2 h, h.s0, h.s1, h.s2, h.s3, h.l0, h.l1, h.l2, h.l3, h.c4, h.c7, h.c8, h.c9, h.c10, h.c11, h.c21, h.c22, h.r52, h.r53, h.r58, h.t12]
theorem ag_w639_10 {μ : zM} {μ' : zM} (h : AG μ μ') (q : Nat) (s l : Nat → Nat) : w639_10 μ q s l = w639_10 μ' q s l := by simp only [w639_10, ag_xT h, h.s0, h.s1, h.s2, h.s3, h.l0, h.l1, h.l2, h.l3, h.c4, h.c7, h.c8, h.c9, h.c10, h.c11, h.c21, h.c22, h.r52, h.r53, h.r58, h.t12]
theorem ag_w639_11 {μ : zM} {μ' : zM} (h : AG μ μ') (q : Nat) (s l : Nat → Nat) : w639_11 μ q s l = w639_11 μ' q s l := by simp only [w639_11, ag_xT h, h.s0, h.s1, h.s2, h.s3, h.l0, h.l1, h.l2, h.l3, h.c4, h.c7, h.c8, h.c9, h.c10, h.c11, h.c21, h.c22, h.r52, h.r53, h.r58, h.t12]
theorem ag_w639_g {μ : zM} {μ' : zM} (h : AG μ μ') (q : Nat) (s l : Nat → Nat) : w639_g μ q s l = w639_g μ' q s l := by simp only [w639_g, ag_w0_3 h, ag_w0_2 h, ag_w261_g h, ag_xT h, ag_tF h, ag_tlG h, h.s0, h.s1, h.s2, h.s3, h.l0, h.l1, h.l2, h.l3, h.c4, h.c7, h.c8, h.c9, h.c10, h.c11, h.c21, h.c22, h.r52, h.r53, h.r58, h.t12]
theorem ag_w639_p {μ : zM} {μ' : zM} (h : AG μ μ') (q : Nat) (s l : Nat → Nat) : w639_p μ q s l = w639_p μ' q s l := by simp only [w639_p, ag_w519_p h, ag_xT h, ag_tF h, ag_tlP h, h.s0, h.s1, h.s2, h.s3, h.l0, h.l1, h.l2, h.l3, h.c4, h.c7, h.c8, h.c9, h.c10, h.c11, h.c21, h.c22, h.r52, h.r53, h.r58, h.t12]
theorem ag_w861_f {μ : zM} {μ' : zM} (h : AG μ μ') (q : Nat) (s l : Nat → Nat) : w861_f μ q s l = w861_f μ' q s l := by simp only [w861_f, ag_w0_4 h, h.s0, h.s1, h.s2, h.s3, h.l0, h.l1, h.l2, h.l3, h.c4, h.c7, h.c8, h.c9, h.c10, h.c11, h.c21, h.c22, h.r52, h.r53, h.r58, h.t12]
theorem ag_wfu0 {μ : zM} {μ' : zM} (h : AG μ μ') (q : Nat) (s l : Nat → Nat) : wfu0 μ q s l = wfu0 μ' q s l := by simp only [wfu0, ag_w861_f h, ag_xHi0 h, h.s0, h.s1, h.s2, h.s3, h.l0, h.l1, h.l2, h.l3, h.c4, h.c7, h.c8, h.c9, h.c10, h.c11, h.c21, h.c22, h.r52, h.r53, h.r58, h.t12]
theorem ag_wfu1 {μ : zM} {μ' : zM} (h : AG μ μ') (q : Nat) (s l : Nat → Nat) : wfu1 μ q s l = wfu1 μ' q s l := by simp only [wfu1, ag_wfu0 h, ag_xHi1 h, h.s0, h.s1, h.s2, h.s3, h.l0, h.l1, h.l2, h.l3, h.c4, h.c7, h.c8, h.c9, h.c10, h.c11, h.c21, h.c22, h.r52, h.r53, h.r58, h.t12]
theorem ag_wfu2 {μ : zM} {μ' : zM} (h : AG μ μ') (q : Nat) (s l : Nat → Nat) : wfu2 μ q s l = wfu2 μ' q s l := by simp only [wfu2, ag_wfu1 h, ag_xHi2 h, h.s0, h.s1, h.s2, h.s3, h.l0, h.l1, h.l2, h.l3, h.c4, h.c7, h.c8, h.c9, h.c10, h.c11, h.c21, h.c22, h.r52, h.r53, h.r58, h.t12]
theorem ag_wfu3 {μ : zM} {μ' : zM} (h : AG μ μ') (q : Nat) (s l : Nat → Nat) : wfu3 μ q s l = wfu3 μ' q s l := by simp only [wfu3, ag_wfu2 h, ag_xHi3 h, h.s0, h.s1, h.s2, h.s3, h.l0, h.l1, h.l2, h.l3, h.c4, h.c7, h.c8, h.c9, h.c10, h.c11, h.c21, h.c22, h.r52, h.r53, h.r58, h.t12]
theorem ag_wFu {μ : zM} {μ' : zM} (h : AG μ μ') (q : Nat) (s l : Nat → Nat) : wFu μ q s l = wFu μ' q s l := by simp only [wFu, ag_w92_6 h, ag_w0_4 h, ag_w184_9 h, ag_w184_8 h, ag_wfu3 h, h.s0, h.s1, h.s2, h.s3, h.l0, h.l1, h.l2, h.l3, h.c4, h.c7, h.c8, h.c9, h.c10, h.c11, h.c21, h.c22, h.r52, h.r53, h.r58, h.t12]
theorem ag_cOf {μ : zM} {μ' : zM} (h : AG μ μ') (g pl : Int64) (f : Int32) (b : Bool) : cOf (mGP μ g pl f) b = cOf (mGP μ' g pl f) b := by
  have a1 : ∀ ν : zM, (mGP ν g pl f).2.1 50 24 = g := fun _ => rfl
  have a2 : ∀ ν : zM, (mGP ν g pl f).2.1 50 25 = pl := fun _ => rfl
  have a3 : ∀ ν : zM, (mGP ν g pl f).2.1 50 12 = ν.2.1 50 12 := fun _ => rfl
  have a4 : ∀ ν : zM, (mGP ν g pl f).1 50 23 = f := fun _ => rfl
  have a5 : ∀ ν : zM, (mGP ν g pl f).1 50 11 = ν.1 50 11 := fun _ => rfl
  have a6 : ∀ ν : zM, (mGP ν g pl f).1 50 10 = ν.1 50 10 := fun _ => rfl
  simp only [cOf, cpG, cpP, bsH, a1, a2, a3, a4, a5, a6, h.t12, h.c11, h.c10]
/-- the value of a way, as the reference has it -/
noncomputable def vRf (μ : zM) (q : Nat) (s l : Nat → Nat) : Q4 := cOf (mGP μ (w639_g μ q s l) (w639_p μ q s l) (wFu μ q s l)) (xOp μ q)
theorem ag_vRf {μ μ' : zM} (h : AG μ μ') (q : Nat) (s l : Nat → Nat) : vRf μ q s l = vRf μ' q s l := by
  unfold vRf
  rw [ag_w639_g h, ag_w639_p h, ag_wFu h, ag_xOp h, ag_cOf h]
/-- the memory of a way -/
noncomputable def yM (μ : zM) (s l : Nat → Nat) (p co : Int32) : zM := (fun r k => if r = 56 then nI (s k) else if r = 57 then nI (l k) else if r = 50 ∧ k = 21 then p else if r = 50 ∧ k = 22 then co else μ.1 r k, μ.2)
/-! a way of the first sort, each SET that may be the completed one: the reference -/
set_option maxRecDepth 8000
noncomputable def sA (q : Nat) (sL : Nat → Nat) (sl : SL) (j : Nat) : Nat := if j < q then sL j else (sl.getD (j - q) (0, 0)).1
noncomputable def lA (q : Nat) (lL : Nat → Nat) (sl : SL) (j : Nat) : Nat := if j < q then lL j else (sl.getD (j - q) (0, 0)).2
/-- of like SETS the first alone -/
noncomputable def df1 (s l : Nat → Nat) (j i : Nat) : Bool := !(decide (s j = s i) && decide (l j = l i))
noncomputable def dfs (s l : Nat → Nat) (i : Nat) : Nat → Nat → Bool
  | 0, _ => true
  | n + 1, j => df1 s l j i && dfs s l i n (j + 1)
/-- may be completed -/
noncomputable def mc (wn : Int32) (q p : Nat) (s l : Nat → Nat) (co : Nat) : Bool := bif Nat.blt co 4 then xHas (nI (s co)) (nI (l co)) wn && dfs s l co (co - q) q else decide (nI p = wn)
noncomputable def OW (μ : zM) (q p : Nat) (s l : Nat → Nat) (co : Nat) (x : Q4) : Prop := mc (μ.1 50 7) q p s l co = true ∧ x = vRf (yM μ s l (nI p) (nI co)) q s l ∧ ¬ x.2.2.2 = 0
noncomputable def OV (μ : zM) (q p : Nat) (sL lL : Nat → Nat) (sl : SL) (x : Q4) : Prop := ∃ co, q ≤ co ∧ co < 5 ∧ OW μ q p (sA q sL sl) (lA q lL sl) co x
noncomputable def WA (μ μ1 : zM) (p : Nat) (s l : Nat → Nat) (i : Nat) : Prop := (∀ j, j < i → μ1.1 56 j = nI (s j) ∧ μ1.1 57 j = nI (l j)) ∧ a_Fz mdY μ μ1 ∧ a_H μ1 ∧ μ1.1 50 21 = nI p
theorem WA.s56 {μ μ1 : zM} {p i : Nat} {s l : Nat → Nat} {x y : Int32} (h : WA μ μ1 p s l i) (hx : x = nI (s i)) (hy : y = nI (l i)) : WA μ (z_ui (z_ui μ1 56 i x) 57 i y) p s l (i + 1) := by
  refine ⟨fun j hj => ?_, a_Fz_ui (a_Fz_ui h.2.1 (a_mda_md (by decide +kernel) _)) (a_mda_md (by decide +kernel) _), a_H_ui (a_H_ui h.2.2.1 (bI_top _)) (bI_top _), by rw [z_ui_rd, if_neg (by omega), z_ui_rd, if_neg (by omega)]; exact h.2.2.2⟩
  rw [z_ui_rd, if_neg (by omega), z_ui_rd]
  by_cases e : j = i
  · subst e
    rw [if_pos ⟨rfl, rfl⟩, z_ui_rd, if_pos ⟨rfl, rfl⟩]
    exact ⟨hx, hy⟩
  · rw [if_neg (fun z => e z.2), z_ui_rd, if_neg (fun z => e z.2), z_ui_rd, if_neg (by omega)]
    exact h.1 j (by omega)
noncomputable def WC (μ μ1 : zM) (p : Nat) (s l : Nat → Nat) (i : Nat) : Prop := WA μ μ1 p s l i ∧ bq μ1 = bq μ
theorem WC.s56 {μ μ1 : zM} {p i : Nat} {s l : Nat → Nat} {x y : Int32} (h : WC μ μ1 p s l i) (hx : x = nI (s i)) (hy : y = nI (l i)) : WC μ (z_ui (z_ui μ1 56 i x) 57 i y) p s l (i + 1) := ⟨h.1.s56 hx hy, by rw [bq_ui (by omega), bq_ui (by omega)]; exact h.2⟩
theorem a_H_C {μ μ' : zM} {g p : Int64} {f : Int32} (h : a_H μ) (hz : a_Fz mdC (mGP μ g p f) μ') : a_H μ' := by
  intro r k
  by_cases e : r = 50 ∧ (k = 13 ∨ k = 14 ∨ k = 15 ∨ k = 17 ∨ k = 23 ∨ k = 24 ∨ k = 25)
  · obtain ⟨rfl, rfl | rfl | rfl | rfl | rfl | rfl | rfl⟩ := e <;> exact bI_top _
  · have hm : a_md mdC r k = false := by
      rw [← Bool.not_eq_true]
      intro q
      unfold a_md at q
      rw [List.any_eq_true] at q
      obtain ⟨⟨a, b⟩, h1, h2⟩ := q
      have h3 : (a = 50 ∧ (b = 13 ∨ b = 14 ∨ b = 15 ∨ b = 17 ∨ b = 24 ∨ b = 25)) := by
        have h1' : (a, b) ∈ mdC := h1
        simp only [mdC, List.mem_cons, Prod.mk.injEq, List.not_mem_nil, or_false] at h1'
        omega
      rw [Bool.and_eq_true, Bool.or_eq_true, bq_t, bq_t, bq_t] at h2
      have : a = r := h2.1
      have := h2.2
      omega
    rw [(hz.1 r k hm).1]
    show a_bi _ (bif Nat.beq r 50 && Nat.beq k 23 then f else μ.1 r k)
    cases c : Nat.beq r 50 && Nat.beq k 23
    · exact h r k
    · rw [Bool.and_eq_true, bq_t, bq_t] at c
      exact absurd ⟨c.1, by omega⟩ e
theorem Fz_mGP {md : List (Nat × Nat)} {μ : zM} {g p : Int64} {f : Int32} (h1 : a_md md 50 23 = true) (h2 : a_md md 50 24 = true) (h3 : a_md md 50 25 = true) : a_Fz md μ (mGP μ g p f) := by
  have h : mGP μ g p f = z_ui (z_uj (z_uj μ 50 24 g) 50 25 p) 50 23 f := by
    rw [← mGP_f (f := μ.1 50 23), ← mGP_p (p := μ.2.1 50 25), ← mGP_g (g := μ.2.1 50 24), mGP_rf μ]
  rw [h]
  exact a_Fz_ui (a_Fz_uj (a_Fz_uj (a_Fz_rf _ _) h2) h3) h1
theorem c_dif {a b : Nat} (ha : a < 2 ^ 31) (hb : b < 2 ^ 31) : nI a = nI b ↔ a = b := nI_eq ha hb
theorem s_q : ∀ q, q ≤ 4 → ∀ i, i ≤ 4 → q ≤ i → nI i - nI q = nI (i - q) := by decide +kernel
theorem zh_X7_way : zH mi_X7_way zt_X7_way 79 7 5 := hh_X7_way
theorem wy7 (d' : Nat) (Z : zK) (hd : 5 ≤ d') (μ0 μ : zM) (q p : Nat) (s l : Nat → Nat) (hq : q ≤ 4) (hp : p < 34) (hsl : ∀ j, j < 4 → s j ≤ 3 ∧ l j < 34) (e4 : μ.1 50 4 = nI q) (hc : z_clo z_x0 mi_X7_way (z_C d') Z) (hS : ∀ j, j < q → μ.1 52 j = nI (s j) ∧ μ.1 53 j = nI (l j)) (K : ∀ μ1, WC μ μ1 p s l q → Z 0 45 [(2, .int (nI q)), (0, .ref 50), (1, .int (nI p))] [] μ1) : ∀ n i, i + n = q → 0 ≤ i → ∀ μ1, WC μ μ1 p s l i → Z 0 7 [(2, .int (nI i)), (0, .ref 50), (1, .int (nI p))] [] μ1 := by
  have hH := zh_X7_way
  intro n
  induction n with
  | zero =>
    intro i hi hlo μ1 g
    have hi : q = i := by omega
    subst hi
    have e41 : μ1.1 50 4 = nI q := (a_Fz_at g.1.2.1 50 4 (by decide +kernel)).trans e4
    refine z_rcs hc hH 3 (pc' := 12) (lv' := [(2, .int (nI q)), (0, .ref 50), (1, .int (nI p))]) (st' := [.int (μ1.1 50 4), .int (nI q)]) (μ' := μ1) (by rfl) ?_
    rw [e41]
    show Z 0 12 [(2, .int (nI q)), (0, .ref 50), (1, .int (nI p))] [.int (nI q), .int (nI q)] μ1
    refine zq_ic hc hH (by rfl) (tg := 45) (by rfl) (fun _ => ?_) (fun h9 => (zb_t (ge_nIt (n := q) (i := q) (by omega) (by omega)) h9).elim)
    exact K μ1 g
  | succ n ih =>
    intro i hi hlo μ1 g
    have e41 : μ1.1 50 4 = nI q := (a_Fz_at g.1.2.1 50 4 (by decide +kernel)).trans e4
    have hin : vp_in (nI i) 4 := vp_in_nI (by omega) (by decide)
    have ei : (nI i).toNatClampNeg = i := nI_clamp (by omega)
    have hx := (a_Fz_at g.1.2.1 52 i (a_md_row (by decide +kernel))).trans (hS i (by omega)).1
    have hy := (a_Fz_at g.1.2.1 53 i (a_md_row (by decide +kernel))).trans (hS i (by omega)).2
    refine z_rcs hc hH 3 (pc' := 12) (lv' := [(2, .int (nI i)), (0, .ref 50), (1, .int (nI p))]) (st' := [.int (μ1.1 50 4), .int (nI i)]) (μ' := μ1) (by rfl) ?_
    rw [e41]
    show Z 0 12 [(2, .int (nI i)), (0, .ref 50), (1, .int (nI p))] [.int (nI q), .int (nI i)] μ1
    refine zq_ic hc hH (by rfl) (tg := 45) (by rfl) (fun h9 => (zb_t h9 (ge_nI (n := q) (i := i) (by omega) (by omega))).elim) (fun _ => ?_)
    refine z_rcs hc hH 6 (pc' := 25) (lv' := [(2, .int (nI i)), (0, .ref 50), (1, .int (nI p))]) (st' := [.int (nI i), .ref 52, .int (nI i), .ref 56]) (μ' := μ1) (by rfl) ?_
    refine zq_iald hc hH (by rfl) 8 (by decide +kernel) (vp_in_nI (by omega) (by decide)) ?_
    rw [ei, hx]
    show Z 0 26 [(2, .int (nI i)), (0, .ref 50), (1, .int (nI p))] [.int (nI (s i)), .int (nI i), .ref 56] μ1
    refine zq_iast hc hH (by rfl) 4 (by decide +kernel) (hin) ?_
    rw [ei]
    show Z 0 27 [(2, .int (nI i)), (0, .ref 50), (1, .int (nI p))] [] (z_ui μ1 56 i (nI (s i)))
    refine z_rcs0 hc hH 6 (pc' := 37) (lv' := [(2, .int (nI i)), (0, .ref 50), (1, .int (nI p))]) (st' := [.int (nI i), .ref 53, .int (nI i), .ref 57]) (by rfl) ?_
    refine zq_iald hc hH (by rfl) 8 (by decide +kernel) (vp_in_nI (by omega) (by decide)) ?_
    rw [ei, z_ui_rd, if_neg (by omega), hy]
    show Z 0 38 [(2, .int (nI i)), (0, .ref 50), (1, .int (nI p))] [.int (nI (l i)), .int (nI i), .ref 57] _
    refine zq_iast hc hH (by rfl) 4 (by decide +kernel) (hin) ?_
    rw [ei]
    have g2 : WC μ (z_ui (z_ui μ1 56 i (nI (s i))) 57 i (nI (l i))) p s l (i + 1) := g.s56 rfl rfl
    generalize z_ui (z_ui μ1 56 i (nI (s i))) 57 i (nI (l i)) = μ2 at g2 ⊢
    refine z_rcs hc hH 2 (pc' := 7) (lv' := [(2, .int ((nI i) + 1)), (0, .ref 50), (1, .int (nI p))]) (st' := []) (μ' := μ2) (by rfl) ?_
    rw [nI_1]
    exact ih (i + 1) (by omega) (by omega) μ2 g2
theorem wy50 (d' : Nat) (Z : zK) (hd : 5 ≤ d') (μ0 μ : zM) (q p : Nat) (s l : Nat → Nat) (hq : q ≤ 4) (hp : p < 34) (hsl : ∀ j, j < 4 → s j ≤ 3 ∧ l j < 34) (e4 : μ.1 50 4 = nI q) (hc : z_clo z_x0 mi_X7_way (z_C d') Z) (hS : ∀ j, q ≤ j → j < 4 → μ.1 54 (j - q) = nI (s j) ∧ μ.1 55 (j - q) = nI (l j)) (K : ∀ μ1, WC μ μ1 p s l 4 → Z 0 95 [(2, .int (nI 4)), (0, .ref 50), (1, .int (nI p))] [] μ1) : ∀ n i, i + n = 4 → q ≤ i → ∀ μ1, WC μ μ1 p s l i → Z 0 50 [(2, .int (nI i)), (0, .ref 50), (1, .int (nI p))] [] μ1 := by
  have hH := zh_X7_way
  intro n
  induction n with
  | zero =>
    intro i hi hlo μ1 g
    have hi : i = 4 := by omega
    subst hi
    have e41 : μ1.1 50 4 = nI q := (a_Fz_at g.1.2.1 50 4 (by decide +kernel)).trans e4
    refine z_rcs hc hH 2 (pc' := 52) (lv' := [(2, .int (nI 4)), (0, .ref 50), (1, .int (nI p))]) (st' := [.int 4, .int (nI 4)]) (μ' := μ1) (by rfl) ?_
    refine zq_ic hc hH (by rfl) (tg := 95) (by rfl) (fun _ => ?_) (fun h9 => (zb_t (ge_nIt (n := 4) (i := 4) (by omega) (by omega)) h9).elim)
    exact K μ1 g
  | succ n ih =>
    intro i hi hlo μ1 g
    have e41 : μ1.1 50 4 = nI q := (a_Fz_at g.1.2.1 50 4 (by decide +kernel)).trans e4
    have hin : vp_in (nI i) 4 := vp_in_nI (by omega) (by decide)
    have ei : (nI i).toNatClampNeg = i := nI_clamp (by omega)
    have hin5 : vp_in (nI (i - q)) 5 := vp_in_nI (by omega) (by decide)
    have eiq : (nI (i - q)).toNatClampNeg = i - q := nI_clamp (by omega)
    have hx := (a_Fz_at g.1.2.1 54 (i - q) (a_md_row (by decide +kernel))).trans (hS i (by omega) (by omega)).1
    have hy := (a_Fz_at g.1.2.1 55 (i - q) (a_md_row (by decide +kernel))).trans (hS i (by omega) (by omega)).2
    refine z_rcs hc hH 2 (pc' := 52) (lv' := [(2, .int (nI i)), (0, .ref 50), (1, .int (nI p))]) (st' := [.int 4, .int (nI i)]) (μ' := μ1) (by rfl) ?_
    refine zq_ic hc hH (by rfl) (tg := 95) (by rfl) (fun h9 => (zb_t h9 (ge_nI (n := 4) (i := i) (by omega) (by omega))).elim) (fun _ => ?_)
    refine z_rcs hc hH 8 (pc' := 69) (lv' := [(2, .int (nI i)), (0, .ref 50), (1, .int (nI p))]) (st' := [.int (μ1.1 50 4), .int (nI i), .ref 54, .int (nI i), .ref 56]) (μ' := μ1) (by rfl) ?_
    rw [e41]
    show Z 0 69 [(2, .int (nI i)), (0, .ref 50), (1, .int (nI p))] [.int (nI q), .int (nI i), .ref 54, .int (nI i), .ref 56] μ1
    refine z_rcs hc hH 1 (pc' := 70) (lv' := [(2, .int (nI i)), (0, .ref 50), (1, .int (nI p))]) (st' := [.int ((nI i) - (nI q)), .ref 54, .int (nI i), .ref 56]) (μ' := μ1) (by rfl) ?_
    rw [s_q q hq i (by omega) (by omega)]
    show Z 0 70 [(2, .int (nI i)), (0, .ref 50), (1, .int (nI p))] [.int (nI (i - q)), .ref 54, .int (nI i), .ref 56] μ1
    refine zq_iald hc hH (by rfl) 5 (by decide +kernel) (hin5) ?_
    rw [eiq, hx]
    show Z 0 71 [(2, .int (nI i)), (0, .ref 50), (1, .int (nI p))] [.int (nI (s i)), .int (nI i), .ref 56] μ1
    refine zq_iast hc hH (by rfl) 4 (by decide +kernel) (hin) ?_
    rw [ei]
    show Z 0 72 [(2, .int (nI i)), (0, .ref 50), (1, .int (nI p))] [] (z_ui μ1 56 i (nI (s i)))
    refine z_rcs0 hc hH 8 (pc' := 86) (lv' := [(2, .int (nI i)), (0, .ref 50), (1, .int (nI p))]) (st' := [.int (μ1.1 50 4), .int (nI i), .ref 55, .int (nI i), .ref 57]) (by rfl) ?_
    rw [e41]
    show Z 0 86 [(2, .int (nI i)), (0, .ref 50), (1, .int (nI p))] [.int (nI q), .int (nI i), .ref 55, .int (nI i), .ref 57] _
    refine z_rcs0 hc hH 1 (pc' := 87) (lv' := [(2, .int (nI i)), (0, .ref 50), (1, .int (nI p))]) (st' := [.int ((nI i) - (nI q)), .ref 55, .int (nI i), .ref 57]) (by rfl) ?_
    rw [s_q q hq i (by omega) (by omega)]
    show Z 0 87 [(2, .int (nI i)), (0, .ref 50), (1, .int (nI p))] [.int (nI (i - q)), .ref 55, .int (nI i), .ref 57] _
    refine zq_iald hc hH (by rfl) 5 (by decide +kernel) (hin5) ?_
    rw [eiq, z_ui_rd, if_neg (by omega), hy]
    show Z 0 88 [(2, .int (nI i)), (0, .ref 50), (1, .int (nI p))] [.int (nI (l i)), .int (nI i), .ref 57] _
    refine zq_iast hc hH (by rfl) 4 (by decide +kernel) (hin) ?_
    rw [ei]
    have g2 : WC μ (z_ui (z_ui μ1 56 i (nI (s i))) 57 i (nI (l i))) p s l (i + 1) := g.s56 rfl rfl
    generalize z_ui (z_ui μ1 56 i (nI (s i))) 57 i (nI (l i)) = μ2 at g2 ⊢
    refine z_rcs hc hH 2 (pc' := 50) (lv' := [(2, .int ((nI i) + 1)), (0, .ref 50), (1, .int (nI p))]) (st' := []) (μ' := μ2) (by rfl) ?_
    rw [nI_1]
    exact ih (i + 1) (by omega) (by omega) μ2 g2
theorem wy152 (d' : Nat) (Z : zK) (hd : 5 ≤ d') (μ0 μ : zM) (q p : Nat) (s l : Nat → Nat) (hq : q ≤ 4) (hp : p < 34) (hsl : ∀ j, j < 4 → s j ≤ 3 ∧ l j < 34) (e4 : μ.1 50 4 = nI q) (B : Bool) (hc : z_clo z_x0 mi_X7_way (z_C d') Z) (i : Nat) (hi : i < 4) (hqi : q ≤ i) (μ2 : zM) (g : WA μ μ2 p s l 4) (K : ∀ x4 (b : Bool), b = B → Z 0 211 [(4, .int x4), (3, .int (nB b)), (2, .int (nI i)), (0, .ref 50), (1, .int (nI p))] [] μ2) : ∀ n j, j + n = i → ∀ b : Bool, (b && dfs s l i n j) = B → Z 0 152 [(4, .int (nI j)), (3, .int (nB b)), (2, .int (nI i)), (0, .ref 50), (1, .int (nI p))] [] μ2 := by
  have hH := zh_X7_way
  intro n
  induction n with
  | zero =>
    intro j hj b hb
    have hj : j = i := by omega
    subst hj
    rw [show dfs s l j 0 j = true from rfl, Bool.and_true] at hb
    refine z_rcs hc hH 2 (pc' := 155) (lv' := [(4, .int (nI j)), (3, .int (nB b)), (2, .int (nI j)), (0, .ref 50), (1, .int (nI p))]) (st' := [.int (nI j), .int (nI j)]) (μ' := μ2) (by rfl) ?_
    refine zq_ic hc hH (by rfl) (tg := 211) (by rfl) (fun _ => ?_) (fun h9 => (zb_t (ge_nIt (n := j) (i := j) (by omega) (by omega)) h9).elim)
    exact K _ b hb
  | succ n ih =>
    intro j hj b hb
    cases b with
    | false =>
      rw [Bool.false_and] at hb
      refine z_rcs hc hH 2 (pc' := 155) (lv' := [(4, .int (nI j)), (3, .int (nB false)), (2, .int (nI i)), (0, .ref 50), (1, .int (nI p))]) (st' := [.int (nI i), .int (nI j)]) (μ' := μ2) (by rfl) ?_
      refine zq_ic hc hH (by rfl) (tg := 211) (by rfl) (fun h9 => (zb_t h9 (ge_nI (n := i) (i := j) (by omega) (by omega))).elim) (fun _ => ?_)
      refine z_rcs hc hH 2 (pc' := 160) (lv' := [(4, .int (nI j)), (3, .int (nB false)), (2, .int (nI i)), (0, .ref 50), (1, .int (nI p))]) (st' := [.int 4, .int (nI i)]) (μ' := μ2) (by rfl) ?_
      refine zq_ic hc hH (by rfl) (tg := 211) (by rfl) (fun h9 => (zb_t h9 (ge_nI (n := 4) (i := i) (by omega) (by omega))).elim) (fun _ => ?_)
      refine z_rcs hc hH 1 (pc' := 164) (lv' := [(4, .int (nI j)), (3, .int (nB false)), (2, .int (nI i)), (0, .ref 50), (1, .int (nI p))]) (st' := [.int (nB false)]) (μ' := μ2) (by rfl) ?_
      refine zq_if hc hH (by rfl) (tg := 211) (by rfl) (fun _ => ?_) (fun h9 => (zb_t (cm_eq9.mpr rfl) h9).elim)
      exact K _ false hb
    | true =>
      rw [Bool.true_and, show dfs s l i (n + 1) j = (df1 s l j i && dfs s l i n (j + 1)) from rfl] at hb
      have hin : vp_in (nI i) 4 := vp_in_nI (by omega) (by decide)
      have hjn : vp_in (nI j) 4 := vp_in_nI (by omega) (by decide)
      have ei : (nI i).toNatClampNeg = i := nI_clamp (by omega)
      have ej : (nI j).toNatClampNeg = j := nI_clamp (by omega)
      have bi := hsl i hi
      have bj := hsl j (by omega)
      refine z_rcs hc hH 2 (pc' := 155) (lv' := [(4, .int (nI j)), (3, .int (nB true)), (2, .int (nI i)), (0, .ref 50), (1, .int (nI p))]) (st' := [.int (nI i), .int (nI j)]) (μ' := μ2) (by rfl) ?_
      refine zq_ic hc hH (by rfl) (tg := 211) (by rfl) (fun h9 => (zb_t h9 (ge_nI (n := i) (i := j) (by omega) (by omega))).elim) (fun _ => ?_)
      refine z_rcs hc hH 2 (pc' := 160) (lv' := [(4, .int (nI j)), (3, .int (nB true)), (2, .int (nI i)), (0, .ref 50), (1, .int (nI p))]) (st' := [.int 4, .int (nI i)]) (μ' := μ2) (by rfl) ?_
      refine zq_ic hc hH (by rfl) (tg := 211) (by rfl) (fun h9 => (zb_t h9 (ge_nI (n := 4) (i := i) (by omega) (by omega))).elim) (fun _ => ?_)
      refine z_rcs hc hH 1 (pc' := 164) (lv' := [(4, .int (nI j)), (3, .int (nB true)), (2, .int (nI i)), (0, .ref 50), (1, .int (nI p))]) (st' := [.int (nB true)]) (μ' := μ2) (by rfl) ?_
      refine zq_if hc hH (by rfl) (tg := 211) (by rfl) (fun h9 => (zb_t h9 ((by rfl : z_cmp .eq (nB true) 0 = false))).elim) (fun _ => ?_)
      refine z_rcs hc hH 3 (pc' := 173) (lv' := [(4, .int (nI j)), (3, .int (nB true)), (2, .int (nI i)), (0, .ref 50), (1, .int (nI p))]) (st' := [.int (nI j), .ref 56]) (μ' := μ2) (by rfl) ?_
      refine zq_iald hc hH (by rfl) 4 (by decide +kernel) (hjn) ?_
      rw [ej, (g.1 j (by omega)).1]
      show Z 0 174 [(4, .int (nI j)), (3, .int (nB true)), (2, .int (nI i)), (0, .ref 50), (1, .int (nI p))] [.int (nI (s j))] μ2
      refine z_rcs hc hH 3 (pc' := 179) (lv' := [(4, .int (nI j)), (3, .int (nB true)), (2, .int (nI i)), (0, .ref 50), (1, .int (nI p))]) (st' := [.int (nI i), .ref 56, .int (nI (s j))]) (μ' := μ2) (by rfl) ?_
      refine zq_iald hc hH (by rfl) 4 (by decide +kernel) (hin) ?_
      rw [ei, (g.1 i (by omega)).1]
      show Z 0 180 [(4, .int (nI j)), (3, .int (nB true)), (2, .int (nI i)), (0, .ref 50), (1, .int (nI p))] [.int (nI (s i)), .int (nI (s j))] μ2
      refine zq_ic hc hH (by rfl) (tg := 199) (by rfl) (fun h1 => ?_) (fun h1 => ?_)
      · have h1 := cm_ne.mp h1
        refine z_rcs hc hH 5 (pc' := 152) (lv' := [(4, .int ((nI j) + 1)), (3, .int 1), (2, .int (nI i)), (0, .ref 50), (1, .int (nI p))]) (st' := []) (μ' := μ2) (by rfl) ?_
        rw [nI_1]
        have d1 : df1 s l j i = true := by unfold df1; rw [show decide (s j = s i) = false from decide_eq_false (fun z => h1 (by rw [z]))]; rfl
        rw [d1, Bool.true_and] at hb
        exact ih (j + 1) (by omega) true (by rw [Bool.true_and]; exact hb)
      · have h1 := cn_ne.mp h1
        refine z_rcs hc hH 3 (pc' := 189) (lv' := [(4, .int (nI j)), (3, .int (nB true)), (2, .int (nI i)), (0, .ref 50), (1, .int (nI p))]) (st' := [.int (nI j), .ref 57]) (μ' := μ2) (by rfl) ?_
        refine zq_iald hc hH (by rfl) 4 (by decide +kernel) (hjn) ?_
        rw [ej, (g.1 j (by omega)).2]
        show Z 0 190 [(4, .int (nI j)), (3, .int (nB true)), (2, .int (nI i)), (0, .ref 50), (1, .int (nI p))] [.int (nI (l j))] μ2
        refine z_rcs hc hH 3 (pc' := 195) (lv' := [(4, .int (nI j)), (3, .int (nB true)), (2, .int (nI i)), (0, .ref 50), (1, .int (nI p))]) (st' := [.int (nI i), .ref 57, .int (nI (l j))]) (μ' := μ2) (by rfl) ?_
        refine zq_iald hc hH (by rfl) 4 (by decide +kernel) (hin) ?_
        rw [ei, (g.1 i (by omega)).2]
        show Z 0 196 [(4, .int (nI j)), (3, .int (nB true)), (2, .int (nI i)), (0, .ref 50), (1, .int (nI p))] [.int (nI (l i)), .int (nI (l j))] μ2
        refine zq_ic hc hH (by rfl) (tg := 203) (by rfl) (fun h2 => ?_) (fun h2 => ?_)
        · have h2 := cm_eq9.mp h2
          refine z_rcs hc hH 4 (pc' := 152) (lv' := [(4, .int ((nI j) + 1)), (3, .int 0), (2, .int (nI i)), (0, .ref 50), (1, .int (nI p))]) (st' := []) (μ' := μ2) (by rfl) ?_
          rw [nI_1]
          have d1 : df1 s l j i = false := by
            unfold df1
            rw [decide_eq_true ((nI_eq (show s j < 2 ^ 31 by omega) (show s i < 2 ^ 31 by omega)).mp h1), decide_eq_true ((nI_eq (show l j < 2 ^ 31 by omega) (show l i < 2 ^ 31 by omega)).mp h2)]; rfl
          rw [d1, Bool.false_and] at hb
          exact ih (j + 1) (by omega) false (by rw [Bool.false_and]; exact hb)
        · have h2 := cn_eq.mp h2
          refine z_rcs hc hH 5 (pc' := 152) (lv' := [(4, .int ((nI j) + 1)), (3, .int 1), (2, .int (nI i)), (0, .ref 50), (1, .int (nI p))]) (st' := []) (μ' := μ2) (by rfl) ?_
          rw [nI_1]
          have d1 : df1 s l j i = true := by unfold df1; rw [show decide (l j = l i) = false from decide_eq_false (fun z => h2 (by rw [z])), Bool.and_false]; rfl
          rw [d1, Bool.true_and] at hb
          exact ih (j + 1) (by omega) true (by rw [Bool.true_and]; exact hb)
noncomputable def WB (μ0 μ μ2 : zM) (q p : Nat) (s l : Nat → Nat) (i : Nat) : Prop := WA μ μ2 p s l 4 ∧ BS (fun x => ∃ co, q ≤ co ∧ co < i ∧ OW μ0 q p s l co x) (bq μ) (bq μ2)
theorem AG_way {μ0 μ μ2 : zM} {q p i : Nat} {s l : Nat → Nat} (hF : a_Fz mdR μ0 μ) (g : WA μ μ2 p s l 4) (hi : i ≤ 4) (x : Int32) : AG (z_ui (z_ui μ2 50 22 (nI i)) 50 16 x) (yM μ0 s l (nI p) (nI i)) := by
  have r : ∀ a b, ¬ a = 50 → (z_ui (z_ui μ2 50 22 (nI i)) 50 16 x).1 a b = μ2.1 a b := fun a b h => by rw [z_ui_rd, if_neg (by omega), z_ui_rd, if_neg (by omega)]
  have r5 : ∀ b, ¬ b = 22 → ¬ b = 16 → (z_ui (z_ui μ2 50 22 (nI i)) 50 16 x).1 50 b = μ2.1 50 b := fun b h h2 => by rw [z_ui_rd, if_neg (by omega), z_ui_rd, if_neg (by omega)]
  have F : a_Fz mdR μ0 μ2 := a_Fz_tr (by decide +kernel) hF g.2.1
  have row : ∀ a, (mdR.all (fun q => !Nat.beq q.1 a)) = true → ¬ a = 50 → ¬ a = 56 → ¬ a = 57 → (z_ui (z_ui μ2 50 22 (nI i)) 50 16 x).1 a = (yM μ0 s l (nI p) (nI i)).1 a := fun a h h1 h2 h3 => funext fun b => by
    rw [r a b h1, a_Fz_at F a b (a_md_row h)]
    show _ = if a = 56 then nI (s b) else if a = 57 then nI (l b) else if a = 50 ∧ b = 21 then nI p else if a = 50 ∧ b = 22 then nI i else μ0.1 a b
    rw [if_neg h2, if_neg h3, if_neg (fun z => h1 z.1), if_neg (fun z => h1 z.1)]
  have y5 : ∀ b, ¬ b = 21 → ¬ b = 22 → ¬ b = 16 → a_md mdR 50 b = false → (z_ui (z_ui μ2 50 22 (nI i)) 50 16 x).1 50 b = (yM μ0 s l (nI p) (nI i)).1 50 b := fun b h1 h2 h3 h4 => by
    rw [r5 b h2 h3, a_Fz_at F 50 b h4]
    show _ = if 50 = 56 then nI (s b) else if 50 = 57 then nI (l b) else if 50 = 50 ∧ b = 21 then nI p else if 50 = 50 ∧ b = 22 then nI i else μ0.1 50 b
    rw [if_neg (by omega), if_neg (by omega), if_neg (fun z => h1 z.2), if_neg (fun z => h2 z.2)]
  have a56 : ∀ b, b < 4 → (z_ui (z_ui μ2 50 22 (nI i)) 50 16 x).1 56 b = nI (s b) := fun b h => by rw [r 56 b (by omega)]; exact (g.1 b h).1
  have a57 : ∀ b, b < 4 → (z_ui (z_ui μ2 50 22 (nI i)) 50 16 x).1 57 b = nI (l b) := fun b h => by rw [r 57 b (by omega)]; exact (g.1 b h).2
  exact ⟨a56 0 (by omega), a57 0 (by omega), a56 1 (by omega), a57 1 (by omega), a56 2 (by omega), a57 2 (by omega), a56 3 (by omega), a57 3 (by omega), y5 4 (by omega) (by omega) (by omega) (by decide), y5 7 (by omega) (by omega) (by omega) (by decide), y5 8 (by omega) (by omega) (by omega) (by decide), y5 9 (by omega) (by omega) (by omega) (by decide), y5 10 (by omega) (by omega) (by omega) (by decide), y5 11 (by omega) (by omega) (by omega) (by decide), (by rw [r5 21 (by omega) (by omega)]; exact g.2.2.2), (by rw [z_ui_rd, if_neg (by omega), z_ui_rd, if_pos ⟨rfl, rfl⟩]; rfl), row 52 (by decide) (by omega) (by omega) (by omega), row 53 (by decide) (by omega) (by omega) (by omega), row 58 (by decide) (by omega) (by omega) (by omega), (F.1 50 12 (by decide)).2, vp_in_nI (show i < 5 by omega) (by decide)⟩
theorem wy211 (d' : Nat) (Z : zK) (hd : 5 ≤ d') (μ0 μ : zM) (q p : Nat) (s l : Nat → Nat) (hq : q ≤ 4) (hp : p < 34) (hsl : ∀ j, j < 4 → s j ≤ 3 ∧ l j < 34) (e4 : μ.1 50 4 = nI q) (hc : z_clo z_x0 mi_X7_way (z_C d') Z) (hF : a_Fz mdR μ0 μ) (i : Nat) (hi : i ≤ 4) (hqi : q ≤ i) (μ2 : zM) (g : WB μ0 μ μ2 q p s l i) (K : ∀ μ3 x3 x4, WB μ0 μ μ3 q p s l (i + 1) → Z 0 100 [(2, .int (nI (i + 1))), (4, .int x4), (3, .int x3), (0, .ref 50), (1, .int (nI p))] [] μ3) : ∀ x4 (b : Bool), b = mc (μ.1 50 7) q p s l i → Z 0 211 [(4, .int x4), (3, .int (nB b)), (2, .int (nI i)), (0, .ref 50), (1, .int (nI p))] [] μ2 := by
  have hH := zh_X7_way
  intro x4 b hb
  have e42 : μ2.1 50 4 = nI q := (a_Fz_at g.1.2.1 50 4 (by decide +kernel)).trans e4
  have e7 : μ0.1 50 7 = μ.1 50 7 := (a_Fz_at hF 50 7 (by decide +kernel)).symm
  refine z_rcs hc hH 1 (pc' := 212) (lv' := [(4, .int x4), (3, .int (nB b)), (2, .int (nI i)), (0, .ref 50), (1, .int (nI p))]) (st' := [.int (nB b)]) (μ' := μ2) (by rfl) ?_
  refine zq_if hc hH (by rfl) (tg := 218) (by rfl) (fun h1 => ?_) (fun h1 => ?_)
  · have h1 := cm_ne.mp h1
    refine z_rcs hc hH 10 (pc' := 234) (lv' := [(4, .int x4), (3, .int (nB b)), (2, .int (nI i)), (0, .ref 50), (1, .int (nI p))]) (st' := [.ref 50]) (μ' := z_ui (z_ui μ2 50 22 (nI i)) 50 16 ((μ2.1 50 16) + 1)) (by rfl) ?_
    have hbt : mc (μ0.1 50 7) q p s l i = true := by rw [e7, ← hb]; exact nB_n.mp h1
    have ag := AG_way (q := q) hF g.1 hi (μ2.1 50 16 + 1)
    have F3 : a_Fz mdY μ (z_ui (z_ui μ2 50 22 (nI i)) 50 16 ((μ2.1 50 16) + 1)) := a_Fz_ui (a_Fz_ui g.1.2.1 (by decide +kernel)) (by decide +kernel)
    have H3 : a_H (z_ui (z_ui μ2 50 22 (nI i)) 50 16 ((μ2.1 50 16) + 1)) := a_H_ui (a_H_ui g.1.2.2.1 (show bI 0 4 _ from bd_nI (by omega) ⟨by omega, by omega⟩)) (bI_top _)
    have A3 : ∀ j, j < 4 → (z_ui (z_ui μ2 50 22 (nI i)) 50 16 ((μ2.1 50 16) + 1)).1 56 j = nI (s j) ∧ (z_ui (z_ui μ2 50 22 (nI i)) 50 16 ((μ2.1 50 16) + 1)).1 57 j = nI (l j) := fun j hj => by rw [z_ui_rd, if_neg (by omega), z_ui_rd, if_neg (by omega), z_ui_rd, if_neg (by omega), z_ui_rd, if_neg (by omega)]; exact g.1.1 j hj
    have B3 : bq (z_ui (z_ui μ2 50 22 (nI i)) 50 16 ((μ2.1 50 16) + 1)) = bq μ2 := by
      unfold bq
      rw [z_ui_rd, if_neg (by omega), z_ui_rd, if_neg (by omega), z_ui_rd, if_neg (by omega), z_ui_rd, if_neg (by omega), z_ui_rd, if_neg (by omega), z_ui_rd, if_neg (by omega)]
      rfl
    have p3 : (z_ui (z_ui μ2 50 22 (nI i)) 50 16 ((μ2.1 50 16) + 1)).1 50 21 = nI p := by rw [z_ui_rd, if_neg (by omega), z_ui_rd, if_neg (by omega)]; exact g.1.2.2.2
    have c3 : vp_in ((z_ui (z_ui μ2 50 22 (nI i)) 50 16 ((μ2.1 50 16) + 1)).1 50 22) 5 := by rw [z_ui_rd, if_neg (by omega), z_ui_rd, if_pos ⟨rfl, rfl⟩]; exact vp_in_nI (by omega) (by decide)
    generalize z_ui (z_ui μ2 50 22 (nI i)) 50 16 ((μ2.1 50 16) + 1) = μ3 at ag F3 H3 A3 B3 p3 c3 ⊢
    refine zq_call hc (z_cx_ok hH (by rfl)) (fb_X7_firstSort d' (by omega) μ3 q hq ((a_Fz_at F3 50 4 (by decide +kernel)).trans e4) s l (fun j hj => ⟨(A3 j hj).1, (hsl j hj).1, (A3 j hj).2, (hsl j hj).2⟩) c3) (by decide +kernel) (fun r4 μ4 hq4 => ?_)
    obtain ⟨rfl, hC⟩ := hq4
    have F34 : a_Fz mdY μ3 μ4 := a_Fz_tr (by decide +kernel) (Fz_mGP (by decide +kernel) (by decide +kernel) (by decide +kernel)) hC.1
    have g4 : WB μ0 μ μ4 q p s l (i + 1) := by
      refine ⟨⟨fun j hj => ?_, a_Fz_tr (by decide +kernel) F3 F34, a_H_C H3 hC.1, ?_⟩, ?_⟩
      · rw [(hC.1.1 56 j (a_md_row (by decide +kernel))).1, (hC.1.1 57 j (a_md_row (by decide +kernel))).1]; exact A3 j hj
      · rw [(hC.1.1 50 21 (by decide)).1]; exact p3
      · have h2 : BS _ (bq μ2) (bq μ4) := B3 ▸ hC.2
        refine (g.2.tr h2).iff (fun x => ⟨?_, ?_⟩)
        · rintro (⟨co, c1, c2, c3⟩ | ⟨c1, c2⟩)
          · exact ⟨co, c1, by omega, c3⟩
          · exact ⟨i, hqi, by omega, hbt, c1.trans (ag_vRf ag q s l), c2⟩
        · rintro ⟨co, c1, c2, c3⟩
          by_cases e : co = i
          · subst e; exact Or.inr ⟨c3.2.1.trans (ag_vRf ag q s l).symm, c3.2.2⟩
          · exact Or.inl ⟨co, c1, by omega, c3⟩
    show Z 0 237 [(4, .int x4), (3, .int (nB b)), (2, .int (nI i)), (0, .ref 50), (1, .int (nI p))] [] μ4
    refine z_rcs hc hH 2 (pc' := 100) (lv' := [(2, .int ((nI i) + 1)), (4, .int x4), (3, .int (nB b)), (0, .ref 50), (1, .int (nI p))]) (st' := []) (μ' := μ4) (by rfl) ?_
    rw [nI_1]
    exact K μ4 _ _ g4
  · have h1 := cn_ne.mp h1
    refine z_rcs hc hH 3 (pc' := 100) (lv' := [(2, .int ((nI i) + 1)), (4, .int x4), (3, .int (nB b)), (0, .ref 50), (1, .int (nI p))]) (st' := []) (μ' := μ2) (by rfl) ?_
    rw [nI_1]
    refine K μ2 _ _ ⟨g.1, g.2.iff (fun x => ⟨fun ⟨co, c1, c2, c3⟩ => ⟨co, c1, by omega, c3⟩, fun ⟨co, c1, c2, c3⟩ => ⟨co, c1, if e : co = i then ?_ else (by omega), c3⟩⟩)⟩
    subst e
    exfalso
    have := c3.1
    rw [e7, ← hb] at this
    exact nB_n.mpr this h1
theorem wy100 (d' : Nat) (Z : zK) (hd : 5 ≤ d') (μ0 μ : zM) (q p : Nat) (s l : Nat → Nat) (hq : q ≤ 4) (hp : p < 34) (hsl : ∀ j, j < 4 → s j ≤ 3 ∧ l j < 34) (e4 : μ.1 50 4 = nI q) (hc : z_clo z_x0 mi_X7_way (z_C d') Z) (hF : a_Fz mdR μ0 μ) (hr : z_ret mi_X7_way (fun r μ' => r = none ∧ WB μ0 μ μ' q p s l 5) Z) : ∀ n i, i + n = 5 → q ≤ i → ∀ μ2, WB μ0 μ μ2 q p s l i → (Z 0 100 [(2, .int (nI i)), (0, .ref 50), (1, .int (nI p))] [] μ2 ∧ ∀ x3 x4, Z 0 100 [(2, .int (nI i)), (4, .int x4), (3, .int x3), (0, .ref 50), (1, .int (nI p))] [] μ2) := by
  have hH := zh_X7_way
  intro n
  induction n with
  | zero =>
    intro i hi hqi μ2 g
    have hi : i = 5 := by omega
    subst hi
    refine ⟨?_, fun x3 x4 => ?_⟩
    · skip
      refine z_rcs hc hH 2 (pc' := 102) (lv' := [(2, .int (nI 5)), (0, .ref 50), (1, .int (nI p))]) (st' := [.int 5, .int (nI 5)]) (μ' := μ2) (by rfl) ?_
      refine zq_ic hc hH (by rfl) (tg := 243) (by rfl) (fun _ => ?_) (fun h9 => (zb_t (ge_nIt (n := 5) (i := 5) (by decide) (by decide)) h9).elim)
      exact hr 0 243 _ _ _ none (by decide +kernel) (by rfl) (⟨rfl, g⟩)
    · skip
      refine z_rcs hc hH 2 (pc' := 102) (lv' := [(2, .int (nI 5)), (4, .int x4), (3, .int x3), (0, .ref 50), (1, .int (nI p))]) (st' := [.int 5, .int (nI 5)]) (μ' := μ2) (by rfl) ?_
      refine zq_ic hc hH (by rfl) (tg := 243) (by rfl) (fun _ => ?_) (fun h9 => (zb_t (ge_nIt (n := 5) (i := 5) (by decide) (by decide)) h9).elim)
      exact hr 0 243 _ _ _ none (by decide +kernel) (by rfl) (⟨rfl, g⟩)
  | succ n ih =>
    intro i hi hqi μ2 g
    have e42 : μ2.1 50 4 = nI q := (a_Fz_at g.1.2.1 50 4 (by decide +kernel)).trans e4
    have e72 : μ2.1 50 7 = μ.1 50 7 := a_Fz_at g.1.2.1 50 7 (by decide +kernel)
    have K := wy211 d' Z hd μ0 μ q p s l hq hp hsl e4 hc hF i (by omega) hqi μ2 g (fun μ3 x3 x4 h => (ih (i + 1) (by omega) (by omega) μ3 h).2 x3 x4)
    have K4 : i < 4 → Z 0 152 [(4, .int (nI q)), (3, .int (nB (xHas (nI (s i)) (nI (l i)) (μ.1 50 7)))), (2, .int (nI i)), (0, .ref 50), (1, .int (nI p))] [] μ2 := fun h4 => wy152 d' Z hd μ0 μ q p s l hq hp hsl e4 (mc (μ.1 50 7) q p s l i) hc i h4 hqi μ2 g.1 K (i - q) q (by omega) _ (by unfold mc; rw [show Nat.blt i 4 = true from Nat.blt_eq.mpr h4]; rfl)
    refine ⟨?_, fun x3 x4 => ?_⟩
    · by_cases h4 : i < 4
      · have hin : vp_in (nI i) 4 := vp_in_nI (by omega) (by decide)
        have ei : (nI i).toNatClampNeg = i := nI_clamp (by omega)
        refine z_rcs hc hH 2 (pc' := 102) (lv' := [(2, .int (nI i)), (0, .ref 50), (1, .int (nI p))]) (st' := [.int 5, .int (nI i)]) (μ' := μ2) (by rfl) ?_
        refine zq_ic hc hH (by rfl) (tg := 243) (by rfl) (fun h9 => (zb_t h9 (ge_nI (n := 5) (i := i) (by omega) (by decide))).elim) (fun _ => ?_)
        refine z_rcs hc hH 2 (pc' := 107) (lv' := [(2, .int (nI i)), (0, .ref 50), (1, .int (nI p))]) (st' := [.int 4, .int (nI i)]) (μ' := μ2) (by rfl) ?_
        refine zq_ic hc hH (by rfl) (tg := 132) (by rfl) (fun h9 => (zb_t h9 (ge_nI (n := 4) (i := i) (by omega) (by decide))).elim) (fun _ => ?_)
        refine z_rcs hc hH 3 (pc' := 115) (lv' := [(2, .int (nI i)), (0, .ref 50), (1, .int (nI p))]) (st' := [.int (nI i), .ref 56]) (μ' := μ2) (by rfl) ?_
        refine zq_iald hc hH (by rfl) 4 (by decide +kernel) (hin) ?_
        rw [ei, (g.1.1 i h4).1]
        show Z 0 116 [(2, .int (nI i)), (0, .ref 50), (1, .int (nI p))] [.int (nI (s i))] μ2
        refine z_rcs hc hH 3 (pc' := 121) (lv' := [(2, .int (nI i)), (0, .ref 50), (1, .int (nI p))]) (st' := [.int (nI i), .ref 57, .int (nI (s i))]) (μ' := μ2) (by rfl) ?_
        refine zq_iald hc hH (by rfl) 4 (by decide +kernel) (hin) ?_
        rw [ei, (g.1.1 i h4).2]
        show Z 0 122 [(2, .int (nI i)), (0, .ref 50), (1, .int (nI p))] [.int (nI (l i)), .int (nI (s i))] μ2
        refine z_rcs hc hH 2 (pc' := 126) (lv' := [(2, .int (nI i)), (0, .ref 50), (1, .int (nI p))]) (st' := [.int (μ2.1 50 7), .int (nI (l i)), .int (nI (s i))]) (μ' := μ2) (by rfl) ?_
        rw [e72]
        show Z 0 126 [(2, .int (nI i)), (0, .ref 50), (1, .int (nI p))] [.int (μ.1 50 7), .int (nI (l i)), .int (nI (s i))] μ2
        refine zq_call hc (z_cx_ok hH (by rfl)) (fb_X7_has d' (by omega) μ2 (nI (s i)) (nI (l i)) (μ.1 50 7)) (by decide +kernel) (fun r9 μ9 hq => ?_)
        obtain ⟨hμ9, rfl⟩ := hq
        rw [hμ9]
        clear hμ9 μ9
        show Z 0 129 [(2, .int (nI i)), (0, .ref 50), (1, .int (nI p))] [.int (nB (xHas (nI (s i)) (nI (l i)) (μ.1 50 7)))] μ2
        refine z_rcs hc hH 5 (pc' := 152) (lv' := [(4, .int (μ2.1 50 4)), (3, .int (nB (xHas (nI (s i)) (nI (l i)) (μ.1 50 7)))), (2, .int (nI i)), (0, .ref 50), (1, .int (nI p))]) (st' := []) (μ' := μ2) (by rfl) ?_
        rw [e42]
        exact K4 h4
      · have h5 : i = 4 := by omega
        subst h5
        refine z_rcs hc hH 2 (pc' := 102) (lv' := [(2, .int (nI 4)), (0, .ref 50), (1, .int (nI p))]) (st' := [.int 5, .int (nI 4)]) (μ' := μ2) (by rfl) ?_
        refine zq_ic hc hH (by rfl) (tg := 243) (by rfl) (fun h9 => (zb_t h9 (ge_nI (n := 5) (i := 4) (by omega) (by decide))).elim) (fun _ => ?_)
        refine z_rcs hc hH 2 (pc' := 107) (lv' := [(2, .int (nI 4)), (0, .ref 50), (1, .int (nI p))]) (st' := [.int 4, .int (nI 4)]) (μ' := μ2) (by rfl) ?_
        refine zq_ic hc hH (by rfl) (tg := 132) (by rfl) (fun _ => ?_) (fun h9 => (zb_t (ge_nIt (n := 4) (i := 4) (by omega) (by decide)) h9).elim)
        refine z_rcs hc hH 3 (pc' := 137) (lv' := [(2, .int (nI 4)), (0, .ref 50), (1, .int (nI p))]) (st' := [.int (μ2.1 50 7), .int (nI p)]) (μ' := μ2) (by rfl) ?_
        rw [e72]
        show Z 0 137 [(2, .int (nI 4)), (0, .ref 50), (1, .int (nI p))] [.int (μ.1 50 7), .int (nI p)] μ2
        refine zq_ic hc hH (by rfl) (tg := 144) (by rfl) (fun h1 => ?_) (fun h1 => ?_)
        · have h1 := cm_ne.mp h1
          refine z_rcs hc hH 5 (pc' := 152) (lv' := [(4, .int (μ2.1 50 4)), (3, .int 0), (2, .int (nI 4)), (0, .ref 50), (1, .int (nI p))]) (st' := []) (μ' := μ2) (by rfl) ?_
          rw [e42]
          refine z_rcs hc hH 2 (pc' := 155) (lv' := [(4, .int (nI q)), (3, .int 0), (2, .int (nI 4)), (0, .ref 50), (1, .int (nI p))]) (st' := [.int (nI 4), .int (nI q)]) (μ' := μ2) (by rfl) ?_
          by_cases h9 : q < 4
          · skip
            refine zq_ic hc hH (by rfl) (tg := 211) (by rfl) (fun h9 => (zb_t h9 (ge_nI (n := 4) (i := q) (by omega) (by omega))).elim) (fun _ => ?_)
            refine z_rcs hc hH 2 (pc' := 160) (lv' := [(4, .int (nI q)), (3, .int 0), (2, .int (nI 4)), (0, .ref 50), (1, .int (nI p))]) (st' := [.int 4, .int (nI 4)]) (μ' := μ2) (by rfl) ?_
            refine zq_ic hc hH (by rfl) (tg := 211) (by rfl) (fun _ => ?_) (fun h9 => (zb_t (ge_nIt (n := 4) (i := 4) (by omega) (by omega)) h9).elim)
            exact K (nI q) false (by unfold mc; rw [show Nat.blt 4 4 = false from rfl]; exact (decide_eq_false h1).symm)
          · skip
            refine zq_ic hc hH (by rfl) (tg := 211) (by rfl) (fun _ => ?_) (fun h9 => (zb_t (ge_nIt (n := 4) (i := q) (by omega) (by omega)) h9).elim)
            exact K (nI q) false (by unfold mc; rw [show Nat.blt 4 4 = false from rfl]; exact (decide_eq_false h1).symm)
        · have h1 := cn_ne.mp h1
          refine z_rcs hc hH 6 (pc' := 152) (lv' := [(4, .int (μ2.1 50 4)), (3, .int 1), (2, .int (nI 4)), (0, .ref 50), (1, .int (nI p))]) (st' := []) (μ' := μ2) (by rfl) ?_
          rw [e42]
          refine z_rcs hc hH 2 (pc' := 155) (lv' := [(4, .int (nI q)), (3, .int 1), (2, .int (nI 4)), (0, .ref 50), (1, .int (nI p))]) (st' := [.int (nI 4), .int (nI q)]) (μ' := μ2) (by rfl) ?_
          by_cases h9 : q < 4
          · skip
            refine zq_ic hc hH (by rfl) (tg := 211) (by rfl) (fun h9 => (zb_t h9 (ge_nI (n := 4) (i := q) (by omega) (by omega))).elim) (fun _ => ?_)
            refine z_rcs hc hH 2 (pc' := 160) (lv' := [(4, .int (nI q)), (3, .int 1), (2, .int (nI 4)), (0, .ref 50), (1, .int (nI p))]) (st' := [.int 4, .int (nI 4)]) (μ' := μ2) (by rfl) ?_
            refine zq_ic hc hH (by rfl) (tg := 211) (by rfl) (fun _ => ?_) (fun h9 => (zb_t (ge_nIt (n := 4) (i := 4) (by omega) (by omega)) h9).elim)
            exact K (nI q) true (by unfold mc; rw [show Nat.blt 4 4 = false from rfl]; exact (decide_eq_true h1).symm)
          · skip
            refine zq_ic hc hH (by rfl) (tg := 211) (by rfl) (fun _ => ?_) (fun h9 => (zb_t (ge_nIt (n := 4) (i := q) (by omega) (by omega)) h9).elim)
            exact K (nI q) true (by unfold mc; rw [show Nat.blt 4 4 = false from rfl]; exact (decide_eq_true h1).symm)
    · by_cases h4 : i < 4
      · have hin : vp_in (nI i) 4 := vp_in_nI (by omega) (by decide)
        have ei : (nI i).toNatClampNeg = i := nI_clamp (by omega)
        refine z_rcs hc hH 2 (pc' := 102) (lv' := [(2, .int (nI i)), (4, .int x4), (3, .int x3), (0, .ref 50), (1, .int (nI p))]) (st' := [.int 5, .int (nI i)]) (μ' := μ2) (by rfl) ?_
        refine zq_ic hc hH (by rfl) (tg := 243) (by rfl) (fun h9 => (zb_t h9 (ge_nI (n := 5) (i := i) (by omega) (by decide))).elim) (fun _ => ?_)
        refine z_rcs hc hH 2 (pc' := 107) (lv' := [(2, .int (nI i)), (4, .int x4), (3, .int x3), (0, .ref 50), (1, .int (nI p))]) (st' := [.int 4, .int (nI i)]) (μ' := μ2) (by rfl) ?_
        refine zq_ic hc hH (by rfl) (tg := 132) (by rfl) (fun h9 => (zb_t h9 (ge_nI (n := 4) (i := i) (by omega) (by decide))).elim) (fun _ => ?_)
        refine z_rcs hc hH 3 (pc' := 115) (lv' := [(2, .int (nI i)), (4, .int x4), (3, .int x3), (0, .ref 50), (1, .int (nI p))]) (st' := [.int (nI i), .ref 56]) (μ' := μ2) (by rfl) ?_
        refine zq_iald hc hH (by rfl) 4 (by decide +kernel) (hin) ?_
        rw [ei, (g.1.1 i h4).1]
        show Z 0 116 [(2, .int (nI i)), (4, .int x4), (3, .int x3), (0, .ref 50), (1, .int (nI p))] [.int (nI (s i))] μ2
        refine z_rcs hc hH 3 (pc' := 121) (lv' := [(2, .int (nI i)), (4, .int x4), (3, .int x3), (0, .ref 50), (1, .int (nI p))]) (st' := [.int (nI i), .ref 57, .int (nI (s i))]) (μ' := μ2) (by rfl) ?_
        refine zq_iald hc hH (by rfl) 4 (by decide +kernel) (hin) ?_
        rw [ei, (g.1.1 i h4).2]
        show Z 0 122 [(2, .int (nI i)), (4, .int x4), (3, .int x3), (0, .ref 50), (1, .int (nI p))] [.int (nI (l i)), .int (nI (s i))] μ2
        refine z_rcs hc hH 2 (pc' := 126) (lv' := [(2, .int (nI i)), (4, .int x4), (3, .int x3), (0, .ref 50), (1, .int (nI p))]) (st' := [.int (μ2.1 50 7), .int (nI (l i)), .int (nI (s i))]) (μ' := μ2) (by rfl) ?_
        rw [e72]
        show Z 0 126 [(2, .int (nI i)), (4, .int x4), (3, .int x3), (0, .ref 50), (1, .int (nI p))] [.int (μ.1 50 7), .int (nI (l i)), .int (nI (s i))] μ2
        refine zq_call hc (z_cx_ok hH (by rfl)) (fb_X7_has d' (by omega) μ2 (nI (s i)) (nI (l i)) (μ.1 50 7)) (by decide +kernel) (fun r9 μ9 hq => ?_)
        obtain ⟨hμ9, rfl⟩ := hq
        rw [hμ9]
        clear hμ9 μ9
        show Z 0 129 [(2, .int (nI i)), (4, .int x4), (3, .int x3), (0, .ref 50), (1, .int (nI p))] [.int (nB (xHas (nI (s i)) (nI (l i)) (μ.1 50 7)))] μ2
        refine z_rcs hc hH 5 (pc' := 152) (lv' := [(4, .int (μ2.1 50 4)), (3, .int (nB (xHas (nI (s i)) (nI (l i)) (μ.1 50 7)))), (2, .int (nI i)), (0, .ref 50), (1, .int (nI p))]) (st' := []) (μ' := μ2) (by rfl) ?_
        rw [e42]
        exact K4 h4
      · have h5 : i = 4 := by omega
        subst h5
        refine z_rcs hc hH 2 (pc' := 102) (lv' := [(2, .int (nI 4)), (4, .int x4), (3, .int x3), (0, .ref 50), (1, .int (nI p))]) (st' := [.int 5, .int (nI 4)]) (μ' := μ2) (by rfl) ?_
        refine zq_ic hc hH (by rfl) (tg := 243) (by rfl) (fun h9 => (zb_t h9 (ge_nI (n := 5) (i := 4) (by omega) (by decide))).elim) (fun _ => ?_)
        refine z_rcs hc hH 2 (pc' := 107) (lv' := [(2, .int (nI 4)), (4, .int x4), (3, .int x3), (0, .ref 50), (1, .int (nI p))]) (st' := [.int 4, .int (nI 4)]) (μ' := μ2) (by rfl) ?_
        refine zq_ic hc hH (by rfl) (tg := 132) (by rfl) (fun _ => ?_) (fun h9 => (zb_t (ge_nIt (n := 4) (i := 4) (by omega) (by decide)) h9).elim)
        refine z_rcs hc hH 3 (pc' := 137) (lv' := [(2, .int (nI 4)), (4, .int x4), (3, .int x3), (0, .ref 50), (1, .int (nI p))]) (st' := [.int (μ2.1 50 7), .int (nI p)]) (μ' := μ2) (by rfl) ?_
        rw [e72]
        show Z 0 137 [(2, .int (nI 4)), (4, .int x4), (3, .int x3), (0, .ref 50), (1, .int (nI p))] [.int (μ.1 50 7), .int (nI p)] μ2
        refine zq_ic hc hH (by rfl) (tg := 144) (by rfl) (fun h1 => ?_) (fun h1 => ?_)
        · have h1 := cm_ne.mp h1
          refine z_rcs hc hH 5 (pc' := 152) (lv' := [(4, .int (μ2.1 50 4)), (3, .int 0), (2, .int (nI 4)), (0, .ref 50), (1, .int (nI p))]) (st' := []) (μ' := μ2) (by rfl) ?_
          rw [e42]
          refine z_rcs hc hH 2 (pc' := 155) (lv' := [(4, .int (nI q)), (3, .int 0), (2, .int (nI 4)), (0, .ref 50), (1, .int (nI p))]) (st' := [.int (nI 4), .int (nI q)]) (μ' := μ2) (by rfl) ?_
          by_cases h9 : q < 4
          · skip
            refine zq_ic hc hH (by rfl) (tg := 211) (by rfl) (fun h9 => (zb_t h9 (ge_nI (n := 4) (i := q) (by omega) (by omega))).elim) (fun _ => ?_)
            refine z_rcs hc hH 2 (pc' := 160) (lv' := [(4, .int (nI q)), (3, .int 0), (2, .int (nI 4)), (0, .ref 50), (1, .int (nI p))]) (st' := [.int 4, .int (nI 4)]) (μ' := μ2) (by rfl) ?_
            refine zq_ic hc hH (by rfl) (tg := 211) (by rfl) (fun _ => ?_) (fun h9 => (zb_t (ge_nIt (n := 4) (i := 4) (by omega) (by omega)) h9).elim)
            exact K (nI q) false (by unfold mc; rw [show Nat.blt 4 4 = false from rfl]; exact (decide_eq_false h1).symm)
          · skip
            refine zq_ic hc hH (by rfl) (tg := 211) (by rfl) (fun _ => ?_) (fun h9 => (zb_t (ge_nIt (n := 4) (i := q) (by omega) (by omega)) h9).elim)
            exact K (nI q) false (by unfold mc; rw [show Nat.blt 4 4 = false from rfl]; exact (decide_eq_false h1).symm)
        · have h1 := cn_ne.mp h1
          refine z_rcs hc hH 6 (pc' := 152) (lv' := [(4, .int (μ2.1 50 4)), (3, .int 1), (2, .int (nI 4)), (0, .ref 50), (1, .int (nI p))]) (st' := []) (μ' := μ2) (by rfl) ?_
          rw [e42]
          refine z_rcs hc hH 2 (pc' := 155) (lv' := [(4, .int (nI q)), (3, .int 1), (2, .int (nI 4)), (0, .ref 50), (1, .int (nI p))]) (st' := [.int (nI 4), .int (nI q)]) (μ' := μ2) (by rfl) ?_
          by_cases h9 : q < 4
          · skip
            refine zq_ic hc hH (by rfl) (tg := 211) (by rfl) (fun h9 => (zb_t h9 (ge_nI (n := 4) (i := q) (by omega) (by omega))).elim) (fun _ => ?_)
            refine z_rcs hc hH 2 (pc' := 160) (lv' := [(4, .int (nI q)), (3, .int 1), (2, .int (nI 4)), (0, .ref 50), (1, .int (nI p))]) (st' := [.int 4, .int (nI 4)]) (μ' := μ2) (by rfl) ?_
            refine zq_ic hc hH (by rfl) (tg := 211) (by rfl) (fun _ => ?_) (fun h9 => (zb_t (ge_nIt (n := 4) (i := 4) (by omega) (by omega)) h9).elim)
            exact K (nI q) true (by unfold mc; rw [show Nat.blt 4 4 = false from rfl]; exact (decide_eq_true h1).symm)
          · skip
            refine zq_ic hc hH (by rfl) (tg := 211) (by rfl) (fun _ => ?_) (fun h9 => (zb_t (ge_nIt (n := 4) (i := q) (by omega) (by omega)) h9).elim)
            exact K (nI q) true (by unfold mc; rw [show Nat.blt 4 4 = false from rfl]; exact (decide_eq_true h1).symm)
theorem way_HW (μ0 : zM) (q p : Nat) (sL lL : Nat → Nat) (hq : q ≤ 4) (hp : p < 34) (e0 : μ0.1 50 4 = nI q) (hL : ∀ j, j < q → μ0.1 52 j = nI (sL j) ∧ sL j ≤ 3 ∧ μ0.1 53 j = nI (lL j) ∧ lL j < 34) : HW 6 μ0 q p (OV μ0 q p sL lL) := by
  intro d μ sl hd hH0 hF hlen hPX hPV
  have e4 : μ.1 50 4 = nI q := (a_Fz_at hF 50 4 (by decide +kernel)).trans e0
  have hS1 : ∀ j, j < q → μ.1 52 j = nI (sA q sL sl j) ∧ μ.1 53 j = nI (lA q lL sl j) := fun j hj => by
    unfold sA lA
    rw [if_pos hj, if_pos hj, a_Fz_at hF 52 j (a_md_row (by decide +kernel)), a_Fz_at hF 53 j (a_md_row (by decide +kernel))]
    exact ⟨(hL j hj).1, (hL j hj).2.2.1⟩
  have hS2 : ∀ j, q ≤ j → j < 4 → μ.1 54 (j - q) = nI (sA q sL sl j) ∧ μ.1 55 (j - q) = nI (lA q lL sl j) := fun j hj h4 => by
    unfold sA lA
    rw [if_neg (by omega), if_neg (by omega)]
    exact hPX (j - q) (by omega)
  have hsl : ∀ j, j < 4 → sA q sL sl j ≤ 3 ∧ lA q lL sl j < 34 := fun j hj => by
    unfold sA lA
    by_cases c : j < q
    · rw [if_pos c, if_pos c]; exact ⟨(hL j c).2.1, (hL j c).2.2.2⟩
    · rw [if_neg c, if_neg c]
      have hm : sl.getD (j - q) (0, 0) ∈ sl := by
        rw [List.getD_eq_getElem?_getD, List.getElem?_eq_getElem (show j - q < sl.length by omega), Option.getD_some]
        exact List.getElem_mem _
      have := hPV _ hm
      exact ⟨by omega, this.2.1⟩
  refine z_C_in (by decide) (by omega) (fun d' Z ed hc hr => ?_)
  have hH := zh_X7_way
  generalize es : sA q sL sl = s at hS1 hS2 hsl
  generalize el : lA q lL sl = l at hS1 hS2 hsl
  have hr2 : z_ret mi_X7_way (fun r μ' => r = none ∧ WB μ0 μ μ' q p s l 5) Z := fun b pc lv st ν r h1 h2 h3 => hr b pc lv st ν r h1 h2 ⟨h3.1, h3.2.1.2.2.1, h3.2.1.2.1, h3.2.2.iff (fun x => by unfold OV; rw [es, el])⟩
  refine z_rcs hc hH 5 (pc' := 7) (lv' := [(2, .int 0), (0, .ref 50), (1, .int (nI p))]) (st' := []) (μ' := z_ui μ 50 21 (nI p)) (by rfl) ?_
  have g0 : WA μ (z_ui μ 50 21 (nI p)) p s l 0 := ⟨fun j hj => absurd hj (by omega), a_Fz_ui (a_Fz_rf _ _) (by decide +kernel), a_H_ui hH0 (show bI 0 33 _ from bd_nI (by omega) ⟨by omega, by omega⟩), by rw [z_ui_rd, if_pos ⟨rfl, rfl⟩]⟩
  have B0 : bq (z_ui μ 50 21 (nI p)) = bq μ := by
    unfold bq
    rw [z_ui_rd, if_neg (by omega), z_ui_rd, if_neg (by omega), z_ui_rd, if_neg (by omega)]
    rfl
  have G0 : WC μ (z_ui μ 50 21 (nI p)) p s l 0 := ⟨g0, B0⟩
  generalize z_ui μ 50 21 (nI p) = μa at G0 ⊢
  refine wy7 d' Z (by omega) μ0 μ q p s l hq hp hsl e4 hc hS1 (fun μ1 g1 => ?_) q 0 (by omega) (by omega) μa G0
  have e41 : μ1.1 50 4 = nI q := (a_Fz_at g1.1.2.1 50 4 (by decide +kernel)).trans e4
  refine z_rcs hc hH 2 (pc' := 49) (lv' := [(2, .int (nI q)), (0, .ref 50), (1, .int (nI p))]) (st' := [.int (μ1.1 50 4)]) (μ' := μ1) (by rfl) ?_
  rw [e41]
  show Z 0 49 [(2, .int (nI q)), (0, .ref 50), (1, .int (nI p))] [.int (nI q)] μ1
  refine z_rcs hc hH 1 (pc' := 50) (lv' := [(2, .int (nI q)), (0, .ref 50), (1, .int (nI p))]) (st' := []) (μ' := μ1) (by rfl) ?_
  refine wy50 d' Z (by omega) μ0 μ q p s l hq hp hsl e4 hc hS2 (fun μ3 g3 => ?_) (4 - q) q (by omega) (by omega) μ1 g1
  have e43 : μ3.1 50 4 = nI q := (a_Fz_at g3.1.2.1 50 4 (by decide +kernel)).trans e4
  refine z_rcs hc hH 2 (pc' := 99) (lv' := [(2, .int (nI 4)), (0, .ref 50), (1, .int (nI p))]) (st' := [.int (μ3.1 50 4)]) (μ' := μ3) (by rfl) ?_
  rw [e43]
  show Z 0 99 [(2, .int (nI 4)), (0, .ref 50), (1, .int (nI p))] [.int (nI q)] μ3
  refine z_rcs hc hH 1 (pc' := 100) (lv' := [(2, .int (nI q)), (0, .ref 50), (1, .int (nI p))]) (st' := []) (μ' := μ3) (by rfl) ?_
  exact (wy100 d' Z (by omega) μ0 μ q p s l hq hp hsl e4 hc hF hr2 (5 - q) q (by omega) (by omega) μ3 ⟨g3.1, by rw [g3.2]; exact BS_rf (fun x ⟨co, c1, c2, _⟩ => by omega)⟩).1
