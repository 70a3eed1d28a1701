/-! the forms that the tiles alone give: the reference -/
set_option maxRecDepth 8000
abbrev T7 : Type := Bool × Bool × Bool × Bool × Bool × Bool × Int32
def xGr (k : Int32) : Bool := decide (k = 19) || (decide (k = 20) || (decide (k = 21) || (decide (k = 23) || (decide (k = 25) || decide (k = 32)))))
def tSt (μ : zM) (q i : Nat) (t : T7) : T7 := bif decide (ofv (μ.1 58 i) (μ.1 52) (μ.1 53) (nI i) q = 0) then t else (t.1 && xEn (nI i), t.2.1 && !xEn (nI i), t.2.2.1 && xHo (nI i), t.2.2.2.1 || xHo (nI i), t.2.2.2.2.1 && xTe (nI i), t.2.2.2.2.2.1 && xGr (nI i), bif decide (27 ≤ nI i) then t.2.2.2.2.2.2 else t.2.2.2.2.2.2 ||| 1 <<< (nI i / 9 &&& 31))
def tF (μ : zM) (q : Nat) : Nat → Nat → T7 → T7
  | 0, _, t => t
  | n + 1, i, t => tF μ q n (i + 1) (tSt μ q i t)
def tKA (Z : zK) (μ : zM) (pc : Nat) (i : Int32) (t : T7) : Prop := Z 0 pc [(8, .int i), (7, .int t.2.2.2.2.2.2), (6, .int (nB t.2.2.2.2.2.1)), (5, .int (nB t.2.2.2.2.1)), (4, .int (nB t.2.2.2.1)), (3, .int (nB t.2.2.1)), (2, .int (nB t.2.1)), (1, .int (nB t.1)), (0, .ref 50)] [] μ ∧ Z 0 pc [(8, .int i), (6, .int (nB t.2.2.2.2.2.1)), (5, .int (nB t.2.2.2.2.1)), (4, .int (nB t.2.2.2.1)), (3, .int (nB t.2.2.1)), (2, .int (nB t.2.1)), (1, .int (nB t.1)), (7, .int t.2.2.2.2.2.2), (0, .ref 50)] [] μ
theorem tl21 (d' : Nat) (Z : zK) (hd : 2 ≤ d') (μ : zM) (q : Nat) (hq : q ≤ 4) (e4 : μ.1 50 4 = nI q) (hc : z_clo z_x0 mi_X7_tiles (z_C d') Z) : ∀ n i (t : T7), i + n = 34 → tKA Z μ 213 (nI 34) (tF μ q n i t) → tKA Z μ 21 (nI i) t := by
  have hH : zH mi_X7_tiles zc_X7_tiles 79 7 12 := ⟨by rfl, by rfl, by rfl, by rfl⟩
  intro n
  induction n with
  | zero =>
    intro i t hi K
    have hi : i = 34 := by omega
    subst hi
    obtain ⟨a1, a2, a3, a4, a5, a6, su⟩ := t
    have b1 : Z 0 21 [(8, .int (nI 34)), (7, .int su), (6, .int (nB a6)), (5, .int (nB a5)), (4, .int (nB a4)), (3, .int (nB a3)), (2, .int (nB a2)), (1, .int (nB a1)), (0, .ref 50)] [] μ := by
      refine z_rcs hc hH 2 (pc' := 25) (lv' := [(8, .int (nI 34)), (7, .int su), (6, .int (nB a6)), (5, .int (nB a5)), (4, .int (nB a4)), (3, .int (nB a3)), (2, .int (nB a2)), (1, .int (nB a1)), (0, .ref 50)]) (st' := [.int 34, .int (nI 34)]) (μ' := μ) (by rfl) ?_
      refine zq_ic hc hH (by rfl) (tg := 213) (by rfl) (fun _ => ?_) (fun h9 => (zb_t (ge_nIt (n := 34) (i := 34) (by decide) (by decide)) h9).elim)
      exact K.1
    have b2 : Z 0 21 [(8, .int (nI 34)), (6, .int (nB a6)), (5, .int (nB a5)), (4, .int (nB a4)), (3, .int (nB a3)), (2, .int (nB a2)), (1, .int (nB a1)), (7, .int su), (0, .ref 50)] [] μ := by
      refine z_rcs hc hH 2 (pc' := 25) (lv' := [(8, .int (nI 34)), (6, .int (nB a6)), (5, .int (nB a5)), (4, .int (nB a4)), (3, .int (nB a3)), (2, .int (nB a2)), (1, .int (nB a1)), (7, .int su), (0, .ref 50)]) (st' := [.int 34, .int (nI 34)]) (μ' := μ) (by rfl) ?_
      refine zq_ic hc hH (by rfl) (tg := 213) (by rfl) (fun _ => ?_) (fun h9 => (zb_t (ge_nIt (n := 34) (i := 34) (by decide) (by decide)) h9).elim)
      exact K.2
    exact ⟨b1, b2⟩
  | succ n ih =>
    intro i t hi K
    have hin : vp_in (nI i) 34 := vp_in_nI (by omega) (by decide)
    obtain ⟨a1, a2, a3, a4, a5, a6, su⟩ := t
    have cl : (nI i).toNatClampNeg = i := nI_clamp (by omega)
    have K : tKA Z μ 213 (nI 34) (tF μ q n (i + 1) (tSt μ q i (a1, a2, a3, a4, a5, a6, su))) := K
    have b1 : Z 0 21 [(8, .int (nI i)), (7, .int su), (6, .int (nB a6)), (5, .int (nB a5)), (4, .int (nB a4)), (3, .int (nB a3)), (2, .int (nB a2)), (1, .int (nB a1)), (0, .ref 50)] [] μ := by
      refine z_rcs hc hH 2 (pc' := 25) (lv' := [(8, .int (nI i)), (7, .int su), (6, .int (nB a6)), (5, .int (nB a5)), (4, .int (nB a4)), (3, .int (nB a3)), (2, .int (nB a2)), (1, .int (nB a1)), (0, .ref 50)]) (st' := [.int 34, .int (nI i)]) (μ' := μ) (by rfl) ?_
      refine zq_ic hc hH (by rfl) (tg := 213) (by rfl) (fun h9 => (zb_t h9 (ge_nI (n := 34) (i := i) (by omega) (by decide))).elim) (fun _ => ?_)
      refine z_rcs hc hH 2 (pc' := 31) (lv' := [(8, .int (nI i)), (7, .int su), (6, .int (nB a6)), (5, .int (nB a5)), (4, .int (nB a4)), (3, .int (nB a3)), (2, .int (nB a2)), (1, .int (nB a1)), (0, .ref 50)]) (st' := [.int (nI i), .ref 50]) (μ' := μ) (by rfl) ?_
      refine zq_call hc (by rfl) (fc_X7_of d' (by omega) μ (nI i) hin q hq e4) (by decide +kernel) (fun r9 μ9 hq => ?_)
      obtain ⟨hμ9, rfl⟩ := hq
      rw [hμ9]
      clear hμ9 μ9
      show Z 0 34 [(8, .int (nI i)), (7, .int su), (6, .int (nB a6)), (5, .int (nB a5)), (4, .int (nB a4)), (3, .int (nB a3)), (2, .int (nB a2)), (1, .int (nB a1)), (0, .ref 50)] [.int (ofv (μ.1 58 (nI i).toNatClampNeg) (μ.1 52) (μ.1 53) (nI i) q)] μ
      rw [cl]
      refine zq_if hc hH (by rfl) (tg := 40) (by rfl) (fun h1 => ?_) (fun h1 => ?_)
      · have h1 : (decide ((ofv (μ.1 58 i) (μ.1 52) (μ.1 53) (nI i) q) = 0)) = false := decide_eq_false (cm_ne.mp h1)
        refine z_rcs hc hH 1 (pc' := 41) (lv' := [(8, .int (nI i)), (7, .int su), (6, .int (nB a6)), (5, .int (nB a5)), (4, .int (nB a4)), (3, .int (nB a3)), (2, .int (nB a2)), (1, .int (nB a1)), (0, .ref 50)]) (st' := [.int (nB a1)]) (μ' := μ) (by rfl) ?_
        have hJ2 : Z 0 57 [(8, .int (nI i)), (7, .int su), (6, .int (nB a6)), (5, .int (nB a5)), (4, .int (nB a4)), (3, .int (nB a3)), (2, .int (nB a2)), (1, .int (nB a1)), (0, .ref 50)] [.int (nB (a1 && (xEn (nI i))))] μ := by
          refine z_rcs hc hH 2 (pc' := 59) (lv' := [(1, .int (nB (a1 && (xEn (nI i))))), (8, .int (nI i)), (7, .int su), (6, .int (nB a6)), (5, .int (nB a5)), (4, .int (nB a4)), (3, .int (nB a3)), (2, .int (nB a2)), (0, .ref 50)]) (st' := [.int (nB a2)]) (μ' := μ) (by rfl) ?_
          have hJ3 : Z 0 75 [(1, .int (nB (a1 && (xEn (nI i))))), (8, .int (nI i)), (7, .int su), (6, .int (nB a6)), (5, .int (nB a5)), (4, .int (nB a4)), (3, .int (nB a3)), (2, .int (nB a2)), (0, .ref 50)] [.int (nB (a2 && (!(xEn (nI i)))))] μ := by
            refine z_rcs hc hH 2 (pc' := 77) (lv' := [(2, .int (nB (a2 && (!(xEn (nI i)))))), (1, .int (nB (a1 && (xEn (nI i))))), (8, .int (nI i)), (7, .int su), (6, .int (nB a6)), (5, .int (nB a5)), (4, .int (nB a4)), (3, .int (nB a3)), (0, .ref 50)]) (st' := [.int (nB a3)]) (μ' := μ) (by rfl) ?_
            have hJ4 : Z 0 93 [(2, .int (nB (a2 && (!(xEn (nI i)))))), (1, .int (nB (a1 && (xEn (nI i))))), (8, .int (nI i)), (7, .int su), (6, .int (nB a6)), (5, .int (nB a5)), (4, .int (nB a4)), (3, .int (nB a3)), (0, .ref 50)] [.int (nB (a3 && (xHo (nI i))))] μ := by
              refine z_rcs hc hH 2 (pc' := 96) (lv' := [(3, .int (nB (a3 && (xHo (nI i))))), (2, .int (nB (a2 && (!(xEn (nI i)))))), (1, .int (nB (a1 && (xEn (nI i))))), (8, .int (nI i)), (7, .int su), (6, .int (nB a6)), (5, .int (nB a5)), (4, .int (nB a4)), (0, .ref 50)]) (st' := [.int (nB a4)]) (μ' := μ) (by rfl) ?_
              have hJ5 : Z 0 112 [(3, .int (nB (a3 && (xHo (nI i))))), (2, .int (nB (a2 && (!(xEn (nI i)))))), (1, .int (nB (a1 && (xEn (nI i))))), (8, .int (nI i)), (7, .int su), (6, .int (nB a6)), (5, .int (nB a5)), (4, .int (nB a4)), (0, .ref 50)] [.int (nB (a4 || (xHo (nI i))))] μ := by
                refine z_rcs hc hH 2 (pc' := 116) (lv' := [(4, .int (nB (a4 || (xHo (nI i))))), (3, .int (nB (a3 && (xHo (nI i))))), (2, .int (nB (a2 && (!(xEn (nI i)))))), (1, .int (nB (a1 && (xEn (nI i))))), (8, .int (nI i)), (7, .int su), (6, .int (nB a6)), (5, .int (nB a5)), (0, .ref 50)]) (st' := [.int (nB a5)]) (μ' := μ) (by rfl) ?_
                have hJ6 : Z 0 132 [(4, .int (nB (a4 || (xHo (nI i))))), (3, .int (nB (a3 && (xHo (nI i))))), (2, .int (nB (a2 && (!(xEn (nI i)))))), (1, .int (nB (a1 && (xEn (nI i))))), (8, .int (nI i)), (7, .int su), (6, .int (nB a6)), (5, .int (nB a5)), (0, .ref 50)] [.int (nB (a5 && (xTe (nI i))))] μ := by
                  refine z_rcs hc hH 2 (pc' := 136) (lv' := [(5, .int (nB (a5 && (xTe (nI i))))), (4, .int (nB (a4 || (xHo (nI i))))), (3, .int (nB (a3 && (xHo (nI i))))), (2, .int (nB (a2 && (!(xEn (nI i)))))), (1, .int (nB (a1 && (xEn (nI i))))), (8, .int (nI i)), (7, .int su), (6, .int (nB a6)), (0, .ref 50)]) (st' := [.int (nB a6)]) (μ' := μ) (by rfl) ?_
                  have hJ7 : Z 0 186 [(5, .int (nB (a5 && (xTe (nI i))))), (4, .int (nB (a4 || (xHo (nI i))))), (3, .int (nB (a3 && (xHo (nI i))))), (2, .int (nB (a2 && (!(xEn (nI i)))))), (1, .int (nB (a1 && (xEn (nI i))))), (8, .int (nI i)), (7, .int su), (6, .int (nB a6)), (0, .ref 50)] [.int (nB (a6 && ((decide ((nI i) = 19)) || ((decide ((nI i) = 20)) || ((decide ((nI i) = 21)) || ((decide ((nI i) = 23)) || ((decide ((nI i) = 25)) || (decide ((nI i) = 32)))))))))] μ := by
                    refine z_rcs hc hH 3 (pc' := 192) (lv' := [(6, .int (nB (a6 && ((decide ((nI i) = 19)) || ((decide ((nI i) = 20)) || ((decide ((nI i) = 21)) || ((decide ((nI i) = 23)) || ((decide ((nI i) = 25)) || (decide ((nI i) = 32)))))))))), (5, .int (nB (a5 && (xTe (nI i))))), (4, .int (nB (a4 || (xHo (nI i))))), (3, .int (nB (a3 && (xHo (nI i))))), (2, .int (nB (a2 && (!(xEn (nI i)))))), (1, .int (nB (a1 && (xEn (nI i))))), (8, .int (nI i)), (7, .int su), (0, .ref 50)]) (st' := [.int 27, .int (nI i)]) (μ' := μ) (by rfl) ?_
                    refine zq_ic hc hH (by rfl) (tg := 207) (by rfl) (fun h8 => ?_) (fun h8 => ?_)
                    · have h8 : (decide (27 ≤ (nI i))) = true := decide_eq_true (cm_ge.mp h8)
                      refine z_rcs hc hH 2 (pc' := 21) (lv' := [(8, .int ((nI i) + 1)), (6, .int (nB (a6 && ((decide ((nI i) = 19)) || ((decide ((nI i) = 20)) || ((decide ((nI i) = 21)) || ((decide ((nI i) = 23)) || ((decide ((nI i) = 25)) || (decide ((nI i) = 32)))))))))), (5, .int (nB (a5 && (xTe (nI i))))), (4, .int (nB (a4 || (xHo (nI i))))), (3, .int (nB (a3 && (xHo (nI i))))), (2, .int (nB (a2 && (!(xEn (nI i)))))), (1, .int (nB (a1 && (xEn (nI i))))), (7, .int su), (0, .ref 50)]) (st' := []) (μ' := μ) (by rfl) ?_
                      rw [nI_1]
                      refine (ih (i + 1) (a1 && (xEn (nI i)), a2 && (!(xEn (nI i))), a3 && (xHo (nI i)), a4 || (xHo (nI i)), a5 && (xTe (nI i)), a6 && ((decide ((nI i) = 19)) || ((decide ((nI i) = 20)) || ((decide ((nI i) = 21)) || ((decide ((nI i) = 23)) || ((decide ((nI i) = 25)) || (decide ((nI i) = 32))))))), su) (by omega) ?_).2
                      have e : tSt μ q i (a1, a2, a3, a4, a5, a6, su) = (a1 && (xEn (nI i)), a2 && (!(xEn (nI i))), a3 && (xHo (nI i)), a4 || (xHo (nI i)), a5 && (xTe (nI i)), a6 && ((decide ((nI i) = 19)) || ((decide ((nI i) = 20)) || ((decide ((nI i) = 21)) || ((decide ((nI i) = 23)) || ((decide ((nI i) = 25)) || (decide ((nI i) = 32))))))), su) := by unfold tSt; simp only [h1, h8, cond_true, cond_false] <;> rfl
                      rw [e] at K; exact K
                    · have h8 : (decide (27 ≤ (nI i))) = false := decide_eq_false (cn_ge.mp h8)
                      refine z_rcs hc hH 10 (pc' := 21) (lv' := [(8, .int ((nI i) + 1)), (7, .int (su ||| (1 <<< (((nI i) / 9) &&& 31)))), (6, .int (nB (a6 && ((decide ((nI i) = 19)) || ((decide ((nI i) = 20)) || ((decide ((nI i) = 21)) || ((decide ((nI i) = 23)) || ((decide ((nI i) = 25)) || (decide ((nI i) = 32)))))))))), (5, .int (nB (a5 && (xTe (nI i))))), (4, .int (nB (a4 || (xHo (nI i))))), (3, .int (nB (a3 && (xHo (nI i))))), (2, .int (nB (a2 && (!(xEn (nI i)))))), (1, .int (nB (a1 && (xEn (nI i))))), (0, .ref 50)]) (st' := []) (μ' := μ) (by rfl) ?_
                      rw [nI_1]
                      refine (ih (i + 1) (a1 && (xEn (nI i)), a2 && (!(xEn (nI i))), a3 && (xHo (nI i)), a4 || (xHo (nI i)), a5 && (xTe (nI i)), a6 && ((decide ((nI i) = 19)) || ((decide ((nI i) = 20)) || ((decide ((nI i) = 21)) || ((decide ((nI i) = 23)) || ((decide ((nI i) = 25)) || (decide ((nI i) = 32))))))), su ||| (1 <<< (((nI i) / 9) &&& 31))) (by omega) ?_).1
                      have e : tSt μ q i (a1, a2, a3, a4, a5, a6, su) = (a1 && (xEn (nI i)), a2 && (!(xEn (nI i))), a3 && (xHo (nI i)), a4 || (xHo (nI i)), a5 && (xTe (nI i)), a6 && ((decide ((nI i) = 19)) || ((decide ((nI i) = 20)) || ((decide ((nI i) = 21)) || ((decide ((nI i) = 23)) || ((decide ((nI i) = 25)) || (decide ((nI i) = 32))))))), su ||| (1 <<< (((nI i) / 9) &&& 31))) := by unfold tSt; simp only [h1, h8, cond_true, cond_false] <;> rfl
                      rw [e] at K; exact K
                  refine zq_if hc hH (by rfl) (tg := 185) (by rfl) (fun h9 => ?_) (fun h9 => ?_)
                  · have h9 : (a6) = false := nB_z.mp (cm_eq9.mp h9)
                    refine z_rcs hc hH 1 (pc' := 186) (lv' := [(5, .int (nB (a5 && (xTe (nI i))))), (4, .int (nB (a4 || (xHo (nI i))))), (3, .int (nB (a3 && (xHo (nI i))))), (2, .int (nB (a2 && (!(xEn (nI i)))))), (1, .int (nB (a1 && (xEn (nI i))))), (8, .int (nI i)), (7, .int su), (6, .int (nB a6)), (0, .ref 50)]) (st' := [.int 0]) (μ' := μ) (by rfl) ?_
                    exact zJ hJ7 rfl (by simp only [h9, lb_f, Int64.or_zero, nB_t, nB_f, Bool.not_true, Bool.not_false, Bool.and_true, Bool.true_and, Bool.false_and, Bool.and_false, Bool.or_true, Bool.true_or, Bool.false_or, Bool.or_false, cond_true, cond_false]) rfl
                  · have h9 : (a6) = true := nB_n.mp (cn_eq.mp h9)
                    refine z_rcs hc hH 2 (pc' := 143) (lv' := [(5, .int (nB (a5 && (xTe (nI i))))), (4, .int (nB (a4 || (xHo (nI i))))), (3, .int (nB (a3 && (xHo (nI i))))), (2, .int (nB (a2 && (!(xEn (nI i)))))), (1, .int (nB (a1 && (xEn (nI i))))), (8, .int (nI i)), (7, .int su), (6, .int (nB a6)), (0, .ref 50)]) (st' := [.int 19, .int (nI i)]) (μ' := μ) (by rfl) ?_
                    refine zq_ic hc hH (by rfl) (tg := 181) (by rfl) (fun h10 => ?_) (fun h10 => ?_)
                    · have h10 : (decide ((nI i) = 19)) = true := decide_eq_true (cm_eq9.mp h10)
                      refine z_rcs hc hH 2 (pc' := 186) (lv' := [(5, .int (nB (a5 && (xTe (nI i))))), (4, .int (nB (a4 || (xHo (nI i))))), (3, .int (nB (a3 && (xHo (nI i))))), (2, .int (nB (a2 && (!(xEn (nI i)))))), (1, .int (nB (a1 && (xEn (nI i))))), (8, .int (nI i)), (7, .int su), (6, .int (nB a6)), (0, .ref 50)]) (st' := [.int 1]) (μ' := μ) (by rfl) ?_
                      exact zJ hJ7 rfl (by simp only [h9, h10, lb_f, Int64.or_zero, nB_t, nB_f, Bool.not_true, Bool.not_false, Bool.and_true, Bool.true_and, Bool.false_and, Bool.and_false, Bool.or_true, Bool.true_or, Bool.false_or, Bool.or_false, cond_true, cond_false]) rfl
                    · have h10 : (decide ((nI i) = 19)) = false := decide_eq_false (cn_eq.mp h10)
                      refine z_rcs hc hH 2 (pc' := 150) (lv' := [(5, .int (nB (a5 && (xTe (nI i))))), (4, .int (nB (a4 || (xHo (nI i))))), (3, .int (nB (a3 && (xHo (nI i))))), (2, .int (nB (a2 && (!(xEn (nI i)))))), (1, .int (nB (a1 && (xEn (nI i))))), (8, .int (nI i)), (7, .int su), (6, .int (nB a6)), (0, .ref 50)]) (st' := [.int 20, .int (nI i)]) (μ' := μ) (by rfl) ?_
                      refine zq_ic hc hH (by rfl) (tg := 181) (by rfl) (fun h11 => ?_) (fun h11 => ?_)
                      · have h11 : (decide ((nI i) = 20)) = true := decide_eq_true (cm_eq9.mp h11)
                        refine z_rcs hc hH 2 (pc' := 186) (lv' := [(5, .int (nB (a5 && (xTe (nI i))))), (4, .int (nB (a4 || (xHo (nI i))))), (3, .int (nB (a3 && (xHo (nI i))))), (2, .int (nB (a2 && (!(xEn (nI i)))))), (1, .int (nB (a1 && (xEn (nI i))))), (8, .int (nI i)), (7, .int su), (6, .int (nB a6)), (0, .ref 50)]) (st' := [.int 1]) (μ' := μ) (by rfl) ?_
                        exact zJ hJ7 rfl (by simp only [h9, h10, h11, lb_f, Int64.or_zero, nB_t, nB_f, Bool.not_true, Bool.not_false, Bool.and_true, Bool.true_and, Bool.false_and, Bool.and_false, Bool.or_true, Bool.true_or, Bool.false_or, Bool.or_false, cond_true, cond_false]) rfl
                      · have h11 : (decide ((nI i) = 20)) = false := decide_eq_false (cn_eq.mp h11)
                        refine z_rcs hc hH 2 (pc' := 157) (lv' := [(5, .int (nB (a5 && (xTe (nI i))))), (4, .int (nB (a4 || (xHo (nI i))))), (3, .int (nB (a3 && (xHo (nI i))))), (2, .int (nB (a2 && (!(xEn (nI i)))))), (1, .int (nB (a1 && (xEn (nI i))))), (8, .int (nI i)), (7, .int su), (6, .int (nB a6)), (0, .ref 50)]) (st' := [.int 21, .int (nI i)]) (μ' := μ) (by rfl) ?_
                        refine zq_ic hc hH (by rfl) (tg := 181) (by rfl) (fun h12 => ?_) (fun h12 => ?_)
                        · have h12 : (decide ((nI i) = 21)) = true := decide_eq_true (cm_eq9.mp h12)
                          refine z_rcs hc hH 2 (pc' := 186) (lv' := [(5, .int (nB (a5 && (xTe (nI i))))), (4, .int (nB (a4 || (xHo (nI i))))), (3, .int (nB (a3 && (xHo (nI i))))), (2, .int (nB (a2 && (!(xEn (nI i)))))), (1, .int (nB (a1 && (xEn (nI i))))), (8, .int (nI i)), (7, .int su), (6, .int (nB a6)), (0, .ref 50)]) (st' := [.int 1]) (μ' := μ) (by rfl) ?_
                          exact zJ hJ7 rfl (by simp only [h9, h10, h11, h12, lb_f, Int64.or_zero, nB_t, nB_f, Bool.not_true, Bool.not_false, Bool.and_true, Bool.true_and, Bool.false_and, Bool.and_false, Bool.or_true, Bool.true_or, Bool.false_or, Bool.or_false, cond_true, cond_false]) rfl
                        · have h12 : (decide ((nI i) = 21)) = false := decide_eq_false (cn_eq.mp h12)
                          refine z_rcs hc hH 2 (pc' := 164) (lv' := [(5, .int (nB (a5 && (xTe (nI i))))), (4, .int (nB (a4 || (xHo (nI i))))), (3, .int (nB (a3 && (xHo (nI i))))), (2, .int (nB (a2 && (!(xEn (nI i)))))), (1, .int (nB (a1 && (xEn (nI i))))), (8, .int (nI i)), (7, .int su), (6, .int (nB a6)), (0, .ref 50)]) (st' := [.int 23, .int (nI i)]) (μ' := μ) (by rfl) ?_
                          refine zq_ic hc hH (by rfl) (tg := 181) (by rfl) (fun h13 => ?_) (fun h13 => ?_)
                          · have h13 : (decide ((nI i) = 23)) = true := decide_eq_true (cm_eq9.mp h13)
                            refine z_rcs hc hH 2 (pc' := 186) (lv' := [(5, .int (nB (a5 && (xTe (nI i))))), (4, .int (nB (a4 || (xHo (nI i))))), (3, .int (nB (a3 && (xHo (nI i))))), (2, .int (nB (a2 && (!(xEn (nI i)))))), (1, .int (nB (a1 && (xEn (nI i))))), (8, .int (nI i)), (7, .int su), (6, .int (nB a6)), (0, .ref 50)]) (st' := [.int 1]) (μ' := μ) (by rfl) ?_
                            exact zJ hJ7 rfl (by simp only [h9, h10, h11, h12, h13, lb_f, Int64.or_zero, nB_t, nB_f, Bool.not_true, Bool.not_false, Bool.and_true, Bool.true_and, Bool.false_and, Bool.and_false, Bool.or_true, Bool.true_or, Bool.false_or, Bool.or_false, cond_true, cond_false]) rfl
                          · have h13 : (decide ((nI i) = 23)) = false := decide_eq_false (cn_eq.mp h13)
                            refine z_rcs hc hH 2 (pc' := 171) (lv' := [(5, .int (nB (a5 && (xTe (nI i))))), (4, .int (nB (a4 || (xHo (nI i))))), (3, .int (nB (a3 && (xHo (nI i))))), (2, .int (nB (a2 && (!(xEn (nI i)))))), (1, .int (nB (a1 && (xEn (nI i))))), (8, .int (nI i)), (7, .int su), (6, .int (nB a6)), (0, .ref 50)]) (st' := [.int 25, .int (nI i)]) (μ' := μ) (by rfl) ?_
                            refine zq_ic hc hH (by rfl) (tg := 181) (by rfl) (fun h14 => ?_) (fun h14 => ?_)
                            · have h14 : (decide ((nI i) = 25)) = true := decide_eq_true (cm_eq9.mp h14)
                              refine z_rcs hc hH 2 (pc' := 186) (lv' := [(5, .int (nB (a5 && (xTe (nI i))))), (4, .int (nB (a4 || (xHo (nI i))))), (3, .int (nB (a3 && (xHo (nI i))))), (2, .int (nB (a2 && (!(xEn (nI i)))))), (1, .int (nB (a1 && (xEn (nI i))))), (8, .int (nI i)), (7, .int su), (6, .int (nB a6)), (0, .ref 50)]) (st' := [.int 1]) (μ' := μ) (by rfl) ?_
                              exact zJ hJ7 rfl (by simp only [h9, h10, h11, h12, h13, h14, lb_f, Int64.or_zero, nB_t, nB_f, Bool.not_true, Bool.not_false, Bool.and_true, Bool.true_and, Bool.false_and, Bool.and_false, Bool.or_true, Bool.true_or, Bool.false_or, Bool.or_false, cond_true, cond_false]) rfl
                            · have h14 : (decide ((nI i) = 25)) = false := decide_eq_false (cn_eq.mp h14)
                              refine z_rcs hc hH 2 (pc' := 178) (lv' := [(5, .int (nB (a5 && (xTe (nI i))))), (4, .int (nB (a4 || (xHo (nI i))))), (3, .int (nB (a3 && (xHo (nI i))))), (2, .int (nB (a2 && (!(xEn (nI i)))))), (1, .int (nB (a1 && (xEn (nI i))))), (8, .int (nI i)), (7, .int su), (6, .int (nB a6)), (0, .ref 50)]) (st' := [.int 32, .int (nI i)]) (μ' := μ) (by rfl) ?_
                              refine zq_ic hc hH (by rfl) (tg := 185) (by rfl) (fun h15 => ?_) (fun h15 => ?_)
                              · have h15 : (decide ((nI i) = 32)) = false := decide_eq_false (cm_ne.mp h15)
                                refine z_rcs hc hH 1 (pc' := 186) (lv' := [(5, .int (nB (a5 && (xTe (nI i))))), (4, .int (nB (a4 || (xHo (nI i))))), (3, .int (nB (a3 && (xHo (nI i))))), (2, .int (nB (a2 && (!(xEn (nI i)))))), (1, .int (nB (a1 && (xEn (nI i))))), (8, .int (nI i)), (7, .int su), (6, .int (nB a6)), (0, .ref 50)]) (st' := [.int 0]) (μ' := μ) (by rfl) ?_
                                exact zJ hJ7 rfl (by simp only [h9, h10, h11, h12, h13, h14, h15, lb_f, Int64.or_zero, nB_t, nB_f, Bool.not_true, Bool.not_false, Bool.and_true, Bool.true_and, Bool.false_and, Bool.and_false, Bool.or_true, Bool.true_or, Bool.false_or, Bool.or_false, cond_true, cond_false]) rfl
                              · have h15 : (decide ((nI i) = 32)) = true := decide_eq_true (cn_ne.mp h15)
                                refine z_rcs hc hH 2 (pc' := 186) (lv' := [(5, .int (nB (a5 && (xTe (nI i))))), (4, .int (nB (a4 || (xHo (nI i))))), (3, .int (nB (a3 && (xHo (nI i))))), (2, .int (nB (a2 && (!(xEn (nI i)))))), (1, .int (nB (a1 && (xEn (nI i))))), (8, .int (nI i)), (7, .int su), (6, .int (nB a6)), (0, .ref 50)]) (st' := [.int 1]) (μ' := μ) (by rfl) ?_
                                exact zJ hJ7 rfl (by simp only [h9, h10, h11, h12, h13, h14, h15, lb_f, Int64.or_zero, nB_t, nB_f, Bool.not_true, Bool.not_false, Bool.and_true, Bool.true_and, Bool.false_and, Bool.and_false, Bool.or_true, Bool.true_or, Bool.false_or, Bool.or_false, cond_true, cond_false]) rfl
                refine zq_if hc hH (by rfl) (tg := 131) (by rfl) (fun h16 => ?_) (fun h16 => ?_)
                · have h16 : (a5) = false := nB_z.mp (cm_eq9.mp h16)
                  refine z_rcs hc hH 1 (pc' := 132) (lv' := [(4, .int (nB (a4 || (xHo (nI i))))), (3, .int (nB (a3 && (xHo (nI i))))), (2, .int (nB (a2 && (!(xEn (nI i)))))), (1, .int (nB (a1 && (xEn (nI i))))), (8, .int (nI i)), (7, .int su), (6, .int (nB a6)), (5, .int (nB a5)), (0, .ref 50)]) (st' := [.int 0]) (μ' := μ) (by rfl) ?_
                  exact zJ hJ6 rfl (by simp only [h16, lb_f, Int64.or_zero, nB_t, nB_f, Bool.not_true, Bool.not_false, Bool.and_true, Bool.true_and, Bool.false_and, Bool.and_false, Bool.or_true, Bool.true_or, Bool.false_or, Bool.or_false, cond_true, cond_false]) rfl
                · have h16 : (a5) = true := nB_n.mp (cn_eq.mp h16)
                  refine z_rcs hc hH 1 (pc' := 121) (lv' := [(4, .int (nB (a4 || (xHo (nI i))))), (3, .int (nB (a3 && (xHo (nI i))))), (2, .int (nB (a2 && (!(xEn (nI i)))))), (1, .int (nB (a1 && (xEn (nI i))))), (8, .int (nI i)), (7, .int su), (6, .int (nB a6)), (5, .int (nB a5)), (0, .ref 50)]) (st' := [.int (nI i)]) (μ' := μ) (by rfl) ?_
                  refine zq_call hc (by rfl) (fb_X7_isTerminal d' (by omega) μ (nI i)) (by decide +kernel) (fun r9 μ9 hq => ?_)
                  obtain ⟨hμ9, rfl⟩ := hq
                  rw [hμ9]
                  clear hμ9 μ9
                  show Z 0 124 [(4, .int (nB (a4 || (xHo (nI i))))), (3, .int (nB (a3 && (xHo (nI i))))), (2, .int (nB (a2 && (!(xEn (nI i)))))), (1, .int (nB (a1 && (xEn (nI i))))), (8, .int (nI i)), (7, .int su), (6, .int (nB a6)), (5, .int (nB a5)), (0, .ref 50)] [.int (nB (xTe (nI i)))] μ
                  refine zq_if hc hH (by rfl) (tg := 131) (by rfl) (fun h17 => ?_) (fun h17 => ?_)
                  · have h17 : (xTe (nI i)) = false := nB_z.mp (cm_eq9.mp h17)
                    refine z_rcs hc hH 1 (pc' := 132) (lv' := [(4, .int (nB (a4 || (xHo (nI i))))), (3, .int (nB (a3 && (xHo (nI i))))), (2, .int (nB (a2 && (!(xEn (nI i)))))), (1, .int (nB (a1 && (xEn (nI i))))), (8, .int (nI i)), (7, .int su), (6, .int (nB a6)), (5, .int (nB a5)), (0, .ref 50)]) (st' := [.int 0]) (μ' := μ) (by rfl) ?_
                    exact zJ hJ6 rfl (by simp only [h16, h17, lb_f, Int64.or_zero, nB_t, nB_f, Bool.not_true, Bool.not_false, Bool.and_true, Bool.true_and, Bool.false_and, Bool.and_false, Bool.or_true, Bool.true_or, Bool.false_or, Bool.or_false, cond_true, cond_false]) rfl
                  · have h17 : (xTe (nI i)) = true := nB_n.mp (cn_eq.mp h17)
                    refine z_rcs hc hH 2 (pc' := 132) (lv' := [(4, .int (nB (a4 || (xHo (nI i))))), (3, .int (nB (a3 && (xHo (nI i))))), (2, .int (nB (a2 && (!(xEn (nI i)))))), (1, .int (nB (a1 && (xEn (nI i))))), (8, .int (nI i)), (7, .int su), (6, .int (nB a6)), (5, .int (nB a5)), (0, .ref 50)]) (st' := [.int 1]) (μ' := μ) (by rfl) ?_
                    exact zJ hJ6 rfl (by simp only [h16, h17, lb_f, Int64.or_zero, nB_t, nB_f, Bool.not_true, Bool.not_false, Bool.and_true, Bool.true_and, Bool.false_and, Bool.and_false, Bool.or_true, Bool.true_or, Bool.false_or, Bool.or_false, cond_true, cond_false]) rfl
              refine zq_if hc hH (by rfl) (tg := 107) (by rfl) (fun h18 => ?_) (fun h18 => ?_)
              · have h18 : (a4) = true := nB_n.mp (cm_ne.mp h18)
                refine z_rcs hc hH 2 (pc' := 112) (lv' := [(3, .int (nB (a3 && (xHo (nI i))))), (2, .int (nB (a2 && (!(xEn (nI i)))))), (1, .int (nB (a1 && (xEn (nI i))))), (8, .int (nI i)), (7, .int su), (6, .int (nB a6)), (5, .int (nB a5)), (4, .int (nB a4)), (0, .ref 50)]) (st' := [.int 1]) (μ' := μ) (by rfl) ?_
                exact zJ hJ5 rfl (by simp only [h18, lb_f, Int64.or_zero, nB_t, nB_f, Bool.not_true, Bool.not_false, Bool.and_true, Bool.true_and, Bool.false_and, Bool.and_false, Bool.or_true, Bool.true_or, Bool.false_or, Bool.or_false, cond_true, cond_false]) rfl
              · have h18 : (a4) = false := nB_z.mp (cn_ne.mp h18)
                refine z_rcs hc hH 1 (pc' := 101) (lv' := [(3, .int (nB (a3 && (xHo (nI i))))), (2, .int (nB (a2 && (!(xEn (nI i)))))), (1, .int (nB (a1 && (xEn (nI i))))), (8, .int (nI i)), (7, .int su), (6, .int (nB a6)), (5, .int (nB a5)), (4, .int (nB a4)), (0, .ref 50)]) (st' := [.int (nI i)]) (μ' := μ) (by rfl) ?_
                refine zq_call hc (by rfl) (fb_X7_isHonour d' (by omega) μ (nI i)) (by decide +kernel) (fun r9 μ9 hq => ?_)
                obtain ⟨hμ9, rfl⟩ := hq
                rw [hμ9]
                clear hμ9 μ9
                show Z 0 104 [(3, .int (nB (a3 && (xHo (nI i))))), (2, .int (nB (a2 && (!(xEn (nI i)))))), (1, .int (nB (a1 && (xEn (nI i))))), (8, .int (nI i)), (7, .int su), (6, .int (nB a6)), (5, .int (nB a5)), (4, .int (nB a4)), (0, .ref 50)] [.int (nB (xHo (nI i)))] μ
                refine zq_if hc hH (by rfl) (tg := 111) (by rfl) (fun h19 => ?_) (fun h19 => ?_)
                · have h19 : (xHo (nI i)) = false := nB_z.mp (cm_eq9.mp h19)
                  refine z_rcs hc hH 1 (pc' := 112) (lv' := [(3, .int (nB (a3 && (xHo (nI i))))), (2, .int (nB (a2 && (!(xEn (nI i)))))), (1, .int (nB (a1 && (xEn (nI i))))), (8, .int (nI i)), (7, .int su), (6, .int (nB a6)), (5, .int (nB a5)), (4, .int (nB a4)), (0, .ref 50)]) (st' := [.int 0]) (μ' := μ) (by rfl) ?_
                  exact zJ hJ5 rfl (by simp only [h18, h19, lb_f, Int64.or_zero, nB_t, nB_f, Bool.not_true, Bool.not_false, Bool.and_true, Bool.true_and, Bool.false_and, Bool.and_false, Bool.or_true, Bool.true_or, Bool.false_or, Bool.or_false, cond_true, cond_false]) rfl
                · have h19 : (xHo (nI i)) = true := nB_n.mp (cn_eq.mp h19)
                  refine z_rcs hc hH 2 (pc' := 112) (lv' := [(3, .int (nB (a3 && (xHo (nI i))))), (2, .int (nB (a2 && (!(xEn (nI i)))))), (1, .int (nB (a1 && (xEn (nI i))))), (8, .int (nI i)), (7, .int su), (6, .int (nB a6)), (5, .int (nB a5)), (4, .int (nB a4)), (0, .ref 50)]) (st' := [.int 1]) (μ' := μ) (by rfl) ?_
                  exact zJ hJ5 rfl (by simp only [h18, h19, lb_f, Int64.or_zero, nB_t, nB_f, Bool.not_true, Bool.not_false, Bool.and_true, Bool.true_and, Bool.false_and, Bool.and_false, Bool.or_true, Bool.true_or, Bool.false_or, Bool.or_false, cond_true, cond_false]) rfl
            refine zq_if hc hH (by rfl) (tg := 92) (by rfl) (fun h20 => ?_) (fun h20 => ?_)
            · have h20 : (a3) = false := nB_z.mp (cm_eq9.mp h20)
              refine z_rcs hc hH 1 (pc' := 93) (lv' := [(2, .int (nB (a2 && (!(xEn (nI i)))))), (1, .int (nB (a1 && (xEn (nI i))))), (8, .int (nI i)), (7, .int su), (6, .int (nB a6)), (5, .int (nB a5)), (4, .int (nB a4)), (3, .int (nB a3)), (0, .ref 50)]) (st' := [.int 0]) (μ' := μ) (by rfl) ?_
              exact zJ hJ4 rfl (by simp only [h20, lb_f, Int64.or_zero, nB_t, nB_f, Bool.not_true, Bool.not_false, Bool.and_true, Bool.true_and, Bool.false_and, Bool.and_false, Bool.or_true, Bool.true_or, Bool.false_or, Bool.or_false, cond_true, cond_false]) rfl
            · have h20 : (a3) = true := nB_n.mp (cn_eq.mp h20)
              refine z_rcs hc hH 1 (pc' := 82) (lv' := [(2, .int (nB (a2 && (!(xEn (nI i)))))), (1, .int (nB (a1 && (xEn (nI i))))), (8, .int (nI i)), (7, .int su), (6, .int (nB a6)), (5, .int (nB a5)), (4, .int (nB a4)), (3, .int (nB a3)), (0, .ref 50)]) (st' := [.int (nI i)]) (μ' := μ) (by rfl) ?_
              refine zq_call hc (by rfl) (fb_X7_isHonour d' (by omega) μ (nI i)) (by decide +kernel) (fun r9 μ9 hq => ?_)
              obtain ⟨hμ9, rfl⟩ := hq
              rw [hμ9]
              clear hμ9 μ9
              show Z 0 85 [(2, .int (nB (a2 && (!(xEn (nI i)))))), (1, .int (nB (a1 && (xEn (nI i))))), (8, .int (nI i)), (7, .int su), (6, .int (nB a6)), (5, .int (nB a5)), (4, .int (nB a4)), (3, .int (nB a3)), (0, .ref 50)] [.int (nB (xHo (nI i)))] μ
              refine zq_if hc hH (by rfl) (tg := 92) (by rfl) (fun h21 => ?_) (fun h21 => ?_)
              · have h21 : (xHo (nI i)) = false := nB_z.mp (cm_eq9.mp h21)
                refine z_rcs hc hH 1 (pc' := 93) (lv' := [(2, .int (nB (a2 && (!(xEn (nI i)))))), (1, .int (nB (a1 && (xEn (nI i))))), (8, .int (nI i)), (7, .int su), (6, .int (nB a6)), (5, .int (nB a5)), (4, .int (nB a4)), (3, .int (nB a3)), (0, .ref 50)]) (st' := [.int 0]) (μ' := μ) (by rfl) ?_
                exact zJ hJ4 rfl (by simp only [h20, h21, lb_f, Int64.or_zero, nB_t, nB_f, Bool.not_true, Bool.not_false, Bool.and_true, Bool.true_and, Bool.false_and, Bool.and_false, Bool.or_true, Bool.true_or, Bool.false_or, Bool.or_false, cond_true, cond_false]) rfl
              · have h21 : (xHo (nI i)) = true := nB_n.mp (cn_eq.mp h21)
                refine z_rcs hc hH 2 (pc' := 93) (lv' := [(2, .int (nB (a2 && (!(xEn (nI i)))))), (1, .int (nB (a1 && (xEn (nI i))))), (8, .int (nI i)), (7, .int su), (6, .int (nB a6)), (5, .int (nB a5)), (4, .int (nB a4)), (3, .int (nB a3)), (0, .ref 50)]) (st' := [.int 1]) (μ' := μ) (by rfl) ?_
                exact zJ hJ4 rfl (by simp only [h20, h21, lb_f, Int64.or_zero, nB_t, nB_f, Bool.not_true, Bool.not_false, Bool.and_true, Bool.true_and, Bool.false_and, Bool.and_false, Bool.or_true, Bool.true_or, Bool.false_or, Bool.or_false, cond_true, cond_false]) rfl
          refine zq_if hc hH (by rfl) (tg := 74) (by rfl) (fun h22 => ?_) (fun h22 => ?_)
          · have h22 : (a2) = false := nB_z.mp (cm_eq9.mp h22)
            refine z_rcs hc hH 1 (pc' := 75) (lv' := [(1, .int (nB (a1 && (xEn (nI i))))), (8, .int (nI i)), (7, .int su), (6, .int (nB a6)), (5, .int (nB a5)), (4, .int (nB a4)), (3, .int (nB a3)), (2, .int (nB a2)), (0, .ref 50)]) (st' := [.int 0]) (μ' := μ) (by rfl) ?_
            exact zJ hJ3 rfl (by simp only [h22, lb_f, Int64.or_zero, nB_t, nB_f, Bool.not_true, Bool.not_false, Bool.and_true, Bool.true_and, Bool.false_and, Bool.and_false, Bool.or_true, Bool.true_or, Bool.false_or, Bool.or_false, cond_true, cond_false]) rfl
          · have h22 : (a2) = true := nB_n.mp (cn_eq.mp h22)
            refine z_rcs hc hH 1 (pc' := 64) (lv' := [(1, .int (nB (a1 && (xEn (nI i))))), (8, .int (nI i)), (7, .int su), (6, .int (nB a6)), (5, .int (nB a5)), (4, .int (nB a4)), (3, .int (nB a3)), (2, .int (nB a2)), (0, .ref 50)]) (st' := [.int (nI i)]) (μ' := μ) (by rfl) ?_
            refine zq_call hc (by rfl) (fb_X7_isEnd d' (by omega) μ (nI i)) (by decide +kernel) (fun r9 μ9 hq => ?_)
            obtain ⟨hμ9, rfl⟩ := hq
            rw [hμ9]
            clear hμ9 μ9
            show Z 0 67 [(1, .int (nB (a1 && (xEn (nI i))))), (8, .int (nI i)), (7, .int su), (6, .int (nB a6)), (5, .int (nB a5)), (4, .int (nB a4)), (3, .int (nB a3)), (2, .int (nB a2)), (0, .ref 50)] [.int (nB (xEn (nI i)))] μ
            refine zq_if hc hH (by rfl) (tg := 74) (by rfl) (fun h23 => ?_) (fun h23 => ?_)
            · have h23 : (xEn (nI i)) = true := nB_n.mp (cm_ne.mp h23)
              refine z_rcs hc hH 1 (pc' := 75) (lv' := [(1, .int (nB (a1 && (xEn (nI i))))), (8, .int (nI i)), (7, .int su), (6, .int (nB a6)), (5, .int (nB a5)), (4, .int (nB a4)), (3, .int (nB a3)), (2, .int (nB a2)), (0, .ref 50)]) (st' := [.int 0]) (μ' := μ) (by rfl) ?_
              exact zJ hJ3 rfl (by simp only [h22, h23, lb_f, Int64.or_zero, nB_t, nB_f, Bool.not_true, Bool.not_false, Bool.and_true, Bool.true_and, Bool.false_and, Bool.and_false, Bool.or_true, Bool.true_or, Bool.false_or, Bool.or_false, cond_true, cond_false]) rfl
            · have h23 : (xEn (nI i)) = false := nB_z.mp (cn_ne.mp h23)
              refine z_rcs hc hH 2 (pc' := 75) (lv' := [(1, .int (nB (a1 && (xEn (nI i))))), (8, .int (nI i)), (7, .int su), (6, .int (nB a6)), (5, .int (nB a5)), (4, .int (nB a4)), (3, .int (nB a3)), (2, .int (nB a2)), (0, .ref 50)]) (st' := [.int 1]) (μ' := μ) (by rfl) ?_
              exact zJ hJ3 rfl (by simp only [h22, h23, lb_f, Int64.or_zero, nB_t, nB_f, Bool.not_true, Bool.not_false, Bool.and_true, Bool.true_and, Bool.false_and, Bool.and_false, Bool.or_true, Bool.true_or, Bool.false_or, Bool.or_false, cond_true, cond_false]) rfl
        refine zq_if hc hH (by rfl) (tg := 56) (by rfl) (fun h24 => ?_) (fun h24 => ?_)
        · have h24 : (a1) = false := nB_z.mp (cm_eq9.mp h24)
          refine z_rcs hc hH 1 (pc' := 57) (lv' := [(8, .int (nI i)), (7, .int su), (6, .int (nB a6)), (5, .int (nB a5)), (4, .int (nB a4)), (3, .int (nB a3)), (2, .int (nB a2)), (1, .int (nB a1)), (0, .ref 50)]) (st' := [.int 0]) (μ' := μ) (by rfl) ?_
          exact zJ hJ2 rfl (by simp only [h24, lb_f, Int64.or_zero, nB_t, nB_f, Bool.not_true, Bool.not_false, Bool.and_true, Bool.true_and, Bool.false_and, Bool.and_false, Bool.or_true, Bool.true_or, Bool.false_or, Bool.or_false, cond_true, cond_false]) rfl
        · have h24 : (a1) = true := nB_n.mp (cn_eq.mp h24)
          refine z_rcs hc hH 1 (pc' := 46) (lv' := [(8, .int (nI i)), (7, .int su), (6, .int (nB a6)), (5, .int (nB a5)), (4, .int (nB a4)), (3, .int (nB a3)), (2, .int (nB a2)), (1, .int (nB a1)), (0, .ref 50)]) (st' := [.int (nI i)]) (μ' := μ) (by rfl) ?_
          refine zq_call hc (by rfl) (fb_X7_isEnd d' (by omega) μ (nI i)) (by decide +kernel) (fun r9 μ9 hq => ?_)
          obtain ⟨hμ9, rfl⟩ := hq
          rw [hμ9]
          clear hμ9 μ9
          show Z 0 49 [(8, .int (nI i)), (7, .int su), (6, .int (nB a6)), (5, .int (nB a5)), (4, .int (nB a4)), (3, .int (nB a3)), (2, .int (nB a2)), (1, .int (nB a1)), (0, .ref 50)] [.int (nB (xEn (nI i)))] μ
          refine zq_if hc hH (by rfl) (tg := 56) (by rfl) (fun h25 => ?_) (fun h25 => ?_)
          · have h25 : (xEn (nI i)) = false := nB_z.mp (cm_eq9.mp h25)
            refine z_rcs hc hH 1 (pc' := 57) (lv' := [(8, .int (nI i)), (7, .int su), (6, .int (nB a6)), (5, .int (nB a5)), (4, .int (nB a4)), (3, .int (nB a3)), (2, .int (nB a2)), (1, .int (nB a1)), (0, .ref 50)]) (st' := [.int 0]) (μ' := μ) (by rfl) ?_
            exact zJ hJ2 rfl (by simp only [h24, h25, lb_f, Int64.or_zero, nB_t, nB_f, Bool.not_true, Bool.not_false, Bool.and_true, Bool.true_and, Bool.false_and, Bool.and_false, Bool.or_true, Bool.true_or, Bool.false_or, Bool.or_false, cond_true, cond_false]) rfl
          · have h25 : (xEn (nI i)) = true := nB_n.mp (cn_eq.mp h25)
            refine z_rcs hc hH 2 (pc' := 57) (lv' := [(8, .int (nI i)), (7, .int su), (6, .int (nB a6)), (5, .int (nB a5)), (4, .int (nB a4)), (3, .int (nB a3)), (2, .int (nB a2)), (1, .int (nB a1)), (0, .ref 50)]) (st' := [.int 1]) (μ' := μ) (by rfl) ?_
            exact zJ hJ2 rfl (by simp only [h24, h25, lb_f, Int64.or_zero, nB_t, nB_f, Bool.not_true, Bool.not_false, Bool.and_true, Bool.true_and, Bool.false_and, Bool.and_false, Bool.or_true, Bool.true_or, Bool.false_or, Bool.or_false, cond_true, cond_false]) rfl
      · have h1 : (decide ((ofv (μ.1 58 i) (μ.1 52) (μ.1 53) (nI i) q) = 0)) = true := decide_eq_true (cn_ne.mp h1)
        refine z_rcs hc hH 3 (pc' := 21) (lv' := [(8, .int ((nI i) + 1)), (7, .int su), (6, .int (nB a6)), (5, .int (nB a5)), (4, .int (nB a4)), (3, .int (nB a3)), (2, .int (nB a2)), (1, .int (nB a1)), (0, .ref 50)]) (st' := []) (μ' := μ) (by rfl) ?_
        rw [nI_1]
        refine (ih (i + 1) (a1, a2, a3, a4, a5, a6, su) (by omega) ?_).1
        have e : tSt μ q i (a1, a2, a3, a4, a5, a6, su) = (a1, a2, a3, a4, a5, a6, su) := by unfold tSt; simp only [h1, cond_true, cond_false] <;> rfl
        rw [e] at K; exact K
    have b2 : Z 0 21 [(8, .int (nI i)), (6, .int (nB a6)), (5, .int (nB a5)), (4, .int (nB a4)), (3, .int (nB a3)), (2, .int (nB a2)), (1, .int (nB a1)), (7, .int su), (0, .ref 50)] [] μ := by
      refine z_rcs hc hH 2 (pc' := 25) (lv' := [(8, .int (nI i)), (6, .int (nB a6)), (5, .int (nB a5)), (4, .int (nB a4)), (3, .int (nB a3)), (2, .int (nB a2)), (1, .int (nB a1)), (7, .int su), (0, .ref 50)]) (st' := [.int 34, .int (nI i)]) (μ' := μ) (by rfl) ?_
      refine zq_ic hc hH (by rfl) (tg := 213) (by rfl) (fun h9 => (zb_t h9 (ge_nI (n := 34) (i := i) (by omega) (by decide))).elim) (fun _ => ?_)
      refine z_rcs hc hH 2 (pc' := 31) (lv' := [(8, .int (nI i)), (6, .int (nB a6)), (5, .int (nB a5)), (4, .int (nB a4)), (3, .int (nB a3)), (2, .int (nB a2)), (1, .int (nB a1)), (7, .int su), (0, .ref 50)]) (st' := [.int (nI i), .ref 50]) (μ' := μ) (by rfl) ?_
      refine zq_call hc (by rfl) (fc_X7_of d' (by omega) μ (nI i) hin q hq e4) (by decide +kernel) (fun r9 μ9 hq => ?_)
      obtain ⟨hμ9, rfl⟩ := hq
      rw [hμ9]
      clear hμ9 μ9
      show Z 0 34 [(8, .int (nI i)), (6, .int (nB a6)), (5, .int (nB a5)), (4, .int (nB a4)), (3, .int (nB a3)), (2, .int (nB a2)), (1, .int (nB a1)), (7, .int su), (0, .ref 50)] [.int (ofv (μ.1 58 (nI i).toNatClampNeg) (μ.1 52) (μ.1 53) (nI i) q)] μ
      rw [cl]
      refine zq_if hc hH (by rfl) (tg := 40) (by rfl) (fun h1 => ?_) (fun h1 => ?_)
      · have h1 : (decide ((ofv (μ.1 58 i) (μ.1 52) (μ.1 53) (nI i) q) = 0)) = false := decide_eq_false (cm_ne.mp h1)
        refine z_rcs hc hH 1 (pc' := 41) (lv' := [(8, .int (nI i)), (6, .int (nB a6)), (5, .int (nB a5)), (4, .int (nB a4)), (3, .int (nB a3)), (2, .int (nB a2)), (1, .int (nB a1)), (7, .int su), (0, .ref 50)]) (st' := [.int (nB a1)]) (μ' := μ) (by rfl) ?_
        have hJ2 : Z 0 57 [(8, .int (nI i)), (6, .int (nB a6)), (5, .int (nB a5)), (4, .int (nB a4)), (3, .int (nB a3)), (2, .int (nB a2)), (1, .int (nB a1)), (7, .int su), (0, .ref 50)] [.int (nB (a1 && (xEn (nI i))))] μ := by
          refine z_rcs hc hH 2 (pc' := 59) (lv' := [(1, .int (nB (a1 && (xEn (nI i))))), (8, .int (nI i)), (6, .int (nB a6)), (5, .int (nB a5)), (4, .int (nB a4)), (3, .int (nB a3)), (2, .int (nB a2)), (7, .int su), (0, .ref 50)]) (st' := [.int (nB a2)]) (μ' := μ) (by rfl) ?_
          have hJ3 : Z 0 75 [(1, .int (nB (a1 && (xEn (nI i))))), (8, .int (nI i)), (6, .int (nB a6)), (5, .int (nB a5)), (4, .int (nB a4)), (3, .int (nB a3)), (2, .int (nB a2)), (7, .int su), (0, .ref 50)] [.int (nB (a2 && (!(xEn (nI i)))))] μ := by
            refine z_rcs hc hH 2 (pc' := 77) (lv' := [(2, .int (nB (a2 && (!(xEn (nI i)))))), (1, .int (nB (a1 && (xEn (nI i))))), (8, .int (nI i)), (6, .int (nB a6)), (5, .int (nB a5)), (4, .int (nB a4)), (3, .int (nB a3)), (7, .int su), (0, .ref 50)]) (st' := [.int (nB a3)]) (μ' := μ) (by rfl) ?_
            have hJ4 : Z 0 93 [(2, .int (nB (a2 && (!(xEn (nI i)))))), (1, .int (nB (a1 && (xEn (nI i))))), (8, .int (nI i)), (6, .int (nB a6)), (5, .int (nB a5)), (4, .int (nB a4)), (3, .int (nB a3)), (7, .int su), (0, .ref 50)] [.int (nB (a3 && (xHo (nI i))))] μ := by
              refine z_rcs hc hH 2 (pc' := 96) (lv' := [(3, .int (nB (a3 && (xHo (nI i))))), (2, .int (nB (a2 && (!(xEn (nI i)))))), (1, .int (nB (a1 && (xEn (nI i))))), (8, .int (nI i)), (6, .int (nB a6)), (5, .int (nB a5)), (4, .int (nB a4)), (7, .int su), (0, .ref 50)]) (st' := [.int (nB a4)]) (μ' := μ) (by rfl) ?_
              have hJ5 : Z 0 112 [(3, .int (nB (a3 && (xHo (nI i))))), (2, .int (nB (a2 && (!(xEn (nI i)))))), (1, .int (nB (a1 && (xEn (nI i))))), (8, .int (nI i)), (6, .int (nB a6)), (5, .int (nB a5)), (4, .int (nB a4)), (7, .int su), (0, .ref 50)] [.int (nB (a4 || (xHo (nI i))))] μ := by
                refine z_rcs hc hH 2 (pc' := 116) (lv' := [(4, .int (nB (a4 || (xHo (nI i))))), (3, .int (nB (a3 && (xHo (nI i))))), (2, .int (nB (a2 && (!(xEn (nI i)))))), (1, .int (nB (a1 && (xEn (nI i))))), (8, .int (nI i)), (6, .int (nB a6)), (5, .int (nB a5)), (7, .int su), (0, .ref 50)]) (st' := [.int (nB a5)]) (μ' := μ) (by rfl) ?_
                have hJ6 : Z 0 132 [(4, .int (nB (a4 || (xHo (nI i))))), (3, .int (nB (a3 && (xHo (nI i))))), (2, .int (nB (a2 && (!(xEn (nI i)))))), (1, .int (nB (a1 && (xEn (nI i))))), (8, .int (nI i)), (6, .int (nB a6)), (5, .int (nB a5)), (7, .int su), (0, .ref 50)] [.int (nB (a5 && (xTe (nI i))))] μ := by
                  refine z_rcs hc hH 2 (pc' := 136) (lv' := [(5, .int (nB (a5 && (xTe (nI i))))), (4, .int (nB (a4 || (xHo (nI i))))), (3, .int (nB (a3 && (xHo (nI i))))), (2, .int (nB (a2 && (!(xEn (nI i)))))), (1, .int (nB (a1 && (xEn (nI i))))), (8, .int (nI i)), (6, .int (nB a6)), (7, .int su), (0, .ref 50)]) (st' := [.int (nB a6)]) (μ' := μ) (by rfl) ?_
                  have hJ7 : Z 0 186 [(5, .int (nB (a5 && (xTe (nI i))))), (4, .int (nB (a4 || (xHo (nI i))))), (3, .int (nB (a3 && (xHo (nI i))))), (2, .int (nB (a2 && (!(xEn (nI i)))))), (1, .int (nB (a1 && (xEn (nI i))))), (8, .int (nI i)), (6, .int (nB a6)), (7, .int su), (0, .ref 50)] [.int (nB (a6 && ((decide ((nI i) = 19)) || ((decide ((nI i) = 20)) || ((decide ((nI i) = 21)) || ((decide ((nI i) = 23)) || ((decide ((nI i) = 25)) || (decide ((nI i) = 32)))))))))] μ := by
                    refine z_rcs hc hH 3 (pc' := 192) (lv' := [(6, .int (nB (a6 && ((decide ((nI i) = 19)) || ((decide ((nI i) = 20)) || ((decide ((nI i) = 21)) || ((decide ((nI i) = 23)) || ((decide ((nI i) = 25)) || (decide ((nI i) = 32)))))))))), (5, .int (nB (a5 && (xTe (nI i))))), (4, .int (nB (a4 || (xHo (nI i))))), (3, .int (nB (a3 && (xHo (nI i))))), (2, .int (nB (a2 && (!(xEn (nI i)))))), (1, .int (nB (a1 && (xEn (nI i))))), (8, .int (nI i)), (7, .int su), (0, .ref 50)]) (st' := [.int 27, .int (nI i)]) (μ' := μ) (by rfl) ?_
                    refine zq_ic hc hH (by rfl) (tg := 207) (by rfl) (fun h8 => ?_) (fun h8 => ?_)
                    · have h8 : (decide (27 ≤ (nI i))) = true := decide_eq_true (cm_ge.mp h8)
                      refine z_rcs hc hH 2 (pc' := 21) (lv' := [(8, .int ((nI i) + 1)), (6, .int (nB (a6 && ((decide ((nI i) = 19)) || ((decide ((nI i) = 20)) || ((decide ((nI i) = 21)) || ((decide ((nI i) = 23)) || ((decide ((nI i) = 25)) || (decide ((nI i) = 32)))))))))), (5, .int (nB (a5 && (xTe (nI i))))), (4, .int (nB (a4 || (xHo (nI i))))), (3, .int (nB (a3 && (xHo (nI i))))), (2, .int (nB (a2 && (!(xEn (nI i)))))), (1, .int (nB (a1 && (xEn (nI i))))), (7, .int su), (0, .ref 50)]) (st' := []) (μ' := μ) (by rfl) ?_
                      rw [nI_1]
                      refine (ih (i + 1) (a1 && (xEn (nI i)), a2 && (!(xEn (nI i))), a3 && (xHo (nI i)), a4 || (xHo (nI i)), a5 && (xTe (nI i)), a6 && ((decide ((nI i) = 19)) || ((decide ((nI i) = 20)) || ((decide ((nI i) = 21)) || ((decide ((nI i) = 23)) || ((decide ((nI i) = 25)) || (decide ((nI i) = 32))))))), su) (by omega) ?_).2
                      have e : tSt μ q i (a1, a2, a3, a4, a5, a6, su) = (a1 && (xEn (nI i)), a2 && (!(xEn (nI i))), a3 && (xHo (nI i)), a4 || (xHo (nI i)), a5 && (xTe (nI i)), a6 && ((decide ((nI i) = 19)) || ((decide ((nI i) = 20)) || ((decide ((nI i) = 21)) || ((decide ((nI i) = 23)) || ((decide ((nI i) = 25)) || (decide ((nI i) = 32))))))), su) := by unfold tSt; simp only [h1, h8, cond_true, cond_false] <;> rfl
                      rw [e] at K; exact K
                    · have h8 : (decide (27 ≤ (nI i))) = false := decide_eq_false (cn_ge.mp h8)
                      refine z_rcs hc hH 10 (pc' := 21) (lv' := [(8, .int ((nI i) + 1)), (7, .int (su ||| (1 <<< (((nI i) / 9) &&& 31)))), (6, .int (nB (a6 && ((decide ((nI i) = 19)) || ((decide ((nI i) = 20)) || ((decide ((nI i) = 21)) || ((decide ((nI i) = 23)) || ((decide ((nI i) = 25)) || (decide ((nI i) = 32)))))))))), (5, .int (nB (a5 && (xTe (nI i))))), (4, .int (nB (a4 || (xHo (nI i))))), (3, .int (nB (a3 && (xHo (nI i))))), (2, .int (nB (a2 && (!(xEn (nI i)))))), (1, .int (nB (a1 && (xEn (nI i))))), (0, .ref 50)]) (st' := []) (μ' := μ) (by rfl) ?_
                      rw [nI_1]
                      refine (ih (i + 1) (a1 && (xEn (nI i)), a2 && (!(xEn (nI i))), a3 && (xHo (nI i)), a4 || (xHo (nI i)), a5 && (xTe (nI i)), a6 && ((decide ((nI i) = 19)) || ((decide ((nI i) = 20)) || ((decide ((nI i) = 21)) || ((decide ((nI i) = 23)) || ((decide ((nI i) = 25)) || (decide ((nI i) = 32))))))), su ||| (1 <<< (((nI i) / 9) &&& 31))) (by omega) ?_).1
                      have e : tSt μ q i (a1, a2, a3, a4, a5, a6, su) = (a1 && (xEn (nI i)), a2 && (!(xEn (nI i))), a3 && (xHo (nI i)), a4 || (xHo (nI i)), a5 && (xTe (nI i)), a6 && ((decide ((nI i) = 19)) || ((decide ((nI i) = 20)) || ((decide ((nI i) = 21)) || ((decide ((nI i) = 23)) || ((decide ((nI i) = 25)) || (decide ((nI i) = 32))))))), su ||| (1 <<< (((nI i) / 9) &&& 31))) := by unfold tSt; simp only [h1, h8, cond_true, cond_false] <;> rfl
                      rw [e] at K; exact K
                  refine zq_if hc hH (by rfl) (tg := 185) (by rfl) (fun h9 => ?_) (fun h9 => ?_)
                  · have h9 : (a6) = false := nB_z.mp (cm_eq9.mp h9)
                    refine z_rcs hc hH 1 (pc' := 186) (lv' := [(5, .int (nB (a5 && (xTe (nI i))))), (4, .int (nB (a4 || (xHo (nI i))))), (3, .int (nB (a3 && (xHo (nI i))))), (2, .int (nB (a2 && (!(xEn (nI i)))))), (1, .int (nB (a1 && (xEn (nI i))))), (8, .int (nI i)), (6, .int (nB a6)), (7, .int su), (0, .ref 50)]) (st' := [.int 0]) (μ' := μ) (by rfl) ?_
                    exact zJ hJ7 rfl (by simp only [h9, lb_f, Int64.or_zero, nB_t, nB_f, Bool.not_true, Bool.not_false, Bool.and_true, Bool.true_and, Bool.false_and, Bool.and_false, Bool.or_true, Bool.true_or, Bool.false_or, Bool.or_false, cond_true, cond_false]) rfl
                  · have h9 : (a6) = true := nB_n.mp (cn_eq.mp h9)
                    refine z_rcs hc hH 2 (pc' := 143) (lv' := [(5, .int (nB (a5 && (xTe (nI i))))), (4, .int (nB (a4 || (xHo (nI i))))), (3, .int (nB (a3 && (xHo (nI i))))), (2, .int (nB (a2 && (!(xEn (nI i)))))), (1, .int (nB (a1 && (xEn (nI i))))), (8, .int (nI i)), (6, .int (nB a6)), (7, .int su), (0, .ref 50)]) (st' := [.int 19, .int (nI i)]) (μ' := μ) (by rfl) ?_
                    refine zq_ic hc hH (by rfl) (tg := 181) (by rfl) (fun h10 => ?_) (fun h10 => ?_)
                    · have h10 : (decide ((nI i) = 19)) = true := decide_eq_true (cm_eq9.mp h10)
                      refine z_rcs hc hH 2 (pc' := 186) (lv' := [(5, .int (nB (a5 && (xTe (nI i))))), (4, .int (nB (a4 || (xHo (nI i))))), (3, .int (nB (a3 && (xHo (nI i))))), (2, .int (nB (a2 && (!(xEn (nI i)))))), (1, .int (nB (a1 && (xEn (nI i))))), (8, .int (nI i)), (6, .int (nB a6)), (7, .int su), (0, .ref 50)]) (st' := [.int 1]) (μ' := μ) (by rfl) ?_
                      exact zJ hJ7 rfl (by simp only [h9, h10, lb_f, Int64.or_zero, nB_t, nB_f, Bool.not_true, Bool.not_false, Bool.and_true, Bool.true_and, Bool.false_and, Bool.and_false, Bool.or_true, Bool.true_or, Bool.false_or, Bool.or_false, cond_true, cond_false]) rfl
                    · have h10 : (decide ((nI i) = 19)) = false := decide_eq_false (cn_eq.mp h10)
                      refine z_rcs hc hH 2 (pc' := 150) (lv' := [(5, .int (nB (a5 && (xTe (nI i))))), (4, .int (nB (a4 || (xHo (nI i))))), (3, .int (nB (a3 && (xHo (nI i))))), (2, .int (nB (a2 && (!(xEn (nI i)))))), (1, .int (nB (a1 && (xEn (nI i))))), (8, .int (nI i)), (6, .int (nB a6)), (7, .int su), (0, .ref 50)]) (st' := [.int 20, .int (nI i)]) (μ' := μ) (by rfl) ?_
                      refine zq_ic hc hH (by rfl) (tg := 181) (by rfl) (fun h11 => ?_) (fun h11 => ?_)
                      · have h11 : (decide ((nI i) = 20)) = true := decide_eq_true (cm_eq9.mp h11)
                        refine z_rcs hc hH 2 (pc' := 186) (lv' := [(5, .int (nB (a5 && (xTe (nI i))))), (4, .int (nB (a4 || (xHo (nI i))))), (3, .int (nB (a3 && (xHo (nI i))))), (2, .int (nB (a2 && (!(xEn (nI i)))))), (1, .int (nB (a1 && (xEn (nI i))))), (8, .int (nI i)), (6, .int (nB a6)), (7, .int su), (0, .ref 50)]) (st' := [.int 1]) (μ' := μ) (by rfl) ?_
                        exact zJ hJ7 rfl (by simp only [h9, h10, h11, lb_f, Int64.or_zero, nB_t, nB_f, Bool.not_true, Bool.not_false, Bool.and_true, Bool.true_and, Bool.false_and, Bool.and_false, Bool.or_true, Bool.true_or, Bool.false_or, Bool.or_false, cond_true, cond_false]) rfl
                      · have h11 : (decide ((nI i) = 20)) = false := decide_eq_false (cn_eq.mp h11)
                        refine z_rcs hc hH 2 (pc' := 157) (lv' := [(5, .int (nB (a5 && (xTe (nI i))))), (4, .int (nB (a4 || (xHo (nI i))))), (3, .int (nB (a3 && (xHo (nI i))))), (2, .int (nB (a2 && (!(xEn (nI i)))))), (1, .int (nB (a1 && (xEn (nI i))))), (8, .int (nI i)), (6, .int (nB a6)), (7, .int su), (0, .ref 50)]) (st' := [.int 21, .int (nI i)]) (μ' := μ) (by rfl) ?_
                        refine zq_ic hc hH (by rfl) (tg := 181) (by rfl) (fun h12 => ?_) (fun h12 => ?_)
                        · have h12 : (decide ((nI i) = 21)) = true := decide_eq_true (cm_eq9.mp h12)
                          refine z_rcs hc hH 2 (pc' := 186) (lv' := [(5, .int (nB (a5 && (xTe (nI i))))), (4, .int (nB (a4 || (xHo (nI i))))), (3, .int (nB (a3 && (xHo (nI i))))), (2, .int (nB (a2 && (!(xEn (nI i)))))), (1, .int (nB (a1 && (xEn (nI i))))), (8, .int (nI i)), (6, .int (nB a6)), (7, .int su), (0, .ref 50)]) (st' := [.int 1]) (μ' := μ) (by rfl) ?_
                          exact zJ hJ7 rfl (by simp only [h9, h10, h11, h12, lb_f, Int64.or_zero, nB_t, nB_f, Bool.not_true, Bool.not_false, Bool.and_true, Bool.true_and, Bool.false_and, Bool.and_false, Bool.or_true, Bool.true_or, Bool.false_or, Bool.or_false, cond_true, cond_false]) rfl
                        · have h12 : (decide ((nI i) = 21)) = false := decide_eq_false (cn_eq.mp h12)
                          refine z_rcs hc hH 2 (pc' := 164) (lv' := [(5, .int (nB (a5 && (xTe (nI i))))), (4, .int (nB (a4 || (xHo (nI i))))), (3, .int (nB (a3 && (xHo (nI i))))), (2, .int (nB (a2 && (!(xEn (nI i)))))), (1, .int (nB (a1 && (xEn (nI i))))), (8, .int (nI i)), (6, .int (nB a6)), (7, .int su), (0, .ref 50)]) (st' := [.int 23, .int (nI i)]) (μ' := μ) (by rfl) ?_
                          refine zq_ic hc hH (by rfl) (tg := 181) (by rfl) (fun h13 => ?_) (fun h13 => ?_)
                          · have h13 : (decide ((nI i) = 23)) = true := decide_eq_true (cm_eq9.mp h13)
                            refine z_rcs hc hH 2 (pc' := 186) (lv' := [(5, .int (nB (a5 && (xTe (nI i))))), (4, .int (nB (a4 || (xHo (nI i))))), (3, .int (nB (a3 && (xHo (nI i))))), (2, .int (nB (a2 && (!(xEn (nI i)))))), (1, .int (nB (a1 && (xEn (nI i))))), (8, .int (nI i)), (6, .int (nB a6)), (7, .int su), (0, .ref 50)]) (st' := [.int 1]) (μ' := μ) (by rfl) ?_
                            exact zJ hJ7 rfl (by simp only [h9, h10, h11, h12, h13, lb_f, Int64.or_zero, nB_t, nB_f, Bool.not_true, Bool.not_false, Bool.and_true, Bool.true_and, Bool.false_and, Bool.and_false, Bool.or_true, Bool.true_or, Bool.false_or, Bool.or_false, cond_true, cond_false]) rfl
                          · have h13 : (decide ((nI i) = 23)) = false := decide_eq_false (cn_eq.mp h13)
                            refine z_rcs hc hH 2 (pc' := 171) (lv' := [(5, .int (nB (a5 && (xTe (nI i))))), (4, .int (nB (a4 || (xHo (nI i))))), (3, .int (nB (a3 && (xHo (nI i))))), (2, .int (nB (a2 && (!(xEn (nI i)))))), (1, .int (nB (a1 && (xEn (nI i))))), (8, .int (nI i)), (6, .int (nB a6)), (7, .int su), (0, .ref 50)]) (st' := [.int 25, .int (nI i)]) (μ' := μ) (by rfl) ?_
                            refine zq_ic hc hH (by rfl) (tg := 181) (by rfl) (fun h14 => ?_) (fun h14 => ?_)
                            · have h14 : (decide ((nI i) = 25)) = true := decide_eq_true (cm_eq9.mp h14)
                              refine z_rcs hc hH 2 (pc' := 186) (lv' := [(5, .int (nB (a5 && (xTe (nI i))))), (4, .int (nB (a4 || (xHo (nI i))))), (3, .int (nB (a3 && (xHo (nI i))))), (2, .int (nB (a2 && (!(xEn (nI i)))))), (1, .int (nB (a1 && (xEn (nI i))))), (8, .int (nI i)), (6, .int (nB a6)), (7, .int su), (0, .ref 50)]) (st' := [.int 1]) (μ' := μ) (by rfl) ?_
                              exact zJ hJ7 rfl (by simp only [h9, h10, h11, h12, h13, h14, lb_f, Int64.or_zero, nB_t, nB_f, Bool.not_true, Bool.not_false, Bool.and_true, Bool.true_and, Bool.false_and, Bool.and_false, Bool.or_true, Bool.true_or, Bool.false_or, Bool.or_false, cond_true, cond_false]) rfl
                            · have h14 : (decide ((nI i) = 25)) = false := decide_eq_false (cn_eq.mp h14)
                              refine z_rcs hc hH 2 (pc' := 178) (lv' := [(5, .int (nB (a5 && (xTe (nI i))))), (4, .int (nB (a4 || (xHo (nI i))))), (3, .int (nB (a3 && (xHo (nI i))))), (2, .int (nB (a2 && (!(xEn (nI i)))))), (1, .int (nB (a1 && (xEn (nI i))))), (8, .int (nI i)), (6, .int (nB a6)), (7, .int su), (0, .ref 50)]) (st' := [.int 32, .int (nI i)]) (μ' := μ) (by rfl) ?_
                              refine zq_ic hc hH (by rfl) (tg := 185) (by rfl) (fun h15 => ?_) (fun h15 => ?_)
                              · have h15 : (decide ((nI i) = 32)) = false := decide_eq_false (cm_ne.mp h15)
                                refine z_rcs hc hH 1 (pc' := 186) (lv' := [(5, .int (nB (a5 && (xTe (nI i))))), (4, .int (nB (a4 || (xHo (nI i))))), (3, .int (nB (a3 && (xHo (nI i))))), (2, .int (nB (a2 && (!(xEn (nI i)))))), (1, .int (nB (a1 && (xEn (nI i))))), (8, .int (nI i)), (6, .int (nB a6)), (7, .int su), (0, .ref 50)]) (st' := [.int 0]) (μ' := μ) (by rfl) ?_
                                exact zJ hJ7 rfl (by simp only [h9, h10, h11, h12, h13, h14, h15, lb_f, Int64.or_zero, nB_t, nB_f, Bool.not_true, Bool.not_false, Bool.and_true, Bool.true_and, Bool.false_and, Bool.and_false, Bool.or_true, Bool.true_or, Bool.false_or, Bool.or_false, cond_true, cond_false]) rfl
                              · have h15 : (decide ((nI i) = 32)) = true := decide_eq_true (cn_ne.mp h15)
                                refine z_rcs hc hH 2 (pc' := 186) (lv' := [(5, .int (nB (a5 && (xTe (nI i))))), (4, .int (nB (a4 || (xHo (nI i))))), (3, .int (nB (a3 && (xHo (nI i))))), (2, .int (nB (a2 && (!(xEn (nI i)))))), (1, .int (nB (a1 && (xEn (nI i))))), (8, .int (nI i)), (6, .int (nB a6)), (7, .int su), (0, .ref 50)]) (st' := [.int 1]) (μ' := μ) (by rfl) ?_
                                exact zJ hJ7 rfl (by simp only [h9, h10, h11, h12, h13, h14, h15, lb_f, Int64.or_zero, nB_t, nB_f, Bool.not_true, Bool.not_false, Bool.and_true, Bool.true_and, Bool.false_and, Bool.and_false, Bool.or_true, Bool.true_or, Bool.false_or, Bool.or_false, cond_true, cond_false]) rfl
                refine zq_if hc hH (by rfl) (tg := 131) (by rfl) (fun h16 => ?_) (fun h16 => ?_)
                · have h16 : (a5) = false := nB_z.mp (cm_eq9.mp h16)
                  refine z_rcs hc hH 1 (pc' := 132) (lv' := [(4, .int (nB (a4 || (xHo (nI i))))), (3, .int (nB (a3 && (xHo (nI i))))), (2, .int (nB (a2 && (!(xEn (nI i)))))), (1, .int (nB (a1 && (xEn (nI i))))), (8, .int (nI i)), (6, .int (nB a6)), (5, .int (nB a5)), (7, .int su), (0, .ref 50)]) (st' := [.int 0]) (μ' := μ) (by rfl) ?_
                  exact zJ hJ6 rfl (by simp only [h16, lb_f, Int64.or_zero, nB_t, nB_f, Bool.not_true, Bool.not_false, Bool.and_true, Bool.true_and, Bool.false_and, Bool.and_false, Bool.or_true, Bool.true_or, Bool.false_or, Bool.or_false, cond_true, cond_false]) rfl
                · have h16 : (a5) = true := nB_n.mp (cn_eq.mp h16)
                  refine z_rcs hc hH 1 (pc' := 121) (lv' := [(4, .int (nB (a4 || (xHo (nI i))))), (3, .int (nB (a3 && (xHo (nI i))))), (2, .int (nB (a2 && (!(xEn (nI i)))))), (1, .int (nB (a1 && (xEn (nI i))))), (8, .int (nI i)), (6, .int (nB a6)), (5, .int (nB a5)), (7, .int su), (0, .ref 50)]) (st' := [.int (nI i)]) (μ' := μ) (by rfl) ?_
                  refine zq_call hc (by rfl) (fb_X7_isTerminal d' (by omega) μ (nI i)) (by decide +kernel) (fun r9 μ9 hq => ?_)
                  obtain ⟨hμ9, rfl⟩ := hq
                  rw [hμ9]
                  clear hμ9 μ9
                  show Z 0 124 [(4, .int (nB (a4 || (xHo (nI i))))), (3, .int (nB (a3 && (xHo (nI i))))), (2, .int (nB (a2 && (!(xEn (nI i)))))), (1, .int (nB (a1 && (xEn (nI i))))), (8, .int (nI i)), (6, .int (nB a6)), (5, .int (nB a5)), (7, .int su), (0, .ref 50)] [.int (nB (xTe (nI i)))] μ
                  refine zq_if hc hH (by rfl) (tg := 131) (by rfl) (fun h17 => ?_) (fun h17 => ?_)
                  · have h17 : (xTe (nI i)) = false := nB_z.mp (cm_eq9.mp h17)
                    refine z_rcs hc hH 1 (pc' := 132) (lv' := [(4, .int (nB (a4 || (xHo (nI i))))), (3, .int (nB (a3 && (xHo (nI i))))), (2, .int (nB (a2 && (!(xEn (nI i)))))), (1, .int (nB (a1 && (xEn (nI i))))), (8, .int (nI i)), (6, .int (nB a6)), (5, .int (nB a5)), (7, .int su), (0, .ref 50)]) (st' := [.int 0]) (μ' := μ) (by rfl) ?_
                    exact zJ hJ6 rfl (by simp only [h16, h17, lb_f, Int64.or_zero, nB_t, nB_f, Bool.not_true, Bool.not_false, Bool.and_true, Bool.true_and, Bool.false_and, Bool.and_false, Bool.or_true, Bool.true_or, Bool.false_or, Bool.or_false, cond_true, cond_false]) rfl
                  · have h17 : (xTe (nI i)) = true := nB_n.mp (cn_eq.mp h17)
                    refine z_rcs hc hH 2 (pc' := 132) (lv' := [(4, .int (nB (a4 || (xHo (nI i))))), (3, .int (nB (a3 && (xHo (nI i))))), (2, .int (nB (a2 && (!(xEn (nI i)))))), (1, .int (nB (a1 && (xEn (nI i))))), (8, .int (nI i)), (6, .int (nB a6)), (5, .int (nB a5)), (7, .int su), (0, .ref 50)]) (st' := [.int 1]) (μ' := μ) (by rfl) ?_
                    exact zJ hJ6 rfl (by simp only [h16, h17, lb_f, Int64.or_zero, nB_t, nB_f, Bool.not_true, Bool.not_false, Bool.and_true, Bool.true_and, Bool.false_and, Bool.and_false, Bool.or_true, Bool.true_or, Bool.false_or, Bool.or_false, cond_true, cond_false]) rfl
              refine zq_if hc hH (by rfl) (tg := 107) (by rfl) (fun h18 => ?_) (fun h18 => ?_)
              · have h18 : (a4) = true := nB_n.mp (cm_ne.mp h18)
                refine z_rcs hc hH 2 (pc' := 112) (lv' := [(3, .int (nB (a3 && (xHo (nI i))))), (2, .int (nB (a2 && (!(xEn (nI i)))))), (1, .int (nB (a1 && (xEn (nI i))))), (8, .int (nI i)), (6, .int (nB a6)), (5, .int (nB a5)), (4, .int (nB a4)), (7, .int su), (0, .ref 50)]) (st' := [.int 1]) (μ' := μ) (by rfl) ?_
                exact zJ hJ5 rfl (by simp only [h18, lb_f, Int64.or_zero, nB_t, nB_f, Bool.not_true, Bool.not_false, Bool.and_true, Bool.true_and, Bool.false_and, Bool.and_false, Bool.or_true, Bool.true_or, Bool.false_or, Bool.or_false, cond_true, cond_false]) rfl
              · have h18 : (a4) = false := nB_z.mp (cn_ne.mp h18)
                refine z_rcs hc hH 1 (pc' := 101) (lv' := [(3, .int (nB (a3 && (xHo (nI i))))), (2, .int (nB (a2 && (!(xEn (nI i)))))), (1, .int (nB (a1 && (xEn (nI i))))), (8, .int (nI i)), (6, .int (nB a6)), (5, .int (nB a5)), (4, .int (nB a4)), (7, .int su), (0, .ref 50)]) (st' := [.int (nI i)]) (μ' := μ) (by rfl) ?_
                refine zq_call hc (by rfl) (fb_X7_isHonour d' (by omega) μ (nI i)) (by decide +kernel) (fun r9 μ9 hq => ?_)
                obtain ⟨hμ9, rfl⟩ := hq
                rw [hμ9]
                clear hμ9 μ9
                show Z 0 104 [(3, .int (nB (a3 && (xHo (nI i))))), (2, .int (nB (a2 && (!(xEn (nI i)))))), (1, .int (nB (a1 && (xEn (nI i))))), (8, .int (nI i)), (6, .int (nB a6)), (5, .int (nB a5)), (4, .int (nB a4)), (7, .int su), (0, .ref 50)] [.int (nB (xHo (nI i)))] μ
                refine zq_if hc hH (by rfl) (tg := 111) (by rfl) (fun h19 => ?_) (fun h19 => ?_)
                · have h19 : (xHo (nI i)) = false := nB_z.mp (cm_eq9.mp h19)
                  refine z_rcs hc hH 1 (pc' := 112) (lv' := [(3, .int (nB (a3 && (xHo (nI i))))), (2, .int (nB (a2 && (!(xEn (nI i)))))), (1, .int (nB (a1 && (xEn (nI i))))), (8, .int (nI i)), (6, .int (nB a6)), (5, .int (nB a5)), (4, .int (nB a4)), (7, .int su), (0, .ref 50)]) (st' := [.int 0]) (μ' := μ) (by rfl) ?_
                  exact zJ hJ5 rfl (by simp only [h18, h19, lb_f, Int64.or_zero, nB_t, nB_f, Bool.not_true, Bool.not_false, Bool.and_true, Bool.true_and, Bool.false_and, Bool.and_false, Bool.or_true, Bool.true_or, Bool.false_or, Bool.or_false, cond_true, cond_false]) rfl
                · have h19 : (xHo (nI i)) = true := nB_n.mp (cn_eq.mp h19)
                  refine z_rcs hc hH 2 (pc' := 112) (lv' := [(3, .int (nB (a3 && (xHo (nI i))))), (2, .int (nB (a2 && (!(xEn (nI i)))))), (1, .int (nB (a1 && (xEn (nI i))))), (8, .int (nI i)), (6, .int (nB a6)), (5, .int (nB a5)), (4, .int (nB a4)), (7, .int su), (0, .ref 50)]) (st' := [.int 1]) (μ' := μ) (by rfl) ?_
                  exact zJ hJ5 rfl (by simp only [h18, h19, lb_f, Int64.or_zero, nB_t, nB_f, Bool.not_true, Bool.not_false, Bool.and_true, Bool.true_and, Bool.false_and, Bool.and_false, Bool.or_true, Bool.true_or, Bool.false_or, Bool.or_false, cond_true, cond_false]) rfl
            refine zq_if hc hH (by rfl) (tg := 92) (by rfl) (fun h20 => ?_) (fun h20 => ?_)
            · have h20 : (a3) = false := nB_z.mp (cm_eq9.mp h20)
              refine z_rcs hc hH 1 (pc' := 93) (lv' := [(2, .int (nB (a2 && (!(xEn (nI i)))))), (1, .int (nB (a1 && (xEn (nI i))))), (8, .int (nI i)), (6, .int (nB a6)), (5, .int (nB a5)), (4, .int (nB a4)), (3, .int (nB a3)), (7, .int su), (0, .ref 50)]) (st' := [.int 0]) (μ' := μ) (by rfl) ?_
              exact zJ hJ4 rfl (by simp only [h20, lb_f, Int64.or_zero, nB_t, nB_f, Bool.not_true, Bool.not_false, Bool.and_true, Bool.true_and, Bool.false_and, Bool.and_false, Bool.or_true, Bool.true_or, Bool.false_or, Bool.or_false, cond_true, cond_false]) rfl
            · have h20 : (a3) = true := nB_n.mp (cn_eq.mp h20)
              refine z_rcs hc hH 1 (pc' := 82) (lv' := [(2, .int (nB (a2 && (!(xEn (nI i)))))), (1, .int (nB (a1 && (xEn (nI i))))), (8, .int (nI i)), (6, .int (nB a6)), (5, .int (nB a5)), (4, .int (nB a4)), (3, .int (nB a3)), (7, .int su), (0, .ref 50)]) (st' := [.int (nI i)]) (μ' := μ) (by rfl) ?_
              refine zq_call hc (by rfl) (fb_X7_isHonour d' (by omega) μ (nI i)) (by decide +kernel) (fun r9 μ9 hq => ?_)
              obtain ⟨hμ9, rfl⟩ := hq
              rw [hμ9]
              clear hμ9 μ9
              show Z 0 85 [(2, .int (nB (a2 && (!(xEn (nI i)))))), (1, .int (nB (a1 && (xEn (nI i))))), (8, .int (nI i)), (6, .int (nB a6)), (5, .int (nB a5)), (4, .int (nB a4)), (3, .int (nB a3)), (7, .int su), (0, .ref 50)] [.int (nB (xHo (nI i)))] μ
              refine zq_if hc hH (by rfl) (tg := 92) (by rfl) (fun h21 => ?_) (fun h21 => ?_)
              · have h21 : (xHo (nI i)) = false := nB_z.mp (cm_eq9.mp h21)
                refine z_rcs hc hH 1 (pc' := 93) (lv' := [(2, .int (nB (a2 && (!(xEn (nI i)))))), (1, .int (nB (a1 && (xEn (nI i))))), (8, .int (nI i)), (6, .int (nB a6)), (5, .int (nB a5)), (4, .int (nB a4)), (3, .int (nB a3)), (7, .int su), (0, .ref 50)]) (st' := [.int 0]) (μ' := μ) (by rfl) ?_
                exact zJ hJ4 rfl (by simp only [h20, h21, lb_f, Int64.or_zero, nB_t, nB_f, Bool.not_true, Bool.not_false, Bool.and_true, Bool.true_and, Bool.false_and, Bool.and_false, Bool.or_true, Bool.true_or, Bool.false_or, Bool.or_false, cond_true, cond_false]) rfl
              · have h21 : (xHo (nI i)) = true := nB_n.mp (cn_eq.mp h21)
                refine z_rcs hc hH 2 (pc' := 93) (lv' := [(2, .int (nB (a2 && (!(xEn (nI i)))))), (1, .int (nB (a1 && (xEn (nI i))))), (8, .int (nI i)), (6, .int (nB a6)), (5, .int (nB a5)), (4, .int (nB a4)), (3, .int (nB a3)), (7, .int su), (0, .ref 50)]) (st' := [.int 1]) (μ' := μ) (by rfl) ?_
                exact zJ hJ4 rfl (by simp only [h20, h21, lb_f, Int64.or_zero, nB_t, nB_f, Bool.not_true, Bool.not_false, Bool.and_true, Bool.true_and, Bool.false_and, Bool.and_false, Bool.or_true, Bool.true_or, Bool.false_or, Bool.or_false, cond_true, cond_false]) rfl
          refine zq_if hc hH (by rfl) (tg := 74) (by rfl) (fun h22 => ?_) (fun h22 => ?_)
          · have h22 : (a2) = false := nB_z.mp (cm_eq9.mp h22)
            refine z_rcs hc hH 1 (pc' := 75) (lv' := [(1, .int (nB (a1 && (xEn (nI i))))), (8, .int (nI i)), (6, .int (nB a6)), (5, .int (nB a5)), (4, .int (nB a4)), (3, .int (nB a3)), (2, .int (nB a2)), (7, .int su), (0, .ref 50)]) (st' := [.int 0]) (μ' := μ) (by rfl) ?_
            exact zJ hJ3 rfl (by simp only [h22, lb_f, Int64.or_zero, nB_t, nB_f, Bool.not_true, Bool.not_false, Bool.and_true, Bool.true_and, Bool.false_and, Bool.and_false, Bool.or_true, Bool.true_or, Bool.false_or, Bool.or_false, cond_true, cond_false]) rfl
          · have h22 : (a2) = true := nB_n.mp (cn_eq.mp h22)
            refine z_rcs hc hH 1 (pc' := 64) (lv' := [(1, .int (nB (a1 && (xEn (nI i))))), (8, .int (nI i)), (6, .int (nB a6)), (5, .int (nB a5)), (4, .int (nB a4)), (3, .int (nB a3)), (2, .int (nB a2)), (7, .int su), (0, .ref 50)]) (st' := [.int (nI i)]) (μ' := μ) (by rfl) ?_
            refine zq_call hc (by rfl) (fb_X7_isEnd d' (by omega) μ (nI i)) (by decide +kernel) (fun r9 μ9 hq => ?_)
            obtain ⟨hμ9, rfl⟩ := hq
            rw [hμ9]
            clear hμ9 μ9
            show Z 0 67 [(1, .int (nB (a1 && (xEn (nI i))))), (8, .int (nI i)), (6, .int (nB a6)), (5, .int (nB a5)), (4, .int (nB a4)), (3, .int (nB a3)), (2, .int (nB a2)), (7, .int su), (0, .ref 50)] [.int (nB (xEn (nI i)))] μ
            refine zq_if hc hH (by rfl) (tg := 74) (by rfl) (fun h23 => ?_) (fun h23 => ?_)
            · have h23 : (xEn (nI i)) = true := nB_n.mp (cm_ne.mp h23)
              refine z_rcs hc hH 1 (pc' := 75) (lv' := [(1, .int (nB (a1 && (xEn (nI i))))), (8, .int (nI i)), (6, .int (nB a6)), (5, .int (nB a5)), (4, .int (nB a4)), (3, .int (nB a3)), (2, .int (nB a2)), (7, .int su), (0, .ref 50)]) (st' := [.int 0]) (μ' := μ) (by rfl) ?_
              exact zJ hJ3 rfl (by simp only [h22, h23, lb_f, Int64.or_zero, nB_t, nB_f, Bool.not_true, Bool.not_false, Bool.and_true, Bool.true_and, Bool.false_and, Bool.and_false, Bool.or_true, Bool.true_or, Bool.false_or, Bool.or_false, cond_true, cond_false]) rfl
            · have h23 : (xEn (nI i)) = false := nB_z.mp (cn_ne.mp h23)
              refine z_rcs hc hH 2 (pc' := 75) (lv' := [(1, .int (nB (a1 && (xEn (nI i))))), (8, .int (nI i)), (6, .int (nB a6)), (5, .int (nB a5)), (4, .int (nB a4)), (3, .int (nB a3)), (2, .int (nB a2)), (7, .int su), (0, .ref 50)]) (st' := [.int 1]) (μ' := μ) (by rfl) ?_
              exact zJ hJ3 rfl (by simp only [h22, h23, lb_f, Int64.or_zero, nB_t, nB_f, Bool.not_true, Bool.not_false, Bool.and_true, Bool.true_and, Bool.false_and, Bool.and_false, Bool.or_true, Bool.true_or, Bool.false_or, Bool.or_false, cond_true, cond_false]) rfl
        refine zq_if hc hH (by rfl) (tg := 56) (by rfl) (fun h24 => ?_) (fun h24 => ?_)
        · have h24 : (a1) = false := nB_z.mp (cm_eq9.mp h24)
          refine z_rcs hc hH 1 (pc' := 57) (lv' := [(8, .int (nI i)), (6, .int (nB a6)), (5, .int (nB a5)), (4, .int (nB a4)), (3, .int (nB a3)), (2, .int (nB a2)), (1, .int (nB a1)), (7, .int su), (0, .ref 50)]) (st' := [.int 0]) (μ' := μ) (by rfl) ?_
          exact zJ hJ2 rfl (by simp only [h24, lb_f, Int64.or_zero, nB_t, nB_f, Bool.not_true, Bool.not_false, Bool.and_true, Bool.true_and, Bool.false_and, Bool.and_false, Bool.or_true, Bool.true_or, Bool.false_or, Bool.or_false, cond_true, cond_false]) rfl
        · have h24 : (a1) = true := nB_n.mp (cn_eq.mp h24)
          refine z_rcs hc hH 1 (pc' := 46) (lv' := [(8, .int (nI i)), (6, .int (nB a6)), (5, .int (nB a5)), (4, .int (nB a4)), (3, .int (nB a3)), (2, .int (nB a2)), (1, .int (nB a1)), (7, .int su), (0, .ref 50)]) (st' := [.int (nI i)]) (μ' := μ) (by rfl) ?_
          refine zq_call hc (by rfl) (fb_X7_isEnd d' (by omega) μ (nI i)) (by decide +kernel) (fun r9 μ9 hq => ?_)
          obtain ⟨hμ9, rfl⟩ := hq
          rw [hμ9]
          clear hμ9 μ9
          show Z 0 49 [(8, .int (nI i)), (6, .int (nB a6)), (5, .int (nB a5)), (4, .int (nB a4)), (3, .int (nB a3)), (2, .int (nB a2)), (1, .int (nB a1)), (7, .int su), (0, .ref 50)] [.int (nB (xEn (nI i)))] μ
          refine zq_if hc hH (by rfl) (tg := 56) (by rfl) (fun h25 => ?_) (fun h25 => ?_)
          · have h25 : (xEn (nI i)) = false := nB_z.mp (cm_eq9.mp h25)
            refine z_rcs hc hH 1 (pc' := 57) (lv' := [(8, .int (nI i)), (6, .int (nB a6)), (5, .int (nB a5)), (4, .int (nB a4)), (3, .int (nB a3)), (2, .int (nB a2)), (1, .int (nB a1)), (7, .int su), (0, .ref 50)]) (st' := [.int 0]) (μ' := μ) (by rfl) ?_
            exact zJ hJ2 rfl (by simp only [h24, h25, lb_f, Int64.or_zero, nB_t, nB_f, Bool.not_true, Bool.not_false, Bool.and_true, Bool.true_and, Bool.false_and, Bool.and_false, Bool.or_true, Bool.true_or, Bool.false_or, Bool.or_false, cond_true, cond_false]) rfl
          · have h25 : (xEn (nI i)) = true := nB_n.mp (cn_eq.mp h25)
            refine z_rcs hc hH 2 (pc' := 57) (lv' := [(8, .int (nI i)), (6, .int (nB a6)), (5, .int (nB a5)), (4, .int (nB a4)), (3, .int (nB a3)), (2, .int (nB a2)), (1, .int (nB a1)), (7, .int su), (0, .ref 50)]) (st' := [.int 1]) (μ' := μ) (by rfl) ?_
            exact zJ hJ2 rfl (by simp only [h24, h25, lb_f, Int64.or_zero, nB_t, nB_f, Bool.not_true, Bool.not_false, Bool.and_true, Bool.true_and, Bool.false_and, Bool.and_false, Bool.or_true, Bool.true_or, Bool.false_or, Bool.or_false, cond_true, cond_false]) rfl
      · have h1 : (decide ((ofv (μ.1 58 i) (μ.1 52) (μ.1 53) (nI i) q) = 0)) = true := decide_eq_true (cn_ne.mp h1)
        refine z_rcs hc hH 3 (pc' := 21) (lv' := [(8, .int ((nI i) + 1)), (6, .int (nB a6)), (5, .int (nB a5)), (4, .int (nB a4)), (3, .int (nB a3)), (2, .int (nB a2)), (1, .int (nB a1)), (7, .int su), (0, .ref 50)]) (st' := []) (μ' := μ) (by rfl) ?_
        rw [nI_1]
        refine (ih (i + 1) (a1, a2, a3, a4, a5, a6, su) (by omega) ?_).2
        have e : tSt μ q i (a1, a2, a3, a4, a5, a6, su) = (a1, a2, a3, a4, a5, a6, su) := by unfold tSt; simp only [h1, cond_true, cond_false] <;> rfl
        rw [e] at K; exact K
    exact ⟨b1, b2⟩
