/-! the kernel decides: each contract is good -/
def a_P (i : Nat) : Prop := ∀ (k : Nat) (K : aQ), (a_Ks.take i)[k]? = some K → a_sound (5 * i) K
theorem a_next {i : Nat} {K : aQ} {cs : List aC} {f : Nat} (hi : a_Ks[i]? = some K) (h : a_P i) (g : a_good (a_Ks.take i) (a_Zc, a_Zs) K cs f 4 6 = true) : a_P (i + 1) := by
  intro k K' hk
  rw [List.getElem?_take] at hk
  split at hk
  · rename_i hlt
    rcases Nat.lt_or_ge k i with q | q
    · exact a_sound_up (h k K' (by rw [List.getElem?_take, if_pos q]; exact hk)) (by omega)
    · have : k = i := by omega
      subst this
      rw [hi] at hk
      cases hk
      exact a_sound_up (a_good_ok h g) (by omega)
  · cases hk
theorem aP_0 : a_P 0 := by
  intro k K hk
  rw [List.take_zero] at hk
  cases hk
set_option maxRecDepth 1000000 in
theorem ag_0 : a_good (a_Ks.take 0) (a_Zc, a_Zs) ak_0 ac_0 2000 4 6 = true := by decide +kernel
theorem aP_1 : a_P 1 := a_next (i := 0) rfl aP_0 ag_0
set_option maxRecDepth 1000000 in
theorem ag_1 : a_good (a_Ks.take 1) (a_Zc, a_Zs) ak_1 ac_1 2000 4 6 = true := by decide +kernel
theorem aP_2 : a_P 2 := a_next (i := 1) rfl aP_1 ag_1
set_option maxRecDepth 1000000 in
theorem ag_2 : a_good (a_Ks.take 2) (a_Zc, a_Zs) ak_2 ac_2 2000 4 6 = true := by decide +kernel
theorem aP_3 : a_P 3 := a_next (i := 2) rfl aP_2 ag_2
set_option maxRecDepth 1000000 in
theorem ag_3 : a_good (a_Ks.take 3) (a_Zc, a_Zs) ak_3 ac_3 2000 4 6 = true := by decide +kernel
theorem aP_4 : a_P 4 := a_next (i := 3) rfl aP_3 ag_3
set_option maxRecDepth 1000000 in
theorem ag_4 : a_good (a_Ks.take 4) (a_Zc, a_Zs) ak_4 ac_4 2000 4 6 = true := by decide +kernel
theorem aP_5 : a_P 5 := a_next (i := 4) rfl aP_4 ag_4
set_option maxRecDepth 1000000 in
theorem ag_5 : a_good (a_Ks.take 5) (a_Zc, a_Zs) ak_5 ac_5 2000 4 6 = true := by decide +kernel
theorem aP_6 : a_P 6 := a_next (i := 5) rfl aP_5 ag_5
set_option maxRecDepth 1000000 in
theorem ag_6 : a_good (a_Ks.take 6) (a_Zc, a_Zs) ak_6 ac_6 2000 4 6 = true := by decide +kernel
theorem aP_7 : a_P 7 := a_next (i := 6) rfl aP_6 ag_6
set_option maxRecDepth 1000000 in
theorem ag_7 : a_good (a_Ks.take 7) (a_Zc, a_Zs) ak_7 ac_7 2000 4 6 = true := by decide +kernel
theorem aP_8 : a_P 8 := a_next (i := 7) rfl aP_7 ag_7
set_option maxRecDepth 1000000 in
theorem ag_8 : a_good (a_Ks.take 8) (a_Zc, a_Zs) ak_8 ac_8 2000 4 6 = true := by decide +kernel
theorem aP_9 : a_P 9 := a_next (i := 8) rfl aP_8 ag_8
set_option maxRecDepth 1000000 in
theorem ag_9 : a_good (a_Ks.take 9) (a_Zc, a_Zs) ak_9 ac_9 2000 4 6 = true := by decide +kernel
theorem aP_10 : a_P 10 := a_next (i := 9) rfl aP_9 ag_9
set_option maxRecDepth 1000000 in
theorem ag_10 : a_good (a_Ks.take 10) (a_Zc, a_Zs) ak_10 ac_10 2000 4 6 = true := by decide +kernel
theorem aP_11 : a_P 11 := a_next (i := 10) rfl aP_10 ag_10
set_option maxRecDepth 1000000 in
theorem ag_11 : a_good (a_Ks.take 11) (a_Zc, a_Zs) ak_11 ac_11 2000 4 6 = true := by decide +kernel
theorem aP_12 : a_P 12 := a_next (i := 11) rfl aP_11 ag_11
set_option maxRecDepth 1000000 in
theorem ag_12 : a_good (a_Ks.take 12) (a_Zc, a_Zs) ak_12 ac_12 2000 4 6 = true := by decide +kernel
theorem aP_13 : a_P 13 := a_next (i := 12) rfl aP_12 ag_12
set_option maxRecDepth 1000000 in
theorem ag_13 : a_good (a_Ks.take 13) (a_Zc, a_Zs) ak_13 ac_13 2000 4 6 = true := by decide +kernel
theorem aP_14 : a_P 14 := a_next (i := 13) rfl aP_13 ag_13
set_option maxRecDepth 1000000 in
theorem ag_14 : a_good (a_Ks.take 14) (a_Zc, a_Zs) ak_14 ac_14 2000 4 6 = true := by decide +kernel
theorem aP_15 : a_P 15 := a_next (i := 14) rfl aP_14 ag_14
set_option maxRecDepth 1000000 in
theorem ag_15 : a_good (a_Ks.take 15) (a_Zc, a_Zs) ak_15 ac_15 2000 4 6 = true := by decide +kernel
theorem aP_16 : a_P 16 := a_next (i := 15) rfl aP_15 ag_15
set_option maxRecDepth 1000000 in
theorem ag_16 : a_good (a_Ks.take 16) (a_Zc, a_Zs) ak_16 ac_16 2000 4 6 = true := by decide +kernel
theorem aP_17 : a_P 17 := a_next (i := 16) rfl aP_16 ag_16
set_option maxRecDepth 1000000 in
theorem ag_17 : a_good (a_Ks.take 17) (a_Zc, a_Zs) ak_17 ac_17 2000 4 6 = true := by decide +kernel
theorem aP_18 : a_P 18 := a_next (i := 17) rfl aP_17 ag_17
set_option maxRecDepth 1000000 in
theorem ag_18 : a_good (a_Ks.take 18) (a_Zc, a_Zs) ak_18 ac_18 2000 4 6 = true := by decide +kernel
theorem aP_19 : a_P 19 := a_next (i := 18) rfl aP_18 ag_18
set_option maxRecDepth 1000000 in
theorem ag_19 : a_good (a_Ks.take 19) (a_Zc, a_Zs) ak_19 ac_19 2000 4 6 = true := by decide +kernel
theorem aP_20 : a_P 20 := a_next (i := 19) rfl aP_19 ag_19
set_option maxRecDepth 1000000 in
theorem ag_20 : a_good (a_Ks.take 20) (a_Zc, a_Zs) ak_20 ac_20 2000 4 6 = true := by decide +kernel
theorem aP_21 : a_P 21 := a_next (i := 20) rfl aP_20 ag_20
set_option maxRecDepth 1000000 in
theorem ag_21 : a_good (a_Ks.take 21) (a_Zc, a_Zs) ak_21 ac_21 2000 4 6 = true := by decide +kernel
theorem aP_22 : a_P 22 := a_next (i := 21) rfl aP_21 ag_21
set_option maxRecDepth 1000000 in
theorem ag_22 : a_good (a_Ks.take 22) (a_Zc, a_Zs) ak_22 ac_22 2000 4 6 = true := by decide +kernel
theorem aP_23 : a_P 23 := a_next (i := 22) rfl aP_22 ag_22
set_option maxRecDepth 1000000 in
theorem ag_23 : a_good (a_Ks.take 23) (a_Zc, a_Zs) ak_23 ac_23 2000 4 6 = true := by decide +kernel
theorem aP_24 : a_P 24 := a_next (i := 23) rfl aP_23 ag_23
set_option maxRecDepth 1000000 in
theorem ag_24 : a_good (a_Ks.take 24) (a_Zc, a_Zs) ak_24 ac_24 2000 4 6 = true := by decide +kernel
theorem aP_25 : a_P 25 := a_next (i := 24) rfl aP_24 ag_24
set_option maxRecDepth 1000000 in
theorem ag_25 : a_good (a_Ks.take 25) (a_Zc, a_Zs) ak_25 ac_25 2000 4 6 = true := by decide +kernel
theorem aP_26 : a_P 26 := a_next (i := 25) rfl aP_25 ag_25
set_option maxRecDepth 1000000 in
theorem ag_26 : a_good (a_Ks.take 26) (a_Zc, a_Zs) ak_26 ac_26 2000 4 6 = true := by decide +kernel
theorem aP_27 : a_P 27 := a_next (i := 26) rfl aP_26 ag_26
set_option maxRecDepth 1000000 in
theorem ag_27 : a_good (a_Ks.take 27) (a_Zc, a_Zs) ak_27 ac_27 2000 4 6 = true := by decide +kernel
theorem aP_28 : a_P 28 := a_next (i := 27) rfl aP_27 ag_27
set_option maxRecDepth 1000000 in
theorem ag_28 : a_good (a_Ks.take 28) (a_Zc, a_Zs) ak_28 ac_28 2000 4 6 = true := by decide +kernel
theorem aP_29 : a_P 29 := a_next (i := 28) rfl aP_28 ag_28
set_option maxRecDepth 1000000 in
theorem ag_29 : a_good (a_Ks.take 29) (a_Zc, a_Zs) ak_29 ac_29 2000 4 6 = true := by decide +kernel
theorem aP_30 : a_P 30 := a_next (i := 29) rfl aP_29 ag_29
set_option maxRecDepth 1000000 in
theorem ag_30 : a_good (a_Ks.take 30) (a_Zc, a_Zs) ak_30 ac_30 2000 4 6 = true := by decide +kernel
theorem aP_31 : a_P 31 := a_next (i := 30) rfl aP_30 ag_30
set_option maxRecDepth 1000000 in
theorem ag_31 : a_good (a_Ks.take 31) (a_Zc, a_Zs) ak_31 ac_31 2000 4 6 = true := by decide +kernel
theorem aP_32 : a_P 32 := a_next (i := 31) rfl aP_31 ag_31
set_option maxRecDepth 1000000 in
theorem ag_32 : a_good (a_Ks.take 32) (a_Zc, a_Zs) ak_32 ac_32 2000 4 6 = true := by decide +kernel
theorem aP_33 : a_P 33 := a_next (i := 32) rfl aP_32 ag_32
set_option maxRecDepth 1000000 in
theorem ag_33 : a_good (a_Ks.take 33) (a_Zc, a_Zs) ak_33 ac_33 2000 4 6 = true := by decide +kernel
theorem aP_34 : a_P 34 := a_next (i := 33) rfl aP_33 ag_33
set_option maxRecDepth 1000000 in
theorem ag_34 : a_good (a_Ks.take 34) (a_Zc, a_Zs) ak_34 ac_34 2000 4 6 = true := by decide +kernel
theorem aP_35 : a_P 35 := a_next (i := 34) rfl aP_34 ag_34
set_option maxRecDepth 1000000 in
theorem ag_35 : a_good (a_Ks.take 35) (a_Zc, a_Zs) ak_35 ac_35 2000 4 6 = true := by decide +kernel
theorem aP_36 : a_P 36 := a_next (i := 35) rfl aP_35 ag_35
set_option maxRecDepth 1000000 in
theorem ag_36 : a_good (a_Ks.take 36) (a_Zc, a_Zs) ak_36 ac_36 2000 4 6 = true := by decide +kernel
theorem aP_37 : a_P 37 := a_next (i := 36) rfl aP_36 ag_36
