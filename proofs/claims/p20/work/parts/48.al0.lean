/-! the kernel decides: each contract is good -/
noncomputable def a_P (i : Nat) : Prop := ∀ (k : Nat) (K : aQ), (a_Ks.take i)[k]? = some K → a_sound (5 * i) K
theorem a_next {i : Nat} {K : aQ} {cs : List aC} {f : Nat} {Zt : aZ} (hi : a_Ks[i]? = some K) (h : a_P i) (g : a_good (a_Ks.take i) Zt K cs f 4 6 = true) : a_P (i + 1) := by
  intro k K' hk
  rw [List.getElem?_take] at hk
  split at hk
  · rename_i hlt
    rcases Nat.lt_or_ge k i with q | q
    · exact a_sound_up (h k K' (by rw [List.getElem?_take, if_pos q]; exact hk)) (by omega)
    · have : k = i := by omega
      subst this
      rw [hi] at hk
      cases hk
      exact a_sound_up (a_good_ok h g) (by omega)
  · cases hk
theorem aP_0 : a_P 0 := by
  intro k K hk
  rw [List.take_zero] at hk
  cases hk
noncomputable def az_0 : List (Nat × Nat × List Nat) := []
set_option maxRecDepth 1000000 in
theorem ag_0 : a_good (a_Ks.take 0) (az_0, a_Zs) ak_0 ac_0 2000 4 6 = true := by decide +kernel
theorem aP_1 : a_P 1 := a_next (i := 0) rfl aP_0 ag_0
noncomputable def az_1 : List (Nat × Nat × List Nat) := []
set_option maxRecDepth 1000000 in
theorem ag_1 : a_good (a_Ks.take 1) (az_1, a_Zs) ak_1 ac_1 2000 4 6 = true := by decide +kernel
theorem aP_2 : a_P 2 := a_next (i := 1) rfl aP_1 ag_1
noncomputable def az_2 : List (Nat × Nat × List Nat) := []
set_option maxRecDepth 1000000 in
theorem ag_2 : a_good (a_Ks.take 2) (az_2, a_Zs) ak_2 ac_2 2000 4 6 = true := by decide +kernel
theorem aP_3 : a_P 3 := a_next (i := 2) rfl aP_2 ag_2
noncomputable def az_3 : List (Nat × Nat × List Nat) := []
set_option maxRecDepth 1000000 in
theorem ag_3 : a_good (a_Ks.take 3) (az_3, a_Zs) ak_3 ac_3 2000 4 6 = true := by decide +kernel
theorem aP_4 : a_P 4 := a_next (i := 3) rfl aP_3 ag_3
noncomputable def az_4 : List (Nat × Nat × List Nat) := [(82, 17, [1])]
set_option maxRecDepth 1000000 in
theorem ag_4 : a_good (a_Ks.take 4) (az_4, a_Zs) ak_4 ac_4 2000 4 6 = true := by decide +kernel
theorem aP_5 : a_P 5 := a_next (i := 4) rfl aP_4 ag_4
noncomputable def az_5 : List (Nat × Nat × List Nat) := []
set_option maxRecDepth 1000000 in
theorem ag_5 : a_good (a_Ks.take 5) (az_5, a_Zs) ak_5 ac_5 2000 4 6 = true := by decide +kernel
theorem aP_6 : a_P 6 := a_next (i := 5) rfl aP_5 ag_5
noncomputable def az_6 : List (Nat × Nat × List Nat) := [(121, 20, [5])]
set_option maxRecDepth 1000000 in
theorem ag_6 : a_good (a_Ks.take 6) (az_6, a_Zs) ak_6 ac_6 2000 4 6 = true := by decide +kernel
theorem aP_7 : a_P 7 := a_next (i := 6) rfl aP_6 ag_6
noncomputable def az_7 : List (Nat × Nat × List Nat) := []
set_option maxRecDepth 1000000 in
theorem ag_7 : a_good (a_Ks.take 7) (az_7, a_Zs) ak_7 ac_7 2000 4 6 = true := by decide +kernel
theorem aP_8 : a_P 8 := a_next (i := 7) rfl aP_7 ag_7
noncomputable def az_8 : List (Nat × Nat × List Nat) := []
set_option maxRecDepth 1000000 in
theorem ag_8 : a_good (a_Ks.take 8) (az_8, a_Zs) ak_8 ac_8 2000 4 6 = true := by decide +kernel
theorem aP_9 : a_P 9 := a_next (i := 8) rfl aP_8 ag_8
noncomputable def az_9 : List (Nat × Nat × List Nat) := [(143, 35, [3]), (143, 42, [4]), (143, 49, [6])]
set_option maxRecDepth 1000000 in
theorem ag_9 : a_good (a_Ks.take 9) (az_9, a_Zs) ak_9 ac_9 2000 4 6 = true := by decide +kernel
theorem aP_10 : a_P 10 := a_next (i := 9) rfl aP_9 ag_9
noncomputable def az_10 : List (Nat × Nat × List Nat) := [(151, 12, [9])]
set_option maxRecDepth 1000000 in
theorem ag_10 : a_good (a_Ks.take 10) (az_10, a_Zs) ak_10 ac_10 2000 4 6 = true := by decide +kernel
theorem aP_11 : a_P 11 := a_next (i := 10) rfl aP_10 ag_10
noncomputable def az_11 : List (Nat × Nat × List Nat) := [(79, 4, [0])]
set_option maxRecDepth 1000000 in
theorem ag_11 : a_good (a_Ks.take 11) (az_11, a_Zs) ak_11 ac_11 2000 4 6 = true := by decide +kernel
theorem aP_12 : a_P 12 := a_next (i := 11) rfl aP_11 ag_11
noncomputable def az_12 : List (Nat × Nat × List Nat) := []
set_option maxRecDepth 1000000 in
theorem ag_12 : a_good (a_Ks.take 12) (az_12, a_Zs) ak_12 ac_12 2000 4 6 = true := by decide +kernel
theorem aP_13 : a_P 13 := a_next (i := 12) rfl aP_12 ag_12
noncomputable def az_13 : List (Nat × Nat × List Nat) := []
set_option maxRecDepth 1000000 in
theorem ag_13 : a_good (a_Ks.take 13) (az_13, a_Zs) ak_13 ac_13 2000 4 6 = true := by decide +kernel
theorem aP_14 : a_P 14 := a_next (i := 13) rfl aP_13 ag_13
noncomputable def az_14 : List (Nat × Nat × List Nat) := []
set_option maxRecDepth 1000000 in
theorem ag_14 : a_good (a_Ks.take 14) (az_14, a_Zs) ak_14 ac_14 2000 4 6 = true := by decide +kernel
theorem aP_15 : a_P 15 := a_next (i := 14) rfl aP_14 ag_14
noncomputable def az_15 : List (Nat × Nat × List Nat) := []
set_option maxRecDepth 1000000 in
theorem ag_15 : a_good (a_Ks.take 15) (az_15, a_Zs) ak_15 ac_15 2000 4 6 = true := by decide +kernel
theorem aP_16 : a_P 16 := a_next (i := 15) rfl aP_15 ag_15
noncomputable def az_16 : List (Nat × Nat × List Nat) := []
set_option maxRecDepth 1000000 in
theorem ag_16 : a_good (a_Ks.take 16) (az_16, a_Zs) ak_16 ac_16 2000 4 6 = true := by decide +kernel
theorem aP_17 : a_P 17 := a_next (i := 16) rfl aP_16 ag_16
noncomputable def az_17 : List (Nat × Nat × List Nat) := []
set_option maxRecDepth 1000000 in
theorem ag_17 : a_good (a_Ks.take 17) (az_17, a_Zs) ak_17 ac_17 2000 4 6 = true := by decide +kernel
theorem aP_18 : a_P 18 := a_next (i := 17) rfl aP_17 ag_17
noncomputable def az_18 : List (Nat × Nat × List Nat) := []
set_option maxRecDepth 1000000 in
theorem ag_18 : a_good (a_Ks.take 18) (az_18, a_Zs) ak_18 ac_18 2000 4 6 = true := by decide +kernel
theorem aP_19 : a_P 19 := a_next (i := 18) rfl aP_18 ag_18
noncomputable def az_19 : List (Nat × Nat × List Nat) := []
set_option maxRecDepth 1000000 in
theorem ag_19 : a_good (a_Ks.take 19) (az_19, a_Zs) ak_19 ac_19 2000 4 6 = true := by decide +kernel
theorem aP_20 : a_P 20 := a_next (i := 19) rfl aP_19 ag_19
noncomputable def az_20 : List (Nat × Nat × List Nat) := [(141, 208, [19])]
set_option maxRecDepth 1000000 in
theorem ag_20 : a_good (a_Ks.take 20) (az_20, a_Zs) ak_20 ac_20 2000 4 6 = true := by decide +kernel
theorem aP_21 : a_P 21 := a_next (i := 20) rfl aP_20 ag_20
noncomputable def az_21 : List (Nat × Nat × List Nat) := []
set_option maxRecDepth 1000000 in
theorem ag_21 : a_good (a_Ks.take 21) (az_21, a_Zs) ak_21 ac_21 2000 4 6 = true := by decide +kernel
theorem aP_22 : a_P 22 := a_next (i := 21) rfl aP_21 ag_21
noncomputable def az_22 : List (Nat × Nat × List Nat) := []
set_option maxRecDepth 1000000 in
theorem ag_22 : a_good (a_Ks.take 22) (az_22, a_Zs) ak_22 ac_22 2000 4 6 = true := by decide +kernel
theorem aP_23 : a_P 23 := a_next (i := 22) rfl aP_22 ag_22
noncomputable def az_23 : List (Nat × Nat × List Nat) := []
set_option maxRecDepth 1000000 in
theorem ag_23 : a_good (a_Ks.take 23) (az_23, a_Zs) ak_23 ac_23 2000 4 6 = true := by decide +kernel
theorem aP_24 : a_P 24 := a_next (i := 23) rfl aP_23 ag_23
noncomputable def az_24 : List (Nat × Nat × List Nat) := []
set_option maxRecDepth 1000000 in
theorem ag_24 : a_good (a_Ks.take 24) (az_24, a_Zs) ak_24 ac_24 2000 4 6 = true := by decide +kernel
theorem aP_25 : a_P 25 := a_next (i := 24) rfl aP_24 ag_24
noncomputable def az_25 : List (Nat × Nat × List Nat) := []
set_option maxRecDepth 1000000 in
theorem ag_25 : a_good (a_Ks.take 25) (az_25, a_Zs) ak_25 ac_25 2000 4 6 = true := by decide +kernel
theorem aP_26 : a_P 26 := a_next (i := 25) rfl aP_25 ag_25
noncomputable def az_26 : List (Nat × Nat × List Nat) := [(78, 96, [15]), (78, 108, [15])]
set_option maxRecDepth 1000000 in
theorem ag_26 : a_good (a_Ks.take 26) (az_26, a_Zs) ak_26 ac_26 2000 4 6 = true := by decide +kernel
theorem aP_27 : a_P 27 := a_next (i := 26) rfl aP_26 ag_26
noncomputable def az_27 : List (Nat × Nat × List Nat) := []
set_option maxRecDepth 1000000 in
theorem ag_27 : a_good (a_Ks.take 27) (az_27, a_Zs) ak_27 ac_27 2000 4 6 = true := by decide +kernel
theorem aP_28 : a_P 28 := a_next (i := 27) rfl aP_27 ag_27
noncomputable def az_28 : List (Nat × Nat × List Nat) := []
set_option maxRecDepth 1000000 in
theorem ag_28 : a_good (a_Ks.take 28) (az_28, a_Zs) ak_28 ac_28 2000 4 6 = true := by decide +kernel
theorem aP_29 : a_P 29 := a_next (i := 28) rfl aP_28 ag_28
noncomputable def az_29 : List (Nat × Nat × List Nat) := []
set_option maxRecDepth 1000000 in
theorem ag_29 : a_good (a_Ks.take 29) (az_29, a_Zs) ak_29 ac_29 2000 4 6 = true := by decide +kernel
theorem aP_30 : a_P 30 := a_next (i := 29) rfl aP_29 ag_29
noncomputable def az_30 : List (Nat × Nat × List Nat) := []
set_option maxRecDepth 1000000 in
theorem ag_30 : a_good (a_Ks.take 30) (az_30, a_Zs) ak_30 ac_30 2000 4 6 = true := by decide +kernel
theorem aP_31 : a_P 31 := a_next (i := 30) rfl aP_30 ag_30
noncomputable def az_31 : List (Nat × Nat × List Nat) := [(75, 3, [30]), (75, 9, [29]), (75, 87, [28])]
set_option maxRecDepth 1000000 in
theorem ag_31 : a_good (a_Ks.take 31) (az_31, a_Zs) ak_31 ac_31 2000 4 6 = true := by decide +kernel
theorem aP_32 : a_P 32 := a_next (i := 31) rfl aP_31 ag_31
noncomputable def az_32 : List (Nat × Nat × List Nat) := []
set_option maxRecDepth 1000000 in
theorem ag_32 : a_good (a_Ks.take 32) (az_32, a_Zs) ak_32 ac_32 2000 4 6 = true := by decide +kernel
theorem aP_33 : a_P 33 := a_next (i := 32) rfl aP_32 ag_32
noncomputable def az_33 : List (Nat × Nat × List Nat) := [(77, 57, [15]), (77, 68, [15]), (77, 90, [16]), (77, 103, [17]), (77, 124, [32])]
set_option maxRecDepth 1000000 in
theorem ag_33 : a_good (a_Ks.take 33) (az_33, a_Zs) ak_33 ac_33 2000 4 6 = true := by decide +kernel
theorem aP_34 : a_P 34 := a_next (i := 33) rfl aP_33 ag_33
noncomputable def az_34 : List (Nat × Nat × List Nat) := [(119, 28, [28]), (119, 65, [30]), (119, 78, [29]), (119, 143, [31]), (119, 146, [33])]
set_option maxRecDepth 1000000 in
theorem ag_34 : a_good (a_Ks.take 34) (az_34, a_Zs) ak_34 ac_34 2000 4 6 = true := by decide +kernel
theorem aP_35 : a_P 35 := a_next (i := 34) rfl aP_34 ag_34
noncomputable def az_35 : List (Nat × Nat × List Nat) := [(142, 74, [25]), (142, 79, [26]), (142, 84, [27]), (142, 104, [24]), (142, 113, [34]), (142, 136, [34])]
set_option maxRecDepth 1000000 in
theorem ag_35 : a_good (a_Ks.take 35) (az_35, a_Zs) ak_35 ac_35 2000 4 6 = true := by decide +kernel
theorem aP_36 : a_P 36 := a_next (i := 35) rfl aP_35 ag_35
noncomputable def az_36 : List (Nat × Nat × List Nat) := [(150, 64, [2]), (150, 104, [18]), (150, 109, [1]), (150, 112, [20]), (150, 120, [3]), (150, 137, [33]), (150, 141, [4]), (150, 158, [33]), (150, 190, [21]), (150, 214, [22]), (150, 217, [23]), (150, 224, [35])]
set_option maxRecDepth 1000000 in
theorem ag_36 : a_good (a_Ks.take 36) (az_36, a_Zs) ak_36 ac_36 2000 4 6 = true := by decide +kernel
theorem aP_37 : a_P 37 := a_next (i := 36) rfl aP_36 ag_36
