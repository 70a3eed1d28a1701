noncomputable def az_113 : List (Nat × Nat × List Nat) := [(170, 31, [79]), (170, 83, [98, 99, 100, 101, 102, 103, 104, 105, 106, 107, 108, 109, 110, 111, 112]), (170, 225, [91]), (170, 249, [92])]
set_option maxRecDepth 1000000 in
theorem ag_113 : a_good (a_Ks.take 113) (az_113, a_Zs) ak_113 ac_113 2000 4 6 = true := by decide +kernel
theorem aP_114 : a_P 114 := a_next (i := 113) rfl aP_113 ag_113
noncomputable def az_114 : List (Nat × Nat × List Nat) := [(172, 65, [113])]
set_option maxRecDepth 1000000 in
theorem ag_114 : a_good (a_Ks.take 114) (az_114, a_Zs) ak_114 ac_114 2000 4 6 = true := by decide +kernel
theorem aP_115 : a_P 115 := a_next (i := 114) rfl aP_114 ag_114
noncomputable def az_115 : List (Nat × Nat × List Nat) := [(173, 3, [79]), (173, 60, [86]), (173, 82, [113])]
set_option maxRecDepth 1000000 in
theorem ag_115 : a_good (a_Ks.take 115) (az_115, a_Zs) ak_115 ac_115 2000 4 6 = true := by decide +kernel
theorem aP_116 : a_P 116 := a_next (i := 115) rfl aP_115 ag_115
noncomputable def az_116 : List (Nat × Nat × List Nat) := []
set_option maxRecDepth 1000000 in
theorem ag_116 : a_good (a_Ks.take 116) (az_116, a_Zs) ak_116 ac_116 2000 4 6 = true := by decide +kernel
theorem aP_117 : a_P 117 := a_next (i := 116) rfl aP_116 ag_116
noncomputable def az_117 : List (Nat × Nat × List Nat) := []
set_option maxRecDepth 1000000 in
theorem ag_117 : a_good (a_Ks.take 117) (az_117, a_Zs) ak_117 ac_117 2000 4 6 = true := by decide +kernel
theorem aP_118 : a_P 118 := a_next (i := 117) rfl aP_117 ag_117
noncomputable def az_118 : List (Nat × Nat × List Nat) := [(176, 2, [117]), (176, 6, [115])]
set_option maxRecDepth 1000000 in
theorem ag_118 : a_good (a_Ks.take 118) (az_118, a_Zs) ak_118 ac_118 2000 4 6 = true := by decide +kernel
theorem aP_119 : a_P 119 := a_next (i := 118) rfl aP_118 ag_118
noncomputable def az_119 : List (Nat × Nat × List Nat) := []
set_option maxRecDepth 1000000 in
theorem ag_119 : a_good (a_Ks.take 119) (az_119, a_Zs) ak_119 ac_119 2000 4 6 = true := by decide +kernel
theorem aP_120 : a_P 120 := a_next (i := 119) rfl aP_119 ag_119
noncomputable def az_120 : List (Nat × Nat × List Nat) := [(133, 51, [119]), (133, 54, [86]), (133, 76, [119]), (133, 79, [86])]
set_option maxRecDepth 1000000 in
theorem ag_120 : a_good (a_Ks.take 120) (az_120, a_Zs) ak_120 ac_120 2000 4 6 = true := by decide +kernel
theorem aP_121 : a_P 121 := a_next (i := 120) rfl aP_120 ag_120
noncomputable def az_121 : List (Nat × Nat × List Nat) := [(175, 2, [117]), (175, 276, [120]), (175, 279, [114])]
set_option maxRecDepth 1000000 in
theorem ag_121 : a_good (a_Ks.take 121) (az_121, a_Zs) ak_121 ac_121 2000 4 6 = true := by decide +kernel
theorem aP_122 : a_P 122 := a_next (i := 121) rfl aP_121 ag_121
noncomputable def az_122 : List (Nat × Nat × List Nat) := [(182, 54, [118])]
set_option maxRecDepth 1000000 in
theorem ag_122 : a_good (a_Ks.take 122) (az_122, a_Zs) ak_122 ac_122 2000 4 6 = true := by decide +kernel
theorem aP_123 : a_P 123 := a_next (i := 122) rfl aP_122 ag_122
noncomputable def az_123 : List (Nat × Nat × List Nat) := []
set_option maxRecDepth 1000000 in
theorem ag_123 : a_good (a_Ks.take 123) (az_123, a_Zs) ak_123 ac_123 2000 4 6 = true := by decide +kernel
theorem aP_124 : a_P 124 := a_next (i := 123) rfl aP_123 ag_123
noncomputable def az_124 : List (Nat × Nat × List Nat) := []
set_option maxRecDepth 1000000 in
theorem ag_124 : a_good (a_Ks.take 124) (az_124, a_Zs) ak_124 ac_124 2000 4 6 = true := by decide +kernel
theorem aP_125 : a_P 125 := a_next (i := 124) rfl aP_124 ag_124
noncomputable def az_125 : List (Nat × Nat × List Nat) := []
set_option maxRecDepth 1000000 in
theorem ag_125 : a_good (a_Ks.take 125) (az_125, a_Zs) ak_125 ac_125 2000 4 6 = true := by decide +kernel
theorem aP_126 : a_P 126 := a_next (i := 125) rfl aP_125 ag_125
noncomputable def az_126 : List (Nat × Nat × List Nat) := []
set_option maxRecDepth 1000000 in
theorem ag_126 : a_good (a_Ks.take 126) (az_126, a_Zs) ak_126 ac_126 2000 4 6 = true := by decide +kernel
theorem aP_127 : a_P 127 := a_next (i := 126) rfl aP_126 ag_126
noncomputable def az_127 : List (Nat × Nat × List Nat) := []
set_option maxRecDepth 1000000 in
theorem ag_127 : a_good (a_Ks.take 127) (az_127, a_Zs) ak_127 ac_127 2000 4 6 = true := by decide +kernel
theorem aP_128 : a_P 128 := a_next (i := 127) rfl aP_127 ag_127
noncomputable def az_128 : List (Nat × Nat × List Nat) := []
set_option maxRecDepth 1000000 in
theorem ag_128 : a_good (a_Ks.take 128) (az_128, a_Zs) ak_128 ac_128 2000 4 6 = true := by decide +kernel
theorem aP_129 : a_P 129 := a_next (i := 128) rfl aP_128 ag_128
noncomputable def az_129 : List (Nat × Nat × List Nat) := [(183, 39, [118])]
set_option maxRecDepth 1000000 in
theorem ag_129 : a_good (a_Ks.take 129) (az_129, a_Zs) ak_129 ac_129 2000 4 6 = true := by decide +kernel
theorem aP_130 : a_P 130 := a_next (i := 129) rfl aP_129 ag_129
noncomputable def az_130 : List (Nat × Nat × List Nat) := [(115, 111, [116])]
set_option maxRecDepth 1000000 in
theorem ag_130 : a_good (a_Ks.take 130) (az_130, a_Zs) ak_130 ac_130 2000 4 6 = true := by decide +kernel
theorem aP_131 : a_P 131 := a_next (i := 130) rfl aP_130 ag_130
noncomputable def az_131 : List (Nat × Nat × List Nat) := []
set_option maxRecDepth 1000000 in
theorem ag_131 : a_good (a_Ks.take 131) (az_131, a_Zs) ak_131 ac_131 2000 4 6 = true := by decide +kernel
theorem aP_132 : a_P 132 := a_next (i := 131) rfl aP_131 ag_131
noncomputable def az_132 : List (Nat × Nat × List Nat) := []
set_option maxRecDepth 1000000 in
theorem ag_132 : a_good (a_Ks.take 132) (az_132, a_Zs) ak_132 ac_132 2000 4 6 = true := by decide +kernel
theorem aP_133 : a_P 133 := a_next (i := 132) rfl aP_132 ag_132
noncomputable def az_133 : List (Nat × Nat × List Nat) := []
set_option maxRecDepth 1000000 in
theorem ag_133 : a_good (a_Ks.take 133) (az_133, a_Zs) ak_133 ac_133 2000 4 6 = true := by decide +kernel
theorem aP_134 : a_P 134 := a_next (i := 133) rfl aP_133 ag_133
noncomputable def az_134 : List (Nat × Nat × List Nat) := []
set_option maxRecDepth 1000000 in
theorem ag_134 : a_good (a_Ks.take 134) (az_134, a_Zs) ak_134 ac_134 2000 4 6 = true := by decide +kernel
theorem aP_135 : a_P 135 := a_next (i := 134) rfl aP_134 ag_134
noncomputable def az_135 : List (Nat × Nat × List Nat) := [(177, 6, [124]), (177, 64, [114]), (177, 71, [125])]
set_option maxRecDepth 1000000 in
theorem ag_135 : a_good (a_Ks.take 135) (az_135, a_Zs) ak_135 ac_135 2000 4 6 = true := by decide +kernel
theorem aP_136 : a_P 136 := a_next (i := 135) rfl aP_135 ag_135
noncomputable def az_136 : List (Nat × Nat × List Nat) := []
set_option maxRecDepth 1000000 in
theorem ag_136 : a_good (a_Ks.take 136) (az_136, a_Zs) ak_136 ac_136 2000 4 6 = true := by decide +kernel
theorem aP_137 : a_P 137 := a_next (i := 136) rfl aP_136 ag_136
noncomputable def az_137 : List (Nat × Nat × List Nat) := []
set_option maxRecDepth 1000000 in
theorem ag_137 : a_good (a_Ks.take 137) (az_137, a_Zs) ak_137 ac_137 2000 4 6 = true := by decide +kernel
theorem aP_138 : a_P 138 := a_next (i := 137) rfl aP_137 ag_137
noncomputable def az_138 : List (Nat × Nat × List Nat) := [(174, 6, [124]), (174, 10, [115])]
set_option maxRecDepth 1000000 in
theorem ag_138 : a_good (a_Ks.take 138) (az_138, a_Zs) ak_138 ac_138 2000 4 6 = true := by decide +kernel
theorem aP_139 : a_P 139 := a_next (i := 138) rfl aP_138 ag_138

