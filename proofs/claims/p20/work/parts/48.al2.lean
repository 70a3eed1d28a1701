noncomputable def az_79 : List (Nat × Nat × List Nat) := []
set_option maxRecDepth 1000000 in
theorem ag_79 : a_good (a_Ks.take 79) (az_79, a_Zs) ak_79 ac_79 2000 4 6 = true := by decide +kernel
theorem aP_80 : a_P 80 := a_next (i := 79) rfl aP_79 ag_79
noncomputable def az_80 : List (Nat × Nat × List Nat) := []
set_option maxRecDepth 1000000 in
theorem ag_80 : a_good (a_Ks.take 80) (az_80, a_Zs) ak_80 ac_80 2000 4 6 = true := by decide +kernel
theorem aP_81 : a_P 81 := a_next (i := 80) rfl aP_80 ag_80
noncomputable def az_81 : List (Nat × Nat × List Nat) := []
set_option maxRecDepth 1000000 in
theorem ag_81 : a_good (a_Ks.take 81) (az_81, a_Zs) ak_81 ac_81 2000 4 6 = true := by decide +kernel
theorem aP_82 : a_P 82 := a_next (i := 81) rfl aP_81 ag_81
noncomputable def az_82 : List (Nat × Nat × List Nat) := []
set_option maxRecDepth 1000000 in
theorem ag_82 : a_good (a_Ks.take 82) (az_82, a_Zs) ak_82 ac_82 2000 4 6 = true := by decide +kernel
theorem aP_83 : a_P 83 := a_next (i := 82) rfl aP_82 ag_82
noncomputable def az_83 : List (Nat × Nat × List Nat) := []
set_option maxRecDepth 1000000 in
theorem ag_83 : a_good (a_Ks.take 83) (az_83, a_Zs) ak_83 ac_83 2000 4 6 = true := by decide +kernel
theorem aP_84 : a_P 84 := a_next (i := 83) rfl aP_83 ag_83
noncomputable def az_84 : List (Nat × Nat × List Nat) := []
set_option maxRecDepth 1000000 in
theorem ag_84 : a_good (a_Ks.take 84) (az_84, a_Zs) ak_84 ac_84 2000 4 6 = true := by decide +kernel
theorem aP_85 : a_P 85 := a_next (i := 84) rfl aP_84 ag_84
noncomputable def az_85 : List (Nat × Nat × List Nat) := []
set_option maxRecDepth 1000000 in
theorem ag_85 : a_good (a_Ks.take 85) (az_85, a_Zs) ak_85 ac_85 2000 4 6 = true := by decide +kernel
theorem aP_86 : a_P 86 := a_next (i := 85) rfl aP_85 ag_85
noncomputable def az_86 : List (Nat × Nat × List Nat) := []
set_option maxRecDepth 1000000 in
theorem ag_86 : a_good (a_Ks.take 86) (az_86, a_Zs) ak_86 ac_86 2000 4 6 = true := by decide +kernel
theorem aP_87 : a_P 87 := a_next (i := 86) rfl aP_86 ag_86
noncomputable def az_87 : List (Nat × Nat × List Nat) := [(140, 31, [86])]
set_option maxRecDepth 1000000 in
theorem ag_87 : a_good (a_Ks.take 87) (az_87, a_Zs) ak_87 ac_87 2000 4 6 = true := by decide +kernel
theorem aP_88 : a_P 88 := a_next (i := 87) rfl aP_87 ag_87
noncomputable def az_88 : List (Nat × Nat × List Nat) := []
set_option maxRecDepth 1000000 in
theorem ag_88 : a_good (a_Ks.take 88) (az_88, a_Zs) ak_88 ac_88 2000 4 6 = true := by decide +kernel
theorem aP_89 : a_P 89 := a_next (i := 88) rfl aP_88 ag_88
noncomputable def az_89 : List (Nat × Nat × List Nat) := [(105, 228, [88])]
set_option maxRecDepth 1000000 in
theorem ag_89 : a_good (a_Ks.take 89) (az_89, a_Zs) ak_89 ac_89 2000 4 6 = true := by decide +kernel
theorem aP_90 : a_P 90 := a_next (i := 89) rfl aP_89 ag_89
noncomputable def az_90 : List (Nat × Nat × List Nat) := [(148, 7, [80]), (148, 43, [83]), (148, 296, [84]), (148, 314, [81]), (148, 351, [81]), (148, 379, [81]), (148, 419, [82]), (148, 431, [82]), (148, 443, [82]), (148, 466, [81]), (148, 478, [81]), (148, 490, [81]), (148, 529, [82]), (148, 540, [82]), (148, 552, [82]), (148, 636, [85]), (148, 669, [81]), (148, 691, [81]), (148, 858, [87]), (148, 937, [83]), (148, 1136, [89])]
set_option maxRecDepth 1000000 in
theorem ag_90 : a_good (a_Ks.take 90) (az_90, a_Zs) ak_90 ac_90 2000 4 6 = true := by decide +kernel
theorem aP_91 : a_P 91 := a_next (i := 90) rfl aP_90 ag_90
noncomputable def az_91 : List (Nat × Nat × List Nat) := [(149, 25, [87]), (149, 36, [89])]
set_option maxRecDepth 1000000 in
theorem ag_91 : a_good (a_Ks.take 91) (az_91, a_Zs) ak_91 ac_91 2000 4 6 = true := by decide +kernel
theorem aP_92 : a_P 92 := a_next (i := 91) rfl aP_91 ag_91
noncomputable def az_92 : List (Nat × Nat × List Nat) := [(139, 32, [89])]
set_option maxRecDepth 1000000 in
theorem ag_92 : a_good (a_Ks.take 92) (az_92, a_Zs) ak_92 ac_92 2000 4 6 = true := by decide +kernel
theorem aP_93 : a_P 93 := a_next (i := 92) rfl aP_92 ag_92
noncomputable def az_93 : List (Nat × Nat × List Nat) := [(154, 234, [90])]
set_option maxRecDepth 1000000 in
theorem ag_93 : a_good (a_Ks.take 93) (az_93, a_Zs) ak_93 ac_93 2000 4 6 = true := by decide +kernel
theorem aP_94 : a_P 94 := a_next (i := 93) rfl aP_93 ag_93
noncomputable def az_94 : List (Nat × Nat × List Nat) := [(154, 234, [90])]
set_option maxRecDepth 1000000 in
theorem ag_94 : a_good (a_Ks.take 94) (az_94, a_Zs) ak_94 ac_94 2000 4 6 = true := by decide +kernel
theorem aP_95 : a_P 95 := a_next (i := 94) rfl aP_94 ag_94
noncomputable def az_95 : List (Nat × Nat × List Nat) := [(154, 234, [90])]
set_option maxRecDepth 1000000 in
theorem ag_95 : a_good (a_Ks.take 95) (az_95, a_Zs) ak_95 ac_95 2000 4 6 = true := by decide +kernel
theorem aP_96 : a_P 96 := a_next (i := 95) rfl aP_95 ag_95
noncomputable def az_96 : List (Nat × Nat × List Nat) := [(154, 234, [90])]
set_option maxRecDepth 1000000 in
theorem ag_96 : a_good (a_Ks.take 96) (az_96, a_Zs) ak_96 ac_96 2000 4 6 = true := by decide +kernel
theorem aP_97 : a_P 97 := a_next (i := 96) rfl aP_96 ag_96
noncomputable def az_97 : List (Nat × Nat × List Nat) := [(154, 234, [90])]
set_option maxRecDepth 1000000 in
theorem ag_97 : a_good (a_Ks.take 97) (az_97, a_Zs) ak_97 ac_97 2000 4 6 = true := by decide +kernel
theorem aP_98 : a_P 98 := a_next (i := 97) rfl aP_97 ag_97
noncomputable def az_98 : List (Nat × Nat × List Nat) := [(162, 69, [93, 94, 95, 96, 97]), (162, 193, [98, 99, 100, 101, 102, 103, 104, 105, 106, 107, 108, 109, 110]), (162, 300, [98, 99, 100, 101, 102, 103, 104, 105, 106, 107, 108, 109, 110])]
set_option maxRecDepth 1000000 in
theorem ag_98 : a_good (a_Ks.take 98) (az_98, a_Zs) ak_98 ac_98 2000 4 6 = true := by decide +kernel
theorem aP_99 : a_P 99 := a_next (i := 98) rfl aP_98 ag_98
noncomputable def az_99 : List (Nat × Nat × List Nat) := [(162, 69, [93, 94, 95, 96, 97]), (162, 193, [98, 99, 100, 101, 102, 103, 104, 105, 106, 107, 108, 109, 110]), (162, 300, [98, 99, 100, 101, 102, 103, 104, 105, 106, 107, 108, 109, 110])]
set_option maxRecDepth 1000000 in
theorem ag_99 : a_good (a_Ks.take 99) (az_99, a_Zs) ak_99 ac_99 2000 4 6 = true := by decide +kernel
theorem aP_100 : a_P 100 := a_next (i := 99) rfl aP_99 ag_99
noncomputable def az_100 : List (Nat × Nat × List Nat) := [(162, 69, [93, 94, 95, 96, 97]), (162, 193, [98, 99, 100, 101, 102, 103, 104, 105, 106, 107, 108, 109, 110]), (162, 300, [98, 99, 100, 101, 102, 103, 104, 105, 106, 107, 108, 109, 110])]
set_option maxRecDepth 1000000 in
theorem ag_100 : a_good (a_Ks.take 100) (az_100, a_Zs) ak_100 ac_100 2000 4 6 = true := by decide +kernel
theorem aP_101 : a_P 101 := a_next (i := 100) rfl aP_100 ag_100
noncomputable def az_101 : List (Nat × Nat × List Nat) := [(162, 69, [93, 94, 95, 96, 97]), (162, 193, [98, 99, 100, 101, 102, 103, 104, 105, 106, 107, 108, 109, 110]), (162, 300, [98, 99, 100, 101, 102, 103, 104, 105, 106, 107, 108, 109, 110])]
set_option maxRecDepth 1000000 in
theorem ag_101 : a_good (a_Ks.take 101) (az_101, a_Zs) ak_101 ac_101 2000 4 6 = true := by decide +kernel
theorem aP_102 : a_P 102 := a_next (i := 101) rfl aP_101 ag_101
noncomputable def az_102 : List (Nat × Nat × List Nat) := [(162, 69, [93, 94, 95, 96, 97]), (162, 193, [98, 99, 100, 101, 102, 103, 104, 105, 106, 107, 108, 109, 110]), (162, 300, [98, 99, 100, 101, 102, 103, 104, 105, 106, 107, 108, 109, 110])]
set_option maxRecDepth 1000000 in
theorem ag_102 : a_good (a_Ks.take 102) (az_102, a_Zs) ak_102 ac_102 2000 4 6 = true := by decide +kernel
theorem aP_103 : a_P 103 := a_next (i := 102) rfl aP_102 ag_102
noncomputable def az_103 : List (Nat × Nat × List Nat) := [(162, 69, [93, 94, 95, 96, 97]), (162, 193, [98, 99, 100, 101, 102, 103, 104, 105, 106, 107, 108, 109, 110]), (162, 300, [98, 99, 100, 101, 102, 103, 104, 105, 106, 107, 108, 109, 110])]
set_option maxRecDepth 1000000 in
theorem ag_103 : a_good (a_Ks.take 103) (az_103, a_Zs) ak_103 ac_103 2000 4 6 = true := by decide +kernel
theorem aP_104 : a_P 104 := a_next (i := 103) rfl aP_103 ag_103
noncomputable def az_104 : List (Nat × Nat × List Nat) := [(162, 69, [93, 94, 95, 96, 97]), (162, 193, [98, 99, 100, 101, 102, 103, 104, 105, 106, 107, 108, 109, 110]), (162, 300, [98, 99, 100, 101, 102, 103, 104, 105, 106, 107, 108, 109, 110])]
set_option maxRecDepth 1000000 in
theorem ag_104 : a_good (a_Ks.take 104) (az_104, a_Zs) ak_104 ac_104 2000 4 6 = true := by decide +kernel
theorem aP_105 : a_P 105 := a_next (i := 104) rfl aP_104 ag_104
noncomputable def az_105 : List (Nat × Nat × List Nat) := [(162, 69, [93, 94, 95, 96, 97]), (162, 193, [98, 99, 100, 101, 102, 103, 104, 105, 106, 107, 108, 109, 110]), (162, 300, [98, 99, 100, 101, 102, 103, 104, 105, 106, 107, 108, 109, 110])]
set_option maxRecDepth 1000000 in
theorem ag_105 : a_good (a_Ks.take 105) (az_105, a_Zs) ak_105 ac_105 2000 4 6 = true := by decide +kernel
theorem aP_106 : a_P 106 := a_next (i := 105) rfl aP_105 ag_105
noncomputable def az_106 : List (Nat × Nat × List Nat) := [(162, 69, [93, 94, 95, 96, 97]), (162, 193, [98, 99, 100, 101, 102, 103, 104, 105, 106, 107, 108, 109, 110]), (162, 300, [98, 99, 100, 101, 102, 103, 104, 105, 106, 107, 108, 109, 110])]
set_option maxRecDepth 1000000 in
theorem ag_106 : a_good (a_Ks.take 106) (az_106, a_Zs) ak_106 ac_106 2000 4 6 = true := by decide +kernel
theorem aP_107 : a_P 107 := a_next (i := 106) rfl aP_106 ag_106
noncomputable def az_107 : List (Nat × Nat × List Nat) := [(162, 69, [93, 94, 95, 96, 97]), (162, 193, [98, 99, 100, 101, 102, 103, 104, 105, 106, 107, 108, 109, 110]), (162, 300, [98, 99, 100, 101, 102, 103, 104, 105, 106, 107, 108, 109, 110])]
set_option maxRecDepth 1000000 in
theorem ag_107 : a_good (a_Ks.take 107) (az_107, a_Zs) ak_107 ac_107 2000 4 6 = true := by decide +kernel
theorem aP_108 : a_P 108 := a_next (i := 107) rfl aP_107 ag_107
noncomputable def az_108 : List (Nat × Nat × List Nat) := [(162, 69, [93, 94, 95, 96, 97]), (162, 193, [98, 99, 100, 101, 102, 103, 104, 105, 106, 107, 108, 109, 110]), (162, 300, [98, 99, 100, 101, 102, 103, 104, 105, 106, 107, 108, 109, 110])]
set_option maxRecDepth 1000000 in
theorem ag_108 : a_good (a_Ks.take 108) (az_108, a_Zs) ak_108 ac_108 2000 4 6 = true := by decide +kernel
theorem aP_109 : a_P 109 := a_next (i := 108) rfl aP_108 ag_108
noncomputable def az_109 : List (Nat × Nat × List Nat) := [(162, 69, [93, 94, 95, 96, 97]), (162, 193, [98, 99, 100, 101, 102, 103, 104, 105, 106, 107, 108, 109, 110]), (162, 300, [98, 99, 100, 101, 102, 103, 104, 105, 106, 107, 108, 109, 110])]
set_option maxRecDepth 1000000 in
theorem ag_109 : a_good (a_Ks.take 109) (az_109, a_Zs) ak_109 ac_109 2000 4 6 = true := by decide +kernel
theorem aP_110 : a_P 110 := a_next (i := 109) rfl aP_109 ag_109
noncomputable def az_110 : List (Nat × Nat × List Nat) := [(162, 69, [93, 94, 95, 96, 97]), (162, 193, [98, 99, 100, 101, 102, 103, 104, 105, 106, 107, 108, 109, 110]), (162, 300, [98, 99, 100, 101, 102, 103, 104, 105, 106, 107, 108, 109, 110])]
set_option maxRecDepth 1000000 in
theorem ag_110 : a_good (a_Ks.take 110) (az_110, a_Zs) ak_110 ac_110 2000 4 6 = true := by decide +kernel
theorem aP_111 : a_P 111 := a_next (i := 110) rfl aP_110 ag_110
noncomputable def az_111 : List (Nat × Nat × List Nat) := [(162, 69, [93, 94, 95, 96, 97]), (162, 193, [98, 99, 100, 101, 102, 103, 104, 105, 106, 107, 108, 109, 110]), (162, 300, [98, 99, 100, 101, 102, 103, 104, 105, 106, 107, 108, 109, 110])]
set_option maxRecDepth 1000000 in
theorem ag_111 : a_good (a_Ks.take 111) (az_111, a_Zs) ak_111 ac_111 2000 4 6 = true := by decide +kernel
theorem aP_112 : a_P 112 := a_next (i := 111) rfl aP_111 ag_111
noncomputable def az_112 : List (Nat × Nat × List Nat) := [(162, 69, [93, 94, 95, 96, 97]), (162, 193, [98, 99, 100, 101, 102, 103, 104, 105, 106, 107, 108, 109, 110]), (162, 300, [98, 99, 100, 101, 102, 103, 104, 105, 106, 107, 108, 109, 110])]
set_option maxRecDepth 1000000 in
theorem ag_112 : a_good (a_Ks.take 112) (az_112, a_Zs) ak_112 ac_112 2000 4 6 = true := by decide +kernel
theorem aP_113 : a_P 113 := a_next (i := 112) rfl aP_112 ag_112
