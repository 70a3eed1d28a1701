noncomputable def az_37 : List (Nat × Nat × List Nat) := []
set_option maxRecDepth 1000000 in
theorem ag_37 : a_good (a_Ks.take 37) (az_37, a_Zs) ak_37 ac_37 2000 4 6 = true := by decide +kernel
theorem aP_38 : a_P 38 := a_next (i := 37) rfl aP_37 ag_37
noncomputable def az_38 : List (Nat × Nat × List Nat) := []
set_option maxRecDepth 1000000 in
theorem ag_38 : a_good (a_Ks.take 38) (az_38, a_Zs) ak_38 ac_38 2000 4 6 = true := by decide +kernel
theorem aP_39 : a_P 39 := a_next (i := 38) rfl aP_38 ag_38
noncomputable def az_39 : List (Nat × Nat × List Nat) := []
set_option maxRecDepth 1000000 in
theorem ag_39 : a_good (a_Ks.take 39) (az_39, a_Zs) ak_39 ac_39 2000 4 6 = true := by decide +kernel
theorem aP_40 : a_P 40 := a_next (i := 39) rfl aP_39 ag_39
noncomputable def az_40 : List (Nat × Nat × List Nat) := []
set_option maxRecDepth 1000000 in
theorem ag_40 : a_good (a_Ks.take 40) (az_40, a_Zs) ak_40 ac_40 2000 4 6 = true := by decide +kernel
theorem aP_41 : a_P 41 := a_next (i := 40) rfl aP_40 ag_40
noncomputable def az_41 : List (Nat × Nat × List Nat) := []
set_option maxRecDepth 1000000 in
theorem ag_41 : a_good (a_Ks.take 41) (az_41, a_Zs) ak_41 ac_41 2000 4 6 = true := by decide +kernel
theorem aP_42 : a_P 42 := a_next (i := 41) rfl aP_41 ag_41
noncomputable def az_42 : List (Nat × Nat × List Nat) := []
set_option maxRecDepth 1000000 in
theorem ag_42 : a_good (a_Ks.take 42) (az_42, a_Zs) ak_42 ac_42 2000 4 6 = true := by decide +kernel
theorem aP_43 : a_P 43 := a_next (i := 42) rfl aP_42 ag_42
noncomputable def az_43 : List (Nat × Nat × List Nat) := []
set_option maxRecDepth 1000000 in
theorem ag_43 : a_good (a_Ks.take 43) (az_43, a_Zs) ak_43 ac_43 2000 4 6 = true := by decide +kernel
theorem aP_44 : a_P 44 := a_next (i := 43) rfl aP_43 ag_43
noncomputable def az_44 : List (Nat × Nat × List Nat) := [(157, 11, [2]), (157, 42, [10])]
set_option maxRecDepth 1000000 in
theorem ag_44 : a_good (a_Ks.take 44) (az_44, a_Zs) ak_44 ac_44 2000 4 6 = true := by decide +kernel
theorem aP_45 : a_P 45 := a_next (i := 44) rfl aP_44 ag_44
noncomputable def az_45 : List (Nat × Nat × List Nat) := [(128, 45, [37])]
set_option maxRecDepth 1000000 in
theorem ag_45 : a_good (a_Ks.take 45) (az_45, a_Zs) ak_45 ac_45 2000 4 6 = true := by decide +kernel
theorem aP_46 : a_P 46 := a_next (i := 45) rfl aP_45 ag_45
noncomputable def az_46 : List (Nat × Nat × List Nat) := []
set_option maxRecDepth 1000000 in
theorem ag_46 : a_good (a_Ks.take 46) (az_46, a_Zs) ak_46 ac_46 2000 4 6 = true := by decide +kernel
theorem aP_47 : a_P 47 := a_next (i := 46) rfl aP_46 ag_46
noncomputable def az_47 : List (Nat × Nat × List Nat) := []
set_option maxRecDepth 1000000 in
theorem ag_47 : a_good (a_Ks.take 47) (az_47, a_Zs) ak_47 ac_47 2000 4 6 = true := by decide +kernel
theorem aP_48 : a_P 48 := a_next (i := 47) rfl aP_47 ag_47
noncomputable def az_48 : List (Nat × Nat × List Nat) := [(153, 26, [9])]
set_option maxRecDepth 1000000 in
theorem ag_48 : a_good (a_Ks.take 48) (az_48, a_Zs) ak_48 ac_48 2000 4 6 = true := by decide +kernel
theorem aP_49 : a_P 49 := a_next (i := 48) rfl aP_48 ag_48
noncomputable def az_49 : List (Nat × Nat × List Nat) := [(146, 1, [38]), (146, 7, [47])]
set_option maxRecDepth 1000000 in
theorem ag_49 : a_good (a_Ks.take 49) (az_49, a_Zs) ak_49 ac_49 2000 4 6 = true := by decide +kernel
theorem aP_50 : a_P 50 := a_next (i := 49) rfl aP_49 ag_49
noncomputable def az_50 : List (Nat × Nat × List Nat) := [(158, 1, [48]), (158, 5, [38]), (158, 32, [7])]
set_option maxRecDepth 1000000 in
theorem ag_50 : a_good (a_Ks.take 50) (az_50, a_Zs) ak_50 ac_50 2000 4 6 = true := by decide +kernel
theorem aP_51 : a_P 51 := a_next (i := 50) rfl aP_50 ag_50
noncomputable def az_51 : List (Nat × Nat × List Nat) := []
set_option maxRecDepth 1000000 in
theorem ag_51 : a_good (a_Ks.take 51) (az_51, a_Zs) ak_51 ac_51 2000 4 6 = true := by decide +kernel
theorem aP_52 : a_P 52 := a_next (i := 51) rfl aP_51 ag_51
noncomputable def az_52 : List (Nat × Nat × List Nat) := []
set_option maxRecDepth 1000000 in
theorem ag_52 : a_good (a_Ks.take 52) (az_52, a_Zs) ak_52 ac_52 2000 4 6 = true := by decide +kernel
theorem aP_53 : a_P 53 := a_next (i := 52) rfl aP_52 ag_52
noncomputable def az_53 : List (Nat × Nat × List Nat) := [(160, 25, [51]), (160, 31, [52]), (160, 57, [14]), (160, 91, [36])]
set_option maxRecDepth 1000000 in
theorem ag_53 : a_good (a_Ks.take 53) (az_53, a_Zs) ak_53 ac_53 2000 4 6 = true := by decide +kernel
theorem aP_54 : a_P 54 := a_next (i := 53) rfl aP_53 ag_53
noncomputable def az_54 : List (Nat × Nat × List Nat) := []
set_option maxRecDepth 1000000 in
theorem ag_54 : a_good (a_Ks.take 54) (az_54, a_Zs) ak_54 ac_54 2000 4 6 = true := by decide +kernel
theorem aP_55 : a_P 55 := a_next (i := 54) rfl aP_54 ag_54
noncomputable def az_55 : List (Nat × Nat × List Nat) := [(125, 59, [39]), (125, 78, [40])]
set_option maxRecDepth 1000000 in
theorem ag_55 : a_good (a_Ks.take 55) (az_55, a_Zs) ak_55 ac_55 2000 4 6 = true := by decide +kernel
theorem aP_56 : a_P 56 := a_next (i := 55) rfl aP_55 ag_55
noncomputable def az_56 : List (Nat × Nat × List Nat) := [(169, 47, [53]), (169, 129, [54]), (169, 175, [55])]
set_option maxRecDepth 1000000 in
theorem ag_56 : a_good (a_Ks.take 56) (az_56, a_Zs) ak_56 ac_56 2000 4 6 = true := by decide +kernel
theorem aP_57 : a_P 57 := a_next (i := 56) rfl aP_56 ag_56
noncomputable def az_57 : List (Nat × Nat × List Nat) := [(156, 17, [10]), (156, 45, [10]), (156, 111, [10]), (156, 139, [55])]
set_option maxRecDepth 1000000 in
theorem ag_57 : a_good (a_Ks.take 57) (az_57, a_Zs) ak_57 ac_57 2000 4 6 = true := by decide +kernel
theorem aP_58 : a_P 58 := a_next (i := 57) rfl aP_57 ag_57
noncomputable def az_58 : List (Nat × Nat × List Nat) := [(145, 21, [13]), (145, 45, [11]), (145, 109, [47])]
set_option maxRecDepth 1000000 in
theorem ag_58 : a_good (a_Ks.take 58) (az_58, a_Zs) ak_58 ac_58 2000 4 6 = true := by decide +kernel
theorem aP_59 : a_P 59 := a_next (i := 58) rfl aP_58 ag_58
noncomputable def az_59 : List (Nat × Nat × List Nat) := [(164, 10, [43]), (164, 42, [44]), (164, 98, [12])]
set_option maxRecDepth 1000000 in
theorem ag_59 : a_good (a_Ks.take 59) (az_59, a_Zs) ak_59 ac_59 2000 4 6 = true := by decide +kernel
theorem aP_60 : a_P 60 := a_next (i := 59) rfl aP_59 ag_59
noncomputable def az_60 : List (Nat × Nat × List Nat) := [(171, 19, [37]), (171, 26, [56]), (171, 41, [48]), (171, 49, [49]), (171, 56, [48]), (171, 77, [47]), (171, 84, [57])]
set_option maxRecDepth 1000000 in
theorem ag_60 : a_good (a_Ks.take 60) (az_60, a_Zs) ak_60 ac_60 2000 4 6 = true := by decide +kernel
theorem aP_61 : a_P 61 := a_next (i := 60) rfl aP_60 ag_60
noncomputable def az_61 : List (Nat × Nat × List Nat) := [(166, 2, [45]), (166, 104, [41]), (166, 136, [42]), (166, 148, [50])]
set_option maxRecDepth 1000000 in
theorem ag_61 : a_good (a_Ks.take 61) (az_61, a_Zs) ak_61 ac_61 2000 4 6 = true := by decide +kernel
theorem aP_62 : a_P 62 := a_next (i := 61) rfl aP_61 ag_61
noncomputable def az_62 : List (Nat × Nat × List Nat) := [(167, 2, [45]), (167, 46, [42]), (167, 61, [50])]
set_option maxRecDepth 1000000 in
theorem ag_62 : a_good (a_Ks.take 62) (az_62, a_Zs) ak_62 ac_62 2000 4 6 = true := by decide +kernel
theorem aP_63 : a_P 63 := a_next (i := 62) rfl aP_62 ag_62
noncomputable def az_63 : List (Nat × Nat × List Nat) := [(165, 2, [45]), (165, 47, [50]), (165, 52, [49])]
set_option maxRecDepth 1000000 in
theorem ag_63 : a_good (a_Ks.take 63) (az_63, a_Zs) ak_63 ac_63 2000 4 6 = true := by decide +kernel
theorem aP_64 : a_P 64 := a_next (i := 63) rfl aP_63 ag_63
noncomputable def az_64 : List (Nat × Nat × List Nat) := [(152, 1, [46]), (152, 41, [7]), (152, 49, [49])]
set_option maxRecDepth 1000000 in
theorem ag_64 : a_good (a_Ks.take 64) (az_64, a_Zs) ak_64 ac_64 2000 4 6 = true := by decide +kernel
theorem aP_65 : a_P 65 := a_next (i := 64) rfl aP_64 ag_64
noncomputable def az_65 : List (Nat × Nat × List Nat) := [(144, 1, [46]), (144, 19, [8])]
set_option maxRecDepth 1000000 in
theorem ag_65 : a_good (a_Ks.take 65) (az_65, a_Zs) ak_65 ac_65 2000 4 6 = true := by decide +kernel
theorem aP_66 : a_P 66 := a_next (i := 65) rfl aP_65 ag_65
noncomputable def az_66 : List (Nat × Nat × List Nat) := [(168, 22, [53]), (168, 159, [54]), (168, 195, [55])]
set_option maxRecDepth 1000000 in
theorem ag_66 : a_good (a_Ks.take 66) (az_66, a_Zs) ak_66 ac_66 2000 4 6 = true := by decide +kernel
theorem aP_67 : a_P 67 := a_next (i := 66) rfl aP_66 ag_66
noncomputable def az_67 : List (Nat × Nat × List Nat) := [(163, 59, [10]), (163, 90, [53])]
set_option maxRecDepth 1000000 in
theorem ag_67 : a_good (a_Ks.take 67) (az_67, a_Zs) ak_67 ac_67 2000 4 6 = true := by decide +kernel
theorem aP_68 : a_P 68 := a_next (i := 67) rfl aP_67 ag_67
noncomputable def az_68 : List (Nat × Nat × List Nat) := [(147, 42, [1]), (147, 49, [15]), (147, 62, [55])]
set_option maxRecDepth 1000000 in
theorem ag_68 : a_good (a_Ks.take 68) (az_68, a_Zs) ak_68 ac_68 2000 4 6 = true := by decide +kernel
theorem aP_69 : a_P 69 := a_next (i := 68) rfl aP_68 ag_68
noncomputable def az_69 : List (Nat × Nat × List Nat) := []
set_option maxRecDepth 1000000 in
theorem ag_69 : a_good (a_Ks.take 69) (az_69, a_Zs) ak_69 ac_69 2000 4 6 = true := by decide +kernel
theorem aP_70 : a_P 70 := a_next (i := 69) rfl aP_69 ag_69
noncomputable def az_70 : List (Nat × Nat × List Nat) := []
set_option maxRecDepth 1000000 in
theorem ag_70 : a_good (a_Ks.take 70) (az_70, a_Zs) ak_70 ac_70 2000 4 6 = true := by decide +kernel
theorem aP_71 : a_P 71 := a_next (i := 70) rfl aP_70 ag_70
noncomputable def az_71 : List (Nat × Nat × List Nat) := [(159, 15, [10])]
set_option maxRecDepth 1000000 in
theorem ag_71 : a_good (a_Ks.take 71) (az_71, a_Zs) ak_71 ac_71 2000 4 6 = true := by decide +kernel
theorem aP_72 : a_P 72 := a_next (i := 71) rfl aP_71 ag_71
noncomputable def az_72 : List (Nat × Nat × List Nat) := [(98, 110, [2])]
set_option maxRecDepth 1000000 in
theorem ag_72 : a_good (a_Ks.take 72) (az_72, a_Zs) ak_72 ac_72 2000 4 6 = true := by decide +kernel
theorem aP_73 : a_P 73 := a_next (i := 72) rfl aP_72 ag_72
noncomputable def az_73 : List (Nat × Nat × List Nat) := []
set_option maxRecDepth 1000000 in
theorem ag_73 : a_good (a_Ks.take 73) (az_73, a_Zs) ak_73 ac_73 2000 4 6 = true := by decide +kernel
theorem aP_74 : a_P 74 := a_next (i := 73) rfl aP_73 ag_73
noncomputable def az_74 : List (Nat × Nat × List Nat) := []
set_option maxRecDepth 1000000 in
theorem ag_74 : a_good (a_Ks.take 74) (az_74, a_Zs) ak_74 ac_74 2000 4 6 = true := by decide +kernel
theorem aP_75 : a_P 75 := a_next (i := 74) rfl aP_74 ag_74
noncomputable def az_75 : List (Nat × Nat × List Nat) := []
set_option maxRecDepth 1000000 in
theorem ag_75 : a_good (a_Ks.take 75) (az_75, a_Zs) ak_75 ac_75 2000 4 6 = true := by decide +kernel
theorem aP_76 : a_P 76 := a_next (i := 75) rfl aP_75 ag_75
noncomputable def az_76 : List (Nat × Nat × List Nat) := [(161, 18, [36])]
set_option maxRecDepth 1000000 in
theorem ag_76 : a_good (a_Ks.take 76) (az_76, a_Zs) ak_76 ac_76 2000 4 6 = true := by decide +kernel
theorem aP_77 : a_P 77 := a_next (i := 76) rfl aP_76 ag_76
noncomputable def az_77 : List (Nat × Nat × List Nat) := []
set_option maxRecDepth 1000000 in
theorem ag_77 : a_good (a_Ks.take 77) (az_77, a_Zs) ak_77 ac_77 2000 4 6 = true := by decide +kernel
theorem aP_78 : a_P 78 := a_next (i := 77) rfl aP_77 ag_77
noncomputable def az_78 : List (Nat × Nat × List Nat) := []
set_option maxRecDepth 1000000 in
theorem ag_78 : a_good (a_Ks.take 78) (az_78, a_Zs) ak_78 ac_78 2000 4 6 = true := by decide +kernel
theorem aP_79 : a_P 79 := a_next (i := 78) rfl aP_78 ag_78
