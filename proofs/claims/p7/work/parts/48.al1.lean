set_option maxRecDepth 1000000 in
theorem ag_37 : a_good (a_Ks.take 37) (a_Zc, a_Zs) ak_37 ac_37 2000 4 6 = true := by decide +kernel
theorem aP_38 : a_P 38 := a_next (i := 37) rfl aP_37 ag_37
set_option maxRecDepth 1000000 in
theorem ag_38 : a_good (a_Ks.take 38) (a_Zc, a_Zs) ak_38 ac_38 2000 4 6 = true := by decide +kernel
theorem aP_39 : a_P 39 := a_next (i := 38) rfl aP_38 ag_38
set_option maxRecDepth 1000000 in
theorem ag_39 : a_good (a_Ks.take 39) (a_Zc, a_Zs) ak_39 ac_39 2000 4 6 = true := by decide +kernel
theorem aP_40 : a_P 40 := a_next (i := 39) rfl aP_39 ag_39
set_option maxRecDepth 1000000 in
theorem ag_40 : a_good (a_Ks.take 40) (a_Zc, a_Zs) ak_40 ac_40 2000 4 6 = true := by decide +kernel
theorem aP_41 : a_P 41 := a_next (i := 40) rfl aP_40 ag_40
set_option maxRecDepth 1000000 in
theorem ag_41 : a_good (a_Ks.take 41) (a_Zc, a_Zs) ak_41 ac_41 2000 4 6 = true := by decide +kernel
theorem aP_42 : a_P 42 := a_next (i := 41) rfl aP_41 ag_41
set_option maxRecDepth 1000000 in
theorem ag_42 : a_good (a_Ks.take 42) (a_Zc, a_Zs) ak_42 ac_42 2000 4 6 = true := by decide +kernel
theorem aP_43 : a_P 43 := a_next (i := 42) rfl aP_42 ag_42
set_option maxRecDepth 1000000 in
theorem ag_43 : a_good (a_Ks.take 43) (a_Zc, a_Zs) ak_43 ac_43 2000 4 6 = true := by decide +kernel
theorem aP_44 : a_P 44 := a_next (i := 43) rfl aP_43 ag_43
set_option maxRecDepth 1000000 in
theorem ag_44 : a_good (a_Ks.take 44) (a_Zc, a_Zs) ak_44 ac_44 2000 4 6 = true := by decide +kernel
theorem aP_45 : a_P 45 := a_next (i := 44) rfl aP_44 ag_44
set_option maxRecDepth 1000000 in
theorem ag_45 : a_good (a_Ks.take 45) (a_Zc, a_Zs) ak_45 ac_45 2000 4 6 = true := by decide +kernel
theorem aP_46 : a_P 46 := a_next (i := 45) rfl aP_45 ag_45
set_option maxRecDepth 1000000 in
theorem ag_46 : a_good (a_Ks.take 46) (a_Zc, a_Zs) ak_46 ac_46 2000 4 6 = true := by decide +kernel
theorem aP_47 : a_P 47 := a_next (i := 46) rfl aP_46 ag_46
set_option maxRecDepth 1000000 in
theorem ag_47 : a_good (a_Ks.take 47) (a_Zc, a_Zs) ak_47 ac_47 2000 4 6 = true := by decide +kernel
theorem aP_48 : a_P 48 := a_next (i := 47) rfl aP_47 ag_47
set_option maxRecDepth 1000000 in
theorem ag_48 : a_good (a_Ks.take 48) (a_Zc, a_Zs) ak_48 ac_48 2000 4 6 = true := by decide +kernel
theorem aP_49 : a_P 49 := a_next (i := 48) rfl aP_48 ag_48
set_option maxRecDepth 1000000 in
theorem ag_49 : a_good (a_Ks.take 49) (a_Zc, a_Zs) ak_49 ac_49 2000 4 6 = true := by decide +kernel
theorem aP_50 : a_P 50 := a_next (i := 49) rfl aP_49 ag_49
set_option maxRecDepth 1000000 in
theorem ag_50 : a_good (a_Ks.take 50) (a_Zc, a_Zs) ak_50 ac_50 2000 4 6 = true := by decide +kernel
theorem aP_51 : a_P 51 := a_next (i := 50) rfl aP_50 ag_50
set_option maxRecDepth 1000000 in
theorem ag_51 : a_good (a_Ks.take 51) (a_Zc, a_Zs) ak_51 ac_51 2000 4 6 = true := by decide +kernel
theorem aP_52 : a_P 52 := a_next (i := 51) rfl aP_51 ag_51
set_option maxRecDepth 1000000 in
theorem ag_52 : a_good (a_Ks.take 52) (a_Zc, a_Zs) ak_52 ac_52 2000 4 6 = true := by decide +kernel
theorem aP_53 : a_P 53 := a_next (i := 52) rfl aP_52 ag_52
set_option maxRecDepth 1000000 in
theorem ag_53 : a_good (a_Ks.take 53) (a_Zc, a_Zs) ak_53 ac_53 2000 4 6 = true := by decide +kernel
theorem aP_54 : a_P 54 := a_next (i := 53) rfl aP_53 ag_53
set_option maxRecDepth 1000000 in
theorem ag_54 : a_good (a_Ks.take 54) (a_Zc, a_Zs) ak_54 ac_54 2000 4 6 = true := by decide +kernel
theorem aP_55 : a_P 55 := a_next (i := 54) rfl aP_54 ag_54
set_option maxRecDepth 1000000 in
theorem ag_55 : a_good (a_Ks.take 55) (a_Zc, a_Zs) ak_55 ac_55 2000 4 6 = true := by decide +kernel
theorem aP_56 : a_P 56 := a_next (i := 55) rfl aP_55 ag_55
set_option maxRecDepth 1000000 in
theorem ag_56 : a_good (a_Ks.take 56) (a_Zc, a_Zs) ak_56 ac_56 2000 4 6 = true := by decide +kernel
theorem aP_57 : a_P 57 := a_next (i := 56) rfl aP_56 ag_56
set_option maxRecDepth 1000000 in
theorem ag_57 : a_good (a_Ks.take 57) (a_Zc, a_Zs) ak_57 ac_57 2000 4 6 = true := by decide +kernel
theorem aP_58 : a_P 58 := a_next (i := 57) rfl aP_57 ag_57
set_option maxRecDepth 1000000 in
theorem ag_58 : a_good (a_Ks.take 58) (a_Zc, a_Zs) ak_58 ac_58 2000 4 6 = true := by decide +kernel
theorem aP_59 : a_P 59 := a_next (i := 58) rfl aP_58 ag_58
set_option maxRecDepth 1000000 in
theorem ag_59 : a_good (a_Ks.take 59) (a_Zc, a_Zs) ak_59 ac_59 2000 4 6 = true := by decide +kernel
theorem aP_60 : a_P 60 := a_next (i := 59) rfl aP_59 ag_59
set_option maxRecDepth 1000000 in
theorem ag_60 : a_good (a_Ks.take 60) (a_Zc, a_Zs) ak_60 ac_60 2000 4 6 = true := by decide +kernel
theorem aP_61 : a_P 61 := a_next (i := 60) rfl aP_60 ag_60
set_option maxRecDepth 1000000 in
theorem ag_61 : a_good (a_Ks.take 61) (a_Zc, a_Zs) ak_61 ac_61 2000 4 6 = true := by decide +kernel
theorem aP_62 : a_P 62 := a_next (i := 61) rfl aP_61 ag_61
set_option maxRecDepth 1000000 in
theorem ag_62 : a_good (a_Ks.take 62) (a_Zc, a_Zs) ak_62 ac_62 2000 4 6 = true := by decide +kernel
theorem aP_63 : a_P 63 := a_next (i := 62) rfl aP_62 ag_62
set_option maxRecDepth 1000000 in
theorem ag_63 : a_good (a_Ks.take 63) (a_Zc, a_Zs) ak_63 ac_63 2000 4 6 = true := by decide +kernel
theorem aP_64 : a_P 64 := a_next (i := 63) rfl aP_63 ag_63
set_option maxRecDepth 1000000 in
theorem ag_64 : a_good (a_Ks.take 64) (a_Zc, a_Zs) ak_64 ac_64 2000 4 6 = true := by decide +kernel
theorem aP_65 : a_P 65 := a_next (i := 64) rfl aP_64 ag_64
set_option maxRecDepth 1000000 in
theorem ag_65 : a_good (a_Ks.take 65) (a_Zc, a_Zs) ak_65 ac_65 2000 4 6 = true := by decide +kernel
theorem aP_66 : a_P 66 := a_next (i := 65) rfl aP_65 ag_65
set_option maxRecDepth 1000000 in
theorem ag_66 : a_good (a_Ks.take 66) (a_Zc, a_Zs) ak_66 ac_66 2000 4 6 = true := by decide +kernel
theorem aP_67 : a_P 67 := a_next (i := 66) rfl aP_66 ag_66
set_option maxRecDepth 1000000 in
theorem ag_67 : a_good (a_Ks.take 67) (a_Zc, a_Zs) ak_67 ac_67 2000 4 6 = true := by decide +kernel
theorem aP_68 : a_P 68 := a_next (i := 67) rfl aP_67 ag_67
set_option maxRecDepth 1000000 in
theorem ag_68 : a_good (a_Ks.take 68) (a_Zc, a_Zs) ak_68 ac_68 2000 4 6 = true := by decide +kernel
theorem aP_69 : a_P 69 := a_next (i := 68) rfl aP_68 ag_68
set_option maxRecDepth 1000000 in
theorem ag_69 : a_good (a_Ks.take 69) (a_Zc, a_Zs) ak_69 ac_69 2000 4 6 = true := by decide +kernel
theorem aP_70 : a_P 70 := a_next (i := 69) rfl aP_69 ag_69
set_option maxRecDepth 1000000 in
theorem ag_70 : a_good (a_Ks.take 70) (a_Zc, a_Zs) ak_70 ac_70 2000 4 6 = true := by decide +kernel
theorem aP_71 : a_P 71 := a_next (i := 70) rfl aP_70 ag_70
set_option maxRecDepth 1000000 in
theorem ag_71 : a_good (a_Ks.take 71) (a_Zc, a_Zs) ak_71 ac_71 2000 4 6 = true := by decide +kernel
theorem aP_72 : a_P 72 := a_next (i := 71) rfl aP_71 ag_71
set_option maxRecDepth 1000000 in
theorem ag_72 : a_good (a_Ks.take 72) (a_Zc, a_Zs) ak_72 ac_72 2000 4 6 = true := by decide +kernel
theorem aP_73 : a_P 73 := a_next (i := 72) rfl aP_72 ag_72
set_option maxRecDepth 1000000 in
theorem ag_73 : a_good (a_Ks.take 73) (a_Zc, a_Zs) ak_73 ac_73 2000 4 6 = true := by decide +kernel
theorem aP_74 : a_P 74 := a_next (i := 73) rfl aP_73 ag_73
set_option maxRecDepth 1000000 in
theorem ag_74 : a_good (a_Ks.take 74) (a_Zc, a_Zs) ak_74 ac_74 2000 4 6 = true := by decide +kernel
theorem aP_75 : a_P 75 := a_next (i := 74) rfl aP_74 ag_74
set_option maxRecDepth 1000000 in
theorem ag_75 : a_good (a_Ks.take 75) (a_Zc, a_Zs) ak_75 ac_75 2000 4 6 = true := by decide +kernel
theorem aP_76 : a_P 76 := a_next (i := 75) rfl aP_75 ag_75
set_option maxRecDepth 1000000 in
theorem ag_76 : a_good (a_Ks.take 76) (a_Zc, a_Zs) ak_76 ac_76 2000 4 6 = true := by decide +kernel
theorem aP_77 : a_P 77 := a_next (i := 76) rfl aP_76 ag_76
set_option maxRecDepth 1000000 in
theorem ag_77 : a_good (a_Ks.take 77) (a_Zc, a_Zs) ak_77 ac_77 2000 4 6 = true := by decide +kernel
theorem aP_78 : a_P 78 := a_next (i := 77) rfl aP_77 ag_77
set_option maxRecDepth 1000000 in
theorem ag_78 : a_good (a_Ks.take 78) (a_Zc, a_Zs) ak_78 ac_78 2000 4 6 = true := by decide +kernel
theorem aP_79 : a_P 79 := a_next (i := 78) rfl aP_78 ag_78
