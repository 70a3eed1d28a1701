theorem dX3_layDown_0 : decode cX3_layDown 0 = .ok (.iload_n 1, 1) := by decide +kernel
theorem dX3_layDown_1 : decode cX3_layDown 1 = .ok (.ifCond .ne 9, 3) := by decide +kernel
theorem dX3_layDown_10 : decode cX3_layDown 10 = .ok (.iload_n 2, 1) := by decide +kernel
theorem dX3_layDown_11 : decode cX3_layDown 11 = .ok (.istore_n 3, 1) := by decide +kernel
theorem dX3_layDown_12 : decode cX3_layDown 12 = .ok (.aload_n 0, 1) := by decide +kernel
theorem dX3_layDown_13 : decode cX3_layDown 13 = .ok (.getfield 24, 3) := by decide +kernel
theorem dX3_layDown_16 : decode cX3_layDown 16 = .ok (.ifCond .lt 25, 3) := by decide +kernel
theorem dX3_layDown_19 : decode cX3_layDown 19 = .ok (.aload_n 0, 1) := by decide +kernel
theorem dX3_layDown_20 : decode cX3_layDown 20 = .ok (.getfield 24, 3) := by decide +kernel
theorem dX3_layDown_23 : decode cX3_layDown 23 = .ok (.iconst 4, 1) := by decide +kernel
theorem dX3_layDown_24 : decode cX3_layDown 24 = .ok (.if_icmp .ge 17, 3) := by decide +kernel
theorem dX3_layDown_27 : decode cX3_layDown 27 = .ok (.iload_n 2, 1) := by decide +kernel
theorem dX3_layDown_28 : decode cX3_layDown 28 = .ok (.invokestatic 31, 3) := by decide +kernel
theorem dX3_layDown_31 : decode cX3_layDown 31 = .ok (.ifCond .eq 10, 3) := by decide +kernel
theorem dX3_layDown_34 : decode cX3_layDown 34 = .ok (.iload_n 3, 1) := by decide +kernel
theorem dX3_layDown_35 : decode cX3_layDown 35 = .ok (.invokestatic 31, 3) := by decide +kernel
theorem dX3_layDown_38 : decode cX3_layDown 38 = .ok (.ifCond .ne 4, 3) := by decide +kernel
theorem dX3_layDown_42 : decode cX3_layDown 42 = .ok (.iload_n 1, 1) := by decide +kernel
theorem dX3_layDown_43 : decode cX3_layDown 43 = .ok (.invokestatic 39, 3) := by decide +kernel
theorem dX3_layDown_46 : decode cX3_layDown 46 = .ok (.istore 4, 2) := by decide +kernel
theorem dX3_layDown_48 : decode cX3_layDown 48 = .ok (.iload_n 2, 1) := by decide +kernel
theorem dX3_layDown_49 : decode cX3_layDown 49 = .ok (.istore 5, 2) := by decide +kernel
theorem dX3_layDown_51 : decode cX3_layDown 51 = .ok (.iload 5, 2) := by decide +kernel
theorem dX3_layDown_53 : decode cX3_layDown 53 = .ok (.iload_n 3, 1) := by decide +kernel
theorem dX3_layDown_54 : decode cX3_layDown 54 = .ok (.if_icmp .gt 32, 3) := by decide +kernel
theorem dX3_layDown_57 : decode cX3_layDown 57 = .ok (.aload_n 0, 1) := by decide +kernel
theorem dX3_layDown_58 : decode cX3_layDown 58 = .ok (.getfield 9, 3) := by decide +kernel
theorem dX3_layDown_61 : decode cX3_layDown 61 = .ok (.iload 5, 2) := by decide +kernel
theorem dX3_layDown_63 : decode cX3_layDown 63 = .ok (.dup2, 1) := by decide +kernel
theorem dX3_layDown_64 : decode cX3_layDown 64 = .ok (.iaload, 1) := by decide +kernel
theorem dX3_layDown_65 : decode cX3_layDown 65 = .ok (.iload 4, 2) := by decide +kernel
theorem dX3_layDown_67 : decode cX3_layDown 67 = .ok (.isub, 1) := by decide +kernel
theorem dX3_layDown_68 : decode cX3_layDown 68 = .ok (.iastore, 1) := by decide +kernel
theorem dX3_layDown_69 : decode cX3_layDown 69 = .ok (.aload_n 0, 1) := by decide +kernel
theorem dX3_layDown_70 : decode cX3_layDown 70 = .ok (.dup, 1) := by decide +kernel
theorem dX3_layDown_71 : decode cX3_layDown 71 = .ok (.getfield 28, 3) := by decide +kernel
theorem dX3_layDown_74 : decode cX3_layDown 74 = .ok (.iload 4, 2) := by decide +kernel
theorem dX3_layDown_76 : decode cX3_layDown 76 = .ok (.isub, 1) := by decide +kernel
theorem dX3_layDown_77 : decode cX3_layDown 77 = .ok (.putfield 28, 3) := by decide +kernel
theorem dX3_layDown_80 : decode cX3_layDown 80 = .ok (.iinc 5 1, 3) := by decide +kernel
theorem dX3_layDown_83 : decode cX3_layDown 83 = .ok (.goto (-32), 3) := by decide +kernel
theorem dX3_layDown_86 : decode cX3_layDown 86 = .ok (.aload_n 0, 1) := by decide +kernel
theorem dX3_layDown_87 : decode cX3_layDown 87 = .ok (.getfield 18, 3) := by decide +kernel
theorem dX3_layDown_90 : decode cX3_layDown 90 = .ok (.aload_n 0, 1) := by decide +kernel
theorem dX3_layDown_91 : decode cX3_layDown 91 = .ok (.getfield 24, 3) := by decide +kernel
theorem dX3_layDown_94 : decode cX3_layDown 94 = .ok (.iload_n 1, 1) := by decide +kernel
theorem dX3_layDown_95 : decode cX3_layDown 95 = .ok (.iastore, 1) := by decide +kernel
theorem dX3_layDown_96 : decode cX3_layDown 96 = .ok (.aload_n 0, 1) := by decide +kernel
theorem dX3_layDown_97 : decode cX3_layDown 97 = .ok (.getfield 21, 3) := by decide +kernel
theorem dX3_layDown_100 : decode cX3_layDown 100 = .ok (.aload_n 0, 1) := by decide +kernel
theorem dX3_layDown_101 : decode cX3_layDown 101 = .ok (.getfield 24, 3) := by decide +kernel
theorem dX3_layDown_104 : decode cX3_layDown 104 = .ok (.iload_n 2, 1) := by decide +kernel
theorem dX3_layDown_105 : decode cX3_layDown 105 = .ok (.iastore, 1) := by decide +kernel
theorem dX3_layDown_106 : decode cX3_layDown 106 = .ok (.aload_n 0, 1) := by decide +kernel
theorem dX3_layDown_107 : decode cX3_layDown 107 = .ok (.dup, 1) := by decide +kernel
theorem dX3_layDown_108 : decode cX3_layDown 108 = .ok (.getfield 24, 3) := by decide +kernel
theorem dX3_layDown_111 : decode cX3_layDown 111 = .ok (.iconst 1, 1) := by decide +kernel
theorem dX3_layDown_112 : decode cX3_layDown 112 = .ok (.iadd, 1) := by decide +kernel
theorem dX3_layDown_113 : decode cX3_layDown 113 = .ok (.putfield 24, 3) := by decide +kernel
theorem dX3_layDown_116 : decode cX3_layDown 116 = .ok (.return_, 1) := by decide +kernel
theorem dX3_layDown_41 : decode cX3_layDown 41 = .ok (.return_, 1) := by decide +kernel
theorem dX3_layDown_4 : decode cX3_layDown 4 = .ok (.iload_n 2, 1) := by decide +kernel
theorem dX3_layDown_5 : decode cX3_layDown 5 = .ok (.iconst 2, 1) := by decide +kernel
theorem dX3_layDown_6 : decode cX3_layDown 6 = .ok (.iadd, 1) := by decide +kernel
theorem dX3_layDown_7 : decode cX3_layDown 7 = .ok (.goto 4, 3) := by decide +kernel
theorem dX6_set_0 : decode cX6_set 0 = .ok (.iload_n 2, 1) := by decide +kernel
theorem dX6_set_1 : decode cX6_set 1 = .ok (.invokestatic 292, 3) := by decide +kernel
theorem dX6_set_4 : decode cX6_set 4 = .ok (.ifCond .eq 12, 3) := by decide +kernel
theorem dX6_set_7 : decode cX6_set 7 = .ok (.iload_n 1, 1) := by decide +kernel
theorem dX6_set_8 : decode cX6_set 8 = .ok (.ifCond .lt 8, 3) := by decide +kernel
theorem dX6_set_16 : decode cX6_set 16 = .ok (.iconst 0, 1) := by decide +kernel
theorem dX6_set_17 : decode cX6_set 17 = .ok (.ireturn, 1) := by decide +kernel
theorem dX6_set_11 : decode cX6_set 11 = .ok (.iload_n 1, 1) := by decide +kernel
theorem dX6_set_12 : decode cX6_set 12 = .ok (.iconst 3, 1) := by decide +kernel
theorem dX6_set_13 : decode cX6_set 13 = .ok (.if_icmp .le 5, 3) := by decide +kernel
theorem dX6_set_18 : decode cX6_set 18 = .ok (.iload_n 1, 1) := by decide +kernel
theorem dX6_set_19 : decode cX6_set 19 = .ok (.ifCond .ne 10, 3) := by decide +kernel
theorem dX6_set_29 : decode cX6_set 29 = .ok (.aload_n 0, 1) := by decide +kernel
theorem dX6_set_30 : decode cX6_set 30 = .ok (.getfield 38, 3) := by decide +kernel
theorem dX6_set_33 : decode cX6_set 33 = .ok (.invokevirtual 298, 3) := by decide +kernel
theorem dX6_set_36 : decode cX6_set 36 = .ok (.iconst 3, 1) := by decide +kernel
theorem dX6_set_37 : decode cX6_set 37 = .ok (.iadd, 1) := by decide +kernel
theorem dX6_set_38 : decode cX6_set 38 = .ok (.bipush 14, 2) := by decide +kernel
theorem dX6_set_40 : decode cX6_set 40 = .ok (.if_icmp .le 5, 3) := by decide +kernel
theorem dX6_set_45 : decode cX6_set 45 = .ok (.iload_n 1, 1) := by decide +kernel
theorem dX6_set_46 : decode cX6_set 46 = .ok (.ifCond .ne 9, 3) := by decide +kernel
theorem dX6_set_55 : decode cX6_set 55 = .ok (.iload_n 2, 1) := by decide +kernel
theorem dX6_set_56 : decode cX6_set 56 = .ok (.istore_n 3, 1) := by decide +kernel
theorem dX6_set_57 : decode cX6_set 57 = .ok (.iload_n 1, 1) := by decide +kernel
theorem dX6_set_58 : decode cX6_set 58 = .ok (.invokestatic 301, 3) := by decide +kernel
theorem dX6_set_61 : decode cX6_set 61 = .ok (.istore 4, 2) := by decide +kernel
theorem dX6_set_63 : decode cX6_set 63 = .ok (.iload_n 2, 1) := by decide +kernel
theorem dX6_set_64 : decode cX6_set 64 = .ok (.istore 5, 2) := by decide +kernel
theorem dX6_set_66 : decode cX6_set 66 = .ok (.iload 5, 2) := by decide +kernel
theorem dX6_set_68 : decode cX6_set 68 = .ok (.iload_n 3, 1) := by decide +kernel
theorem dX6_set_69 : decode cX6_set 69 = .ok (.if_icmp .gt 27, 3) := by decide +kernel
theorem dX6_set_72 : decode cX6_set 72 = .ok (.aload_n 0, 1) := by decide +kernel
theorem dX6_set_73 : decode cX6_set 73 = .ok (.getfield 38, 3) := by decide +kernel
theorem dX6_set_76 : decode cX6_set 76 = .ok (.iload 5, 2) := by decide +kernel
theorem dX6_set_78 : decode cX6_set 78 = .ok (.invokevirtual 295, 3) := by decide +kernel
theorem dX6_set_81 : decode cX6_set 81 = .ok (.iload 4, 2) := by decide +kernel
theorem dX6_set_83 : decode cX6_set 83 = .ok (.iadd, 1) := by decide +kernel
theorem dX6_set_84 : decode cX6_set 84 = .ok (.iconst 4, 1) := by decide +kernel
theorem dX6_set_85 : decode cX6_set 85 = .ok (.if_icmp .le 5, 3) := by decide +kernel
theorem dX6_set_90 : decode cX6_set 90 = .ok (.iinc 5 1, 3) := by decide +kernel
theorem dX6_set_93 : decode cX6_set 93 = .ok (.goto (-27), 3) := by decide +kernel
theorem dX6_set_96 : decode cX6_set 96 = .ok (.iload_n 2, 1) := by decide +kernel
theorem dX6_set_97 : decode cX6_set 97 = .ok (.istore 5, 2) := by decide +kernel
theorem dX6_set_99 : decode cX6_set 99 = .ok (.iload 5, 2) := by decide +kernel
theorem dX6_set_101 : decode cX6_set 101 = .ok (.iload_n 3, 1) := by decide +kernel
theorem dX6_set_102 : decode cX6_set 102 = .ok (.if_icmp .gt 20, 3) := by decide +kernel
theorem dX6_set_105 : decode cX6_set 105 = .ok (.aload_n 0, 1) := by decide +kernel
theorem dX6_set_106 : decode cX6_set 106 = .ok (.getfield 38, 3) := by decide +kernel
theorem dX6_set_109 : decode cX6_set 109 = .ok (.iload 5, 2) := by decide +kernel
theorem dX6_set_111 : decode cX6_set 111 = .ok (.iload 4, 2) := by decide +kernel
theorem dX6_set_113 : decode cX6_set 113 = .ok (.invokevirtual 79, 3) := by decide +kernel
theorem dX6_set_116 : decode cX6_set 116 = .ok (.iinc 5 1, 3) := by decide +kernel
theorem dX6_set_119 : decode cX6_set 119 = .ok (.goto (-20), 3) := by decide +kernel
theorem dX6_set_122 : decode cX6_set 122 = .ok (.aload_n 0, 1) := by decide +kernel
theorem dX6_set_123 : decode cX6_set 123 = .ok (.getfield 38, 3) := by decide +kernel
theorem dX6_set_126 : decode cX6_set 126 = .ok (.iload_n 1, 1) := by decide +kernel
theorem dX6_set_127 : decode cX6_set 127 = .ok (.iload_n 2, 1) := by decide +kernel
theorem dX6_set_128 : decode cX6_set 128 = .ok (.invokevirtual 181, 3) := by decide +kernel
theorem dX6_set_131 : decode cX6_set 131 = .ok (.iconst 1, 1) := by decide +kernel
theorem dX6_set_132 : decode cX6_set 132 = .ok (.ireturn, 1) := by decide +kernel
theorem dX6_set_22 : decode cX6_set 22 = .ok (.iload_n 2, 1) := by decide +kernel
theorem dX6_set_23 : decode cX6_set 23 = .ok (.invokestatic 150, 3) := by decide +kernel
theorem dX6_set_26 : decode cX6_set 26 = .ok (.ifCond .eq 17, 3) := by decide +kernel
theorem dX6_set_49 : decode cX6_set 49 = .ok (.iload_n 2, 1) := by decide +kernel
theorem dX6_set_50 : decode cX6_set 50 = .ok (.iconst 2, 1) := by decide +kernel
theorem dX6_set_51 : decode cX6_set 51 = .ok (.iadd, 1) := by decide +kernel
theorem dX6_set_52 : decode cX6_set 52 = .ok (.goto 4, 3) := by decide +kernel
theorem dX6_set_43 : decode cX6_set 43 = .ok (.iconst 0, 1) := by decide +kernel
theorem dX6_set_44 : decode cX6_set 44 = .ok (.ireturn, 1) := by decide +kernel
theorem dX7_set_0 : decode cX7_set 0 = .ok (.aload_n 0, 1) := by decide +kernel
theorem dX7_set_1 : decode cX7_set 1 = .ok (.iconst 0, 1) := by decide +kernel
theorem dX7_set_2 : decode cX7_set 2 = .ok (.putfield 103, 3) := by decide +kernel
theorem dX7_set_5 : decode cX7_set 5 = .ok (.iload_n 2, 1) := by decide +kernel
theorem dX7_set_6 : decode cX7_set 6 = .ok (.invokestatic 329, 3) := by decide +kernel
theorem dX7_set_9 : decode cX7_set 9 = .ok (.ifCond .eq 23, 3) := by decide +kernel
theorem dX7_set_12 : decode cX7_set 12 = .ok (.iload_n 1, 1) := by decide +kernel
theorem dX7_set_13 : decode cX7_set 13 = .ok (.ifCond .lt 19, 3) := by decide +kernel
theorem dX7_set_32 : decode cX7_set 32 = .ok (.iconst 0, 1) := by decide +kernel
theorem dX7_set_33 : decode cX7_set 33 = .ok (.ireturn, 1) := by decide +kernel
theorem dX7_set_16 : decode cX7_set 16 = .ok (.iload_n 1, 1) := by decide +kernel
theorem dX7_set_17 : decode cX7_set 17 = .ok (.iconst 3, 1) := by decide +kernel
theorem dX7_set_18 : decode cX7_set 18 = .ok (.if_icmp .gt 14, 3) := by decide +kernel
theorem dX7_set_21 : decode cX7_set 21 = .ok (.iload_n 1, 1) := by decide +kernel
theorem dX7_set_22 : decode cX7_set 22 = .ok (.ifCond .ne 12, 3) := by decide +kernel
theorem dX7_set_34 : decode cX7_set 34 = .ok (.aload_n 0, 1) := by decide +kernel
theorem dX7_set_35 : decode cX7_set 35 = .ok (.invokevirtual 403, 3) := by decide +kernel
theorem dX7_set_38 : decode cX7_set 38 = .ok (.aload_n 0, 1) := by decide +kernel
theorem dX7_set_39 : decode cX7_set 39 = .ok (.invokevirtual 133, 3) := by decide +kernel
theorem dX7_set_42 : decode cX7_set 42 = .ok (.iconst 3, 1) := by decide +kernel
theorem dX7_set_43 : decode cX7_set 43 = .ok (.aload_n 0, 1) := by decide +kernel
theorem dX7_set_44 : decode cX7_set 44 = .ok (.getfield 137, 3) := by decide +kernel
theorem dX7_set_47 : decode cX7_set 47 = .ok (.imul, 1) := by decide +kernel
theorem dX7_set_48 : decode cX7_set 48 = .ok (.iadd, 1) := by decide +kernel
theorem dX7_set_49 : decode cX7_set 49 = .ok (.iconst 3, 1) := by decide +kernel
theorem dX7_set_50 : decode cX7_set 50 = .ok (.iadd, 1) := by decide +kernel
theorem dX7_set_51 : decode cX7_set 51 = .ok (.bipush 14, 2) := by decide +kernel
theorem dX7_set_53 : decode cX7_set 53 = .ok (.if_icmp .le 5, 3) := by decide +kernel
theorem dX7_set_58 : decode cX7_set 58 = .ok (.iload_n 1, 1) := by decide +kernel
theorem dX7_set_59 : decode cX7_set 59 = .ok (.ifCond .ne 7, 3) := by decide +kernel
theorem dX7_set_66 : decode cX7_set 66 = .ok (.iload_n 1, 1) := by decide +kernel
theorem dX7_set_67 : decode cX7_set 67 = .ok (.iconst 1, 1) := by decide +kernel
theorem dX7_set_68 : decode cX7_set 68 = .ok (.if_icmp .ne 7, 3) := by decide +kernel
theorem dX7_set_75 : decode cX7_set 75 = .ok (.iconst 4, 1) := by decide +kernel
theorem dX7_set_76 : decode cX7_set 76 = .ok (.istore_n 3, 1) := by decide +kernel
theorem dX7_set_77 : decode cX7_set 77 = .ok (.iload_n 2, 1) := by decide +kernel
theorem dX7_set_78 : decode cX7_set 78 = .ok (.istore 4, 2) := by decide +kernel
theorem dX7_set_80 : decode cX7_set 80 = .ok (.iload 4, 2) := by decide +kernel
theorem dX7_set_82 : decode cX7_set 82 = .ok (.iload_n 2, 1) := by decide +kernel
theorem dX7_set_83 : decode cX7_set 83 = .ok (.iload_n 1, 1) := by decide +kernel
theorem dX7_set_84 : decode cX7_set 84 = .ok (.ifCond .ne 7, 3) := by decide +kernel
theorem dX7_set_91 : decode cX7_set 91 = .ok (.iconst 1, 1) := by decide +kernel
theorem dX7_set_92 : decode cX7_set 92 = .ok (.iadd, 1) := by decide +kernel
theorem dX7_set_93 : decode cX7_set 93 = .ok (.if_icmp .ge 23, 3) := by decide +kernel
theorem dX7_set_96 : decode cX7_set 96 = .ok (.aload_n 0, 1) := by decide +kernel
theorem dX7_set_97 : decode cX7_set 97 = .ok (.iload 4, 2) := by decide +kernel
theorem dX7_set_99 : decode cX7_set 99 = .ok (.invokevirtual 227, 3) := by decide +kernel
theorem dX7_set_102 : decode cX7_set 102 = .ok (.iload_n 3, 1) := by decide +kernel
theorem dX7_set_103 : decode cX7_set 103 = .ok (.iadd, 1) := by decide +kernel
theorem dX7_set_104 : decode cX7_set 104 = .ok (.iconst 4, 1) := by decide +kernel
theorem dX7_set_105 : decode cX7_set 105 = .ok (.if_icmp .le 5, 3) := by decide +kernel
theorem dX7_set_110 : decode cX7_set 110 = .ok (.iinc 4 1, 3) := by decide +kernel
theorem dX7_set_113 : decode cX7_set 113 = .ok (.goto (-33), 3) := by decide +kernel
theorem dX7_set_116 : decode cX7_set 116 = .ok (.aload_n 0, 1) := by decide +kernel
theorem dX7_set_117 : decode cX7_set 117 = .ok (.getfield 94, 3) := by decide +kernel
theorem dX7_set_120 : decode cX7_set 120 = .ok (.aload_n 0, 1) := by decide +kernel
theorem dX7_set_121 : decode cX7_set 121 = .ok (.getfield 400, 3) := by decide +kernel
theorem dX7_set_124 : decode cX7_set 124 = .ok (.iload_n 1, 1) := by decide +kernel
theorem dX7_set_125 : decode cX7_set 125 = .ok (.iastore, 1) := by decide +kernel
theorem dX7_set_126 : decode cX7_set 126 = .ok (.aload_n 0, 1) := by decide +kernel
theorem dX7_set_127 : decode cX7_set 127 = .ok (.getfield 97, 3) := by decide +kernel
theorem dX7_set_130 : decode cX7_set 130 = .ok (.aload_n 0, 1) := by decide +kernel
theorem dX7_set_131 : decode cX7_set 131 = .ok (.getfield 400, 3) := by decide +kernel
theorem dX7_set_134 : decode cX7_set 134 = .ok (.iload_n 2, 1) := by decide +kernel
theorem dX7_set_135 : decode cX7_set 135 = .ok (.iastore, 1) := by decide +kernel
theorem dX7_set_136 : decode cX7_set 136 = .ok (.aload_n 0, 1) := by decide +kernel
theorem dX7_set_137 : decode cX7_set 137 = .ok (.dup, 1) := by decide +kernel
theorem dX7_set_138 : decode cX7_set 138 = .ok (.getfield 400, 3) := by decide +kernel
theorem dX7_set_141 : decode cX7_set 141 = .ok (.iconst 1, 1) := by decide +kernel
theorem dX7_set_142 : decode cX7_set 142 = .ok (.iadd, 1) := by decide +kernel
theorem dX7_set_143 : decode cX7_set 143 = .ok (.putfield 400, 3) := by decide +kernel
theorem dX7_set_146 : decode cX7_set 146 = .ok (.iconst 1, 1) := by decide +kernel
theorem dX7_set_147 : decode cX7_set 147 = .ok (.ireturn, 1) := by decide +kernel
theorem dX7_set_71 : decode cX7_set 71 = .ok (.iconst 3, 1) := by decide +kernel
theorem dX7_set_72 : decode cX7_set 72 = .ok (.goto 4, 3) := by decide +kernel
theorem dX7_set_25 : decode cX7_set 25 = .ok (.iload_n 2, 1) := by decide +kernel
theorem dX7_set_26 : decode cX7_set 26 = .ok (.invokestatic 157, 3) := by decide +kernel
theorem dX7_set_29 : decode cX7_set 29 = .ok (.ifCond .ne 5, 3) := by decide +kernel
theorem dX7_set_62 : decode cX7_set 62 = .ok (.iconst 1, 1) := by decide +kernel
theorem dX7_set_63 : decode cX7_set 63 = .ok (.goto 13, 3) := by decide +kernel
theorem dX7_set_87 : decode cX7_set 87 = .ok (.iconst 3, 1) := by decide +kernel
theorem dX7_set_88 : decode cX7_set 88 = .ok (.goto 4, 3) := by decide +kernel
theorem in_natlt {x : Int32} {a n : Nat} (hx : x = nI a) (ha : a < 2 ^ 31) (h : vp_in x n) : a < n := by have h9 := in_lt h; rw [hx, nI_clamp ha] at h9; exact h9
def v_c_X3_layDown0 : List Cond := .code yX3_layDown cX3_layDown 6 none :: ([.fieldLink RX3 24 "TileHouse$Tiles" "laidDown" "I", .initialized RX6, .static yX6_isKind, .static yX6_tilesOfEach, .fieldLink RX3 9 "TileHouse$Tiles" "free" "[I", .fieldLink RX3 28 "TileHouse$Tiles" "loose" "I", .fieldLink RX3 18 "TileHouse$Tiles" "sort" "[I", .fieldLink RX3 21 "TileHouse$Tiles" "low" "[I"] ++ (wsX30 ++ (v_c_X6_isKind ++ (v_c_X6_tilesOfEach ++ ([])))))
theorem vg_c_X3_layDown0 : ∀ w ∈ v_c_X3_layDown0, goodWord w = true := vg_c (c := .code yX3_layDown cX3_layDown 6 none) (l := [.fieldLink RX3 24 "TileHouse$Tiles" "laidDown" "I", .initialized RX6, .static yX6_isKind, .static yX6_tilesOfEach, .fieldLink RX3 9 "TileHouse$Tiles" "free" "[I", .fieldLink RX3 28 "TileHouse$Tiles" "loose" "I", .fieldLink RX3 18 "TileHouse$Tiles" "sort" "[I", .fieldLink RX3 21 "TileHouse$Tiles" "low" "[I"]) (by decide +kernel) (vg_a vgX3 (vg_a vg_c_X6_isKind (vg_a vg_c_X6_tilesOfEach (vg_nil))))
theorem i_c_X3_layDown0_X3 : ∀ w ∈ u_ws RX3 TX3 6, w ∈ v_c_X3_layDown0 := fun _ h => List.mem_cons_of_mem _ (List.mem_append_right _ (List.mem_append_left _ h))
theorem g_c_X3_layDown0_c_X6_isKind_31 : GoodIn v_c_X3_layDown0 (v_c_X6_isKind) := fun w h => ⟨List.mem_cons_of_mem _ (List.mem_append_right _ (List.mem_append_right _ (List.mem_append_left _ h))), good_of_word (vg_c_X6_isKind w h)⟩
theorem g_c_X3_layDown0_c_X6_tilesOfEach_39 : GoodIn v_c_X3_layDown0 (v_c_X6_tilesOfEach) := fun w h => ⟨List.mem_cons_of_mem _ (List.mem_append_right _ (List.mem_append_right _ (List.mem_append_right _ (List.mem_append_left _ h)))), good_of_word (vg_c_X6_tilesOfEach w h)⟩
set_option maxHeartbeats 4000000 in
set_option maxRecDepth 100000 in
theorem c_X3_layDown0 (l : Launch) (G : va_G) (k : Nat → ClassId) (sz : Nat) (h0 : Nat) (fr : Nat) (so : Nat) (lw : Nat) (f : Nat → Int32) (f2 : Nat → Int32) (f3 : Nat → Int32) (lo : Int32) (p0 : Int32) (p1 : Int32) (x1 : Value) : Met l yX3_layDown v_c_X3_layDown0 ({ frames := 1, cells := 0, slots := 0, locals := 20 }) (va_Pc [.ref h0, .int p0, .int p1] (pq G k [(h0, .inr (2, [.ref fr, x1, .ref so, .ref lw, .int 0, .int lo])), (fr, .inl (k 0, 34, .inl f)), (so, .inl (k 0, 4, .inl f2)), (lw, .inl (k 0, 4, .inl f3))] sz)) (va_Qv (fun _ : Unit => True) (fun (_ : Unit) _ => True) (va_A [(h0, .inr (2, [.ref fr, x1, .ref so, .ref lw, .int 0, .int lo])), (fr, .inl (k 0, 34, .inl f)), (so, .inl (k 0, 4, .inl f2)), (lw, .inl (k 0, 4, .inl f3))] sz)) 0 0 (va_A [(h0, .inr (2, [.ref fr, x1, .ref so, .ref lw, .int 0, .int lo])), (fr, .inl (k 0, 34, .inl f)), (so, .inl (k 0, 4, .inl f2)), (lw, .inl (k 0, 4, .inl f3))] sz) := by
  refine Met.ofW (cc := cX3_layDown) (maxL := 6) (ret := none) (by decide) rfl ?_
  intro p e s m args below meth c s₁ B hml hv
  obtain ⟨rfl, hsz, ⟨hP, hK, hN⟩, hD0⟩ := hv
  have hx := B.exec
  have hb := B.bytes
  have hr := B.returns
  have hts := atoms_spec (ws := v_c_X3_layDown0) B.pre
  have hown : s.vm.findClass RX3 = some m.cls := findClass_of_methodNamed B.named
  have hlocks := B.notSynchronized
  subst hsz
  have hD := hD0.self (sz := s.heap.size)
  generalize hAe : va_A [(h0, .inr (2, [.ref fr, x1, .ref so, .ref lw, .int 0, .int lo])), (fr, .inl (k 0, 34, .inl f)), (so, .inl (k 0, 4, .inl f2)), (lw, .inl (k 0, 4, .inl f3))] s.heap.size = A at hD ⊢
  have hA : ∀ q : Nat, s.heap.size ≤ q → A q := fun q h => by rw [← hAe]; exact Or.inr h
  have hS : va_S A s.heap s.heap [] := va_S.rf
  have hP : va_P G vwCl [(h0, .inr (2, [.ref fr, x1, .ref so, .ref lw, .int 0, .int lo])), (fr, .inl (k 0, 34, .inl f)), (so, .inl (k 0, 4, .inl f2)), (lw, .inl (k 0, 4, .inl f3))] s.heap := hP
  refine hvar hP hS (fun H locs hP hS => ?_)
  have hl := lv_entry ([.ref h0, .int p0, .int p1]) (n := 6) (Nat.le_of_ble_eq_true rfl)
  rw [lg_entry_eq]
  generalize (lg_sl ([.ref h0, .int p0, .int p1]) ++ List.replicate (6 - (lg_sl ([.ref h0, .int p0, .int p1])).length) Slot.unset).toArray = ls at hl ⊢
  have hl : lv_has ls 6 [(0, .ref h0), (1, .int p0), (2, .int p1)] := hl
  refine lv_iload_n hx hb dX3_layDown_0 rfl (lv_at hl 1 rfl) ?_
  refine lv_if_ne (tgt := 10) hx hb dX3_layDown_1 (by decide) (fun c1 => ?_) (fun c1 => ?_)
  · skip
    refine lv_iload_n hx hb dX3_layDown_10 rfl (lv_at hl 2 rfl) ?_
    refine lv_istore_n (lv' := [(3, .int p1), (0, .ref h0), (1, .int p0), (2, .int p1)]) hx hb dX3_layDown_11 rfl hl (by decide) rfl (fun ls hl => ?_)
    refine lv_aload_n hx hb dX3_layDown_12 rfl (lv_at hl 1 rfl) ?_
    refine va_get (D := G) (ci := 2) (v := .int 0) (C := RX3) (T := TX3) (N := 6) hx hb hts i_c_X3_layDown0_X3 hown hK hP 0 rfl rfl 4 (by decide) (hts (.fieldLink RX3 24 "TileHouse$Tiles" "laidDown" "I") (by decide +kernel)) (fun _ h9 => h9) rfl dX3_layDown_13 ?_
    refine lv_if_lt (tgt := 41) hx hb dX3_layDown_16 (by decide) (fun c9 => absurd c9 (by decide)) (fun _ => ?_)
    refine lv_aload_n hx hb dX3_layDown_19 rfl (lv_at hl 1 rfl) ?_
    refine va_get (D := G) (ci := 2) (v := .int 0) (C := RX3) (T := TX3) (N := 6) hx hb hts i_c_X3_layDown0_X3 hown hK hP 0 rfl rfl 4 (by decide) (hts (.fieldLink RX3 24 "TileHouse$Tiles" "laidDown" "I") (by decide +kernel)) (fun _ h9 => h9) rfl dX3_layDown_20 ?_
    refine lv_iconst (v := 4) hx hb dX3_layDown_23 (by decide) ?_
    refine lv_icmp_ge (tgt := 41) hx hb dX3_layDown_24 (by decide) (fun c9 => absurd c9 (by decide)) (fun _ => ?_)
    refine lv_iload_n hx hb dX3_layDown_27 rfl (lv_at hl 3 rfl) ?_
    have hPc := hP.sub (ws' := []) [] rfl
    refine q_calli (va_runSN (As := [.int p1]) (rest := []) ⟨hx, hb, hml, hown, hts⟩ (c_X6_isKind l G k p1) ⟨va_cnB 1 hts g_c_X3_layDown0_c_X6_isKind_31 rfl rfl rfl (nw_X3_31 hN) (hts (.initialized RX6) (by decide +kernel)) (by decide +kernel) ⟨Nat.le_of_ble_eq_true rfl, Nat.le_of_ble_eq_true rfl⟩, (hts (.static yX6_isKind) (by decide +kernel)), trivial⟩ ⟨pr_bl, pr_pre hPc hK hN⟩ rfl rfl hl.1 rfl (lv_room (Nat.le_of_ble_eq_true rfl)) dX3_layDown_28 ⟨Nat.le_of_ble_eq_true rfl, Nat.le_of_ble_eq_true rfl⟩) (fun r2 hr2 => ?_)
    rcases hr2 with ⟨rfl, h3⟩ | ⟨rfl, h3⟩
    · skip
      obtain ⟨j, hj, ej⟩ := vp_in_of h3 (by decide)
      refine lv_if_eq (tgt := 41) hx hb dX3_layDown_31 (by decide) (fun c9 => absurd c9 (by decide)) (fun _ => ?_)
      refine lv_iload_n hx hb dX3_layDown_34 rfl (lv_at hl 0 rfl) ?_
      have hPc := hP.sub (ws' := []) [] rfl
      refine q_calli (va_runSN (As := [.int p1]) (rest := []) ⟨hx, hb, hml, hown, hts⟩ (c_X6_isKind l G k p1) ⟨va_cnB 1 hts g_c_X3_layDown0_c_X6_isKind_31 rfl rfl rfl (nw_X3_31 hN) (hts (.initialized RX6) (by decide +kernel)) (by decide +kernel) ⟨Nat.le_of_ble_eq_true rfl, Nat.le_of_ble_eq_true rfl⟩, (hts (.static yX6_isKind) (by decide +kernel)), trivial⟩ ⟨pr_bl, pr_pre hPc hK hN⟩ rfl rfl hl.1 rfl (lv_room (Nat.le_of_ble_eq_true rfl)) dX3_layDown_35 ⟨Nat.le_of_ble_eq_true rfl, Nat.le_of_ble_eq_true rfl⟩) (fun r4 hr4 => ?_)
      rcases hr4 with ⟨rfl, h5⟩ | ⟨rfl, h5⟩
      · skip
        have hb6 := in_natlt ej (by omega) h5
        refine lv_if_ne (tgt := 42) hx hb dX3_layDown_38 (by decide) (fun _ => ?_) (fun c9 => absurd c9 (by decide))
        refine lv_iload_n hx hb dX3_layDown_42 rfl (lv_at hl 2 rfl) ?_
        have hPc := hP.sub (ws' := []) [] rfl
        refine q_calli (va_runSN (As := [.int p0]) (rest := []) ⟨hx, hb, hml, hown, hts⟩ (c_X6_tilesOfEach l G k p0) ⟨va_cnB 1 hts g_c_X3_layDown0_c_X6_tilesOfEach_39 rfl rfl rfl (nw_X3_39 hN) (hts (.initialized RX6) (by decide +kernel)) (by decide +kernel) ⟨Nat.le_of_ble_eq_true rfl, Nat.le_of_ble_eq_true rfl⟩, (hts (.static yX6_tilesOfEach) (by decide +kernel)), trivial⟩ ⟨pr_bl, pr_pre hPc hK hN⟩ rfl rfl hl.1 rfl (lv_room (Nat.le_of_ble_eq_true rfl)) dX3_layDown_43 ⟨Nat.le_of_ble_eq_true rfl, Nat.le_of_ble_eq_true rfl⟩) (fun r7 hr7 => ?_)
        refine lv_istore (lv' := [(4, .int r7), (3, .int p1), (0, .ref h0), (1, .int p0), (2, .int p1)]) hx hb dX3_layDown_46 hl (by decide) rfl (fun ls hl => ?_)
        refine lv_iload_n hx hb dX3_layDown_48 rfl (lv_at hl 4 rfl) ?_
        refine lv_istore (lv' := [(5, .int p1), (4, .int r7), (3, .int p1), (0, .ref h0), (1, .int p0), (2, .int p1)]) hx hb dX3_layDown_49 hl (by decide) rfl (fun ls hl => ?_)
        refine lv_iload hx hb dX3_layDown_51 (lv_at hl 0 rfl) ?_
        refine lv_iload_n hx hb dX3_layDown_53 rfl (lv_at hl 2 rfl) ?_
        refine lv_icmp_gt (tgt := 86) hx hb dX3_layDown_54 (by decide) (fun c9 => absurd c9 (n_ngt ej ej (by omega) (by omega))) (fun _ => ?_)
        refine lv_aload_n hx hb dX3_layDown_57 rfl (lv_at hl 3 rfl) ?_
        refine va_get (D := G) (ci := 2) (v := .ref fr) (C := RX3) (T := TX3) (N := 6) hx hb hts i_c_X3_layDown0_X3 hown hK hP 0 rfl rfl 0 (by decide) (hts (.fieldLink RX3 9 "TileHouse$Tiles" "free" "[I") (by decide +kernel)) (fun _ h9 => h9) rfl dX3_layDown_58 ?_
        refine lv_iload hx hb dX3_layDown_61 (lv_at hl 0 rfl) ?_
        refine lv_dup2_11 hx hb dX3_layDown_63 rfl rfl ?_
        refine va_iald hx hb hK hP 1 0 rfl rfl (inN ej (by omega) (by decide)) dX3_layDown_64 ?_
        refine lv_topi (fun v8 ev8 => ?_)
        refine lv_iload hx hb dX3_layDown_65 (lv_at hl 1 rfl) ?_
        refine lv_isub hx hb dX3_layDown_67 ?_
        refine lv_topi (fun v9 ev9 => ?_)
        refine va_iast hx hb hK hP hD hS 1 0 rfl rfl (inN ej (by omega) (by decide)) dX3_layDown_68 (fun H locs hP hD hS => ?_)
        replace hP : va_P G vwCl [(h0, .inr (2, [.ref fr, x1, .ref so, .ref lw, .int 0, .int lo])), (fr, .inl (k 0, 34, .inl (upd f p1.toNatClampNeg v9))), (so, .inl (k 0, 4, .inl f2)), (lw, .inl (k 0, 4, .inl f3))] H := hP
        replace hD : va_D A [(h0, .inr (2, [.ref fr, x1, .ref so, .ref lw, .int 0, .int lo])), (fr, .inl (k 0, 34, .inl (upd f p1.toNatClampNeg v9))), (so, .inl (k 0, 4, .inl f2)), (lw, .inl (k 0, 4, .inl f3))] := hD
        refine lv_aload_n hx hb dX3_layDown_69 rfl (lv_at hl 3 rfl) ?_
        refine lv_dup hx hb dX3_layDown_70 rfl ?_
        refine va_get (D := G) (ci := 2) (v := .int lo) (C := RX3) (T := TX3) (N := 6) hx hb hts i_c_X3_layDown0_X3 hown hK hP 0 rfl rfl 5 (by decide) (hts (.fieldLink RX3 28 "TileHouse$Tiles" "loose" "I") (by decide +kernel)) (fun _ h9 => h9) rfl dX3_layDown_71 ?_
        refine lv_iload hx hb dX3_layDown_74 (lv_at hl 1 rfl) ?_
        refine lv_isub hx hb dX3_layDown_76 ?_
        refine lv_topi (fun v10 ev10 => ?_)
        refine va_put (D := G) (ci := 2) (v := .int v10) (ty := .int) (C := RX3) (T := TX3) (N := 6) hx hb hts i_c_X3_layDown0_X3 tyX3 tyX3_ok nmX3 hown hK hP hD hS 0 rfl rfl 5 (by decide) (hts (.fieldLink RX3 28 "TileHouse$Tiles" "loose" "I") (by decide +kernel)) (fun _ h9 => h9) rfl (by decide +kernel) rfl rfl (Nat.le_of_ble_eq_true rfl) dX3_layDown_77 (fun H locs hP hD hS => ?_)
        replace hP : va_P G vwCl [(h0, .inr (2, [.ref fr, x1, .ref so, .ref lw, .int 0, .int v10])), (fr, .inl (k 0, 34, .inl (upd f p1.toNatClampNeg v9))), (so, .inl (k 0, 4, .inl f2)), (lw, .inl (k 0, 4, .inl f3))] H := hP
        replace hD : va_D A [(h0, .inr (2, [.ref fr, x1, .ref so, .ref lw, .int 0, .int v10])), (fr, .inl (k 0, 34, .inl (upd f p1.toNatClampNeg v9))), (so, .inl (k 0, 4, .inl f2)), (lw, .inl (k 0, 4, .inl f3))] := hD
        obtain ⟨v11, ev11⟩ : ∃ y : Int32, y = p1 + 1 := ⟨_, rfl⟩
        have nv11 : v11 = nI (j + 1) := by rw [ev11, ej]; exact nI_add (j) (1)
        refine lv_iinc (v := v11) (lv' := [(5, .int v11), (4, .int r7), (3, .int p1), (0, .ref h0), (1, .int p0), (2, .int p1)]) hx hb dX3_layDown_80 hl (k := 0) rfl (by rw [ev11]; rfl) (by decide) rfl (fun ls hl => ?_)
        refine lv_goto (tgt := 51) hx hb dX3_layDown_83 (by decide) ?_
        refine lv_iload hx hb dX3_layDown_51 (lv_at hl 0 rfl) ?_
        refine lv_iload_n hx hb dX3_layDown_53 rfl (lv_at hl 2 rfl) ?_
        refine lv_icmp_gt (tgt := 86) hx hb dX3_layDown_54 (by decide) (fun _ => ?_) (fun c9 => absurd (n_gt nv11 ej (by omega) (by omega)) c9)
        refine lv_aload_n hx hb dX3_layDown_86 rfl (lv_at hl 3 rfl) ?_
        refine va_get (D := G) (ci := 2) (v := .ref so) (C := RX3) (T := TX3) (N := 6) hx hb hts i_c_X3_layDown0_X3 hown hK hP 0 rfl rfl 2 (by decide) (hts (.fieldLink RX3 18 "TileHouse$Tiles" "sort" "[I") (by decide +kernel)) (fun _ h9 => h9) rfl dX3_layDown_87 ?_
        refine lv_aload_n hx hb dX3_layDown_90 rfl (lv_at hl 3 rfl) ?_
        refine va_get (D := G) (ci := 2) (v := .int 0) (C := RX3) (T := TX3) (N := 6) hx hb hts i_c_X3_layDown0_X3 hown hK hP 0 rfl rfl 4 (by decide) (hts (.fieldLink RX3 24 "TileHouse$Tiles" "laidDown" "I") (by decide +kernel)) (fun _ h9 => h9) rfl dX3_layDown_91 ?_
        refine lv_iload_n hx hb dX3_layDown_94 rfl (lv_at hl 4 rfl) ?_
        refine va_iast hx hb hK hP hD hS 2 0 rfl rfl (inC (by decide) (by decide)) dX3_layDown_95 (fun H locs hP hD hS => ?_)
        replace hP : va_P G vwCl [(h0, .inr (2, [.ref fr, x1, .ref so, .ref lw, .int 0, .int v10])), (fr, .inl (k 0, 34, .inl (upd f p1.toNatClampNeg v9))), (so, .inl (k 0, 4, .inl (upd f2 (0 : Int32).toNatClampNeg p0))), (lw, .inl (k 0, 4, .inl f3))] H := hP
        replace hD : va_D A [(h0, .inr (2, [.ref fr, x1, .ref so, .ref lw, .int 0, .int v10])), (fr, .inl (k 0, 34, .inl (upd f p1.toNatClampNeg v9))), (so, .inl (k 0, 4, .inl (upd f2 (0 : Int32).toNatClampNeg p0))), (lw, .inl (k 0, 4, .inl f3))] := hD
        refine lv_aload_n hx hb dX3_layDown_96 rfl (lv_at hl 3 rfl) ?_
        refine va_get (D := G) (ci := 2) (v := .ref lw) (C := RX3) (T := TX3) (N := 6) hx hb hts i_c_X3_layDown0_X3 hown hK hP 0 rfl rfl 3 (by decide) (hts (.fieldLink RX3 21 "TileHouse$Tiles" "low" "[I") (by decide +kernel)) (fun _ h9 => h9) rfl dX3_layDown_97 ?_
        refine lv_aload_n hx hb dX3_layDown_100 rfl (lv_at hl 3 rfl) ?_
        refine va_get (D := G) (ci := 2) (v := .int 0) (C := RX3) (T := TX3) (N := 6) hx hb hts i_c_X3_layDown0_X3 hown hK hP 0 rfl rfl 4 (by decide) (hts (.fieldLink RX3 24 "TileHouse$Tiles" "laidDown" "I") (by decide +kernel)) (fun _ h9 => h9) rfl dX3_layDown_101 ?_
        refine lv_iload_n hx hb dX3_layDown_104 rfl (lv_at hl 5 rfl) ?_
        refine va_iast hx hb hK hP hD hS 3 0 rfl rfl (inC (by decide) (by decide)) dX3_layDown_105 (fun H locs hP hD hS => ?_)
        replace hP : va_P G vwCl [(h0, .inr (2, [.ref fr, x1, .ref so, .ref lw, .int 0, .int v10])), (fr, .inl (k 0, 34, .inl (upd f p1.toNatClampNeg v9))), (so, .inl (k 0, 4, .inl (upd f2 (0 : Int32).toNatClampNeg p0))), (lw, .inl (k 0, 4, .inl (upd f3 (0 : Int32).toNatClampNeg p1)))] H := hP
        replace hD : va_D A [(h0, .inr (2, [.ref fr, x1, .ref so, .ref lw, .int 0, .int v10])), (fr, .inl (k 0, 34, .inl (upd f p1.toNatClampNeg v9))), (so, .inl (k 0, 4, .inl (upd f2 (0 : Int32).toNatClampNeg p0))), (lw, .inl (k 0, 4, .inl (upd f3 (0 : Int32).toNatClampNeg p1)))] := hD
        refine lv_aload_n hx hb dX3_layDown_106 rfl (lv_at hl 3 rfl) ?_
        refine lv_dup hx hb dX3_layDown_107 rfl ?_
        refine va_get (D := G) (ci := 2) (v := .int 0) (C := RX3) (T := TX3) (N := 6) hx hb hts i_c_X3_layDown0_X3 hown hK hP 0 rfl rfl 4 (by decide) (hts (.fieldLink RX3 24 "TileHouse$Tiles" "laidDown" "I") (by decide +kernel)) (fun _ h9 => h9) rfl dX3_layDown_108 ?_
        refine lv_iconst (v := 1) hx hb dX3_layDown_111 (by decide) ?_
        refine lv_iadd hx hb dX3_layDown_112 ?_
        refine lv_topi (fun z12 ez12 => ?_)
        obtain rfl : z12 = 1 := ez12.trans (by decide)
        refine va_put (D := G) (ci := 2) (v := .int 1) (ty := .int) (C := RX3) (T := TX3) (N := 6) hx hb hts i_c_X3_layDown0_X3 tyX3 tyX3_ok nmX3 hown hK hP hD hS 0 rfl rfl 4 (by decide) (hts (.fieldLink RX3 24 "TileHouse$Tiles" "laidDown" "I") (by decide +kernel)) (fun _ h9 => h9) rfl (by decide +kernel) rfl rfl (Nat.le_of_ble_eq_true rfl) dX3_layDown_113 (fun H locs hP hD hS => ?_)
        replace hP : va_P G vwCl [(h0, .inr (2, [.ref fr, x1, .ref so, .ref lw, .int 1, .int v10])), (fr, .inl (k 0, 34, .inl (upd f p1.toNatClampNeg v9))), (so, .inl (k 0, 4, .inl (upd f2 (0 : Int32).toNatClampNeg p0))), (lw, .inl (k 0, 4, .inl (upd f3 (0 : Int32).toNatClampNeg p1)))] H := hP
        replace hD : va_D A [(h0, .inr (2, [.ref fr, x1, .ref so, .ref lw, .int 1, .int v10])), (fr, .inl (k 0, 34, .inl (upd f p1.toNatClampNeg v9))), (so, .inl (k 0, 4, .inl (upd f2 (0 : Int32).toNatClampNeg p0))), (lw, .inl (k 0, 4, .inl (upd f3 (0 : Int32).toNatClampNeg p1)))] := hD
        refine W.widen (k := 0) (n := 0) (Nat.le_of_ble_eq_true rfl) (Nat.le_of_ble_eq_true rfl) ?_
        exact W.vret hx hb hr (fun t ht hW => ⟨⟨(), rfl, trivial, trivial⟩, hS.F ht⟩) hS.2.2 dX3_layDown_116
      · skip
        refine lv_if_ne (tgt := 42) hx hb dX3_layDown_38 (by decide) (fun c9 => absurd (by decide) c9) (fun _ => ?_)
        refine W.widen (k := 0) (n := 0) (Nat.le_of_ble_eq_true rfl) (Nat.le_of_ble_eq_true rfl) ?_
        exact W.vret hx hb hr (fun t ht hW => ⟨⟨(), rfl, trivial, trivial⟩, hS.F ht⟩) hS.2.2 dX3_layDown_41
    · skip
      refine lv_if_eq (tgt := 41) hx hb dX3_layDown_31 (by decide) (fun _ => ?_) (fun c9 => absurd (by decide) c9)
      refine W.widen (k := 0) (n := 0) (Nat.le_of_ble_eq_true rfl) (Nat.le_of_ble_eq_true rfl) ?_
      exact W.vret hx hb hr (fun t ht hW => ⟨⟨(), rfl, trivial, trivial⟩, hS.F ht⟩) hS.2.2 dX3_layDown_41
  · skip
    refine lv_iload_n hx hb dX3_layDown_4 rfl (lv_at hl 2 rfl) ?_
    refine lv_iconst (v := 2) hx hb dX3_layDown_5 (by decide) ?_
    refine lv_iadd hx hb dX3_layDown_6 ?_
    refine lv_topi (fun v13 ev13 => ?_)
    refine lv_goto (tgt := 11) hx hb dX3_layDown_7 (by decide) ?_
    refine lv_istore_n (lv' := [(3, .int v13), (0, .ref h0), (1, .int p0), (2, .int p1)]) hx hb dX3_layDown_11 rfl hl (by decide) rfl (fun ls hl => ?_)
    refine lv_aload_n hx hb dX3_layDown_12 rfl (lv_at hl 1 rfl) ?_
    refine va_get (D := G) (ci := 2) (v := .int 0) (C := RX3) (T := TX3) (N := 6) hx hb hts i_c_X3_layDown0_X3 hown hK hP 0 rfl rfl 4 (by decide) (hts (.fieldLink RX3 24 "TileHouse$Tiles" "laidDown" "I") (by decide +kernel)) (fun _ h9 => h9) rfl dX3_layDown_13 ?_
    refine lv_if_lt (tgt := 41) hx hb dX3_layDown_16 (by decide) (fun c9 => absurd c9 (by decide)) (fun _ => ?_)
    refine lv_aload_n hx hb dX3_layDown_19 rfl (lv_at hl 1 rfl) ?_
    refine va_get (D := G) (ci := 2) (v := .int 0) (C := RX3) (T := TX3) (N := 6) hx hb hts i_c_X3_layDown0_X3 hown hK hP 0 rfl rfl 4 (by decide) (hts (.fieldLink RX3 24 "TileHouse$Tiles" "laidDown" "I") (by decide +kernel)) (fun _ h9 => h9) rfl dX3_layDown_20 ?_
    refine lv_iconst (v := 4) hx hb dX3_layDown_23 (by decide) ?_
    refine lv_icmp_ge (tgt := 41) hx hb dX3_layDown_24 (by decide) (fun c9 => absurd c9 (by decide)) (fun _ => ?_)
    refine lv_iload_n hx hb dX3_layDown_27 rfl (lv_at hl 3 rfl) ?_
    have hPc := hP.sub (ws' := []) [] rfl
    refine q_calli (va_runSN (As := [.int p1]) (rest := []) ⟨hx, hb, hml, hown, hts⟩ (c_X6_isKind l G k p1) ⟨va_cnB 1 hts g_c_X3_layDown0_c_X6_isKind_31 rfl rfl rfl (nw_X3_31 hN) (hts (.initialized RX6) (by decide +kernel)) (by decide +kernel) ⟨Nat.le_of_ble_eq_true rfl, Nat.le_of_ble_eq_true rfl⟩, (hts (.static yX6_isKind) (by decide +kernel)), trivial⟩ ⟨pr_bl, pr_pre hPc hK hN⟩ rfl rfl hl.1 rfl (lv_room (Nat.le_of_ble_eq_true rfl)) dX3_layDown_28 ⟨Nat.le_of_ble_eq_true rfl, Nat.le_of_ble_eq_true rfl⟩) (fun r14 hr14 => ?_)
    rcases hr14 with ⟨rfl, h15⟩ | ⟨rfl, h15⟩
    · skip
      obtain ⟨j, hj, ej⟩ := vp_in_of h15 (by decide)
      have nv13 : v13 = nI (j + 2) := by rw [ev13, ej]; exact nI_add j 2
      refine lv_if_eq (tgt := 41) hx hb dX3_layDown_31 (by decide) (fun c9 => absurd c9 (by decide)) (fun _ => ?_)
      refine lv_iload_n hx hb dX3_layDown_34 rfl (lv_at hl 0 rfl) ?_
      have hPc := hP.sub (ws' := []) [] rfl
      refine q_calli (va_runSN (As := [.int v13]) (rest := []) ⟨hx, hb, hml, hown, hts⟩ (c_X6_isKind l G k v13) ⟨va_cnB 1 hts g_c_X3_layDown0_c_X6_isKind_31 rfl rfl rfl (nw_X3_31 hN) (hts (.initialized RX6) (by decide +kernel)) (by decide +kernel) ⟨Nat.le_of_ble_eq_true rfl, Nat.le_of_ble_eq_true rfl⟩, (hts (.static yX6_isKind) (by decide +kernel)), trivial⟩ ⟨pr_bl, pr_pre hPc hK hN⟩ rfl rfl hl.1 rfl (lv_room (Nat.le_of_ble_eq_true rfl)) dX3_layDown_35 ⟨Nat.le_of_ble_eq_true rfl, Nat.le_of_ble_eq_true rfl⟩) (fun r16 hr16 => ?_)
      rcases hr16 with ⟨rfl, h17⟩ | ⟨rfl, h17⟩
      · skip
        have hb18 := in_natlt nv13 (by omega) h17
        refine lv_if_ne (tgt := 42) hx hb dX3_layDown_38 (by decide) (fun _ => ?_) (fun c9 => absurd c9 (by decide))
        refine lv_iload_n hx hb dX3_layDown_42 rfl (lv_at hl 2 rfl) ?_
        have hPc := hP.sub (ws' := []) [] rfl
        refine q_calli (va_runSN (As := [.int p0]) (rest := []) ⟨hx, hb, hml, hown, hts⟩ (c_X6_tilesOfEach l G k p0) ⟨va_cnB 1 hts g_c_X3_layDown0_c_X6_tilesOfEach_39 rfl rfl rfl (nw_X3_39 hN) (hts (.initialized RX6) (by decide +kernel)) (by decide +kernel) ⟨Nat.le_of_ble_eq_true rfl, Nat.le_of_ble_eq_true rfl⟩, (hts (.static yX6_tilesOfEach) (by decide +kernel)), trivial⟩ ⟨pr_bl, pr_pre hPc hK hN⟩ rfl rfl hl.1 rfl (lv_room (Nat.le_of_ble_eq_true rfl)) dX3_layDown_43 ⟨Nat.le_of_ble_eq_true rfl, Nat.le_of_ble_eq_true rfl⟩) (fun r19 hr19 => ?_)
        refine lv_istore (lv' := [(4, .int r19), (3, .int v13), (0, .ref h0), (1, .int p0), (2, .int p1)]) hx hb dX3_layDown_46 hl (by decide) rfl (fun ls hl => ?_)
        refine lv_iload_n hx hb dX3_layDown_48 rfl (lv_at hl 4 rfl) ?_
        refine lv_istore (lv' := [(5, .int p1), (4, .int r19), (3, .int v13), (0, .ref h0), (1, .int p0), (2, .int p1)]) hx hb dX3_layDown_49 hl (by decide) rfl (fun ls hl => ?_)
        refine lv_iload hx hb dX3_layDown_51 (lv_at hl 0 rfl) ?_
        refine lv_iload_n hx hb dX3_layDown_53 rfl (lv_at hl 2 rfl) ?_
        refine lv_icmp_gt (tgt := 86) hx hb dX3_layDown_54 (by decide) (fun c9 => absurd c9 (n_ngt ej nv13 (by omega) (by omega))) (fun _ => ?_)
        refine lv_aload_n hx hb dX3_layDown_57 rfl (lv_at hl 3 rfl) ?_
        refine va_get (D := G) (ci := 2) (v := .ref fr) (C := RX3) (T := TX3) (N := 6) hx hb hts i_c_X3_layDown0_X3 hown hK hP 0 rfl rfl 0 (by decide) (hts (.fieldLink RX3 9 "TileHouse$Tiles" "free" "[I") (by decide +kernel)) (fun _ h9 => h9) rfl dX3_layDown_58 ?_
        refine lv_iload hx hb dX3_layDown_61 (lv_at hl 0 rfl) ?_
        refine lv_dup2_11 hx hb dX3_layDown_63 rfl rfl ?_
        refine va_iald hx hb hK hP 1 0 rfl rfl (inN ej (by omega) (by decide)) dX3_layDown_64 ?_
        refine lv_topi (fun v20 ev20 => ?_)
        refine lv_iload hx hb dX3_layDown_65 (lv_at hl 1 rfl) ?_
        refine lv_isub hx hb dX3_layDown_67 ?_
        refine lv_topi (fun v21 ev21 => ?_)
        refine va_iast hx hb hK hP hD hS 1 0 rfl rfl (inN ej (by omega) (by decide)) dX3_layDown_68 (fun H locs hP hD hS => ?_)
        replace hP : va_P G vwCl [(h0, .inr (2, [.ref fr, x1, .ref so, .ref lw, .int 0, .int lo])), (fr, .inl (k 0, 34, .inl (upd f p1.toNatClampNeg v21))), (so, .inl (k 0, 4, .inl f2)), (lw, .inl (k 0, 4, .inl f3))] H := hP
        replace hD : va_D A [(h0, .inr (2, [.ref fr, x1, .ref so, .ref lw, .int 0, .int lo])), (fr, .inl (k 0, 34, .inl (upd f p1.toNatClampNeg v21))), (so, .inl (k 0, 4, .inl f2)), (lw, .inl (k 0, 4, .inl f3))] := hD
        refine lv_aload_n hx hb dX3_layDown_69 rfl (lv_at hl 3 rfl) ?_
        refine lv_dup hx hb dX3_layDown_70 rfl ?_
        refine va_get (D := G) (ci := 2) (v := .int lo) (C := RX3) (T := TX3) (N := 6) hx hb hts i_c_X3_layDown0_X3 hown hK hP 0 rfl rfl 5 (by decide) (hts (.fieldLink RX3 28 "TileHouse$Tiles" "loose" "I") (by decide +kernel)) (fun _ h9 => h9) rfl dX3_layDown_71 ?_
        refine lv_iload hx hb dX3_layDown_74 (lv_at hl 1 rfl) ?_
        refine lv_isub hx hb dX3_layDown_76 ?_
        refine lv_topi (fun v22 ev22 => ?_)
        refine va_put (D := G) (ci := 2) (v := .int v22) (ty := .int) (C := RX3) (T := TX3) (N := 6) hx hb hts i_c_X3_layDown0_X3 tyX3 tyX3_ok nmX3 hown hK hP hD hS 0 rfl rfl 5 (by decide) (hts (.fieldLink RX3 28 "TileHouse$Tiles" "loose" "I") (by decide +kernel)) (fun _ h9 => h9) rfl (by decide +kernel) rfl rfl (Nat.le_of_ble_eq_true rfl) dX3_layDown_77 (fun H locs hP hD hS => ?_)
        replace hP : va_P G vwCl [(h0, .inr (2, [.ref fr, x1, .ref so, .ref lw, .int 0, .int v22])), (fr, .inl (k 0, 34, .inl (upd f p1.toNatClampNeg v21))), (so, .inl (k 0, 4, .inl f2)), (lw, .inl (k 0, 4, .inl f3))] H := hP
        replace hD : va_D A [(h0, .inr (2, [.ref fr, x1, .ref so, .ref lw, .int 0, .int v22])), (fr, .inl (k 0, 34, .inl (upd f p1.toNatClampNeg v21))), (so, .inl (k 0, 4, .inl f2)), (lw, .inl (k 0, 4, .inl f3))] := hD
        obtain ⟨v23, ev23⟩ : ∃ y : Int32, y = p1 + 1 := ⟨_, rfl⟩
        have nv23 : v23 = nI (j + 1) := by rw [ev23, ej]; exact nI_add (j) (1)
        refine lv_iinc (v := v23) (lv' := [(5, .int v23), (4, .int r19), (3, .int v13), (0, .ref h0), (1, .int p0), (2, .int p1)]) hx hb dX3_layDown_80 hl (k := 0) rfl (by rw [ev23]; rfl) (by decide) rfl (fun ls hl => ?_)
        refine lv_goto (tgt := 51) hx hb dX3_layDown_83 (by decide) ?_
        refine lv_iload hx hb dX3_layDown_51 (lv_at hl 0 rfl) ?_
        refine lv_iload_n hx hb dX3_layDown_53 rfl (lv_at hl 2 rfl) ?_
        refine lv_icmp_gt (tgt := 86) hx hb dX3_layDown_54 (by decide) (fun c9 => absurd c9 (n_ngt nv23 nv13 (by omega) (by omega))) (fun _ => ?_)
        refine lv_aload_n hx hb dX3_layDown_57 rfl (lv_at hl 3 rfl) ?_
        refine va_get (D := G) (ci := 2) (v := .ref fr) (C := RX3) (T := TX3) (N := 6) hx hb hts i_c_X3_layDown0_X3 hown hK hP 0 rfl rfl 0 (by decide) (hts (.fieldLink RX3 9 "TileHouse$Tiles" "free" "[I") (by decide +kernel)) (fun _ h9 => h9) rfl dX3_layDown_58 ?_
        refine lv_iload hx hb dX3_layDown_61 (lv_at hl 0 rfl) ?_
        refine lv_dup2_11 hx hb dX3_layDown_63 rfl rfl ?_
        refine va_iald hx hb hK hP 1 0 rfl rfl (inN nv23 (by omega) (by decide)) dX3_layDown_64 ?_
        refine lv_topi (fun v24 ev24 => ?_)
        refine lv_iload hx hb dX3_layDown_65 (lv_at hl 1 rfl) ?_
        refine lv_isub hx hb dX3_layDown_67 ?_
        refine lv_topi (fun v25 ev25 => ?_)
        refine va_iast hx hb hK hP hD hS 1 0 rfl rfl (inN nv23 (by omega) (by decide)) dX3_layDown_68 (fun H locs hP hD hS => ?_)
        replace hP : va_P G vwCl [(h0, .inr (2, [.ref fr, x1, .ref so, .ref lw, .int 0, .int v22])), (fr, .inl (k 0, 34, .inl (upd (upd f p1.toNatClampNeg v21) v23.toNatClampNeg v25))), (so, .inl (k 0, 4, .inl f2)), (lw, .inl (k 0, 4, .inl f3))] H := hP
        replace hD : va_D A [(h0, .inr (2, [.ref fr, x1, .ref so, .ref lw, .int 0, .int v22])), (fr, .inl (k 0, 34, .inl (upd (upd f p1.toNatClampNeg v21) v23.toNatClampNeg v25))), (so, .inl (k 0, 4, .inl f2)), (lw, .inl (k 0, 4, .inl f3))] := hD
        refine lv_aload_n hx hb dX3_layDown_69 rfl (lv_at hl 3 rfl) ?_
        refine lv_dup hx hb dX3_layDown_70 rfl ?_
        refine va_get (D := G) (ci := 2) (v := .int v22) (C := RX3) (T := TX3) (N := 6) hx hb hts i_c_X3_layDown0_X3 hown hK hP 0 rfl rfl 5 (by decide) (hts (.fieldLink RX3 28 "TileHouse$Tiles" "loose" "I") (by decide +kernel)) (fun _ h9 => h9) rfl dX3_layDown_71 ?_
        refine lv_iload hx hb dX3_layDown_74 (lv_at hl 1 rfl) ?_
        refine lv_isub hx hb dX3_layDown_76 ?_
        refine lv_topi (fun v26 ev26 => ?_)
        refine va_put (D := G) (ci := 2) (v := .int v26) (ty := .int) (C := RX3) (T := TX3) (N := 6) hx hb hts i_c_X3_layDown0_X3 tyX3 tyX3_ok nmX3 hown hK hP hD hS 0 rfl rfl 5 (by decide) (hts (.fieldLink RX3 28 "TileHouse$Tiles" "loose" "I") (by decide +kernel)) (fun _ h9 => h9) rfl (by decide +kernel) rfl rfl (Nat.le_of_ble_eq_true rfl) dX3_layDown_77 (fun H locs hP hD hS => ?_)
        replace hP : va_P G vwCl [(h0, .inr (2, [.ref fr, x1, .ref so, .ref lw, .int 0, .int v26])), (fr, .inl (k 0, 34, .inl (upd (upd f p1.toNatClampNeg v21) v23.toNatClampNeg v25))), (so, .inl (k 0, 4, .inl f2)), (lw, .inl (k 0, 4, .inl f3))] H := hP
        replace hD : va_D A [(h0, .inr (2, [.ref fr, x1, .ref so, .ref lw, .int 0, .int v26])), (fr, .inl (k 0, 34, .inl (upd (upd f p1.toNatClampNeg v21) v23.toNatClampNeg v25))), (so, .inl (k 0, 4, .inl f2)), (lw, .inl (k 0, 4, .inl f3))] := hD
        obtain ⟨v27, ev27⟩ : ∃ y : Int32, y = v23 + 1 := ⟨_, rfl⟩
        have nv27 : v27 = nI (j + 1 + 1) := by rw [ev27, nv23]; exact nI_add (j + 1) (1)
        refine lv_iinc (v := v27) (lv' := [(5, .int v27), (4, .int r19), (3, .int v13), (0, .ref h0), (1, .int p0), (2, .int p1)]) hx hb dX3_layDown_80 hl (k := 0) rfl (by rw [ev27]; rfl) (by decide) rfl (fun ls hl => ?_)
        refine lv_goto (tgt := 51) hx hb dX3_layDown_83 (by decide) ?_
        refine lv_iload hx hb dX3_layDown_51 (lv_at hl 0 rfl) ?_
        refine lv_iload_n hx hb dX3_layDown_53 rfl (lv_at hl 2 rfl) ?_
        refine lv_icmp_gt (tgt := 86) hx hb dX3_layDown_54 (by decide) (fun c9 => absurd c9 (n_ngt nv27 nv13 (by omega) (by omega))) (fun _ => ?_)
        refine lv_aload_n hx hb dX3_layDown_57 rfl (lv_at hl 3 rfl) ?_
        refine va_get (D := G) (ci := 2) (v := .ref fr) (C := RX3) (T := TX3) (N := 6) hx hb hts i_c_X3_layDown0_X3 hown hK hP 0 rfl rfl 0 (by decide) (hts (.fieldLink RX3 9 "TileHouse$Tiles" "free" "[I") (by decide +kernel)) (fun _ h9 => h9) rfl dX3_layDown_58 ?_
        refine lv_iload hx hb dX3_layDown_61 (lv_at hl 0 rfl) ?_
        refine lv_dup2_11 hx hb dX3_layDown_63 rfl rfl ?_
        refine va_iald hx hb hK hP 1 0 rfl rfl (inN nv27 (by omega) (by decide)) dX3_layDown_64 ?_
        refine lv_topi (fun v28 ev28 => ?_)
        refine lv_iload hx hb dX3_layDown_65 (lv_at hl 1 rfl) ?_
        refine lv_isub hx hb dX3_layDown_67 ?_
        refine lv_topi (fun v29 ev29 => ?_)
        refine va_iast hx hb hK hP hD hS 1 0 rfl rfl (inN nv27 (by omega) (by decide)) dX3_layDown_68 (fun H locs hP hD hS => ?_)
        replace hP : va_P G vwCl [(h0, .inr (2, [.ref fr, x1, .ref so, .ref lw, .int 0, .int v26])), (fr, .inl (k 0, 34, .inl (upd (upd (upd f p1.toNatClampNeg v21) v23.toNatClampNeg v25) v27.toNatClampNeg v29))), (so, .inl (k 0, 4, .inl f2)), (lw, .inl (k 0, 4, .inl f3))] H := hP
        replace hD : va_D A [(h0, .inr (2, [.ref fr, x1, .ref so, .ref lw, .int 0, .int v26])), (fr, .inl (k 0, 34, .inl (upd (upd (upd f p1.toNatClampNeg v21) v23.toNatClampNeg v25) v27.toNatClampNeg v29))), (so, .inl (k 0, 4, .inl f2)), (lw, .inl (k 0, 4, .inl f3))] := hD
        refine lv_aload_n hx hb dX3_layDown_69 rfl (lv_at hl 3 rfl) ?_
        refine lv_dup hx hb dX3_layDown_70 rfl ?_
        refine va_get (D := G) (ci := 2) (v := .int v26) (C := RX3) (T := TX3) (N := 6) hx hb hts i_c_X3_layDown0_X3 hown hK hP 0 rfl rfl 5 (by decide) (hts (.fieldLink RX3 28 "TileHouse$Tiles" "loose" "I") (by decide +kernel)) (fun _ h9 => h9) rfl dX3_layDown_71 ?_
        refine lv_iload hx hb dX3_layDown_74 (lv_at hl 1 rfl) ?_
        refine lv_isub hx hb dX3_layDown_76 ?_
        refine lv_topi (fun v30 ev30 => ?_)
        refine va_put (D := G) (ci := 2) (v := .int v30) (ty := .int) (C := RX3) (T := TX3) (N := 6) hx hb hts i_c_X3_layDown0_X3 tyX3 tyX3_ok nmX3 hown hK hP hD hS 0 rfl rfl 5 (by decide) (hts (.fieldLink RX3 28 "TileHouse$Tiles" "loose" "I") (by decide +kernel)) (fun _ h9 => h9) rfl (by decide +kernel) rfl rfl (Nat.le_of_ble_eq_true rfl) dX3_layDown_77 (fun H locs hP hD hS => ?_)
        replace hP : va_P G vwCl [(h0, .inr (2, [.ref fr, x1, .ref so, .ref lw, .int 0, .int v30])), (fr, .inl (k 0, 34, .inl (upd (upd (upd f p1.toNatClampNeg v21) v23.toNatClampNeg v25) v27.toNatClampNeg v29))), (so, .inl (k 0, 4, .inl f2)), (lw, .inl (k 0, 4, .inl f3))] H := hP
        replace hD : va_D A [(h0, .inr (2, [.ref fr, x1, .ref so, .ref lw, .int 0, .int v30])), (fr, .inl (k 0, 34, .inl (upd (upd (upd f p1.toNatClampNeg v21) v23.toNatClampNeg v25) v27.toNatClampNeg v29))), (so, .inl (k 0, 4, .inl f2)), (lw, .inl (k 0, 4, .inl f3))] := hD
        obtain ⟨v31, ev31⟩ : ∃ y : Int32, y = v27 + 1 := ⟨_, rfl⟩
        have nv31 : v31 = nI (j + 1 + 1 + 1) := by rw [ev31, nv27]; exact nI_add (j + 1 + 1) (1)
        refine lv_iinc (v := v31) (lv' := [(5, .int v31), (4, .int r19), (3, .int v13), (0, .ref h0), (1, .int p0), (2, .int p1)]) hx hb dX3_layDown_80 hl (k := 0) rfl (by rw [ev31]; rfl) (by decide) rfl (fun ls hl => ?_)
        refine lv_goto (tgt := 51) hx hb dX3_layDown_83 (by decide) ?_
        refine lv_iload hx hb dX3_layDown_51 (lv_at hl 0 rfl) ?_
        refine lv_iload_n hx hb dX3_layDown_53 rfl (lv_at hl 2 rfl) ?_
        refine lv_icmp_gt (tgt := 86) hx hb dX3_layDown_54 (by decide) (fun _ => ?_) (fun c9 => absurd (n_gt nv31 nv13 (by omega) (by omega)) c9)
        refine lv_aload_n hx hb dX3_layDown_86 rfl (lv_at hl 3 rfl) ?_
        refine va_get (D := G) (ci := 2) (v := .ref so) (C := RX3) (T := TX3) (N := 6) hx hb hts i_c_X3_layDown0_X3 hown hK hP 0 rfl rfl 2 (by decide) (hts (.fieldLink RX3 18 "TileHouse$Tiles" "sort" "[I") (by decide +kernel)) (fun _ h9 => h9) rfl dX3_layDown_87 ?_
        refine lv_aload_n hx hb dX3_layDown_90 rfl (lv_at hl 3 rfl) ?_
        refine va_get (D := G) (ci := 2) (v := .int 0) (C := RX3) (T := TX3) (N := 6) hx hb hts i_c_X3_layDown0_X3 hown hK hP 0 rfl rfl 4 (by decide) (hts (.fieldLink RX3 24 "TileHouse$Tiles" "laidDown" "I") (by decide +kernel)) (fun _ h9 => h9) rfl dX3_layDown_91 ?_
        refine lv_iload_n hx hb dX3_layDown_94 rfl (lv_at hl 4 rfl) ?_
        refine va_iast hx hb hK hP hD hS 2 0 rfl rfl (inC (by decide) (by decide)) dX3_layDown_95 (fun H locs hP hD hS => ?_)
        replace hP : va_P G vwCl [(h0, .inr (2, [.ref fr, x1, .ref so, .ref lw, .int 0, .int v30])), (fr, .inl (k 0, 34, .inl (upd (upd (upd f p1.toNatClampNeg v21) v23.toNatClampNeg v25) v27.toNatClampNeg v29))), (so, .inl (k 0, 4, .inl (upd f2 (0 : Int32).toNatClampNeg p0))), (lw, .inl (k 0, 4, .inl f3))] H := hP
        replace hD : va_D A [(h0, .inr (2, [.ref fr, x1, .ref so, .ref lw, .int 0, .int v30])), (fr, .inl (k 0, 34, .inl (upd (upd (upd f p1.toNatClampNeg v21) v23.toNatClampNeg v25) v27.toNatClampNeg v29))), (so, .inl (k 0, 4, .inl (upd f2 (0 : Int32).toNatClampNeg p0))), (lw, .inl (k 0, 4, .inl f3))] := hD
        refine lv_aload_n hx hb dX3_layDown_96 rfl (lv_at hl 3 rfl) ?_
        refine va_get (D := G) (ci := 2) (v := .ref lw) (C := RX3) (T := TX3) (N := 6) hx hb hts i_c_X3_layDown0_X3 hown hK hP 0 rfl rfl 3 (by decide) (hts (.fieldLink RX3 21 "TileHouse$Tiles" "low" "[I") (by decide +kernel)) (fun _ h9 => h9) rfl dX3_layDown_97 ?_
        refine lv_aload_n hx hb dX3_layDown_100 rfl (lv_at hl 3 rfl) ?_
        refine va_get (D := G) (ci := 2) (v := .int 0) (C := RX3) (T := TX3) (N := 6) hx hb hts i_c_X3_layDown0_X3 hown hK hP 0 rfl rfl 4 (by decide) (hts (.fieldLink RX3 24 "TileHouse$Tiles" "laidDown" "I") (by decide +kernel)) (fun _ h9 => h9) rfl dX3_layDown_101 ?_
        refine lv_iload_n hx hb dX3_layDown_104 rfl (lv_at hl 5 rfl) ?_
        refine va_iast hx hb hK hP hD hS 3 0 rfl rfl (inC (by decide) (by decide)) dX3_layDown_105 (fun H locs hP hD hS => ?_)
        replace hP : va_P G vwCl [(h0, .inr (2, [.ref fr, x1, .ref so, .ref lw, .int 0, .int v30])), (fr, .inl (k 0, 34, .inl (upd (upd (upd f p1.toNatClampNeg v21) v23.toNatClampNeg v25) v27.toNatClampNeg v29))), (so, .inl (k 0, 4, .inl (upd f2 (0 : Int32).toNatClampNeg p0))), (lw, .inl (k 0, 4, .inl (upd f3 (0 : Int32).toNatClampNeg p1)))] H := hP
        replace hD : va_D A [(h0, .inr (2, [.ref fr, x1, .ref so, .ref lw, .int 0, .int v30])), (fr, .inl (k 0, 34, .inl (upd (upd (upd f p1.toNatClampNeg v21) v23.toNatClampNeg v25) v27.toNatClampNeg v29))), (so, .inl (k 0, 4, .inl (upd f2 (0 : Int32).toNatClampNeg p0))), (lw, .inl (k 0, 4, .inl (upd f3 (0 : Int32).toNatClampNeg p1)))] := hD
        refine lv_aload_n hx hb dX3_layDown_106 rfl (lv_at hl 3 rfl) ?_
        refine lv_dup hx hb dX3_layDown_107 rfl ?_
        refine va_get (D := G) (ci := 2) (v := .int 0) (C := RX3) (T := TX3) (N := 6) hx hb hts i_c_X3_layDown0_X3 hown hK hP 0 rfl rfl 4 (by decide) (hts (.fieldLink RX3 24 "TileHouse$Tiles" "laidDown" "I") (by decide +kernel)) (fun _ h9 => h9) rfl dX3_layDown_108 ?_
        refine lv_iconst (v := 1) hx hb dX3_layDown_111 (by decide) ?_
        refine lv_iadd hx hb dX3_layDown_112 ?_
        refine lv_topi (fun z32 ez32 => ?_)
        obtain rfl : z32 = 1 := ez32.trans (by decide)
        refine va_put (D := G) (ci := 2) (v := .int 1) (ty := .int) (C := RX3) (T := TX3) (N := 6) hx hb hts i_c_X3_layDown0_X3 tyX3 tyX3_ok nmX3 hown hK hP hD hS 0 rfl rfl 4 (by decide) (hts (.fieldLink RX3 24 "TileHouse$Tiles" "laidDown" "I") (by decide +kernel)) (fun _ h9 => h9) rfl (by decide +kernel) rfl rfl (Nat.le_of_ble_eq_true rfl) dX3_layDown_113 (fun H locs hP hD hS => ?_)
        replace hP : va_P G vwCl [(h0, .inr (2, [.ref fr, x1, .ref so, .ref lw, .int 1, .int v30])), (fr, .inl (k 0, 34, .inl (upd (upd (upd f p1.toNatClampNeg v21) v23.toNatClampNeg v25) v27.toNatClampNeg v29))), (so, .inl (k 0, 4, .inl (upd f2 (0 : Int32).toNatClampNeg p0))), (lw, .inl (k 0, 4, .inl (upd f3 (0 : Int32).toNatClampNeg p1)))] H := hP
        replace hD : va_D A [(h0, .inr (2, [.ref fr, x1, .ref so, .ref lw, .int 1, .int v30])), (fr, .inl (k 0, 34, .inl (upd (upd (upd f p1.toNatClampNeg v21) v23.toNatClampNeg v25) v27.toNatClampNeg v29))), (so, .inl (k 0, 4, .inl (upd f2 (0 : Int32).toNatClampNeg p0))), (lw, .inl (k 0, 4, .inl (upd f3 (0 : Int32).toNatClampNeg p1)))] := hD
        refine W.widen (k := 0) (n := 0) (Nat.le_of_ble_eq_true rfl) (Nat.le_of_ble_eq_true rfl) ?_
        exact W.vret hx hb hr (fun t ht hW => ⟨⟨(), rfl, trivial, trivial⟩, hS.F ht⟩) hS.2.2 dX3_layDown_116
      · skip
        refine lv_if_ne (tgt := 42) hx hb dX3_layDown_38 (by decide) (fun c9 => absurd (by decide) c9) (fun _ => ?_)
        refine W.widen (k := 0) (n := 0) (Nat.le_of_ble_eq_true rfl) (Nat.le_of_ble_eq_true rfl) ?_
        exact W.vret hx hb hr (fun t ht hW => ⟨⟨(), rfl, trivial, trivial⟩, hS.F ht⟩) hS.2.2 dX3_layDown_41
    · skip
      refine lv_if_eq (tgt := 41) hx hb dX3_layDown_31 (by decide) (fun _ => ?_) (fun c9 => absurd (by decide) c9)
      refine W.widen (k := 0) (n := 0) (Nat.le_of_ble_eq_true rfl) (Nat.le_of_ble_eq_true rfl) ?_
      exact W.vret hx hb hr (fun t ht hW => ⟨⟨(), rfl, trivial, trivial⟩, hS.F ht⟩) hS.2.2 dX3_layDown_41
def v_c_X6_set0 : List Cond := .code yX6_set cX6_set 6 (some .boolean) :: ([.methodLink RX6 292 yX6_isKind, .static yX6_isKind, .initialized RX6, .fieldLink RX6 38 "TileHouse" "deskTiles" "LTileHouse$Tiles;", .methodLink RX6 298 yX3_size, .instanceMethod yX3_size, .selects RX3 yX3_size yX3_size, .initialized RX3, .methodLink RX6 301 yX6_tilesOfEach, .static yX6_tilesOfEach, .methodLink RX6 295 yX3_all, .instanceMethod yX3_all, .selects RX3 yX3_all yX3_all, .methodLink RX6 79 yX3_put, .instanceMethod yX3_put, .selects RX3 yX3_put yX3_put, .methodLink RX6 181 yX3_layDown, .instanceMethod yX3_layDown, .selects RX3 yX3_layDown yX3_layDown, .methodLink RX6 150 yX6_startsRun, .static yX6_startsRun] ++ (v_c_X6_isKind ++ (wsX60 ++ (v_c_X3_size ++ (v_c_X6_tilesOfEach ++ (v_c_X3_all ++ (v_c_X3_put ++ (v_c_X3_layDown0 ++ (v_c_X6_startsRun ++ ([]))))))))))
theorem vg_c_X6_set0 : ∀ w ∈ v_c_X6_set0, goodWord w = true := vg_c (c := .code yX6_set cX6_set 6 (some .boolean)) (l := [.methodLink RX6 292 yX6_isKind, .static yX6_isKind, .initialized RX6, .fieldLink RX6 38 "TileHouse" "deskTiles" "LTileHouse$Tiles;", .methodLink RX6 298 yX3_size, .instanceMethod yX3_size, .selects RX3 yX3_size yX3_size, .initialized RX3, .methodLink RX6 301 yX6_tilesOfEach, .static yX6_tilesOfEach, .methodLink RX6 295 yX3_all, .instanceMethod yX3_all, .selects RX3 yX3_all yX3_all, .methodLink RX6 79 yX3_put, .instanceMethod yX3_put, .selects RX3 yX3_put yX3_put, .methodLink RX6 181 yX3_layDown, .instanceMethod yX3_layDown, .selects RX3 yX3_layDown yX3_layDown, .methodLink RX6 150 yX6_startsRun, .static yX6_startsRun]) (by decide +kernel) (vg_a vg_c_X6_isKind (vg_a vgX6 (vg_a vg_c_X3_size (vg_a vg_c_X6_tilesOfEach (vg_a vg_c_X3_all (vg_a vg_c_X3_put (vg_a vg_c_X3_layDown0 (vg_a vg_c_X6_startsRun (vg_nil)))))))))
theorem i_c_X6_set0_X6 : ∀ w ∈ u_ws RX6 TX6 19, w ∈ v_c_X6_set0 := fun _ h => List.mem_cons_of_mem _ (List.mem_append_right _ (List.mem_append_right _ (List.mem_append_left _ h)))
theorem g_c_X6_set0_c_X6_isKind_292 : GoodIn v_c_X6_set0 (wsS RX6 292 yX6_isKind v_c_X6_isKind) := goodIn_app (goodIn_of _ (by decide +kernel)) (fun w h => ⟨List.mem_cons_of_mem _ (List.mem_append_right _ (List.mem_append_left _ h)), good_of_word (vg_c_X6_isKind w h)⟩)
theorem g_c_X6_set0_c_X3_size_298 : GoodIn v_c_X6_set0 (wsV RX6 298 RX3 yX3_size v_c_X3_size) := goodIn_app (goodIn_of _ (by decide +kernel)) (fun w h => ⟨List.mem_cons_of_mem _ (List.mem_append_right _ (List.mem_append_right _ (List.mem_append_right _ (List.mem_append_left _ h)))), good_of_word (vg_c_X3_size w h)⟩)
theorem g_c_X6_set0_c_X6_tilesOfEach_301 : GoodIn v_c_X6_set0 (wsS RX6 301 yX6_tilesOfEach v_c_X6_tilesOfEach) := goodIn_app (goodIn_of _ (by decide +kernel)) (fun w h => ⟨List.mem_cons_of_mem _ (List.mem_append_right _ (List.mem_append_right _ (List.mem_append_right _ (List.mem_append_right _ (List.mem_append_left _ h))))), good_of_word (vg_c_X6_tilesOfEach w h)⟩)
theorem g_c_X6_set0_c_X3_all_295 : GoodIn v_c_X6_set0 (wsV RX6 295 RX3 yX3_all v_c_X3_all) := goodIn_app (goodIn_of _ (by decide +kernel)) (fun w h => ⟨List.mem_cons_of_mem _ (List.mem_append_right _ (List.mem_append_right _ (List.mem_append_right _ (List.mem_append_right _ (List.mem_append_right _ (List.mem_append_left _ h)))))), good_of_word (vg_c_X3_all w h)⟩)
theorem g_c_X6_set0_c_X3_put_79 : GoodIn v_c_X6_set0 (wsV RX6 79 RX3 yX3_put v_c_X3_put) := goodIn_app (goodIn_of _ (by decide +kernel)) (fun w h => ⟨List.mem_cons_of_mem _ (List.mem_append_right _ (List.mem_append_right _ (List.mem_append_right _ (List.mem_append_right _ (List.mem_append_right _ (List.mem_append_right _ (List.mem_append_left _ h))))))), good_of_word (vg_c_X3_put w h)⟩)
theorem g_c_X6_set0_c_X3_layDown0_181 : GoodIn v_c_X6_set0 (wsV RX6 181 RX3 yX3_layDown v_c_X3_layDown0) := goodIn_app (goodIn_of _ (by decide +kernel)) (fun w h => ⟨List.mem_cons_of_mem _ (List.mem_append_right _ (List.mem_append_right _ (List.mem_append_right _ (List.mem_append_right _ (List.mem_append_right _ (List.mem_append_right _ (List.mem_append_right _ (List.mem_append_left _ h)))))))), good_of_word (vg_c_X3_layDown0 w h)⟩)
theorem g_c_X6_set0_c_X6_startsRun_150 : GoodIn v_c_X6_set0 (wsS RX6 150 yX6_startsRun v_c_X6_startsRun) := goodIn_app (goodIn_of _ (by decide +kernel)) (fun w h => ⟨List.mem_cons_of_mem _ (List.mem_append_right _ (List.mem_append_right _ (List.mem_append_right _ (List.mem_append_right _ (List.mem_append_right _ (List.mem_append_right _ (List.mem_append_right _ (List.mem_append_right _ (List.mem_append_left _ h))))))))), good_of_word (vg_c_X6_startsRun w h)⟩)
set_option maxHeartbeats 4000000 in
set_option maxRecDepth 100000 in
theorem c_X6_set0 (l : Launch) (G : va_G) (k : Nat → ClassId) (sz : Nat) (h0 : Nat) (t0 : Nat) (fr : Nat) (al : Nat) (so : Nat) (lw : Nat) (p0 : Int32) (p1 : Int32) (x0 : Value) (x1 : Value) (x2 : Value) (x3 : Value) (x5 : Value) (x6 : Value) (x7 : Value) (x8 : Value) (x9 : Value) (x10 : Value) (x11 : Value) (x12 : Value) (x13 : Value) (x14 : Value) (x15 : Value) (x16 : Value) (x17 : Value) (x18 : Value) : Met l yX6_set v_c_X6_set0 ({ frames := 2, cells := 0, slots := 0, locals := 45 }) (va_Pc [.ref h0, .int p0, .int p1] (pq G k [(h0, .inr (5, [x0, x1, x2, x3, .ref t0, x5, x6, x7, x8, x9, x10, x11, x12, x13, x14, x15, x16, x17, x18])), (t0, .inr (2, [.ref fr, .ref al, .ref so, .ref lw, .int 0, .int 0])), (fr, .inl (k 0, 34, .inl (fun _ => 0))), (al, .inl (k 0, 34, .inl (fun _ => 0))), (so, .inl (k 0, 4, .inl (fun _ => 0))), (lw, .inl (k 0, 4, .inl (fun _ => 0)))] sz)) (va_Qi (fun r (_ : Unit) => (r = 1 ∧ SOK p0 p1) ∨ (r = 0 ∧ ¬ SOK p0 p1)) (fun (_ : Unit) _ => True) (va_A [(h0, .inr (5, [x0, x1, x2, x3, .ref t0, x5, x6, x7, x8, x9, x10, x11, x12, x13, x14, x15, x16, x17, x18])), (t0, .inr (2, [.ref fr, .ref al, .ref so, .ref lw, .int 0, .int 0])), (fr, .inl (k 0, 34, .inl (fun _ => 0))), (al, .inl (k 0, 34, .inl (fun _ => 0))), (so, .inl (k 0, 4, .inl (fun _ => 0))), (lw, .inl (k 0, 4, .inl (fun _ => 0)))] sz)) 0 0 (va_A [(h0, .inr (5, [x0, x1, x2, x3, .ref t0, x5, x6, x7, x8, x9, x10, x11, x12, x13, x14, x15, x16, x17, x18])), (t0, .inr (2, [.ref fr, .ref al, .ref so, .ref lw, .int 0, .int 0])), (fr, .inl (k 0, 34, .inl (fun _ => 0))), (al, .inl (k 0, 34, .inl (fun _ => 0))), (so, .inl (k 0, 4, .inl (fun _ => 0))), (lw, .inl (k 0, 4, .inl (fun _ => 0)))] sz) := by
  refine Met.ofW (cc := cX6_set) (maxL := 6) (ret := (some .boolean)) (by decide) rfl ?_
  intro p e s m args below meth c s₁ B hml hv
  obtain ⟨rfl, hsz, ⟨hP, hK, hN⟩, hD0⟩ := hv
  have hx := B.exec
  have hb := B.bytes
  have hr := B.returns
  have hts := atoms_spec (ws := v_c_X6_set0) B.pre
  have hown : s.vm.findClass RX6 = some m.cls := findClass_of_methodNamed B.named
  have hlocks := B.notSynchronized
  subst hsz
  have hD := hD0.self (sz := s.heap.size)
  generalize hAe : va_A [(h0, .inr (5, [x0, x1, x2, x3, .ref t0, x5, x6, x7, x8, x9, x10, x11, x12, x13, x14, x15, x16, x17, x18])), (t0, .inr (2, [.ref fr, .ref al, .ref so, .ref lw, .int 0, .int 0])), (fr, .inl (k 0, 34, .inl (fun _ => 0))), (al, .inl (k 0, 34, .inl (fun _ => 0))), (so, .inl (k 0, 4, .inl (fun _ => 0))), (lw, .inl (k 0, 4, .inl (fun _ => 0)))] s.heap.size = A at hD ⊢
  have hA : ∀ q : Nat, s.heap.size ≤ q → A q := fun q h => by rw [← hAe]; exact Or.inr h
  have hS : va_S A s.heap s.heap [] := va_S.rf
  have hP : va_P G vwCl [(h0, .inr (5, [x0, x1, x2, x3, .ref t0, x5, x6, x7, x8, x9, x10, x11, x12, x13, x14, x15, x16, x17, x18])), (t0, .inr (2, [.ref fr, .ref al, .ref so, .ref lw, .int 0, .int 0])), (fr, .inl (k 0, 34, .inl (fun _ => 0))), (al, .inl (k 0, 34, .inl (fun _ => 0))), (so, .inl (k 0, 4, .inl (fun _ => 0))), (lw, .inl (k 0, 4, .inl (fun _ => 0)))] s.heap := hP
  refine hvar hP hS (fun H locs hP hS => ?_)
  have hl := lv_entry ([.ref h0, .int p0, .int p1]) (n := 6) (Nat.le_of_ble_eq_true rfl)
  rw [lg_entry_eq]
  generalize (lg_sl ([.ref h0, .int p0, .int p1]) ++ List.replicate (6 - (lg_sl ([.ref h0, .int p0, .int p1])).length) Slot.unset).toArray = ls at hl ⊢
  have hl : lv_has ls 6 [(0, .ref h0), (1, .int p0), (2, .int p1)] := hl
  refine lv_iload_n hx hb dX6_set_0 rfl (lv_at hl 2 rfl) ?_
  have hPc := hP.sub (ws' := []) [] rfl
  refine q_calli (va_runS (As := [.int p1]) (rest := []) ⟨hx, hb, hml, hown, hts⟩ (c_X6_isKind l G k p1) (cwS 1 hts g_c_X6_set0_c_X6_isKind_292 rfl rfl rfl (by decide +kernel) ⟨Nat.le_of_ble_eq_true rfl, Nat.le_of_ble_eq_true rfl⟩) ⟨pr_bl, pr_pre hPc hK hN⟩ rfl rfl hl.1 rfl (lv_room (Nat.le_of_ble_eq_true rfl)) dX6_set_1 ⟨Nat.le_of_ble_eq_true rfl, Nat.le_of_ble_eq_true rfl⟩) (fun r1 hr1 => ?_)
  rcases hr1 with ⟨rfl, h2⟩ | ⟨rfl, h2⟩
  · skip
    obtain ⟨j, hj, ej⟩ := vp_in_of h2 (by decide)
    refine lv_if_eq (tgt := 16) hx hb dX6_set_4 (by decide) (fun c9 => absurd c9 (by decide)) (fun _ => ?_)
    refine lv_iload_n hx hb dX6_set_7 rfl (lv_at hl 1 rfl) ?_
    refine lv_if_lt (tgt := 16) hx hb dX6_set_8 (by decide) (fun c3 => ?_) (fun c3 => ?_)
    · skip
      refine lv_iconst (v := 0) hx hb dX6_set_16 (by decide) ?_
      refine W.widen (k := 0) (n := 0) (Nat.le_of_ble_eq_true rfl) (Nat.le_of_ble_eq_true rfl) ?_
      exact W.zret (v := 0) hx hb hr rfl (fun t ht hW => ⟨⟨0, (), rfl, Or.inr ⟨rfl, fun h9 => by first | exact absurd h9.1 (by assumption) | exact h9.2.1 (by assumption) | exact h9.2.2.1 (by assumption) | exact h9.2.2.1 (Int32.not_le.mp (by assumption)) | exact absurd (h9.2.2.2 (by assumption)) (by assumption)⟩, trivial⟩, hS.F ht⟩) hS.2.2 dX6_set_17
    · skip
      refine lv_iload_n hx hb dX6_set_11 rfl (lv_at hl 1 rfl) ?_
      refine lv_iconst (v := 3) hx hb dX6_set_12 (by decide) ?_
      refine lv_icmp_le (tgt := 18) hx hb dX6_set_13 (by decide) (fun c4 => ?_) (fun c4 => ?_)
      · skip
        refine lv_iload_n hx hb dX6_set_18 rfl (lv_at hl 1 rfl) ?_
        refine lv_if_ne (tgt := 29) hx hb dX6_set_19 (by decide) (fun c5 => ?_) (fun c5 => ?_)
        · skip
          refine lv_aload_n hx hb dX6_set_29 rfl (lv_at hl 0 rfl) ?_
          refine va_get (D := G) (ci := 5) (v := .ref t0) (C := RX6) (T := TX6) (N := 19) hx hb hts i_c_X6_set0_X6 hown hK hP 0 rfl rfl 4 (by decide) (hts (.fieldLink RX6 38 "TileHouse" "deskTiles" "LTileHouse$Tiles;") (by decide +kernel)) (fun _ h9 => h9) rfl dX6_set_30 ?_
          have hPc := hP.sub (ws' := [(t0, .inr (2, [.ref fr, .ref al, .ref so, .ref lw, .int 0, .int 0]))]) [1] rfl
          refine q_calli (va_runV (As := []) (rest := []) ⟨hx, hb, hml, hown, hts⟩ (c_X3_size l G k t0 0 0 (.ref fr) (.ref al) (.ref so) (.ref lw)) (cwV 0 hts g_c_X6_set0_c_X3_size_298 rfl rfl rfl (by decide +kernel) ⟨Nat.le_of_ble_eq_true rfl, Nat.le_of_ble_eq_true rfl⟩) ⟨pr_bl, va_recv hK hPc (ci := 2) (q0 := 0) rfl rfl, pr_pre hPc hK hN⟩ rfl rfl hl.1 rfl (lv_room (Nat.le_of_ble_eq_true rfl)) dX6_set_33 ⟨Nat.le_of_ble_eq_true rfl, Nat.le_of_ble_eq_true rfl⟩) (fun r6 hr6 => ?_)
          obtain rfl : r6 = 0 := hr6.trans (by decide)
          refine lv_iconst (v := 3) hx hb dX6_set_36 (by decide) ?_
          refine lv_iadd hx hb dX6_set_37 ?_
          refine lv_topi (fun z7 ez7 => ?_)
          obtain rfl : z7 = 3 := ez7.trans (by decide)
          refine lv_bipush (v := 14) hx hb dX6_set_38 (by decide) ?_
          refine lv_icmp_le (tgt := 45) hx hb dX6_set_40 (by decide) (fun _ => ?_) (fun c9 => absurd (by decide) c9)
          refine lv_iload_n hx hb dX6_set_45 rfl (lv_at hl 1 rfl) ?_
          refine lv_if_ne (tgt := 55) hx hb dX6_set_46 (by decide) (fun _ => ?_) (fun c9 => absurd c9 c5)
          refine lv_iload_n hx hb dX6_set_55 rfl (lv_at hl 2 rfl) ?_
          refine lv_istore_n (lv' := [(3, .int p1), (0, .ref h0), (1, .int p0), (2, .int p1)]) hx hb dX6_set_56 rfl hl (by decide) rfl (fun ls hl => ?_)
          refine lv_iload_n hx hb dX6_set_57 rfl (lv_at hl 2 rfl) ?_
          have hPc := hP.sub (ws' := []) [] rfl
          refine q_calli (va_runS (As := [.int p0]) (rest := []) ⟨hx, hb, hml, hown, hts⟩ (c_X6_tilesOfEach l G k p0) (cwS 1 hts g_c_X6_set0_c_X6_tilesOfEach_301 rfl rfl rfl (by decide +kernel) ⟨Nat.le_of_ble_eq_true rfl, Nat.le_of_ble_eq_true rfl⟩) ⟨pr_bl, pr_pre hPc hK hN⟩ rfl rfl hl.1 rfl (lv_room (Nat.le_of_ble_eq_true rfl)) dX6_set_58 ⟨Nat.le_of_ble_eq_true rfl, Nat.le_of_ble_eq_true rfl⟩) (fun r8 hr8 => ?_)
          rcases hr8 with ⟨rfl, h8⟩ | ⟨rfl, h8⟩ | ⟨rfl, h8, h7⟩
          · skip
            exact absurd h8 c5
          · skip
            refine lv_istore (lv' := [(4, .int 3), (3, .int p1), (0, .ref h0), (1, .int p0), (2, .int p1)]) hx hb dX6_set_61 hl (by decide) rfl (fun ls hl => ?_)
            refine lv_iload_n hx hb dX6_set_63 rfl (lv_at hl 4 rfl) ?_
            refine lv_istore (lv' := [(5, .int p1), (4, .int 3), (3, .int p1), (0, .ref h0), (1, .int p0), (2, .int p1)]) hx hb dX6_set_64 hl (by decide) rfl (fun ls hl => ?_)
            refine lv_iload hx hb dX6_set_66 (lv_at hl 0 rfl) ?_
            refine lv_iload_n hx hb dX6_set_68 rfl (lv_at hl 2 rfl) ?_
            refine lv_icmp_gt (tgt := 96) hx hb dX6_set_69 (by decide) (fun c9 => absurd c9 (n_ngt ej ej (by omega) (by omega))) (fun _ => ?_)
            refine lv_aload_n hx hb dX6_set_72 rfl (lv_at hl 3 rfl) ?_
            refine va_get (D := G) (ci := 5) (v := .ref t0) (C := RX6) (T := TX6) (N := 19) hx hb hts i_c_X6_set0_X6 hown hK hP 0 rfl rfl 4 (by decide) (hts (.fieldLink RX6 38 "TileHouse" "deskTiles" "LTileHouse$Tiles;") (by decide +kernel)) (fun _ h9 => h9) rfl dX6_set_73 ?_
            refine lv_iload hx hb dX6_set_76 (lv_at hl 0 rfl) ?_
            have hPc := hP.sub (ws' := [(t0, .inr (2, [.ref fr, .ref al, .ref so, .ref lw, .int 0, .int 0])), (al, .inl (k 0, 34, .inl (fun _ => 0)))]) [1, 3] rfl
            refine q_calli (va_runV (As := [.int p1]) (rest := []) ⟨hx, hb, hml, hown, hts⟩ (c_X3_all l G k t0 al (fun _ => 0) p1 (.ref fr) (.ref so) (.ref lw) (.int 0) (.int 0)) (cwV 1 hts g_c_X6_set0_c_X3_all_295 rfl rfl rfl (by decide +kernel) ⟨Nat.le_of_ble_eq_true rfl, Nat.le_of_ble_eq_true rfl⟩) ⟨pr_bl, va_recv hK hPc (ci := 2) (q0 := 0) rfl rfl, pr_pre hPc hK hN⟩ rfl rfl hl.1 rfl (lv_room (Nat.le_of_ble_eq_true rfl)) dX6_set_78 ⟨Nat.le_of_ble_eq_true rfl, Nat.le_of_ble_eq_true rfl⟩) (fun r9 hr9 => ?_)
            obtain rfl : r9 = 0 := hr9.elim (fun q => q.2) (fun q => q.2)
            refine lv_iload hx hb dX6_set_81 (lv_at hl 1 rfl) ?_
            refine lv_iadd hx hb dX6_set_83 ?_
            refine lv_topi (fun z10 ez10 => ?_)
            obtain rfl : z10 = 3 := ez10.trans (by decide)
            refine lv_iconst (v := 4) hx hb dX6_set_84 (by decide) ?_
            refine lv_icmp_le (tgt := 90) hx hb dX6_set_85 (by decide) (fun _ => ?_) (fun c9 => absurd (by decide) c9)
            obtain ⟨v11, ev11⟩ : ∃ y : Int32, y = p1 + 1 := ⟨_, rfl⟩
            have nv11 : v11 = nI (j + 1) := by rw [ev11, ej]; exact nI_add (j) (1)
            refine lv_iinc (v := v11) (lv' := [(5, .int v11), (4, .int 3), (3, .int p1), (0, .ref h0), (1, .int p0), (2, .int p1)]) hx hb dX6_set_90 hl (k := 0) rfl (by rw [ev11]; rfl) (by decide) rfl (fun ls hl => ?_)
            refine lv_goto (tgt := 66) hx hb dX6_set_93 (by decide) ?_
            refine lv_iload hx hb dX6_set_66 (lv_at hl 0 rfl) ?_
            refine lv_iload_n hx hb dX6_set_68 rfl (lv_at hl 2 rfl) ?_
            refine lv_icmp_gt (tgt := 96) hx hb dX6_set_69 (by decide) (fun _ => ?_) (fun c9 => absurd (n_gt nv11 ej (by omega) (by omega)) c9)
            refine lv_iload_n hx hb dX6_set_96 rfl (lv_at hl 5 rfl) ?_
            refine lv_istore (lv' := [(5, .int p1), (4, .int 3), (3, .int p1), (0, .ref h0), (1, .int p0), (2, .int p1)]) hx hb dX6_set_97 hl (by decide) rfl (fun ls hl => ?_)
            refine lv_iload hx hb dX6_set_99 (lv_at hl 0 rfl) ?_
            refine lv_iload_n hx hb dX6_set_101 rfl (lv_at hl 2 rfl) ?_
            refine lv_icmp_gt (tgt := 122) hx hb dX6_set_102 (by decide) (fun c9 => absurd c9 (n_ngt ej ej (by omega) (by omega))) (fun _ => ?_)
            refine lv_aload_n hx hb dX6_set_105 rfl (lv_at hl 3 rfl) ?_
            refine va_get (D := G) (ci := 5) (v := .ref t0) (C := RX6) (T := TX6) (N := 19) hx hb hts i_c_X6_set0_X6 hown hK hP 0 rfl rfl 4 (by decide) (hts (.fieldLink RX6 38 "TileHouse" "deskTiles" "LTileHouse$Tiles;") (by decide +kernel)) (fun _ h9 => h9) rfl dX6_set_106 ?_
            refine lv_iload hx hb dX6_set_109 (lv_at hl 0 rfl) ?_
            refine lv_iload hx hb dX6_set_111 (lv_at hl 1 rfl) ?_
            have hPc := hP.sub (ws' := [(t0, .inr (2, [.ref fr, .ref al, .ref so, .ref lw, .int 0, .int 0])), (fr, .inl (k 0, 34, .inl (fun _ => 0))), (al, .inl (k 0, 34, .inl (fun _ => 0)))]) [1, 2, 3] rfl
            have hDc := hD.sub (ws' := [(t0, .inr (2, [.ref fr, .ref al, .ref so, .ref lw, .int 0, .int 0])), (fr, .inl (k 0, 34, .inl (fun _ => 0))), (al, .inl (k 0, 34, .inl (fun _ => 0)))]) [1, 2, 3] (by decide) rfl
            have hFc := va_free (wc := [(t0, .inr (2, [.ref fr, .ref al, .ref so, .ref lw, .int 0, .int 0])), (fr, .inl (k 0, 34, .inl (fun _ => 0))), (al, .inl (k 0, 34, .inl (fun _ => 0)))]) hD hS hA [1, 2, 3] rfl
            refine va_callv (va_runV (As := [.int p1, .int 3]) (rest := []) ⟨hx, hb, hml, hown, hts⟩ (c_X3_put l G k H.size t0 fr al (fun _ => 0) (fun _ => 0) 0 p1 3 (.ref so) (.ref lw) (.int 0)) (cwV 2 hts g_c_X6_set0_c_X3_put_79 rfl rfl rfl (by decide +kernel) ⟨Nat.le_of_ble_eq_true rfl, Nat.le_of_ble_eq_true rfl⟩) ⟨pq_bl, va_recv hK hPc (ci := 2) (q0 := 0) rfl rfl, pq_pre hPc hDc hK hN⟩ rfl rfl hl.1 rfl (lv_room (Nat.le_of_ble_eq_true rfl)) dX6_set_113 ⟨Nat.le_of_ble_eq_true rfl, Nat.le_of_ble_eq_true rfl⟩) hS (fun q _ h => hFc q h) hFc (fun ur12 t H1 locs ht hvm hr12 hB hz1 hk1 hS => ?_)
            obtain ⟨f13, g14, w15⟩ := ur12
            obtain ⟨hP1, hD1⟩ := hB
            rw [ht] at hP1
            obtain ⟨hP, hD⟩ := va_join (wr := [(h0, .inr (5, [x0, x1, x2, x3, .ref t0, x5, x6, x7, x8, x9, x10, x11, x12, x13, x14, x15, x16, x17, x18])), (so, .inl (k 0, 4, .inl (fun _ => 0))), (lw, .inl (k 0, 4, .inl (fun _ => 0)))]) (w1 := [(t0, .inr (2, [.ref fr, .ref al, .ref so, .ref lw, .int 0, .int w15])), (fr, .inl (k 0, 34, .inl f13)), (al, .inl (k 0, 34, .inl g14))]) hP hD [1, 2, 3] [0, 4, 5] rfl rfl (by decide) (by decide) hk1 hFc hP1 hD1
            clear hP1 hD1
            generalize H1 = H at hP hS ⊢
            replace hP : va_P G vwCl [(h0, .inr (5, [x0, x1, x2, x3, .ref t0, x5, x6, x7, x8, x9, x10, x11, x12, x13, x14, x15, x16, x17, x18])), (so, .inl (k 0, 4, .inl (fun _ => 0))), (lw, .inl (k 0, 4, .inl (fun _ => 0))), (t0, .inr (2, [.ref fr, .ref al, .ref so, .ref lw, .int 0, .int w15])), (fr, .inl (k 0, 34, .inl f13)), (al, .inl (k 0, 34, .inl g14))] H := hP
            replace hD : va_D A [(h0, .inr (5, [x0, x1, x2, x3, .ref t0, x5, x6, x7, x8, x9, x10, x11, x12, x13, x14, x15, x16, x17, x18])), (so, .inl (k 0, 4, .inl (fun _ => 0))), (lw, .inl (k 0, 4, .inl (fun _ => 0))), (t0, .inr (2, [.ref fr, .ref al, .ref so, .ref lw, .int 0, .int w15])), (fr, .inl (k 0, 34, .inl f13)), (al, .inl (k 0, 34, .inl g14))] := hD
            obtain ⟨v16, ev16⟩ : ∃ y : Int32, y = p1 + 1 := ⟨_, rfl⟩
            have nv16 : v16 = nI (j + 1) := by rw [ev16, ej]; exact nI_add (j) (1)
            refine lv_iinc (v := v16) (lv' := [(5, .int v16), (4, .int 3), (3, .int p1), (0, .ref h0), (1, .int p0), (2, .int p1)]) hx hb dX6_set_116 hl (k := 0) rfl (by rw [ev16]; rfl) (by decide) rfl (fun ls hl => ?_)
            refine lv_goto (tgt := 99) hx hb dX6_set_119 (by decide) ?_
            refine lv_iload hx hb dX6_set_99 (lv_at hl 0 rfl) ?_
            refine lv_iload_n hx hb dX6_set_101 rfl (lv_at hl 2 rfl) ?_
            refine lv_icmp_gt (tgt := 122) hx hb dX6_set_102 (by decide) (fun _ => ?_) (fun c9 => absurd (n_gt nv16 ej (by omega) (by omega)) c9)
            refine lv_aload_n hx hb dX6_set_122 rfl (lv_at hl 3 rfl) ?_
            refine va_get (D := G) (ci := 5) (v := .ref t0) (C := RX6) (T := TX6) (N := 19) hx hb hts i_c_X6_set0_X6 hown hK hP 0 rfl rfl 4 (by decide) (hts (.fieldLink RX6 38 "TileHouse" "deskTiles" "LTileHouse$Tiles;") (by decide +kernel)) (fun _ h9 => h9) rfl dX6_set_123 ?_
            refine lv_iload_n hx hb dX6_set_126 rfl (lv_at hl 4 rfl) ?_
            refine lv_iload_n hx hb dX6_set_127 rfl (lv_at hl 5 rfl) ?_
            have hPc := hP.sub (ws' := [(t0, .inr (2, [.ref fr, .ref al, .ref so, .ref lw, .int 0, .int w15])), (fr, .inl (k 0, 34, .inl f13)), (so, .inl (k 0, 4, .inl (fun _ => 0))), (lw, .inl (k 0, 4, .inl (fun _ => 0)))]) [3, 4, 1, 2] rfl
            have hDc := hD.sub (ws' := [(t0, .inr (2, [.ref fr, .ref al, .ref so, .ref lw, .int 0, .int w15])), (fr, .inl (k 0, 34, .inl f13)), (so, .inl (k 0, 4, .inl (fun _ => 0))), (lw, .inl (k 0, 4, .inl (fun _ => 0)))]) [3, 4, 1, 2] (by decide) rfl
            have hFc := va_free (wc := [(t0, .inr (2, [.ref fr, .ref al, .ref so, .ref lw, .int 0, .int w15])), (fr, .inl (k 0, 34, .inl f13)), (so, .inl (k 0, 4, .inl (fun _ => 0))), (lw, .inl (k 0, 4, .inl (fun _ => 0)))]) hD hS hA [3, 4, 1, 2] rfl
            refine va_callv (va_runV (As := [.int p0, .int p1]) (rest := []) ⟨hx, hb, hml, hown, hts⟩ (c_X3_layDown0 l G k H.size t0 fr so lw f13 (fun _ => 0) (fun _ => 0) w15 p0 p1 (.ref al)) (cwV 2 hts g_c_X6_set0_c_X3_layDown0_181 rfl rfl rfl (by decide +kernel) ⟨Nat.le_of_ble_eq_true rfl, Nat.le_of_ble_eq_true rfl⟩) ⟨pq_bl, va_recv hK hPc (ci := 2) (q0 := 0) rfl rfl, pq_pre hPc hDc hK hN⟩ rfl rfl hl.1 rfl (lv_room (Nat.le_of_ble_eq_true rfl)) dX6_set_128 ⟨Nat.le_of_ble_eq_true rfl, Nat.le_of_ble_eq_true rfl⟩) hS (fun q _ h => hFc q h) hFc (fun ur17 t H1 locs ht hvm hr17 hB hz1 hk1 hS => ?_)
            have hP1 : va_P G vwCl [] H1 := vP0
            have hD1 : va_D (va_A [(t0, .inr (2, [.ref fr, .ref al, .ref so, .ref lw, .int 0, .int w15])), (fr, .inl (k 0, 34, .inl f13)), (so, .inl (k 0, 4, .inl (fun _ => 0))), (lw, .inl (k 0, 4, .inl (fun _ => 0)))] H.size) [] := vD0
            obtain ⟨hP, hD⟩ := va_join (wr := [(h0, .inr (5, [x0, x1, x2, x3, .ref t0, x5, x6, x7, x8, x9, x10, x11, x12, x13, x14, x15, x16, x17, x18])), (al, .inl (k 0, 34, .inl g14))]) (w1 := []) hP hD [3, 4, 1, 2] [0, 5] rfl rfl (by decide) (by decide) hk1 hFc hP1 hD1
            clear hP1 hD1
            generalize H1 = H at hP hS ⊢
            replace hP : va_P G vwCl [(h0, .inr (5, [x0, x1, x2, x3, .ref t0, x5, x6, x7, x8, x9, x10, x11, x12, x13, x14, x15, x16, x17, x18])), (al, .inl (k 0, 34, .inl g14))] H := hP
            replace hD : va_D A [(h0, .inr (5, [x0, x1, x2, x3, .ref t0, x5, x6, x7, x8, x9, x10, x11, x12, x13, x14, x15, x16, x17, x18])), (al, .inl (k 0, 34, .inl g14))] := hD
            refine lv_iconst (v := 1) hx hb dX6_set_131 (by decide) ?_
            refine W.widen (k := 0) (n := 0) (Nat.le_of_ble_eq_true rfl) (Nat.le_of_ble_eq_true rfl) ?_
            exact W.zret (v := 1) hx hb hr rfl (fun t ht hW => ⟨⟨1, (), rfl, Or.inl ⟨rfl, h2, by assumption, by first | assumption | exact Int32.not_lt.mpr (by assumption), fun e9 => absurd e9 c5⟩, trivial⟩, hS.F ht⟩) hS.2.2 dX6_set_132
          · skip
            refine lv_istore (lv' := [(4, .int 4), (3, .int p1), (0, .ref h0), (1, .int p0), (2, .int p1)]) hx hb dX6_set_61 hl (by decide) rfl (fun ls hl => ?_)
            refine lv_iload_n hx hb dX6_set_63 rfl (lv_at hl 4 rfl) ?_
            refine lv_istore (lv' := [(5, .int p1), (4, .int 4), (3, .int p1), (0, .ref h0), (1, .int p0), (2, .int p1)]) hx hb dX6_set_64 hl (by decide) rfl (fun ls hl => ?_)
            refine lv_iload hx hb dX6_set_66 (lv_at hl 0 rfl) ?_
            refine lv_iload_n hx hb dX6_set_68 rfl (lv_at hl 2 rfl) ?_
            refine lv_icmp_gt (tgt := 96) hx hb dX6_set_69 (by decide) (fun c9 => absurd c9 (n_ngt ej ej (by omega) (by omega))) (fun _ => ?_)
            refine lv_aload_n hx hb dX6_set_72 rfl (lv_at hl 3 rfl) ?_
            refine va_get (D := G) (ci := 5) (v := .ref t0) (C := RX6) (T := TX6) (N := 19) hx hb hts i_c_X6_set0_X6 hown hK hP 0 rfl rfl 4 (by decide) (hts (.fieldLink RX6 38 "TileHouse" "deskTiles" "LTileHouse$Tiles;") (by decide +kernel)) (fun _ h9 => h9) rfl dX6_set_73 ?_
            refine lv_iload hx hb dX6_set_76 (lv_at hl 0 rfl) ?_
            have hPc := hP.sub (ws' := [(t0, .inr (2, [.ref fr, .ref al, .ref so, .ref lw, .int 0, .int 0])), (al, .inl (k 0, 34, .inl (fun _ => 0)))]) [1, 3] rfl
            refine q_calli (va_runV (As := [.int p1]) (rest := []) ⟨hx, hb, hml, hown, hts⟩ (c_X3_all l G k t0 al (fun _ => 0) p1 (.ref fr) (.ref so) (.ref lw) (.int 0) (.int 0)) (cwV 1 hts g_c_X6_set0_c_X3_all_295 rfl rfl rfl (by decide +kernel) ⟨Nat.le_of_ble_eq_true rfl, Nat.le_of_ble_eq_true rfl⟩) ⟨pr_bl, va_recv hK hPc (ci := 2) (q0 := 0) rfl rfl, pr_pre hPc hK hN⟩ rfl rfl hl.1 rfl (lv_room (Nat.le_of_ble_eq_true rfl)) dX6_set_78 ⟨Nat.le_of_ble_eq_true rfl, Nat.le_of_ble_eq_true rfl⟩) (fun r18 hr18 => ?_)
            obtain rfl : r18 = 0 := hr18.elim (fun q => q.2) (fun q => q.2)
            refine lv_iload hx hb dX6_set_81 (lv_at hl 1 rfl) ?_
            refine lv_iadd hx hb dX6_set_83 ?_
            refine lv_topi (fun z19 ez19 => ?_)
            obtain rfl : z19 = 4 := ez19.trans (by decide)
            refine lv_iconst (v := 4) hx hb dX6_set_84 (by decide) ?_
            refine lv_icmp_le (tgt := 90) hx hb dX6_set_85 (by decide) (fun _ => ?_) (fun c9 => absurd (by decide) c9)
            obtain ⟨v20, ev20⟩ : ∃ y : Int32, y = p1 + 1 := ⟨_, rfl⟩
            have nv20 : v20 = nI (j + 1) := by rw [ev20, ej]; exact nI_add (j) (1)
            refine lv_iinc (v := v20) (lv' := [(5, .int v20), (4, .int 4), (3, .int p1), (0, .ref h0), (1, .int p0), (2, .int p1)]) hx hb dX6_set_90 hl (k := 0) rfl (by rw [ev20]; rfl) (by decide) rfl (fun ls hl => ?_)
            refine lv_goto (tgt := 66) hx hb dX6_set_93 (by decide) ?_
            refine lv_iload hx hb dX6_set_66 (lv_at hl 0 rfl) ?_
            refine lv_iload_n hx hb dX6_set_68 rfl (lv_at hl 2 rfl) ?_
            refine lv_icmp_gt (tgt := 96) hx hb dX6_set_69 (by decide) (fun _ => ?_) (fun c9 => absurd (n_gt nv20 ej (by omega) (by omega)) c9)
            refine lv_iload_n hx hb dX6_set_96 rfl (lv_at hl 5 rfl) ?_
            refine lv_istore (lv' := [(5, .int p1), (4, .int 4), (3, .int p1), (0, .ref h0), (1, .int p0), (2, .int p1)]) hx hb dX6_set_97 hl (by decide) rfl (fun ls hl => ?_)
            refine lv_iload hx hb dX6_set_99 (lv_at hl 0 rfl) ?_
            refine lv_iload_n hx hb dX6_set_101 rfl (lv_at hl 2 rfl) ?_
            refine lv_icmp_gt (tgt := 122) hx hb dX6_set_102 (by decide) (fun c9 => absurd c9 (n_ngt ej ej (by omega) (by omega))) (fun _ => ?_)
            refine lv_aload_n hx hb dX6_set_105 rfl (lv_at hl 3 rfl) ?_
            refine va_get (D := G) (ci := 5) (v := .ref t0) (C := RX6) (T := TX6) (N := 19) hx hb hts i_c_X6_set0_X6 hown hK hP 0 rfl rfl 4 (by decide) (hts (.fieldLink RX6 38 "TileHouse" "deskTiles" "LTileHouse$Tiles;") (by decide +kernel)) (fun _ h9 => h9) rfl dX6_set_106 ?_
            refine lv_iload hx hb dX6_set_109 (lv_at hl 0 rfl) ?_
            refine lv_iload hx hb dX6_set_111 (lv_at hl 1 rfl) ?_
            have hPc := hP.sub (ws' := [(t0, .inr (2, [.ref fr, .ref al, .ref so, .ref lw, .int 0, .int 0])), (fr, .inl (k 0, 34, .inl (fun _ => 0))), (al, .inl (k 0, 34, .inl (fun _ => 0)))]) [1, 2, 3] rfl
            have hDc := hD.sub (ws' := [(t0, .inr (2, [.ref fr, .ref al, .ref so, .ref lw, .int 0, .int 0])), (fr, .inl (k 0, 34, .inl (fun _ => 0))), (al, .inl (k 0, 34, .inl (fun _ => 0)))]) [1, 2, 3] (by decide) rfl
            have hFc := va_free (wc := [(t0, .inr (2, [.ref fr, .ref al, .ref so, .ref lw, .int 0, .int 0])), (fr, .inl (k 0, 34, .inl (fun _ => 0))), (al, .inl (k 0, 34, .inl (fun _ => 0)))]) hD hS hA [1, 2, 3] rfl
            refine va_callv (va_runV (As := [.int p1, .int 4]) (rest := []) ⟨hx, hb, hml, hown, hts⟩ (c_X3_put l G k H.size t0 fr al (fun _ => 0) (fun _ => 0) 0 p1 4 (.ref so) (.ref lw) (.int 0)) (cwV 2 hts g_c_X6_set0_c_X3_put_79 rfl rfl rfl (by decide +kernel) ⟨Nat.le_of_ble_eq_true rfl, Nat.le_of_ble_eq_true rfl⟩) ⟨pq_bl, va_recv hK hPc (ci := 2) (q0 := 0) rfl rfl, pq_pre hPc hDc hK hN⟩ rfl rfl hl.1 rfl (lv_room (Nat.le_of_ble_eq_true rfl)) dX6_set_113 ⟨Nat.le_of_ble_eq_true rfl, Nat.le_of_ble_eq_true rfl⟩) hS (fun q _ h => hFc q h) hFc (fun ur21 t H1 locs ht hvm hr21 hB hz1 hk1 hS => ?_)
            obtain ⟨f22, g23, w24⟩ := ur21
            obtain ⟨hP1, hD1⟩ := hB
            rw [ht] at hP1
            obtain ⟨hP, hD⟩ := va_join (wr := [(h0, .inr (5, [x0, x1, x2, x3, .ref t0, x5, x6, x7, x8, x9, x10, x11, x12, x13, x14, x15, x16, x17, x18])), (so, .inl (k 0, 4, .inl (fun _ => 0))), (lw, .inl (k 0, 4, .inl (fun _ => 0)))]) (w1 := [(t0, .inr (2, [.ref fr, .ref al, .ref so, .ref lw, .int 0, .int w24])), (fr, .inl (k 0, 34, .inl f22)), (al, .inl (k 0, 34, .inl g23))]) hP hD [1, 2, 3] [0, 4, 5] rfl rfl (by decide) (by decide) hk1 hFc hP1 hD1
            clear hP1 hD1
            generalize H1 = H at hP hS ⊢
            replace hP : va_P G vwCl [(h0, .inr (5, [x0, x1, x2, x3, .ref t0, x5, x6, x7, x8, x9, x10, x11, x12, x13, x14, x15, x16, x17, x18])), (so, .inl (k 0, 4, .inl (fun _ => 0))), (lw, .inl (k 0, 4, .inl (fun _ => 0))), (t0, .inr (2, [.ref fr, .ref al, .ref so, .ref lw, .int 0, .int w24])), (fr, .inl (k 0, 34, .inl f22)), (al, .inl (k 0, 34, .inl g23))] H := hP
            replace hD : va_D A [(h0, .inr (5, [x0, x1, x2, x3, .ref t0, x5, x6, x7, x8, x9, x10, x11, x12, x13, x14, x15, x16, x17, x18])), (so, .inl (k 0, 4, .inl (fun _ => 0))), (lw, .inl (k 0, 4, .inl (fun _ => 0))), (t0, .inr (2, [.ref fr, .ref al, .ref so, .ref lw, .int 0, .int w24])), (fr, .inl (k 0, 34, .inl f22)), (al, .inl (k 0, 34, .inl g23))] := hD
            obtain ⟨v25, ev25⟩ : ∃ y : Int32, y = p1 + 1 := ⟨_, rfl⟩
            have nv25 : v25 = nI (j + 1) := by rw [ev25, ej]; exact nI_add (j) (1)
            refine lv_iinc (v := v25) (lv' := [(5, .int v25), (4, .int 4), (3, .int p1), (0, .ref h0), (1, .int p0), (2, .int p1)]) hx hb dX6_set_116 hl (k := 0) rfl (by rw [ev25]; rfl) (by decide) rfl (fun ls hl => ?_)
            refine lv_goto (tgt := 99) hx hb dX6_set_119 (by decide) ?_
            refine lv_iload hx hb dX6_set_99 (lv_at hl 0 rfl) ?_
            refine lv_iload_n hx hb dX6_set_101 rfl (lv_at hl 2 rfl) ?_
            refine lv_icmp_gt (tgt := 122) hx hb dX6_set_102 (by decide) (fun _ => ?_) (fun c9 => absurd (n_gt nv25 ej (by omega) (by omega)) c9)
            refine lv_aload_n hx hb dX6_set_122 rfl (lv_at hl 3 rfl) ?_
            refine va_get (D := G) (ci := 5) (v := .ref t0) (C := RX6) (T := TX6) (N := 19) hx hb hts i_c_X6_set0_X6 hown hK hP 0 rfl rfl 4 (by decide) (hts (.fieldLink RX6 38 "TileHouse" "deskTiles" "LTileHouse$Tiles;") (by decide +kernel)) (fun _ h9 => h9) rfl dX6_set_123 ?_
            refine lv_iload_n hx hb dX6_set_126 rfl (lv_at hl 4 rfl) ?_
            refine lv_iload_n hx hb dX6_set_127 rfl (lv_at hl 5 rfl) ?_
            have hPc := hP.sub (ws' := [(t0, .inr (2, [.ref fr, .ref al, .ref so, .ref lw, .int 0, .int w24])), (fr, .inl (k 0, 34, .inl f22)), (so, .inl (k 0, 4, .inl (fun _ => 0))), (lw, .inl (k 0, 4, .inl (fun _ => 0)))]) [3, 4, 1, 2] rfl
            have hDc := hD.sub (ws' := [(t0, .inr (2, [.ref fr, .ref al, .ref so, .ref lw, .int 0, .int w24])), (fr, .inl (k 0, 34, .inl f22)), (so, .inl (k 0, 4, .inl (fun _ => 0))), (lw, .inl (k 0, 4, .inl (fun _ => 0)))]) [3, 4, 1, 2] (by decide) rfl
            have hFc := va_free (wc := [(t0, .inr (2, [.ref fr, .ref al, .ref so, .ref lw, .int 0, .int w24])), (fr, .inl (k 0, 34, .inl f22)), (so, .inl (k 0, 4, .inl (fun _ => 0))), (lw, .inl (k 0, 4, .inl (fun _ => 0)))]) hD hS hA [3, 4, 1, 2] rfl
            refine va_callv (va_runV (As := [.int p0, .int p1]) (rest := []) ⟨hx, hb, hml, hown, hts⟩ (c_X3_layDown0 l G k H.size t0 fr so lw f22 (fun _ => 0) (fun _ => 0) w24 p0 p1 (.ref al)) (cwV 2 hts g_c_X6_set0_c_X3_layDown0_181 rfl rfl rfl (by decide +kernel) ⟨Nat.le_of_ble_eq_true rfl, Nat.le_of_ble_eq_true rfl⟩) ⟨pq_bl, va_recv hK hPc (ci := 2) (q0 := 0) rfl rfl, pq_pre hPc hDc hK hN⟩ rfl rfl hl.1 rfl (lv_room (Nat.le_of_ble_eq_true rfl)) dX6_set_128 ⟨Nat.le_of_ble_eq_true rfl, Nat.le_of_ble_eq_true rfl⟩) hS (fun q _ h => hFc q h) hFc (fun ur26 t H1 locs ht hvm hr26 hB hz1 hk1 hS => ?_)
            have hP1 : va_P G vwCl [] H1 := vP0
            have hD1 : va_D (va_A [(t0, .inr (2, [.ref fr, .ref al, .ref so, .ref lw, .int 0, .int w24])), (fr, .inl (k 0, 34, .inl f22)), (so, .inl (k 0, 4, .inl (fun _ => 0))), (lw, .inl (k 0, 4, .inl (fun _ => 0)))] H.size) [] := vD0
            obtain ⟨hP, hD⟩ := va_join (wr := [(h0, .inr (5, [x0, x1, x2, x3, .ref t0, x5, x6, x7, x8, x9, x10, x11, x12, x13, x14, x15, x16, x17, x18])), (al, .inl (k 0, 34, .inl g23))]) (w1 := []) hP hD [3, 4, 1, 2] [0, 5] rfl rfl (by decide) (by decide) hk1 hFc hP1 hD1
            clear hP1 hD1
            generalize H1 = H at hP hS ⊢
            replace hP : va_P G vwCl [(h0, .inr (5, [x0, x1, x2, x3, .ref t0, x5, x6, x7, x8, x9, x10, x11, x12, x13, x14, x15, x16, x17, x18])), (al, .inl (k 0, 34, .inl g23))] H := hP
            replace hD : va_D A [(h0, .inr (5, [x0, x1, x2, x3, .ref t0, x5, x6, x7, x8, x9, x10, x11, x12, x13, x14, x15, x16, x17, x18])), (al, .inl (k 0, 34, .inl g23))] := hD
            refine lv_iconst (v := 1) hx hb dX6_set_131 (by decide) ?_
            refine W.widen (k := 0) (n := 0) (Nat.le_of_ble_eq_true rfl) (Nat.le_of_ble_eq_true rfl) ?_
            exact W.zret (v := 1) hx hb hr rfl (fun t ht hW => ⟨⟨1, (), rfl, Or.inl ⟨rfl, h2, by assumption, by first | assumption | exact Int32.not_lt.mpr (by assumption), fun e9 => absurd e9 c5⟩, trivial⟩, hS.F ht⟩) hS.2.2 dX6_set_132
        · skip
          refine lv_iload_n hx hb dX6_set_22 rfl (lv_at hl 2 rfl) ?_
          have hPc := hP.sub (ws' := []) [] rfl
          refine q_calli (va_runS (As := [.int p1]) (rest := []) ⟨hx, hb, hml, hown, hts⟩ (c_X6_startsRun l G k p1) (cwS 1 hts g_c_X6_set0_c_X6_startsRun_150 rfl rfl rfl (by decide +kernel) ⟨Nat.le_of_ble_eq_true rfl, Nat.le_of_ble_eq_true rfl⟩) ⟨pr_bl, pr_pre hPc hK hN⟩ rfl rfl hl.1 rfl (lv_room (Nat.le_of_ble_eq_true rfl)) dX6_set_23 ⟨Nat.le_of_ble_eq_true rfl, Nat.le_of_ble_eq_true rfl⟩) (fun r27 hr27 => ?_)
          rcases hr27 with ⟨rfl, h28⟩ | ⟨rfl, h28⟩
          · skip
            have h27 : j < 27 := sr27 hj (by rw [← ej]; exact h28)
            refine lv_if_eq (tgt := 43) hx hb dX6_set_26 (by decide) (fun c9 => absurd c9 (by decide)) (fun _ => ?_)
            refine lv_aload_n hx hb dX6_set_29 rfl (lv_at hl 0 rfl) ?_
            refine va_get (D := G) (ci := 5) (v := .ref t0) (C := RX6) (T := TX6) (N := 19) hx hb hts i_c_X6_set0_X6 hown hK hP 0 rfl rfl 4 (by decide) (hts (.fieldLink RX6 38 "TileHouse" "deskTiles" "LTileHouse$Tiles;") (by decide +kernel)) (fun _ h9 => h9) rfl dX6_set_30 ?_
            have hPc := hP.sub (ws' := [(t0, .inr (2, [.ref fr, .ref al, .ref so, .ref lw, .int 0, .int 0]))]) [1] rfl
            refine q_calli (va_runV (As := []) (rest := []) ⟨hx, hb, hml, hown, hts⟩ (c_X3_size l G k t0 0 0 (.ref fr) (.ref al) (.ref so) (.ref lw)) (cwV 0 hts g_c_X6_set0_c_X3_size_298 rfl rfl rfl (by decide +kernel) ⟨Nat.le_of_ble_eq_true rfl, Nat.le_of_ble_eq_true rfl⟩) ⟨pr_bl, va_recv hK hPc (ci := 2) (q0 := 0) rfl rfl, pr_pre hPc hK hN⟩ rfl rfl hl.1 rfl (lv_room (Nat.le_of_ble_eq_true rfl)) dX6_set_33 ⟨Nat.le_of_ble_eq_true rfl, Nat.le_of_ble_eq_true rfl⟩) (fun r29 hr29 => ?_)
            obtain rfl : r29 = 0 := hr29.trans (by decide)
            refine lv_iconst (v := 3) hx hb dX6_set_36 (by decide) ?_
            refine lv_iadd hx hb dX6_set_37 ?_
            refine lv_topi (fun z30 ez30 => ?_)
            obtain rfl : z30 = 3 := ez30.trans (by decide)
            refine lv_bipush (v := 14) hx hb dX6_set_38 (by decide) ?_
            refine lv_icmp_le (tgt := 45) hx hb dX6_set_40 (by decide) (fun _ => ?_) (fun c9 => absurd (by decide) c9)
            refine lv_iload_n hx hb dX6_set_45 rfl (lv_at hl 1 rfl) ?_
            refine lv_if_ne (tgt := 55) hx hb dX6_set_46 (by decide) (fun c9 => absurd c5 c9) (fun _ => ?_)
            refine lv_iload_n hx hb dX6_set_49 rfl (lv_at hl 2 rfl) ?_
            refine lv_iconst (v := 2) hx hb dX6_set_50 (by decide) ?_
            refine lv_iadd hx hb dX6_set_51 ?_
            refine lv_topi (fun v31 ev31 => ?_)
            have nv31 : v31 = nI (j + 2) := by rw [ev31, ej]; exact nI_add (j) (2)
            refine lv_goto (tgt := 56) hx hb dX6_set_52 (by decide) ?_
            refine lv_istore_n (lv' := [(3, .int v31), (0, .ref h0), (1, .int p0), (2, .int p1)]) hx hb dX6_set_56 rfl hl (by decide) rfl (fun ls hl => ?_)
            refine lv_iload_n hx hb dX6_set_57 rfl (lv_at hl 2 rfl) ?_
            have hPc := hP.sub (ws' := []) [] rfl
            refine q_calli (va_runS (As := [.int p0]) (rest := []) ⟨hx, hb, hml, hown, hts⟩ (c_X6_tilesOfEach l G k p0) (cwS 1 hts g_c_X6_set0_c_X6_tilesOfEach_301 rfl rfl rfl (by decide +kernel) ⟨Nat.le_of_ble_eq_true rfl, Nat.le_of_ble_eq_true rfl⟩) ⟨pr_bl, pr_pre hPc hK hN⟩ rfl rfl hl.1 rfl (lv_room (Nat.le_of_ble_eq_true rfl)) dX6_set_58 ⟨Nat.le_of_ble_eq_true rfl, Nat.le_of_ble_eq_true rfl⟩) (fun r32 hr32 => ?_)
            rcases hr32 with ⟨rfl, h8⟩ | ⟨rfl, h8⟩ | ⟨rfl, h8, h7⟩
            · skip
              refine lv_istore (lv' := [(4, .int 1), (3, .int v31), (0, .ref h0), (1, .int p0), (2, .int p1)]) hx hb dX6_set_61 hl (by decide) rfl (fun ls hl => ?_)
              refine lv_iload_n hx hb dX6_set_63 rfl (lv_at hl 4 rfl) ?_
              refine lv_istore (lv' := [(5, .int p1), (4, .int 1), (3, .int v31), (0, .ref h0), (1, .int p0), (2, .int p1)]) hx hb dX6_set_64 hl (by decide) rfl (fun ls hl => ?_)
              refine lv_iload hx hb dX6_set_66 (lv_at hl 0 rfl) ?_
              refine lv_iload_n hx hb dX6_set_68 rfl (lv_at hl 2 rfl) ?_
              refine lv_icmp_gt (tgt := 96) hx hb dX6_set_69 (by decide) (fun c9 => absurd c9 (n_ngt ej nv31 (by omega) (by omega))) (fun _ => ?_)
              refine lv_aload_n hx hb dX6_set_72 rfl (lv_at hl 3 rfl) ?_
              refine va_get (D := G) (ci := 5) (v := .ref t0) (C := RX6) (T := TX6) (N := 19) hx hb hts i_c_X6_set0_X6 hown hK hP 0 rfl rfl 4 (by decide) (hts (.fieldLink RX6 38 "TileHouse" "deskTiles" "LTileHouse$Tiles;") (by decide +kernel)) (fun _ h9 => h9) rfl dX6_set_73 ?_
              refine lv_iload hx hb dX6_set_76 (lv_at hl 0 rfl) ?_
              have hPc := hP.sub (ws' := [(t0, .inr (2, [.ref fr, .ref al, .ref so, .ref lw, .int 0, .int 0])), (al, .inl (k 0, 34, .inl (fun _ => 0)))]) [1, 3] rfl
              refine q_calli (va_runV (As := [.int p1]) (rest := []) ⟨hx, hb, hml, hown, hts⟩ (c_X3_all l G k t0 al (fun _ => 0) p1 (.ref fr) (.ref so) (.ref lw) (.int 0) (.int 0)) (cwV 1 hts g_c_X6_set0_c_X3_all_295 rfl rfl rfl (by decide +kernel) ⟨Nat.le_of_ble_eq_true rfl, Nat.le_of_ble_eq_true rfl⟩) ⟨pr_bl, va_recv hK hPc (ci := 2) (q0 := 0) rfl rfl, pr_pre hPc hK hN⟩ rfl rfl hl.1 rfl (lv_room (Nat.le_of_ble_eq_true rfl)) dX6_set_78 ⟨Nat.le_of_ble_eq_true rfl, Nat.le_of_ble_eq_true rfl⟩) (fun r33 hr33 => ?_)
              obtain rfl : r33 = 0 := hr33.elim (fun q => q.2) (fun q => q.2)
              refine lv_iload hx hb dX6_set_81 (lv_at hl 1 rfl) ?_
              refine lv_iadd hx hb dX6_set_83 ?_
              refine lv_topi (fun z34 ez34 => ?_)
              obtain rfl : z34 = 1 := ez34.trans (by decide)
              refine lv_iconst (v := 4) hx hb dX6_set_84 (by decide) ?_
              refine lv_icmp_le (tgt := 90) hx hb dX6_set_85 (by decide) (fun _ => ?_) (fun c9 => absurd (by decide) c9)
              obtain ⟨v35, ev35⟩ : ∃ y : Int32, y = p1 + 1 := ⟨_, rfl⟩
              have nv35 : v35 = nI (j + 1) := by rw [ev35, ej]; exact nI_add (j) (1)
              refine lv_iinc (v := v35) (lv' := [(5, .int v35), (4, .int 1), (3, .int v31), (0, .ref h0), (1, .int p0), (2, .int p1)]) hx hb dX6_set_90 hl (k := 0) rfl (by rw [ev35]; rfl) (by decide) rfl (fun ls hl => ?_)
              refine lv_goto (tgt := 66) hx hb dX6_set_93 (by decide) ?_
              refine lv_iload hx hb dX6_set_66 (lv_at hl 0 rfl) ?_
              refine lv_iload_n hx hb dX6_set_68 rfl (lv_at hl 2 rfl) ?_
              refine lv_icmp_gt (tgt := 96) hx hb dX6_set_69 (by decide) (fun c9 => absurd c9 (n_ngt nv35 nv31 (by omega) (by omega))) (fun _ => ?_)
              refine lv_aload_n hx hb dX6_set_72 rfl (lv_at hl 3 rfl) ?_
              refine va_get (D := G) (ci := 5) (v := .ref t0) (C := RX6) (T := TX6) (N := 19) hx hb hts i_c_X6_set0_X6 hown hK hP 0 rfl rfl 4 (by decide) (hts (.fieldLink RX6 38 "TileHouse" "deskTiles" "LTileHouse$Tiles;") (by decide +kernel)) (fun _ h9 => h9) rfl dX6_set_73 ?_
              refine lv_iload hx hb dX6_set_76 (lv_at hl 0 rfl) ?_
              have hPc := hP.sub (ws' := [(t0, .inr (2, [.ref fr, .ref al, .ref so, .ref lw, .int 0, .int 0])), (al, .inl (k 0, 34, .inl (fun _ => 0)))]) [1, 3] rfl
              refine q_calli (va_runV (As := [.int v35]) (rest := []) ⟨hx, hb, hml, hown, hts⟩ (c_X3_all l G k t0 al (fun _ => 0) v35 (.ref fr) (.ref so) (.ref lw) (.int 0) (.int 0)) (cwV 1 hts g_c_X6_set0_c_X3_all_295 rfl rfl rfl (by decide +kernel) ⟨Nat.le_of_ble_eq_true rfl, Nat.le_of_ble_eq_true rfl⟩) ⟨pr_bl, va_recv hK hPc (ci := 2) (q0 := 0) rfl rfl, pr_pre hPc hK hN⟩ rfl rfl hl.1 rfl (lv_room (Nat.le_of_ble_eq_true rfl)) dX6_set_78 ⟨Nat.le_of_ble_eq_true rfl, Nat.le_of_ble_eq_true rfl⟩) (fun r36 hr36 => ?_)
              obtain rfl : r36 = 0 := hr36.elim (fun q => q.2) (fun q => q.2)
              refine lv_iload hx hb dX6_set_81 (lv_at hl 1 rfl) ?_
              refine lv_iadd hx hb dX6_set_83 ?_
              refine lv_topi (fun z37 ez37 => ?_)
              obtain rfl : z37 = 1 := ez37.trans (by decide)
              refine lv_iconst (v := 4) hx hb dX6_set_84 (by decide) ?_
              refine lv_icmp_le (tgt := 90) hx hb dX6_set_85 (by decide) (fun _ => ?_) (fun c9 => absurd (by decide) c9)
              obtain ⟨v38, ev38⟩ : ∃ y : Int32, y = v35 + 1 := ⟨_, rfl⟩
              have nv38 : v38 = nI (j + 1 + 1) := by rw [ev38, nv35]; exact nI_add (j + 1) (1)
              refine lv_iinc (v := v38) (lv' := [(5, .int v38), (4, .int 1), (3, .int v31), (0, .ref h0), (1, .int p0), (2, .int p1)]) hx hb dX6_set_90 hl (k := 0) rfl (by rw [ev38]; rfl) (by decide) rfl (fun ls hl => ?_)
              refine lv_goto (tgt := 66) hx hb dX6_set_93 (by decide) ?_
              refine lv_iload hx hb dX6_set_66 (lv_at hl 0 rfl) ?_
              refine lv_iload_n hx hb dX6_set_68 rfl (lv_at hl 2 rfl) ?_
              refine lv_icmp_gt (tgt := 96) hx hb dX6_set_69 (by decide) (fun c9 => absurd c9 (n_ngt nv38 nv31 (by omega) (by omega))) (fun _ => ?_)
              refine lv_aload_n hx hb dX6_set_72 rfl (lv_at hl 3 rfl) ?_
              refine va_get (D := G) (ci := 5) (v := .ref t0) (C := RX6) (T := TX6) (N := 19) hx hb hts i_c_X6_set0_X6 hown hK hP 0 rfl rfl 4 (by decide) (hts (.fieldLink RX6 38 "TileHouse" "deskTiles" "LTileHouse$Tiles;") (by decide +kernel)) (fun _ h9 => h9) rfl dX6_set_73 ?_
              refine lv_iload hx hb dX6_set_76 (lv_at hl 0 rfl) ?_
              have hPc := hP.sub (ws' := [(t0, .inr (2, [.ref fr, .ref al, .ref so, .ref lw, .int 0, .int 0])), (al, .inl (k 0, 34, .inl (fun _ => 0)))]) [1, 3] rfl
              refine q_calli (va_runV (As := [.int v38]) (rest := []) ⟨hx, hb, hml, hown, hts⟩ (c_X3_all l G k t0 al (fun _ => 0) v38 (.ref fr) (.ref so) (.ref lw) (.int 0) (.int 0)) (cwV 1 hts g_c_X6_set0_c_X3_all_295 rfl rfl rfl (by decide +kernel) ⟨Nat.le_of_ble_eq_true rfl, Nat.le_of_ble_eq_true rfl⟩) ⟨pr_bl, va_recv hK hPc (ci := 2) (q0 := 0) rfl rfl, pr_pre hPc hK hN⟩ rfl rfl hl.1 rfl (lv_room (Nat.le_of_ble_eq_true rfl)) dX6_set_78 ⟨Nat.le_of_ble_eq_true rfl, Nat.le_of_ble_eq_true rfl⟩) (fun r39 hr39 => ?_)
              obtain rfl : r39 = 0 := hr39.elim (fun q => q.2) (fun q => q.2)
              refine lv_iload hx hb dX6_set_81 (lv_at hl 1 rfl) ?_
              refine lv_iadd hx hb dX6_set_83 ?_
              refine lv_topi (fun z40 ez40 => ?_)
              obtain rfl : z40 = 1 := ez40.trans (by decide)
              refine lv_iconst (v := 4) hx hb dX6_set_84 (by decide) ?_
              refine lv_icmp_le (tgt := 90) hx hb dX6_set_85 (by decide) (fun _ => ?_) (fun c9 => absurd (by decide) c9)
              obtain ⟨v41, ev41⟩ : ∃ y : Int32, y = v38 + 1 := ⟨_, rfl⟩
              have nv41 : v41 = nI (j + 1 + 1 + 1) := by rw [ev41, nv38]; exact nI_add (j + 1 + 1) (1)
              refine lv_iinc (v := v41) (lv' := [(5, .int v41), (4, .int 1), (3, .int v31), (0, .ref h0), (1, .int p0), (2, .int p1)]) hx hb dX6_set_90 hl (k := 0) rfl (by rw [ev41]; rfl) (by decide) rfl (fun ls hl => ?_)
              refine lv_goto (tgt := 66) hx hb dX6_set_93 (by decide) ?_
              refine lv_iload hx hb dX6_set_66 (lv_at hl 0 rfl) ?_
              refine lv_iload_n hx hb dX6_set_68 rfl (lv_at hl 2 rfl) ?_
              refine lv_icmp_gt (tgt := 96) hx hb dX6_set_69 (by decide) (fun _ => ?_) (fun c9 => absurd (n_gt nv41 nv31 (by omega) (by omega)) c9)
              refine lv_iload_n hx hb dX6_set_96 rfl (lv_at hl 5 rfl) ?_
              refine lv_istore (lv' := [(5, .int p1), (4, .int 1), (3, .int v31), (0, .ref h0), (1, .int p0), (2, .int p1)]) hx hb dX6_set_97 hl (by decide) rfl (fun ls hl => ?_)
              refine lv_iload hx hb dX6_set_99 (lv_at hl 0 rfl) ?_
              refine lv_iload_n hx hb dX6_set_101 rfl (lv_at hl 2 rfl) ?_
              refine lv_icmp_gt (tgt := 122) hx hb dX6_set_102 (by decide) (fun c9 => absurd c9 (n_ngt ej nv31 (by omega) (by omega))) (fun _ => ?_)
              refine lv_aload_n hx hb dX6_set_105 rfl (lv_at hl 3 rfl) ?_
              refine va_get (D := G) (ci := 5) (v := .ref t0) (C := RX6) (T := TX6) (N := 19) hx hb hts i_c_X6_set0_X6 hown hK hP 0 rfl rfl 4 (by decide) (hts (.fieldLink RX6 38 "TileHouse" "deskTiles" "LTileHouse$Tiles;") (by decide +kernel)) (fun _ h9 => h9) rfl dX6_set_106 ?_
              refine lv_iload hx hb dX6_set_109 (lv_at hl 0 rfl) ?_
              refine lv_iload hx hb dX6_set_111 (lv_at hl 1 rfl) ?_
              have hPc := hP.sub (ws' := [(t0, .inr (2, [.ref fr, .ref al, .ref so, .ref lw, .int 0, .int 0])), (fr, .inl (k 0, 34, .inl (fun _ => 0))), (al, .inl (k 0, 34, .inl (fun _ => 0)))]) [1, 2, 3] rfl
              have hDc := hD.sub (ws' := [(t0, .inr (2, [.ref fr, .ref al, .ref so, .ref lw, .int 0, .int 0])), (fr, .inl (k 0, 34, .inl (fun _ => 0))), (al, .inl (k 0, 34, .inl (fun _ => 0)))]) [1, 2, 3] (by decide) rfl
              have hFc := va_free (wc := [(t0, .inr (2, [.ref fr, .ref al, .ref so, .ref lw, .int 0, .int 0])), (fr, .inl (k 0, 34, .inl (fun _ => 0))), (al, .inl (k 0, 34, .inl (fun _ => 0)))]) hD hS hA [1, 2, 3] rfl
              refine va_callv (va_runV (As := [.int p1, .int 1]) (rest := []) ⟨hx, hb, hml, hown, hts⟩ (c_X3_put l G k H.size t0 fr al (fun _ => 0) (fun _ => 0) 0 p1 1 (.ref so) (.ref lw) (.int 0)) (cwV 2 hts g_c_X6_set0_c_X3_put_79 rfl rfl rfl (by decide +kernel) ⟨Nat.le_of_ble_eq_true rfl, Nat.le_of_ble_eq_true rfl⟩) ⟨pq_bl, va_recv hK hPc (ci := 2) (q0 := 0) rfl rfl, pq_pre hPc hDc hK hN⟩ rfl rfl hl.1 rfl (lv_room (Nat.le_of_ble_eq_true rfl)) dX6_set_113 ⟨Nat.le_of_ble_eq_true rfl, Nat.le_of_ble_eq_true rfl⟩) hS (fun q _ h => hFc q h) hFc (fun ur42 t H1 locs ht hvm hr42 hB hz1 hk1 hS => ?_)
              obtain ⟨f43, g44, w45⟩ := ur42
              obtain ⟨hP1, hD1⟩ := hB
              rw [ht] at hP1
              obtain ⟨hP, hD⟩ := va_join (wr := [(h0, .inr (5, [x0, x1, x2, x3, .ref t0, x5, x6, x7, x8, x9, x10, x11, x12, x13, x14, x15, x16, x17, x18])), (so, .inl (k 0, 4, .inl (fun _ => 0))), (lw, .inl (k 0, 4, .inl (fun _ => 0)))]) (w1 := [(t0, .inr (2, [.ref fr, .ref al, .ref so, .ref lw, .int 0, .int w45])), (fr, .inl (k 0, 34, .inl f43)), (al, .inl (k 0, 34, .inl g44))]) hP hD [1, 2, 3] [0, 4, 5] rfl rfl (by decide) (by decide) hk1 hFc hP1 hD1
              clear hP1 hD1
              generalize H1 = H at hP hS ⊢
              replace hP : va_P G vwCl [(h0, .inr (5, [x0, x1, x2, x3, .ref t0, x5, x6, x7, x8, x9, x10, x11, x12, x13, x14, x15, x16, x17, x18])), (so, .inl (k 0, 4, .inl (fun _ => 0))), (lw, .inl (k 0, 4, .inl (fun _ => 0))), (t0, .inr (2, [.ref fr, .ref al, .ref so, .ref lw, .int 0, .int w45])), (fr, .inl (k 0, 34, .inl f43)), (al, .inl (k 0, 34, .inl g44))] H := hP
              replace hD : va_D A [(h0, .inr (5, [x0, x1, x2, x3, .ref t0, x5, x6, x7, x8, x9, x10, x11, x12, x13, x14, x15, x16, x17, x18])), (so, .inl (k 0, 4, .inl (fun _ => 0))), (lw, .inl (k 0, 4, .inl (fun _ => 0))), (t0, .inr (2, [.ref fr, .ref al, .ref so, .ref lw, .int 0, .int w45])), (fr, .inl (k 0, 34, .inl f43)), (al, .inl (k 0, 34, .inl g44))] := hD
              obtain ⟨v46, ev46⟩ : ∃ y : Int32, y = p1 + 1 := ⟨_, rfl⟩
              have nv46 : v46 = nI (j + 1) := by rw [ev46, ej]; exact nI_add (j) (1)
              refine lv_iinc (v := v46) (lv' := [(5, .int v46), (4, .int 1), (3, .int v31), (0, .ref h0), (1, .int p0), (2, .int p1)]) hx hb dX6_set_116 hl (k := 0) rfl (by rw [ev46]; rfl) (by decide) rfl (fun ls hl => ?_)
              refine lv_goto (tgt := 99) hx hb dX6_set_119 (by decide) ?_
              refine lv_iload hx hb dX6_set_99 (lv_at hl 0 rfl) ?_
              refine lv_iload_n hx hb dX6_set_101 rfl (lv_at hl 2 rfl) ?_
              refine lv_icmp_gt (tgt := 122) hx hb dX6_set_102 (by decide) (fun c9 => absurd c9 (n_ngt nv46 nv31 (by omega) (by omega))) (fun _ => ?_)
              refine lv_aload_n hx hb dX6_set_105 rfl (lv_at hl 3 rfl) ?_
              refine va_get (D := G) (ci := 5) (v := .ref t0) (C := RX6) (T := TX6) (N := 19) hx hb hts i_c_X6_set0_X6 hown hK hP 0 rfl rfl 4 (by decide) (hts (.fieldLink RX6 38 "TileHouse" "deskTiles" "LTileHouse$Tiles;") (by decide +kernel)) (fun _ h9 => h9) rfl dX6_set_106 ?_
              refine lv_iload hx hb dX6_set_109 (lv_at hl 0 rfl) ?_
              refine lv_iload hx hb dX6_set_111 (lv_at hl 1 rfl) ?_
              have hPc := hP.sub (ws' := [(t0, .inr (2, [.ref fr, .ref al, .ref so, .ref lw, .int 0, .int w45])), (fr, .inl (k 0, 34, .inl f43)), (al, .inl (k 0, 34, .inl g44))]) [3, 4, 5] rfl
              have hDc := hD.sub (ws' := [(t0, .inr (2, [.ref fr, .ref al, .ref so, .ref lw, .int 0, .int w45])), (fr, .inl (k 0, 34, .inl f43)), (al, .inl (k 0, 34, .inl g44))]) [3, 4, 5] (by decide) rfl
              have hFc := va_free (wc := [(t0, .inr (2, [.ref fr, .ref al, .ref so, .ref lw, .int 0, .int w45])), (fr, .inl (k 0, 34, .inl f43)), (al, .inl (k 0, 34, .inl g44))]) hD hS hA [3, 4, 5] rfl
              refine va_callv (va_runV (As := [.int v46, .int 1]) (rest := []) ⟨hx, hb, hml, hown, hts⟩ (c_X3_put l G k H.size t0 fr al f43 g44 w45 v46 1 (.ref so) (.ref lw) (.int 0)) (cwV 2 hts g_c_X6_set0_c_X3_put_79 rfl rfl rfl (by decide +kernel) ⟨Nat.le_of_ble_eq_true rfl, Nat.le_of_ble_eq_true rfl⟩) ⟨pq_bl, va_recv hK hPc (ci := 2) (q0 := 0) rfl rfl, pq_pre hPc hDc hK hN⟩ rfl rfl hl.1 rfl (lv_room (Nat.le_of_ble_eq_true rfl)) dX6_set_113 ⟨Nat.le_of_ble_eq_true rfl, Nat.le_of_ble_eq_true rfl⟩) hS (fun q _ h => hFc q h) hFc (fun ur47 t H1 locs ht hvm hr47 hB hz1 hk1 hS => ?_)
              obtain ⟨f48, g49, w50⟩ := ur47
              obtain ⟨hP1, hD1⟩ := hB
              rw [ht] at hP1
              obtain ⟨hP, hD⟩ := va_join (wr := [(h0, .inr (5, [x0, x1, x2, x3, .ref t0, x5, x6, x7, x8, x9, x10, x11, x12, x13, x14, x15, x16, x17, x18])), (so, .inl (k 0, 4, .inl (fun _ => 0))), (lw, .inl (k 0, 4, .inl (fun _ => 0)))]) (w1 := [(t0, .inr (2, [.ref fr, .ref al, .ref so, .ref lw, .int 0, .int w50])), (fr, .inl (k 0, 34, .inl f48)), (al, .inl (k 0, 34, .inl g49))]) hP hD [3, 4, 5] [0, 1, 2] rfl rfl (by decide) (by decide) hk1 hFc hP1 hD1
              clear hP1 hD1
              generalize H1 = H at hP hS ⊢
              replace hP : va_P G vwCl [(h0, .inr (5, [x0, x1, x2, x3, .ref t0, x5, x6, x7, x8, x9, x10, x11, x12, x13, x14, x15, x16, x17, x18])), (so, .inl (k 0, 4, .inl (fun _ => 0))), (lw, .inl (k 0, 4, .inl (fun _ => 0))), (t0, .inr (2, [.ref fr, .ref al, .ref so, .ref lw, .int 0, .int w50])), (fr, .inl (k 0, 34, .inl f48)), (al, .inl (k 0, 34, .inl g49))] H := hP
              replace hD : va_D A [(h0, .inr (5, [x0, x1, x2, x3, .ref t0, x5, x6, x7, x8, x9, x10, x11, x12, x13, x14, x15, x16, x17, x18])), (so, .inl (k 0, 4, .inl (fun _ => 0))), (lw, .inl (k 0, 4, .inl (fun _ => 0))), (t0, .inr (2, [.ref fr, .ref al, .ref so, .ref lw, .int 0, .int w50])), (fr, .inl (k 0, 34, .inl f48)), (al, .inl (k 0, 34, .inl g49))] := hD
              obtain ⟨v51, ev51⟩ : ∃ y : Int32, y = v46 + 1 := ⟨_, rfl⟩
              have nv51 : v51 = nI (j + 1 + 1) := by rw [ev51, nv46]; exact nI_add (j + 1) (1)
              refine lv_iinc (v := v51) (lv' := [(5, .int v51), (4, .int 1), (3, .int v31), (0, .ref h0), (1, .int p0), (2, .int p1)]) hx hb dX6_set_116 hl (k := 0) rfl (by rw [ev51]; rfl) (by decide) rfl (fun ls hl => ?_)
              refine lv_goto (tgt := 99) hx hb dX6_set_119 (by decide) ?_
              refine lv_iload hx hb dX6_set_99 (lv_at hl 0 rfl) ?_
              refine lv_iload_n hx hb dX6_set_101 rfl (lv_at hl 2 rfl) ?_
              refine lv_icmp_gt (tgt := 122) hx hb dX6_set_102 (by decide) (fun c9 => absurd c9 (n_ngt nv51 nv31 (by omega) (by omega))) (fun _ => ?_)
              refine lv_aload_n hx hb dX6_set_105 rfl (lv_at hl 3 rfl) ?_
              refine va_get (D := G) (ci := 5) (v := .ref t0) (C := RX6) (T := TX6) (N := 19) hx hb hts i_c_X6_set0_X6 hown hK hP 0 rfl rfl 4 (by decide) (hts (.fieldLink RX6 38 "TileHouse" "deskTiles" "LTileHouse$Tiles;") (by decide +kernel)) (fun _ h9 => h9) rfl dX6_set_106 ?_
              refine lv_iload hx hb dX6_set_109 (lv_at hl 0 rfl) ?_
              refine lv_iload hx hb dX6_set_111 (lv_at hl 1 rfl) ?_
              have hPc := hP.sub (ws' := [(t0, .inr (2, [.ref fr, .ref al, .ref so, .ref lw, .int 0, .int w50])), (fr, .inl (k 0, 34, .inl f48)), (al, .inl (k 0, 34, .inl g49))]) [3, 4, 5] rfl
              have hDc := hD.sub (ws' := [(t0, .inr (2, [.ref fr, .ref al, .ref so, .ref lw, .int 0, .int w50])), (fr, .inl (k 0, 34, .inl f48)), (al, .inl (k 0, 34, .inl g49))]) [3, 4, 5] (by decide) rfl
              have hFc := va_free (wc := [(t0, .inr (2, [.ref fr, .ref al, .ref so, .ref lw, .int 0, .int w50])), (fr, .inl (k 0, 34, .inl f48)), (al, .inl (k 0, 34, .inl g49))]) hD hS hA [3, 4, 5] rfl
              refine va_callv (va_runV (As := [.int v51, .int 1]) (rest := []) ⟨hx, hb, hml, hown, hts⟩ (c_X3_put l G k H.size t0 fr al f48 g49 w50 v51 1 (.ref so) (.ref lw) (.int 0)) (cwV 2 hts g_c_X6_set0_c_X3_put_79 rfl rfl rfl (by decide +kernel) ⟨Nat.le_of_ble_eq_true rfl, Nat.le_of_ble_eq_true rfl⟩) ⟨pq_bl, va_recv hK hPc (ci := 2) (q0 := 0) rfl rfl, pq_pre hPc hDc hK hN⟩ rfl rfl hl.1 rfl (lv_room (Nat.le_of_ble_eq_true rfl)) dX6_set_113 ⟨Nat.le_of_ble_eq_true rfl, Nat.le_of_ble_eq_true rfl⟩) hS (fun q _ h => hFc q h) hFc (fun ur52 t H1 locs ht hvm hr52 hB hz1 hk1 hS => ?_)
              obtain ⟨f53, g54, w55⟩ := ur52
              obtain ⟨hP1, hD1⟩ := hB
              rw [ht] at hP1
              obtain ⟨hP, hD⟩ := va_join (wr := [(h0, .inr (5, [x0, x1, x2, x3, .ref t0, x5, x6, x7, x8, x9, x10, x11, x12, x13, x14, x15, x16, x17, x18])), (so, .inl (k 0, 4, .inl (fun _ => 0))), (lw, .inl (k 0, 4, .inl (fun _ => 0)))]) (w1 := [(t0, .inr (2, [.ref fr, .ref al, .ref so, .ref lw, .int 0, .int w55])), (fr, .inl (k 0, 34, .inl f53)), (al, .inl (k 0, 34, .inl g54))]) hP hD [3, 4, 5] [0, 1, 2] rfl rfl (by decide) (by decide) hk1 hFc hP1 hD1
              clear hP1 hD1
              generalize H1 = H at hP hS ⊢
              replace hP : va_P G vwCl [(h0, .inr (5, [x0, x1, x2, x3, .ref t0, x5, x6, x7, x8, x9, x10, x11, x12, x13, x14, x15, x16, x17, x18])), (so, .inl (k 0, 4, .inl (fun _ => 0))), (lw, .inl (k 0, 4, .inl (fun _ => 0))), (t0, .inr (2, [.ref fr, .ref al, .ref so, .ref lw, .int 0, .int w55])), (fr, .inl (k 0, 34, .inl f53)), (al, .inl (k 0, 34, .inl g54))] H := hP
              replace hD : va_D A [(h0, .inr (5, [x0, x1, x2, x3, .ref t0, x5, x6, x7, x8, x9, x10, x11, x12, x13, x14, x15, x16, x17, x18])), (so, .inl (k 0, 4, .inl (fun _ => 0))), (lw, .inl (k 0, 4, .inl (fun _ => 0))), (t0, .inr (2, [.ref fr, .ref al, .ref so, .ref lw, .int 0, .int w55])), (fr, .inl (k 0, 34, .inl f53)), (al, .inl (k 0, 34, .inl g54))] := hD
              obtain ⟨v56, ev56⟩ : ∃ y : Int32, y = v51 + 1 := ⟨_, rfl⟩
              have nv56 : v56 = nI (j + 1 + 1 + 1) := by rw [ev56, nv51]; exact nI_add (j + 1 + 1) (1)
              refine lv_iinc (v := v56) (lv' := [(5, .int v56), (4, .int 1), (3, .int v31), (0, .ref h0), (1, .int p0), (2, .int p1)]) hx hb dX6_set_116 hl (k := 0) rfl (by rw [ev56]; rfl) (by decide) rfl (fun ls hl => ?_)
              refine lv_goto (tgt := 99) hx hb dX6_set_119 (by decide) ?_
              refine lv_iload hx hb dX6_set_99 (lv_at hl 0 rfl) ?_
              refine lv_iload_n hx hb dX6_set_101 rfl (lv_at hl 2 rfl) ?_
              refine lv_icmp_gt (tgt := 122) hx hb dX6_set_102 (by decide) (fun _ => ?_) (fun c9 => absurd (n_gt nv56 nv31 (by omega) (by omega)) c9)
              refine lv_aload_n hx hb dX6_set_122 rfl (lv_at hl 3 rfl) ?_
              refine va_get (D := G) (ci := 5) (v := .ref t0) (C := RX6) (T := TX6) (N := 19) hx hb hts i_c_X6_set0_X6 hown hK hP 0 rfl rfl 4 (by decide) (hts (.fieldLink RX6 38 "TileHouse" "deskTiles" "LTileHouse$Tiles;") (by decide +kernel)) (fun _ h9 => h9) rfl dX6_set_123 ?_
              refine lv_iload_n hx hb dX6_set_126 rfl (lv_at hl 4 rfl) ?_
              refine lv_iload_n hx hb dX6_set_127 rfl (lv_at hl 5 rfl) ?_
              have hPc := hP.sub (ws' := [(t0, .inr (2, [.ref fr, .ref al, .ref so, .ref lw, .int 0, .int w55])), (fr, .inl (k 0, 34, .inl f53)), (so, .inl (k 0, 4, .inl (fun _ => 0))), (lw, .inl (k 0, 4, .inl (fun _ => 0)))]) [3, 4, 1, 2] rfl
              have hDc := hD.sub (ws' := [(t0, .inr (2, [.ref fr, .ref al, .ref so, .ref lw, .int 0, .int w55])), (fr, .inl (k 0, 34, .inl f53)), (so, .inl (k 0, 4, .inl (fun _ => 0))), (lw, .inl (k 0, 4, .inl (fun _ => 0)))]) [3, 4, 1, 2] (by decide) rfl
              have hFc := va_free (wc := [(t0, .inr (2, [.ref fr, .ref al, .ref so, .ref lw, .int 0, .int w55])), (fr, .inl (k 0, 34, .inl f53)), (so, .inl (k 0, 4, .inl (fun _ => 0))), (lw, .inl (k 0, 4, .inl (fun _ => 0)))]) hD hS hA [3, 4, 1, 2] rfl
              refine va_callv (va_runV (As := [.int p0, .int p1]) (rest := []) ⟨hx, hb, hml, hown, hts⟩ (c_X3_layDown0 l G k H.size t0 fr so lw f53 (fun _ => 0) (fun _ => 0) w55 p0 p1 (.ref al)) (cwV 2 hts g_c_X6_set0_c_X3_layDown0_181 rfl rfl rfl (by decide +kernel) ⟨Nat.le_of_ble_eq_true rfl, Nat.le_of_ble_eq_true rfl⟩) ⟨pq_bl, va_recv hK hPc (ci := 2) (q0 := 0) rfl rfl, pq_pre hPc hDc hK hN⟩ rfl rfl hl.1 rfl (lv_room (Nat.le_of_ble_eq_true rfl)) dX6_set_128 ⟨Nat.le_of_ble_eq_true rfl, Nat.le_of_ble_eq_true rfl⟩) hS (fun q _ h => hFc q h) hFc (fun ur57 t H1 locs ht hvm hr57 hB hz1 hk1 hS => ?_)
              have hP1 : va_P G vwCl [] H1 := vP0
              have hD1 : va_D (va_A [(t0, .inr (2, [.ref fr, .ref al, .ref so, .ref lw, .int 0, .int w55])), (fr, .inl (k 0, 34, .inl f53)), (so, .inl (k 0, 4, .inl (fun _ => 0))), (lw, .inl (k 0, 4, .inl (fun _ => 0)))] H.size) [] := vD0
              obtain ⟨hP, hD⟩ := va_join (wr := [(h0, .inr (5, [x0, x1, x2, x3, .ref t0, x5, x6, x7, x8, x9, x10, x11, x12, x13, x14, x15, x16, x17, x18])), (al, .inl (k 0, 34, .inl g54))]) (w1 := []) hP hD [3, 4, 1, 2] [0, 5] rfl rfl (by decide) (by decide) hk1 hFc hP1 hD1
              clear hP1 hD1
              generalize H1 = H at hP hS ⊢
              replace hP : va_P G vwCl [(h0, .inr (5, [x0, x1, x2, x3, .ref t0, x5, x6, x7, x8, x9, x10, x11, x12, x13, x14, x15, x16, x17, x18])), (al, .inl (k 0, 34, .inl g54))] H := hP
              replace hD : va_D A [(h0, .inr (5, [x0, x1, x2, x3, .ref t0, x5, x6, x7, x8, x9, x10, x11, x12, x13, x14, x15, x16, x17, x18])), (al, .inl (k 0, 34, .inl g54))] := hD
              refine lv_iconst (v := 1) hx hb dX6_set_131 (by decide) ?_
              refine W.widen (k := 0) (n := 0) (Nat.le_of_ble_eq_true rfl) (Nat.le_of_ble_eq_true rfl) ?_
              exact W.zret (v := 1) hx hb hr rfl (fun t ht hW => ⟨⟨1, (), rfl, Or.inl ⟨rfl, h2, by assumption, by first | assumption | exact Int32.not_lt.mpr (by assumption), fun _ => h28⟩, trivial⟩, hS.F ht⟩) hS.2.2 dX6_set_132
            · skip
              exact absurd (c5.symm.trans h8) (by decide)
            · skip
              exact absurd c5 h8
          · skip
            refine lv_if_eq (tgt := 43) hx hb dX6_set_26 (by decide) (fun _ => ?_) (fun c9 => absurd (by decide) c9)
            refine lv_iconst (v := 0) hx hb dX6_set_43 (by decide) ?_
            refine W.widen (k := 0) (n := 0) (Nat.le_of_ble_eq_true rfl) (Nat.le_of_ble_eq_true rfl) ?_
            exact W.zret (v := 0) hx hb hr rfl (fun t ht hW => ⟨⟨0, (), rfl, Or.inr ⟨rfl, fun h9 => by first | exact absurd h9.1 (by assumption) | exact h9.2.1 (by assumption) | exact h9.2.2.1 (by assumption) | exact h9.2.2.1 (Int32.not_le.mp (by assumption)) | exact absurd (h9.2.2.2 (by assumption)) (by assumption)⟩, trivial⟩, hS.F ht⟩) hS.2.2 dX6_set_44
      · skip
        refine lv_iconst (v := 0) hx hb dX6_set_16 (by decide) ?_
        refine W.widen (k := 0) (n := 0) (Nat.le_of_ble_eq_true rfl) (Nat.le_of_ble_eq_true rfl) ?_
        exact W.zret (v := 0) hx hb hr rfl (fun t ht hW => ⟨⟨0, (), rfl, Or.inr ⟨rfl, fun h9 => by first | exact absurd h9.1 (by assumption) | exact h9.2.1 (by assumption) | exact h9.2.2.1 (by assumption) | exact h9.2.2.1 (Int32.not_le.mp (by assumption)) | exact absurd (h9.2.2.2 (by assumption)) (by assumption)⟩, trivial⟩, hS.F ht⟩) hS.2.2 dX6_set_17
  · skip
    refine lv_if_eq (tgt := 16) hx hb dX6_set_4 (by decide) (fun _ => ?_) (fun c9 => absurd (by decide) c9)
    refine lv_iconst (v := 0) hx hb dX6_set_16 (by decide) ?_
    refine W.widen (k := 0) (n := 0) (Nat.le_of_ble_eq_true rfl) (Nat.le_of_ble_eq_true rfl) ?_
    exact W.zret (v := 0) hx hb hr rfl (fun t ht hW => ⟨⟨0, (), rfl, Or.inr ⟨rfl, fun h9 => by first | exact absurd h9.1 (by assumption) | exact h9.2.1 (by assumption) | exact h9.2.2.1 (by assumption) | exact h9.2.2.1 (Int32.not_le.mp (by assumption)) | exact absurd (h9.2.2.2 (by assumption)) (by assumption)⟩, trivial⟩, hS.F ht⟩) hS.2.2 dX6_set_17
def v_m_set : List Cond := .code yX7_set cX7_set 5 (some .boolean) :: ([.fieldLink RX7 103 "TileHouseModel" "thrown" "I", .methodLink RX7 329 yX7_isKind, .static yX7_isKind, .initialized RX7, .methodLink RX7 403 yX7_takeDesk, .instanceMethod yX7_takeDesk, .selects RX7 yX7_takeDesk yX7_takeDesk, .methodLink RX7 133 yX7_inHand, .instanceMethod yX7_inHand, .selects RX7 yX7_inHand yX7_inHand, .fieldLink RX7 137 "TileHouseModel" "laidMany" "I", .methodLink RX7 227 yX7_of, .instanceMethod yX7_of, .selects RX7 yX7_of yX7_of, .fieldLink RX7 94 "TileHouseModel" "deskSort" "[I", .fieldLink RX7 400 "TileHouseModel" "deskSets" "I", .fieldLink RX7 97 "TileHouseModel" "deskKind" "[I", .methodLink RX7 157 yX7_isRun, .static yX7_isRun] ++ (wsX70 ++ (v_c_X7_isKind ++ (v_m_takeDesk ++ (v_m_inHand ++ (v_m_of ++ (v_c_X7_isRun ++ ([]))))))))
theorem vg_m_set : ∀ w ∈ v_m_set, goodWord w = true := vg_c (c := .code yX7_set cX7_set 5 (some .boolean)) (l := [.fieldLink RX7 103 "TileHouseModel" "thrown" "I", .methodLink RX7 329 yX7_isKind, .static yX7_isKind, .initialized RX7, .methodLink RX7 403 yX7_takeDesk, .instanceMethod yX7_takeDesk, .selects RX7 yX7_takeDesk yX7_takeDesk, .methodLink RX7 133 yX7_inHand, .instanceMethod yX7_inHand, .selects RX7 yX7_inHand yX7_inHand, .fieldLink RX7 137 "TileHouseModel" "laidMany" "I", .methodLink RX7 227 yX7_of, .instanceMethod yX7_of, .selects RX7 yX7_of yX7_of, .fieldLink RX7 94 "TileHouseModel" "deskSort" "[I", .fieldLink RX7 400 "TileHouseModel" "deskSets" "I", .fieldLink RX7 97 "TileHouseModel" "deskKind" "[I", .methodLink RX7 157 yX7_isRun, .static yX7_isRun]) (by decide +kernel) (vg_a vgX7 (vg_a vg_c_X7_isKind (vg_a vg_m_takeDesk (vg_a vg_m_inHand (vg_a vg_m_of (vg_a vg_c_X7_isRun (vg_nil)))))))
theorem i_m_set_X7 : ∀ w ∈ u_ws RX7 TX7 68, w ∈ v_m_set := fun _ h => List.mem_cons_of_mem _ (List.mem_append_right _ (List.mem_append_left _ h))
theorem g_m_set_c_X7_isKind_329 : GoodIn v_m_set (wsS RX7 329 yX7_isKind v_c_X7_isKind) := goodIn_app (goodIn_of _ (by decide +kernel)) (fun w h => ⟨List.mem_cons_of_mem _ (List.mem_append_right _ (List.mem_append_right _ (List.mem_append_left _ h))), good_of_word (vg_c_X7_isKind w h)⟩)
theorem g_m_set_m_takeDesk_403 : GoodIn v_m_set (wsV RX7 403 RX7 yX7_takeDesk v_m_takeDesk) := goodIn_app (goodIn_of _ (by decide +kernel)) (fun w h => ⟨List.mem_cons_of_mem _ (List.mem_append_right _ (List.mem_append_right _ (List.mem_append_right _ (List.mem_append_left _ h)))), good_of_word (vg_m_takeDesk w h)⟩)
theorem g_m_set_m_inHand_133 : GoodIn v_m_set (wsV RX7 133 RX7 yX7_inHand v_m_inHand) := goodIn_app (goodIn_of _ (by decide +kernel)) (fun w h => ⟨List.mem_cons_of_mem _ (List.mem_append_right _ (List.mem_append_right _ (List.mem_append_right _ (List.mem_append_right _ (List.mem_append_left _ h))))), good_of_word (vg_m_inHand w h)⟩)
theorem g_m_set_m_of_227 : GoodIn v_m_set (wsV RX7 227 RX7 yX7_of v_m_of) := goodIn_app (goodIn_of _ (by decide +kernel)) (fun w h => ⟨List.mem_cons_of_mem _ (List.mem_append_right _ (List.mem_append_right _ (List.mem_append_right _ (List.mem_append_right _ (List.mem_append_right _ (List.mem_append_left _ h)))))), good_of_word (vg_m_of w h)⟩)
theorem g_m_set_c_X7_isRun_157 : GoodIn v_m_set (wsS RX7 157 yX7_isRun v_c_X7_isRun) := goodIn_app (goodIn_of _ (by decide +kernel)) (fun w h => ⟨List.mem_cons_of_mem _ (List.mem_append_right _ (List.mem_append_right _ (List.mem_append_right _ (List.mem_append_right _ (List.mem_append_right _ (List.mem_append_right _ (List.mem_append_left _ h))))))), good_of_word (vg_c_X7_isRun w h)⟩)
set_option maxHeartbeats 4000000 in
set_option maxRecDepth 100000 in
theorem m_set (l : Launch) (G : va_G) (k : Nat → ClassId) (sz : Nat) (h0 : Nat) (u : Nat → Nat) (p0 : Int32) (p1 : Int32) : Met l yX7_set v_m_set ({ frames := 1, cells := 0, slots := 0, locals := 23 }) (va_Pc [.ref h0, .int p0, .int p1] (pq G k [(h0, .inr (6, [.int 0, .ref (u 0), .ref (u 1), .ref (u 2), .int 0, .ref (u 3), .ref (u 4), .int 0, .int 0, .int 0, .int 0, .int 0, .long 0, .int 0, .int 0, .int 0, .int 0, .long 0, .int 0, .ref (u 5), .ref (u 6), .int 0, .int 0, .int 0, .long 0, .long 0, .ref (u 7), .ref (u 8), .ref (u 9), .ref (u 10), .ref (u 11), .ref (u 12), .ref (u 13), .ref (u 14), .ref (u 15), .ref (u 16), .ref (u 17), .ref (u 18), .ref (u 19), .ref (u 20), .int 0, .int 0, .int 0, .int 0, .int 0, .int 0, .int 0, .int 0, .int 0, .int (-1), .int (-1), .int (-1), .int 0, .int 0, .int 0, .int 0, .int 0, .int 0, .int 0, .int 0, .ref (u 21), .ref (u 22), .ref (u 23), .ref (u 24), .ref (u 25), .ref (u 26), .int 0, .long 0])), ((u 0), .inl (k 0, 34, .inl (fun _ => 0))), ((u 7), .inl (k 0, 34, .inl (fun _ => 0))), ((u 23), .inl (k 0, 34, .inl (fun _ => 0))), ((u 24), .inl (k 0, 4, .inl (fun _ => 0))), ((u 25), .inl (k 0, 4, .inl (fun _ => 0)))] sz)) (va_Qi (fun r (_ : Unit) => (r = 1 ∧ SOK p0 p1) ∨ (r = 0 ∧ ¬ SOK p0 p1)) (fun (_ : Unit) _ => True) (va_A [(h0, .inr (6, [.int 0, .ref (u 0), .ref (u 1), .ref (u 2), .int 0, .ref (u 3), .ref (u 4), .int 0, .int 0, .int 0, .int 0, .int 0, .long 0, .int 0, .int 0, .int 0, .int 0, .long 0, .int 0, .ref (u 5), .ref (u 6), .int 0, .int 0, .int 0, .long 0, .long 0, .ref (u 7), .ref (u 8), .ref (u 9), .ref (u 10), .ref (u 11), .ref (u 12), .ref (u 13), .ref (u 14), .ref (u 15), .ref (u 16), .ref (u 17), .ref (u 18), .ref (u 19), .ref (u 20), .int 0, .int 0, .int 0, .int 0, .int 0, .int 0, .int 0, .int 0, .int 0, .int (-1), .int (-1), .int (-1), .int 0, .int 0, .int 0, .int 0, .int 0, .int 0, .int 0, .int 0, .ref (u 21), .ref (u 22), .ref (u 23), .ref (u 24), .ref (u 25), .ref (u 26), .int 0, .long 0])), ((u 0), .inl (k 0, 34, .inl (fun _ => 0))), ((u 7), .inl (k 0, 34, .inl (fun _ => 0))), ((u 23), .inl (k 0, 34, .inl (fun _ => 0))), ((u 24), .inl (k 0, 4, .inl (fun _ => 0))), ((u 25), .inl (k 0, 4, .inl (fun _ => 0)))] sz)) 0 0 (va_A [(h0, .inr (6, [.int 0, .ref (u 0), .ref (u 1), .ref (u 2), .int 0, .ref (u 3), .ref (u 4), .int 0, .int 0, .int 0, .int 0, .int 0, .long 0, .int 0, .int 0, .int 0, .int 0, .long 0, .int 0, .ref (u 5), .ref (u 6), .int 0, .int 0, .int 0, .long 0, .long 0, .ref (u 7), .ref (u 8), .ref (u 9), .ref (u 10), .ref (u 11), .ref (u 12), .ref (u 13), .ref (u 14), .ref (u 15), .ref (u 16), .ref (u 17), .ref (u 18), .ref (u 19), .ref (u 20), .int 0, .int 0, .int 0, .int 0, .int 0, .int 0, .int 0, .int 0, .int 0, .int (-1), .int (-1), .int (-1), .int 0, .int 0, .int 0, .int 0, .int 0, .int 0, .int 0, .int 0, .ref (u 21), .ref (u 22), .ref (u 23), .ref (u 24), .ref (u 25), .ref (u 26), .int 0, .long 0])), ((u 0), .inl (k 0, 34, .inl (fun _ => 0))), ((u 7), .inl (k 0, 34, .inl (fun _ => 0))), ((u 23), .inl (k 0, 34, .inl (fun _ => 0))), ((u 24), .inl (k 0, 4, .inl (fun _ => 0))), ((u 25), .inl (k 0, 4, .inl (fun _ => 0)))] sz) := by
  refine Met.ofW (cc := cX7_set) (maxL := 5) (ret := (some .boolean)) (by decide) rfl ?_
  intro p e s m args below meth c s₁ B hml hv
  obtain ⟨rfl, hsz, ⟨hP, hK, hN⟩, hD0⟩ := hv
  have hx := B.exec
  have hb := B.bytes
  have hr := B.returns
  have hts := atoms_spec (ws := v_m_set) B.pre
  have hown : s.vm.findClass RX7 = some m.cls := findClass_of_methodNamed B.named
  have hlocks := B.notSynchronized
  subst hsz
  have hD := hD0.self (sz := s.heap.size)
  generalize hAe : va_A [(h0, .inr (6, [.int 0, .ref (u 0), .ref (u 1), .ref (u 2), .int 0, .ref (u 3), .ref (u 4), .int 0, .int 0, .int 0, .int 0, .int 0, .long 0, .int 0, .int 0, .int 0, .int 0, .long 0, .int 0, .ref (u 5), .ref (u 6), .int 0, .int 0, .int 0, .long 0, .long 0, .ref (u 7), .ref (u 8), .ref (u 9), .ref (u 10), .ref (u 11), .ref (u 12), .ref (u 13), .ref (u 14), .ref (u 15), .ref (u 16), .ref (u 17), .ref (u 18), .ref (u 19), .ref (u 20), .int 0, .int 0, .int 0, .int 0, .int 0, .int 0, .int 0, .int 0, .int 0, .int (-1), .int (-1), .int (-1), .int 0, .int 0, .int 0, .int 0, .int 0, .int 0, .int 0, .int 0, .ref (u 21), .ref (u 22), .ref (u 23), .ref (u 24), .ref (u 25), .ref (u 26), .int 0, .long 0])), ((u 0), .inl (k 0, 34, .inl (fun _ => 0))), ((u 7), .inl (k 0, 34, .inl (fun _ => 0))), ((u 23), .inl (k 0, 34, .inl (fun _ => 0))), ((u 24), .inl (k 0, 4, .inl (fun _ => 0))), ((u 25), .inl (k 0, 4, .inl (fun _ => 0)))] s.heap.size = A at hD ⊢
  have hA : ∀ q : Nat, s.heap.size ≤ q → A q := fun q h => by rw [← hAe]; exact Or.inr h
  have hS : va_S A s.heap s.heap [] := va_S.rf
  have hP : va_P G vwCl [(h0, .inr (6, [.int 0, .ref (u 0), .ref (u 1), .ref (u 2), .int 0, .ref (u 3), .ref (u 4), .int 0, .int 0, .int 0, .int 0, .int 0, .long 0, .int 0, .int 0, .int 0, .int 0, .long 0, .int 0, .ref (u 5), .ref (u 6), .int 0, .int 0, .int 0, .long 0, .long 0, .ref (u 7), .ref (u 8), .ref (u 9), .ref (u 10), .ref (u 11), .ref (u 12), .ref (u 13), .ref (u 14), .ref (u 15), .ref (u 16), .ref (u 17), .ref (u 18), .ref (u 19), .ref (u 20), .int 0, .int 0, .int 0, .int 0, .int 0, .int 0, .int 0, .int 0, .int 0, .int (-1), .int (-1), .int (-1), .int 0, .int 0, .int 0, .int 0, .int 0, .int 0, .int 0, .int 0, .ref (u 21), .ref (u 22), .ref (u 23), .ref (u 24), .ref (u 25), .ref (u 26), .int 0, .long 0])), ((u 0), .inl (k 0, 34, .inl (fun _ => 0))), ((u 7), .inl (k 0, 34, .inl (fun _ => 0))), ((u 23), .inl (k 0, 34, .inl (fun _ => 0))), ((u 24), .inl (k 0, 4, .inl (fun _ => 0))), ((u 25), .inl (k 0, 4, .inl (fun _ => 0)))] s.heap := hP
  refine hvar hP hS (fun H locs hP hS => ?_)
  have hl := lv_entry ([.ref h0, .int p0, .int p1]) (n := 5) (Nat.le_of_ble_eq_true rfl)
  rw [lg_entry_eq]
  generalize (lg_sl ([.ref h0, .int p0, .int p1]) ++ List.replicate (5 - (lg_sl ([.ref h0, .int p0, .int p1])).length) Slot.unset).toArray = ls at hl ⊢
  have hl : lv_has ls 5 [(0, .ref h0), (1, .int p0), (2, .int p1)] := hl
  refine lv_aload_n hx hb dX7_set_0 rfl (lv_at hl 0 rfl) ?_
  refine lv_iconst (v := 0) hx hb dX7_set_1 (by decide) ?_
  refine va_put (D := G) (ci := 6) (v := .int 0) (ty := .int) (C := RX7) (T := TX7) (N := 68) hx hb hts i_m_set_X7 tyX7 tyX7_ok nmX7 hown hK hP hD hS 0 rfl rfl 0 (by decide) (hts (.fieldLink RX7 103 "TileHouseModel" "thrown" "I") (by decide +kernel)) (fun _ h9 => h9) rfl (by decide +kernel) rfl rfl (Nat.le_of_ble_eq_true rfl) dX7_set_2 (fun H locs hP hD hS => ?_)
  replace hP : va_P G vwCl [(h0, .inr (6, [.int 0, .ref (u 0), .ref (u 1), .ref (u 2), .int 0, .ref (u 3), .ref (u 4), .int 0, .int 0, .int 0, .int 0, .int 0, .long 0, .int 0, .int 0, .int 0, .int 0, .long 0, .int 0, .ref (u 5), .ref (u 6), .int 0, .int 0, .int 0, .long 0, .long 0, .ref (u 7), .ref (u 8), .ref (u 9), .ref (u 10), .ref (u 11), .ref (u 12), .ref (u 13), .ref (u 14), .ref (u 15), .ref (u 16), .ref (u 17), .ref (u 18), .ref (u 19), .ref (u 20), .int 0, .int 0, .int 0, .int 0, .int 0, .int 0, .int 0, .int 0, .int 0, .int (-1), .int (-1), .int (-1), .int 0, .int 0, .int 0, .int 0, .int 0, .int 0, .int 0, .int 0, .ref (u 21), .ref (u 22), .ref (u 23), .ref (u 24), .ref (u 25), .ref (u 26), .int 0, .long 0])), ((u 0), .inl (k 0, 34, .inl (fun _ => 0))), ((u 7), .inl (k 0, 34, .inl (fun _ => 0))), ((u 23), .inl (k 0, 34, .inl (fun _ => 0))), ((u 24), .inl (k 0, 4, .inl (fun _ => 0))), ((u 25), .inl (k 0, 4, .inl (fun _ => 0)))] H := hP
  replace hD : va_D A [(h0, .inr (6, [.int 0, .ref (u 0), .ref (u 1), .ref (u 2), .int 0, .ref (u 3), .ref (u 4), .int 0, .int 0, .int 0, .int 0, .int 0, .long 0, .int 0, .int 0, .int 0, .int 0, .long 0, .int 0, .ref (u 5), .ref (u 6), .int 0, .int 0, .int 0, .long 0, .long 0, .ref (u 7), .ref (u 8), .ref (u 9), .ref (u 10), .ref (u 11), .ref (u 12), .ref (u 13), .ref (u 14), .ref (u 15), .ref (u 16), .ref (u 17), .ref (u 18), .ref (u 19), .ref (u 20), .int 0, .int 0, .int 0, .int 0, .int 0, .int 0, .int 0, .int 0, .int 0, .int (-1), .int (-1), .int (-1), .int 0, .int 0, .int 0, .int 0, .int 0, .int 0, .int 0, .int 0, .ref (u 21), .ref (u 22), .ref (u 23), .ref (u 24), .ref (u 25), .ref (u 26), .int 0, .long 0])), ((u 0), .inl (k 0, 34, .inl (fun _ => 0))), ((u 7), .inl (k 0, 34, .inl (fun _ => 0))), ((u 23), .inl (k 0, 34, .inl (fun _ => 0))), ((u 24), .inl (k 0, 4, .inl (fun _ => 0))), ((u 25), .inl (k 0, 4, .inl (fun _ => 0)))] := hD
  refine lv_iload_n hx hb dX7_set_5 rfl (lv_at hl 2 rfl) ?_
  have hPc := hP.sub (ws' := []) [] rfl
  refine q_calli (va_runS (As := [.int p1]) (rest := []) ⟨hx, hb, hml, hown, hts⟩ (c_X7_isKind l G k p1) (cwS 1 hts g_m_set_c_X7_isKind_329 rfl rfl rfl (by decide +kernel) ⟨Nat.le_of_ble_eq_true rfl, Nat.le_of_ble_eq_true rfl⟩) ⟨pr_bl, pr_pre hPc hK hN⟩ rfl rfl hl.1 rfl (lv_room (Nat.le_of_ble_eq_true rfl)) dX7_set_6 ⟨Nat.le_of_ble_eq_true rfl, Nat.le_of_ble_eq_true rfl⟩) (fun r1 hr1 => ?_)
  rcases hr1 with ⟨rfl, h2⟩ | ⟨rfl, h2⟩
  · skip
    obtain ⟨j, hj, ej⟩ := vp_in_of h2 (by decide)
    refine lv_if_eq (tgt := 32) hx hb dX7_set_9 (by decide) (fun c9 => absurd c9 (by decide)) (fun _ => ?_)
    refine lv_iload_n hx hb dX7_set_12 rfl (lv_at hl 1 rfl) ?_
    refine lv_if_lt (tgt := 32) hx hb dX7_set_13 (by decide) (fun c3 => ?_) (fun c3 => ?_)
    · skip
      refine lv_iconst (v := 0) hx hb dX7_set_32 (by decide) ?_
      refine W.widen (k := 0) (n := 0) (Nat.le_of_ble_eq_true rfl) (Nat.le_of_ble_eq_true rfl) ?_
      exact W.zret (v := 0) hx hb hr rfl (fun t ht hW => ⟨⟨0, (), rfl, Or.inr ⟨rfl, fun h9 => by first | exact absurd h9.1 (by assumption) | exact h9.2.1 (by assumption) | exact h9.2.2.1 (by assumption) | exact h9.2.2.1 (Int32.not_le.mp (by assumption)) | exact absurd (h9.2.2.2 (by assumption)) (by assumption)⟩, trivial⟩, hS.F ht⟩) hS.2.2 dX7_set_33
    · skip
      refine lv_iload_n hx hb dX7_set_16 rfl (lv_at hl 1 rfl) ?_
      refine lv_iconst (v := 3) hx hb dX7_set_17 (by decide) ?_
      refine lv_icmp_gt (tgt := 32) hx hb dX7_set_18 (by decide) (fun c4 => ?_) (fun c4 => ?_)
      · skip
        refine lv_iconst (v := 0) hx hb dX7_set_32 (by decide) ?_
        refine W.widen (k := 0) (n := 0) (Nat.le_of_ble_eq_true rfl) (Nat.le_of_ble_eq_true rfl) ?_
        exact W.zret (v := 0) hx hb hr rfl (fun t ht hW => ⟨⟨0, (), rfl, Or.inr ⟨rfl, fun h9 => by first | exact absurd h9.1 (by assumption) | exact h9.2.1 (by assumption) | exact h9.2.2.1 (by assumption) | exact h9.2.2.1 (Int32.not_le.mp (by assumption)) | exact absurd (h9.2.2.2 (by assumption)) (by assumption)⟩, trivial⟩, hS.F ht⟩) hS.2.2 dX7_set_33
      · skip
        refine lv_iload_n hx hb dX7_set_21 rfl (lv_at hl 1 rfl) ?_
        refine lv_if_ne (tgt := 34) hx hb dX7_set_22 (by decide) (fun c5 => ?_) (fun c5 => ?_)
        · skip
          refine lv_aload_n hx hb dX7_set_34 rfl (lv_at hl 0 rfl) ?_
          have hPc := hP.sub (ws' := [(h0, .inr (6, [.int 0, .ref (u 0), .ref (u 1), .ref (u 2), .int 0, .ref (u 3), .ref (u 4), .int 0, .int 0, .int 0, .int 0, .int 0, .long 0, .int 0, .int 0, .int 0, .int 0, .long 0, .int 0, .ref (u 5), .ref (u 6), .int 0, .int 0, .int 0, .long 0, .long 0, .ref (u 7), .ref (u 8), .ref (u 9), .ref (u 10), .ref (u 11), .ref (u 12), .ref (u 13), .ref (u 14), .ref (u 15), .ref (u 16), .ref (u 17), .ref (u 18), .ref (u 19), .ref (u 20), .int 0, .int 0, .int 0, .int 0, .int 0, .int 0, .int 0, .int 0, .int 0, .int (-1), .int (-1), .int (-1), .int 0, .int 0, .int 0, .int 0, .int 0, .int 0, .int 0, .int 0, .ref (u 21), .ref (u 22), .ref (u 23), .ref (u 24), .ref (u 25), .ref (u 26), .int 0, .long 0])), ((u 0), .inl (k 0, 34, .inl (fun _ => 0))), ((u 7), .inl (k 0, 34, .inl (fun _ => 0))), ((u 23), .inl (k 0, 34, .inl (fun _ => 0)))]) [0, 1, 2, 3] rfl
          have hDc := hD.sub (ws' := [(h0, .inr (6, [.int 0, .ref (u 0), .ref (u 1), .ref (u 2), .int 0, .ref (u 3), .ref (u 4), .int 0, .int 0, .int 0, .int 0, .int 0, .long 0, .int 0, .int 0, .int 0, .int 0, .long 0, .int 0, .ref (u 5), .ref (u 6), .int 0, .int 0, .int 0, .long 0, .long 0, .ref (u 7), .ref (u 8), .ref (u 9), .ref (u 10), .ref (u 11), .ref (u 12), .ref (u 13), .ref (u 14), .ref (u 15), .ref (u 16), .ref (u 17), .ref (u 18), .ref (u 19), .ref (u 20), .int 0, .int 0, .int 0, .int 0, .int 0, .int 0, .int 0, .int 0, .int 0, .int (-1), .int (-1), .int (-1), .int 0, .int 0, .int 0, .int 0, .int 0, .int 0, .int 0, .int 0, .ref (u 21), .ref (u 22), .ref (u 23), .ref (u 24), .ref (u 25), .ref (u 26), .int 0, .long 0])), ((u 0), .inl (k 0, 34, .inl (fun _ => 0))), ((u 7), .inl (k 0, 34, .inl (fun _ => 0))), ((u 23), .inl (k 0, 34, .inl (fun _ => 0)))]) [0, 1, 2, 3] (by decide) rfl
          have hFc := va_free (wc := [(h0, .inr (6, [.int 0, .ref (u 0), .ref (u 1), .ref (u 2), .int 0, .ref (u 3), .ref (u 4), .int 0, .int 0, .int 0, .int 0, .int 0, .long 0, .int 0, .int 0, .int 0, .int 0, .long 0, .int 0, .ref (u 5), .ref (u 6), .int 0, .int 0, .int 0, .long 0, .long 0, .ref (u 7), .ref (u 8), .ref (u 9), .ref (u 10), .ref (u 11), .ref (u 12), .ref (u 13), .ref (u 14), .ref (u 15), .ref (u 16), .ref (u 17), .ref (u 18), .ref (u 19), .ref (u 20), .int 0, .int 0, .int 0, .int 0, .int 0, .int 0, .int 0, .int 0, .int 0, .int (-1), .int (-1), .int (-1), .int 0, .int 0, .int 0, .int 0, .int 0, .int 0, .int 0, .int 0, .ref (u 21), .ref (u 22), .ref (u 23), .ref (u 24), .ref (u 25), .ref (u 26), .int 0, .long 0])), ((u 0), .inl (k 0, 34, .inl (fun _ => 0))), ((u 7), .inl (k 0, 34, .inl (fun _ => 0))), ((u 23), .inl (k 0, 34, .inl (fun _ => 0)))]) hD hS hA [0, 1, 2, 3] rfl
          refine va_callv (va_runV (As := []) (rest := []) ⟨hx, hb, hml, hown, hts⟩ (m_takeDesk l G k H.size h0 u) (cwV 0 hts g_m_set_m_takeDesk_403 rfl rfl rfl (by decide +kernel) ⟨Nat.le_of_ble_eq_true rfl, Nat.le_of_ble_eq_true rfl⟩) ⟨pq_bl, va_recv hK hPc (ci := 6) (q0 := 0) rfl rfl, pq_pre hPc hDc hK hN⟩ rfl rfl hl.1 rfl (lv_room (Nat.le_of_ble_eq_true rfl)) dX7_set_35 ⟨Nat.le_of_ble_eq_true rfl, Nat.le_of_ble_eq_true rfl⟩) hS (fun q _ h => hFc q h) hFc (fun ur6 t H1 locs ht hvm hr6 hB hz1 hk1 hS => ?_)
          obtain ⟨hP1, hD1⟩ := hB
          rw [ht] at hP1
          obtain ⟨hP, hD⟩ := va_join (wr := [((u 24), .inl (k 0, 4, .inl (fun _ => 0))), ((u 25), .inl (k 0, 4, .inl (fun _ => 0)))]) (w1 := [(h0, .inr (6, [.int 0, .ref (u 0), .ref (u 1), .ref (u 2), .int 0, .ref (u 3), .ref (u 4), .int 0, .int 0, .int 0, .int 0, .int 0, .long 0, .int 0, .int 0, .int 0, .int 0, .long 0, .int 0, .ref (u 5), .ref (u 6), .int 0, .int 0, .int 0, .long 0, .long 0, .ref (u 7), .ref (u 8), .ref (u 9), .ref (u 10), .ref (u 11), .ref (u 12), .ref (u 13), .ref (u 14), .ref (u 15), .ref (u 16), .ref (u 17), .ref (u 18), .ref (u 19), .ref (u 20), .int 0, .int 0, .int 0, .int 0, .int 0, .int 0, .int 0, .int 0, .int 0, .int (-1), .int (-1), .int (-1), .int 0, .int 0, .int 0, .int 0, .int 0, .int 0, .int 0, .int 0, .ref (u 21), .ref (u 22), .ref (u 23), .ref (u 24), .ref (u 25), .ref (u 26), .int 0, .long 0])), ((u 0), .inl (k 0, 34, .inl (fun _ => 0))), ((u 7), .inl (k 0, 34, .inl (fun _ => 0))), ((u 23), .inl (k 0, 34, .inl (fun _ => 0)))]) hP hD [0, 1, 2, 3] [4, 5] rfl rfl (by decide) (by decide) hk1 hFc hP1 hD1
          clear hP1 hD1
          generalize H1 = H at hP hS ⊢
          replace hP : va_P G vwCl [((u 24), .inl (k 0, 4, .inl (fun _ => 0))), ((u 25), .inl (k 0, 4, .inl (fun _ => 0))), (h0, .inr (6, [.int 0, .ref (u 0), .ref (u 1), .ref (u 2), .int 0, .ref (u 3), .ref (u 4), .int 0, .int 0, .int 0, .int 0, .int 0, .long 0, .int 0, .int 0, .int 0, .int 0, .long 0, .int 0, .ref (u 5), .ref (u 6), .int 0, .int 0, .int 0, .long 0, .long 0, .ref (u 7), .ref (u 8), .ref (u 9), .ref (u 10), .ref (u 11), .ref (u 12), .ref (u 13), .ref (u 14), .ref (u 15), .ref (u 16), .ref (u 17), .ref (u 18), .ref (u 19), .ref (u 20), .int 0, .int 0, .int 0, .int 0, .int 0, .int 0, .int 0, .int 0, .int 0, .int (-1), .int (-1), .int (-1), .int 0, .int 0, .int 0, .int 0, .int 0, .int 0, .int 0, .int 0, .ref (u 21), .ref (u 22), .ref (u 23), .ref (u 24), .ref (u 25), .ref (u 26), .int 0, .long 0])), ((u 0), .inl (k 0, 34, .inl (fun _ => 0))), ((u 7), .inl (k 0, 34, .inl (fun _ => 0))), ((u 23), .inl (k 0, 34, .inl (fun _ => 0)))] H := hP
          replace hD : va_D A [((u 24), .inl (k 0, 4, .inl (fun _ => 0))), ((u 25), .inl (k 0, 4, .inl (fun _ => 0))), (h0, .inr (6, [.int 0, .ref (u 0), .ref (u 1), .ref (u 2), .int 0, .ref (u 3), .ref (u 4), .int 0, .int 0, .int 0, .int 0, .int 0, .long 0, .int 0, .int 0, .int 0, .int 0, .long 0, .int 0, .ref (u 5), .ref (u 6), .int 0, .int 0, .int 0, .long 0, .long 0, .ref (u 7), .ref (u 8), .ref (u 9), .ref (u 10), .ref (u 11), .ref (u 12), .ref (u 13), .ref (u 14), .ref (u 15), .ref (u 16), .ref (u 17), .ref (u 18), .ref (u 19), .ref (u 20), .int 0, .int 0, .int 0, .int 0, .int 0, .int 0, .int 0, .int 0, .int 0, .int (-1), .int (-1), .int (-1), .int 0, .int 0, .int 0, .int 0, .int 0, .int 0, .int 0, .int 0, .ref (u 21), .ref (u 22), .ref (u 23), .ref (u 24), .ref (u 25), .ref (u 26), .int 0, .long 0])), ((u 0), .inl (k 0, 34, .inl (fun _ => 0))), ((u 7), .inl (k 0, 34, .inl (fun _ => 0))), ((u 23), .inl (k 0, 34, .inl (fun _ => 0)))] := hD
          refine lv_aload_n hx hb dX7_set_38 rfl (lv_at hl 0 rfl) ?_
          have hPc := hP.sub (ws' := [(h0, .inr (6, [.int 0, .ref (u 0), .ref (u 1), .ref (u 2), .int 0, .ref (u 3), .ref (u 4), .int 0, .int 0, .int 0, .int 0, .int 0, .long 0, .int 0, .int 0, .int 0, .int 0, .long 0, .int 0, .ref (u 5), .ref (u 6), .int 0, .int 0, .int 0, .long 0, .long 0, .ref (u 7), .ref (u 8), .ref (u 9), .ref (u 10), .ref (u 11), .ref (u 12), .ref (u 13), .ref (u 14), .ref (u 15), .ref (u 16), .ref (u 17), .ref (u 18), .ref (u 19), .ref (u 20), .int 0, .int 0, .int 0, .int 0, .int 0, .int 0, .int 0, .int 0, .int 0, .int (-1), .int (-1), .int (-1), .int 0, .int 0, .int 0, .int 0, .int 0, .int 0, .int 0, .int 0, .ref (u 21), .ref (u 22), .ref (u 23), .ref (u 24), .ref (u 25), .ref (u 26), .int 0, .long 0])), ((u 0), .inl (k 0, 34, .inl (fun _ => 0)))]) [2, 3] rfl
          refine q_calli (va_runV (As := []) (rest := []) ⟨hx, hb, hml, hown, hts⟩ (m_inHand l G k h0 u) (cwV 0 hts g_m_set_m_inHand_133 rfl rfl rfl (by decide +kernel) ⟨Nat.le_of_ble_eq_true rfl, Nat.le_of_ble_eq_true rfl⟩) ⟨pr_bl, va_recv hK hPc (ci := 6) (q0 := 0) rfl rfl, pr_pre hPc hK hN⟩ rfl rfl hl.1 rfl (lv_room (Nat.le_of_ble_eq_true rfl)) dX7_set_39 ⟨Nat.le_of_ble_eq_true rfl, Nat.le_of_ble_eq_true rfl⟩) (fun r7 hr7 => ?_)
          obtain rfl : r7 = 0 := hr7
          refine lv_iconst (v := 3) hx hb dX7_set_42 (by decide) ?_
          refine lv_aload_n hx hb dX7_set_43 rfl (lv_at hl 0 rfl) ?_
          refine va_get (D := G) (ci := 6) (v := .int 0) (C := RX7) (T := TX7) (N := 68) hx hb hts i_m_set_X7 hown hK hP 2 rfl rfl 4 (by decide) (hts (.fieldLink RX7 137 "TileHouseModel" "laidMany" "I") (by decide +kernel)) (fun _ h9 => h9) rfl dX7_set_44 ?_
          refine lv_imul hx hb dX7_set_47 ?_
          refine lv_topi (fun z8 ez8 => ?_)
          obtain rfl : z8 = 0 := ez8.trans (by decide)
          refine lv_iadd hx hb dX7_set_48 ?_
          refine lv_topi (fun z9 ez9 => ?_)
          obtain rfl : z9 = 0 := ez9.trans (by decide)
          refine lv_iconst (v := 3) hx hb dX7_set_49 (by decide) ?_
          refine lv_iadd hx hb dX7_set_50 ?_
          refine lv_topi (fun z10 ez10 => ?_)
          obtain rfl : z10 = 3 := ez10.trans (by decide)
          refine lv_bipush (v := 14) hx hb dX7_set_51 (by decide) ?_
          refine lv_icmp_le (tgt := 58) hx hb dX7_set_53 (by decide) (fun _ => ?_) (fun c9 => absurd (by decide) c9)
          refine lv_iload_n hx hb dX7_set_58 rfl (lv_at hl 1 rfl) ?_
          refine lv_if_ne (tgt := 66) hx hb dX7_set_59 (by decide) (fun _ => ?_) (fun c9 => absurd c9 c5)
          refine lv_iload_n hx hb dX7_set_66 rfl (lv_at hl 1 rfl) ?_
          refine lv_iconst (v := 1) hx hb dX7_set_67 (by decide) ?_
          refine lv_icmp_ne (tgt := 75) hx hb dX7_set_68 (by decide) (fun c11 => ?_) (fun c11 => ?_)
          · skip
            refine lv_iconst (v := 4) hx hb dX7_set_75 (by decide) ?_
            refine lv_istore_n (lv' := [(3, .int 4), (0, .ref h0), (1, .int p0), (2, .int p1)]) hx hb dX7_set_76 rfl hl (by decide) rfl (fun ls hl => ?_)
            refine lv_iload_n hx hb dX7_set_77 rfl (lv_at hl 3 rfl) ?_
            refine lv_istore (lv' := [(4, .int p1), (3, .int 4), (0, .ref h0), (1, .int p0), (2, .int p1)]) hx hb dX7_set_78 hl (by decide) rfl (fun ls hl => ?_)
            refine lv_iload hx hb dX7_set_80 (lv_at hl 0 rfl) ?_
            refine lv_iload_n hx hb dX7_set_82 rfl (lv_at hl 4 rfl) ?_
            refine lv_iload_n hx hb dX7_set_83 rfl (lv_at hl 3 rfl) ?_
            refine lv_if_ne (tgt := 91) hx hb dX7_set_84 (by decide) (fun _ => ?_) (fun c9 => absurd c9 c5)
            refine lv_iconst (v := 1) hx hb dX7_set_91 (by decide) ?_
            refine lv_iadd hx hb dX7_set_92 ?_
            refine lv_topi (fun v12 ev12 => ?_)
            have nv12 : v12 = nI (j + 1) := by rw [ev12, ej]; exact nI_add (j) (1)
            refine lv_icmp_ge (tgt := 116) hx hb dX7_set_93 (by decide) (fun c9 => absurd c9 (n_nge ej nv12 (by omega) (by omega))) (fun _ => ?_)
            refine lv_aload_n hx hb dX7_set_96 rfl (lv_at hl 2 rfl) ?_
            refine lv_iload hx hb dX7_set_97 (lv_at hl 0 rfl) ?_
            have hPc := hP.sub (ws' := [(h0, .inr (6, [.int 0, .ref (u 0), .ref (u 1), .ref (u 2), .int 0, .ref (u 3), .ref (u 4), .int 0, .int 0, .int 0, .int 0, .int 0, .long 0, .int 0, .int 0, .int 0, .int 0, .long 0, .int 0, .ref (u 5), .ref (u 6), .int 0, .int 0, .int 0, .long 0, .long 0, .ref (u 7), .ref (u 8), .ref (u 9), .ref (u 10), .ref (u 11), .ref (u 12), .ref (u 13), .ref (u 14), .ref (u 15), .ref (u 16), .ref (u 17), .ref (u 18), .ref (u 19), .ref (u 20), .int 0, .int 0, .int 0, .int 0, .int 0, .int 0, .int 0, .int 0, .int 0, .int (-1), .int (-1), .int (-1), .int 0, .int 0, .int 0, .int 0, .int 0, .int 0, .int 0, .int 0, .ref (u 21), .ref (u 22), .ref (u 23), .ref (u 24), .ref (u 25), .ref (u 26), .int 0, .long 0])), ((u 7), .inl (k 0, 34, .inl (fun _ => 0)))]) [2, 4] rfl
            refine q_calli (va_runV (As := [.int p1]) (rest := []) ⟨hx, hb, hml, hown, hts⟩ (m_of l G k h0 u p1 (inN ej (by omega) (by decide))) (cwV 1 hts g_m_set_m_of_227 rfl rfl rfl (by decide +kernel) ⟨Nat.le_of_ble_eq_true rfl, Nat.le_of_ble_eq_true rfl⟩) ⟨pr_bl, va_recv hK hPc (ci := 6) (q0 := 0) rfl rfl, pr_pre hPc hK hN⟩ rfl rfl hl.1 rfl (lv_room (Nat.le_of_ble_eq_true rfl)) dX7_set_99 ⟨Nat.le_of_ble_eq_true rfl, Nat.le_of_ble_eq_true rfl⟩) (fun r13 hr13 => ?_)
            obtain rfl : r13 = 0 := hr13
            refine lv_iload_n hx hb dX7_set_102 rfl (lv_at hl 1 rfl) ?_
            refine lv_iadd hx hb dX7_set_103 ?_
            refine lv_topi (fun z14 ez14 => ?_)
            obtain rfl : z14 = 4 := ez14.trans (by decide)
            refine lv_iconst (v := 4) hx hb dX7_set_104 (by decide) ?_
            refine lv_icmp_le (tgt := 110) hx hb dX7_set_105 (by decide) (fun _ => ?_) (fun c9 => absurd (by decide) c9)
            obtain ⟨v15, ev15⟩ : ∃ y : Int32, y = p1 + 1 := ⟨_, rfl⟩
            have nv15 : v15 = nI (j + 1) := by rw [ev15, ej]; exact nI_add (j) (1)
            refine lv_iinc (v := v15) (lv' := [(4, .int v15), (3, .int 4), (0, .ref h0), (1, .int p0), (2, .int p1)]) hx hb dX7_set_110 hl (k := 0) rfl (by rw [ev15]; rfl) (by decide) rfl (fun ls hl => ?_)
            refine lv_goto (tgt := 80) hx hb dX7_set_113 (by decide) ?_
            refine lv_iload hx hb dX7_set_80 (lv_at hl 0 rfl) ?_
            refine lv_iload_n hx hb dX7_set_82 rfl (lv_at hl 4 rfl) ?_
            refine lv_iload_n hx hb dX7_set_83 rfl (lv_at hl 3 rfl) ?_
            refine lv_if_ne (tgt := 91) hx hb dX7_set_84 (by decide) (fun _ => ?_) (fun c9 => absurd c9 c5)
            refine lv_iconst (v := 1) hx hb dX7_set_91 (by decide) ?_
            refine lv_iadd hx hb dX7_set_92 ?_
            refine lv_topi (fun v16 ev16 => ?_)
            have nv16 : v16 = nI (j + 1) := by rw [ev16, ej]; exact nI_add (j) (1)
            refine lv_icmp_ge (tgt := 116) hx hb dX7_set_93 (by decide) (fun _ => ?_) (fun c9 => absurd (n_ge nv15 nv16 (by omega) (by omega)) c9)
            refine lv_aload_n hx hb dX7_set_116 rfl (lv_at hl 2 rfl) ?_
            refine va_get (D := G) (ci := 6) (v := .ref (u 24)) (C := RX7) (T := TX7) (N := 68) hx hb hts i_m_set_X7 hown hK hP 2 rfl rfl 63 (by decide) (hts (.fieldLink RX7 94 "TileHouseModel" "deskSort" "[I") (by decide +kernel)) (fun _ h9 => h9) rfl dX7_set_117 ?_
            refine lv_aload_n hx hb dX7_set_120 rfl (lv_at hl 2 rfl) ?_
            refine va_get (D := G) (ci := 6) (v := .int 0) (C := RX7) (T := TX7) (N := 68) hx hb hts i_m_set_X7 hown hK hP 2 rfl rfl 66 (by decide) (hts (.fieldLink RX7 400 "TileHouseModel" "deskSets" "I") (by decide +kernel)) (fun _ h9 => h9) rfl dX7_set_121 ?_
            refine lv_iload_n hx hb dX7_set_124 rfl (lv_at hl 3 rfl) ?_
            refine va_iast hx hb hK hP hD hS 0 0 rfl rfl (inC (by decide) (by decide)) dX7_set_125 (fun H locs hP hD hS => ?_)
            replace hP : va_P G vwCl [((u 24), .inl (k 0, 4, .inl (upd (fun _ => 0) (0 : Int32).toNatClampNeg p0))), ((u 25), .inl (k 0, 4, .inl (fun _ => 0))), (h0, .inr (6, [.int 0, .ref (u 0), .ref (u 1), .ref (u 2), .int 0, .ref (u 3), .ref (u 4), .int 0, .int 0, .int 0, .int 0, .int 0, .long 0, .int 0, .int 0, .int 0, .int 0, .long 0, .int 0, .ref (u 5), .ref (u 6), .int 0, .int 0, .int 0, .long 0, .long 0, .ref (u 7), .ref (u 8), .ref (u 9), .ref (u 10), .ref (u 11), .ref (u 12), .ref (u 13), .ref (u 14), .ref (u 15), .ref (u 16), .ref (u 17), .ref (u 18), .ref (u 19), .ref (u 20), .int 0, .int 0, .int 0, .int 0, .int 0, .int 0, .int 0, .int 0, .int 0, .int (-1), .int (-1), .int (-1), .int 0, .int 0, .int 0, .int 0, .int 0, .int 0, .int 0, .int 0, .ref (u 21), .ref (u 22), .ref (u 23), .ref (u 24), .ref (u 25), .ref (u 26), .int 0, .long 0])), ((u 0), .inl (k 0, 34, .inl (fun _ => 0))), ((u 7), .inl (k 0, 34, .inl (fun _ => 0))), ((u 23), .inl (k 0, 34, .inl (fun _ => 0)))] H := hP
            replace hD : va_D A [((u 24), .inl (k 0, 4, .inl (upd (fun _ => 0) (0 : Int32).toNatClampNeg p0))), ((u 25), .inl (k 0, 4, .inl (fun _ => 0))), (h0, .inr (6, [.int 0, .ref (u 0), .ref (u 1), .ref (u 2), .int 0, .ref (u 3), .ref (u 4), .int 0, .int 0, .int 0, .int 0, .int 0, .long 0, .int 0, .int 0, .int 0, .int 0, .long 0, .int 0, .ref (u 5), .ref (u 6), .int 0, .int 0, .int 0, .long 0, .long 0, .ref (u 7), .ref (u 8), .ref (u 9), .ref (u 10), .ref (u 11), .ref (u 12), .ref (u 13), .ref (u 14), .ref (u 15), .ref (u 16), .ref (u 17), .ref (u 18), .ref (u 19), .ref (u 20), .int 0, .int 0, .int 0, .int 0, .int 0, .int 0, .int 0, .int 0, .int 0, .int (-1), .int (-1), .int (-1), .int 0, .int 0, .int 0, .int 0, .int 0, .int 0, .int 0, .int 0, .ref (u 21), .ref (u 22), .ref (u 23), .ref (u 24), .ref (u 25), .ref (u 26), .int 0, .long 0])), ((u 0), .inl (k 0, 34, .inl (fun _ => 0))), ((u 7), .inl (k 0, 34, .inl (fun _ => 0))), ((u 23), .inl (k 0, 34, .inl (fun _ => 0)))] := hD
            refine lv_aload_n hx hb dX7_set_126 rfl (lv_at hl 2 rfl) ?_
            refine va_get (D := G) (ci := 6) (v := .ref (u 25)) (C := RX7) (T := TX7) (N := 68) hx hb hts i_m_set_X7 hown hK hP 2 rfl rfl 64 (by decide) (hts (.fieldLink RX7 97 "TileHouseModel" "deskKind" "[I") (by decide +kernel)) (fun _ h9 => h9) rfl dX7_set_127 ?_
            refine lv_aload_n hx hb dX7_set_130 rfl (lv_at hl 2 rfl) ?_
            refine va_get (D := G) (ci := 6) (v := .int 0) (C := RX7) (T := TX7) (N := 68) hx hb hts i_m_set_X7 hown hK hP 2 rfl rfl 66 (by decide) (hts (.fieldLink RX7 400 "TileHouseModel" "deskSets" "I") (by decide +kernel)) (fun _ h9 => h9) rfl dX7_set_131 ?_
            refine lv_iload_n hx hb dX7_set_134 rfl (lv_at hl 4 rfl) ?_
            refine va_iast hx hb hK hP hD hS 1 0 rfl rfl (inC (by decide) (by decide)) dX7_set_135 (fun H locs hP hD hS => ?_)
            replace hP : va_P G vwCl [((u 24), .inl (k 0, 4, .inl (upd (fun _ => 0) (0 : Int32).toNatClampNeg p0))), ((u 25), .inl (k 0, 4, .inl (upd (fun _ => 0) (0 : Int32).toNatClampNeg p1))), (h0, .inr (6, [.int 0, .ref (u 0), .ref (u 1), .ref (u 2), .int 0, .ref (u 3), .ref (u 4), .int 0, .int 0, .int 0, .int 0, .int 0, .long 0, .int 0, .int 0, .int 0, .int 0, .long 0, .int 0, .ref (u 5), .ref (u 6), .int 0, .int 0, .int 0, .long 0, .long 0, .ref (u 7), .ref (u 8), .ref (u 9), .ref (u 10), .ref (u 11), .ref (u 12), .ref (u 13), .ref (u 14), .ref (u 15), .ref (u 16), .ref (u 17), .ref (u 18), .ref (u 19), .ref (u 20), .int 0, .int 0, .int 0, .int 0, .int 0, .int 0, .int 0, .int 0, .int 0, .int (-1), .int (-1), .int (-1), .int 0, .int 0, .int 0, .int 0, .int 0, .int 0, .int 0, .int 0, .ref (u 21), .ref (u 22), .ref (u 23), .ref (u 24), .ref (u 25), .ref (u 26), .int 0, .long 0])), ((u 0), .inl (k 0, 34, .inl (fun _ => 0))), ((u 7), .inl (k 0, 34, .inl (fun _ => 0))), ((u 23), .inl (k 0, 34, .inl (fun _ => 0)))] H := hP
            replace hD : va_D A [((u 24), .inl (k 0, 4, .inl (upd (fun _ => 0) (0 : Int32).toNatClampNeg p0))), ((u 25), .inl (k 0, 4, .inl (upd (fun _ => 0) (0 : Int32).toNatClampNeg p1))), (h0, .inr (6, [.int 0, .ref (u 0), .ref (u 1), .ref (u 2), .int 0, .ref (u 3), .ref (u 4), .int 0, .int 0, .int 0, .int 0, .int 0, .long 0, .int 0, .int 0, .int 0, .int 0, .long 0, .int 0, .ref (u 5), .ref (u 6), .int 0, .int 0, .int 0, .long 0, .long 0, .ref (u 7), .ref (u 8), .ref (u 9), .ref (u 10), .ref (u 11), .ref (u 12), .ref (u 13), .ref (u 14), .ref (u 15), .ref (u 16), .ref (u 17), .ref (u 18), .ref (u 19), .ref (u 20), .int 0, .int 0, .int 0, .int 0, .int 0, .int 0, .int 0, .int 0, .int 0, .int (-1), .int (-1), .int (-1), .int 0, .int 0, .int 0, .int 0, .int 0, .int 0, .int 0, .int 0, .ref (u 21), .ref (u 22), .ref (u 23), .ref (u 24), .ref (u 25), .ref (u 26), .int 0, .long 0])), ((u 0), .inl (k 0, 34, .inl (fun _ => 0))), ((u 7), .inl (k 0, 34, .inl (fun _ => 0))), ((u 23), .inl (k 0, 34, .inl (fun _ => 0)))] := hD
            refine lv_aload_n hx hb dX7_set_136 rfl (lv_at hl 2 rfl) ?_
            refine lv_dup hx hb dX7_set_137 rfl ?_
            refine va_get (D := G) (ci := 6) (v := .int 0) (C := RX7) (T := TX7) (N := 68) hx hb hts i_m_set_X7 hown hK hP 2 rfl rfl 66 (by decide) (hts (.fieldLink RX7 400 "TileHouseModel" "deskSets" "I") (by decide +kernel)) (fun _ h9 => h9) rfl dX7_set_138 ?_
            refine lv_iconst (v := 1) hx hb dX7_set_141 (by decide) ?_
            refine lv_iadd hx hb dX7_set_142 ?_
            refine lv_topi (fun z17 ez17 => ?_)
            obtain rfl : z17 = 1 := ez17.trans (by decide)
            refine va_put (D := G) (ci := 6) (v := .int 1) (ty := .int) (C := RX7) (T := TX7) (N := 68) hx hb hts i_m_set_X7 tyX7 tyX7_ok nmX7 hown hK hP hD hS 2 rfl rfl 66 (by decide) (hts (.fieldLink RX7 400 "TileHouseModel" "deskSets" "I") (by decide +kernel)) (fun _ h9 => h9) rfl (by decide +kernel) rfl rfl (Nat.le_of_ble_eq_true rfl) dX7_set_143 (fun H locs hP hD hS => ?_)
            replace hP : va_P G vwCl [((u 24), .inl (k 0, 4, .inl (upd (fun _ => 0) (0 : Int32).toNatClampNeg p0))), ((u 25), .inl (k 0, 4, .inl (upd (fun _ => 0) (0 : Int32).toNatClampNeg p1))), (h0, .inr (6, [.int 0, .ref (u 0), .ref (u 1), .ref (u 2), .int 0, .ref (u 3), .ref (u 4), .int 0, .int 0, .int 0, .int 0, .int 0, .long 0, .int 0, .int 0, .int 0, .int 0, .long 0, .int 0, .ref (u 5), .ref (u 6), .int 0, .int 0, .int 0, .long 0, .long 0, .ref (u 7), .ref (u 8), .ref (u 9), .ref (u 10), .ref (u 11), .ref (u 12), .ref (u 13), .ref (u 14), .ref (u 15), .ref (u 16), .ref (u 17), .ref (u 18), .ref (u 19), .ref (u 20), .int 0, .int 0, .int 0, .int 0, .int 0, .int 0, .int 0, .int 0, .int 0, .int (-1), .int (-1), .int (-1), .int 0, .int 0, .int 0, .int 0, .int 0, .int 0, .int 0, .int 0, .ref (u 21), .ref (u 22), .ref (u 23), .ref (u 24), .ref (u 25), .ref (u 26), .int 1, .long 0])), ((u 0), .inl (k 0, 34, .inl (fun _ => 0))), ((u 7), .inl (k 0, 34, .inl (fun _ => 0))), ((u 23), .inl (k 0, 34, .inl (fun _ => 0)))] H := hP
            replace hD : va_D A [((u 24), .inl (k 0, 4, .inl (upd (fun _ => 0) (0 : Int32).toNatClampNeg p0))), ((u 25), .inl (k 0, 4, .inl (upd (fun _ => 0) (0 : Int32).toNatClampNeg p1))), (h0, .inr (6, [.int 0, .ref (u 0), .ref (u 1), .ref (u 2), .int 0, .ref (u 3), .ref (u 4), .int 0, .int 0, .int 0, .int 0, .int 0, .long 0, .int 0, .int 0, .int 0, .int 0, .long 0, .int 0, .ref (u 5), .ref (u 6), .int 0, .int 0, .int 0, .long 0, .long 0, .ref (u 7), .ref (u 8), .ref (u 9), .ref (u 10), .ref (u 11), .ref (u 12), .ref (u 13), .ref (u 14), .ref (u 15), .ref (u 16), .ref (u 17), .ref (u 18), .ref (u 19), .ref (u 20), .int 0, .int 0, .int 0, .int 0, .int 0, .int 0, .int 0, .int 0, .int 0, .int (-1), .int (-1), .int (-1), .int 0, .int 0, .int 0, .int 0, .int 0, .int 0, .int 0, .int 0, .ref (u 21), .ref (u 22), .ref (u 23), .ref (u 24), .ref (u 25), .ref (u 26), .int 1, .long 0])), ((u 0), .inl (k 0, 34, .inl (fun _ => 0))), ((u 7), .inl (k 0, 34, .inl (fun _ => 0))), ((u 23), .inl (k 0, 34, .inl (fun _ => 0)))] := hD
            refine lv_iconst (v := 1) hx hb dX7_set_146 (by decide) ?_
            refine W.widen (k := 0) (n := 0) (Nat.le_of_ble_eq_true rfl) (Nat.le_of_ble_eq_true rfl) ?_
            exact W.zret (v := 1) hx hb hr rfl (fun t ht hW => ⟨⟨1, (), rfl, Or.inl ⟨rfl, h2, by assumption, by first | assumption | exact Int32.not_lt.mpr (by assumption), fun e9 => absurd e9 c5⟩, trivial⟩, hS.F ht⟩) hS.2.2 dX7_set_147
          · skip
            refine lv_iconst (v := 3) hx hb dX7_set_71 (by decide) ?_
            refine lv_goto (tgt := 76) hx hb dX7_set_72 (by decide) ?_
            refine lv_istore_n (lv' := [(3, .int 3), (0, .ref h0), (1, .int p0), (2, .int p1)]) hx hb dX7_set_76 rfl hl (by decide) rfl (fun ls hl => ?_)
            refine lv_iload_n hx hb dX7_set_77 rfl (lv_at hl 3 rfl) ?_
            refine lv_istore (lv' := [(4, .int p1), (3, .int 3), (0, .ref h0), (1, .int p0), (2, .int p1)]) hx hb dX7_set_78 hl (by decide) rfl (fun ls hl => ?_)
            refine lv_iload hx hb dX7_set_80 (lv_at hl 0 rfl) ?_
            refine lv_iload_n hx hb dX7_set_82 rfl (lv_at hl 4 rfl) ?_
            refine lv_iload_n hx hb dX7_set_83 rfl (lv_at hl 3 rfl) ?_
            refine lv_if_ne (tgt := 91) hx hb dX7_set_84 (by decide) (fun _ => ?_) (fun c9 => absurd c9 c5)
            refine lv_iconst (v := 1) hx hb dX7_set_91 (by decide) ?_
            refine lv_iadd hx hb dX7_set_92 ?_
            refine lv_topi (fun v18 ev18 => ?_)
            have nv18 : v18 = nI (j + 1) := by rw [ev18, ej]; exact nI_add (j) (1)
            refine lv_icmp_ge (tgt := 116) hx hb dX7_set_93 (by decide) (fun c9 => absurd c9 (n_nge ej nv18 (by omega) (by omega))) (fun _ => ?_)
            refine lv_aload_n hx hb dX7_set_96 rfl (lv_at hl 2 rfl) ?_
            refine lv_iload hx hb dX7_set_97 (lv_at hl 0 rfl) ?_
            have hPc := hP.sub (ws' := [(h0, .inr (6, [.int 0, .ref (u 0), .ref (u 1), .ref (u 2), .int 0, .ref (u 3), .ref (u 4), .int 0, .int 0, .int 0, .int 0, .int 0, .long 0, .int 0, .int 0, .int 0, .int 0, .long 0, .int 0, .ref (u 5), .ref (u 6), .int 0, .int 0, .int 0, .long 0, .long 0, .ref (u 7), .ref (u 8), .ref (u 9), .ref (u 10), .ref (u 11), .ref (u 12), .ref (u 13), .ref (u 14), .ref (u 15), .ref (u 16), .ref (u 17), .ref (u 18), .ref (u 19), .ref (u 20), .int 0, .int 0, .int 0, .int 0, .int 0, .int 0, .int 0, .int 0, .int 0, .int (-1), .int (-1), .int (-1), .int 0, .int 0, .int 0, .int 0, .int 0, .int 0, .int 0, .int 0, .ref (u 21), .ref (u 22), .ref (u 23), .ref (u 24), .ref (u 25), .ref (u 26), .int 0, .long 0])), ((u 7), .inl (k 0, 34, .inl (fun _ => 0)))]) [2, 4] rfl
            refine q_calli (va_runV (As := [.int p1]) (rest := []) ⟨hx, hb, hml, hown, hts⟩ (m_of l G k h0 u p1 (inN ej (by omega) (by decide))) (cwV 1 hts g_m_set_m_of_227 rfl rfl rfl (by decide +kernel) ⟨Nat.le_of_ble_eq_true rfl, Nat.le_of_ble_eq_true rfl⟩) ⟨pr_bl, va_recv hK hPc (ci := 6) (q0 := 0) rfl rfl, pr_pre hPc hK hN⟩ rfl rfl hl.1 rfl (lv_room (Nat.le_of_ble_eq_true rfl)) dX7_set_99 ⟨Nat.le_of_ble_eq_true rfl, Nat.le_of_ble_eq_true rfl⟩) (fun r19 hr19 => ?_)
            obtain rfl : r19 = 0 := hr19
            refine lv_iload_n hx hb dX7_set_102 rfl (lv_at hl 1 rfl) ?_
            refine lv_iadd hx hb dX7_set_103 ?_
            refine lv_topi (fun z20 ez20 => ?_)
            obtain rfl : z20 = 3 := ez20.trans (by decide)
            refine lv_iconst (v := 4) hx hb dX7_set_104 (by decide) ?_
            refine lv_icmp_le (tgt := 110) hx hb dX7_set_105 (by decide) (fun _ => ?_) (fun c9 => absurd (by decide) c9)
            obtain ⟨v21, ev21⟩ : ∃ y : Int32, y = p1 + 1 := ⟨_, rfl⟩
            have nv21 : v21 = nI (j + 1) := by rw [ev21, ej]; exact nI_add (j) (1)
            refine lv_iinc (v := v21) (lv' := [(4, .int v21), (3, .int 3), (0, .ref h0), (1, .int p0), (2, .int p1)]) hx hb dX7_set_110 hl (k := 0) rfl (by rw [ev21]; rfl) (by decide) rfl (fun ls hl => ?_)
            refine lv_goto (tgt := 80) hx hb dX7_set_113 (by decide) ?_
            refine lv_iload hx hb dX7_set_80 (lv_at hl 0 rfl) ?_
            refine lv_iload_n hx hb dX7_set_82 rfl (lv_at hl 4 rfl) ?_
            refine lv_iload_n hx hb dX7_set_83 rfl (lv_at hl 3 rfl) ?_
            refine lv_if_ne (tgt := 91) hx hb dX7_set_84 (by decide) (fun _ => ?_) (fun c9 => absurd c9 c5)
            refine lv_iconst (v := 1) hx hb dX7_set_91 (by decide) ?_
            refine lv_iadd hx hb dX7_set_92 ?_
            refine lv_topi (fun v22 ev22 => ?_)
            have nv22 : v22 = nI (j + 1) := by rw [ev22, ej]; exact nI_add (j) (1)
            refine lv_icmp_ge (tgt := 116) hx hb dX7_set_93 (by decide) (fun _ => ?_) (fun c9 => absurd (n_ge nv21 nv22 (by omega) (by omega)) c9)
            refine lv_aload_n hx hb dX7_set_116 rfl (lv_at hl 2 rfl) ?_
            refine va_get (D := G) (ci := 6) (v := .ref (u 24)) (C := RX7) (T := TX7) (N := 68) hx hb hts i_m_set_X7 hown hK hP 2 rfl rfl 63 (by decide) (hts (.fieldLink RX7 94 "TileHouseModel" "deskSort" "[I") (by decide +kernel)) (fun _ h9 => h9) rfl dX7_set_117 ?_
            refine lv_aload_n hx hb dX7_set_120 rfl (lv_at hl 2 rfl) ?_
            refine va_get (D := G) (ci := 6) (v := .int 0) (C := RX7) (T := TX7) (N := 68) hx hb hts i_m_set_X7 hown hK hP 2 rfl rfl 66 (by decide) (hts (.fieldLink RX7 400 "TileHouseModel" "deskSets" "I") (by decide +kernel)) (fun _ h9 => h9) rfl dX7_set_121 ?_
            refine lv_iload_n hx hb dX7_set_124 rfl (lv_at hl 3 rfl) ?_
            refine va_iast hx hb hK hP hD hS 0 0 rfl rfl (inC (by decide) (by decide)) dX7_set_125 (fun H locs hP hD hS => ?_)
            replace hP : va_P G vwCl [((u 24), .inl (k 0, 4, .inl (upd (fun _ => 0) (0 : Int32).toNatClampNeg p0))), ((u 25), .inl (k 0, 4, .inl (fun _ => 0))), (h0, .inr (6, [.int 0, .ref (u 0), .ref (u 1), .ref (u 2), .int 0, .ref (u 3), .ref (u 4), .int 0, .int 0, .int 0, .int 0, .int 0, .long 0, .int 0, .int 0, .int 0, .int 0, .long 0, .int 0, .ref (u 5), .ref (u 6), .int 0, .int 0, .int 0, .long 0, .long 0, .ref (u 7), .ref (u 8), .ref (u 9), .ref (u 10), .ref (u 11), .ref (u 12), .ref (u 13), .ref (u 14), .ref (u 15), .ref (u 16), .ref (u 17), .ref (u 18), .ref (u 19), .ref (u 20), .int 0, .int 0, .int 0, .int 0, .int 0, .int 0, .int 0, .int 0, .int 0, .int (-1), .int (-1), .int (-1), .int 0, .int 0, .int 0, .int 0, .int 0, .int 0, .int 0, .int 0, .ref (u 21), .ref (u 22), .ref (u 23), .ref (u 24), .ref (u 25), .ref (u 26), .int 0, .long 0])), ((u 0), .inl (k 0, 34, .inl (fun _ => 0))), ((u 7), .inl (k 0, 34, .inl (fun _ => 0))), ((u 23), .inl (k 0, 34, .inl (fun _ => 0)))] H := hP
            replace hD : va_D A [((u 24), .inl (k 0, 4, .inl (upd (fun _ => 0) (0 : Int32).toNatClampNeg p0))), ((u 25), .inl (k 0, 4, .inl (fun _ => 0))), (h0, .inr (6, [.int 0, .ref (u 0), .ref (u 1), .ref (u 2), .int 0, .ref (u 3), .ref (u 4), .int 0, .int 0, .int 0, .int 0, .int 0, .long 0, .int 0, .int 0, .int 0, .int 0, .long 0, .int 0, .ref (u 5), .ref (u 6), .int 0, .int 0, .int 0, .long 0, .long 0, .ref (u 7), .ref (u 8), .ref (u 9), .ref (u 10), .ref (u 11), .ref (u 12), .ref (u 13), .ref (u 14), .ref (u 15), .ref (u 16), .ref (u 17), .ref (u 18), .ref (u 19), .ref (u 20), .int 0, .int 0, .int 0, .int 0, .int 0, .int 0, .int 0, .int 0, .int 0, .int (-1), .int (-1), .int (-1), .int 0, .int 0, .int 0, .int 0, .int 0, .int 0, .int 0, .int 0, .ref (u 21), .ref (u 22), .ref (u 23), .ref (u 24), .ref (u 25), .ref (u 26), .int 0, .long 0])), ((u 0), .inl (k 0, 34, .inl (fun _ => 0))), ((u 7), .inl (k 0, 34, .inl (fun _ => 0))), ((u 23), .inl (k 0, 34, .inl (fun _ => 0)))] := hD
            refine lv_aload_n hx hb dX7_set_126 rfl (lv_at hl 2 rfl) ?_
            refine va_get (D := G) (ci := 6) (v := .ref (u 25)) (C := RX7) (T := TX7) (N := 68) hx hb hts i_m_set_X7 hown hK hP 2 rfl rfl 64 (by decide) (hts (.fieldLink RX7 97 "TileHouseModel" "deskKind" "[I") (by decide +kernel)) (fun _ h9 => h9) rfl dX7_set_127 ?_
            refine lv_aload_n hx hb dX7_set_130 rfl (lv_at hl 2 rfl) ?_
            refine va_get (D := G) (ci := 6) (v := .int 0) (C := RX7) (T := TX7) (N := 68) hx hb hts i_m_set_X7 hown hK hP 2 rfl rfl 66 (by decide) (hts (.fieldLink RX7 400 "TileHouseModel" "deskSets" "I") (by decide +kernel)) (fun _ h9 => h9) rfl dX7_set_131 ?_
            refine lv_iload_n hx hb dX7_set_134 rfl (lv_at hl 4 rfl) ?_
            refine va_iast hx hb hK hP hD hS 1 0 rfl rfl (inC (by decide) (by decide)) dX7_set_135 (fun H locs hP hD hS => ?_)
            replace hP : va_P G vwCl [((u 24), .inl (k 0, 4, .inl (upd (fun _ => 0) (0 : Int32).toNatClampNeg p0))), ((u 25), .inl (k 0, 4, .inl (upd (fun _ => 0) (0 : Int32).toNatClampNeg p1))), (h0, .inr (6, [.int 0, .ref (u 0), .ref (u 1), .ref (u 2), .int 0, .ref (u 3), .ref (u 4), .int 0, .int 0, .int 0, .int 0, .int 0, .long 0, .int 0, .int 0, .int 0, .int 0, .long 0, .int 0, .ref (u 5), .ref (u 6), .int 0, .int 0, .int 0, .long 0, .long 0, .ref (u 7), .ref (u 8), .ref (u 9), .ref (u 10), .ref (u 11), .ref (u 12), .ref (u 13), .ref (u 14), .ref (u 15), .ref (u 16), .ref (u 17), .ref (u 18), .ref (u 19), .ref (u 20), .int 0, .int 0, .int 0, .int 0, .int 0, .int 0, .int 0, .int 0, .int 0, .int (-1), .int (-1), .int (-1), .int 0, .int 0, .int 0, .int 0, .int 0, .int 0, .int 0, .int 0, .ref (u 21), .ref (u 22), .ref (u 23), .ref (u 24), .ref (u 25), .ref (u 26), .int 0, .long 0])), ((u 0), .inl (k 0, 34, .inl (fun _ => 0))), ((u 7), .inl (k 0, 34, .inl (fun _ => 0))), ((u 23), .inl (k 0, 34, .inl (fun _ => 0)))] H := hP
            replace hD : va_D A [((u 24), .inl (k 0, 4, .inl (upd (fun _ => 0) (0 : Int32).toNatClampNeg p0))), ((u 25), .inl (k 0, 4, .inl (upd (fun _ => 0) (0 : Int32).toNatClampNeg p1))), (h0, .inr (6, [.int 0, .ref (u 0), .ref (u 1), .ref (u 2), .int 0, .ref (u 3), .ref (u 4), .int 0, .int 0, .int 0, .int 0, .int 0, .long 0, .int 0, .int 0, .int 0, .int 0, .long 0, .int 0, .ref (u 5), .ref (u 6), .int 0, .int 0, .int 0, .long 0, .long 0, .ref (u 7), .ref (u 8), .ref (u 9), .ref (u 10), .ref (u 11), .ref (u 12), .ref (u 13), .ref (u 14), .ref (u 15), .ref (u 16), .ref (u 17), .ref (u 18), .ref (u 19), .ref (u 20), .int 0, .int 0, .int 0, .int 0, .int 0, .int 0, .int 0, .int 0, .int 0, .int (-1), .int (-1), .int (-1), .int 0, .int 0, .int 0, .int 0, .int 0, .int 0, .int 0, .int 0, .ref (u 21), .ref (u 22), .ref (u 23), .ref (u 24), .ref (u 25), .ref (u 26), .int 0, .long 0])), ((u 0), .inl (k 0, 34, .inl (fun _ => 0))), ((u 7), .inl (k 0, 34, .inl (fun _ => 0))), ((u 23), .inl (k 0, 34, .inl (fun _ => 0)))] := hD
            refine lv_aload_n hx hb dX7_set_136 rfl (lv_at hl 2 rfl) ?_
            refine lv_dup hx hb dX7_set_137 rfl ?_
            refine va_get (D := G) (ci := 6) (v := .int 0) (C := RX7) (T := TX7) (N := 68) hx hb hts i_m_set_X7 hown hK hP 2 rfl rfl 66 (by decide) (hts (.fieldLink RX7 400 "TileHouseModel" "deskSets" "I") (by decide +kernel)) (fun _ h9 => h9) rfl dX7_set_138 ?_
            refine lv_iconst (v := 1) hx hb dX7_set_141 (by decide) ?_
            refine lv_iadd hx hb dX7_set_142 ?_
            refine lv_topi (fun z23 ez23 => ?_)
            obtain rfl : z23 = 1 := ez23.trans (by decide)
            refine va_put (D := G) (ci := 6) (v := .int 1) (ty := .int) (C := RX7) (T := TX7) (N := 68) hx hb hts i_m_set_X7 tyX7 tyX7_ok nmX7 hown hK hP hD hS 2 rfl rfl 66 (by decide) (hts (.fieldLink RX7 400 "TileHouseModel" "deskSets" "I") (by decide +kernel)) (fun _ h9 => h9) rfl (by decide +kernel) rfl rfl (Nat.le_of_ble_eq_true rfl) dX7_set_143 (fun H locs hP hD hS => ?_)
            replace hP : va_P G vwCl [((u 24), .inl (k 0, 4, .inl (upd (fun _ => 0) (0 : Int32).toNatClampNeg p0))), ((u 25), .inl (k 0, 4, .inl (upd (fun _ => 0) (0 : Int32).toNatClampNeg p1))), (h0, .inr (6, [.int 0, .ref (u 0), .ref (u 1), .ref (u 2), .int 0, .ref (u 3), .ref (u 4), .int 0, .int 0, .int 0, .int 0, .int 0, .long 0, .int 0, .int 0, .int 0, .int 0, .long 0, .int 0, .ref (u 5), .ref (u 6), .int 0, .int 0, .int 0, .long 0, .long 0, .ref (u 7), .ref (u 8), .ref (u 9), .ref (u 10), .ref (u 11), .ref (u 12), .ref (u 13), .ref (u 14), .ref (u 15), .ref (u 16), .ref (u 17), .ref (u 18), .ref (u 19), .ref (u 20), .int 0, .int 0, .int 0, .int 0, .int 0, .int 0, .int 0, .int 0, .int 0, .int (-1), .int (-1), .int (-1), .int 0, .int 0, .int 0, .int 0, .int 0, .int 0, .int 0, .int 0, .ref (u 21), .ref (u 22), .ref (u 23), .ref (u 24), .ref (u 25), .ref (u 26), .int 1, .long 0])), ((u 0), .inl (k 0, 34, .inl (fun _ => 0))), ((u 7), .inl (k 0, 34, .inl (fun _ => 0))), ((u 23), .inl (k 0, 34, .inl (fun _ => 0)))] H := hP
            replace hD : va_D A [((u 24), .inl (k 0, 4, .inl (upd (fun _ => 0) (0 : Int32).toNatClampNeg p0))), ((u 25), .inl (k 0, 4, .inl (upd (fun _ => 0) (0 : Int32).toNatClampNeg p1))), (h0, .inr (6, [.int 0, .ref (u 0), .ref (u 1), .ref (u 2), .int 0, .ref (u 3), .ref (u 4), .int 0, .int 0, .int 0, .int 0, .int 0, .long 0, .int 0, .int 0, .int 0, .int 0, .long 0, .int 0, .ref (u 5), .ref (u 6), .int 0, .int 0, .int 0, .long 0, .long 0, .ref (u 7), .ref (u 8), .ref (u 9), .ref (u 10), .ref (u 11), .ref (u 12), .ref (u 13), .ref (u 14), .ref (u 15), .ref (u 16), .ref (u 17), .ref (u 18), .ref (u 19), .ref (u 20), .int 0, .int 0, .int 0, .int 0, .int 0, .int 0, .int 0, .int 0, .int 0, .int (-1), .int (-1), .int (-1), .int 0, .int 0, .int 0, .int 0, .int 0, .int 0, .int 0, .int 0, .ref (u 21), .ref (u 22), .ref (u 23), .ref (u 24), .ref (u 25), .ref (u 26), .int 1, .long 0])), ((u 0), .inl (k 0, 34, .inl (fun _ => 0))), ((u 7), .inl (k 0, 34, .inl (fun _ => 0))), ((u 23), .inl (k 0, 34, .inl (fun _ => 0)))] := hD
            refine lv_iconst (v := 1) hx hb dX7_set_146 (by decide) ?_
            refine W.widen (k := 0) (n := 0) (Nat.le_of_ble_eq_true rfl) (Nat.le_of_ble_eq_true rfl) ?_
            exact W.zret (v := 1) hx hb hr rfl (fun t ht hW => ⟨⟨1, (), rfl, Or.inl ⟨rfl, h2, by assumption, by first | assumption | exact Int32.not_lt.mpr (by assumption), fun e9 => absurd e9 c5⟩, trivial⟩, hS.F ht⟩) hS.2.2 dX7_set_147
        · skip
          refine lv_iload_n hx hb dX7_set_25 rfl (lv_at hl 2 rfl) ?_
          have hPc := hP.sub (ws' := []) [] rfl
          refine q_calli (va_runS (As := [.int p1]) (rest := []) ⟨hx, hb, hml, hown, hts⟩ (c_X7_isRun l G k p1) (cwS 1 hts g_m_set_c_X7_isRun_157 rfl rfl rfl (by decide +kernel) ⟨Nat.le_of_ble_eq_true rfl, Nat.le_of_ble_eq_true rfl⟩) ⟨pr_bl, pr_pre hPc hK hN⟩ rfl rfl hl.1 rfl (lv_room (Nat.le_of_ble_eq_true rfl)) dX7_set_26 ⟨Nat.le_of_ble_eq_true rfl, Nat.le_of_ble_eq_true rfl⟩) (fun r24 hr24 => ?_)
          rcases hr24 with ⟨rfl, h25⟩ | ⟨rfl, h25⟩
          · skip
            have h27 : j < 27 := sr27 hj (by rw [← ej]; exact h25)
            refine lv_if_ne (tgt := 34) hx hb dX7_set_29 (by decide) (fun _ => ?_) (fun c9 => absurd c9 (by decide))
            refine lv_aload_n hx hb dX7_set_34 rfl (lv_at hl 0 rfl) ?_
            have hPc := hP.sub (ws' := [(h0, .inr (6, [.int 0, .ref (u 0), .ref (u 1), .ref (u 2), .int 0, .ref (u 3), .ref (u 4), .int 0, .int 0, .int 0, .int 0, .int 0, .long 0, .int 0, .int 0, .int 0, .int 0, .long 0, .int 0, .ref (u 5), .ref (u 6), .int 0, .int 0, .int 0, .long 0, .long 0, .ref (u 7), .ref (u 8), .ref (u 9), .ref (u 10), .ref (u 11), .ref (u 12), .ref (u 13), .ref (u 14), .ref (u 15), .ref (u 16), .ref (u 17), .ref (u 18), .ref (u 19), .ref (u 20), .int 0, .int 0, .int 0, .int 0, .int 0, .int 0, .int 0, .int 0, .int 0, .int (-1), .int (-1), .int (-1), .int 0, .int 0, .int 0, .int 0, .int 0, .int 0, .int 0, .int 0, .ref (u 21), .ref (u 22), .ref (u 23), .ref (u 24), .ref (u 25), .ref (u 26), .int 0, .long 0])), ((u 0), .inl (k 0, 34, .inl (fun _ => 0))), ((u 7), .inl (k 0, 34, .inl (fun _ => 0))), ((u 23), .inl (k 0, 34, .inl (fun _ => 0)))]) [0, 1, 2, 3] rfl
            have hDc := hD.sub (ws' := [(h0, .inr (6, [.int 0, .ref (u 0), .ref (u 1), .ref (u 2), .int 0, .ref (u 3), .ref (u 4), .int 0, .int 0, .int 0, .int 0, .int 0, .long 0, .int 0, .int 0, .int 0, .int 0, .long 0, .int 0, .ref (u 5), .ref (u 6), .int 0, .int 0, .int 0, .long 0, .long 0, .ref (u 7), .ref (u 8), .ref (u 9), .ref (u 10), .ref (u 11), .ref (u 12), .ref (u 13), .ref (u 14), .ref (u 15), .ref (u 16), .ref (u 17), .ref (u 18), .ref (u 19), .ref (u 20), .int 0, .int 0, .int 0, .int 0, .int 0, .int 0, .int 0, .int 0, .int 0, .int (-1), .int (-1), .int (-1), .int 0, .int 0, .int 0, .int 0, .int 0, .int 0, .int 0, .int 0, .ref (u 21), .ref (u 22), .ref (u 23), .ref (u 24), .ref (u 25), .ref (u 26), .int 0, .long 0])), ((u 0), .inl (k 0, 34, .inl (fun _ => 0))), ((u 7), .inl (k 0, 34, .inl (fun _ => 0))), ((u 23), .inl (k 0, 34, .inl (fun _ => 0)))]) [0, 1, 2, 3] (by decide) rfl
            have hFc := va_free (wc := [(h0, .inr (6, [.int 0, .ref (u 0), .ref (u 1), .ref (u 2), .int 0, .ref (u 3), .ref (u 4), .int 0, .int 0, .int 0, .int 0, .int 0, .long 0, .int 0, .int 0, .int 0, .int 0, .long 0, .int 0, .ref (u 5), .ref (u 6), .int 0, .int 0, .int 0, .long 0, .long 0, .ref (u 7), .ref (u 8), .ref (u 9), .ref (u 10), .ref (u 11), .ref (u 12), .ref (u 13), .ref (u 14), .ref (u 15), .ref (u 16), .ref (u 17), .ref (u 18), .ref (u 19), .ref (u 20), .int 0, .int 0, .int 0, .int 0, .int 0, .int 0, .int 0, .int 0, .int 0, .int (-1), .int (-1), .int (-1), .int 0, .int 0, .int 0, .int 0, .int 0, .int 0, .int 0, .int 0, .ref (u 21), .ref (u 22), .ref (u 23), .ref (u 24), .ref (u 25), .ref (u 26), .int 0, .long 0])), ((u 0), .inl (k 0, 34, .inl (fun _ => 0))), ((u 7), .inl (k 0, 34, .inl (fun _ => 0))), ((u 23), .inl (k 0, 34, .inl (fun _ => 0)))]) hD hS hA [0, 1, 2, 3] rfl
            refine va_callv (va_runV (As := []) (rest := []) ⟨hx, hb, hml, hown, hts⟩ (m_takeDesk l G k H.size h0 u) (cwV 0 hts g_m_set_m_takeDesk_403 rfl rfl rfl (by decide +kernel) ⟨Nat.le_of_ble_eq_true rfl, Nat.le_of_ble_eq_true rfl⟩) ⟨pq_bl, va_recv hK hPc (ci := 6) (q0 := 0) rfl rfl, pq_pre hPc hDc hK hN⟩ rfl rfl hl.1 rfl (lv_room (Nat.le_of_ble_eq_true rfl)) dX7_set_35 ⟨Nat.le_of_ble_eq_true rfl, Nat.le_of_ble_eq_true rfl⟩) hS (fun q _ h => hFc q h) hFc (fun ur26 t H1 locs ht hvm hr26 hB hz1 hk1 hS => ?_)
            obtain ⟨hP1, hD1⟩ := hB
            rw [ht] at hP1
            obtain ⟨hP, hD⟩ := va_join (wr := [((u 24), .inl (k 0, 4, .inl (fun _ => 0))), ((u 25), .inl (k 0, 4, .inl (fun _ => 0)))]) (w1 := [(h0, .inr (6, [.int 0, .ref (u 0), .ref (u 1), .ref (u 2), .int 0, .ref (u 3), .ref (u 4), .int 0, .int 0, .int 0, .int 0, .int 0, .long 0, .int 0, .int 0, .int 0, .int 0, .long 0, .int 0, .ref (u 5), .ref (u 6), .int 0, .int 0, .int 0, .long 0, .long 0, .ref (u 7), .ref (u 8), .ref (u 9), .ref (u 10), .ref (u 11), .ref (u 12), .ref (u 13), .ref (u 14), .ref (u 15), .ref (u 16), .ref (u 17), .ref (u 18), .ref (u 19), .ref (u 20), .int 0, .int 0, .int 0, .int 0, .int 0, .int 0, .int 0, .int 0, .int 0, .int (-1), .int (-1), .int (-1), .int 0, .int 0, .int 0, .int 0, .int 0, .int 0, .int 0, .int 0, .ref (u 21), .ref (u 22), .ref (u 23), .ref (u 24), .ref (u 25), .ref (u 26), .int 0, .long 0])), ((u 0), .inl (k 0, 34, .inl (fun _ => 0))), ((u 7), .inl (k 0, 34, .inl (fun _ => 0))), ((u 23), .inl (k 0, 34, .inl (fun _ => 0)))]) hP hD [0, 1, 2, 3] [4, 5] rfl rfl (by decide) (by decide) hk1 hFc hP1 hD1
            clear hP1 hD1
            generalize H1 = H at hP hS ⊢
            replace hP : va_P G vwCl [((u 24), .inl (k 0, 4, .inl (fun _ => 0))), ((u 25), .inl (k 0, 4, .inl (fun _ => 0))), (h0, .inr (6, [.int 0, .ref (u 0), .ref (u 1), .ref (u 2), .int 0, .ref (u 3), .ref (u 4), .int 0, .int 0, .int 0, .int 0, .int 0, .long 0, .int 0, .int 0, .int 0, .int 0, .long 0, .int 0, .ref (u 5), .ref (u 6), .int 0, .int 0, .int 0, .long 0, .long 0, .ref (u 7), .ref (u 8), .ref (u 9), .ref (u 10), .ref (u 11), .ref (u 12), .ref (u 13), .ref (u 14), .ref (u 15), .ref (u 16), .ref (u 17), .ref (u 18), .ref (u 19), .ref (u 20), .int 0, .int 0, .int 0, .int 0, .int 0, .int 0, .int 0, .int 0, .int 0, .int (-1), .int (-1), .int (-1), .int 0, .int 0, .int 0, .int 0, .int 0, .int 0, .int 0, .int 0, .ref (u 21), .ref (u 22), .ref (u 23), .ref (u 24), .ref (u 25), .ref (u 26), .int 0, .long 0])), ((u 0), .inl (k 0, 34, .inl (fun _ => 0))), ((u 7), .inl (k 0, 34, .inl (fun _ => 0))), ((u 23), .inl (k 0, 34, .inl (fun _ => 0)))] H := hP
            replace hD : va_D A [((u 24), .inl (k 0, 4, .inl (fun _ => 0))), ((u 25), .inl (k 0, 4, .inl (fun _ => 0))), (h0, .inr (6, [.int 0, .ref (u 0), .ref (u 1), .ref (u 2), .int 0, .ref (u 3), .ref (u 4), .int 0, .int 0, .int 0, .int 0, .int 0, .long 0, .int 0, .int 0, .int 0, .int 0, .long 0, .int 0, .ref (u 5), .ref (u 6), .int 0, .int 0, .int 0, .long 0, .long 0, .ref (u 7), .ref (u 8), .ref (u 9), .ref (u 10), .ref (u 11), .ref (u 12), .ref (u 13), .ref (u 14), .ref (u 15), .ref (u 16), .ref (u 17), .ref (u 18), .ref (u 19), .ref (u 20), .int 0, .int 0, .int 0, .int 0, .int 0, .int 0, .int 0, .int 0, .int 0, .int (-1), .int (-1), .int (-1), .int 0, .int 0, .int 0, .int 0, .int 0, .int 0, .int 0, .int 0, .ref (u 21), .ref (u 22), .ref (u 23), .ref (u 24), .ref (u 25), .ref (u 26), .int 0, .long 0])), ((u 0), .inl (k 0, 34, .inl (fun _ => 0))), ((u 7), .inl (k 0, 34, .inl (fun _ => 0))), ((u 23), .inl (k 0, 34, .inl (fun _ => 0)))] := hD
            refine lv_aload_n hx hb dX7_set_38 rfl (lv_at hl 0 rfl) ?_
            have hPc := hP.sub (ws' := [(h0, .inr (6, [.int 0, .ref (u 0), .ref (u 1), .ref (u 2), .int 0, .ref (u 3), .ref (u 4), .int 0, .int 0, .int 0, .int 0, .int 0, .long 0, .int 0, .int 0, .int 0, .int 0, .long 0, .int 0, .ref (u 5), .ref (u 6), .int 0, .int 0, .int 0, .long 0, .long 0, .ref (u 7), .ref (u 8), .ref (u 9), .ref (u 10), .ref (u 11), .ref (u 12), .ref (u 13), .ref (u 14), .ref (u 15), .ref (u 16), .ref (u 17), .ref (u 18), .ref (u 19), .ref (u 20), .int 0, .int 0, .int 0, .int 0, .int 0, .int 0, .int 0, .int 0, .int 0, .int (-1), .int (-1), .int (-1), .int 0, .int 0, .int 0, .int 0, .int 0, .int 0, .int 0, .int 0, .ref (u 21), .ref (u 22), .ref (u 23), .ref (u 24), .ref (u 25), .ref (u 26), .int 0, .long 0])), ((u 0), .inl (k 0, 34, .inl (fun _ => 0)))]) [2, 3] rfl
            refine q_calli (va_runV (As := []) (rest := []) ⟨hx, hb, hml, hown, hts⟩ (m_inHand l G k h0 u) (cwV 0 hts g_m_set_m_inHand_133 rfl rfl rfl (by decide +kernel) ⟨Nat.le_of_ble_eq_true rfl, Nat.le_of_ble_eq_true rfl⟩) ⟨pr_bl, va_recv hK hPc (ci := 6) (q0 := 0) rfl rfl, pr_pre hPc hK hN⟩ rfl rfl hl.1 rfl (lv_room (Nat.le_of_ble_eq_true rfl)) dX7_set_39 ⟨Nat.le_of_ble_eq_true rfl, Nat.le_of_ble_eq_true rfl⟩) (fun r27 hr27 => ?_)
            obtain rfl : r27 = 0 := hr27
            refine lv_iconst (v := 3) hx hb dX7_set_42 (by decide) ?_
            refine lv_aload_n hx hb dX7_set_43 rfl (lv_at hl 0 rfl) ?_
            refine va_get (D := G) (ci := 6) (v := .int 0) (C := RX7) (T := TX7) (N := 68) hx hb hts i_m_set_X7 hown hK hP 2 rfl rfl 4 (by decide) (hts (.fieldLink RX7 137 "TileHouseModel" "laidMany" "I") (by decide +kernel)) (fun _ h9 => h9) rfl dX7_set_44 ?_
            refine lv_imul hx hb dX7_set_47 ?_
            refine lv_topi (fun z28 ez28 => ?_)
            obtain rfl : z28 = 0 := ez28.trans (by decide)
            refine lv_iadd hx hb dX7_set_48 ?_
            refine lv_topi (fun z29 ez29 => ?_)
            obtain rfl : z29 = 0 := ez29.trans (by decide)
            refine lv_iconst (v := 3) hx hb dX7_set_49 (by decide) ?_
            refine lv_iadd hx hb dX7_set_50 ?_
            refine lv_topi (fun z30 ez30 => ?_)
            obtain rfl : z30 = 3 := ez30.trans (by decide)
            refine lv_bipush (v := 14) hx hb dX7_set_51 (by decide) ?_
            refine lv_icmp_le (tgt := 58) hx hb dX7_set_53 (by decide) (fun _ => ?_) (fun c9 => absurd (by decide) c9)
            refine lv_iload_n hx hb dX7_set_58 rfl (lv_at hl 1 rfl) ?_
            refine lv_if_ne (tgt := 66) hx hb dX7_set_59 (by decide) (fun c9 => absurd c5 c9) (fun _ => ?_)
            refine lv_iconst (v := 1) hx hb dX7_set_62 (by decide) ?_
            refine lv_goto (tgt := 76) hx hb dX7_set_63 (by decide) ?_
            refine lv_istore_n (lv' := [(3, .int 1), (0, .ref h0), (1, .int p0), (2, .int p1)]) hx hb dX7_set_76 rfl hl (by decide) rfl (fun ls hl => ?_)
            refine lv_iload_n hx hb dX7_set_77 rfl (lv_at hl 3 rfl) ?_
            refine lv_istore (lv' := [(4, .int p1), (3, .int 1), (0, .ref h0), (1, .int p0), (2, .int p1)]) hx hb dX7_set_78 hl (by decide) rfl (fun ls hl => ?_)
            refine lv_iload hx hb dX7_set_80 (lv_at hl 0 rfl) ?_
            refine lv_iload_n hx hb dX7_set_82 rfl (lv_at hl 4 rfl) ?_
            refine lv_iload_n hx hb dX7_set_83 rfl (lv_at hl 3 rfl) ?_
            refine lv_if_ne (tgt := 91) hx hb dX7_set_84 (by decide) (fun c9 => absurd c5 c9) (fun _ => ?_)
            refine lv_iconst (v := 3) hx hb dX7_set_87 (by decide) ?_
            refine lv_goto (tgt := 92) hx hb dX7_set_88 (by decide) ?_
            refine lv_iadd hx hb dX7_set_92 ?_
            refine lv_topi (fun v31 ev31 => ?_)
            have nv31 : v31 = nI (j + 3) := by rw [ev31, ej]; exact nI_add (j) (3)
            refine lv_icmp_ge (tgt := 116) hx hb dX7_set_93 (by decide) (fun c9 => absurd c9 (n_nge ej nv31 (by omega) (by omega))) (fun _ => ?_)
            refine lv_aload_n hx hb dX7_set_96 rfl (lv_at hl 2 rfl) ?_
            refine lv_iload hx hb dX7_set_97 (lv_at hl 0 rfl) ?_
            have hPc := hP.sub (ws' := [(h0, .inr (6, [.int 0, .ref (u 0), .ref (u 1), .ref (u 2), .int 0, .ref (u 3), .ref (u 4), .int 0, .int 0, .int 0, .int 0, .int 0, .long 0, .int 0, .int 0, .int 0, .int 0, .long 0, .int 0, .ref (u 5), .ref (u 6), .int 0, .int 0, .int 0, .long 0, .long 0, .ref (u 7), .ref (u 8), .ref (u 9), .ref (u 10), .ref (u 11), .ref (u 12), .ref (u 13), .ref (u 14), .ref (u 15), .ref (u 16), .ref (u 17), .ref (u 18), .ref (u 19), .ref (u 20), .int 0, .int 0, .int 0, .int 0, .int 0, .int 0, .int 0, .int 0, .int 0, .int (-1), .int (-1), .int (-1), .int 0, .int 0, .int 0, .int 0, .int 0, .int 0, .int 0, .int 0, .ref (u 21), .ref (u 22), .ref (u 23), .ref (u 24), .ref (u 25), .ref (u 26), .int 0, .long 0])), ((u 7), .inl (k 0, 34, .inl (fun _ => 0)))]) [2, 4] rfl
            refine q_calli (va_runV (As := [.int p1]) (rest := []) ⟨hx, hb, hml, hown, hts⟩ (m_of l G k h0 u p1 (inN ej (by omega) (by decide))) (cwV 1 hts g_m_set_m_of_227 rfl rfl rfl (by decide +kernel) ⟨Nat.le_of_ble_eq_true rfl, Nat.le_of_ble_eq_true rfl⟩) ⟨pr_bl, va_recv hK hPc (ci := 6) (q0 := 0) rfl rfl, pr_pre hPc hK hN⟩ rfl rfl hl.1 rfl (lv_room (Nat.le_of_ble_eq_true rfl)) dX7_set_99 ⟨Nat.le_of_ble_eq_true rfl, Nat.le_of_ble_eq_true rfl⟩) (fun r32 hr32 => ?_)
            obtain rfl : r32 = 0 := hr32
            refine lv_iload_n hx hb dX7_set_102 rfl (lv_at hl 1 rfl) ?_
            refine lv_iadd hx hb dX7_set_103 ?_
            refine lv_topi (fun z33 ez33 => ?_)
            obtain rfl : z33 = 1 := ez33.trans (by decide)
            refine lv_iconst (v := 4) hx hb dX7_set_104 (by decide) ?_
            refine lv_icmp_le (tgt := 110) hx hb dX7_set_105 (by decide) (fun _ => ?_) (fun c9 => absurd (by decide) c9)
            obtain ⟨v34, ev34⟩ : ∃ y : Int32, y = p1 + 1 := ⟨_, rfl⟩
            have nv34 : v34 = nI (j + 1) := by rw [ev34, ej]; exact nI_add (j) (1)
            refine lv_iinc (v := v34) (lv' := [(4, .int v34), (3, .int 1), (0, .ref h0), (1, .int p0), (2, .int p1)]) hx hb dX7_set_110 hl (k := 0) rfl (by rw [ev34]; rfl) (by decide) rfl (fun ls hl => ?_)
            refine lv_goto (tgt := 80) hx hb dX7_set_113 (by decide) ?_
            refine lv_iload hx hb dX7_set_80 (lv_at hl 0 rfl) ?_
            refine lv_iload_n hx hb dX7_set_82 rfl (lv_at hl 4 rfl) ?_
            refine lv_iload_n hx hb dX7_set_83 rfl (lv_at hl 3 rfl) ?_
            refine lv_if_ne (tgt := 91) hx hb dX7_set_84 (by decide) (fun c9 => absurd c5 c9) (fun _ => ?_)
            refine lv_iconst (v := 3) hx hb dX7_set_87 (by decide) ?_
            refine lv_goto (tgt := 92) hx hb dX7_set_88 (by decide) ?_
            refine lv_iadd hx hb dX7_set_92 ?_
            refine lv_topi (fun v35 ev35 => ?_)
            have nv35 : v35 = nI (j + 3) := by rw [ev35, ej]; exact nI_add (j) (3)
            refine lv_icmp_ge (tgt := 116) hx hb dX7_set_93 (by decide) (fun c9 => absurd c9 (n_nge nv34 nv35 (by omega) (by omega))) (fun _ => ?_)
            refine lv_aload_n hx hb dX7_set_96 rfl (lv_at hl 2 rfl) ?_
            refine lv_iload hx hb dX7_set_97 (lv_at hl 0 rfl) ?_
            have hPc := hP.sub (ws' := [(h0, .inr (6, [.int 0, .ref (u 0), .ref (u 1), .ref (u 2), .int 0, .ref (u 3), .ref (u 4), .int 0, .int 0, .int 0, .int 0, .int 0, .long 0, .int 0, .int 0, .int 0, .int 0, .long 0, .int 0, .ref (u 5), .ref (u 6), .int 0, .int 0, .int 0, .long 0, .long 0, .ref (u 7), .ref (u 8), .ref (u 9), .ref (u 10), .ref (u 11), .ref (u 12), .ref (u 13), .ref (u 14), .ref (u 15), .ref (u 16), .ref (u 17), .ref (u 18), .ref (u 19), .ref (u 20), .int 0, .int 0, .int 0, .int 0, .int 0, .int 0, .int 0, .int 0, .int 0, .int (-1), .int (-1), .int (-1), .int 0, .int 0, .int 0, .int 0, .int 0, .int 0, .int 0, .int 0, .ref (u 21), .ref (u 22), .ref (u 23), .ref (u 24), .ref (u 25), .ref (u 26), .int 0, .long 0])), ((u 7), .inl (k 0, 34, .inl (fun _ => 0)))]) [2, 4] rfl
            refine q_calli (va_runV (As := [.int v34]) (rest := []) ⟨hx, hb, hml, hown, hts⟩ (m_of l G k h0 u v34 (inN nv34 (by omega) (by decide))) (cwV 1 hts g_m_set_m_of_227 rfl rfl rfl (by decide +kernel) ⟨Nat.le_of_ble_eq_true rfl, Nat.le_of_ble_eq_true rfl⟩) ⟨pr_bl, va_recv hK hPc (ci := 6) (q0 := 0) rfl rfl, pr_pre hPc hK hN⟩ rfl rfl hl.1 rfl (lv_room (Nat.le_of_ble_eq_true rfl)) dX7_set_99 ⟨Nat.le_of_ble_eq_true rfl, Nat.le_of_ble_eq_true rfl⟩) (fun r36 hr36 => ?_)
            obtain rfl : r36 = 0 := hr36
            refine lv_iload_n hx hb dX7_set_102 rfl (lv_at hl 1 rfl) ?_
            refine lv_iadd hx hb dX7_set_103 ?_
            refine lv_topi (fun z37 ez37 => ?_)
            obtain rfl : z37 = 1 := ez37.trans (by decide)
            refine lv_iconst (v := 4) hx hb dX7_set_104 (by decide) ?_
            refine lv_icmp_le (tgt := 110) hx hb dX7_set_105 (by decide) (fun _ => ?_) (fun c9 => absurd (by decide) c9)
            obtain ⟨v38, ev38⟩ : ∃ y : Int32, y = v34 + 1 := ⟨_, rfl⟩
            have nv38 : v38 = nI (j + 1 + 1) := by rw [ev38, nv34]; exact nI_add (j + 1) (1)
            refine lv_iinc (v := v38) (lv' := [(4, .int v38), (3, .int 1), (0, .ref h0), (1, .int p0), (2, .int p1)]) hx hb dX7_set_110 hl (k := 0) rfl (by rw [ev38]; rfl) (by decide) rfl (fun ls hl => ?_)
            refine lv_goto (tgt := 80) hx hb dX7_set_113 (by decide) ?_
            refine lv_iload hx hb dX7_set_80 (lv_at hl 0 rfl) ?_
            refine lv_iload_n hx hb dX7_set_82 rfl (lv_at hl 4 rfl) ?_
            refine lv_iload_n hx hb dX7_set_83 rfl (lv_at hl 3 rfl) ?_
            refine lv_if_ne (tgt := 91) hx hb dX7_set_84 (by decide) (fun c9 => absurd c5 c9) (fun _ => ?_)
            refine lv_iconst (v := 3) hx hb dX7_set_87 (by decide) ?_
            refine lv_goto (tgt := 92) hx hb dX7_set_88 (by decide) ?_
            refine lv_iadd hx hb dX7_set_92 ?_
            refine lv_topi (fun v39 ev39 => ?_)
            have nv39 : v39 = nI (j + 3) := by rw [ev39, ej]; exact nI_add (j) (3)
            refine lv_icmp_ge (tgt := 116) hx hb dX7_set_93 (by decide) (fun c9 => absurd c9 (n_nge nv38 nv39 (by omega) (by omega))) (fun _ => ?_)
            refine lv_aload_n hx hb dX7_set_96 rfl (lv_at hl 2 rfl) ?_
            refine lv_iload hx hb dX7_set_97 (lv_at hl 0 rfl) ?_
            have hPc := hP.sub (ws' := [(h0, .inr (6, [.int 0, .ref (u 0), .ref (u 1), .ref (u 2), .int 0, .ref (u 3), .ref (u 4), .int 0, .int 0, .int 0, .int 0, .int 0, .long 0, .int 0, .int 0, .int 0, .int 0, .long 0, .int 0, .ref (u 5), .ref (u 6), .int 0, .int 0, .int 0, .long 0, .long 0, .ref (u 7), .ref (u 8), .ref (u 9), .ref (u 10), .ref (u 11), .ref (u 12), .ref (u 13), .ref (u 14), .ref (u 15), .ref (u 16), .ref (u 17), .ref (u 18), .ref (u 19), .ref (u 20), .int 0, .int 0, .int 0, .int 0, .int 0, .int 0, .int 0, .int 0, .int 0, .int (-1), .int (-1), .int (-1), .int 0, .int 0, .int 0, .int 0, .int 0, .int 0, .int 0, .int 0, .ref (u 21), .ref (u 22), .ref (u 23), .ref (u 24), .ref (u 25), .ref (u 26), .int 0, .long 0])), ((u 7), .inl (k 0, 34, .inl (fun _ => 0)))]) [2, 4] rfl
            refine q_calli (va_runV (As := [.int v38]) (rest := []) ⟨hx, hb, hml, hown, hts⟩ (m_of l G k h0 u v38 (inN nv38 (by omega) (by decide))) (cwV 1 hts g_m_set_m_of_227 rfl rfl rfl (by decide +kernel) ⟨Nat.le_of_ble_eq_true rfl, Nat.le_of_ble_eq_true rfl⟩) ⟨pr_bl, va_recv hK hPc (ci := 6) (q0 := 0) rfl rfl, pr_pre hPc hK hN⟩ rfl rfl hl.1 rfl (lv_room (Nat.le_of_ble_eq_true rfl)) dX7_set_99 ⟨Nat.le_of_ble_eq_true rfl, Nat.le_of_ble_eq_true rfl⟩) (fun r40 hr40 => ?_)
            obtain rfl : r40 = 0 := hr40
            refine lv_iload_n hx hb dX7_set_102 rfl (lv_at hl 1 rfl) ?_
            refine lv_iadd hx hb dX7_set_103 ?_
            refine lv_topi (fun z41 ez41 => ?_)
            obtain rfl : z41 = 1 := ez41.trans (by decide)
            refine lv_iconst (v := 4) hx hb dX7_set_104 (by decide) ?_
            refine lv_icmp_le (tgt := 110) hx hb dX7_set_105 (by decide) (fun _ => ?_) (fun c9 => absurd (by decide) c9)
            obtain ⟨v42, ev42⟩ : ∃ y : Int32, y = v38 + 1 := ⟨_, rfl⟩
            have nv42 : v42 = nI (j + 1 + 1 + 1) := by rw [ev42, nv38]; exact nI_add (j + 1 + 1) (1)
            refine lv_iinc (v := v42) (lv' := [(4, .int v42), (3, .int 1), (0, .ref h0), (1, .int p0), (2, .int p1)]) hx hb dX7_set_110 hl (k := 0) rfl (by rw [ev42]; rfl) (by decide) rfl (fun ls hl => ?_)
            refine lv_goto (tgt := 80) hx hb dX7_set_113 (by decide) ?_
            refine lv_iload hx hb dX7_set_80 (lv_at hl 0 rfl) ?_
            refine lv_iload_n hx hb dX7_set_82 rfl (lv_at hl 4 rfl) ?_
            refine lv_iload_n hx hb dX7_set_83 rfl (lv_at hl 3 rfl) ?_
            refine lv_if_ne (tgt := 91) hx hb dX7_set_84 (by decide) (fun c9 => absurd c5 c9) (fun _ => ?_)
            refine lv_iconst (v := 3) hx hb dX7_set_87 (by decide) ?_
            refine lv_goto (tgt := 92) hx hb dX7_set_88 (by decide) ?_
            refine lv_iadd hx hb dX7_set_92 ?_
            refine lv_topi (fun v43 ev43 => ?_)
            have nv43 : v43 = nI (j + 3) := by rw [ev43, ej]; exact nI_add (j) (3)
            refine lv_icmp_ge (tgt := 116) hx hb dX7_set_93 (by decide) (fun _ => ?_) (fun c9 => absurd (n_ge nv42 nv43 (by omega) (by omega)) c9)
            refine lv_aload_n hx hb dX7_set_116 rfl (lv_at hl 2 rfl) ?_
            refine va_get (D := G) (ci := 6) (v := .ref (u 24)) (C := RX7) (T := TX7) (N := 68) hx hb hts i_m_set_X7 hown hK hP 2 rfl rfl 63 (by decide) (hts (.fieldLink RX7 94 "TileHouseModel" "deskSort" "[I") (by decide +kernel)) (fun _ h9 => h9) rfl dX7_set_117 ?_
            refine lv_aload_n hx hb dX7_set_120 rfl (lv_at hl 2 rfl) ?_
            refine va_get (D := G) (ci := 6) (v := .int 0) (C := RX7) (T := TX7) (N := 68) hx hb hts i_m_set_X7 hown hK hP 2 rfl rfl 66 (by decide) (hts (.fieldLink RX7 400 "TileHouseModel" "deskSets" "I") (by decide +kernel)) (fun _ h9 => h9) rfl dX7_set_121 ?_
            refine lv_iload_n hx hb dX7_set_124 rfl (lv_at hl 3 rfl) ?_
            refine va_iast hx hb hK hP hD hS 0 0 rfl rfl (inC (by decide) (by decide)) dX7_set_125 (fun H locs hP hD hS => ?_)
            replace hP : va_P G vwCl [((u 24), .inl (k 0, 4, .inl (upd (fun _ => 0) (0 : Int32).toNatClampNeg p0))), ((u 25), .inl (k 0, 4, .inl (fun _ => 0))), (h0, .inr (6, [.int 0, .ref (u 0), .ref (u 1), .ref (u 2), .int 0, .ref (u 3), .ref (u 4), .int 0, .int 0, .int 0, .int 0, .int 0, .long 0, .int 0, .int 0, .int 0, .int 0, .long 0, .int 0, .ref (u 5), .ref (u 6), .int 0, .int 0, .int 0, .long 0, .long 0, .ref (u 7), .ref (u 8), .ref (u 9), .ref (u 10), .ref (u 11), .ref (u 12), .ref (u 13), .ref (u 14), .ref (u 15), .ref (u 16), .ref (u 17), .ref (u 18), .ref (u 19), .ref (u 20), .int 0, .int 0, .int 0, .int 0, .int 0, .int 0, .int 0, .int 0, .int 0, .int (-1), .int (-1), .int (-1), .int 0, .int 0, .int 0, .int 0, .int 0, .int 0, .int 0, .int 0, .ref (u 21), .ref (u 22), .ref (u 23), .ref (u 24), .ref (u 25), .ref (u 26), .int 0, .long 0])), ((u 0), .inl (k 0, 34, .inl (fun _ => 0))), ((u 7), .inl (k 0, 34, .inl (fun _ => 0))), ((u 23), .inl (k 0, 34, .inl (fun _ => 0)))] H := hP
            replace hD : va_D A [((u 24), .inl (k 0, 4, .inl (upd (fun _ => 0) (0 : Int32).toNatClampNeg p0))), ((u 25), .inl (k 0, 4, .inl (fun _ => 0))), (h0, .inr (6, [.int 0, .ref (u 0), .ref (u 1), .ref (u 2), .int 0, .ref (u 3), .ref (u 4), .int 0, .int 0, .int 0, .int 0, .int 0, .long 0, .int 0, .int 0, .int 0, .int 0, .long 0, .int 0, .ref (u 5), .ref (u 6), .int 0, .int 0, .int 0, .long 0, .long 0, .ref (u 7), .ref (u 8), .ref (u 9), .ref (u 10), .ref (u 11), .ref (u 12), .ref (u 13), .ref (u 14), .ref (u 15), .ref (u 16), .ref (u 17), .ref (u 18), .ref (u 19), .ref (u 20), .int 0, .int 0, .int 0, .int 0, .int 0, .int 0, .int 0, .int 0, .int 0, .int (-1), .int (-1), .int (-1), .int 0, .int 0, .int 0, .int 0, .int 0, .int 0, .int 0, .int 0, .ref (u 21), .ref (u 22), .ref (u 23), .ref (u 24), .ref (u 25), .ref (u 26), .int 0, .long 0])), ((u 0), .inl (k 0, 34, .inl (fun _ => 0))), ((u 7), .inl (k 0, 34, .inl (fun _ => 0))), ((u 23), .inl (k 0, 34, .inl (fun _ => 0)))] := hD
            refine lv_aload_n hx hb dX7_set_126 rfl (lv_at hl 2 rfl) ?_
            refine va_get (D := G) (ci := 6) (v := .ref (u 25)) (C := RX7) (T := TX7) (N := 68) hx hb hts i_m_set_X7 hown hK hP 2 rfl rfl 64 (by decide) (hts (.fieldLink RX7 97 "TileHouseModel" "deskKind" "[I") (by decide +kernel)) (fun _ h9 => h9) rfl dX7_set_127 ?_
            refine lv_aload_n hx hb dX7_set_130 rfl (lv_at hl 2 rfl) ?_
            refine va_get (D := G) (ci := 6) (v := .int 0) (C := RX7) (T := TX7) (N := 68) hx hb hts i_m_set_X7 hown hK hP 2 rfl rfl 66 (by decide) (hts (.fieldLink RX7 400 "TileHouseModel" "deskSets" "I") (by decide +kernel)) (fun _ h9 => h9) rfl dX7_set_131 ?_
            refine lv_iload_n hx hb dX7_set_134 rfl (lv_at hl 4 rfl) ?_
            refine va_iast hx hb hK hP hD hS 1 0 rfl rfl (inC (by decide) (by decide)) dX7_set_135 (fun H locs hP hD hS => ?_)
            replace hP : va_P G vwCl [((u 24), .inl (k 0, 4, .inl (upd (fun _ => 0) (0 : Int32).toNatClampNeg p0))), ((u 25), .inl (k 0, 4, .inl (upd (fun _ => 0) (0 : Int32).toNatClampNeg p1))), (h0, .inr (6, [.int 0, .ref (u 0), .ref (u 1), .ref (u 2), .int 0, .ref (u 3), .ref (u 4), .int 0, .int 0, .int 0, .int 0, .int 0, .long 0, .int 0, .int 0, .int 0, .int 0, .long 0, .int 0, .ref (u 5), .ref (u 6), .int 0, .int 0, .int 0, .long 0, .long 0, .ref (u 7), .ref (u 8), .ref (u 9), .ref (u 10), .ref (u 11), .ref (u 12), .ref (u 13), .ref (u 14), .ref (u 15), .ref (u 16), .ref (u 17), .ref (u 18), .ref (u 19), .ref (u 20), .int 0, .int 0, .int 0, .int 0, .int 0, .int 0, .int 0, .int 0, .int 0, .int (-1), .int (-1), .int (-1), .int 0, .int 0, .int 0, .int 0, .int 0, .int 0, .int 0, .int 0, .ref (u 21), .ref (u 22), .ref (u 23), .ref (u 24), .ref (u 25), .ref (u 26), .int 0, .long 0])), ((u 0), .inl (k 0, 34, .inl (fun _ => 0))), ((u 7), .inl (k 0, 34, .inl (fun _ => 0))), ((u 23), .inl (k 0, 34, .inl (fun _ => 0)))] H := hP
            replace hD : va_D A [((u 24), .inl (k 0, 4, .inl (upd (fun _ => 0) (0 : Int32).toNatClampNeg p0))), ((u 25), .inl (k 0, 4, .inl (upd (fun _ => 0) (0 : Int32).toNatClampNeg p1))), (h0, .inr (6, [.int 0, .ref (u 0), .ref (u 1), .ref (u 2), .int 0, .ref (u 3), .ref (u 4), .int 0, .int 0, .int 0, .int 0, .int 0, .long 0, .int 0, .int 0, .int 0, .int 0, .long 0, .int 0, .ref (u 5), .ref (u 6), .int 0, .int 0, .int 0, .long 0, .long 0, .ref (u 7), .ref (u 8), .ref (u 9), .ref (u 10), .ref (u 11), .ref (u 12), .ref (u 13), .ref (u 14), .ref (u 15), .ref (u 16), .ref (u 17), .ref (u 18), .ref (u 19), .ref (u 20), .int 0, .int 0, .int 0, .int 0, .int 0, .int 0, .int 0, .int 0, .int 0, .int (-1), .int (-1), .int (-1), .int 0, .int 0, .int 0, .int 0, .int 0, .int 0, .int 0, .int 0, .ref (u 21), .ref (u 22), .ref (u 23), .ref (u 24), .ref (u 25), .ref (u 26), .int 0, .long 0])), ((u 0), .inl (k 0, 34, .inl (fun _ => 0))), ((u 7), .inl (k 0, 34, .inl (fun _ => 0))), ((u 23), .inl (k 0, 34, .inl (fun _ => 0)))] := hD
            refine lv_aload_n hx hb dX7_set_136 rfl (lv_at hl 2 rfl) ?_
            refine lv_dup hx hb dX7_set_137 rfl ?_
            refine va_get (D := G) (ci := 6) (v := .int 0) (C := RX7) (T := TX7) (N := 68) hx hb hts i_m_set_X7 hown hK hP 2 rfl rfl 66 (by decide) (hts (.fieldLink RX7 400 "TileHouseModel" "deskSets" "I") (by decide +kernel)) (fun _ h9 => h9) rfl dX7_set_138 ?_
            refine lv_iconst (v := 1) hx hb dX7_set_141 (by decide) ?_
            refine lv_iadd hx hb dX7_set_142 ?_
            refine lv_topi (fun z44 ez44 => ?_)
            obtain rfl : z44 = 1 := ez44.trans (by decide)
            refine va_put (D := G) (ci := 6) (v := .int 1) (ty := .int) (C := RX7) (T := TX7) (N := 68) hx hb hts i_m_set_X7 tyX7 tyX7_ok nmX7 hown hK hP hD hS 2 rfl rfl 66 (by decide) (hts (.fieldLink RX7 400 "TileHouseModel" "deskSets" "I") (by decide +kernel)) (fun _ h9 => h9) rfl (by decide +kernel) rfl rfl (Nat.le_of_ble_eq_true rfl) dX7_set_143 (fun H locs hP hD hS => ?_)
            replace hP : va_P G vwCl [((u 24), .inl (k 0, 4, .inl (upd (fun _ => 0) (0 : Int32).toNatClampNeg p0))), ((u 25), .inl (k 0, 4, .inl (upd (fun _ => 0) (0 : Int32).toNatClampNeg p1))), (h0, .inr (6, [.int 0, .ref (u 0), .ref (u 1), .ref (u 2), .int 0, .ref (u 3), .ref (u 4), .int 0, .int 0, .int 0, .int 0, .int 0, .long 0, .int 0, .int 0, .int 0, .int 0, .long 0, .int 0, .ref (u 5), .ref (u 6), .int 0, .int 0, .int 0, .long 0, .long 0, .ref (u 7), .ref (u 8), .ref (u 9), .ref (u 10), .ref (u 11), .ref (u 12), .ref (u 13), .ref (u 14), .ref (u 15), .ref (u 16), .ref (u 17), .ref (u 18), .ref (u 19), .ref (u 20), .int 0, .int 0, .int 0, .int 0, .int 0, .int 0, .int 0, .int 0, .int 0, .int (-1), .int (-1), .int (-1), .int 0, .int 0, .int 0, .int 0, .int 0, .int 0, .int 0, .int 0, .ref (u 21), .ref (u 22), .ref (u 23), .ref (u 24), .ref (u 25), .ref (u 26), .int 1, .long 0])), ((u 0), .inl (k 0, 34, .inl (fun _ => 0))), ((u 7), .inl (k 0, 34, .inl (fun _ => 0))), ((u 23), .inl (k 0, 34, .inl (fun _ => 0)))] H := hP
            replace hD : va_D A [((u 24), .inl (k 0, 4, .inl (upd (fun _ => 0) (0 : Int32).toNatClampNeg p0))), ((u 25), .inl (k 0, 4, .inl (upd (fun _ => 0) (0 : Int32).toNatClampNeg p1))), (h0, .inr (6, [.int 0, .ref (u 0), .ref (u 1), .ref (u 2), .int 0, .ref (u 3), .ref (u 4), .int 0, .int 0, .int 0, .int 0, .int 0, .long 0, .int 0, .int 0, .int 0, .int 0, .long 0, .int 0, .ref (u 5), .ref (u 6), .int 0, .int 0, .int 0, .long 0, .long 0, .ref (u 7), .ref (u 8), .ref (u 9), .ref (u 10), .ref (u 11), .ref (u 12), .ref (u 13), .ref (u 14), .ref (u 15), .ref (u 16), .ref (u 17), .ref (u 18), .ref (u 19), .ref (u 20), .int 0, .int 0, .int 0, .int 0, .int 0, .int 0, .int 0, .int 0, .int 0, .int (-1), .int (-1), .int (-1), .int 0, .int 0, .int 0, .int 0, .int 0, .int 0, .int 0, .int 0, .ref (u 21), .ref (u 22), .ref (u 23), .ref (u 24), .ref (u 25), .ref (u 26), .int 1, .long 0])), ((u 0), .inl (k 0, 34, .inl (fun _ => 0))), ((u 7), .inl (k 0, 34, .inl (fun _ => 0))), ((u 23), .inl (k 0, 34, .inl (fun _ => 0)))] := hD
            refine lv_iconst (v := 1) hx hb dX7_set_146 (by decide) ?_
            refine W.widen (k := 0) (n := 0) (Nat.le_of_ble_eq_true rfl) (Nat.le_of_ble_eq_true rfl) ?_
            exact W.zret (v := 1) hx hb hr rfl (fun t ht hW => ⟨⟨1, (), rfl, Or.inl ⟨rfl, h2, by assumption, by first | assumption | exact Int32.not_lt.mpr (by assumption), fun _ => h25⟩, trivial⟩, hS.F ht⟩) hS.2.2 dX7_set_147
          · skip
            refine lv_if_ne (tgt := 34) hx hb dX7_set_29 (by decide) (fun c9 => absurd (by decide) c9) (fun _ => ?_)
            refine lv_iconst (v := 0) hx hb dX7_set_32 (by decide) ?_
            refine W.widen (k := 0) (n := 0) (Nat.le_of_ble_eq_true rfl) (Nat.le_of_ble_eq_true rfl) ?_
            exact W.zret (v := 0) hx hb hr rfl (fun t ht hW => ⟨⟨0, (), rfl, Or.inr ⟨rfl, fun h9 => by first | exact absurd h9.1 (by assumption) | exact h9.2.1 (by assumption) | exact h9.2.2.1 (by assumption) | exact h9.2.2.1 (Int32.not_le.mp (by assumption)) | exact absurd (h9.2.2.2 (by assumption)) (by assumption)⟩, trivial⟩, hS.F ht⟩) hS.2.2 dX7_set_33
  · skip
    refine lv_if_eq (tgt := 32) hx hb dX7_set_9 (by decide) (fun _ => ?_) (fun c9 => absurd (by decide) c9)
    refine lv_iconst (v := 0) hx hb dX7_set_32 (by decide) ?_
    refine W.widen (k := 0) (n := 0) (Nat.le_of_ble_eq_true rfl) (Nat.le_of_ble_eq_true rfl) ?_
    exact W.zret (v := 0) hx hb hr rfl (fun t ht hW => ⟨⟨0, (), rfl, Or.inr ⟨rfl, fun h9 => by first | exact absurd h9.1 (by assumption) | exact h9.2.1 (by assumption) | exact h9.2.2.1 (by assumption) | exact h9.2.2.1 (Int32.not_le.mp (by assumption)) | exact absurd (h9.2.2.2 (by assumption)) (by assumption)⟩, trivial⟩, hS.F ht⟩) hS.2.2 dX7_set_33
