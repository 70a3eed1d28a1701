theorem dX4_left_7 : decode cX4_left 7 = .ok (.bipush 122, 2) := by decide +kernel
theorem dX4_left_9 : decode cX4_left 9 = .ok (.aload_n 0, 1) := by decide +kernel
theorem dX4_left_10 : decode cX4_left 10 = .ok (.getfield 27, 3) := by decide +kernel
theorem dX4_left_13 : decode cX4_left 13 = .ok (.isub, 1) := by decide +kernel
theorem dX4_left_14 : decode cX4_left 14 = .ok (.aload_n 0, 1) := by decide +kernel
theorem dX4_left_15 : decode cX4_left 15 = .ok (.getfield 23, 3) := by decide +kernel
theorem dX4_left_18 : decode cX4_left 18 = .ok (.isub, 1) := by decide +kernel
theorem dX4_left_19 : decode cX4_left 19 = .ok (.goto 4, 3) := by decide +kernel
theorem dX4_signs_7 : decode cX4_signs 7 = .ok (.iconst 1, 1) := by decide +kernel
theorem dX4_signs_8 : decode cX4_signs 8 = .ok (.aload_n 0, 1) := by decide +kernel
theorem dX4_signs_9 : decode cX4_signs 9 = .ok (.getfield 27, 3) := by decide +kernel
theorem dX4_signs_12 : decode cX4_signs 12 = .ok (.iadd, 1) := by decide +kernel
theorem dX4_signs_13 : decode cX4_signs 13 = .ok (.goto 4, 3) := by decide +kernel
theorem dX4_kindAt_7 : decode cX4_kindAt 7 = .ok (.iload_n 1, 1) := by decide +kernel
theorem dX4_kindAt_8 : decode cX4_kindAt 8 = .ok (.ifCond .lt 19, 3) := by decide +kernel
theorem dX4_kindAt_11 : decode cX4_kindAt 11 = .ok (.iload_n 1, 1) := by decide +kernel
theorem dX4_kindAt_12 : decode cX4_kindAt 12 = .ok (.sipush 136, 3) := by decide +kernel
theorem dX4_kindAt_15 : decode cX4_kindAt 15 = .ok (.if_icmp .ge 12, 3) := by decide +kernel
theorem dX4_kindAt_18 : decode cX4_kindAt 18 = .ok (.aload_n 0, 1) := by decide +kernel
theorem dX4_kindAt_19 : decode cX4_kindAt 19 = .ok (.getfield 11, 3) := by decide +kernel
theorem dX4_kindAt_22 : decode cX4_kindAt 22 = .ok (.iload_n 1, 1) := by decide +kernel
theorem dX4_kindAt_23 : decode cX4_kindAt 23 = .ok (.iaload, 1) := by decide +kernel
theorem dX4_kindAt_24 : decode cX4_kindAt 24 = .ok (.goto 4, 3) := by decide +kernel
theorem dX4_behind_0 : decode cX4_behind 0 = .ok (.iload_n 0, 1) := by decide +kernel
theorem dX4_behind_1 : decode cX4_behind 1 = .ok (.bipush 27, 2) := by decide +kernel
theorem dX4_behind_3 : decode cX4_behind 3 = .ok (.if_icmp .ge 23, 3) := by decide +kernel
theorem dX4_behind_26 : decode cX4_behind 26 = .ok (.iload_n 0, 1) := by decide +kernel
theorem dX4_behind_27 : decode cX4_behind 27 = .ok (.bipush 30, 2) := by decide +kernel
theorem dX4_behind_29 : decode cX4_behind 29 = .ok (.if_icmp .ne 6, 3) := by decide +kernel
theorem dX4_behind_35 : decode cX4_behind 35 = .ok (.iload_n 0, 1) := by decide +kernel
theorem dX4_behind_36 : decode cX4_behind 36 = .ok (.bipush 33, 2) := by decide +kernel
theorem dX4_behind_49 : decode cX4_behind 49 = .ok (.ireturn, 1) := by decide +kernel
theorem dX4_behind_38 : decode cX4_behind 38 = .ok (.if_icmp .ne 8, 3) := by decide +kernel
theorem dX4_behind_46 : decode cX4_behind 46 = .ok (.iload_n 0, 1) := by decide +kernel
theorem dX4_behind_47 : decode cX4_behind 47 = .ok (.iconst 1, 1) := by decide +kernel
theorem dX4_behind_48 : decode cX4_behind 48 = .ok (.iadd, 1) := by decide +kernel
theorem dX4_behind_41 : decode cX4_behind 41 = .ok (.bipush 31, 2) := by decide +kernel
theorem dX4_behind_43 : decode cX4_behind 43 = .ok (.goto 6, 3) := by decide +kernel
theorem dX4_behind_32 : decode cX4_behind 32 = .ok (.bipush 27, 2) := by decide +kernel
theorem dX4_behind_34 : decode cX4_behind 34 = .ok (.ireturn, 1) := by decide +kernel
theorem dX4_behind_6 : decode cX4_behind 6 = .ok (.iload_n 0, 1) := by decide +kernel
theorem dX4_behind_7 : decode cX4_behind 7 = .ok (.bipush 9, 2) := by decide +kernel
theorem dX4_behind_9 : decode cX4_behind 9 = .ok (.irem, 1) := by decide +kernel
theorem dX4_behind_10 : decode cX4_behind 10 = .ok (.bipush 8, 2) := by decide +kernel
theorem dX4_behind_25 : decode cX4_behind 25 = .ok (.ireturn, 1) := by decide +kernel
theorem dX4_behind_12 : decode cX4_behind 12 = .ok (.if_icmp .ne 10, 3) := by decide +kernel
theorem dX4_behind_22 : decode cX4_behind 22 = .ok (.iload_n 0, 1) := by decide +kernel
theorem dX4_behind_23 : decode cX4_behind 23 = .ok (.iconst 1, 1) := by decide +kernel
theorem dX4_behind_24 : decode cX4_behind 24 = .ok (.iadd, 1) := by decide +kernel
theorem dX4_behind_15 : decode cX4_behind 15 = .ok (.iload_n 0, 1) := by decide +kernel
theorem dX4_behind_16 : decode cX4_behind 16 = .ok (.bipush 8, 2) := by decide +kernel
theorem dX4_behind_18 : decode cX4_behind 18 = .ok (.isub, 1) := by decide +kernel
theorem dX4_behind_19 : decode cX4_behind 19 = .ok (.goto 6, 3) := by decide +kernel
theorem dX5_part_0 : decode cX5_part 0 = .ok (.iload_n 1, 1) := by decide +kernel
theorem dX5_part_1 : decode cX5_part 1 = .ok (.tableswitch 78 0 6 #[43, 48, 53, 58, 63, 68, 73], 43) := by decide +kernel
theorem dX5_part_79 : decode cX5_part 79 = .ok (.iconst (-1), 1) := by decide +kernel
theorem dX5_part_80 : decode cX5_part 80 = .ok (.ireturn, 1) := by decide +kernel
theorem dX5_part_44 : decode cX5_part 44 = .ok (.aload_n 0, 1) := by decide +kernel
theorem dX5_part_45 : decode cX5_part 45 = .ok (.getfield 9, 3) := by decide +kernel
theorem dX5_part_48 : decode cX5_part 48 = .ok (.ireturn, 1) := by decide +kernel
theorem dX5_part_49 : decode cX5_part 49 = .ok (.aload_n 0, 1) := by decide +kernel
theorem dX5_part_50 : decode cX5_part 50 = .ok (.getfield 15, 3) := by decide +kernel
theorem dX5_part_53 : decode cX5_part 53 = .ok (.ireturn, 1) := by decide +kernel
theorem dX5_part_54 : decode cX5_part 54 = .ok (.aload_n 0, 1) := by decide +kernel
theorem dX5_part_55 : decode cX5_part 55 = .ok (.getfield 18, 3) := by decide +kernel
theorem dX5_part_58 : decode cX5_part 58 = .ok (.ireturn, 1) := by decide +kernel
theorem dX5_part_59 : decode cX5_part 59 = .ok (.aload_n 0, 1) := by decide +kernel
theorem dX5_part_60 : decode cX5_part 60 = .ok (.getfield 21, 3) := by decide +kernel
theorem dX5_part_63 : decode cX5_part 63 = .ok (.ireturn, 1) := by decide +kernel
theorem dX5_part_64 : decode cX5_part 64 = .ok (.aload_n 0, 1) := by decide +kernel
theorem dX5_part_65 : decode cX5_part 65 = .ok (.getfield 24, 3) := by decide +kernel
theorem dX5_part_68 : decode cX5_part 68 = .ok (.ireturn, 1) := by decide +kernel
theorem dX5_part_69 : decode cX5_part 69 = .ok (.aload_n 0, 1) := by decide +kernel
theorem dX5_part_70 : decode cX5_part 70 = .ok (.getfield 27, 3) := by decide +kernel
theorem dX5_part_73 : decode cX5_part 73 = .ok (.ireturn, 1) := by decide +kernel
theorem dX5_part_74 : decode cX5_part 74 = .ok (.aload_n 0, 1) := by decide +kernel
theorem dX5_part_75 : decode cX5_part 75 = .ok (.getfield 30, 3) := by decide +kernel
theorem dX5_part_78 : decode cX5_part 78 = .ok (.ireturn, 1) := by decide +kernel
theorem dX0_baseOf_0 : decode cX0_baseOf 0 = .ok (.iload_n 1, 1) := by decide +kernel
theorem dX0_baseOf_1 : decode cX0_baseOf 1 = .ok (.iconst 4, 1) := by decide +kernel
theorem dX0_baseOf_2 : decode cX0_baseOf 2 = .ok (.if_icmp .gt 24, 3) := by decide +kernel
theorem dX0_baseOf_26 : decode cX0_baseOf 26 = .ok (.iload_n 1, 1) := by decide +kernel
theorem dX0_baseOf_27 : decode cX0_baseOf 27 = .ok (.iconst 5, 1) := by decide +kernel
theorem dX0_baseOf_28 : decode cX0_baseOf 28 = .ok (.if_icmp .ne 7, 3) := by decide +kernel
theorem dX0_baseOf_35 : decode cX0_baseOf 35 = .ok (.iload_n 1, 1) := by decide +kernel
theorem dX0_baseOf_36 : decode cX0_baseOf 36 = .ok (.bipush 7, 2) := by decide +kernel
theorem dX0_baseOf_38 : decode cX0_baseOf 38 = .ok (.if_icmp .gt 7, 3) := by decide +kernel
theorem dX0_baseOf_45 : decode cX0_baseOf 45 = .ok (.iload_n 1, 1) := by decide +kernel
theorem dX0_baseOf_46 : decode cX0_baseOf 46 = .ok (.bipush 10, 2) := by decide +kernel
theorem dX0_baseOf_48 : decode cX0_baseOf 48 = .ok (.if_icmp .gt 7, 3) := by decide +kernel
theorem dX0_baseOf_55 : decode cX0_baseOf 55 = .ok (.iload_n 1, 1) := by decide +kernel
theorem dX0_baseOf_56 : decode cX0_baseOf 56 = .ok (.bipush 12, 2) := by decide +kernel
theorem dX0_baseOf_70 : decode cX0_baseOf 70 = .ok (.ireturn, 1) := by decide +kernel
theorem dX0_baseOf_58 : decode cX0_baseOf 58 = .ok (.if_icmp .gt 9, 3) := by decide +kernel
theorem dX0_baseOf_67 : decode cX0_baseOf 67 = .ok (.sipush 8000, 3) := by decide +kernel
theorem dX0_baseOf_61 : decode cX0_baseOf 61 = .ok (.sipush 6000, 3) := by decide +kernel
theorem dX0_baseOf_64 : decode cX0_baseOf 64 = .ok (.goto 6, 3) := by decide +kernel
theorem dX0_baseOf_51 : decode cX0_baseOf 51 = .ok (.sipush 4000, 3) := by decide +kernel
theorem dX0_baseOf_54 : decode cX0_baseOf 54 = .ok (.ireturn, 1) := by decide +kernel
theorem dX0_baseOf_41 : decode cX0_baseOf 41 = .ok (.sipush 3000, 3) := by decide +kernel
theorem dX0_baseOf_44 : decode cX0_baseOf 44 = .ok (.ireturn, 1) := by decide +kernel
theorem dX0_baseOf_31 : decode cX0_baseOf 31 = .ok (.sipush 2000, 3) := by decide +kernel
theorem dX0_baseOf_34 : decode cX0_baseOf 34 = .ok (.ireturn, 1) := by decide +kernel
theorem dX0_baseOf_5 : decode cX0_baseOf 5 = .ok (.iload_n 0, 1) := by decide +kernel
theorem dX0_baseOf_6 : decode cX0_baseOf 6 = .ok (.iconst 2, 1) := by decide +kernel
theorem dX0_baseOf_7 : decode cX0_baseOf 7 = .ok (.iload_n 1, 1) := by decide +kernel
theorem dX0_baseOf_8 : decode cX0_baseOf 8 = .ok (.iadd, 1) := by decide +kernel
theorem dX0_baseOf_9 : decode cX0_baseOf 9 = .ok (.ishl, 1) := by decide +kernel
theorem dX0_baseOf_10 : decode cX0_baseOf 10 = .ok (.istore_n 2, 1) := by decide +kernel
theorem dX0_baseOf_11 : decode cX0_baseOf 11 = .ok (.iload_n 2, 1) := by decide +kernel
theorem dX0_baseOf_12 : decode cX0_baseOf 12 = .ok (.sipush 2000, 3) := by decide +kernel
theorem dX0_baseOf_25 : decode cX0_baseOf 25 = .ok (.ireturn, 1) := by decide +kernel
theorem dX0_baseOf_15 : decode cX0_baseOf 15 = .ok (.if_icmp .ge 7, 3) := by decide +kernel
theorem dX0_baseOf_22 : decode cX0_baseOf 22 = .ok (.sipush 2000, 3) := by decide +kernel
theorem dX0_baseOf_18 : decode cX0_baseOf 18 = .ok (.iload_n 2, 1) := by decide +kernel
theorem dX0_baseOf_19 : decode cX0_baseOf 19 = .ok (.goto 6, 3) := by decide +kernel
theorem dX1_bit_0 : decode cX1_bit 0 = .ok (.iload_n 0, 1) := by decide +kernel
theorem dX1_bit_11 : decode cX1_bit 11 = .ok (.lreturn, 1) := by decide +kernel
theorem dX1_bit_1 : decode cX1_bit 1 = .ok (.ifCond .eq 9, 3) := by decide +kernel
theorem dX1_bit_10 : decode cX1_bit 10 = .ok (.lconst 0, 1) := by decide +kernel
theorem dX1_bit_4 : decode cX1_bit 4 = .ok (.lconst 1, 1) := by decide +kernel
theorem dX1_bit_5 : decode cX1_bit 5 = .ok (.iload_n 1, 1) := by decide +kernel
theorem dX1_bit_6 : decode cX1_bit 6 = .ok (.lshl, 1) := by decide +kernel
theorem dX1_bit_7 : decode cX1_bit 7 = .ok (.goto 4, 3) := by decide +kernel
theorem dX1_pairFu_0 : decode cX1_pairFu 0 = .ok (.aload_n 0, 1) := by decide +kernel
theorem dX1_pairFu_1 : decode cX1_pairFu 1 = .ok (.getfield 105, 3) := by decide +kernel
theorem dX1_pairFu_4 : decode cX1_pairFu 4 = .ok (.bipush 31, 2) := by decide +kernel
theorem dX1_pairFu_14 : decode cX1_pairFu 14 = .ok (.aload_n 0, 1) := by decide +kernel
theorem dX1_pairFu_15 : decode cX1_pairFu 15 = .ok (.getfield 105, 3) := by decide +kernel
theorem dX1_pairFu_18 : decode cX1_pairFu 18 = .ok (.aload_n 0, 1) := by decide +kernel
theorem dX1_pairFu_19 : decode cX1_pairFu 19 = .ok (.getfield 66, 3) := by decide +kernel
theorem dX1_pairFu_30 : decode cX1_pairFu 30 = .ok (.iadd, 1) := by decide +kernel
theorem dX1_pairFu_31 : decode cX1_pairFu 31 = .ok (.aload_n 0, 1) := by decide +kernel
theorem dX1_pairFu_32 : decode cX1_pairFu 32 = .ok (.getfield 105, 3) := by decide +kernel
theorem dX1_pairFu_35 : decode cX1_pairFu 35 = .ok (.aload_n 0, 1) := by decide +kernel
theorem dX1_pairFu_36 : decode cX1_pairFu 36 = .ok (.getfield 69, 3) := by decide +kernel
theorem dX1_pairFu_47 : decode cX1_pairFu 47 = .ok (.iadd, 1) := by decide +kernel
theorem dX1_pairFu_48 : decode cX1_pairFu 48 = .ok (.ireturn, 1) := by decide +kernel
theorem dX1_pairFu_39 : decode cX1_pairFu 39 = .ok (.if_icmp .ne 7, 3) := by decide +kernel
theorem dX1_pairFu_46 : decode cX1_pairFu 46 = .ok (.iconst 0, 1) := by decide +kernel
theorem dX1_pairFu_42 : decode cX1_pairFu 42 = .ok (.iconst 2, 1) := by decide +kernel
theorem dX1_pairFu_43 : decode cX1_pairFu 43 = .ok (.goto 4, 3) := by decide +kernel
theorem dX1_pairFu_22 : decode cX1_pairFu 22 = .ok (.if_icmp .ne 7, 3) := by decide +kernel
theorem dX1_pairFu_29 : decode cX1_pairFu 29 = .ok (.iconst 0, 1) := by decide +kernel
theorem dX1_pairFu_25 : decode cX1_pairFu 25 = .ok (.iconst 2, 1) := by decide +kernel
theorem dX1_pairFu_26 : decode cX1_pairFu 26 = .ok (.goto 4, 3) := by decide +kernel
theorem dX1_pairFu_6 : decode cX1_pairFu 6 = .ok (.if_icmp .lt 7, 3) := by decide +kernel
theorem dX1_pairFu_13 : decode cX1_pairFu 13 = .ok (.iconst 0, 1) := by decide +kernel
theorem dX1_pairFu_9 : decode cX1_pairFu 9 = .ok (.iconst 2, 1) := by decide +kernel
theorem dX1_pairFu_10 : decode cX1_pairFu 10 = .ok (.goto 4, 3) := by decide +kernel
theorem dX1_isBetter_0 : decode cX1_isBetter 0 = .ok (.iload_n 1, 1) := by decide +kernel
theorem dX1_isBetter_1 : decode cX1_isBetter 1 = .ok (.aload_n 0, 1) := by decide +kernel
theorem dX1_isBetter_2 : decode cX1_isBetter 2 = .ok (.getfield 21, 3) := by decide +kernel
theorem dX1_isBetter_5 : decode cX1_isBetter 5 = .ok (.if_icmp .eq 17, 3) := by decide +kernel
theorem dX1_isBetter_22 : decode cX1_isBetter 22 = .ok (.iload_n 2, 1) := by decide +kernel
theorem dX1_isBetter_23 : decode cX1_isBetter 23 = .ok (.aload_n 0, 1) := by decide +kernel
theorem dX1_isBetter_24 : decode cX1_isBetter 24 = .ok (.getfield 25, 3) := by decide +kernel
theorem dX1_isBetter_27 : decode cX1_isBetter 27 = .ok (.if_icmp .eq 17, 3) := by decide +kernel
theorem dX1_isBetter_44 : decode cX1_isBetter 44 = .ok (.iload_n 3, 1) := by decide +kernel
theorem dX1_isBetter_45 : decode cX1_isBetter 45 = .ok (.aload_n 0, 1) := by decide +kernel
theorem dX1_isBetter_46 : decode cX1_isBetter 46 = .ok (.getfield 28, 3) := by decide +kernel
theorem dX1_isBetter_49 : decode cX1_isBetter 49 = .ok (.if_icmp .eq 17, 3) := by decide +kernel
theorem dX1_isBetter_66 : decode cX1_isBetter 66 = .ok (.lload 4, 2) := by decide +kernel
theorem dX1_isBetter_68 : decode cX1_isBetter 68 = .ok (.aload_n 0, 1) := by decide +kernel
theorem dX1_isBetter_69 : decode cX1_isBetter 69 = .ok (.getfield 31, 3) := by decide +kernel
theorem dX1_isBetter_72 : decode cX1_isBetter 72 = .ok (.lcmp, 1) := by decide +kernel
theorem dX1_isBetter_81 : decode cX1_isBetter 81 = .ok (.ireturn, 1) := by decide +kernel
theorem dX1_isBetter_73 : decode cX1_isBetter 73 = .ok (.ifCond .le 7, 3) := by decide +kernel
theorem dX1_isBetter_80 : decode cX1_isBetter 80 = .ok (.iconst 0, 1) := by decide +kernel
theorem dX1_isBetter_76 : decode cX1_isBetter 76 = .ok (.iconst 1, 1) := by decide +kernel
theorem dX1_isBetter_77 : decode cX1_isBetter 77 = .ok (.goto 4, 3) := by decide +kernel
theorem dX1_isBetter_52 : decode cX1_isBetter 52 = .ok (.iload_n 3, 1) := by decide +kernel
theorem dX1_isBetter_53 : decode cX1_isBetter 53 = .ok (.aload_n 0, 1) := by decide +kernel
theorem dX1_isBetter_54 : decode cX1_isBetter 54 = .ok (.getfield 28, 3) := by decide +kernel
theorem dX1_isBetter_65 : decode cX1_isBetter 65 = .ok (.ireturn, 1) := by decide +kernel
theorem dX1_isBetter_57 : decode cX1_isBetter 57 = .ok (.if_icmp .le 7, 3) := by decide +kernel
theorem dX1_isBetter_64 : decode cX1_isBetter 64 = .ok (.iconst 0, 1) := by decide +kernel
theorem dX1_isBetter_60 : decode cX1_isBetter 60 = .ok (.iconst 1, 1) := by decide +kernel
theorem dX1_isBetter_61 : decode cX1_isBetter 61 = .ok (.goto 4, 3) := by decide +kernel
theorem dX1_isBetter_30 : decode cX1_isBetter 30 = .ok (.iload_n 2, 1) := by decide +kernel
theorem dX1_isBetter_31 : decode cX1_isBetter 31 = .ok (.aload_n 0, 1) := by decide +kernel
theorem dX1_isBetter_32 : decode cX1_isBetter 32 = .ok (.getfield 25, 3) := by decide +kernel
theorem dX1_isBetter_43 : decode cX1_isBetter 43 = .ok (.ireturn, 1) := by decide +kernel
theorem dX1_isBetter_35 : decode cX1_isBetter 35 = .ok (.if_icmp .le 7, 3) := by decide +kernel
theorem dX1_isBetter_42 : decode cX1_isBetter 42 = .ok (.iconst 0, 1) := by decide +kernel
theorem dX1_isBetter_38 : decode cX1_isBetter 38 = .ok (.iconst 1, 1) := by decide +kernel
theorem dX1_isBetter_39 : decode cX1_isBetter 39 = .ok (.goto 4, 3) := by decide +kernel
theorem dX1_isBetter_8 : decode cX1_isBetter 8 = .ok (.iload_n 1, 1) := by decide +kernel
theorem dX1_isBetter_9 : decode cX1_isBetter 9 = .ok (.aload_n 0, 1) := by decide +kernel
theorem dX1_isBetter_10 : decode cX1_isBetter 10 = .ok (.getfield 21, 3) := by decide +kernel
theorem dX1_isBetter_21 : decode cX1_isBetter 21 = .ok (.ireturn, 1) := by decide +kernel
theorem dX1_isBetter_13 : decode cX1_isBetter 13 = .ok (.if_icmp .le 7, 3) := by decide +kernel
theorem dX1_isBetter_20 : decode cX1_isBetter 20 = .ok (.iconst 0, 1) := by decide +kernel
theorem dX1_isBetter_16 : decode cX1_isBetter 16 = .ok (.iconst 1, 1) := by decide +kernel
theorem dX1_isBetter_17 : decode cX1_isBetter 17 = .ok (.goto 4, 3) := by decide +kernel
theorem dX1_toldOnes_0 : decode cX1_toldOnes 0 = .ok (.lload_n 1, 1) := by decide +kernel
theorem dX1_toldOnes_1 : decode cX1_toldOnes 1 = .ok (.ldc2_w 124, 3) := by decide +kernel
theorem dX1_toldOnes_4 : decode cX1_toldOnes 4 = .ok (.land, 1) := by decide +kernel
theorem dX1_toldOnes_5 : decode cX1_toldOnes 5 = .ok (.lstore_n 3, 1) := by decide +kernel
theorem dX1_toldOnes_6 : decode cX1_toldOnes 6 = .ok (.lload_n 3, 1) := by decide +kernel
theorem dX1_toldOnes_7 : decode cX1_toldOnes 7 = .ok (.iconst 1, 1) := by decide +kernel
theorem dX1_toldOnes_8 : decode cX1_toldOnes 8 = .ok (.lushr, 1) := by decide +kernel
theorem dX1_toldOnes_9 : decode cX1_toldOnes 9 = .ok (.lconst 1, 1) := by decide +kernel
theorem dX1_toldOnes_10 : decode cX1_toldOnes 10 = .ok (.land, 1) := by decide +kernel
theorem dX1_toldOnes_11 : decode cX1_toldOnes 11 = .ok (.lconst 0, 1) := by decide +kernel
theorem dX1_toldOnes_12 : decode cX1_toldOnes 12 = .ok (.lcmp, 1) := by decide +kernel
theorem dX1_toldOnes_22 : decode cX1_toldOnes 22 = .ok (.aload_n 0, 1) := by decide +kernel
theorem dX1_toldOnes_23 : decode cX1_toldOnes 23 = .ok (.getfield 55, 3) := by decide +kernel
theorem dX1_toldOnes_38 : decode cX1_toldOnes 38 = .ok (.lreturn, 1) := by decide +kernel
theorem dX1_toldOnes_26 : decode cX1_toldOnes 26 = .ok (.ifCond .eq 11, 3) := by decide +kernel
theorem dX1_toldOnes_37 : decode cX1_toldOnes 37 = .ok (.lload_n 3, 1) := by decide +kernel
theorem dX1_toldOnes_29 : decode cX1_toldOnes 29 = .ok (.lload_n 3, 1) := by decide +kernel
theorem dX1_toldOnes_30 : decode cX1_toldOnes 30 = .ok (.ldc2_w 128, 3) := by decide +kernel
theorem dX1_toldOnes_33 : decode cX1_toldOnes 33 = .ok (.lor, 1) := by decide +kernel
theorem dX1_toldOnes_34 : decode cX1_toldOnes 34 = .ok (.goto 4, 3) := by decide +kernel
theorem dX1_toldOnes_13 : decode cX1_toldOnes 13 = .ok (.ifCond .eq 9, 3) := by decide +kernel
theorem dX1_toldOnes_16 : decode cX1_toldOnes 16 = .ok (.lload_n 3, 1) := by decide +kernel
theorem dX1_toldOnes_17 : decode cX1_toldOnes 17 = .ok (.ldc2_w 126, 3) := by decide +kernel
theorem dX1_toldOnes_20 : decode cX1_toldOnes 20 = .ok (.land, 1) := by decide +kernel
theorem dX1_toldOnes_21 : decode cX1_toldOnes 21 = .ok (.lstore_n 3, 1) := by decide +kernel
def v_w_left : List Cond := .code yX4_left cX4_left 1 (some .int) :: ([.fieldLink RX4 19 "TileHouse$Wall" "stands" "Z", .fieldLink RX4 27 "TileHouse$Wall" "fours" "I", .fieldLink RX4 23 "TileHouse$Wall" "next" "I"] ++ (wsX40 ++ ([])))
theorem vg_w_left : ∀ w ∈ v_w_left, goodWord w = true := vg_c (c := .code yX4_left cX4_left 1 (some .int)) (l := [.fieldLink RX4 19 "TileHouse$Wall" "stands" "Z", .fieldLink RX4 27 "TileHouse$Wall" "fours" "I", .fieldLink RX4 23 "TileHouse$Wall" "next" "I"]) (by decide +kernel) (vg_a vgX4 (vg_nil))
theorem i_w_left_X4 : ∀ w ∈ u_ws RX4 TX4 4, w ∈ v_w_left := fun _ h => List.mem_cons_of_mem _ (List.mem_append_right _ (List.mem_append_left _ h))
set_option maxHeartbeats 4000000 in
set_option maxRecDepth 100000 in
theorem w_left (l : Launch) (G : va_G) (k : Nat → ClassId) (h0 : Nat) (wk : Nat) (sd : Int32) (nx : Int32) (fo : Int32) : Met l yX4_left v_w_left ({ frames := 0, cells := 0, slots := 0, locals := 0 }) (va_Pc [.ref h0] (pr G k [(h0, .inr (3, [.ref wk, .int sd, .int nx, .int fo]))])) (vp_Si (fun _ => True)) 0 0 (fun _ => False) := by
  refine Met.ofW (cc := cX4_left) (maxL := 1) (ret := (some .int)) (by decide) rfl ?_
  intro p e s m args below meth c s₁ B hml hv
  obtain ⟨rfl, hP, hK, hN⟩ := hv
  have hx := B.exec
  have hb := B.bytes
  have hr := B.returns
  have hts := atoms_spec (ws := v_w_left) B.pre
  have hown : s.vm.findClass RX4 = some m.cls := findClass_of_methodNamed B.named
  have hlocks := B.notSynchronized
  have hl := lv_entry ([.ref h0]) (n := 1) (Nat.le_of_ble_eq_true rfl)
  rw [lg_entry_eq]
  generalize (lg_sl ([.ref h0]) ++ List.replicate (1 - (lg_sl ([.ref h0])).length) Slot.unset).toArray = ls at hl ⊢
  have hl : lv_has ls 1 [(0, .ref h0)] := hl
  refine lv_aload_n hx hb dX4_left_0 rfl (lv_at hl 0 rfl) ?_
  refine va_get (D := G) (ci := 3) (v := .int sd) (C := RX4) (T := TX4) (N := 4) hx hb hts i_w_left_X4 hown hK hP 0 rfl rfl 1 (by decide) (hts (.fieldLink RX4 19 "TileHouse$Wall" "stands" "Z") (by decide +kernel)) (fun _ h9 => h9) rfl dX4_left_1 ?_
  have J23_2 : ∀ (g1 : Int32) (ls : Array Slot), lv_has ls 1 [(0, .ref h0)] → W p l e (headSpec v_w_left ({ frames := 0, cells := 0, slots := 0, locals := 0 })).room s m [.ref h0].toArray below meth c s.heap [] 0 0 (MQ below (vp_Si (fun _ => True)) [.ref h0].toArray s 0 0 (fun _ => False)) (F0 m 23 ls [.int g1]) := by
    intro g1 ls hl
    exact W.iret (v := g1) hx hb hr (fun t ht hW => ⟨g1, rfl, trivial, ht⟩) (fun _ h => by cases h) dX4_left_23
  refine lv_if_eq (tgt := 22) hx hb dX4_left_4 (by decide) (fun c3 => ?_) (fun c3 => ?_)
  · skip
    refine lv_iconst (v := 0) hx hb dX4_left_22 (by decide) ?_
    exact J23_2 0 ls (lv_sub hl [0] rfl)
  · skip
    refine lv_bipush (v := 122) hx hb dX4_left_7 (by decide) ?_
    refine lv_aload_n hx hb dX4_left_9 rfl (lv_at hl 0 rfl) ?_
    refine va_get (D := G) (ci := 3) (v := .int fo) (C := RX4) (T := TX4) (N := 4) hx hb hts i_w_left_X4 hown hK hP 0 rfl rfl 3 (by decide) (hts (.fieldLink RX4 27 "TileHouse$Wall" "fours" "I") (by decide +kernel)) (fun _ h9 => h9) rfl dX4_left_10 ?_
    refine lv_isub hx hb dX4_left_13 ?_
    refine lv_topi (fun v4 ev4 => ?_)
    refine lv_aload_n hx hb dX4_left_14 rfl (lv_at hl 0 rfl) ?_
    refine va_get (D := G) (ci := 3) (v := .int nx) (C := RX4) (T := TX4) (N := 4) hx hb hts i_w_left_X4 hown hK hP 0 rfl rfl 2 (by decide) (hts (.fieldLink RX4 23 "TileHouse$Wall" "next" "I") (by decide +kernel)) (fun _ h9 => h9) rfl dX4_left_15 ?_
    refine lv_isub hx hb dX4_left_18 ?_
    refine lv_topi (fun v5 ev5 => ?_)
    refine lv_goto (tgt := 23) hx hb dX4_left_19 (by decide) ?_
    exact J23_2 v5 ls (lv_sub hl [0] rfl)
def v_w_signs : List Cond := .code yX4_signs cX4_signs 1 (some .int) :: ([.fieldLink RX4 19 "TileHouse$Wall" "stands" "Z", .fieldLink RX4 27 "TileHouse$Wall" "fours" "I"] ++ (wsX40 ++ ([])))
theorem vg_w_signs : ∀ w ∈ v_w_signs, goodWord w = true := vg_c (c := .code yX4_signs cX4_signs 1 (some .int)) (l := [.fieldLink RX4 19 "TileHouse$Wall" "stands" "Z", .fieldLink RX4 27 "TileHouse$Wall" "fours" "I"]) (by decide +kernel) (vg_a vgX4 (vg_nil))
theorem i_w_signs_X4 : ∀ w ∈ u_ws RX4 TX4 4, w ∈ v_w_signs := fun _ h => List.mem_cons_of_mem _ (List.mem_append_right _ (List.mem_append_left _ h))
set_option maxHeartbeats 4000000 in
set_option maxRecDepth 100000 in
theorem w_signs (l : Launch) (G : va_G) (k : Nat → ClassId) (h0 : Nat) (wk : Nat) (sd : Int32) (nx : Int32) (fo : Int32) : Met l yX4_signs v_w_signs ({ frames := 0, cells := 0, slots := 0, locals := 0 }) (va_Pc [.ref h0] (pr G k [(h0, .inr (3, [.ref wk, .int sd, .int nx, .int fo]))])) (vp_Si (fun _ => True)) 0 0 (fun _ => False) := by
  refine Met.ofW (cc := cX4_signs) (maxL := 1) (ret := (some .int)) (by decide) rfl ?_
  intro p e s m args below meth c s₁ B hml hv
  obtain ⟨rfl, hP, hK, hN⟩ := hv
  have hx := B.exec
  have hb := B.bytes
  have hr := B.returns
  have hts := atoms_spec (ws := v_w_signs) B.pre
  have hown : s.vm.findClass RX4 = some m.cls := findClass_of_methodNamed B.named
  have hlocks := B.notSynchronized
  have hl := lv_entry ([.ref h0]) (n := 1) (Nat.le_of_ble_eq_true rfl)
  rw [lg_entry_eq]
  generalize (lg_sl ([.ref h0]) ++ List.replicate (1 - (lg_sl ([.ref h0])).length) Slot.unset).toArray = ls at hl ⊢
  have hl : lv_has ls 1 [(0, .ref h0)] := hl
  refine lv_aload_n hx hb dX4_signs_0 rfl (lv_at hl 0 rfl) ?_
  refine va_get (D := G) (ci := 3) (v := .int sd) (C := RX4) (T := TX4) (N := 4) hx hb hts i_w_signs_X4 hown hK hP 0 rfl rfl 1 (by decide) (hts (.fieldLink RX4 19 "TileHouse$Wall" "stands" "Z") (by decide +kernel)) (fun _ h9 => h9) rfl dX4_signs_1 ?_
  have J17_2 : ∀ (g1 : Int32) (ls : Array Slot), lv_has ls 1 [(0, .ref h0)] → W p l e (headSpec v_w_signs ({ frames := 0, cells := 0, slots := 0, locals := 0 })).room s m [.ref h0].toArray below meth c s.heap [] 0 0 (MQ below (vp_Si (fun _ => True)) [.ref h0].toArray s 0 0 (fun _ => False)) (F0 m 17 ls [.int g1]) := by
    intro g1 ls hl
    exact W.iret (v := g1) hx hb hr (fun t ht hW => ⟨g1, rfl, trivial, ht⟩) (fun _ h => by cases h) dX4_signs_17
  refine lv_if_eq (tgt := 16) hx hb dX4_signs_4 (by decide) (fun c3 => ?_) (fun c3 => ?_)
  · skip
    refine lv_iconst (v := 0) hx hb dX4_signs_16 (by decide) ?_
    exact J17_2 0 ls (lv_sub hl [0] rfl)
  · skip
    refine lv_iconst (v := 1) hx hb dX4_signs_7 (by decide) ?_
    refine lv_aload_n hx hb dX4_signs_8 rfl (lv_at hl 0 rfl) ?_
    refine va_get (D := G) (ci := 3) (v := .int fo) (C := RX4) (T := TX4) (N := 4) hx hb hts i_w_signs_X4 hown hK hP 0 rfl rfl 3 (by decide) (hts (.fieldLink RX4 27 "TileHouse$Wall" "fours" "I") (by decide +kernel)) (fun _ h9 => h9) rfl dX4_signs_9 ?_
    refine lv_iadd hx hb dX4_signs_12 ?_
    refine lv_topi (fun v4 ev4 => ?_)
    refine lv_goto (tgt := 17) hx hb dX4_signs_13 (by decide) ?_
    exact J17_2 v4 ls (lv_sub hl [0] rfl)
def v_w_kindAt : List Cond := .code yX4_kindAt cX4_kindAt 2 (some .int) :: ([.fieldLink RX4 19 "TileHouse$Wall" "stands" "Z", .fieldLink RX4 11 "TileHouse$Wall" "kinds" "[I"] ++ (wsX40 ++ ([])))
theorem vg_w_kindAt : ∀ w ∈ v_w_kindAt, goodWord w = true := vg_c (c := .code yX4_kindAt cX4_kindAt 2 (some .int)) (l := [.fieldLink RX4 19 "TileHouse$Wall" "stands" "Z", .fieldLink RX4 11 "TileHouse$Wall" "kinds" "[I"]) (by decide +kernel) (vg_a vgX4 (vg_nil))
theorem i_w_kindAt_X4 : ∀ w ∈ u_ws RX4 TX4 4, w ∈ v_w_kindAt := fun _ h => List.mem_cons_of_mem _ (List.mem_append_right _ (List.mem_append_left _ h))
set_option maxHeartbeats 4000000 in
set_option maxRecDepth 100000 in
theorem w_kindAt (l : Launch) (G : va_G) (k : Nat → ClassId) (h0 : Nat) (wk : Nat) (sd : Int32) (nx : Int32) (fo : Int32) (f : Nat → Int32) (p0 : Int32) : Met l yX4_kindAt v_w_kindAt ({ frames := 0, cells := 0, slots := 0, locals := 0 }) (va_Pc [.ref h0, .int p0] (pr G k [(h0, .inr (3, [.ref wk, .int sd, .int nx, .int fo])), (wk, .inl (k 0, 136, .inl f))])) (vp_Si (fun _ => True)) 0 0 (fun _ => False) := by
  refine Met.ofW (cc := cX4_kindAt) (maxL := 2) (ret := (some .int)) (by decide) rfl ?_
  intro p e s m args below meth c s₁ B hml hv
  obtain ⟨rfl, hP, hK, hN⟩ := hv
  have hx := B.exec
  have hb := B.bytes
  have hr := B.returns
  have hts := atoms_spec (ws := v_w_kindAt) B.pre
  have hown : s.vm.findClass RX4 = some m.cls := findClass_of_methodNamed B.named
  have hlocks := B.notSynchronized
  have hl := lv_entry ([.ref h0, .int p0]) (n := 2) (Nat.le_of_ble_eq_true rfl)
  rw [lg_entry_eq]
  generalize (lg_sl ([.ref h0, .int p0]) ++ List.replicate (2 - (lg_sl ([.ref h0, .int p0])).length) Slot.unset).toArray = ls at hl ⊢
  have hl : lv_has ls 2 [(0, .ref h0), (1, .int p0)] := hl
  refine lv_aload_n hx hb dX4_kindAt_0 rfl (lv_at hl 0 rfl) ?_
  refine va_get (D := G) (ci := 3) (v := .int sd) (C := RX4) (T := TX4) (N := 4) hx hb hts i_w_kindAt_X4 hown hK hP 0 rfl rfl 1 (by decide) (hts (.fieldLink RX4 19 "TileHouse$Wall" "stands" "Z") (by decide +kernel)) (fun _ h9 => h9) rfl dX4_kindAt_1 ?_
  have J28_2 : ∀ (g1 : Int32) (ls : Array Slot), lv_has ls 2 [(0, .ref h0), (1, .int p0)] → W p l e (headSpec v_w_kindAt ({ frames := 0, cells := 0, slots := 0, locals := 0 })).room s m [.ref h0, .int p0].toArray below meth c s.heap [] 0 0 (MQ below (vp_Si (fun _ => True)) [.ref h0, .int p0].toArray s 0 0 (fun _ => False)) (F0 m 28 ls [.int g1]) := by
    intro g1 ls hl
    exact W.iret (v := g1) hx hb hr (fun t ht hW => ⟨g1, rfl, trivial, ht⟩) (fun _ h => by cases h) dX4_kindAt_28
  refine lv_if_eq (tgt := 27) hx hb dX4_kindAt_4 (by decide) (fun c3 => ?_) (fun c3 => ?_)
  · skip
    refine lv_iconst (v := (-1)) hx hb dX4_kindAt_27 (by decide) ?_
    exact J28_2 (-1) ls (lv_sub hl [0, 1] rfl)
  · skip
    refine lv_iload_n hx hb dX4_kindAt_7 rfl (lv_at hl 1 rfl) ?_
    refine lv_if_lt (tgt := 27) hx hb dX4_kindAt_8 (by decide) (fun c4 => ?_) (fun c4 => ?_)
    · skip
      refine lv_iconst (v := (-1)) hx hb dX4_kindAt_27 (by decide) ?_
      exact J28_2 (-1) ls (lv_sub hl [0, 1] rfl)
    · skip
      refine lv_iload_n hx hb dX4_kindAt_11 rfl (lv_at hl 1 rfl) ?_
      refine lv_sipush (v := 136) hx hb dX4_kindAt_12 (by decide) ?_
      refine lv_icmp_ge (tgt := 27) hx hb dX4_kindAt_15 (by decide) (fun c5 => ?_) (fun c5 => ?_)
      · skip
        refine lv_iconst (v := (-1)) hx hb dX4_kindAt_27 (by decide) ?_
        exact J28_2 (-1) ls (lv_sub hl [0, 1] rfl)
      · skip
        refine lv_aload_n hx hb dX4_kindAt_18 rfl (lv_at hl 0 rfl) ?_
        refine va_get (D := G) (ci := 3) (v := .ref wk) (C := RX4) (T := TX4) (N := 4) hx hb hts i_w_kindAt_X4 hown hK hP 0 rfl rfl 0 (by decide) (hts (.fieldLink RX4 11 "TileHouse$Wall" "kinds" "[I") (by decide +kernel)) (fun _ h9 => h9) rfl dX4_kindAt_19 ?_
        refine lv_iload_n hx hb dX4_kindAt_22 rfl (lv_at hl 1 rfl) ?_
        refine va_iald hx hb hK hP 1 0 rfl rfl (in_of (M := 136) rfl (by assumption) (by assumption)) dX4_kindAt_23 ?_
        refine lv_topi (fun v6 ev6 => ?_)
        refine lv_goto (tgt := 28) hx hb dX4_kindAt_24 (by decide) ?_
        exact J28_2 v6 ls (lv_sub hl [0, 1] rfl)
def v_w_behind : List Cond := .code yX4_behind cX4_behind 1 (some .int) :: ([] ++ ([]))
theorem vg_w_behind : ∀ w ∈ v_w_behind, goodWord w = true := vg_c (c := .code yX4_behind cX4_behind 1 (some .int)) (l := []) (by decide +kernel) (vg_nil)
set_option maxHeartbeats 4000000 in
set_option maxRecDepth 100000 in
theorem w_behind (l : Launch) (G : va_G) (k : Nat → ClassId) (p0 : Int32) : Met l yX4_behind v_w_behind ({ frames := 0, cells := 0, slots := 0, locals := 0 }) (va_Pc [.int p0] (pr G k [])) (vp_Si (fun _ => True)) 0 0 (fun _ => False) := by
  refine Met.ofW (cc := cX4_behind) (maxL := 1) (ret := (some .int)) (by decide) rfl ?_
  intro p e s m args below meth c s₁ B hml hv
  obtain ⟨rfl, hP, hK, hN⟩ := hv
  have hx := B.exec
  have hb := B.bytes
  have hr := B.returns
  have hts := atoms_spec (ws := v_w_behind) B.pre
  have hown : s.vm.findClass RX4 = some m.cls := findClass_of_methodNamed B.named
  have hlocks := B.notSynchronized
  have hl := lv_entry ([.int p0]) (n := 1) (Nat.le_of_ble_eq_true rfl)
  rw [lg_entry_eq]
  generalize (lg_sl ([.int p0]) ++ List.replicate (1 - (lg_sl ([.int p0])).length) Slot.unset).toArray = ls at hl ⊢
  have hl : lv_has ls 1 [(0, .int p0)] := hl
  refine lv_iload_n hx hb dX4_behind_0 rfl (lv_at hl 0 rfl) ?_
  refine lv_bipush (v := 27) hx hb dX4_behind_1 (by decide) ?_
  refine lv_icmp_ge (tgt := 26) hx hb dX4_behind_3 (by decide) (fun c1 => ?_) (fun c1 => ?_)
  · skip
    refine lv_iload_n hx hb dX4_behind_26 rfl (lv_at hl 0 rfl) ?_
    refine lv_bipush (v := 30) hx hb dX4_behind_27 (by decide) ?_
    refine lv_icmp_ne (tgt := 35) hx hb dX4_behind_29 (by decide) (fun c2 => ?_) (fun c2 => ?_)
    · skip
      refine lv_iload_n hx hb dX4_behind_35 rfl (lv_at hl 0 rfl) ?_
      refine lv_bipush (v := 33) hx hb dX4_behind_36 (by decide) ?_
      have J49_4 : ∀ (g3 : Int32) (ls : Array Slot), lv_has ls 1 [(0, .int p0)] → W p l e (headSpec v_w_behind ({ frames := 0, cells := 0, slots := 0, locals := 0 })).room s m [.int p0].toArray below meth c s.heap [] 0 0 (MQ below (vp_Si (fun _ => True)) [.int p0].toArray s 0 0 (fun _ => False)) (F0 m 49 ls [.int g3]) := by
        intro g3 ls hl
        exact W.iret (v := g3) hx hb hr (fun t ht hW => ⟨g3, rfl, trivial, ht⟩) (fun _ h => by cases h) dX4_behind_49
      refine lv_icmp_ne (tgt := 46) hx hb dX4_behind_38 (by decide) (fun c5 => ?_) (fun c5 => ?_)
      · skip
        refine lv_iload_n hx hb dX4_behind_46 rfl (lv_at hl 0 rfl) ?_
        refine lv_iconst (v := 1) hx hb dX4_behind_47 (by decide) ?_
        refine lv_iadd hx hb dX4_behind_48 ?_
        refine lv_topi (fun v6 ev6 => ?_)
        exact J49_4 v6 ls (lv_sub hl [0] rfl)
      · skip
        refine lv_bipush (v := 31) hx hb dX4_behind_41 (by decide) ?_
        refine lv_goto (tgt := 49) hx hb dX4_behind_43 (by decide) ?_
        exact J49_4 31 ls (lv_sub hl [0] rfl)
    · skip
      refine lv_bipush (v := 27) hx hb dX4_behind_32 (by decide) ?_
      exact W.iret (v := 27) hx hb hr (fun t ht hW => ⟨27, rfl, trivial, ht⟩) (fun _ h => by cases h) dX4_behind_34
  · skip
    refine lv_iload_n hx hb dX4_behind_6 rfl (lv_at hl 0 rfl) ?_
    refine lv_bipush (v := 9) hx hb dX4_behind_7 (by decide) ?_
    refine lv_irem hx hb dX4_behind_9 (by decide) ?_
    refine lv_topi (fun v7 ev7 => ?_)
    refine lv_bipush (v := 8) hx hb dX4_behind_10 (by decide) ?_
    have J25_8 : ∀  (ls : Array Slot), lv_has ls 1 [(0, .int p0)] → W p l e (headSpec v_w_behind ({ frames := 0, cells := 0, slots := 0, locals := 0 })).room s m [.int p0].toArray below meth c s.heap [] 0 0 (MQ below (vp_Si (fun _ => True)) [.int p0].toArray s 0 0 (fun _ => False)) (F0 m 25 ls [.int v5008]) := by
      intro  ls hl
      exact W.iret (v := v5008) hx hb hr (fun t ht hW => ⟨v5008, rfl, trivial, ht⟩) (fun _ h => by cases h) dX4_behind_25
    refine lv_icmp_ne (tgt := 22) hx hb dX4_behind_12 (by decide) (fun c9 => ?_) (fun c9 => ?_)
    · skip
      refine lv_iload_n hx hb dX4_behind_22 rfl (lv_at hl 0 rfl) ?_
      refine lv_iconst (v := 1) hx hb dX4_behind_23 (by decide) ?_
      refine lv_iadd hx hb dX4_behind_24 ?_
      refine lv_topi (fun v10 ev10 => ?_)
      exact J25_8  ls (lv_sub hl [0] rfl)
    · skip
      refine lv_iload_n hx hb dX4_behind_15 rfl (lv_at hl 0 rfl) ?_
      refine lv_bipush (v := 8) hx hb dX4_behind_16 (by decide) ?_
      refine lv_isub hx hb dX4_behind_18 ?_
      refine lv_topi (fun v11 ev11 => ?_)
      refine lv_goto (tgt := 25) hx hb dX4_behind_19 (by decide) ?_
      exact J25_8  ls (lv_sub hl [0] rfl)
def v_n_part : List Cond := .code yX5_part cX5_part 2 (some .int) :: ([.fieldLink RX5 9 "TileHouse$Win" "seat" "I", .fieldLink RX5 15 "TileHouse$Win" "payer" "I", .fieldLink RX5 18 "TileHouse$Win" "base" "I", .fieldLink RX5 21 "TileHouse$Win" "han" "I", .fieldLink RX5 24 "TileHouse$Win" "fu" "I", .fieldLink RX5 27 "TileHouse$Win" "got" "I", .fieldLink RX5 30 "TileHouse$Win" "kind" "I"] ++ (wsX50 ++ ([])))
theorem vg_n_part : ∀ w ∈ v_n_part, goodWord w = true := vg_c (c := .code yX5_part cX5_part 2 (some .int)) (l := [.fieldLink RX5 9 "TileHouse$Win" "seat" "I", .fieldLink RX5 15 "TileHouse$Win" "payer" "I", .fieldLink RX5 18 "TileHouse$Win" "base" "I", .fieldLink RX5 21 "TileHouse$Win" "han" "I", .fieldLink RX5 24 "TileHouse$Win" "fu" "I", .fieldLink RX5 27 "TileHouse$Win" "got" "I", .fieldLink RX5 30 "TileHouse$Win" "kind" "I"]) (by decide +kernel) (vg_a vgX5 (vg_nil))
theorem i_n_part_X5 : ∀ w ∈ u_ws RX5 TX5 8, w ∈ v_n_part := fun _ h => List.mem_cons_of_mem _ (List.mem_append_right _ (List.mem_append_left _ h))
set_option maxHeartbeats 4000000 in
set_option maxRecDepth 100000 in
theorem n_part (l : Launch) (G : va_G) (k : Nat → ClassId) (h0 : Nat) (a0 : Int32) (a1 : Int32) (a2 : Int32) (a3 : Int32) (a4 : Int32) (a5 : Int32) (a6 : Int32) (a7 : Int64) (p0 : Int32) : Met l yX5_part v_n_part ({ frames := 0, cells := 0, slots := 0, locals := 0 }) (va_Pc [.ref h0, .int p0] (pr G k [(h0, .inr (4, [.int a0, .int a1, .int a2, .int a3, .int a4, .int a5, .int a6, .long a7]))])) (vp_Si (fun _ => True)) 0 0 (fun _ => False) := by
  refine Met.ofW (cc := cX5_part) (maxL := 2) (ret := (some .int)) (by decide) rfl ?_
  intro p e s m args below meth c s₁ B hml hv
  obtain ⟨rfl, hP, hK, hN⟩ := hv
  have hx := B.exec
  have hb := B.bytes
  have hr := B.returns
  have hts := atoms_spec (ws := v_n_part) B.pre
  have hown : s.vm.findClass RX5 = some m.cls := findClass_of_methodNamed B.named
  have hlocks := B.notSynchronized
  have hl := lv_entry ([.ref h0, .int p0]) (n := 2) (Nat.le_of_ble_eq_true rfl)
  rw [lg_entry_eq]
  generalize (lg_sl ([.ref h0, .int p0]) ++ List.replicate (2 - (lg_sl ([.ref h0, .int p0])).length) Slot.unset).toArray = ls at hl ⊢
  have hl : lv_has ls 2 [(0, .ref h0), (1, .int p0)] := hl
  refine lv_iload_n hx hb dX5_part_0 rfl (lv_at hl 1 rfl) ?_
  rcases tsw6 p0 with hO | rfl | rfl | rfl | rfl | rfl | rfl | rfl
  · skip
    refine lv_tableOut (tgt := 79) hx hb dX5_part_1 hO (by decide) ?_
    refine lv_iconst (v := (-1)) hx hb dX5_part_79 (by decide) ?_
    exact W.iret (v := (-1)) hx hb hr (fun t ht hW => ⟨(-1), rfl, trivial, ht⟩) (fun _ h => by cases h) dX5_part_80
  · skip
    refine lv_tableIn (tgt := 44) hx hb dX5_part_1 (by decide) (by decide) rfl (by decide) ?_
    refine lv_aload_n hx hb dX5_part_44 rfl (lv_at hl 0 rfl) ?_
    refine va_get (D := G) (ci := 4) (v := .int a0) (C := RX5) (T := TX5) (N := 8) hx hb hts i_n_part_X5 hown hK hP 0 rfl rfl 0 (by decide) (hts (.fieldLink RX5 9 "TileHouse$Win" "seat" "I") (by decide +kernel)) (fun _ h9 => h9) rfl dX5_part_45 ?_
    exact W.iret (v := a0) hx hb hr (fun t ht hW => ⟨a0, rfl, trivial, ht⟩) (fun _ h => by cases h) dX5_part_48
  · skip
    refine lv_tableIn (tgt := 49) hx hb dX5_part_1 (by decide) (by decide) rfl (by decide) ?_
    refine lv_aload_n hx hb dX5_part_49 rfl (lv_at hl 0 rfl) ?_
    refine va_get (D := G) (ci := 4) (v := .int a1) (C := RX5) (T := TX5) (N := 8) hx hb hts i_n_part_X5 hown hK hP 0 rfl rfl 1 (by decide) (hts (.fieldLink RX5 15 "TileHouse$Win" "payer" "I") (by decide +kernel)) (fun _ h9 => h9) rfl dX5_part_50 ?_
    exact W.iret (v := a1) hx hb hr (fun t ht hW => ⟨a1, rfl, trivial, ht⟩) (fun _ h => by cases h) dX5_part_53
  · skip
    refine lv_tableIn (tgt := 54) hx hb dX5_part_1 (by decide) (by decide) rfl (by decide) ?_
    refine lv_aload_n hx hb dX5_part_54 rfl (lv_at hl 0 rfl) ?_
    refine va_get (D := G) (ci := 4) (v := .int a2) (C := RX5) (T := TX5) (N := 8) hx hb hts i_n_part_X5 hown hK hP 0 rfl rfl 2 (by decide) (hts (.fieldLink RX5 18 "TileHouse$Win" "base" "I") (by decide +kernel)) (fun _ h9 => h9) rfl dX5_part_55 ?_
    exact W.iret (v := a2) hx hb hr (fun t ht hW => ⟨a2, rfl, trivial, ht⟩) (fun _ h => by cases h) dX5_part_58
  · skip
    refine lv_tableIn (tgt := 59) hx hb dX5_part_1 (by decide) (by decide) rfl (by decide) ?_
    refine lv_aload_n hx hb dX5_part_59 rfl (lv_at hl 0 rfl) ?_
    refine va_get (D := G) (ci := 4) (v := .int a3) (C := RX5) (T := TX5) (N := 8) hx hb hts i_n_part_X5 hown hK hP 0 rfl rfl 3 (by decide) (hts (.fieldLink RX5 21 "TileHouse$Win" "han" "I") (by decide +kernel)) (fun _ h9 => h9) rfl dX5_part_60 ?_
    exact W.iret (v := a3) hx hb hr (fun t ht hW => ⟨a3, rfl, trivial, ht⟩) (fun _ h => by cases h) dX5_part_63
  · skip
    refine lv_tableIn (tgt := 64) hx hb dX5_part_1 (by decide) (by decide) rfl (by decide) ?_
    refine lv_aload_n hx hb dX5_part_64 rfl (lv_at hl 0 rfl) ?_
    refine va_get (D := G) (ci := 4) (v := .int a4) (C := RX5) (T := TX5) (N := 8) hx hb hts i_n_part_X5 hown hK hP 0 rfl rfl 4 (by decide) (hts (.fieldLink RX5 24 "TileHouse$Win" "fu" "I") (by decide +kernel)) (fun _ h9 => h9) rfl dX5_part_65 ?_
    exact W.iret (v := a4) hx hb hr (fun t ht hW => ⟨a4, rfl, trivial, ht⟩) (fun _ h => by cases h) dX5_part_68
  · skip
    refine lv_tableIn (tgt := 69) hx hb dX5_part_1 (by decide) (by decide) rfl (by decide) ?_
    refine lv_aload_n hx hb dX5_part_69 rfl (lv_at hl 0 rfl) ?_
    refine va_get (D := G) (ci := 4) (v := .int a5) (C := RX5) (T := TX5) (N := 8) hx hb hts i_n_part_X5 hown hK hP 0 rfl rfl 5 (by decide) (hts (.fieldLink RX5 27 "TileHouse$Win" "got" "I") (by decide +kernel)) (fun _ h9 => h9) rfl dX5_part_70 ?_
    exact W.iret (v := a5) hx hb hr (fun t ht hW => ⟨a5, rfl, trivial, ht⟩) (fun _ h => by cases h) dX5_part_73
  · skip
    refine lv_tableIn (tgt := 74) hx hb dX5_part_1 (by decide) (by decide) rfl (by decide) ?_
    refine lv_aload_n hx hb dX5_part_74 rfl (lv_at hl 0 rfl) ?_
    refine va_get (D := G) (ci := 4) (v := .int a6) (C := RX5) (T := TX5) (N := 8) hx hb hts i_n_part_X5 hown hK hP 0 rfl rfl 6 (by decide) (hts (.fieldLink RX5 30 "TileHouse$Win" "kind" "I") (by decide +kernel)) (fun _ h9 => h9) rfl dX5_part_75 ?_
    exact W.iret (v := a6) hx hb hr (fun t ht hW => ⟨a6, rfl, trivial, ht⟩) (fun _ h => by cases h) dX5_part_78
def v_f_baseOf : List Cond := .code yX0_baseOf cX0_baseOf 3 (some .int) :: ([] ++ ([]))
theorem vg_f_baseOf : ∀ w ∈ v_f_baseOf, goodWord w = true := vg_c (c := .code yX0_baseOf cX0_baseOf 3 (some .int)) (l := []) (by decide +kernel) (vg_nil)
set_option maxHeartbeats 4000000 in
set_option maxRecDepth 100000 in
theorem f_baseOf (l : Launch) (G : va_G) (k : Nat → ClassId) (p0 : Int32) (p1 : Int32) : Met l yX0_baseOf v_f_baseOf ({ frames := 0, cells := 0, slots := 0, locals := 0 }) (va_Pc [.int p0, .int p1] (pr G k [])) (vp_Si (fun _ => True)) 0 0 (fun _ => False) := by
  refine Met.ofW (cc := cX0_baseOf) (maxL := 3) (ret := (some .int)) (by decide) rfl ?_
  intro p e s m args below meth c s₁ B hml hv
  obtain ⟨rfl, hP, hK, hN⟩ := hv
  have hx := B.exec
  have hb := B.bytes
  have hr := B.returns
  have hts := atoms_spec (ws := v_f_baseOf) B.pre
  have hown : s.vm.findClass RX0 = some m.cls := findClass_of_methodNamed B.named
  have hlocks := B.notSynchronized
  have hl := lv_entry ([.int p0, .int p1]) (n := 3) (Nat.le_of_ble_eq_true rfl)
  rw [lg_entry_eq]
  generalize (lg_sl ([.int p0, .int p1]) ++ List.replicate (3 - (lg_sl ([.int p0, .int p1])).length) Slot.unset).toArray = ls at hl ⊢
  have hl : lv_has ls 3 [(0, .int p0), (1, .int p1)] := hl
  refine lv_iload_n hx hb dX0_baseOf_0 rfl (lv_at hl 1 rfl) ?_
  refine lv_iconst (v := 4) hx hb dX0_baseOf_1 (by decide) ?_
  refine lv_icmp_gt (tgt := 26) hx hb dX0_baseOf_2 (by decide) (fun c1 => ?_) (fun c1 => ?_)
  · skip
    refine lv_iload_n hx hb dX0_baseOf_26 rfl (lv_at hl 1 rfl) ?_
    refine lv_iconst (v := 5) hx hb dX0_baseOf_27 (by decide) ?_
    refine lv_icmp_ne (tgt := 35) hx hb dX0_baseOf_28 (by decide) (fun c2 => ?_) (fun c2 => ?_)
    · skip
      refine lv_iload_n hx hb dX0_baseOf_35 rfl (lv_at hl 1 rfl) ?_
      refine lv_bipush (v := 7) hx hb dX0_baseOf_36 (by decide) ?_
      refine lv_icmp_gt (tgt := 45) hx hb dX0_baseOf_38 (by decide) (fun c3 => ?_) (fun c3 => ?_)
      · skip
        refine lv_iload_n hx hb dX0_baseOf_45 rfl (lv_at hl 1 rfl) ?_
        refine lv_bipush (v := 10) hx hb dX0_baseOf_46 (by decide) ?_
        refine lv_icmp_gt (tgt := 55) hx hb dX0_baseOf_48 (by decide) (fun c4 => ?_) (fun c4 => ?_)
        · skip
          refine lv_iload_n hx hb dX0_baseOf_55 rfl (lv_at hl 1 rfl) ?_
          refine lv_bipush (v := 12) hx hb dX0_baseOf_56 (by decide) ?_
          have J70_6 : ∀ (g5 : Int32) (hg5 : g5 = 6000 ∨ g5 = 8000) (ls : Array Slot), lv_has ls 3 [(0, .int p0), (1, .int p1)] → W p l e (headSpec v_f_baseOf ({ frames := 0, cells := 0, slots := 0, locals := 0 })).room s m [.int p0, .int p1].toArray below meth c s.heap [] 0 0 (MQ below (vp_Si (fun _ => True)) [.int p0, .int p1].toArray s 0 0 (fun _ => False)) (F0 m 70 ls [.int g5]) := by
            intro g5 hg5 ls hl
            exact W.iret (v := g5) hx hb hr (fun t ht hW => ⟨g5, rfl, trivial, ht⟩) (fun _ h => by cases h) dX0_baseOf_70
          refine lv_icmp_gt (tgt := 67) hx hb dX0_baseOf_58 (by decide) (fun c7 => ?_) (fun c7 => ?_)
          · skip
            refine lv_sipush (v := 8000) hx hb dX0_baseOf_67 (by decide) ?_
            exact J70_6 8000 (Or.inr (rfl)) ls (lv_sub hl [0, 1] rfl)
          · skip
            refine lv_sipush (v := 6000) hx hb dX0_baseOf_61 (by decide) ?_
            refine lv_goto (tgt := 70) hx hb dX0_baseOf_64 (by decide) ?_
            exact J70_6 6000 (Or.inl rfl) ls (lv_sub hl [0, 1] rfl)
        · skip
          refine lv_sipush (v := 4000) hx hb dX0_baseOf_51 (by decide) ?_
          exact W.iret (v := 4000) hx hb hr (fun t ht hW => ⟨4000, rfl, trivial, ht⟩) (fun _ h => by cases h) dX0_baseOf_54
      · skip
        refine lv_sipush (v := 3000) hx hb dX0_baseOf_41 (by decide) ?_
        exact W.iret (v := 3000) hx hb hr (fun t ht hW => ⟨3000, rfl, trivial, ht⟩) (fun _ h => by cases h) dX0_baseOf_44
    · skip
      refine lv_sipush (v := 2000) hx hb dX0_baseOf_31 (by decide) ?_
      exact W.iret (v := 2000) hx hb hr (fun t ht hW => ⟨2000, rfl, trivial, ht⟩) (fun _ h => by cases h) dX0_baseOf_34
  · skip
    refine lv_iload_n hx hb dX0_baseOf_5 rfl (lv_at hl 0 rfl) ?_
    refine lv_iconst (v := 2) hx hb dX0_baseOf_6 (by decide) ?_
    refine lv_iload_n hx hb dX0_baseOf_7 rfl (lv_at hl 1 rfl) ?_
    refine lv_iadd hx hb dX0_baseOf_8 ?_
    refine lv_topi (fun v8 ev8 => ?_)
    refine lv_ishl hx hb dX0_baseOf_9 rfl ?_
    refine lv_topi (fun v9 ev9 => ?_)
    refine lv_istore_n (lv' := [(2, .int v9), (0, .int p0), (1, .int p1)]) hx hb dX0_baseOf_10 rfl hl (by decide) rfl (fun ls hl => ?_)
    refine lv_iload_n hx hb dX0_baseOf_11 rfl (lv_at hl 0 rfl) ?_
    refine lv_sipush (v := 2000) hx hb dX0_baseOf_12 (by decide) ?_
    have J25_11 : ∀ (g10 : Int32) (ls : Array Slot), lv_has ls 3 [(2, .int v9), (0, .int p0), (1, .int p1)] → W p l e (headSpec v_f_baseOf ({ frames := 0, cells := 0, slots := 0, locals := 0 })).room s m [.int p0, .int p1].toArray below meth c s.heap [] 0 0 (MQ below (vp_Si (fun _ => True)) [.int p0, .int p1].toArray s 0 0 (fun _ => False)) (F0 m 25 ls [.int g10]) := by
      intro g10 ls hl
      exact W.iret (v := g10) hx hb hr (fun t ht hW => ⟨g10, rfl, trivial, ht⟩) (fun _ h => by cases h) dX0_baseOf_25
    refine lv_icmp_ge (tgt := 22) hx hb dX0_baseOf_15 (by decide) (fun c12 => ?_) (fun c12 => ?_)
    · skip
      refine lv_sipush (v := 2000) hx hb dX0_baseOf_22 (by decide) ?_
      exact J25_11 2000 ls (lv_sub hl [0, 1, 2] rfl)
    · skip
      refine lv_iload_n hx hb dX0_baseOf_18 rfl (lv_at hl 0 rfl) ?_
      refine lv_goto (tgt := 25) hx hb dX0_baseOf_19 (by decide) ?_
      exact J25_11 v9 ls (lv_sub hl [0, 1, 2] rfl)
def v_j_bit : List Cond := .code yX1_bit cX1_bit 2 (some .long) :: ([] ++ ([]))
theorem vg_j_bit : ∀ w ∈ v_j_bit, goodWord w = true := vg_c (c := .code yX1_bit cX1_bit 2 (some .long)) (l := []) (by decide +kernel) (vg_nil)
set_option maxHeartbeats 4000000 in
set_option maxRecDepth 100000 in
theorem j_bit (l : Launch) (G : va_G) (k : Nat → ClassId) (p0 : Int32) (p1 : Int32) : Met l yX1_bit v_j_bit ({ frames := 0, cells := 0, slots := 0, locals := 0 }) (va_Pc [.int p0, .int p1] (pr G k [])) (vp_Sl (fun _ => True)) 0 0 (fun _ => False) := by
  refine Met.ofW (cc := cX1_bit) (maxL := 2) (ret := (some .long)) (by decide) rfl ?_
  intro p e s m args below meth c s₁ B hml hv
  obtain ⟨rfl, hP, hK, hN⟩ := hv
  have hx := B.exec
  have hb := B.bytes
  have hr := B.returns
  have hts := atoms_spec (ws := v_j_bit) B.pre
  have hown : s.vm.findClass RX1 = some m.cls := findClass_of_methodNamed B.named
  have hlocks := B.notSynchronized
  have hl := lv_entry ([.int p0, .int p1]) (n := 2) (Nat.le_of_ble_eq_true rfl)
  rw [lg_entry_eq]
  generalize (lg_sl ([.int p0, .int p1]) ++ List.replicate (2 - (lg_sl ([.int p0, .int p1])).length) Slot.unset).toArray = ls at hl ⊢
  have hl : lv_has ls 2 [(0, .int p0), (1, .int p1)] := hl
  refine lv_iload_n hx hb dX1_bit_0 rfl (lv_at hl 0 rfl) ?_
  have J11_2 : ∀ (g1 : Int64) (ls : Array Slot), lv_has ls 2 [(0, .int p0), (1, .int p1)] → W p l e (headSpec v_j_bit ({ frames := 0, cells := 0, slots := 0, locals := 0 })).room s m [.int p0, .int p1].toArray below meth c s.heap [] 0 0 (MQ below (vp_Sl (fun _ => True)) [.int p0, .int p1].toArray s 0 0 (fun _ => False)) (F0 m 11 ls [.long g1]) := by
    intro g1 ls hl
    exact W.lret (v := g1) hx hb hr (fun t ht hW => ⟨g1, rfl, trivial, ht⟩) (fun _ h => by cases h) dX1_bit_11
  refine lv_if_eq (tgt := 10) hx hb dX1_bit_1 (by decide) (fun c3 => ?_) (fun c3 => ?_)
  · skip
    refine lv_lconst (v := 0) hx hb dX1_bit_10 (by decide) ?_
    exact J11_2 0 ls (lv_sub hl [0, 1] rfl)
  · skip
    refine lv_lconst (v := 1) hx hb dX1_bit_4 (by decide) ?_
    refine lv_iload_n hx hb dX1_bit_5 rfl (lv_at hl 1 rfl) ?_
    refine lv_lshl hx hb dX1_bit_6 rfl ?_
    refine lv_topl (fun v4 ev4 => ?_)
    refine lv_goto (tgt := 11) hx hb dX1_bit_7 (by decide) ?_
    exact J11_2 v4 ls (lv_sub hl [0, 1] rfl)
def v_j_pairFu : List Cond := .code yX1_pairFu cX1_pairFu 1 (some .int) :: ([.fieldLink RX1 105 "TileHouse$Judge" "pair" "I", .fieldLink RX1 66 "TileHouse$Judge" "seatWind" "I", .fieldLink RX1 69 "TileHouse$Judge" "roundWind" "I"] ++ (wsX10 ++ ([])))
theorem vg_j_pairFu : ∀ w ∈ v_j_pairFu, goodWord w = true := vg_c (c := .code yX1_pairFu cX1_pairFu 1 (some .int)) (l := [.fieldLink RX1 105 "TileHouse$Judge" "pair" "I", .fieldLink RX1 66 "TileHouse$Judge" "seatWind" "I", .fieldLink RX1 69 "TileHouse$Judge" "roundWind" "I"]) (by decide +kernel) (vg_a vgX1 (vg_nil))
theorem i_j_pairFu_X1 : ∀ w ∈ u_ws RX1 TX1 19, w ∈ v_j_pairFu := fun _ h => List.mem_cons_of_mem _ (List.mem_append_right _ (List.mem_append_left _ h))
set_option maxHeartbeats 4000000 in
set_option maxRecDepth 100000 in
theorem j_pairFu (l : Launch) (G : va_G) (k : Nat → ClassId) (h0 : Nat) (b0 : Int32) (b1 : Int32) (b2 : Int32) (b3 : Int64) (b4 : Int32) (b5 : Value) (b6 : Int32) (b7 : Int32) (b8 : Int32) (b9 : Int32) (b10 : Int32) (b11 : Int32) (b12 : Int64) (b13 : Value) (b14 : Value) (b15 : Int32) (b16 : Int64) (b17 : Int64) (b18 : Value) : Met l yX1_pairFu v_j_pairFu ({ frames := 0, cells := 0, slots := 0, locals := 0 }) (va_Pc [.ref h0] (pr G k [(h0, .inr (0, [.int b0, .int b1, .int b2, .long b3, .int b4, b5, .int b6, .int b7, .int b8, .int b9, .int b10, .int b11, .long b12, b13, b14, .int b15, .long b16, .long b17, b18]))])) (vp_Si (fun _ => True)) 0 0 (fun _ => False) := by
  refine Met.ofW (cc := cX1_pairFu) (maxL := 1) (ret := (some .int)) (by decide) rfl ?_
  intro p e s m args below meth c s₁ B hml hv
  obtain ⟨rfl, hP, hK, hN⟩ := hv
  have hx := B.exec
  have hb := B.bytes
  have hr := B.returns
  have hts := atoms_spec (ws := v_j_pairFu) B.pre
  have hown : s.vm.findClass RX1 = some m.cls := findClass_of_methodNamed B.named
  have hlocks := B.notSynchronized
  have hl := lv_entry ([.ref h0]) (n := 1) (Nat.le_of_ble_eq_true rfl)
  rw [lg_entry_eq]
  generalize (lg_sl ([.ref h0]) ++ List.replicate (1 - (lg_sl ([.ref h0])).length) Slot.unset).toArray = ls at hl ⊢
  have hl : lv_has ls 1 [(0, .ref h0)] := hl
  refine lv_aload_n hx hb dX1_pairFu_0 rfl (lv_at hl 0 rfl) ?_
  refine va_get (D := G) (ci := 0) (v := .int b15) (C := RX1) (T := TX1) (N := 19) hx hb hts i_j_pairFu_X1 hown hK hP 0 rfl rfl 15 (by decide) (hts (.fieldLink RX1 105 "TileHouse$Judge" "pair" "I") (by decide +kernel)) (fun _ h9 => h9) rfl dX1_pairFu_1 ?_
  refine lv_bipush (v := 31) hx hb dX1_pairFu_4 (by decide) ?_
  have J14_2 : ∀ (g1 : Int32) (hg1 : g1 = 0 ∨ g1 = 2) (ls : Array Slot), lv_has ls 1 [(0, .ref h0)] → W p l e (headSpec v_j_pairFu ({ frames := 0, cells := 0, slots := 0, locals := 0 })).room s m [.ref h0].toArray below meth c s.heap [] 0 0 (MQ below (vp_Si (fun _ => True)) [.ref h0].toArray s 0 0 (fun _ => False)) (F0 m 14 ls [.int g1]) := by
    intro g1 hg1 ls hl
    refine lv_aload_n hx hb dX1_pairFu_14 rfl (lv_at hl 0 rfl) ?_
    refine va_get (D := G) (ci := 0) (v := .int b15) (C := RX1) (T := TX1) (N := 19) hx hb hts i_j_pairFu_X1 hown hK hP 0 rfl rfl 15 (by decide) (hts (.fieldLink RX1 105 "TileHouse$Judge" "pair" "I") (by decide +kernel)) (fun _ h9 => h9) rfl dX1_pairFu_15 ?_
    refine lv_aload_n hx hb dX1_pairFu_18 rfl (lv_at hl 0 rfl) ?_
    refine va_get (D := G) (ci := 0) (v := .int b9) (C := RX1) (T := TX1) (N := 19) hx hb hts i_j_pairFu_X1 hown hK hP 0 rfl rfl 9 (by decide) (hts (.fieldLink RX1 66 "TileHouse$Judge" "seatWind" "I") (by decide +kernel)) (fun _ h9 => h9) rfl dX1_pairFu_19 ?_
    have J30_4 : ∀ (g3 : Int32) (hg3 : g3 = 0 ∨ g3 = 2) (ls : Array Slot), lv_has ls 1 [(0, .ref h0)] → W p l e (headSpec v_j_pairFu ({ frames := 0, cells := 0, slots := 0, locals := 0 })).room s m [.ref h0].toArray below meth c s.heap [] 0 0 (MQ below (vp_Si (fun _ => True)) [.ref h0].toArray s 0 0 (fun _ => False)) (F0 m 30 ls [.int g3, .int g1]) := by
      intro g3 hg3 ls hl
      refine lv_iadd hx hb dX1_pairFu_30 ?_
      refine lv_topi (fun v5 ev5 => ?_)
      refine lv_aload_n hx hb dX1_pairFu_31 rfl (lv_at hl 0 rfl) ?_
      refine va_get (D := G) (ci := 0) (v := .int b15) (C := RX1) (T := TX1) (N := 19) hx hb hts i_j_pairFu_X1 hown hK hP 0 rfl rfl 15 (by decide) (hts (.fieldLink RX1 105 "TileHouse$Judge" "pair" "I") (by decide +kernel)) (fun _ h9 => h9) rfl dX1_pairFu_32 ?_
      refine lv_aload_n hx hb dX1_pairFu_35 rfl (lv_at hl 0 rfl) ?_
      refine va_get (D := G) (ci := 0) (v := .int b10) (C := RX1) (T := TX1) (N := 19) hx hb hts i_j_pairFu_X1 hown hK hP 0 rfl rfl 10 (by decide) (hts (.fieldLink RX1 69 "TileHouse$Judge" "roundWind" "I") (by decide +kernel)) (fun _ h9 => h9) rfl dX1_pairFu_36 ?_
      have J47_7 : ∀ (g6 : Int32) (hg6 : g6 = 0 ∨ g6 = 2) (ls : Array Slot), lv_has ls 1 [(0, .ref h0)] → W p l e (headSpec v_j_pairFu ({ frames := 0, cells := 0, slots := 0, locals := 0 })).room s m [.ref h0].toArray below meth c s.heap [] 0 0 (MQ below (vp_Si (fun _ => True)) [.ref h0].toArray s 0 0 (fun _ => False)) (F0 m 47 ls [.int g6, .int v5]) := by
        intro g6 hg6 ls hl
        refine lv_iadd hx hb dX1_pairFu_47 ?_
        refine lv_topi (fun v8 ev8 => ?_)
        exact W.iret (v := v8) hx hb hr (fun t ht hW => ⟨v8, rfl, trivial, ht⟩) (fun _ h => by cases h) dX1_pairFu_48
      refine lv_icmp_ne (tgt := 46) hx hb dX1_pairFu_39 (by decide) (fun c9 => ?_) (fun c9 => ?_)
      · skip
        refine lv_iconst (v := 0) hx hb dX1_pairFu_46 (by decide) ?_
        exact J47_7 0 (Or.inl rfl) ls (lv_sub hl [0] rfl)
      · skip
        refine lv_iconst (v := 2) hx hb dX1_pairFu_42 (by decide) ?_
        refine lv_goto (tgt := 47) hx hb dX1_pairFu_43 (by decide) ?_
        exact J47_7 2 (Or.inr (rfl)) ls (lv_sub hl [0] rfl)
    refine lv_icmp_ne (tgt := 29) hx hb dX1_pairFu_22 (by decide) (fun c10 => ?_) (fun c10 => ?_)
    · skip
      refine lv_iconst (v := 0) hx hb dX1_pairFu_29 (by decide) ?_
      exact J30_4 0 (Or.inl rfl) ls (lv_sub hl [0] rfl)
    · skip
      refine lv_iconst (v := 2) hx hb dX1_pairFu_25 (by decide) ?_
      refine lv_goto (tgt := 30) hx hb dX1_pairFu_26 (by decide) ?_
      exact J30_4 2 (Or.inr (rfl)) ls (lv_sub hl [0] rfl)
  refine lv_icmp_lt (tgt := 13) hx hb dX1_pairFu_6 (by decide) (fun c11 => ?_) (fun c11 => ?_)
  · skip
    refine lv_iconst (v := 0) hx hb dX1_pairFu_13 (by decide) ?_
    exact J14_2 0 (Or.inl rfl) ls (lv_sub hl [0] rfl)
  · skip
    refine lv_iconst (v := 2) hx hb dX1_pairFu_9 (by decide) ?_
    refine lv_goto (tgt := 14) hx hb dX1_pairFu_10 (by decide) ?_
    exact J14_2 2 (Or.inr (rfl)) ls (lv_sub hl [0] rfl)
def v_j_isBetter : List Cond := .code yX1_isBetter cX1_isBetter 6 (some .boolean) :: ([.fieldLink RX1 21 "TileHouse$Judge" "base" "I", .fieldLink RX1 25 "TileHouse$Judge" "han" "I", .fieldLink RX1 28 "TileHouse$Judge" "fu" "I", .fieldLink RX1 31 "TileHouse$Judge" "best" "J"] ++ (wsX10 ++ ([])))
theorem vg_j_isBetter : ∀ w ∈ v_j_isBetter, goodWord w = true := vg_c (c := .code yX1_isBetter cX1_isBetter 6 (some .boolean)) (l := [.fieldLink RX1 21 "TileHouse$Judge" "base" "I", .fieldLink RX1 25 "TileHouse$Judge" "han" "I", .fieldLink RX1 28 "TileHouse$Judge" "fu" "I", .fieldLink RX1 31 "TileHouse$Judge" "best" "J"]) (by decide +kernel) (vg_a vgX1 (vg_nil))
theorem i_j_isBetter_X1 : ∀ w ∈ u_ws RX1 TX1 19, w ∈ v_j_isBetter := fun _ h => List.mem_cons_of_mem _ (List.mem_append_right _ (List.mem_append_left _ h))
set_option maxHeartbeats 4000000 in
set_option maxRecDepth 100000 in
theorem j_isBetter (l : Launch) (G : va_G) (k : Nat → ClassId) (h0 : Nat) (b0 : Int32) (b1 : Int32) (b2 : Int32) (b3 : Int64) (b4 : Int32) (b5 : Value) (b6 : Int32) (b7 : Int32) (b8 : Int32) (b9 : Int32) (b10 : Int32) (b11 : Int32) (b12 : Int64) (b13 : Value) (b14 : Value) (b15 : Int32) (b16 : Int64) (b17 : Int64) (b18 : Value) (p0 : Int32) (p1 : Int32) (p2 : Int32) (p3 : Int64) : Met l yX1_isBetter v_j_isBetter ({ frames := 0, cells := 0, slots := 0, locals := 0 }) (va_Pc [.ref h0, .int p0, .int p1, .int p2, .long p3] (pr G k [(h0, .inr (0, [.int b0, .int b1, .int b2, .long b3, .int b4, b5, .int b6, .int b7, .int b8, .int b9, .int b10, .int b11, .long b12, b13, b14, .int b15, .long b16, .long b17, b18]))])) (vp_Si (fun _ => True)) 0 0 (fun _ => False) := by
  refine Met.ofW (cc := cX1_isBetter) (maxL := 6) (ret := (some .boolean)) (by decide) rfl ?_
  intro p e s m args below meth c s₁ B hml hv
  obtain ⟨rfl, hP, hK, hN⟩ := hv
  have hx := B.exec
  have hb := B.bytes
  have hr := B.returns
  have hts := atoms_spec (ws := v_j_isBetter) B.pre
  have hown : s.vm.findClass RX1 = some m.cls := findClass_of_methodNamed B.named
  have hlocks := B.notSynchronized
  have hl := lv_entry ([.ref h0, .int p0, .int p1, .int p2, .long p3]) (n := 6) (Nat.le_of_ble_eq_true rfl)
  rw [lg_entry_eq]
  generalize (lg_sl ([.ref h0, .int p0, .int p1, .int p2, .long p3]) ++ List.replicate (6 - (lg_sl ([.ref h0, .int p0, .int p1, .int p2, .long p3])).length) Slot.unset).toArray = ls at hl ⊢
  have hl : lv_has ls 6 [(0, .ref h0), (1, .int p0), (2, .int p1), (3, .int p2), (4, .long p3)] := hl
  refine lv_iload_n hx hb dX1_isBetter_0 rfl (lv_at hl 1 rfl) ?_
  refine lv_aload_n hx hb dX1_isBetter_1 rfl (lv_at hl 0 rfl) ?_
  refine va_get (D := G) (ci := 0) (v := .int b0) (C := RX1) (T := TX1) (N := 19) hx hb hts i_j_isBetter_X1 hown hK hP 0 rfl rfl 0 (by decide) (hts (.fieldLink RX1 21 "TileHouse$Judge" "base" "I") (by decide +kernel)) (fun _ h9 => h9) rfl dX1_isBetter_2 ?_
  refine lv_icmp_eq (tgt := 22) hx hb dX1_isBetter_5 (by decide) (fun c1 => ?_) (fun c1 => ?_)
  · skip
    refine lv_iload_n hx hb dX1_isBetter_22 rfl (lv_at hl 2 rfl) ?_
    refine lv_aload_n hx hb dX1_isBetter_23 rfl (lv_at hl 0 rfl) ?_
    refine va_get (D := G) (ci := 0) (v := .int b1) (C := RX1) (T := TX1) (N := 19) hx hb hts i_j_isBetter_X1 hown hK hP 0 rfl rfl 1 (by decide) (hts (.fieldLink RX1 25 "TileHouse$Judge" "han" "I") (by decide +kernel)) (fun _ h9 => h9) rfl dX1_isBetter_24 ?_
    refine lv_icmp_eq (tgt := 44) hx hb dX1_isBetter_27 (by decide) (fun c2 => ?_) (fun c2 => ?_)
    · skip
      refine lv_iload_n hx hb dX1_isBetter_44 rfl (lv_at hl 3 rfl) ?_
      refine lv_aload_n hx hb dX1_isBetter_45 rfl (lv_at hl 0 rfl) ?_
      refine va_get (D := G) (ci := 0) (v := .int b2) (C := RX1) (T := TX1) (N := 19) hx hb hts i_j_isBetter_X1 hown hK hP 0 rfl rfl 2 (by decide) (hts (.fieldLink RX1 28 "TileHouse$Judge" "fu" "I") (by decide +kernel)) (fun _ h9 => h9) rfl dX1_isBetter_46 ?_
      refine lv_icmp_eq (tgt := 66) hx hb dX1_isBetter_49 (by decide) (fun c3 => ?_) (fun c3 => ?_)
      · skip
        refine lv_lload hx hb dX1_isBetter_66 (lv_at hl 4 rfl) ?_
        refine lv_aload_n hx hb dX1_isBetter_68 rfl (lv_at hl 0 rfl) ?_
        refine va_get (D := G) (ci := 0) (v := .long b3) (C := RX1) (T := TX1) (N := 19) hx hb hts i_j_isBetter_X1 hown hK hP 0 rfl rfl 3 (by decide) (hts (.fieldLink RX1 31 "TileHouse$Judge" "best" "J") (by decide +kernel)) (fun _ h9 => h9) rfl dX1_isBetter_69 ?_
        refine W.lcmp hx hb dX1_isBetter_72 ?_
        refine lv_topi (fun v4 ev4 => ?_)
        have J81_6 : ∀ (g5 : Int32) (hg5 : g5 = 0 ∨ g5 = 1) (ls : Array Slot), lv_has ls 6 [(0, .ref h0), (1, .int p0), (2, .int p1), (3, .int p2), (4, .long p3)] → W p l e (headSpec v_j_isBetter ({ frames := 0, cells := 0, slots := 0, locals := 0 })).room s m [.ref h0, .int p0, .int p1, .int p2, .long p3].toArray below meth c s.heap [] 0 0 (MQ below (vp_Si (fun _ => True)) [.ref h0, .int p0, .int p1, .int p2, .long p3].toArray s 0 0 (fun _ => False)) (F0 m 81 ls [.int g5]) := by
          intro g5 hg5 ls hl
          exact W.zret (v := g5) hx hb hr (by rcases hg5 with rfl | rfl <;> rfl) (fun t ht hW => ⟨g5, rfl, trivial, ht⟩) (fun _ h => by cases h) dX1_isBetter_81
        refine lv_if_le (tgt := 80) hx hb dX1_isBetter_73 (by decide) (fun c7 => ?_) (fun c7 => ?_)
        · skip
          refine lv_iconst (v := 0) hx hb dX1_isBetter_80 (by decide) ?_
          exact J81_6 0 (Or.inl rfl) ls (lv_sub hl [0, 1, 2, 3, 4] rfl)
        · skip
          refine lv_iconst (v := 1) hx hb dX1_isBetter_76 (by decide) ?_
          refine lv_goto (tgt := 81) hx hb dX1_isBetter_77 (by decide) ?_
          exact J81_6 1 (Or.inr (rfl)) ls (lv_sub hl [0, 1, 2, 3, 4] rfl)
      · skip
        refine lv_iload_n hx hb dX1_isBetter_52 rfl (lv_at hl 3 rfl) ?_
        refine lv_aload_n hx hb dX1_isBetter_53 rfl (lv_at hl 0 rfl) ?_
        refine va_get (D := G) (ci := 0) (v := .int b2) (C := RX1) (T := TX1) (N := 19) hx hb hts i_j_isBetter_X1 hown hK hP 0 rfl rfl 2 (by decide) (hts (.fieldLink RX1 28 "TileHouse$Judge" "fu" "I") (by decide +kernel)) (fun _ h9 => h9) rfl dX1_isBetter_54 ?_
        have J65_9 : ∀ (g8 : Int32) (hg8 : g8 = 0 ∨ g8 = 1) (ls : Array Slot), lv_has ls 6 [(0, .ref h0), (1, .int p0), (2, .int p1), (3, .int p2), (4, .long p3)] → W p l e (headSpec v_j_isBetter ({ frames := 0, cells := 0, slots := 0, locals := 0 })).room s m [.ref h0, .int p0, .int p1, .int p2, .long p3].toArray below meth c s.heap [] 0 0 (MQ below (vp_Si (fun _ => True)) [.ref h0, .int p0, .int p1, .int p2, .long p3].toArray s 0 0 (fun _ => False)) (F0 m 65 ls [.int g8]) := by
          intro g8 hg8 ls hl
          exact W.zret (v := g8) hx hb hr (by rcases hg8 with rfl | rfl <;> rfl) (fun t ht hW => ⟨g8, rfl, trivial, ht⟩) (fun _ h => by cases h) dX1_isBetter_65
        refine lv_icmp_le (tgt := 64) hx hb dX1_isBetter_57 (by decide) (fun c10 => ?_) (fun c10 => ?_)
        · skip
          refine lv_iconst (v := 0) hx hb dX1_isBetter_64 (by decide) ?_
          exact J65_9 0 (Or.inl rfl) ls (lv_sub hl [0, 1, 2, 3, 4] rfl)
        · skip
          refine lv_iconst (v := 1) hx hb dX1_isBetter_60 (by decide) ?_
          refine lv_goto (tgt := 65) hx hb dX1_isBetter_61 (by decide) ?_
          exact J65_9 1 (Or.inr (rfl)) ls (lv_sub hl [0, 1, 2, 3, 4] rfl)
    · skip
      refine lv_iload_n hx hb dX1_isBetter_30 rfl (lv_at hl 2 rfl) ?_
      refine lv_aload_n hx hb dX1_isBetter_31 rfl (lv_at hl 0 rfl) ?_
      refine va_get (D := G) (ci := 0) (v := .int b1) (C := RX1) (T := TX1) (N := 19) hx hb hts i_j_isBetter_X1 hown hK hP 0 rfl rfl 1 (by decide) (hts (.fieldLink RX1 25 "TileHouse$Judge" "han" "I") (by decide +kernel)) (fun _ h9 => h9) rfl dX1_isBetter_32 ?_
      have J43_12 : ∀ (g11 : Int32) (hg11 : g11 = 0 ∨ g11 = 1) (ls : Array Slot), lv_has ls 6 [(0, .ref h0), (1, .int p0), (2, .int p1), (3, .int p2), (4, .long p3)] → W p l e (headSpec v_j_isBetter ({ frames := 0, cells := 0, slots := 0, locals := 0 })).room s m [.ref h0, .int p0, .int p1, .int p2, .long p3].toArray below meth c s.heap [] 0 0 (MQ below (vp_Si (fun _ => True)) [.ref h0, .int p0, .int p1, .int p2, .long p3].toArray s 0 0 (fun _ => False)) (F0 m 43 ls [.int g11]) := by
        intro g11 hg11 ls hl
        exact W.zret (v := g11) hx hb hr (by rcases hg11 with rfl | rfl <;> rfl) (fun t ht hW => ⟨g11, rfl, trivial, ht⟩) (fun _ h => by cases h) dX1_isBetter_43
      refine lv_icmp_le (tgt := 42) hx hb dX1_isBetter_35 (by decide) (fun c13 => ?_) (fun c13 => ?_)
      · skip
        refine lv_iconst (v := 0) hx hb dX1_isBetter_42 (by decide) ?_
        exact J43_12 0 (Or.inl rfl) ls (lv_sub hl [0, 1, 2, 3, 4] rfl)
      · skip
        refine lv_iconst (v := 1) hx hb dX1_isBetter_38 (by decide) ?_
        refine lv_goto (tgt := 43) hx hb dX1_isBetter_39 (by decide) ?_
        exact J43_12 1 (Or.inr (rfl)) ls (lv_sub hl [0, 1, 2, 3, 4] rfl)
  · skip
    refine lv_iload_n hx hb dX1_isBetter_8 rfl (lv_at hl 1 rfl) ?_
    refine lv_aload_n hx hb dX1_isBetter_9 rfl (lv_at hl 0 rfl) ?_
    refine va_get (D := G) (ci := 0) (v := .int b0) (C := RX1) (T := TX1) (N := 19) hx hb hts i_j_isBetter_X1 hown hK hP 0 rfl rfl 0 (by decide) (hts (.fieldLink RX1 21 "TileHouse$Judge" "base" "I") (by decide +kernel)) (fun _ h9 => h9) rfl dX1_isBetter_10 ?_
    have J21_15 : ∀ (g14 : Int32) (hg14 : g14 = 0 ∨ g14 = 1) (ls : Array Slot), lv_has ls 6 [(0, .ref h0), (1, .int p0), (2, .int p1), (3, .int p2), (4, .long p3)] → W p l e (headSpec v_j_isBetter ({ frames := 0, cells := 0, slots := 0, locals := 0 })).room s m [.ref h0, .int p0, .int p1, .int p2, .long p3].toArray below meth c s.heap [] 0 0 (MQ below (vp_Si (fun _ => True)) [.ref h0, .int p0, .int p1, .int p2, .long p3].toArray s 0 0 (fun _ => False)) (F0 m 21 ls [.int g14]) := by
      intro g14 hg14 ls hl
      exact W.zret (v := g14) hx hb hr (by rcases hg14 with rfl | rfl <;> rfl) (fun t ht hW => ⟨g14, rfl, trivial, ht⟩) (fun _ h => by cases h) dX1_isBetter_21
    refine lv_icmp_le (tgt := 20) hx hb dX1_isBetter_13 (by decide) (fun c16 => ?_) (fun c16 => ?_)
    · skip
      refine lv_iconst (v := 0) hx hb dX1_isBetter_20 (by decide) ?_
      exact J21_15 0 (Or.inl rfl) ls (lv_sub hl [0, 1, 2, 3, 4] rfl)
    · skip
      refine lv_iconst (v := 1) hx hb dX1_isBetter_16 (by decide) ?_
      refine lv_goto (tgt := 21) hx hb dX1_isBetter_17 (by decide) ?_
      exact J21_15 1 (Or.inr (rfl)) ls (lv_sub hl [0, 1, 2, 3, 4] rfl)
def v_j_toldOnes : List Cond := .code yX1_toldOnes cX1_toldOnes 5 (some .long) :: ([.constantLong RX1 124 (13194139533559), .constantLong RX1 126 (-2), .fieldLink RX1 55 "TileHouse$Judge" "drawn" "Z", .constantLong RX1 128 (8)] ++ (wsX10 ++ ([])))
theorem vg_j_toldOnes : ∀ w ∈ v_j_toldOnes, goodWord w = true := vg_c (c := .code yX1_toldOnes cX1_toldOnes 5 (some .long)) (l := [.constantLong RX1 124 (13194139533559), .constantLong RX1 126 (-2), .fieldLink RX1 55 "TileHouse$Judge" "drawn" "Z", .constantLong RX1 128 (8)]) (by decide +kernel) (vg_a vgX1 (vg_nil))
theorem i_j_toldOnes_X1 : ∀ w ∈ u_ws RX1 TX1 19, w ∈ v_j_toldOnes := fun _ h => List.mem_cons_of_mem _ (List.mem_append_right _ (List.mem_append_left _ h))
set_option maxHeartbeats 4000000 in
set_option maxRecDepth 100000 in
theorem j_toldOnes (l : Launch) (G : va_G) (k : Nat → ClassId) (h0 : Nat) (b0 : Int32) (b1 : Int32) (b2 : Int32) (b3 : Int64) (b4 : Int32) (b5 : Value) (b6 : Int32) (b7 : Int32) (b8 : Int32) (b9 : Int32) (b10 : Int32) (b11 : Int32) (b12 : Int64) (b13 : Value) (b14 : Value) (b15 : Int32) (b16 : Int64) (b17 : Int64) (b18 : Value) (p0 : Int64) : Met l yX1_toldOnes v_j_toldOnes ({ frames := 0, cells := 0, slots := 0, locals := 0 }) (va_Pc [.ref h0, .long p0] (pr G k [(h0, .inr (0, [.int b0, .int b1, .int b2, .long b3, .int b4, b5, .int b6, .int b7, .int b8, .int b9, .int b10, .int b11, .long b12, b13, b14, .int b15, .long b16, .long b17, b18]))])) (vp_Sl (fun _ => True)) 0 0 (fun _ => False) := by
  refine Met.ofW (cc := cX1_toldOnes) (maxL := 5) (ret := (some .long)) (by decide) rfl ?_
  intro p e s m args below meth c s₁ B hml hv
  obtain ⟨rfl, hP, hK, hN⟩ := hv
  have hx := B.exec
  have hb := B.bytes
  have hr := B.returns
  have hts := atoms_spec (ws := v_j_toldOnes) B.pre
  have hown : s.vm.findClass RX1 = some m.cls := findClass_of_methodNamed B.named
  have hlocks := B.notSynchronized
  have hl := lv_entry ([.ref h0, .long p0]) (n := 5) (Nat.le_of_ble_eq_true rfl)
  rw [lg_entry_eq]
  generalize (lg_sl ([.ref h0, .long p0]) ++ List.replicate (5 - (lg_sl ([.ref h0, .long p0])).length) Slot.unset).toArray = ls at hl ⊢
  have hl : lv_has ls 5 [(0, .ref h0), (1, .long p0)] := hl
  refine lv_lload_n hx hb dX1_toldOnes_0 rfl (lv_at hl 1 rfl) ?_
  refine lv_ldc2 (v := 13194139533559) hx hb hown (hts (.constantLong RX1 124 (13194139533559)) (by decide +kernel)) dX1_toldOnes_1 ?_
  refine lv_land hx hb dX1_toldOnes_4 ?_
  refine lv_topl (fun v1 ev1 => ?_)
  refine lv_lstore_n (lv' := [(3, .long v1), (0, .ref h0), (1, .long p0)]) hx hb dX1_toldOnes_5 rfl hl (by decide) rfl (fun ls hl => ?_)
  refine lv_lload_n hx hb dX1_toldOnes_6 rfl (lv_at hl 0 rfl) ?_
  refine lv_iconst (v := 1) hx hb dX1_toldOnes_7 (by decide) ?_
  refine lv_lushr hx hb dX1_toldOnes_8 rfl ?_
  refine lv_topl (fun v2 ev2 => ?_)
  refine lv_lconst (v := 1) hx hb dX1_toldOnes_9 (by decide) ?_
  refine lv_land hx hb dX1_toldOnes_10 ?_
  refine lv_topl (fun v3 ev3 => ?_)
  refine lv_lconst (v := 0) hx hb dX1_toldOnes_11 (by decide) ?_
  refine W.lcmp hx hb dX1_toldOnes_12 ?_
  refine lv_topi (fun v4 ev4 => ?_)
  have J22_6 : ∀ (g5 : Int64) (ls : Array Slot), lv_has ls 5 [(3, .long g5), (0, .ref h0), (1, .long p0)] → W p l e (headSpec v_j_toldOnes ({ frames := 0, cells := 0, slots := 0, locals := 0 })).room s m [.ref h0, .long p0].toArray below meth c s.heap [] 0 0 (MQ below (vp_Sl (fun _ => True)) [.ref h0, .long p0].toArray s 0 0 (fun _ => False)) (F0 m 22 ls []) := by
    intro g5 ls hl
    refine lv_aload_n hx hb dX1_toldOnes_22 rfl (lv_at hl 1 rfl) ?_
    refine va_get (D := G) (ci := 0) (v := .int b7) (C := RX1) (T := TX1) (N := 19) hx hb hts i_j_toldOnes_X1 hown hK hP 0 rfl rfl 7 (by decide) (hts (.fieldLink RX1 55 "TileHouse$Judge" "drawn" "Z") (by decide +kernel)) (fun _ h9 => h9) rfl dX1_toldOnes_23 ?_
    have J38_8 : ∀ (g7 : Int64) (ls : Array Slot), lv_has ls 5 [(3, .long g5), (0, .ref h0), (1, .long p0)] → W p l e (headSpec v_j_toldOnes ({ frames := 0, cells := 0, slots := 0, locals := 0 })).room s m [.ref h0, .long p0].toArray below meth c s.heap [] 0 0 (MQ below (vp_Sl (fun _ => True)) [.ref h0, .long p0].toArray s 0 0 (fun _ => False)) (F0 m 38 ls [.long g7]) := by
      intro g7 ls hl
      exact W.lret (v := g7) hx hb hr (fun t ht hW => ⟨g7, rfl, trivial, ht⟩) (fun _ h => by cases h) dX1_toldOnes_38
    refine lv_if_eq (tgt := 37) hx hb dX1_toldOnes_26 (by decide) (fun c9 => ?_) (fun c9 => ?_)
    · skip
      refine lv_lload_n hx hb dX1_toldOnes_37 rfl (lv_at hl 0 rfl) ?_
      exact J38_8 g5 ls (lv_sub hl [0, 1, 2] rfl)
    · skip
      refine lv_lload_n hx hb dX1_toldOnes_29 rfl (lv_at hl 0 rfl) ?_
      refine lv_ldc2 (v := 8) hx hb hown (hts (.constantLong RX1 128 (8)) (by decide +kernel)) dX1_toldOnes_30 ?_
      refine lv_lor hx hb dX1_toldOnes_33 ?_
      refine lv_topl (fun v10 ev10 => ?_)
      refine lv_goto (tgt := 38) hx hb dX1_toldOnes_34 (by decide) ?_
      exact J38_8 v10 ls (lv_sub hl [0, 1, 2] rfl)
  refine lv_if_eq (tgt := 22) hx hb dX1_toldOnes_13 (by decide) (fun c11 => ?_) (fun c11 => ?_)
  · skip
    exact J22_6 v1 ls (lv_sub hl [0, 1, 2] rfl)
  · skip
    refine lv_lload_n hx hb dX1_toldOnes_16 rfl (lv_at hl 0 rfl) ?_
    refine lv_ldc2 (v := (-2)) hx hb hown (hts (.constantLong RX1 126 (-2)) (by decide +kernel)) dX1_toldOnes_17 ?_
    refine lv_land hx hb dX1_toldOnes_20 ?_
    refine lv_topl (fun v12 ev12 => ?_)
    refine lv_lstore_n (lv' := [(3, .long v12), (0, .ref h0), (1, .long p0)]) hx hb dX1_toldOnes_21 rfl hl (by decide) rfl (fun ls hl => ?_)
    exact J22_6 v12 ls (lv_sub hl [0, 1, 2] rfl)
