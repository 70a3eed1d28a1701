theorem dX4_build_0 : decode cX4_build 0 = .ok (.iconst 0, 1) := by decide +kernel
theorem dX4_build_1 : decode cX4_build 1 = .ok (.istore_n 3, 1) := by decide +kernel
theorem dX4_build_2 : decode cX4_build 2 = .ok (.iload_n 3, 1) := by decide +kernel
theorem dX4_build_3 : decode cX4_build 3 = .ok (.sipush 136, 3) := by decide +kernel
theorem dX4_build_6 : decode cX4_build 6 = .ok (.if_icmp .ge 18, 3) := by decide +kernel
theorem dX4_build_24 : decode cX4_build 24 = .ok (.lload_n 1, 1) := by decide +kernel
theorem dX4_build_25 : decode cX4_build 25 = .ok (.lstore_n 3, 1) := by decide +kernel
theorem dX4_build_26 : decode cX4_build 26 = .ok (.sipush 135, 3) := by decide +kernel
theorem dX4_build_29 : decode cX4_build 29 = .ok (.istore 5, 2) := by decide +kernel
theorem dX4_build_31 : decode cX4_build 31 = .ok (.iload 5, 2) := by decide +kernel
theorem dX4_build_33 : decode cX4_build 33 = .ok (.ifCond .le 64, 3) := by decide +kernel
theorem dX4_build_97 : decode cX4_build 97 = .ok (.aload_n 0, 1) := by decide +kernel
theorem dX4_build_98 : decode cX4_build 98 = .ok (.iconst 1, 1) := by decide +kernel
theorem dX4_build_99 : decode cX4_build 99 = .ok (.putfield 19, 3) := by decide +kernel
theorem dX4_build_102 : decode cX4_build 102 = .ok (.aload_n 0, 1) := by decide +kernel
theorem dX4_build_103 : decode cX4_build 103 = .ok (.bipush 52, 2) := by decide +kernel
theorem dX4_build_105 : decode cX4_build 105 = .ok (.putfield 23, 3) := by decide +kernel
theorem dX4_build_108 : decode cX4_build 108 = .ok (.aload_n 0, 1) := by decide +kernel
theorem dX4_build_109 : decode cX4_build 109 = .ok (.iconst 0, 1) := by decide +kernel
theorem dX4_build_110 : decode cX4_build 110 = .ok (.putfield 27, 3) := by decide +kernel
theorem dX4_build_113 : decode cX4_build 113 = .ok (.return_, 1) := by decide +kernel
theorem dX4_build_36 : decode cX4_build 36 = .ok (.lload_n 3, 1) := by decide +kernel
theorem dX4_build_37 : decode cX4_build 37 = .ok (.ldc2_w 15, 3) := by decide +kernel
theorem dX4_build_40 : decode cX4_build 40 = .ok (.lmul, 1) := by decide +kernel
theorem dX4_build_41 : decode cX4_build 41 = .ok (.ldc2_w 17, 3) := by decide +kernel
theorem dX4_build_44 : decode cX4_build 44 = .ok (.ladd, 1) := by decide +kernel
theorem dX4_build_45 : decode cX4_build 45 = .ok (.lstore_n 3, 1) := by decide +kernel
theorem dX4_build_46 : decode cX4_build 46 = .ok (.lload_n 3, 1) := by decide +kernel
theorem dX4_build_47 : decode cX4_build 47 = .ok (.bipush 33, 2) := by decide +kernel
theorem dX4_build_49 : decode cX4_build 49 = .ok (.lushr, 1) := by decide +kernel
theorem dX4_build_50 : decode cX4_build 50 = .ok (.iload 5, 2) := by decide +kernel
theorem dX4_build_52 : decode cX4_build 52 = .ok (.iconst 1, 1) := by decide +kernel
theorem dX4_build_53 : decode cX4_build 53 = .ok (.iadd, 1) := by decide +kernel
theorem dX4_build_54 : decode cX4_build 54 = .ok (.i2l, 1) := by decide +kernel
theorem dX4_build_55 : decode cX4_build 55 = .ok (.lrem, 1) := by decide +kernel
theorem dX4_build_56 : decode cX4_build 56 = .ok (.l2i, 1) := by decide +kernel
theorem dX4_build_57 : decode cX4_build 57 = .ok (.istore 6, 2) := by decide +kernel
theorem dX4_build_59 : decode cX4_build 59 = .ok (.aload_n 0, 1) := by decide +kernel
theorem dX4_build_60 : decode cX4_build 60 = .ok (.getfield 11, 3) := by decide +kernel
theorem dX4_build_63 : decode cX4_build 63 = .ok (.iload 5, 2) := by decide +kernel
theorem dX4_build_65 : decode cX4_build 65 = .ok (.iaload, 1) := by decide +kernel
theorem dX4_build_66 : decode cX4_build 66 = .ok (.istore 7, 2) := by decide +kernel
theorem dX4_build_68 : decode cX4_build 68 = .ok (.aload_n 0, 1) := by decide +kernel
theorem dX4_build_69 : decode cX4_build 69 = .ok (.getfield 11, 3) := by decide +kernel
theorem dX4_build_72 : decode cX4_build 72 = .ok (.iload 5, 2) := by decide +kernel
theorem dX4_build_74 : decode cX4_build 74 = .ok (.aload_n 0, 1) := by decide +kernel
theorem dX4_build_75 : decode cX4_build 75 = .ok (.getfield 11, 3) := by decide +kernel
theorem dX4_build_78 : decode cX4_build 78 = .ok (.iload 6, 2) := by decide +kernel
theorem dX4_build_80 : decode cX4_build 80 = .ok (.iaload, 1) := by decide +kernel
theorem dX4_build_81 : decode cX4_build 81 = .ok (.iastore, 1) := by decide +kernel
theorem dX4_build_82 : decode cX4_build 82 = .ok (.aload_n 0, 1) := by decide +kernel
theorem dX4_build_83 : decode cX4_build 83 = .ok (.getfield 11, 3) := by decide +kernel
theorem dX4_build_86 : decode cX4_build 86 = .ok (.iload 6, 2) := by decide +kernel
theorem dX4_build_88 : decode cX4_build 88 = .ok (.iload 7, 2) := by decide +kernel
theorem dX4_build_90 : decode cX4_build 90 = .ok (.iastore, 1) := by decide +kernel
theorem dX4_build_91 : decode cX4_build 91 = .ok (.iinc 5 (-1), 3) := by decide +kernel
theorem dX4_build_94 : decode cX4_build 94 = .ok (.goto (-63), 3) := by decide +kernel
theorem dX4_build_9 : decode cX4_build 9 = .ok (.aload_n 0, 1) := by decide +kernel
theorem dX4_build_10 : decode cX4_build 10 = .ok (.getfield 11, 3) := by decide +kernel
theorem dX4_build_13 : decode cX4_build 13 = .ok (.iload_n 3, 1) := by decide +kernel
theorem dX4_build_14 : decode cX4_build 14 = .ok (.iload_n 3, 1) := by decide +kernel
theorem dX4_build_15 : decode cX4_build 15 = .ok (.iconst 4, 1) := by decide +kernel
theorem dX4_build_16 : decode cX4_build 16 = .ok (.idiv, 1) := by decide +kernel
theorem dX4_build_17 : decode cX4_build 17 = .ok (.iastore, 1) := by decide +kernel
theorem dX4_build_18 : decode cX4_build 18 = .ok (.iinc 3 1, 3) := by decide +kernel
theorem dX4_build_21 : decode cX4_build 21 = .ok (.goto (-19), 3) := by decide +kernel
theorem dX4_kindAt_7 : decode cX4_kindAt 7 = .ok (.iload_n 1, 1) := by decide +kernel
theorem dX4_kindAt_8 : decode cX4_kindAt 8 = .ok (.ifCond .lt 19, 3) := by decide +kernel
theorem dX4_kindAt_11 : decode cX4_kindAt 11 = .ok (.iload_n 1, 1) := by decide +kernel
theorem dX4_kindAt_12 : decode cX4_kindAt 12 = .ok (.sipush 136, 3) := by decide +kernel
theorem dX4_kindAt_15 : decode cX4_kindAt 15 = .ok (.if_icmp .ge 12, 3) := by decide +kernel
theorem dX4_kindAt_18 : decode cX4_kindAt 18 = .ok (.aload_n 0, 1) := by decide +kernel
theorem dX4_kindAt_19 : decode cX4_kindAt 19 = .ok (.getfield 11, 3) := by decide +kernel
theorem dX4_kindAt_22 : decode cX4_kindAt 22 = .ok (.iload_n 1, 1) := by decide +kernel
theorem dX4_kindAt_23 : decode cX4_kindAt 23 = .ok (.iaload, 1) := by decide +kernel
theorem dX4_kindAt_24 : decode cX4_kindAt 24 = .ok (.goto 4, 3) := by decide +kernel
theorem dX4_draw_0 : decode cX4_draw 0 = .ok (.aload_n 0, 1) := by decide +kernel
theorem dX4_draw_1 : decode cX4_draw 1 = .ok (.dup, 1) := by decide +kernel
theorem dX4_draw_2 : decode cX4_draw 2 = .ok (.getfield 23, 3) := by decide +kernel
theorem dX4_draw_5 : decode cX4_draw 5 = .ok (.iconst 1, 1) := by decide +kernel
theorem dX4_draw_6 : decode cX4_draw 6 = .ok (.iadd, 1) := by decide +kernel
theorem dX4_draw_7 : decode cX4_draw 7 = .ok (.putfield 23, 3) := by decide +kernel
theorem dX4_draw_10 : decode cX4_draw 10 = .ok (.aload_n 0, 1) := by decide +kernel
theorem dX4_draw_11 : decode cX4_draw 11 = .ok (.aload_n 0, 1) := by decide +kernel
theorem dX4_draw_12 : decode cX4_draw 12 = .ok (.getfield 23, 3) := by decide +kernel
theorem dX4_draw_15 : decode cX4_draw 15 = .ok (.iconst 1, 1) := by decide +kernel
theorem dX4_draw_16 : decode cX4_draw 16 = .ok (.isub, 1) := by decide +kernel
theorem dX4_draw_17 : decode cX4_draw 17 = .ok (.invokevirtual 30, 3) := by decide +kernel
theorem dX4_draw_20 : decode cX4_draw 20 = .ok (.ireturn, 1) := by decide +kernel
theorem dX2_startHand_0 : decode cX2_startHand 0 = .ok (.aload_n 0, 1) := by decide +kernel
theorem dX2_startHand_1 : decode cX2_startHand 1 = .ok (.getfield 12, 3) := by decide +kernel
theorem dX2_startHand_4 : decode cX2_startHand 4 = .ok (.invokevirtual 26, 3) := by decide +kernel
theorem dX2_startHand_7 : decode cX2_startHand 7 = .ok (.aload_n 0, 1) := by decide +kernel
theorem dX2_startHand_8 : decode cX2_startHand 8 = .ok (.iconst 0, 1) := by decide +kernel
theorem dX2_startHand_9 : decode cX2_startHand 9 = .ok (.putfield 29, 3) := by decide +kernel
theorem dX2_startHand_12 : decode cX2_startHand 12 = .ok (.aload_n 0, 1) := by decide +kernel
theorem dX2_startHand_13 : decode cX2_startHand 13 = .ok (.lconst 0, 1) := by decide +kernel
theorem dX2_startHand_14 : decode cX2_startHand 14 = .ok (.putfield 32, 3) := by decide +kernel
theorem dX2_startHand_17 : decode cX2_startHand 17 = .ok (.aload_n 0, 1) := by decide +kernel
theorem dX2_startHand_18 : decode cX2_startHand 18 = .ok (.iconst 0, 1) := by decide +kernel
theorem dX2_startHand_19 : decode cX2_startHand 19 = .ok (.putfield 36, 3) := by decide +kernel
theorem dX2_startHand_22 : decode cX2_startHand 22 = .ok (.aload_n 0, 1) := by decide +kernel
theorem dX2_startHand_23 : decode cX2_startHand 23 = .ok (.iconst 0, 1) := by decide +kernel
theorem dX2_startHand_24 : decode cX2_startHand 24 = .ok (.putfield 39, 3) := by decide +kernel
theorem dX2_startHand_27 : decode cX2_startHand 27 = .ok (.aload_n 0, 1) := by decide +kernel
theorem dX2_startHand_28 : decode cX2_startHand 28 = .ok (.iconst 0, 1) := by decide +kernel
theorem dX2_startHand_29 : decode cX2_startHand 29 = .ok (.putfield 43, 3) := by decide +kernel
theorem dX2_startHand_32 : decode cX2_startHand 32 = .ok (.aload_n 0, 1) := by decide +kernel
theorem dX2_startHand_33 : decode cX2_startHand 33 = .ok (.iconst 0, 1) := by decide +kernel
theorem dX2_startHand_34 : decode cX2_startHand 34 = .ok (.putfield 46, 3) := by decide +kernel
theorem dX2_startHand_37 : decode cX2_startHand 37 = .ok (.aload_n 0, 1) := by decide +kernel
theorem dX2_startHand_38 : decode cX2_startHand 38 = .ok (.iconst 0, 1) := by decide +kernel
theorem dX2_startHand_39 : decode cX2_startHand 39 = .ok (.putfield 49, 3) := by decide +kernel
theorem dX2_startHand_42 : decode cX2_startHand 42 = .ok (.return_, 1) := by decide +kernel
theorem dX6_drawTile_0 : decode cX6_drawTile 0 = .ok (.aload_n 0, 1) := by decide +kernel
theorem dX6_drawTile_1 : decode cX6_drawTile 1 = .ok (.iload_n 1, 1) := by decide +kernel
theorem dX6_drawTile_2 : decode cX6_drawTile 2 = .ok (.iconst 3, 1) := by decide +kernel
theorem dX6_drawTile_3 : decode cX6_drawTile 3 = .ok (.iand, 1) := by decide +kernel
theorem dX6_drawTile_4 : decode cX6_drawTile 4 = .ok (.putfield 97, 3) := by decide +kernel
theorem dX6_drawTile_7 : decode cX6_drawTile 7 = .ok (.aload_n 0, 1) := by decide +kernel
theorem dX6_drawTile_8 : decode cX6_drawTile 8 = .ok (.iconst 1, 1) := by decide +kernel
theorem dX6_drawTile_9 : decode cX6_drawTile 9 = .ok (.putfield 45, 3) := by decide +kernel
theorem dX6_drawTile_12 : decode cX6_drawTile 12 = .ok (.aload_n 0, 1) := by decide +kernel
theorem dX6_drawTile_13 : decode cX6_drawTile 13 = .ok (.iload_n 2, 1) := by decide +kernel
theorem dX6_drawTile_14 : decode cX6_drawTile 14 = .ok (.putfield 319, 3) := by decide +kernel
theorem dX6_drawTile_17 : decode cX6_drawTile 17 = .ok (.aload_n 0, 1) := by decide +kernel
theorem dX6_drawTile_18 : decode cX6_drawTile 18 = .ok (.lconst 0, 1) := by decide +kernel
theorem dX6_drawTile_19 : decode cX6_drawTile 19 = .ok (.putfield 123, 3) := by decide +kernel
theorem dX6_drawTile_22 : decode cX6_drawTile 22 = .ok (.aload_n 0, 1) := by decide +kernel
theorem dX6_drawTile_23 : decode cX6_drawTile 23 = .ok (.iload_n 2, 1) := by decide +kernel
theorem dX6_drawTile_24 : decode cX6_drawTile 24 = .ok (.ifCond .eq 13, 3) := by decide +kernel
theorem dX6_drawTile_37 : decode cX6_drawTile 37 = .ok (.aload_n 0, 1) := by decide +kernel
theorem dX6_drawTile_38 : decode cX6_drawTile 38 = .ok (.getfield 18, 3) := by decide +kernel
theorem dX6_drawTile_41 : decode cX6_drawTile 41 = .ok (.invokevirtual 325, 3) := by decide +kernel
theorem dX6_drawTile_44 : decode cX6_drawTile 44 = .ok (.putfield 49, 3) := by decide +kernel
theorem dX6_drawTile_47 : decode cX6_drawTile 47 = .ok (.aload_n 0, 1) := by decide +kernel
theorem dX6_drawTile_48 : decode cX6_drawTile 48 = .ok (.aload_n 0, 1) := by decide +kernel
theorem dX6_drawTile_49 : decode cX6_drawTile 49 = .ok (.getfield 97, 3) := by decide +kernel
theorem dX6_drawTile_52 : decode cX6_drawTile 52 = .ok (.invokevirtual 65, 3) := by decide +kernel
theorem dX6_drawTile_55 : decode cX6_drawTile 55 = .ok (.astore_n 3, 1) := by decide +kernel
theorem dX6_drawTile_56 : decode cX6_drawTile 56 = .ok (.aload_n 3, 1) := by decide +kernel
theorem dX6_drawTile_57 : decode cX6_drawTile 57 = .ok (.getfield 72, 3) := by decide +kernel
theorem dX6_drawTile_60 : decode cX6_drawTile 60 = .ok (.aload_n 0, 1) := by decide +kernel
theorem dX6_drawTile_61 : decode cX6_drawTile 61 = .ok (.getfield 49, 3) := by decide +kernel
theorem dX6_drawTile_64 : decode cX6_drawTile 64 = .ok (.iconst 1, 1) := by decide +kernel
theorem dX6_drawTile_65 : decode cX6_drawTile 65 = .ok (.invokevirtual 79, 3) := by decide +kernel
theorem dX6_drawTile_68 : decode cX6_drawTile 68 = .ok (.aload_n 3, 1) := by decide +kernel
theorem dX6_drawTile_69 : decode cX6_drawTile 69 = .ok (.getfield 110, 3) := by decide +kernel
theorem dX6_drawTile_72 : decode cX6_drawTile 72 = .ok (.ifCond .ne 8, 3) := by decide +kernel
theorem dX6_drawTile_75 : decode cX6_drawTile 75 = .ok (.aload_n 3, 1) := by decide +kernel
theorem dX6_drawTile_76 : decode cX6_drawTile 76 = .ok (.iconst 0, 1) := by decide +kernel
theorem dX6_drawTile_77 : decode cX6_drawTile 77 = .ok (.putfield 219, 3) := by decide +kernel
theorem dX6_drawTile_80 : decode cX6_drawTile 80 = .ok (.return_, 1) := by decide +kernel
theorem dX6_deal_0 : decode cX6_deal 0 = .ok (.aload_n 0, 1) := by decide +kernel
theorem dX6_deal_1 : decode cX6_deal 1 = .ok (.getfield 45, 3) := by decide +kernel
theorem dX6_deal_4 : decode cX6_deal 4 = .ok (.ifCond .ne 10, 3) := by decide +kernel
theorem dX6_deal_7 : decode cX6_deal 7 = .ok (.aload_n 0, 1) := by decide +kernel
theorem dX6_deal_8 : decode cX6_deal 8 = .ok (.getfield 54, 3) := by decide +kernel
theorem dX6_deal_11 : decode cX6_deal 11 = .ok (.ifCond .eq 5, 3) := by decide +kernel
theorem dX6_deal_16 : decode cX6_deal 16 = .ok (.aload_n 0, 1) := by decide +kernel
theorem dX6_deal_17 : decode cX6_deal 17 = .ok (.getfield 18, 3) := by decide +kernel
theorem dX6_deal_20 : decode cX6_deal 20 = .ok (.lload_n 1, 1) := by decide +kernel
theorem dX6_deal_21 : decode cX6_deal 21 = .ok (.invokevirtual 58, 3) := by decide +kernel
theorem dX6_deal_24 : decode cX6_deal 24 = .ok (.iconst 0, 1) := by decide +kernel
theorem dX6_deal_25 : decode cX6_deal 25 = .ok (.istore_n 3, 1) := by decide +kernel
theorem dX6_deal_26 : decode cX6_deal 26 = .ok (.iload_n 3, 1) := by decide +kernel
theorem dX6_deal_27 : decode cX6_deal 27 = .ok (.iconst 4, 1) := by decide +kernel
theorem dX6_deal_28 : decode cX6_deal 28 = .ok (.if_icmp .ge 65, 3) := by decide +kernel
theorem dX6_deal_31 : decode cX6_deal 31 = .ok (.aload_n 0, 1) := by decide +kernel
theorem dX6_deal_32 : decode cX6_deal 32 = .ok (.aload_n 0, 1) := by decide +kernel
theorem dX6_deal_33 : decode cX6_deal 33 = .ok (.getfield 62, 3) := by decide +kernel
theorem dX6_deal_36 : decode cX6_deal 36 = .ok (.iload_n 3, 1) := by decide +kernel
theorem dX6_deal_37 : decode cX6_deal 37 = .ok (.iadd, 1) := by decide +kernel
theorem dX6_deal_38 : decode cX6_deal 38 = .ok (.invokevirtual 65, 3) := by decide +kernel
theorem dX6_deal_41 : decode cX6_deal 41 = .ok (.astore 4, 2) := by decide +kernel
theorem dX6_deal_43 : decode cX6_deal 43 = .ok (.aload 4, 2) := by decide +kernel
theorem dX6_deal_45 : decode cX6_deal 45 = .ok (.invokevirtual 69, 3) := by decide +kernel
theorem dX6_deal_48 : decode cX6_deal 48 = .ok (.iconst 0, 1) := by decide +kernel
theorem dX6_deal_49 : decode cX6_deal 49 = .ok (.istore 5, 2) := by decide +kernel
theorem dX6_deal_51 : decode cX6_deal 51 = .ok (.iload 5, 2) := by decide +kernel
theorem dX6_deal_53 : decode cX6_deal 53 = .ok (.bipush 13, 2) := by decide +kernel
theorem dX6_deal_55 : decode cX6_deal 55 = .ok (.if_icmp .ge 32, 3) := by decide +kernel
theorem dX6_deal_87 : decode cX6_deal 87 = .ok (.iinc 3 1, 3) := by decide +kernel
theorem dX6_deal_90 : decode cX6_deal 90 = .ok (.goto (-64), 3) := by decide +kernel
theorem dX6_deal_93 : decode cX6_deal 93 = .ok (.aload_n 0, 1) := by decide +kernel
theorem dX6_deal_94 : decode cX6_deal 94 = .ok (.iconst 0, 1) := by decide +kernel
theorem dX6_deal_95 : decode cX6_deal 95 = .ok (.putfield 83, 3) := by decide +kernel
theorem dX6_deal_98 : decode cX6_deal 98 = .ok (.aload_n 0, 1) := by decide +kernel
theorem dX6_deal_99 : decode cX6_deal 99 = .ok (.iconst 0, 1) := by decide +kernel
theorem dX6_deal_100 : decode cX6_deal 100 = .ok (.putfield 86, 3) := by decide +kernel
theorem dX6_deal_103 : decode cX6_deal 103 = .ok (.aload_n 0, 1) := by decide +kernel
theorem dX6_deal_104 : decode cX6_deal 104 = .ok (.aload_n 0, 1) := by decide +kernel
theorem dX6_deal_105 : decode cX6_deal 105 = .ok (.getfield 62, 3) := by decide +kernel
theorem dX6_deal_108 : decode cX6_deal 108 = .ok (.iconst 0, 1) := by decide +kernel
theorem dX6_deal_109 : decode cX6_deal 109 = .ok (.invokevirtual 89, 3) := by decide +kernel
theorem dX6_deal_112 : decode cX6_deal 112 = .ok (.iconst 1, 1) := by decide +kernel
theorem dX6_deal_113 : decode cX6_deal 113 = .ok (.ireturn, 1) := by decide +kernel
theorem dX6_deal_58 : decode cX6_deal 58 = .ok (.aload 4, 2) := by decide +kernel
theorem dX6_deal_60 : decode cX6_deal 60 = .ok (.getfield 72, 3) := by decide +kernel
theorem dX6_deal_63 : decode cX6_deal 63 = .ok (.aload_n 0, 1) := by decide +kernel
theorem dX6_deal_64 : decode cX6_deal 64 = .ok (.getfield 18, 3) := by decide +kernel
theorem dX6_deal_67 : decode cX6_deal 67 = .ok (.bipush 13, 2) := by decide +kernel
theorem dX6_deal_69 : decode cX6_deal 69 = .ok (.iload_n 3, 1) := by decide +kernel
theorem dX6_deal_70 : decode cX6_deal 70 = .ok (.imul, 1) := by decide +kernel
theorem dX6_deal_71 : decode cX6_deal 71 = .ok (.iload 5, 2) := by decide +kernel
theorem dX6_deal_73 : decode cX6_deal 73 = .ok (.iadd, 1) := by decide +kernel
theorem dX6_deal_74 : decode cX6_deal 74 = .ok (.invokevirtual 75, 3) := by decide +kernel
theorem dX6_deal_77 : decode cX6_deal 77 = .ok (.iconst 1, 1) := by decide +kernel
theorem dX6_deal_78 : decode cX6_deal 78 = .ok (.invokevirtual 79, 3) := by decide +kernel
theorem dX6_deal_81 : decode cX6_deal 81 = .ok (.iinc 5 1, 3) := by decide +kernel
theorem dX6_deal_84 : decode cX6_deal 84 = .ok (.goto (-33), 3) := by decide +kernel
theorem wb_tb (n : Nat) : (lN n).toBitVec = BitVec.ofNat 64 n := rfl
theorem wb_inj {a b : Int64} (h : a.toBitVec = b.toBitVec) : a = b := Int64.toBitVec_inj.mp h
theorem wb_tn {n : Nat} (h : n < 2 ^ 64) : (lN n).toBitVec.toNat = n := by rw [wb_tb, BitVec.toNat_ofNat, Nat.mod_eq_of_lt h]
theorem wb_of (x : Int64) : ∃ n, n < 2 ^ 64 ∧ x = lN n := ⟨x.toBitVec.toNat, x.toBitVec.isLt, wb_inj (by rw [wb_tb]; simp)⟩
theorem wb_cu : ∀ k, k < 64 → ((nI k).toInt64.toUInt64 &&& Int64.toUInt64 63) = UInt64.ofNat k := by decide +kernel
theorem wb_shr {n k : Nat} (hn : n < 2 ^ 64) (hk : k < 64) : ((lN n).toUInt64 >>> ((nI k).toInt64.toUInt64 &&& Int64.toUInt64 63)).toInt64 = lN (n / 2 ^ k) := by
  rw [wb_cu k hk]
  apply wb_inj
  apply BitVec.eq_of_toNat_eq
  show ((lN n).toUInt64 >>> UInt64.ofNat k).toNat = (BitVec.ofNat 64 _).toNat
  have h1 : (UInt64.ofNat k).toNat = k := by
    show (BitVec.ofNat 64 k).toNat = k
    rw [BitVec.toNat_ofNat, Nat.mod_eq_of_lt (by omega)]
  have h2 : (lN n).toUInt64.toNat = n := wb_tn hn
  rw [UInt64.toNat_shiftRight, h1, h2, Nat.mod_eq_of_lt hk, Nat.shiftRight_eq_div_pow, BitVec.toNat_ofNat, Nat.mod_eq_of_lt (Nat.lt_of_le_of_lt (Nat.div_le_self _ _) hn)]
theorem in_mono {x : Int32} {a b : Nat} (h : vp_in x a) (hab : a ≤ b) : vp_in x b := fun h9 => h (h9.elim Or.inl (fun q => Or.inr (Nat.le_trans hab q)))
theorem lz {z : Int64} {i : Int32} {n : Nat} (hi : i = nI (n + 1)) (hn : n + 1 < 2 ^ 31) (hz : z = i.toInt64) : ¬ z = 0 := by
  rw [hz, hi, nI_l hn]
  intro h
  have h9 := (pk_lEQ (a := n + 1) (b := 0) (by omega) (by omega)).mp h
  omega
theorem shuf {x y z q : Int64} {w i : Int32} {j : Nat} (hj : j < 2 ^ 30) (hi : i = nI (j + 1)) (hz : z = i.toInt64) (hy : y = (x.toUInt64 >>> ((33 : Int32).toInt64.toUInt64 &&& Int64.toUInt64 63)).toInt64) (hq : q = y - y / z * z) (hw : w = q.toInt32) : vp_in w (j + 1) := by
  obtain ⟨n, hn, rfl⟩ := wb_of x
  have h33 : y = lN (n / 2 ^ 33) := by rw [hy]; exact wb_shr (k := 33) hn (by decide)
  have hz2 : z = lN (j + 1) := by rw [hz, hi]; exact nI_l (by omega)
  have h1 : n / 2 ^ 33 < 2 ^ 63 := Nat.lt_of_le_of_lt (Nat.div_le_div_right (Nat.le_of_lt hn)) (by decide)
  rw [hw, hq, h33, hz2, pk_lRem h1 (by omega) (by omega), lN_i]
  exact vp_in_nI (Nat.mod_lt _ (by omega)) (by omega)
def v_c_X4_build : List Cond := .code yX4_build cX4_build 8 none :: ([.fieldLink RX4 19 "TileHouse$Wall" "stands" "Z", .fieldLink RX4 23 "TileHouse$Wall" "next" "I", .fieldLink RX4 27 "TileHouse$Wall" "fours" "I", .constantLong RX4 15 (6364136223846793005), .constantLong RX4 17 (1442695040888963407), .fieldLink RX4 11 "TileHouse$Wall" "kinds" "[I"] ++ (wsX40 ++ ([])))
theorem vg_c_X4_build : ∀ w ∈ v_c_X4_build, goodWord w = true := vg_c (c := .code yX4_build cX4_build 8 none) (l := [.fieldLink RX4 19 "TileHouse$Wall" "stands" "Z", .fieldLink RX4 23 "TileHouse$Wall" "next" "I", .fieldLink RX4 27 "TileHouse$Wall" "fours" "I", .constantLong RX4 15 (6364136223846793005), .constantLong RX4 17 (1442695040888963407), .fieldLink RX4 11 "TileHouse$Wall" "kinds" "[I"]) (by decide +kernel) (vg_a vgX4 (vg_nil))
theorem i_c_X4_build_X4 : ∀ w ∈ u_ws RX4 TX4 4, w ∈ v_c_X4_build := fun _ h => List.mem_cons_of_mem _ (List.mem_append_right _ (List.mem_append_left _ h))
set_option maxHeartbeats 4000000 in
set_option maxRecDepth 100000 in
theorem c_X4_build (l : Launch) (G : va_G) (k : Nat → ClassId) (sz : Nat) (h0 : Nat) (wk : Nat) (f : Nat → Int32) (p0 : Int64) (x1 : Value) (x2 : Value) (x3 : Value) : Met l yX4_build v_c_X4_build ({ frames := 0, cells := 0, slots := 0, locals := 0 }) (va_Pc [.ref h0, .long p0] (pq G k [(h0, .inr (3, [.ref wk, x1, x2, x3])), (wk, .inl (k 0, 136, .inl f))] sz)) (va_Qv (fun _ : Nat → Int32 => True) (fun u => pt G (va_A [(h0, .inr (3, [.ref wk, x1, x2, x3])), (wk, .inl (k 0, 136, .inl f))] sz) [(h0, .inr (3, [.ref wk, .int 1, .int 52, .int 0])), (wk, .inl (k 0, 136, .inl u))]) (va_A [(h0, .inr (3, [.ref wk, x1, x2, x3])), (wk, .inl (k 0, 136, .inl f))] sz)) 0 0 (va_A [(h0, .inr (3, [.ref wk, x1, x2, x3])), (wk, .inl (k 0, 136, .inl f))] sz) := by
  refine Met.ofW (cc := cX4_build) (maxL := 8) (ret := none) (by decide) rfl ?_
  intro p e s m args below meth c s₁ B hml hv
  obtain ⟨rfl, hsz, ⟨hP, hK, hN⟩, hD0⟩ := hv
  have hx := B.exec
  have hb := B.bytes
  have hr := B.returns
  have hts := atoms_spec (ws := v_c_X4_build) B.pre
  have hown : s.vm.findClass RX4 = some m.cls := findClass_of_methodNamed B.named
  have hlocks := B.notSynchronized
  subst hsz
  have hD := hD0.self (sz := s.heap.size)
  generalize hAe : va_A [(h0, .inr (3, [.ref wk, x1, x2, x3])), (wk, .inl (k 0, 136, .inl f))] s.heap.size = A at hD ⊢
  have hA : ∀ q : Nat, s.heap.size ≤ q → A q := fun q h => by rw [← hAe]; exact Or.inr h
  have hS : va_S A s.heap s.heap [] := va_S.rf
  have hP : va_P G vwCl [(h0, .inr (3, [.ref wk, x1, x2, x3])), (wk, .inl (k 0, 136, .inl f))] s.heap := hP
  refine hvar hP hS (fun H locs hP hS => ?_)
  have hl := lv_entry ([.ref h0, .long p0]) (n := 8) (Nat.le_of_ble_eq_true rfl)
  rw [lg_entry_eq]
  generalize (lg_sl ([.ref h0, .long p0]) ++ List.replicate (8 - (lg_sl ([.ref h0, .long p0])).length) Slot.unset).toArray = ls at hl ⊢
  have hl : lv_has ls 8 [(0, .ref h0), (1, .long p0)] := hl
  refine lv_iconst (v := 0) hx hb dX4_build_0 (by decide) ?_
  refine lv_istore_n (lv' := [(3, .int 0), (0, .ref h0), (1, .long p0)]) hx hb dX4_build_1 rfl hl (by decide) rfl (fun ls hl => ?_)
  obtain ⟨j1, kj1, ej1, hj1⟩ : ∃ j : Nat, j = 0 ∧ nI j = (0 : Int32) ∧ j ≤ 136 := ⟨0, rfl, rfl, by decide⟩
  replace hl : lv_has ls 8 [(3, .int (nI j1)), (0, .ref h0), (1, .long p0)] := by rw [ej1]; exact hl
  obtain ⟨f2, ef2⟩ : ∃ x : Nat → Int32, x = (f) := ⟨_, rfl⟩
  replace hP : va_P G vwCl [(h0, .inr (3, [.ref wk, x1, x2, x3])), (wk, .inl (k 0, 136, .inl f2))] H := by rw [ef2]; exact hP
  replace hD : va_D A [(h0, .inr (3, [.ref wk, x1, x2, x3])), (wk, .inl (k 0, 136, .inl f2))] := by rw [ef2]; exact hD
  clear ef2
  clear kj1 ej1
  obtain ⟨nj1, hnj1⟩ : ∃ n : Nat, 136 < j1 + n := ⟨137, by omega⟩
  induction nj1 generalizing j1 ls H locs f2 with
  | zero => exact absurd hnj1 (by omega)
  | succ nj1 ihj1 =>
    refine lv_iload_n hx hb dX4_build_2 rfl (lv_at hl 0 rfl) ?_
    refine lv_sipush (v := 136) hx hb dX4_build_3 (by decide) ?_
    refine lv_icmp_ge (tgt := 24) hx hb dX4_build_6 (by decide) (fun c3 => ?_) (fun c3 => ?_)
    · skip
      have hge : 136 ≤ j1 := (nI_leI (a := 136) (b := j1) (by omega) (by omega)).mp c3
      refine lv_lload_n hx hb dX4_build_24 rfl (lv_at hl 2 rfl) ?_
      refine lv_lstore_n (lv' := [(3, .long p0), (0, .ref h0), (1, .long p0)]) hx hb dX4_build_25 rfl hl (by decide) rfl (fun ls hl => ?_)
      refine lv_sipush (v := 135) hx hb dX4_build_26 (by decide) ?_
      refine lv_istore (lv' := [(5, .int 135), (3, .long p0), (0, .ref h0), (1, .long p0)]) hx hb dX4_build_29 hl (by decide) rfl (fun ls hl => ?_)
      obtain ⟨j4, ej4, hj4⟩ : ∃ j : Nat, nI j = (135 : Int32) ∧ j ≤ 135 := ⟨135, rfl, by decide⟩
      replace hl : lv_has ls 8 [(5, .int (nI j4)), (3, .long p0), (0, .ref h0), (1, .long p0)] := by rw [ej4]; exact hl
      clear ej4
      obtain ⟨w5, ew5⟩ : ∃ x : Int64, x = p0 := ⟨_, rfl⟩
      replace hl : lv_has ls 8 [(5, .int (nI j4)), (3, .long w5), (0, .ref h0), (1, .long p0)] := by rw [ew5]; exact hl
      clear ew5
      induction j4 generalizing ls H locs f2 w5 with
      | zero =>
        refine lv_iload hx hb dX4_build_31 (lv_at hl 0 rfl) ?_
        refine lv_if_le (tgt := 97) hx hb dX4_build_33 (by decide) (fun _ => ?_) (fun c9 => absurd (by decide) c9)
        refine lv_aload_n hx hb dX4_build_97 rfl (lv_at hl 2 rfl) ?_
        refine lv_iconst (v := 1) hx hb dX4_build_98 (by decide) ?_
        refine va_put (D := G) (ci := 3) (v := .int 1) (ty := .boolean) (C := RX4) (T := TX4) (N := 4) hx hb hts i_c_X4_build_X4 tyX4 tyX4_ok nmX4 hown hK hP hD hS 0 rfl rfl 1 (by decide) (hts (.fieldLink RX4 19 "TileHouse$Wall" "stands" "Z") (by decide +kernel)) (fun _ h9 => h9) rfl (by decide +kernel) (by decide) rfl (Nat.le_of_ble_eq_true rfl) dX4_build_99 (fun H locs hP hD hS => ?_)
        replace hP : va_P G vwCl [(h0, .inr (3, [.ref wk, .int 1, x2, x3])), (wk, .inl (k 0, 136, .inl f2))] H := hP
        replace hD : va_D A [(h0, .inr (3, [.ref wk, .int 1, x2, x3])), (wk, .inl (k 0, 136, .inl f2))] := hD
        refine lv_aload_n hx hb dX4_build_102 rfl (lv_at hl 2 rfl) ?_
        refine lv_bipush (v := 52) hx hb dX4_build_103 (by decide) ?_
        refine va_put (D := G) (ci := 3) (v := .int 52) (ty := .int) (C := RX4) (T := TX4) (N := 4) hx hb hts i_c_X4_build_X4 tyX4 tyX4_ok nmX4 hown hK hP hD hS 0 rfl rfl 2 (by decide) (hts (.fieldLink RX4 23 "TileHouse$Wall" "next" "I") (by decide +kernel)) (fun _ h9 => h9) rfl (by decide +kernel) rfl rfl (Nat.le_of_ble_eq_true rfl) dX4_build_105 (fun H locs hP hD hS => ?_)
        replace hP : va_P G vwCl [(h0, .inr (3, [.ref wk, .int 1, .int 52, x3])), (wk, .inl (k 0, 136, .inl f2))] H := hP
        replace hD : va_D A [(h0, .inr (3, [.ref wk, .int 1, .int 52, x3])), (wk, .inl (k 0, 136, .inl f2))] := hD
        refine lv_aload_n hx hb dX4_build_108 rfl (lv_at hl 2 rfl) ?_
        refine lv_iconst (v := 0) hx hb dX4_build_109 (by decide) ?_
        refine va_put (D := G) (ci := 3) (v := .int 0) (ty := .int) (C := RX4) (T := TX4) (N := 4) hx hb hts i_c_X4_build_X4 tyX4 tyX4_ok nmX4 hown hK hP hD hS 0 rfl rfl 3 (by decide) (hts (.fieldLink RX4 27 "TileHouse$Wall" "fours" "I") (by decide +kernel)) (fun _ h9 => h9) rfl (by decide +kernel) rfl rfl (Nat.le_of_ble_eq_true rfl) dX4_build_110 (fun H locs hP hD hS => ?_)
        replace hP : va_P G vwCl [(h0, .inr (3, [.ref wk, .int 1, .int 52, .int 0])), (wk, .inl (k 0, 136, .inl f2))] H := hP
        replace hD : va_D A [(h0, .inr (3, [.ref wk, .int 1, .int 52, .int 0])), (wk, .inl (k 0, 136, .inl f2))] := hD
        refine W.widen (k := 0) (n := 0) (Nat.le_of_ble_eq_true rfl) (Nat.le_of_ble_eq_true rfl) ?_
        exact W.vret hx hb hr (fun t ht hW => ⟨⟨(f2), rfl, trivial, ⟨by rw [ht]; exact hP.sub [0, 1] rfl, hD.sub [0, 1] (by decide) rfl⟩⟩, hS.F ht⟩) hS.2.2 dX4_build_113
      | succ j4 ihj4 =>
        refine lv_iload hx hb dX4_build_31 (lv_at hl 0 rfl) ?_
        refine lv_if_le (tgt := 97) hx hb dX4_build_33 (by decide) (fun c9 => absurd c9 (nI_nle (by omega) (by omega))) (fun _ => ?_)
        refine lv_lload_n hx hb dX4_build_36 rfl (lv_at hl 1 rfl) ?_
        refine lv_ldc2 (v := 6364136223846793005) hx hb hown (hts (.constantLong RX4 15 (6364136223846793005)) (by decide +kernel)) dX4_build_37 ?_
        refine lv_lmul hx hb dX4_build_40 ?_
        refine lv_topl (fun v6 ev6 => ?_)
        refine lv_ldc2 (v := 1442695040888963407) hx hb hown (hts (.constantLong RX4 17 (1442695040888963407)) (by decide +kernel)) dX4_build_41 ?_
        refine lv_ladd hx hb dX4_build_44 ?_
        refine lv_topl (fun v7 ev7 => ?_)
        refine lv_lstore_n (lv' := [(3, .long v7), (5, .int (nI (j4 + 1))), (0, .ref h0), (1, .long p0)]) hx hb dX4_build_45 rfl hl (by decide) rfl (fun ls hl => ?_)
        refine lv_lload_n hx hb dX4_build_46 rfl (lv_at hl 0 rfl) ?_
        refine lv_bipush (v := 33) hx hb dX4_build_47 (by decide) ?_
        refine lv_lushr hx hb dX4_build_49 rfl ?_
        refine lv_topl (fun v8 ev8 => ?_)
        refine lv_iload hx hb dX4_build_50 (lv_at hl 1 rfl) ?_
        refine lv_iconst (v := 1) hx hb dX4_build_52 (by decide) ?_
        refine lv_iadd hx hb dX4_build_53 ?_
        refine lv_topi (fun v9 ev9 => ?_)
        have nv9 : v9 = nI (j4 + 1 + 1) := by rw [ev9]; exact nI_add (j4 + 1) (1)
        refine lv_i2l hx hb dX4_build_54 rfl ?_
        refine lv_topl (fun v10 ev10 => ?_)
        refine lv_lrem hx hb dX4_build_55 (lz nv9 (by omega) ev10) ?_
        refine lv_topl (fun v11 ev11 => ?_)
        refine lv_l2i hx hb dX4_build_56 rfl ?_
        refine lv_topi (fun v12 ev12 => ?_)
        refine lv_istore (lv' := [(6, .int v12), (3, .long v7), (5, .int (nI (j4 + 1))), (0, .ref h0), (1, .long p0)]) hx hb dX4_build_57 hl (by decide) rfl (fun ls hl => ?_)
        refine lv_aload_n hx hb dX4_build_59 rfl (lv_at hl 3 rfl) ?_
        refine va_get (D := G) (ci := 3) (v := .ref wk) (C := RX4) (T := TX4) (N := 4) hx hb hts i_c_X4_build_X4 hown hK hP 0 rfl rfl 0 (by decide) (hts (.fieldLink RX4 11 "TileHouse$Wall" "kinds" "[I") (by decide +kernel)) (fun _ h9 => h9) rfl dX4_build_60 ?_
        refine lv_iload hx hb dX4_build_63 (lv_at hl 2 rfl) ?_
        refine va_iald hx hb hK hP 1 0 rfl rfl (inN (rfl : (nI (j4 + 1)) = nI (j4 + 1)) (by omega) (by decide)) dX4_build_65 ?_
        refine lv_topi (fun v13 ev13 => ?_)
        refine lv_istore (lv' := [(7, .int v13), (6, .int v12), (3, .long v7), (5, .int (nI (j4 + 1))), (0, .ref h0), (1, .long p0)]) hx hb dX4_build_66 hl (by decide) rfl (fun ls hl => ?_)
        refine lv_aload_n hx hb dX4_build_68 rfl (lv_at hl 4 rfl) ?_
        refine va_get (D := G) (ci := 3) (v := .ref wk) (C := RX4) (T := TX4) (N := 4) hx hb hts i_c_X4_build_X4 hown hK hP 0 rfl rfl 0 (by decide) (hts (.fieldLink RX4 11 "TileHouse$Wall" "kinds" "[I") (by decide +kernel)) (fun _ h9 => h9) rfl dX4_build_69 ?_
        refine lv_iload hx hb dX4_build_72 (lv_at hl 3 rfl) ?_
        refine lv_aload_n hx hb dX4_build_74 rfl (lv_at hl 4 rfl) ?_
        refine va_get (D := G) (ci := 3) (v := .ref wk) (C := RX4) (T := TX4) (N := 4) hx hb hts i_c_X4_build_X4 hown hK hP 0 rfl rfl 0 (by decide) (hts (.fieldLink RX4 11 "TileHouse$Wall" "kinds" "[I") (by decide +kernel)) (fun _ h9 => h9) rfl dX4_build_75 ?_
        refine lv_iload hx hb dX4_build_78 (lv_at hl 1 rfl) ?_
        refine va_iald hx hb hK hP 1 0 rfl rfl (in_mono (shuf (by omega) nv9 ev10 ev8 ev11 ev12) (by omega)) dX4_build_80 ?_
        refine lv_topi (fun v14 ev14 => ?_)
        refine va_iast hx hb hK hP hD hS 1 0 rfl rfl (inN (rfl : (nI (j4 + 1)) = nI (j4 + 1)) (by omega) (by decide)) dX4_build_81 (fun H locs hP hD hS => ?_)
        replace hP : va_P G vwCl [(h0, .inr (3, [.ref wk, x1, x2, x3])), (wk, .inl (k 0, 136, .inl (upd f2 (nI (j4 + 1)).toNatClampNeg v14)))] H := hP
        replace hD : va_D A [(h0, .inr (3, [.ref wk, x1, x2, x3])), (wk, .inl (k 0, 136, .inl (upd f2 (nI (j4 + 1)).toNatClampNeg v14)))] := hD
        refine lv_aload_n hx hb dX4_build_82 rfl (lv_at hl 4 rfl) ?_
        refine va_get (D := G) (ci := 3) (v := .ref wk) (C := RX4) (T := TX4) (N := 4) hx hb hts i_c_X4_build_X4 hown hK hP 0 rfl rfl 0 (by decide) (hts (.fieldLink RX4 11 "TileHouse$Wall" "kinds" "[I") (by decide +kernel)) (fun _ h9 => h9) rfl dX4_build_83 ?_
        refine lv_iload hx hb dX4_build_86 (lv_at hl 1 rfl) ?_
        refine lv_iload hx hb dX4_build_88 (lv_at hl 0 rfl) ?_
        refine va_iast hx hb hK hP hD hS 1 0 rfl rfl (in_mono (shuf (by omega) nv9 ev10 ev8 ev11 ev12) (by omega)) dX4_build_90 (fun H locs hP hD hS => ?_)
        replace hP : va_P G vwCl [(h0, .inr (3, [.ref wk, x1, x2, x3])), (wk, .inl (k 0, 136, .inl (upd (upd f2 (nI (j4 + 1)).toNatClampNeg v14) v12.toNatClampNeg v13)))] H := hP
        replace hD : va_D A [(h0, .inr (3, [.ref wk, x1, x2, x3])), (wk, .inl (k 0, 136, .inl (upd (upd f2 (nI (j4 + 1)).toNatClampNeg v14) v12.toNatClampNeg v13)))] := hD
        obtain ⟨v15, ev15⟩ : ∃ y : Int32, y = (nI (j4 + 1)) + (-1) := ⟨_, rfl⟩
        refine lv_iinc (v := v15) (lv' := [(5, .int v15), (7, .int v13), (6, .int v12), (3, .long v7), (0, .ref h0), (1, .long p0)]) hx hb dX4_build_91 hl (k := 3) rfl (by rw [ev15]; rfl) (by decide) rfl (fun ls hl => ?_)
        refine lv_goto (tgt := 31) hx hb dX4_build_94 (by decide) ?_
        exact ihj4 (hj4 := by omega) (ls := ls) (hl := by rw [← pk_m1 j4, ← ev15]; exact lv_sub hl [0, 3, 4, 5] rfl) (H := H) (locs := locs) (hP := hP.sub [0, 1] rfl) (hS := hS) (hD := hD.sub [0, 1] (by decide) rfl) (f2 := upd (upd f2 (nI (j4 + 1)).toNatClampNeg v14) v12.toNatClampNeg v13) (w5 := v7)
    · skip
      have hltj1 : j1 < 136 := Nat.lt_of_not_le (fun h9 => c3 (nI_le h9 (by omega)))
      refine lv_aload_n hx hb dX4_build_9 rfl (lv_at hl 1 rfl) ?_
      refine va_get (D := G) (ci := 3) (v := .ref wk) (C := RX4) (T := TX4) (N := 4) hx hb hts i_c_X4_build_X4 hown hK hP 0 rfl rfl 0 (by decide) (hts (.fieldLink RX4 11 "TileHouse$Wall" "kinds" "[I") (by decide +kernel)) (fun _ h9 => h9) rfl dX4_build_10 ?_
      refine lv_iload_n hx hb dX4_build_13 rfl (lv_at hl 0 rfl) ?_
      refine lv_iload_n hx hb dX4_build_14 rfl (lv_at hl 0 rfl) ?_
      refine lv_iconst (v := 4) hx hb dX4_build_15 (by decide) ?_
      refine lv_idiv hx hb dX4_build_16 (by decide) ?_
      refine lv_topi (fun v16 ev16 => ?_)
      refine va_iast hx hb hK hP hD hS 1 0 rfl rfl (inN (rfl : (nI j1) = nI (j1)) (by omega) (by decide)) dX4_build_17 (fun H locs hP hD hS => ?_)
      replace hP : va_P G vwCl [(h0, .inr (3, [.ref wk, x1, x2, x3])), (wk, .inl (k 0, 136, .inl (upd f2 (nI j1).toNatClampNeg v16)))] H := hP
      replace hD : va_D A [(h0, .inr (3, [.ref wk, x1, x2, x3])), (wk, .inl (k 0, 136, .inl (upd f2 (nI j1).toNatClampNeg v16)))] := hD
      obtain ⟨v17, ev17⟩ : ∃ y : Int32, y = (nI j1) + 1 := ⟨_, rfl⟩
      have nv17 : v17 = nI (j1 + 1) := by rw [ev17]; exact nI_add (j1) (1)
      refine lv_iinc (v := v17) (lv' := [(3, .int v17), (0, .ref h0), (1, .long p0)]) hx hb dX4_build_18 hl (k := 0) rfl (by rw [ev17]; rfl) (by decide) rfl (fun ls hl => ?_)
      refine lv_goto (tgt := 2) hx hb dX4_build_21 (by decide) ?_
      exact ihj1 (j1 := j1 + 1) (hj1 := by omega) (hnj1 := by omega) (ls := ls) (hl := by rw [nI_succ, ← ev17]; exact lv_sub hl [0, 1, 2] rfl) (H := H) (locs := locs) (hP := hP.sub [0, 1] rfl) (hS := hS) (hD := hD.sub [0, 1] (by decide) rfl) (f2 := upd f2 (nI j1).toNatClampNeg v16)
def v_c_X4_kindAt1 : List Cond := .code yX4_kindAt cX4_kindAt 2 (some .int) :: ([.fieldLink RX4 19 "TileHouse$Wall" "stands" "Z", .fieldLink RX4 11 "TileHouse$Wall" "kinds" "[I"] ++ (wsX40 ++ ([])))
theorem vg_c_X4_kindAt1 : ∀ w ∈ v_c_X4_kindAt1, goodWord w = true := vg_c (c := .code yX4_kindAt cX4_kindAt 2 (some .int)) (l := [.fieldLink RX4 19 "TileHouse$Wall" "stands" "Z", .fieldLink RX4 11 "TileHouse$Wall" "kinds" "[I"]) (by decide +kernel) (vg_a vgX4 (vg_nil))
theorem i_c_X4_kindAt1_X4 : ∀ w ∈ u_ws RX4 TX4 4, w ∈ v_c_X4_kindAt1 := fun _ h => List.mem_cons_of_mem _ (List.mem_append_right _ (List.mem_append_left _ h))
set_option maxHeartbeats 4000000 in
set_option maxRecDepth 100000 in
theorem c_X4_kindAt1 (l : Launch) (G : va_G) (k : Nat → ClassId) (h0 : Nat) (wk : Nat) (f : Nat → Int32) (p0 : Int32) (x2 : Value) (x3 : Value) : Met l yX4_kindAt v_c_X4_kindAt1 ({ frames := 0, cells := 0, slots := 0, locals := 0 }) (va_Pc [.ref h0, .int p0] (pr G k [(h0, .inr (3, [.ref wk, .int 1, x2, x3])), (wk, .inl (k 0, 136, .inl f))])) (vp_Si (fun _ => True)) 0 0 (fun _ => False) := by
  refine Met.ofW (cc := cX4_kindAt) (maxL := 2) (ret := (some .int)) (by decide) rfl ?_
  intro p e s m args below meth c s₁ B hml hv
  obtain ⟨rfl, hP, hK, hN⟩ := hv
  have hx := B.exec
  have hb := B.bytes
  have hr := B.returns
  have hts := atoms_spec (ws := v_c_X4_kindAt1) B.pre
  have hown : s.vm.findClass RX4 = some m.cls := findClass_of_methodNamed B.named
  have hlocks := B.notSynchronized
  have hl := lv_entry ([.ref h0, .int p0]) (n := 2) (Nat.le_of_ble_eq_true rfl)
  rw [lg_entry_eq]
  generalize (lg_sl ([.ref h0, .int p0]) ++ List.replicate (2 - (lg_sl ([.ref h0, .int p0])).length) Slot.unset).toArray = ls at hl ⊢
  have hl : lv_has ls 2 [(0, .ref h0), (1, .int p0)] := hl
  refine lv_aload_n hx hb dX4_kindAt_0 rfl (lv_at hl 0 rfl) ?_
  refine va_get (D := G) (ci := 3) (v := .int 1) (C := RX4) (T := TX4) (N := 4) hx hb hts i_c_X4_kindAt1_X4 hown hK hP 0 rfl rfl 1 (by decide) (hts (.fieldLink RX4 19 "TileHouse$Wall" "stands" "Z") (by decide +kernel)) (fun _ h9 => h9) rfl dX4_kindAt_1 ?_
  refine lv_if_eq (tgt := 27) hx hb dX4_kindAt_4 (by decide) (fun c9 => absurd c9 (by decide)) (fun _ => ?_)
  refine lv_iload_n hx hb dX4_kindAt_7 rfl (lv_at hl 1 rfl) ?_
  refine lv_if_lt (tgt := 27) hx hb dX4_kindAt_8 (by decide) (fun c1 => ?_) (fun c1 => ?_)
  · skip
    refine lv_iconst (v := (-1)) hx hb dX4_kindAt_27 (by decide) ?_
    exact W.iret (v := (-1)) hx hb hr (fun t ht hW => ⟨(-1), rfl, trivial, ht⟩) (fun _ h => by cases h) dX4_kindAt_28
  · skip
    refine lv_iload_n hx hb dX4_kindAt_11 rfl (lv_at hl 1 rfl) ?_
    refine lv_sipush (v := 136) hx hb dX4_kindAt_12 (by decide) ?_
    refine lv_icmp_ge (tgt := 27) hx hb dX4_kindAt_15 (by decide) (fun c2 => ?_) (fun c2 => ?_)
    · skip
      refine lv_iconst (v := (-1)) hx hb dX4_kindAt_27 (by decide) ?_
      exact W.iret (v := (-1)) hx hb hr (fun t ht hW => ⟨(-1), rfl, trivial, ht⟩) (fun _ h => by cases h) dX4_kindAt_28
    · skip
      refine lv_aload_n hx hb dX4_kindAt_18 rfl (lv_at hl 0 rfl) ?_
      refine va_get (D := G) (ci := 3) (v := .ref wk) (C := RX4) (T := TX4) (N := 4) hx hb hts i_c_X4_kindAt1_X4 hown hK hP 0 rfl rfl 0 (by decide) (hts (.fieldLink RX4 11 "TileHouse$Wall" "kinds" "[I") (by decide +kernel)) (fun _ h9 => h9) rfl dX4_kindAt_19 ?_
      refine lv_iload_n hx hb dX4_kindAt_22 rfl (lv_at hl 1 rfl) ?_
      refine va_iald hx hb hK hP 1 0 rfl rfl (in_of (M := 136) rfl (by assumption) (by assumption)) dX4_kindAt_23 ?_
      refine lv_topi (fun v3 ev3 => ?_)
      refine lv_goto (tgt := 28) hx hb dX4_kindAt_24 (by decide) ?_
      exact W.iret (v := v3) hx hb hr (fun t ht hW => ⟨v3, rfl, trivial, ht⟩) (fun _ h => by cases h) dX4_kindAt_28
def v_c_X4_draw1 : List Cond := .code yX4_draw cX4_draw 1 (some .int) :: ([.fieldLink RX4 23 "TileHouse$Wall" "next" "I", .methodLink RX4 30 yX4_kindAt, .instanceMethod yX4_kindAt, .selects RX4 yX4_kindAt yX4_kindAt, .initialized RX4] ++ (wsX40 ++ (v_c_X4_kindAt1 ++ ([]))))
theorem vg_c_X4_draw1 : ∀ w ∈ v_c_X4_draw1, goodWord w = true := vg_c (c := .code yX4_draw cX4_draw 1 (some .int)) (l := [.fieldLink RX4 23 "TileHouse$Wall" "next" "I", .methodLink RX4 30 yX4_kindAt, .instanceMethod yX4_kindAt, .selects RX4 yX4_kindAt yX4_kindAt, .initialized RX4]) (by decide +kernel) (vg_a vgX4 (vg_a vg_c_X4_kindAt1 (vg_nil)))
theorem i_c_X4_draw1_X4 : ∀ w ∈ u_ws RX4 TX4 4, w ∈ v_c_X4_draw1 := fun _ h => List.mem_cons_of_mem _ (List.mem_append_right _ (List.mem_append_left _ h))
theorem g_c_X4_draw1_c_X4_kindAt1_30 : GoodIn v_c_X4_draw1 (wsV RX4 30 RX4 yX4_kindAt v_c_X4_kindAt1) := goodIn_app (goodIn_of _ (by decide +kernel)) (fun w h => ⟨List.mem_cons_of_mem _ (List.mem_append_right _ (List.mem_append_right _ (List.mem_append_left _ h))), good_of_word (vg_c_X4_kindAt1 w h)⟩)
set_option maxHeartbeats 4000000 in
set_option maxRecDepth 100000 in
theorem c_X4_draw1 (l : Launch) (G : va_G) (k : Nat → ClassId) (sz : Nat) (h0 : Nat) (wk : Nat) (f : Nat → Int32) (nx : Int32) (x3 : Value) : Met l yX4_draw v_c_X4_draw1 ({ frames := 1, cells := 0, slots := 0, locals := 21 }) (va_Pc [.ref h0] (pq G k [(h0, .inr (3, [.ref wk, .int 1, .int nx, x3])), (wk, .inl (k 0, 136, .inl f))] sz)) (va_Qi (fun _ (_ : Unit) => True) (fun (_ : Unit) _ => True) (va_A [(h0, .inr (3, [.ref wk, .int 1, .int nx, x3])), (wk, .inl (k 0, 136, .inl f))] sz)) 0 0 (va_A [(h0, .inr (3, [.ref wk, .int 1, .int nx, x3])), (wk, .inl (k 0, 136, .inl f))] sz) := by
  refine Met.ofW (cc := cX4_draw) (maxL := 1) (ret := (some .int)) (by decide) rfl ?_
  intro p e s m args below meth c s₁ B hml hv
  obtain ⟨rfl, hsz, ⟨hP, hK, hN⟩, hD0⟩ := hv
  have hx := B.exec
  have hb := B.bytes
  have hr := B.returns
  have hts := atoms_spec (ws := v_c_X4_draw1) B.pre
  have hown : s.vm.findClass RX4 = some m.cls := findClass_of_methodNamed B.named
  have hlocks := B.notSynchronized
  subst hsz
  have hD := hD0.self (sz := s.heap.size)
  generalize hAe : va_A [(h0, .inr (3, [.ref wk, .int 1, .int nx, x3])), (wk, .inl (k 0, 136, .inl f))] s.heap.size = A at hD ⊢
  have hA : ∀ q : Nat, s.heap.size ≤ q → A q := fun q h => by rw [← hAe]; exact Or.inr h
  have hS : va_S A s.heap s.heap [] := va_S.rf
  have hP : va_P G vwCl [(h0, .inr (3, [.ref wk, .int 1, .int nx, x3])), (wk, .inl (k 0, 136, .inl f))] s.heap := hP
  refine hvar hP hS (fun H locs hP hS => ?_)
  have hl := lv_entry ([.ref h0]) (n := 1) (Nat.le_of_ble_eq_true rfl)
  rw [lg_entry_eq]
  generalize (lg_sl ([.ref h0]) ++ List.replicate (1 - (lg_sl ([.ref h0])).length) Slot.unset).toArray = ls at hl ⊢
  have hl : lv_has ls 1 [(0, .ref h0)] := hl
  refine lv_aload_n hx hb dX4_draw_0 rfl (lv_at hl 0 rfl) ?_
  refine lv_dup hx hb dX4_draw_1 rfl ?_
  refine va_get (D := G) (ci := 3) (v := .int nx) (C := RX4) (T := TX4) (N := 4) hx hb hts i_c_X4_draw1_X4 hown hK hP 0 rfl rfl 2 (by decide) (hts (.fieldLink RX4 23 "TileHouse$Wall" "next" "I") (by decide +kernel)) (fun _ h9 => h9) rfl dX4_draw_2 ?_
  refine lv_iconst (v := 1) hx hb dX4_draw_5 (by decide) ?_
  refine lv_iadd hx hb dX4_draw_6 ?_
  refine lv_topi (fun v1 ev1 => ?_)
  refine va_put (D := G) (ci := 3) (v := .int v1) (ty := .int) (C := RX4) (T := TX4) (N := 4) hx hb hts i_c_X4_draw1_X4 tyX4 tyX4_ok nmX4 hown hK hP hD hS 0 rfl rfl 2 (by decide) (hts (.fieldLink RX4 23 "TileHouse$Wall" "next" "I") (by decide +kernel)) (fun _ h9 => h9) rfl (by decide +kernel) rfl rfl (Nat.le_of_ble_eq_true rfl) dX4_draw_7 (fun H locs hP hD hS => ?_)
  replace hP : va_P G vwCl [(h0, .inr (3, [.ref wk, .int 1, .int v1, x3])), (wk, .inl (k 0, 136, .inl f))] H := hP
  replace hD : va_D A [(h0, .inr (3, [.ref wk, .int 1, .int v1, x3])), (wk, .inl (k 0, 136, .inl f))] := hD
  refine lv_aload_n hx hb dX4_draw_10 rfl (lv_at hl 0 rfl) ?_
  refine lv_aload_n hx hb dX4_draw_11 rfl (lv_at hl 0 rfl) ?_
  refine va_get (D := G) (ci := 3) (v := .int v1) (C := RX4) (T := TX4) (N := 4) hx hb hts i_c_X4_draw1_X4 hown hK hP 0 rfl rfl 2 (by decide) (hts (.fieldLink RX4 23 "TileHouse$Wall" "next" "I") (by decide +kernel)) (fun _ h9 => h9) rfl dX4_draw_12 ?_
  refine lv_iconst (v := 1) hx hb dX4_draw_15 (by decide) ?_
  refine lv_isub hx hb dX4_draw_16 ?_
  refine lv_topi (fun v2 ev2 => ?_)
  have hPc := hP.sub (ws' := [(h0, .inr (3, [.ref wk, .int 1, .int v1, x3])), (wk, .inl (k 0, 136, .inl f))]) [0, 1] rfl
  refine q_calli (va_runV (As := [.int v2]) (rest := []) ⟨hx, hb, hml, hown, hts⟩ (c_X4_kindAt1 l G k h0 wk f v2 (.int v1) (x3)) (cwV 1 hts g_c_X4_draw1_c_X4_kindAt1_30 rfl rfl rfl (by decide +kernel) ⟨Nat.le_of_ble_eq_true rfl, Nat.le_of_ble_eq_true rfl⟩) ⟨pr_bl, va_recv hK hPc (ci := 3) (q0 := 0) rfl rfl, pr_pre hPc hK hN⟩ rfl rfl hl.1 rfl (lv_room (Nat.le_of_ble_eq_true rfl)) dX4_draw_17 ⟨Nat.le_of_ble_eq_true rfl, Nat.le_of_ble_eq_true rfl⟩) (fun r3 hr3 => ?_)
  refine W.widen (k := 0) (n := 0) (Nat.le_of_ble_eq_true rfl) (Nat.le_of_ble_eq_true rfl) ?_
  exact W.iret (v := r3) hx hb hr (fun t ht hW => ⟨⟨r3, (), rfl, trivial, trivial⟩, hS.F ht⟩) hS.2.2 dX4_draw_20
def v_c_X2_startHand : List Cond := .code yX2_startHand cX2_startHand 1 none :: ([.fieldLink RX2 12 "TileHouse$Seat" "tiles" "LTileHouse$Tiles;", .methodLink RX2 26 yX3_empty, .instanceMethod yX3_empty, .selects RX3 yX3_empty yX3_empty, .initialized RX3, .fieldLink RX2 29 "TileHouse$Seat" "discards" "I", .fieldLink RX2 32 "TileHouse$Seat" "thrownKinds" "J", .fieldLink RX2 36 "TileHouse$Seat" "bet" "I", .fieldLink RX2 39 "TileHouse$Seat" "owes" "Z", .fieldLink RX2 43 "TileHouse$Seat" "atOnce" "Z", .fieldLink RX2 46 "TileHouse$Seat" "letGo" "Z", .fieldLink RX2 49 "TileHouse$Seat" "says" "Z"] ++ (wsX20 ++ (v_c_X3_empty ++ ([]))))
theorem vg_c_X2_startHand : ∀ w ∈ v_c_X2_startHand, goodWord w = true := vg_c (c := .code yX2_startHand cX2_startHand 1 none) (l := [.fieldLink RX2 12 "TileHouse$Seat" "tiles" "LTileHouse$Tiles;", .methodLink RX2 26 yX3_empty, .instanceMethod yX3_empty, .selects RX3 yX3_empty yX3_empty, .initialized RX3, .fieldLink RX2 29 "TileHouse$Seat" "discards" "I", .fieldLink RX2 32 "TileHouse$Seat" "thrownKinds" "J", .fieldLink RX2 36 "TileHouse$Seat" "bet" "I", .fieldLink RX2 39 "TileHouse$Seat" "owes" "Z", .fieldLink RX2 43 "TileHouse$Seat" "atOnce" "Z", .fieldLink RX2 46 "TileHouse$Seat" "letGo" "Z", .fieldLink RX2 49 "TileHouse$Seat" "says" "Z"]) (by decide +kernel) (vg_a vgX2 (vg_a vg_c_X3_empty (vg_nil)))
theorem i_c_X2_startHand_X2 : ∀ w ∈ u_ws RX2 TX2 10, w ∈ v_c_X2_startHand := fun _ h => List.mem_cons_of_mem _ (List.mem_append_right _ (List.mem_append_left _ h))
theorem g_c_X2_startHand_c_X3_empty_26 : GoodIn v_c_X2_startHand (wsV RX2 26 RX3 yX3_empty v_c_X3_empty) := goodIn_app (goodIn_of _ (by decide +kernel)) (fun w h => ⟨List.mem_cons_of_mem _ (List.mem_append_right _ (List.mem_append_right _ (List.mem_append_left _ h))), good_of_word (vg_c_X3_empty w h)⟩)
set_option maxHeartbeats 4000000 in
set_option maxRecDepth 100000 in
theorem c_X2_startHand (l : Launch) (G : va_G) (k : Nat → ClassId) (sz : Nat) (h0 : Nat) (t0 : Nat) (fr : Nat) (al : Nat) (f : Nat → Int32) (g : Nat → Int32) (x1 : Value) (x2 : Value) (x3 : Value) (x4 : Value) (x5 : Value) (x6 : Value) (x7 : Value) (x8 : Value) (x9 : Value) (oz2 : Value) (oz3 : Value) (oz4 : Value) (oz5 : Value) : Met l yX2_startHand v_c_X2_startHand ({ frames := 1, cells := 0, slots := 0, locals := 21 }) (va_Pc [.ref h0] (pq G k [(h0, .inr (1, [.ref t0, x1, x2, x3, x4, x5, x6, x7, x8, x9])), (t0, .inr (2, [.ref fr, .ref al, oz2, oz3, oz4, oz5])), (fr, .inl (k 0, 34, .inl f)), (al, .inl (k 0, 34, .inl g))] sz)) (va_Qv (fun _ : (Nat → Int32) × (Nat → Int32) => True) (fun u => pt G (va_A [(h0, .inr (1, [.ref t0, x1, x2, x3, x4, x5, x6, x7, x8, x9])), (t0, .inr (2, [.ref fr, .ref al, oz2, oz3, oz4, oz5])), (fr, .inl (k 0, 34, .inl f)), (al, .inl (k 0, 34, .inl g))] sz) [(h0, .inr (1, [.ref t0, x1, .int 0, .long 0, x4, .int 0, .int 0, .int 0, .int 0, .int 0])), (t0, .inr (2, [.ref fr, .ref al, oz2, oz3, .int 0, .int 0])), (fr, .inl (k 0, 34, .inl (u.1))), (al, .inl (k 0, 34, .inl (u.2)))]) (va_A [(h0, .inr (1, [.ref t0, x1, x2, x3, x4, x5, x6, x7, x8, x9])), (t0, .inr (2, [.ref fr, .ref al, oz2, oz3, oz4, oz5])), (fr, .inl (k 0, 34, .inl f)), (al, .inl (k 0, 34, .inl g))] sz)) 0 0 (va_A [(h0, .inr (1, [.ref t0, x1, x2, x3, x4, x5, x6, x7, x8, x9])), (t0, .inr (2, [.ref fr, .ref al, oz2, oz3, oz4, oz5])), (fr, .inl (k 0, 34, .inl f)), (al, .inl (k 0, 34, .inl g))] sz) := by
  refine Met.ofW (cc := cX2_startHand) (maxL := 1) (ret := none) (by decide) rfl ?_
  intro p e s m args below meth c s₁ B hml hv
  obtain ⟨rfl, hsz, ⟨hP, hK, hN⟩, hD0⟩ := hv
  have hx := B.exec
  have hb := B.bytes
  have hr := B.returns
  have hts := atoms_spec (ws := v_c_X2_startHand) B.pre
  have hown : s.vm.findClass RX2 = some m.cls := findClass_of_methodNamed B.named
  have hlocks := B.notSynchronized
  subst hsz
  have hD := hD0.self (sz := s.heap.size)
  generalize hAe : va_A [(h0, .inr (1, [.ref t0, x1, x2, x3, x4, x5, x6, x7, x8, x9])), (t0, .inr (2, [.ref fr, .ref al, oz2, oz3, oz4, oz5])), (fr, .inl (k 0, 34, .inl f)), (al, .inl (k 0, 34, .inl g))] s.heap.size = A at hD ⊢
  have hA : ∀ q : Nat, s.heap.size ≤ q → A q := fun q h => by rw [← hAe]; exact Or.inr h
  have hS : va_S A s.heap s.heap [] := va_S.rf
  have hP : va_P G vwCl [(h0, .inr (1, [.ref t0, x1, x2, x3, x4, x5, x6, x7, x8, x9])), (t0, .inr (2, [.ref fr, .ref al, oz2, oz3, oz4, oz5])), (fr, .inl (k 0, 34, .inl f)), (al, .inl (k 0, 34, .inl g))] s.heap := hP
  refine hvar hP hS (fun H locs hP hS => ?_)
  have hl := lv_entry ([.ref h0]) (n := 1) (Nat.le_of_ble_eq_true rfl)
  rw [lg_entry_eq]
  generalize (lg_sl ([.ref h0]) ++ List.replicate (1 - (lg_sl ([.ref h0])).length) Slot.unset).toArray = ls at hl ⊢
  have hl : lv_has ls 1 [(0, .ref h0)] := hl
  refine lv_aload_n hx hb dX2_startHand_0 rfl (lv_at hl 0 rfl) ?_
  refine va_get (D := G) (ci := 1) (v := .ref t0) (C := RX2) (T := TX2) (N := 10) hx hb hts i_c_X2_startHand_X2 hown hK hP 0 rfl rfl 0 (by decide) (hts (.fieldLink RX2 12 "TileHouse$Seat" "tiles" "LTileHouse$Tiles;") (by decide +kernel)) (fun _ h9 => h9) rfl dX2_startHand_1 ?_
  have hPc := hP.sub (ws' := [(t0, .inr (2, [.ref fr, .ref al, oz2, oz3, oz4, oz5])), (fr, .inl (k 0, 34, .inl f)), (al, .inl (k 0, 34, .inl g))]) [1, 2, 3] rfl
  have hDc := hD.sub (ws' := [(t0, .inr (2, [.ref fr, .ref al, oz2, oz3, oz4, oz5])), (fr, .inl (k 0, 34, .inl f)), (al, .inl (k 0, 34, .inl g))]) [1, 2, 3] (by decide) rfl
  have hFc := va_free (wc := [(t0, .inr (2, [.ref fr, .ref al, oz2, oz3, oz4, oz5])), (fr, .inl (k 0, 34, .inl f)), (al, .inl (k 0, 34, .inl g))]) hD hS hA [1, 2, 3] rfl
  refine va_callv (va_runV (As := []) (rest := []) ⟨hx, hb, hml, hown, hts⟩ (c_X3_empty l G k H.size t0 fr al f g (oz2) (oz3) (oz4) (oz5)) (cwV 0 hts g_c_X2_startHand_c_X3_empty_26 rfl rfl rfl (by decide +kernel) ⟨Nat.le_of_ble_eq_true rfl, Nat.le_of_ble_eq_true rfl⟩) ⟨pq_bl, va_recv hK hPc (ci := 2) (q0 := 0) rfl rfl, pq_pre hPc hDc hK hN⟩ rfl rfl hl.1 rfl (lv_room (Nat.le_of_ble_eq_true rfl)) dX2_startHand_4 ⟨Nat.le_of_ble_eq_true rfl, Nat.le_of_ble_eq_true rfl⟩) hS (fun q _ h => hFc q h) hFc (fun ur1 t H1 locs ht hvm hr1 hB hz1 hk1 hS => ?_)
  obtain ⟨f2, g3⟩ := ur1
  obtain ⟨hP1, hD1⟩ := hB
  rw [ht] at hP1
  obtain ⟨hP, hD⟩ := va_join (wr := [(h0, .inr (1, [.ref t0, x1, x2, x3, x4, x5, x6, x7, x8, x9]))]) (w1 := [(t0, .inr (2, [.ref fr, .ref al, oz2, oz3, .int 0, .int 0])), (fr, .inl (k 0, 34, .inl f2)), (al, .inl (k 0, 34, .inl g3))]) hP hD [1, 2, 3] [0] rfl rfl (by decide) (by decide) hk1 hFc hP1 hD1
  clear hP1 hD1
  generalize H1 = H at hP hS ⊢
  replace hP : va_P G vwCl [(h0, .inr (1, [.ref t0, x1, x2, x3, x4, x5, x6, x7, x8, x9])), (t0, .inr (2, [.ref fr, .ref al, oz2, oz3, .int 0, .int 0])), (fr, .inl (k 0, 34, .inl f2)), (al, .inl (k 0, 34, .inl g3))] H := hP
  replace hD : va_D A [(h0, .inr (1, [.ref t0, x1, x2, x3, x4, x5, x6, x7, x8, x9])), (t0, .inr (2, [.ref fr, .ref al, oz2, oz3, .int 0, .int 0])), (fr, .inl (k 0, 34, .inl f2)), (al, .inl (k 0, 34, .inl g3))] := hD
  refine lv_aload_n hx hb dX2_startHand_7 rfl (lv_at hl 0 rfl) ?_
  refine lv_iconst (v := 0) hx hb dX2_startHand_8 (by decide) ?_
  refine va_put (D := G) (ci := 1) (v := .int 0) (ty := .int) (C := RX2) (T := TX2) (N := 10) hx hb hts i_c_X2_startHand_X2 tyX2 tyX2_ok nmX2 hown hK hP hD hS 0 rfl rfl 2 (by decide) (hts (.fieldLink RX2 29 "TileHouse$Seat" "discards" "I") (by decide +kernel)) (fun _ h9 => h9) rfl (by decide +kernel) rfl rfl (Nat.le_of_ble_eq_true rfl) dX2_startHand_9 (fun H locs hP hD hS => ?_)
  replace hP : va_P G vwCl [(h0, .inr (1, [.ref t0, x1, .int 0, x3, x4, x5, x6, x7, x8, x9])), (t0, .inr (2, [.ref fr, .ref al, oz2, oz3, .int 0, .int 0])), (fr, .inl (k 0, 34, .inl f2)), (al, .inl (k 0, 34, .inl g3))] H := hP
  replace hD : va_D A [(h0, .inr (1, [.ref t0, x1, .int 0, x3, x4, x5, x6, x7, x8, x9])), (t0, .inr (2, [.ref fr, .ref al, oz2, oz3, .int 0, .int 0])), (fr, .inl (k 0, 34, .inl f2)), (al, .inl (k 0, 34, .inl g3))] := hD
  refine lv_aload_n hx hb dX2_startHand_12 rfl (lv_at hl 0 rfl) ?_
  refine lv_lconst (v := 0) hx hb dX2_startHand_13 (by decide) ?_
  refine va_put (D := G) (ci := 1) (v := .long 0) (ty := .long) (C := RX2) (T := TX2) (N := 10) hx hb hts i_c_X2_startHand_X2 tyX2 tyX2_ok nmX2 hown hK hP hD hS 0 rfl rfl 3 (by decide) (hts (.fieldLink RX2 32 "TileHouse$Seat" "thrownKinds" "J") (by decide +kernel)) (fun _ h9 => h9) rfl (by decide +kernel) rfl rfl (Nat.le_of_ble_eq_true rfl) dX2_startHand_14 (fun H locs hP hD hS => ?_)
  replace hP : va_P G vwCl [(h0, .inr (1, [.ref t0, x1, .int 0, .long 0, x4, x5, x6, x7, x8, x9])), (t0, .inr (2, [.ref fr, .ref al, oz2, oz3, .int 0, .int 0])), (fr, .inl (k 0, 34, .inl f2)), (al, .inl (k 0, 34, .inl g3))] H := hP
  replace hD : va_D A [(h0, .inr (1, [.ref t0, x1, .int 0, .long 0, x4, x5, x6, x7, x8, x9])), (t0, .inr (2, [.ref fr, .ref al, oz2, oz3, .int 0, .int 0])), (fr, .inl (k 0, 34, .inl f2)), (al, .inl (k 0, 34, .inl g3))] := hD
  refine lv_aload_n hx hb dX2_startHand_17 rfl (lv_at hl 0 rfl) ?_
  refine lv_iconst (v := 0) hx hb dX2_startHand_18 (by decide) ?_
  refine va_put (D := G) (ci := 1) (v := .int 0) (ty := .int) (C := RX2) (T := TX2) (N := 10) hx hb hts i_c_X2_startHand_X2 tyX2 tyX2_ok nmX2 hown hK hP hD hS 0 rfl rfl 5 (by decide) (hts (.fieldLink RX2 36 "TileHouse$Seat" "bet" "I") (by decide +kernel)) (fun _ h9 => h9) rfl (by decide +kernel) rfl rfl (Nat.le_of_ble_eq_true rfl) dX2_startHand_19 (fun H locs hP hD hS => ?_)
  replace hP : va_P G vwCl [(h0, .inr (1, [.ref t0, x1, .int 0, .long 0, x4, .int 0, x6, x7, x8, x9])), (t0, .inr (2, [.ref fr, .ref al, oz2, oz3, .int 0, .int 0])), (fr, .inl (k 0, 34, .inl f2)), (al, .inl (k 0, 34, .inl g3))] H := hP
  replace hD : va_D A [(h0, .inr (1, [.ref t0, x1, .int 0, .long 0, x4, .int 0, x6, x7, x8, x9])), (t0, .inr (2, [.ref fr, .ref al, oz2, oz3, .int 0, .int 0])), (fr, .inl (k 0, 34, .inl f2)), (al, .inl (k 0, 34, .inl g3))] := hD
  refine lv_aload_n hx hb dX2_startHand_22 rfl (lv_at hl 0 rfl) ?_
  refine lv_iconst (v := 0) hx hb dX2_startHand_23 (by decide) ?_
  refine va_put (D := G) (ci := 1) (v := .int 0) (ty := .boolean) (C := RX2) (T := TX2) (N := 10) hx hb hts i_c_X2_startHand_X2 tyX2 tyX2_ok nmX2 hown hK hP hD hS 0 rfl rfl 6 (by decide) (hts (.fieldLink RX2 39 "TileHouse$Seat" "owes" "Z") (by decide +kernel)) (fun _ h9 => h9) rfl (by decide +kernel) (by decide) rfl (Nat.le_of_ble_eq_true rfl) dX2_startHand_24 (fun H locs hP hD hS => ?_)
  replace hP : va_P G vwCl [(h0, .inr (1, [.ref t0, x1, .int 0, .long 0, x4, .int 0, .int 0, x7, x8, x9])), (t0, .inr (2, [.ref fr, .ref al, oz2, oz3, .int 0, .int 0])), (fr, .inl (k 0, 34, .inl f2)), (al, .inl (k 0, 34, .inl g3))] H := hP
  replace hD : va_D A [(h0, .inr (1, [.ref t0, x1, .int 0, .long 0, x4, .int 0, .int 0, x7, x8, x9])), (t0, .inr (2, [.ref fr, .ref al, oz2, oz3, .int 0, .int 0])), (fr, .inl (k 0, 34, .inl f2)), (al, .inl (k 0, 34, .inl g3))] := hD
  refine lv_aload_n hx hb dX2_startHand_27 rfl (lv_at hl 0 rfl) ?_
  refine lv_iconst (v := 0) hx hb dX2_startHand_28 (by decide) ?_
  refine va_put (D := G) (ci := 1) (v := .int 0) (ty := .boolean) (C := RX2) (T := TX2) (N := 10) hx hb hts i_c_X2_startHand_X2 tyX2 tyX2_ok nmX2 hown hK hP hD hS 0 rfl rfl 7 (by decide) (hts (.fieldLink RX2 43 "TileHouse$Seat" "atOnce" "Z") (by decide +kernel)) (fun _ h9 => h9) rfl (by decide +kernel) (by decide) rfl (Nat.le_of_ble_eq_true rfl) dX2_startHand_29 (fun H locs hP hD hS => ?_)
  replace hP : va_P G vwCl [(h0, .inr (1, [.ref t0, x1, .int 0, .long 0, x4, .int 0, .int 0, .int 0, x8, x9])), (t0, .inr (2, [.ref fr, .ref al, oz2, oz3, .int 0, .int 0])), (fr, .inl (k 0, 34, .inl f2)), (al, .inl (k 0, 34, .inl g3))] H := hP
  replace hD : va_D A [(h0, .inr (1, [.ref t0, x1, .int 0, .long 0, x4, .int 0, .int 0, .int 0, x8, x9])), (t0, .inr (2, [.ref fr, .ref al, oz2, oz3, .int 0, .int 0])), (fr, .inl (k 0, 34, .inl f2)), (al, .inl (k 0, 34, .inl g3))] := hD
  refine lv_aload_n hx hb dX2_startHand_32 rfl (lv_at hl 0 rfl) ?_
  refine lv_iconst (v := 0) hx hb dX2_startHand_33 (by decide) ?_
  refine va_put (D := G) (ci := 1) (v := .int 0) (ty := .boolean) (C := RX2) (T := TX2) (N := 10) hx hb hts i_c_X2_startHand_X2 tyX2 tyX2_ok nmX2 hown hK hP hD hS 0 rfl rfl 8 (by decide) (hts (.fieldLink RX2 46 "TileHouse$Seat" "letGo" "Z") (by decide +kernel)) (fun _ h9 => h9) rfl (by decide +kernel) (by decide) rfl (Nat.le_of_ble_eq_true rfl) dX2_startHand_34 (fun H locs hP hD hS => ?_)
  replace hP : va_P G vwCl [(h0, .inr (1, [.ref t0, x1, .int 0, .long 0, x4, .int 0, .int 0, .int 0, .int 0, x9])), (t0, .inr (2, [.ref fr, .ref al, oz2, oz3, .int 0, .int 0])), (fr, .inl (k 0, 34, .inl f2)), (al, .inl (k 0, 34, .inl g3))] H := hP
  replace hD : va_D A [(h0, .inr (1, [.ref t0, x1, .int 0, .long 0, x4, .int 0, .int 0, .int 0, .int 0, x9])), (t0, .inr (2, [.ref fr, .ref al, oz2, oz3, .int 0, .int 0])), (fr, .inl (k 0, 34, .inl f2)), (al, .inl (k 0, 34, .inl g3))] := hD
  refine lv_aload_n hx hb dX2_startHand_37 rfl (lv_at hl 0 rfl) ?_
  refine lv_iconst (v := 0) hx hb dX2_startHand_38 (by decide) ?_
  refine va_put (D := G) (ci := 1) (v := .int 0) (ty := .boolean) (C := RX2) (T := TX2) (N := 10) hx hb hts i_c_X2_startHand_X2 tyX2 tyX2_ok nmX2 hown hK hP hD hS 0 rfl rfl 9 (by decide) (hts (.fieldLink RX2 49 "TileHouse$Seat" "says" "Z") (by decide +kernel)) (fun _ h9 => h9) rfl (by decide +kernel) (by decide) rfl (Nat.le_of_ble_eq_true rfl) dX2_startHand_39 (fun H locs hP hD hS => ?_)
  replace hP : va_P G vwCl [(h0, .inr (1, [.ref t0, x1, .int 0, .long 0, x4, .int 0, .int 0, .int 0, .int 0, .int 0])), (t0, .inr (2, [.ref fr, .ref al, oz2, oz3, .int 0, .int 0])), (fr, .inl (k 0, 34, .inl f2)), (al, .inl (k 0, 34, .inl g3))] H := hP
  replace hD : va_D A [(h0, .inr (1, [.ref t0, x1, .int 0, .long 0, x4, .int 0, .int 0, .int 0, .int 0, .int 0])), (t0, .inr (2, [.ref fr, .ref al, oz2, oz3, .int 0, .int 0])), (fr, .inl (k 0, 34, .inl f2)), (al, .inl (k 0, 34, .inl g3))] := hD
  refine W.widen (k := 0) (n := 0) (Nat.le_of_ble_eq_true rfl) (Nat.le_of_ble_eq_true rfl) ?_
  exact W.vret hx hb hr (fun t ht hW => ⟨⟨(f2, g3), rfl, trivial, ⟨by rw [ht]; exact hP.sub [0, 1, 2, 3] rfl, hD.sub [0, 1, 2, 3] (by decide) rfl⟩⟩, hS.F ht⟩) hS.2.2 dX2_startHand_42
def v_c_X6_drawTile0 : List Cond := .code yX6_drawTile cX6_drawTile 4 none :: ([.fieldLink RX6 97 "TileHouse" "turn" "I", .fieldLink RX6 45 "TileHouse" "phase" "I", .fieldLink RX6 319 "TileHouse" "behindFour" "Z", .fieldLink RX6 123 "TileHouse" "barred" "J", .fieldLink RX6 18 "TileHouse" "bricks" "LTileHouse$Wall;", .methodLink RX6 325 yX4_draw, .instanceMethod yX4_draw, .selects RX4 yX4_draw yX4_draw, .initialized RX4, .fieldLink RX6 49 "TileHouse" "tile" "I", .methodLink RX6 65 yX6_at, .instanceMethod yX6_at, .selects RX6 yX6_at yX6_at, .initialized RX6, .fieldLink RX6 72 "TileHouse$Seat" "tiles" "LTileHouse$Tiles;", .methodLink RX6 79 yX3_put, .instanceMethod yX3_put, .selects RX3 yX3_put yX3_put, .initialized RX3, .fieldLink RX6 110 "TileHouse$Seat" "bet" "I", .fieldLink RX6 219 "TileHouse$Seat" "letGo" "Z"] ++ (wsX60 ++ (v_c_X4_draw1 ++ (v_c_X6_at ++ (wsX20 ++ (v_c_X3_put ++ ([])))))))
theorem vg_c_X6_drawTile0 : ∀ w ∈ v_c_X6_drawTile0, goodWord w = true := vg_c (c := .code yX6_drawTile cX6_drawTile 4 none) (l := [.fieldLink RX6 97 "TileHouse" "turn" "I", .fieldLink RX6 45 "TileHouse" "phase" "I", .fieldLink RX6 319 "TileHouse" "behindFour" "Z", .fieldLink RX6 123 "TileHouse" "barred" "J", .fieldLink RX6 18 "TileHouse" "bricks" "LTileHouse$Wall;", .methodLink RX6 325 yX4_draw, .instanceMethod yX4_draw, .selects RX4 yX4_draw yX4_draw, .initialized RX4, .fieldLink RX6 49 "TileHouse" "tile" "I", .methodLink RX6 65 yX6_at, .instanceMethod yX6_at, .selects RX6 yX6_at yX6_at, .initialized RX6, .fieldLink RX6 72 "TileHouse$Seat" "tiles" "LTileHouse$Tiles;", .methodLink RX6 79 yX3_put, .instanceMethod yX3_put, .selects RX3 yX3_put yX3_put, .initialized RX3, .fieldLink RX6 110 "TileHouse$Seat" "bet" "I", .fieldLink RX6 219 "TileHouse$Seat" "letGo" "Z"]) (by decide +kernel) (vg_a vgX6 (vg_a vg_c_X4_draw1 (vg_a vg_c_X6_at (vg_a vgX2 (vg_a vg_c_X3_put (vg_nil))))))
theorem i_c_X6_drawTile0_X6 : ∀ w ∈ u_ws RX6 TX6 19, w ∈ v_c_X6_drawTile0 := fun _ h => List.mem_cons_of_mem _ (List.mem_append_right _ (List.mem_append_left _ h))
theorem i_c_X6_drawTile0_X2 : ∀ w ∈ u_ws RX2 TX2 10, w ∈ v_c_X6_drawTile0 := fun _ h => List.mem_cons_of_mem _ (List.mem_append_right _ (List.mem_append_right _ (List.mem_append_right _ (List.mem_append_right _ (List.mem_append_left _ h)))))
theorem g_c_X6_drawTile0_c_X4_draw1_325 : GoodIn v_c_X6_drawTile0 (wsV RX6 325 RX4 yX4_draw v_c_X4_draw1) := goodIn_app (goodIn_of _ (by decide +kernel)) (fun w h => ⟨List.mem_cons_of_mem _ (List.mem_append_right _ (List.mem_append_right _ (List.mem_append_left _ h))), good_of_word (vg_c_X4_draw1 w h)⟩)
theorem g_c_X6_drawTile0_c_X6_at_65 : GoodIn v_c_X6_drawTile0 (wsV RX6 65 RX6 yX6_at v_c_X6_at) := goodIn_app (goodIn_of _ (by decide +kernel)) (fun w h => ⟨List.mem_cons_of_mem _ (List.mem_append_right _ (List.mem_append_right _ (List.mem_append_right _ (List.mem_append_left _ h)))), good_of_word (vg_c_X6_at w h)⟩)
theorem g_c_X6_drawTile0_c_X3_put_79 : GoodIn v_c_X6_drawTile0 (wsV RX6 79 RX3 yX3_put v_c_X3_put) := goodIn_app (goodIn_of _ (by decide +kernel)) (fun w h => ⟨List.mem_cons_of_mem _ (List.mem_append_right _ (List.mem_append_right _ (List.mem_append_right _ (List.mem_append_right _ (List.mem_append_right _ (List.mem_append_left _ h)))))), good_of_word (vg_c_X3_put w h)⟩)
set_option maxHeartbeats 4000000 in
set_option maxRecDepth 100000 in
theorem c_X6_drawTile0 (l : Launch) (G : va_G) (k : Nat → ClassId) (sz : Nat) (h0 : Nat) (pl : Nat) (f : Nat → Option Nat) (sa : Nat → Nat) (hf : ∀ j, j < 4 → f j = some (sa j)) (wl : Nat) (wk : Nat) (f1 : Nat → Int32) (nx : Int32) (s0 : Nat) (t0 : Nat) (fr : Nat) (al : Nat) (f2 : Nat → Int32) (f3 : Nat → Int32) (lo : Int32) (hs0 : sa ((0 : Int32) &&& 3).toNatClampNeg = s0) (x2 : Value) (x3 : Value) (x4 : Value) (x5 : Value) (x6 : Value) (x7 : Value) (x8 : Value) (x9 : Value) (x10 : Value) (x11 : Value) (x12 : Value) (x13 : Value) (x14 : Value) (x15 : Value) (x16 : Value) (x17 : Value) (x18 : Value) (oy3 : Value) (oz1 : Value) (oz2 : Value) (oz3 : Value) (oz4 : Value) (oz6 : Value) (oz7 : Value) (oz8 : Value) (oz9 : Value) (ow2 : Value) (ow3 : Value) (ow4 : Value) : Met l yX6_drawTile v_c_X6_drawTile0 ({ frames := 2, cells := 0, slots := 0, locals := 42 }) (va_Pc [.ref h0, .int 0, .int 0] (pq G k [(h0, .inr (5, [.ref pl, .ref wl, x2, x3, x4, x5, x6, x7, x8, x9, x10, x11, x12, x13, x14, x15, x16, x17, x18])), (pl, .inl (k 3, 4, .inr (.inr (.inr (.inr f))))), (wl, .inr (3, [.ref wk, .int 1, .int nx, oy3])), (wk, .inl (k 0, 136, .inl f1)), (s0, .inr (1, [.ref t0, oz1, oz2, oz3, oz4, .int 0, oz6, oz7, oz8, oz9])), (t0, .inr (2, [.ref fr, .ref al, ow2, ow3, ow4, .int lo])), (fr, .inl (k 0, 34, .inl f2)), (al, .inl (k 0, 34, .inl f3))] sz)) (va_Qv (fun _ : Unit => True) (fun (_ : Unit) _ => True) (va_A [(h0, .inr (5, [.ref pl, .ref wl, x2, x3, x4, x5, x6, x7, x8, x9, x10, x11, x12, x13, x14, x15, x16, x17, x18])), (pl, .inl (k 3, 4, .inr (.inr (.inr (.inr f))))), (wl, .inr (3, [.ref wk, .int 1, .int nx, oy3])), (wk, .inl (k 0, 136, .inl f1)), (s0, .inr (1, [.ref t0, oz1, oz2, oz3, oz4, .int 0, oz6, oz7, oz8, oz9])), (t0, .inr (2, [.ref fr, .ref al, ow2, ow3, ow4, .int lo])), (fr, .inl (k 0, 34, .inl f2)), (al, .inl (k 0, 34, .inl f3))] sz)) 0 0 (va_A [(h0, .inr (5, [.ref pl, .ref wl, x2, x3, x4, x5, x6, x7, x8, x9, x10, x11, x12, x13, x14, x15, x16, x17, x18])), (pl, .inl (k 3, 4, .inr (.inr (.inr (.inr f))))), (wl, .inr (3, [.ref wk, .int 1, .int nx, oy3])), (wk, .inl (k 0, 136, .inl f1)), (s0, .inr (1, [.ref t0, oz1, oz2, oz3, oz4, .int 0, oz6, oz7, oz8, oz9])), (t0, .inr (2, [.ref fr, .ref al, ow2, ow3, ow4, .int lo])), (fr, .inl (k 0, 34, .inl f2)), (al, .inl (k 0, 34, .inl f3))] sz) := by
  refine Met.ofW (cc := cX6_drawTile) (maxL := 4) (ret := none) (by decide) rfl ?_
  intro p e s m args below meth c s₁ B hml hv
  obtain ⟨rfl, hsz, ⟨hP, hK, hN⟩, hD0⟩ := hv
  have hx := B.exec
  have hb := B.bytes
  have hr := B.returns
  have hts := atoms_spec (ws := v_c_X6_drawTile0) B.pre
  have hown : s.vm.findClass RX6 = some m.cls := findClass_of_methodNamed B.named
  have hlocks := B.notSynchronized
  subst hsz
  have hD := hD0.self (sz := s.heap.size)
  generalize hAe : va_A [(h0, .inr (5, [.ref pl, .ref wl, x2, x3, x4, x5, x6, x7, x8, x9, x10, x11, x12, x13, x14, x15, x16, x17, x18])), (pl, .inl (k 3, 4, .inr (.inr (.inr (.inr f))))), (wl, .inr (3, [.ref wk, .int 1, .int nx, oy3])), (wk, .inl (k 0, 136, .inl f1)), (s0, .inr (1, [.ref t0, oz1, oz2, oz3, oz4, .int 0, oz6, oz7, oz8, oz9])), (t0, .inr (2, [.ref fr, .ref al, ow2, ow3, ow4, .int lo])), (fr, .inl (k 0, 34, .inl f2)), (al, .inl (k 0, 34, .inl f3))] s.heap.size = A at hD ⊢
  have hA : ∀ q : Nat, s.heap.size ≤ q → A q := fun q h => by rw [← hAe]; exact Or.inr h
  have hS : va_S A s.heap s.heap [] := va_S.rf
  have hP : va_P G vwCl [(h0, .inr (5, [.ref pl, .ref wl, x2, x3, x4, x5, x6, x7, x8, x9, x10, x11, x12, x13, x14, x15, x16, x17, x18])), (pl, .inl (k 3, 4, .inr (.inr (.inr (.inr f))))), (wl, .inr (3, [.ref wk, .int 1, .int nx, oy3])), (wk, .inl (k 0, 136, .inl f1)), (s0, .inr (1, [.ref t0, oz1, oz2, oz3, oz4, .int 0, oz6, oz7, oz8, oz9])), (t0, .inr (2, [.ref fr, .ref al, ow2, ow3, ow4, .int lo])), (fr, .inl (k 0, 34, .inl f2)), (al, .inl (k 0, 34, .inl f3))] s.heap := hP
  refine hvar hP hS (fun H locs hP hS => ?_)
  have hl := lv_entry ([.ref h0, .int 0, .int 0]) (n := 4) (Nat.le_of_ble_eq_true rfl)
  rw [lg_entry_eq]
  generalize (lg_sl ([.ref h0, .int 0, .int 0]) ++ List.replicate (4 - (lg_sl ([.ref h0, .int 0, .int 0])).length) Slot.unset).toArray = ls at hl ⊢
  have hl : lv_has ls 4 [(0, .ref h0), (1, .int 0), (2, .int 0)] := hl
  refine lv_aload_n hx hb dX6_drawTile_0 rfl (lv_at hl 0 rfl) ?_
  refine lv_iload_n hx hb dX6_drawTile_1 rfl (lv_at hl 1 rfl) ?_
  refine lv_iconst (v := 3) hx hb dX6_drawTile_2 (by decide) ?_
  refine lv_iand hx hb dX6_drawTile_3 ?_
  refine lv_topi (fun z1 ez1 => ?_)
  obtain rfl : z1 = 0 := ez1.trans (by decide)
  refine va_put (D := G) (ci := 5) (v := .int 0) (ty := .int) (C := RX6) (T := TX6) (N := 19) hx hb hts i_c_X6_drawTile0_X6 tyX6 tyX6_ok nmX6 hown hK hP hD hS 0 rfl rfl 8 (by decide) (hts (.fieldLink RX6 97 "TileHouse" "turn" "I") (by decide +kernel)) (fun _ h9 => h9) rfl (by decide +kernel) rfl rfl (Nat.le_of_ble_eq_true rfl) dX6_drawTile_4 (fun H locs hP hD hS => ?_)
  replace hP : va_P G vwCl [(h0, .inr (5, [.ref pl, .ref wl, x2, x3, x4, x5, x6, x7, .int 0, x9, x10, x11, x12, x13, x14, x15, x16, x17, x18])), (pl, .inl (k 3, 4, .inr (.inr (.inr (.inr f))))), (wl, .inr (3, [.ref wk, .int 1, .int nx, oy3])), (wk, .inl (k 0, 136, .inl f1)), (s0, .inr (1, [.ref t0, oz1, oz2, oz3, oz4, .int 0, oz6, oz7, oz8, oz9])), (t0, .inr (2, [.ref fr, .ref al, ow2, ow3, ow4, .int lo])), (fr, .inl (k 0, 34, .inl f2)), (al, .inl (k 0, 34, .inl f3))] H := hP
  replace hD : va_D A [(h0, .inr (5, [.ref pl, .ref wl, x2, x3, x4, x5, x6, x7, .int 0, x9, x10, x11, x12, x13, x14, x15, x16, x17, x18])), (pl, .inl (k 3, 4, .inr (.inr (.inr (.inr f))))), (wl, .inr (3, [.ref wk, .int 1, .int nx, oy3])), (wk, .inl (k 0, 136, .inl f1)), (s0, .inr (1, [.ref t0, oz1, oz2, oz3, oz4, .int 0, oz6, oz7, oz8, oz9])), (t0, .inr (2, [.ref fr, .ref al, ow2, ow3, ow4, .int lo])), (fr, .inl (k 0, 34, .inl f2)), (al, .inl (k 0, 34, .inl f3))] := hD
  refine lv_aload_n hx hb dX6_drawTile_7 rfl (lv_at hl 0 rfl) ?_
  refine lv_iconst (v := 1) hx hb dX6_drawTile_8 (by decide) ?_
  refine va_put (D := G) (ci := 5) (v := .int 1) (ty := .int) (C := RX6) (T := TX6) (N := 19) hx hb hts i_c_X6_drawTile0_X6 tyX6 tyX6_ok nmX6 hown hK hP hD hS 0 rfl rfl 7 (by decide) (hts (.fieldLink RX6 45 "TileHouse" "phase" "I") (by decide +kernel)) (fun _ h9 => h9) rfl (by decide +kernel) rfl rfl (Nat.le_of_ble_eq_true rfl) dX6_drawTile_9 (fun H locs hP hD hS => ?_)
  replace hP : va_P G vwCl [(h0, .inr (5, [.ref pl, .ref wl, x2, x3, x4, x5, x6, .int 1, .int 0, x9, x10, x11, x12, x13, x14, x15, x16, x17, x18])), (pl, .inl (k 3, 4, .inr (.inr (.inr (.inr f))))), (wl, .inr (3, [.ref wk, .int 1, .int nx, oy3])), (wk, .inl (k 0, 136, .inl f1)), (s0, .inr (1, [.ref t0, oz1, oz2, oz3, oz4, .int 0, oz6, oz7, oz8, oz9])), (t0, .inr (2, [.ref fr, .ref al, ow2, ow3, ow4, .int lo])), (fr, .inl (k 0, 34, .inl f2)), (al, .inl (k 0, 34, .inl f3))] H := hP
  replace hD : va_D A [(h0, .inr (5, [.ref pl, .ref wl, x2, x3, x4, x5, x6, .int 1, .int 0, x9, x10, x11, x12, x13, x14, x15, x16, x17, x18])), (pl, .inl (k 3, 4, .inr (.inr (.inr (.inr f))))), (wl, .inr (3, [.ref wk, .int 1, .int nx, oy3])), (wk, .inl (k 0, 136, .inl f1)), (s0, .inr (1, [.ref t0, oz1, oz2, oz3, oz4, .int 0, oz6, oz7, oz8, oz9])), (t0, .inr (2, [.ref fr, .ref al, ow2, ow3, ow4, .int lo])), (fr, .inl (k 0, 34, .inl f2)), (al, .inl (k 0, 34, .inl f3))] := hD
  refine lv_aload_n hx hb dX6_drawTile_12 rfl (lv_at hl 0 rfl) ?_
  refine lv_iload_n hx hb dX6_drawTile_13 rfl (lv_at hl 2 rfl) ?_
  refine va_put (D := G) (ci := 5) (v := .int 0) (ty := .boolean) (C := RX6) (T := TX6) (N := 19) hx hb hts i_c_X6_drawTile0_X6 tyX6 tyX6_ok nmX6 hown hK hP hD hS 0 rfl rfl 16 (by decide) (hts (.fieldLink RX6 319 "TileHouse" "behindFour" "Z") (by decide +kernel)) (fun _ h9 => h9) rfl (by decide +kernel) (by decide) rfl (Nat.le_of_ble_eq_true rfl) dX6_drawTile_14 (fun H locs hP hD hS => ?_)
  replace hP : va_P G vwCl [(h0, .inr (5, [.ref pl, .ref wl, x2, x3, x4, x5, x6, .int 1, .int 0, x9, x10, x11, x12, x13, x14, x15, .int 0, x17, x18])), (pl, .inl (k 3, 4, .inr (.inr (.inr (.inr f))))), (wl, .inr (3, [.ref wk, .int 1, .int nx, oy3])), (wk, .inl (k 0, 136, .inl f1)), (s0, .inr (1, [.ref t0, oz1, oz2, oz3, oz4, .int 0, oz6, oz7, oz8, oz9])), (t0, .inr (2, [.ref fr, .ref al, ow2, ow3, ow4, .int lo])), (fr, .inl (k 0, 34, .inl f2)), (al, .inl (k 0, 34, .inl f3))] H := hP
  replace hD : va_D A [(h0, .inr (5, [.ref pl, .ref wl, x2, x3, x4, x5, x6, .int 1, .int 0, x9, x10, x11, x12, x13, x14, x15, .int 0, x17, x18])), (pl, .inl (k 3, 4, .inr (.inr (.inr (.inr f))))), (wl, .inr (3, [.ref wk, .int 1, .int nx, oy3])), (wk, .inl (k 0, 136, .inl f1)), (s0, .inr (1, [.ref t0, oz1, oz2, oz3, oz4, .int 0, oz6, oz7, oz8, oz9])), (t0, .inr (2, [.ref fr, .ref al, ow2, ow3, ow4, .int lo])), (fr, .inl (k 0, 34, .inl f2)), (al, .inl (k 0, 34, .inl f3))] := hD
  refine lv_aload_n hx hb dX6_drawTile_17 rfl (lv_at hl 0 rfl) ?_
  refine lv_lconst (v := 0) hx hb dX6_drawTile_18 (by decide) ?_
  refine va_put (D := G) (ci := 5) (v := .long 0) (ty := .long) (C := RX6) (T := TX6) (N := 19) hx hb hts i_c_X6_drawTile0_X6 tyX6 tyX6_ok nmX6 hown hK hP hD hS 0 rfl rfl 18 (by decide) (hts (.fieldLink RX6 123 "TileHouse" "barred" "J") (by decide +kernel)) (fun _ h9 => h9) rfl (by decide +kernel) rfl rfl (Nat.le_of_ble_eq_true rfl) dX6_drawTile_19 (fun H locs hP hD hS => ?_)
  replace hP : va_P G vwCl [(h0, .inr (5, [.ref pl, .ref wl, x2, x3, x4, x5, x6, .int 1, .int 0, x9, x10, x11, x12, x13, x14, x15, .int 0, x17, .long 0])), (pl, .inl (k 3, 4, .inr (.inr (.inr (.inr f))))), (wl, .inr (3, [.ref wk, .int 1, .int nx, oy3])), (wk, .inl (k 0, 136, .inl f1)), (s0, .inr (1, [.ref t0, oz1, oz2, oz3, oz4, .int 0, oz6, oz7, oz8, oz9])), (t0, .inr (2, [.ref fr, .ref al, ow2, ow3, ow4, .int lo])), (fr, .inl (k 0, 34, .inl f2)), (al, .inl (k 0, 34, .inl f3))] H := hP
  replace hD : va_D A [(h0, .inr (5, [.ref pl, .ref wl, x2, x3, x4, x5, x6, .int 1, .int 0, x9, x10, x11, x12, x13, x14, x15, .int 0, x17, .long 0])), (pl, .inl (k 3, 4, .inr (.inr (.inr (.inr f))))), (wl, .inr (3, [.ref wk, .int 1, .int nx, oy3])), (wk, .inl (k 0, 136, .inl f1)), (s0, .inr (1, [.ref t0, oz1, oz2, oz3, oz4, .int 0, oz6, oz7, oz8, oz9])), (t0, .inr (2, [.ref fr, .ref al, ow2, ow3, ow4, .int lo])), (fr, .inl (k 0, 34, .inl f2)), (al, .inl (k 0, 34, .inl f3))] := hD
  refine lv_aload_n hx hb dX6_drawTile_22 rfl (lv_at hl 0 rfl) ?_
  refine lv_iload_n hx hb dX6_drawTile_23 rfl (lv_at hl 2 rfl) ?_
  refine lv_if_eq (tgt := 37) hx hb dX6_drawTile_24 (by decide) (fun _ => ?_) (fun c9 => absurd (by decide) c9)
  refine lv_aload_n hx hb dX6_drawTile_37 rfl (lv_at hl 0 rfl) ?_
  refine va_get (D := G) (ci := 5) (v := .ref wl) (C := RX6) (T := TX6) (N := 19) hx hb hts i_c_X6_drawTile0_X6 hown hK hP 0 rfl rfl 1 (by decide) (hts (.fieldLink RX6 18 "TileHouse" "bricks" "LTileHouse$Wall;") (by decide +kernel)) (fun _ h9 => h9) rfl dX6_drawTile_38 ?_
  have hPc := hP.sub (ws' := [(wl, .inr (3, [.ref wk, .int 1, .int nx, oy3])), (wk, .inl (k 0, 136, .inl f1))]) [2, 3] rfl
  have hDc := hD.sub (ws' := [(wl, .inr (3, [.ref wk, .int 1, .int nx, oy3])), (wk, .inl (k 0, 136, .inl f1))]) [2, 3] (by decide) rfl
  have hFc := va_free (wc := [(wl, .inr (3, [.ref wk, .int 1, .int nx, oy3])), (wk, .inl (k 0, 136, .inl f1))]) hD hS hA [2, 3] rfl
  refine va_calli (va_runV (As := []) (rest := [.ref h0]) ⟨hx, hb, hml, hown, hts⟩ (c_X4_draw1 l G k H.size wl wk f1 nx (oy3)) (cwV 0 hts g_c_X6_drawTile0_c_X4_draw1_325 rfl rfl rfl (by decide +kernel) ⟨Nat.le_of_ble_eq_true rfl, Nat.le_of_ble_eq_true rfl⟩) ⟨pq_bl, va_recv hK hPc (ci := 3) (q0 := 0) rfl rfl, pq_pre hPc hDc hK hN⟩ rfl rfl hl.1 rfl (lv_room (Nat.le_of_ble_eq_true rfl)) dX6_drawTile_41 ⟨Nat.le_of_ble_eq_true rfl, Nat.le_of_ble_eq_true rfl⟩) hS (fun q _ h => hFc q h) hFc (fun r2 ur2 t H1 locs ht hvm hr2 hB hz1 hk1 hS => ?_)
  have hP1 : va_P G vwCl [] H1 := vP0
  have hD1 : va_D (va_A [(wl, .inr (3, [.ref wk, .int 1, .int nx, oy3])), (wk, .inl (k 0, 136, .inl f1))] H.size) [] := vD0
  obtain ⟨hP, hD⟩ := va_join (wr := [(h0, .inr (5, [.ref pl, .ref wl, x2, x3, x4, x5, x6, .int 1, .int 0, x9, x10, x11, x12, x13, x14, x15, .int 0, x17, .long 0])), (pl, .inl (k 3, 4, .inr (.inr (.inr (.inr f))))), (s0, .inr (1, [.ref t0, oz1, oz2, oz3, oz4, .int 0, oz6, oz7, oz8, oz9])), (t0, .inr (2, [.ref fr, .ref al, ow2, ow3, ow4, .int lo])), (fr, .inl (k 0, 34, .inl f2)), (al, .inl (k 0, 34, .inl f3))]) (w1 := []) hP hD [2, 3] [0, 1, 4, 5, 6, 7] rfl rfl (by decide) (by decide) hk1 hFc hP1 hD1
  clear hP1 hD1
  generalize H1 = H at hP hS ⊢
  replace hP : va_P G vwCl [(h0, .inr (5, [.ref pl, .ref wl, x2, x3, x4, x5, x6, .int 1, .int 0, x9, x10, x11, x12, x13, x14, x15, .int 0, x17, .long 0])), (pl, .inl (k 3, 4, .inr (.inr (.inr (.inr f))))), (s0, .inr (1, [.ref t0, oz1, oz2, oz3, oz4, .int 0, oz6, oz7, oz8, oz9])), (t0, .inr (2, [.ref fr, .ref al, ow2, ow3, ow4, .int lo])), (fr, .inl (k 0, 34, .inl f2)), (al, .inl (k 0, 34, .inl f3))] H := hP
  replace hD : va_D A [(h0, .inr (5, [.ref pl, .ref wl, x2, x3, x4, x5, x6, .int 1, .int 0, x9, x10, x11, x12, x13, x14, x15, .int 0, x17, .long 0])), (pl, .inl (k 3, 4, .inr (.inr (.inr (.inr f))))), (s0, .inr (1, [.ref t0, oz1, oz2, oz3, oz4, .int 0, oz6, oz7, oz8, oz9])), (t0, .inr (2, [.ref fr, .ref al, ow2, ow3, ow4, .int lo])), (fr, .inl (k 0, 34, .inl f2)), (al, .inl (k 0, 34, .inl f3))] := hD
  refine va_put (D := G) (ci := 5) (v := .int r2) (ty := .int) (C := RX6) (T := TX6) (N := 19) hx hb hts i_c_X6_drawTile0_X6 tyX6 tyX6_ok nmX6 hown hK hP hD hS 0 rfl rfl 15 (by decide) (hts (.fieldLink RX6 49 "TileHouse" "tile" "I") (by decide +kernel)) (fun _ h9 => h9) rfl (by decide +kernel) rfl rfl (Nat.le_of_ble_eq_true rfl) dX6_drawTile_44 (fun H locs hP hD hS => ?_)
  replace hP : va_P G vwCl [(h0, .inr (5, [.ref pl, .ref wl, x2, x3, x4, x5, x6, .int 1, .int 0, x9, x10, x11, x12, x13, x14, .int r2, .int 0, x17, .long 0])), (pl, .inl (k 3, 4, .inr (.inr (.inr (.inr f))))), (s0, .inr (1, [.ref t0, oz1, oz2, oz3, oz4, .int 0, oz6, oz7, oz8, oz9])), (t0, .inr (2, [.ref fr, .ref al, ow2, ow3, ow4, .int lo])), (fr, .inl (k 0, 34, .inl f2)), (al, .inl (k 0, 34, .inl f3))] H := hP
  replace hD : va_D A [(h0, .inr (5, [.ref pl, .ref wl, x2, x3, x4, x5, x6, .int 1, .int 0, x9, x10, x11, x12, x13, x14, .int r2, .int 0, x17, .long 0])), (pl, .inl (k 3, 4, .inr (.inr (.inr (.inr f))))), (s0, .inr (1, [.ref t0, oz1, oz2, oz3, oz4, .int 0, oz6, oz7, oz8, oz9])), (t0, .inr (2, [.ref fr, .ref al, ow2, ow3, ow4, .int lo])), (fr, .inl (k 0, 34, .inl f2)), (al, .inl (k 0, 34, .inl f3))] := hD
  refine lv_aload_n hx hb dX6_drawTile_47 rfl (lv_at hl 0 rfl) ?_
  refine lv_aload_n hx hb dX6_drawTile_48 rfl (lv_at hl 0 rfl) ?_
  refine va_get (D := G) (ci := 5) (v := .int 0) (C := RX6) (T := TX6) (N := 19) hx hb hts i_c_X6_drawTile0_X6 hown hK hP 0 rfl rfl 8 (by decide) (hts (.fieldLink RX6 97 "TileHouse" "turn" "I") (by decide +kernel)) (fun _ h9 => h9) rfl dX6_drawTile_49 ?_
  have hPc := hP.sub (ws' := [(h0, .inr (5, [.ref pl, .ref wl, x2, x3, x4, x5, x6, .int 1, .int 0, x9, x10, x11, x12, x13, x14, .int r2, .int 0, x17, .long 0])), (pl, .inl (k 3, 4, .inr (.inr (.inr (.inr f)))))]) [0, 1] rfl
  refine q_callr (va_runV (As := [.int 0]) (rest := []) ⟨hx, hb, hml, hown, hts⟩ (c_X6_at l G k h0 pl f sa hf 0 (.ref wl) (x2) (x3) (x4) (x5) (x6) (.int 1) (.int 0) (x9) (x10) (x11) (x12) (x13) (x14) (.int r2) (.int 0) (x17) (.long 0)) (cwV 1 hts g_c_X6_drawTile0_c_X6_at_65 rfl rfl rfl (by decide +kernel) ⟨Nat.le_of_ble_eq_true rfl, Nat.le_of_ble_eq_true rfl⟩) ⟨pr_bl, va_recv hK hPc (ci := 5) (q0 := 0) rfl rfl, pr_pre hPc hK hN⟩ rfl rfl hl.1 rfl (lv_room (Nat.le_of_ble_eq_true rfl)) dX6_drawTile_52 ⟨Nat.le_of_ble_eq_true rfl, Nat.le_of_ble_eq_true rfl⟩) (fun r3 hr3 => ?_)
  rw [show r3 = s0 from hr3.trans hs0]
  refine lv_astore_n (lv' := [(3, .ref s0), (0, .ref h0), (1, .int 0), (2, .int 0)]) hx hb dX6_drawTile_55 rfl hl (by decide) rfl (fun ls hl => ?_)
  refine lv_aload_n hx hb dX6_drawTile_56 rfl (lv_at hl 0 rfl) ?_
  refine va_get (D := G) (ci := 1) (v := .ref t0) (C := RX2) (T := TX2) (N := 10) hx hb hts i_c_X6_drawTile0_X2 hown hK hP 2 rfl rfl 0 (by decide) (hts (.fieldLink RX6 72 "TileHouse$Seat" "tiles" "LTileHouse$Tiles;") (by decide +kernel)) (fun _ h9 => h9) rfl dX6_drawTile_57 ?_
  refine lv_aload_n hx hb dX6_drawTile_60 rfl (lv_at hl 1 rfl) ?_
  refine va_get (D := G) (ci := 5) (v := .int r2) (C := RX6) (T := TX6) (N := 19) hx hb hts i_c_X6_drawTile0_X6 hown hK hP 0 rfl rfl 15 (by decide) (hts (.fieldLink RX6 49 "TileHouse" "tile" "I") (by decide +kernel)) (fun _ h9 => h9) rfl dX6_drawTile_61 ?_
  refine lv_iconst (v := 1) hx hb dX6_drawTile_64 (by decide) ?_
  have hPc := hP.sub (ws' := [(t0, .inr (2, [.ref fr, .ref al, ow2, ow3, ow4, .int lo])), (fr, .inl (k 0, 34, .inl f2)), (al, .inl (k 0, 34, .inl f3))]) [3, 4, 5] rfl
  have hDc := hD.sub (ws' := [(t0, .inr (2, [.ref fr, .ref al, ow2, ow3, ow4, .int lo])), (fr, .inl (k 0, 34, .inl f2)), (al, .inl (k 0, 34, .inl f3))]) [3, 4, 5] (by decide) rfl
  have hFc := va_free (wc := [(t0, .inr (2, [.ref fr, .ref al, ow2, ow3, ow4, .int lo])), (fr, .inl (k 0, 34, .inl f2)), (al, .inl (k 0, 34, .inl f3))]) hD hS hA [3, 4, 5] rfl
  refine va_callv (va_runV (As := [.int r2, .int 1]) (rest := []) ⟨hx, hb, hml, hown, hts⟩ (c_X3_put l G k H.size t0 fr al f2 f3 lo r2 1 (ow2) (ow3) (ow4)) (cwV 2 hts g_c_X6_drawTile0_c_X3_put_79 rfl rfl rfl (by decide +kernel) ⟨Nat.le_of_ble_eq_true rfl, Nat.le_of_ble_eq_true rfl⟩) ⟨pq_bl, va_recv hK hPc (ci := 2) (q0 := 0) rfl rfl, pq_pre hPc hDc hK hN⟩ rfl rfl hl.1 rfl (lv_room (Nat.le_of_ble_eq_true rfl)) dX6_drawTile_65 ⟨Nat.le_of_ble_eq_true rfl, Nat.le_of_ble_eq_true rfl⟩) hS (fun q _ h => hFc q h) hFc (fun ur4 t H1 locs ht hvm hr4 hB hz1 hk1 hS => ?_)
  obtain ⟨f5, g6, w7⟩ := ur4
  obtain ⟨hP1, hD1⟩ := hB
  rw [ht] at hP1
  obtain ⟨hP, hD⟩ := va_join (wr := [(h0, .inr (5, [.ref pl, .ref wl, x2, x3, x4, x5, x6, .int 1, .int 0, x9, x10, x11, x12, x13, x14, .int r2, .int 0, x17, .long 0])), (pl, .inl (k 3, 4, .inr (.inr (.inr (.inr f))))), (s0, .inr (1, [.ref t0, oz1, oz2, oz3, oz4, .int 0, oz6, oz7, oz8, oz9]))]) (w1 := [(t0, .inr (2, [.ref fr, .ref al, ow2, ow3, ow4, .int w7])), (fr, .inl (k 0, 34, .inl f5)), (al, .inl (k 0, 34, .inl g6))]) hP hD [3, 4, 5] [0, 1, 2] rfl rfl (by decide) (by decide) hk1 hFc hP1 hD1
  clear hP1 hD1
  generalize H1 = H at hP hS ⊢
  replace hP : va_P G vwCl [(h0, .inr (5, [.ref pl, .ref wl, x2, x3, x4, x5, x6, .int 1, .int 0, x9, x10, x11, x12, x13, x14, .int r2, .int 0, x17, .long 0])), (pl, .inl (k 3, 4, .inr (.inr (.inr (.inr f))))), (s0, .inr (1, [.ref t0, oz1, oz2, oz3, oz4, .int 0, oz6, oz7, oz8, oz9])), (t0, .inr (2, [.ref fr, .ref al, ow2, ow3, ow4, .int w7])), (fr, .inl (k 0, 34, .inl f5)), (al, .inl (k 0, 34, .inl g6))] H := hP
  replace hD : va_D A [(h0, .inr (5, [.ref pl, .ref wl, x2, x3, x4, x5, x6, .int 1, .int 0, x9, x10, x11, x12, x13, x14, .int r2, .int 0, x17, .long 0])), (pl, .inl (k 3, 4, .inr (.inr (.inr (.inr f))))), (s0, .inr (1, [.ref t0, oz1, oz2, oz3, oz4, .int 0, oz6, oz7, oz8, oz9])), (t0, .inr (2, [.ref fr, .ref al, ow2, ow3, ow4, .int w7])), (fr, .inl (k 0, 34, .inl f5)), (al, .inl (k 0, 34, .inl g6))] := hD
  refine lv_aload_n hx hb dX6_drawTile_68 rfl (lv_at hl 0 rfl) ?_
  refine va_get (D := G) (ci := 1) (v := .int 0) (C := RX2) (T := TX2) (N := 10) hx hb hts i_c_X6_drawTile0_X2 hown hK hP 2 rfl rfl 5 (by decide) (hts (.fieldLink RX6 110 "TileHouse$Seat" "bet" "I") (by decide +kernel)) (fun _ h9 => h9) rfl dX6_drawTile_69 ?_
  refine lv_if_ne (tgt := 80) hx hb dX6_drawTile_72 (by decide) (fun c9 => absurd (by decide) c9) (fun _ => ?_)
  refine lv_aload_n hx hb dX6_drawTile_75 rfl (lv_at hl 0 rfl) ?_
  refine lv_iconst (v := 0) hx hb dX6_drawTile_76 (by decide) ?_
  refine va_put (D := G) (ci := 1) (v := .int 0) (ty := .boolean) (C := RX2) (T := TX2) (N := 10) hx hb hts i_c_X6_drawTile0_X2 tyX2 tyX2_ok nmX2 hown hK hP hD hS 2 rfl rfl 8 (by decide) (hts (.fieldLink RX6 219 "TileHouse$Seat" "letGo" "Z") (by decide +kernel)) (fun _ h9 => h9) rfl (by decide +kernel) (by decide) rfl (Nat.le_of_ble_eq_true rfl) dX6_drawTile_77 (fun H locs hP hD hS => ?_)
  replace hP : va_P G vwCl [(h0, .inr (5, [.ref pl, .ref wl, x2, x3, x4, x5, x6, .int 1, .int 0, x9, x10, x11, x12, x13, x14, .int r2, .int 0, x17, .long 0])), (pl, .inl (k 3, 4, .inr (.inr (.inr (.inr f))))), (s0, .inr (1, [.ref t0, oz1, oz2, oz3, oz4, .int 0, oz6, oz7, .int 0, oz9])), (t0, .inr (2, [.ref fr, .ref al, ow2, ow3, ow4, .int w7])), (fr, .inl (k 0, 34, .inl f5)), (al, .inl (k 0, 34, .inl g6))] H := hP
  replace hD : va_D A [(h0, .inr (5, [.ref pl, .ref wl, x2, x3, x4, x5, x6, .int 1, .int 0, x9, x10, x11, x12, x13, x14, .int r2, .int 0, x17, .long 0])), (pl, .inl (k 3, 4, .inr (.inr (.inr (.inr f))))), (s0, .inr (1, [.ref t0, oz1, oz2, oz3, oz4, .int 0, oz6, oz7, .int 0, oz9])), (t0, .inr (2, [.ref fr, .ref al, ow2, ow3, ow4, .int w7])), (fr, .inl (k 0, 34, .inl f5)), (al, .inl (k 0, 34, .inl g6))] := hD
  refine W.widen (k := 0) (n := 0) (Nat.le_of_ble_eq_true rfl) (Nat.le_of_ble_eq_true rfl) ?_
  exact W.vret hx hb hr (fun t ht hW => ⟨⟨(), rfl, trivial, trivial⟩, hS.F ht⟩) hS.2.2 dX6_drawTile_80
def v_c_X6_deal0 : List Cond := .code yX6_deal cX6_deal 6 (some .boolean) :: ([.fieldLink RX6 45 "TileHouse" "phase" "I", .fieldLink RX6 54 "TileHouse" "ended" "Z", .fieldLink RX6 18 "TileHouse" "bricks" "LTileHouse$Wall;", .methodLink RX6 58 yX4_build, .instanceMethod yX4_build, .selects RX4 yX4_build yX4_build, .initialized RX4, .fieldLink RX6 62 "TileHouse" "dealer" "I", .methodLink RX6 65 yX6_at, .instanceMethod yX6_at, .selects RX6 yX6_at yX6_at, .initialized RX6, .methodLink RX6 69 yX2_startHand, .instanceMethod yX2_startHand, .selects RX2 yX2_startHand yX2_startHand, .initialized RX2, .fieldLink RX6 83 "TileHouse" "winCount" "I", .fieldLink RX6 86 "TileHouse" "broken" "Z", .methodLink RX6 89 yX6_drawTile, .instanceMethod yX6_drawTile, .selects RX6 yX6_drawTile yX6_drawTile, .fieldLink RX6 72 "TileHouse$Seat" "tiles" "LTileHouse$Tiles;", .methodLink RX6 75 yX4_kindAt, .instanceMethod yX4_kindAt] ++ (([.selects RX4 yX4_kindAt yX4_kindAt, .methodLink RX6 79 yX3_put, .instanceMethod yX3_put, .selects RX3 yX3_put yX3_put, .initialized RX3] : List Cond) ++ (wsX60 ++ (v_c_X4_build ++ (v_c_X6_at ++ (v_c_X2_startHand ++ (v_c_X6_drawTile0 ++ (wsX20 ++ (v_c_X4_kindAt1 ++ (v_c_X3_put ++ ([])))))))))))
theorem vg_c_X6_deal0 : ∀ w ∈ v_c_X6_deal0, goodWord w = true := vg_c (c := .code yX6_deal cX6_deal 6 (some .boolean)) (l := [.fieldLink RX6 45 "TileHouse" "phase" "I", .fieldLink RX6 54 "TileHouse" "ended" "Z", .fieldLink RX6 18 "TileHouse" "bricks" "LTileHouse$Wall;", .methodLink RX6 58 yX4_build, .instanceMethod yX4_build, .selects RX4 yX4_build yX4_build, .initialized RX4, .fieldLink RX6 62 "TileHouse" "dealer" "I", .methodLink RX6 65 yX6_at, .instanceMethod yX6_at, .selects RX6 yX6_at yX6_at, .initialized RX6, .methodLink RX6 69 yX2_startHand, .instanceMethod yX2_startHand, .selects RX2 yX2_startHand yX2_startHand, .initialized RX2, .fieldLink RX6 83 "TileHouse" "winCount" "I", .fieldLink RX6 86 "TileHouse" "broken" "Z", .methodLink RX6 89 yX6_drawTile, .instanceMethod yX6_drawTile, .selects RX6 yX6_drawTile yX6_drawTile, .fieldLink RX6 72 "TileHouse$Seat" "tiles" "LTileHouse$Tiles;", .methodLink RX6 75 yX4_kindAt, .instanceMethod yX4_kindAt]) (by decide +kernel) (vg_a (vg_l (by decide +kernel)) (vg_a vgX6 (vg_a vg_c_X4_build (vg_a vg_c_X6_at (vg_a vg_c_X2_startHand (vg_a vg_c_X6_drawTile0 (vg_a vgX2 (vg_a vg_c_X4_kindAt1 (vg_a vg_c_X3_put (vg_nil))))))))))
theorem i_c_X6_deal0_X6 : ∀ w ∈ u_ws RX6 TX6 19, w ∈ v_c_X6_deal0 := fun _ h => List.mem_cons_of_mem _ (List.mem_append_right _ (List.mem_append_right _ (List.mem_append_left _ h)))
theorem i_c_X6_deal0_X2 : ∀ w ∈ u_ws RX2 TX2 10, w ∈ v_c_X6_deal0 := fun _ h => List.mem_cons_of_mem _ (List.mem_append_right _ (List.mem_append_right _ (List.mem_append_right _ (List.mem_append_right _ (List.mem_append_right _ (List.mem_append_right _ (List.mem_append_right _ (List.mem_append_left _ h))))))))
theorem g_c_X6_deal0_c_X4_build_58 : GoodIn v_c_X6_deal0 (wsV RX6 58 RX4 yX4_build v_c_X4_build) := goodIn_app (goodIn_of _ (by decide +kernel)) (fun w h => ⟨List.mem_cons_of_mem _ (List.mem_append_right _ (List.mem_append_right _ (List.mem_append_right _ (List.mem_append_left _ h)))), good_of_word (vg_c_X4_build w h)⟩)
theorem g_c_X6_deal0_c_X6_at_65 : GoodIn v_c_X6_deal0 (wsV RX6 65 RX6 yX6_at v_c_X6_at) := goodIn_app (goodIn_of _ (by decide +kernel)) (fun w h => ⟨List.mem_cons_of_mem _ (List.mem_append_right _ (List.mem_append_right _ (List.mem_append_right _ (List.mem_append_right _ (List.mem_append_left _ h))))), good_of_word (vg_c_X6_at w h)⟩)
theorem g_c_X6_deal0_c_X2_startHand_69 : GoodIn v_c_X6_deal0 (wsV RX6 69 RX2 yX2_startHand v_c_X2_startHand) := goodIn_app (goodIn_of _ (by decide +kernel)) (fun w h => ⟨List.mem_cons_of_mem _ (List.mem_append_right _ (List.mem_append_right _ (List.mem_append_right _ (List.mem_append_right _ (List.mem_append_right _ (List.mem_append_left _ h)))))), good_of_word (vg_c_X2_startHand w h)⟩)
theorem g_c_X6_deal0_c_X6_drawTile0_89 : GoodIn v_c_X6_deal0 (wsV RX6 89 RX6 yX6_drawTile v_c_X6_drawTile0) := goodIn_app (goodIn_of _ (by decide +kernel)) (fun w h => ⟨List.mem_cons_of_mem _ (List.mem_append_right _ (List.mem_append_right _ (List.mem_append_right _ (List.mem_append_right _ (List.mem_append_right _ (List.mem_append_right _ (List.mem_append_left _ h))))))), good_of_word (vg_c_X6_drawTile0 w h)⟩)
theorem g_c_X6_deal0_c_X4_kindAt1_75 : GoodIn v_c_X6_deal0 (wsV RX6 75 RX4 yX4_kindAt v_c_X4_kindAt1) := goodIn_app (goodIn_of _ (by decide +kernel)) (fun w h => ⟨List.mem_cons_of_mem _ (List.mem_append_right _ (List.mem_append_right _ (List.mem_append_right _ (List.mem_append_right _ (List.mem_append_right _ (List.mem_append_right _ (List.mem_append_right _ (List.mem_append_right _ (List.mem_append_left _ h))))))))), good_of_word (vg_c_X4_kindAt1 w h)⟩)
theorem g_c_X6_deal0_c_X3_put_79 : GoodIn v_c_X6_deal0 (wsV RX6 79 RX3 yX3_put v_c_X3_put) := goodIn_app (goodIn_of _ (by decide +kernel)) (fun w h => ⟨List.mem_cons_of_mem _ (List.mem_append_right _ (List.mem_append_right _ (List.mem_append_right _ (List.mem_append_right _ (List.mem_append_right _ (List.mem_append_right _ (List.mem_append_right _ (List.mem_append_right _ (List.mem_append_right _ (List.mem_append_left _ h)))))))))), good_of_word (vg_c_X3_put w h)⟩)
set_option maxHeartbeats 4000000 in
set_option maxRecDepth 100000 in
theorem c_X6_deal0 (l : Launch) (G : va_G) (k : Nat → ClassId) (sz : Nat) (h0 : Nat) (pl : Nat) (f : Nat → Option Nat) (sa : Nat → Nat) (hf : ∀ j, j < 4 → f j = some (sa j)) (wl : Nat) (wk : Nat) (f1 : Nat → Int32) (s0 : Nat) (t0 : Nat) (fr0 : Nat) (al0 : Nat) (hs0 : sa ((0 : Int32) &&& 3).toNatClampNeg = s0) (s1 : Nat) (t1 : Nat) (fr1 : Nat) (al1 : Nat) (hs1 : sa ((1 : Int32) &&& 3).toNatClampNeg = s1) (s2 : Nat) (t2 : Nat) (fr2 : Nat) (al2 : Nat) (hs2 : sa ((2 : Int32) &&& 3).toNatClampNeg = s2) (s3 : Nat) (t3 : Nat) (fr3 : Nat) (al3 : Nat) (hs3 : sa ((3 : Int32) &&& 3).toNatClampNeg = s3) (p0 : Int64) (x2 : Value) (x3 : Value) (x4 : Value) (x5 : Value) (x6 : Value) (x8 : Value) (x10 : Value) (x11 : Value) (x12 : Value) (x14 : Value) (x15 : Value) (x16 : Value) (x17 : Value) (x18 : Value) (oy1 : Value) (oy2 : Value) (oy3 : Value) (a0_1 : Value) (a0_2 : Value) (a0_3 : Value) (a0_4 : Value) (a0_5 : Value) (a0_6 : Value) (a0_7 : Value) (a0_8 : Value) (a0_9 : Value) (b0_2 : Value) (b0_3 : Value) (b0_4 : Value) (b0_5 : Value) (a1_1 : Value) (a1_2 : Value) (a1_3 : Value) (a1_4 : Value) (a1_5 : Value) (a1_6 : Value) (a1_7 : Value) (a1_8 : Value) (a1_9 : Value) (b1_2 : Value) (b1_3 : Value) (b1_4 : Value) (b1_5 : Value) (a2_1 : Value) (a2_2 : Value) (a2_3 : Value) (a2_4 : Value) (a2_5 : Value) (a2_6 : Value) (a2_7 : Value) (a2_8 : Value) (a2_9 : Value) (b2_2 : Value) (b2_3 : Value) (b2_4 : Value) (b2_5 : Value) (a3_1 : Value) (a3_2 : Value) (a3_3 : Value) (a3_4 : Value) (a3_5 : Value) (a3_6 : Value) (a3_7 : Value) (a3_8 : Value) (a3_9 : Value) (b3_2 : Value) (b3_3 : Value) (b3_4 : Value) (b3_5 : Value) : Met l yX6_deal v_c_X6_deal0 ({ frames := 3, cells := 0, slots := 0, locals := 65 }) (va_Pc [.ref h0, .long p0] (pq G k [(h0, .inr (5, [.ref pl, .ref wl, x2, x3, x4, x5, x6, .int 0, x8, .int 0, x10, x11, x12, .int 0, x14, x15, x16, x17, x18])), (pl, .inl (k 3, 4, .inr (.inr (.inr (.inr f))))), (wl, .inr (3, [.ref wk, oy1, oy2, oy3])), (wk, .inl (k 0, 136, .inl f1)), (s0, .inr (1, [.ref t0, a0_1, a0_2, a0_3, a0_4, a0_5, a0_6, a0_7, a0_8, a0_9])), (t0, .inr (2, [.ref fr0, .ref al0, b0_2, b0_3, b0_4, b0_5])), (fr0, .inl (k 0, 34, .inl (fun _ => 0))), (al0, .inl (k 0, 34, .inl (fun _ => 0))), (s1, .inr (1, [.ref t1, a1_1, a1_2, a1_3, a1_4, a1_5, a1_6, a1_7, a1_8, a1_9])), (t1, .inr (2, [.ref fr1, .ref al1, b1_2, b1_3, b1_4, b1_5])), (fr1, .inl (k 0, 34, .inl (fun _ => 0))), (al1, .inl (k 0, 34, .inl (fun _ => 0))), (s2, .inr (1, [.ref t2, a2_1, a2_2, a2_3, a2_4, a2_5, a2_6, a2_7, a2_8, a2_9])), (t2, .inr (2, [.ref fr2, .ref al2, b2_2, b2_3, b2_4, b2_5])), (fr2, .inl (k 0, 34, .inl (fun _ => 0))), (al2, .inl (k 0, 34, .inl (fun _ => 0))), (s3, .inr (1, [.ref t3, a3_1, a3_2, a3_3, a3_4, a3_5, a3_6, a3_7, a3_8, a3_9])), (t3, .inr (2, [.ref fr3, .ref al3, b3_2, b3_3, b3_4, b3_5])), (fr3, .inl (k 0, 34, .inl (fun _ => 0))), (al3, .inl (k 0, 34, .inl (fun _ => 0)))] sz)) (va_Qi (fun r (_ : Unit) => r = 1) (fun (_ : Unit) _ => True) (va_A [(h0, .inr (5, [.ref pl, .ref wl, x2, x3, x4, x5, x6, .int 0, x8, .int 0, x10, x11, x12, .int 0, x14, x15, x16, x17, x18])), (pl, .inl (k 3, 4, .inr (.inr (.inr (.inr f))))), (wl, .inr (3, [.ref wk, oy1, oy2, oy3])), (wk, .inl (k 0, 136, .inl f1)), (s0, .inr (1, [.ref t0, a0_1, a0_2, a0_3, a0_4, a0_5, a0_6, a0_7, a0_8, a0_9])), (t0, .inr (2, [.ref fr0, .ref al0, b0_2, b0_3, b0_4, b0_5])), (fr0, .inl (k 0, 34, .inl (fun _ => 0))), (al0, .inl (k 0, 34, .inl (fun _ => 0))), (s1, .inr (1, [.ref t1, a1_1, a1_2, a1_3, a1_4, a1_5, a1_6, a1_7, a1_8, a1_9])), (t1, .inr (2, [.ref fr1, .ref al1, b1_2, b1_3, b1_4, b1_5])), (fr1, .inl (k 0, 34, .inl (fun _ => 0))), (al1, .inl (k 0, 34, .inl (fun _ => 0))), (s2, .inr (1, [.ref t2, a2_1, a2_2, a2_3, a2_4, a2_5, a2_6, a2_7, a2_8, a2_9])), (t2, .inr (2, [.ref fr2, .ref al2, b2_2, b2_3, b2_4, b2_5])), (fr2, .inl (k 0, 34, .inl (fun _ => 0))), (al2, .inl (k 0, 34, .inl (fun _ => 0))), (s3, .inr (1, [.ref t3, a3_1, a3_2, a3_3, a3_4, a3_5, a3_6, a3_7, a3_8, a3_9])), (t3, .inr (2, [.ref fr3, .ref al3, b3_2, b3_3, b3_4, b3_5])), (fr3, .inl (k 0, 34, .inl (fun _ => 0))), (al3, .inl (k 0, 34, .inl (fun _ => 0)))] sz)) 0 0 (va_A [(h0, .inr (5, [.ref pl, .ref wl, x2, x3, x4, x5, x6, .int 0, x8, .int 0, x10, x11, x12, .int 0, x14, x15, x16, x17, x18])), (pl, .inl (k 3, 4, .inr (.inr (.inr (.inr f))))), (wl, .inr (3, [.ref wk, oy1, oy2, oy3])), (wk, .inl (k 0, 136, .inl f1)), (s0, .inr (1, [.ref t0, a0_1, a0_2, a0_3, a0_4, a0_5, a0_6, a0_7, a0_8, a0_9])), (t0, .inr (2, [.ref fr0, .ref al0, b0_2, b0_3, b0_4, b0_5])), (fr0, .inl (k 0, 34, .inl (fun _ => 0))), (al0, .inl (k 0, 34, .inl (fun _ => 0))), (s1, .inr (1, [.ref t1, a1_1, a1_2, a1_3, a1_4, a1_5, a1_6, a1_7, a1_8, a1_9])), (t1, .inr (2, [.ref fr1, .ref al1, b1_2, b1_3, b1_4, b1_5])), (fr1, .inl (k 0, 34, .inl (fun _ => 0))), (al1, .inl (k 0, 34, .inl (fun _ => 0))), (s2, .inr (1, [.ref t2, a2_1, a2_2, a2_3, a2_4, a2_5, a2_6, a2_7, a2_8, a2_9])), (t2, .inr (2, [.ref fr2, .ref al2, b2_2, b2_3, b2_4, b2_5])), (fr2, .inl (k 0, 34, .inl (fun _ => 0))), (al2, .inl (k 0, 34, .inl (fun _ => 0))), (s3, .inr (1, [.ref t3, a3_1, a3_2, a3_3, a3_4, a3_5, a3_6, a3_7, a3_8, a3_9])), (t3, .inr (2, [.ref fr3, .ref al3, b3_2, b3_3, b3_4, b3_5])), (fr3, .inl (k 0, 34, .inl (fun _ => 0))), (al3, .inl (k 0, 34, .inl (fun _ => 0)))] sz) := by
  refine Met.ofW (cc := cX6_deal) (maxL := 6) (ret := (some .boolean)) (by decide) rfl ?_
  intro p e s m args below meth c s₁ B hml hv
  obtain ⟨rfl, hsz, ⟨hP, hK, hN⟩, hD0⟩ := hv
  have hx := B.exec
  have hb := B.bytes
  have hr := B.returns
  have hts := atoms_spec (ws := v_c_X6_deal0) B.pre
  have hown : s.vm.findClass RX6 = some m.cls := findClass_of_methodNamed B.named
  have hlocks := B.notSynchronized
  subst hsz
  have hD := hD0.self (sz := s.heap.size)
  generalize hAe : va_A [(h0, .inr (5, [.ref pl, .ref wl, x2, x3, x4, x5, x6, .int 0, x8, .int 0, x10, x11, x12, .int 0, x14, x15, x16, x17, x18])), (pl, .inl (k 3, 4, .inr (.inr (.inr (.inr f))))), (wl, .inr (3, [.ref wk, oy1, oy2, oy3])), (wk, .inl (k 0, 136, .inl f1)), (s0, .inr (1, [.ref t0, a0_1, a0_2, a0_3, a0_4, a0_5, a0_6, a0_7, a0_8, a0_9])), (t0, .inr (2, [.ref fr0, .ref al0, b0_2, b0_3, b0_4, b0_5])), (fr0, .inl (k 0, 34, .inl (fun _ => 0))), (al0, .inl (k 0, 34, .inl (fun _ => 0))), (s1, .inr (1, [.ref t1, a1_1, a1_2, a1_3, a1_4, a1_5, a1_6, a1_7, a1_8, a1_9])), (t1, .inr (2, [.ref fr1, .ref al1, b1_2, b1_3, b1_4, b1_5])), (fr1, .inl (k 0, 34, .inl (fun _ => 0))), (al1, .inl (k 0, 34, .inl (fun _ => 0))), (s2, .inr (1, [.ref t2, a2_1, a2_2, a2_3, a2_4, a2_5, a2_6, a2_7, a2_8, a2_9])), (t2, .inr (2, [.ref fr2, .ref al2, b2_2, b2_3, b2_4, b2_5])), (fr2, .inl (k 0, 34, .inl (fun _ => 0))), (al2, .inl (k 0, 34, .inl (fun _ => 0))), (s3, .inr (1, [.ref t3, a3_1, a3_2, a3_3, a3_4, a3_5, a3_6, a3_7, a3_8, a3_9])), (t3, .inr (2, [.ref fr3, .ref al3, b3_2, b3_3, b3_4, b3_5])), (fr3, .inl (k 0, 34, .inl (fun _ => 0))), (al3, .inl (k 0, 34, .inl (fun _ => 0)))] s.heap.size = A at hD ⊢
  have hA : ∀ q : Nat, s.heap.size ≤ q → A q := fun q h => by rw [← hAe]; exact Or.inr h
  have hS : va_S A s.heap s.heap [] := va_S.rf
  have hP : va_P G vwCl [(h0, .inr (5, [.ref pl, .ref wl, x2, x3, x4, x5, x6, .int 0, x8, .int 0, x10, x11, x12, .int 0, x14, x15, x16, x17, x18])), (pl, .inl (k 3, 4, .inr (.inr (.inr (.inr f))))), (wl, .inr (3, [.ref wk, oy1, oy2, oy3])), (wk, .inl (k 0, 136, .inl f1)), (s0, .inr (1, [.ref t0, a0_1, a0_2, a0_3, a0_4, a0_5, a0_6, a0_7, a0_8, a0_9])), (t0, .inr (2, [.ref fr0, .ref al0, b0_2, b0_3, b0_4, b0_5])), (fr0, .inl (k 0, 34, .inl (fun _ => 0))), (al0, .inl (k 0, 34, .inl (fun _ => 0))), (s1, .inr (1, [.ref t1, a1_1, a1_2, a1_3, a1_4, a1_5, a1_6, a1_7, a1_8, a1_9])), (t1, .inr (2, [.ref fr1, .ref al1, b1_2, b1_3, b1_4, b1_5])), (fr1, .inl (k 0, 34, .inl (fun _ => 0))), (al1, .inl (k 0, 34, .inl (fun _ => 0))), (s2, .inr (1, [.ref t2, a2_1, a2_2, a2_3, a2_4, a2_5, a2_6, a2_7, a2_8, a2_9])), (t2, .inr (2, [.ref fr2, .ref al2, b2_2, b2_3, b2_4, b2_5])), (fr2, .inl (k 0, 34, .inl (fun _ => 0))), (al2, .inl (k 0, 34, .inl (fun _ => 0))), (s3, .inr (1, [.ref t3, a3_1, a3_2, a3_3, a3_4, a3_5, a3_6, a3_7, a3_8, a3_9])), (t3, .inr (2, [.ref fr3, .ref al3, b3_2, b3_3, b3_4, b3_5])), (fr3, .inl (k 0, 34, .inl (fun _ => 0))), (al3, .inl (k 0, 34, .inl (fun _ => 0)))] s.heap := hP
  refine hvar hP hS (fun H locs hP hS => ?_)
  have hl := lv_entry ([.ref h0, .long p0]) (n := 6) (Nat.le_of_ble_eq_true rfl)
  rw [lg_entry_eq]
  generalize (lg_sl ([.ref h0, .long p0]) ++ List.replicate (6 - (lg_sl ([.ref h0, .long p0])).length) Slot.unset).toArray = ls at hl ⊢
  have hl : lv_has ls 6 [(0, .ref h0), (1, .long p0)] := hl
  refine lv_aload_n hx hb dX6_deal_0 rfl (lv_at hl 0 rfl) ?_
  refine va_get (D := G) (ci := 5) (v := .int 0) (C := RX6) (T := TX6) (N := 19) hx hb hts i_c_X6_deal0_X6 hown hK hP 0 rfl rfl 7 (by decide) (hts (.fieldLink RX6 45 "TileHouse" "phase" "I") (by decide +kernel)) (fun _ h9 => h9) rfl dX6_deal_1 ?_
  refine lv_if_ne (tgt := 14) hx hb dX6_deal_4 (by decide) (fun c9 => absurd (by decide) c9) (fun _ => ?_)
  refine lv_aload_n hx hb dX6_deal_7 rfl (lv_at hl 0 rfl) ?_
  refine va_get (D := G) (ci := 5) (v := .int 0) (C := RX6) (T := TX6) (N := 19) hx hb hts i_c_X6_deal0_X6 hown hK hP 0 rfl rfl 13 (by decide) (hts (.fieldLink RX6 54 "TileHouse" "ended" "Z") (by decide +kernel)) (fun _ h9 => h9) rfl dX6_deal_8 ?_
  refine lv_if_eq (tgt := 16) hx hb dX6_deal_11 (by decide) (fun _ => ?_) (fun c9 => absurd (by decide) c9)
  refine lv_aload_n hx hb dX6_deal_16 rfl (lv_at hl 0 rfl) ?_
  refine va_get (D := G) (ci := 5) (v := .ref wl) (C := RX6) (T := TX6) (N := 19) hx hb hts i_c_X6_deal0_X6 hown hK hP 0 rfl rfl 1 (by decide) (hts (.fieldLink RX6 18 "TileHouse" "bricks" "LTileHouse$Wall;") (by decide +kernel)) (fun _ h9 => h9) rfl dX6_deal_17 ?_
  refine lv_lload_n hx hb dX6_deal_20 rfl (lv_at hl 1 rfl) ?_
  have hPc := hP.sub (ws' := [(wl, .inr (3, [.ref wk, oy1, oy2, oy3])), (wk, .inl (k 0, 136, .inl f1))]) [2, 3] rfl
  have hDc := hD.sub (ws' := [(wl, .inr (3, [.ref wk, oy1, oy2, oy3])), (wk, .inl (k 0, 136, .inl f1))]) [2, 3] (by decide) rfl
  have hFc := va_free (wc := [(wl, .inr (3, [.ref wk, oy1, oy2, oy3])), (wk, .inl (k 0, 136, .inl f1))]) hD hS hA [2, 3] rfl
  refine va_callv (va_runV (As := [.long p0]) (rest := []) ⟨hx, hb, hml, hown, hts⟩ (c_X4_build l G k H.size wl wk f1 p0 (oy1) (oy2) (oy3)) (cwV 1 hts g_c_X6_deal0_c_X4_build_58 rfl rfl rfl (by decide +kernel) ⟨Nat.le_of_ble_eq_true rfl, Nat.le_of_ble_eq_true rfl⟩) ⟨pq_bl, va_recv hK hPc (ci := 3) (q0 := 0) rfl rfl, pq_pre hPc hDc hK hN⟩ rfl rfl hl.1 rfl (lv_room (Nat.le_of_ble_eq_true rfl)) dX6_deal_21 ⟨Nat.le_of_ble_eq_true rfl, Nat.le_of_ble_eq_true rfl⟩) hS (fun q _ h => hFc q h) hFc (fun ur1 t H1 locs ht hvm hr1 hB hz1 hk1 hS => ?_)
  obtain ⟨f2, rfl⟩ : ∃ z, z = ur1 := ⟨_, rfl⟩
  obtain ⟨hP1, hD1⟩ := hB
  rw [ht] at hP1
  obtain ⟨hP, hD⟩ := va_join (wr := [(h0, .inr (5, [.ref pl, .ref wl, x2, x3, x4, x5, x6, .int 0, x8, .int 0, x10, x11, x12, .int 0, x14, x15, x16, x17, x18])), (pl, .inl (k 3, 4, .inr (.inr (.inr (.inr f))))), (s0, .inr (1, [.ref t0, a0_1, a0_2, a0_3, a0_4, a0_5, a0_6, a0_7, a0_8, a0_9])), (t0, .inr (2, [.ref fr0, .ref al0, b0_2, b0_3, b0_4, b0_5])), (fr0, .inl (k 0, 34, .inl (fun _ => 0))), (al0, .inl (k 0, 34, .inl (fun _ => 0))), (s1, .inr (1, [.ref t1, a1_1, a1_2, a1_3, a1_4, a1_5, a1_6, a1_7, a1_8, a1_9])), (t1, .inr (2, [.ref fr1, .ref al1, b1_2, b1_3, b1_4, b1_5])), (fr1, .inl (k 0, 34, .inl (fun _ => 0))), (al1, .inl (k 0, 34, .inl (fun _ => 0))), (s2, .inr (1, [.ref t2, a2_1, a2_2, a2_3, a2_4, a2_5, a2_6, a2_7, a2_8, a2_9])), (t2, .inr (2, [.ref fr2, .ref al2, b2_2, b2_3, b2_4, b2_5])), (fr2, .inl (k 0, 34, .inl (fun _ => 0))), (al2, .inl (k 0, 34, .inl (fun _ => 0))), (s3, .inr (1, [.ref t3, a3_1, a3_2, a3_3, a3_4, a3_5, a3_6, a3_7, a3_8, a3_9])), (t3, .inr (2, [.ref fr3, .ref al3, b3_2, b3_3, b3_4, b3_5])), (fr3, .inl (k 0, 34, .inl (fun _ => 0))), (al3, .inl (k 0, 34, .inl (fun _ => 0)))]) (w1 := [(wl, .inr (3, [.ref wk, .int 1, .int 52, .int 0])), (wk, .inl (k 0, 136, .inl f2))]) hP hD [2, 3] [0, 1, 4, 5, 6, 7, 8, 9, 10, 11, 12, 13, 14, 15, 16, 17, 18, 19] rfl rfl (by decide) (by decide) hk1 hFc hP1 hD1
  clear hP1 hD1
  generalize H1 = H at hP hS ⊢
  replace hP : va_P G vwCl [(h0, .inr (5, [.ref pl, .ref wl, x2, x3, x4, x5, x6, .int 0, x8, .int 0, x10, x11, x12, .int 0, x14, x15, x16, x17, x18])), (pl, .inl (k 3, 4, .inr (.inr (.inr (.inr f))))), (s0, .inr (1, [.ref t0, a0_1, a0_2, a0_3, a0_4, a0_5, a0_6, a0_7, a0_8, a0_9])), (t0, .inr (2, [.ref fr0, .ref al0, b0_2, b0_3, b0_4, b0_5])), (fr0, .inl (k 0, 34, .inl (fun _ => 0))), (al0, .inl (k 0, 34, .inl (fun _ => 0))), (s1, .inr (1, [.ref t1, a1_1, a1_2, a1_3, a1_4, a1_5, a1_6, a1_7, a1_8, a1_9])), (t1, .inr (2, [.ref fr1, .ref al1, b1_2, b1_3, b1_4, b1_5])), (fr1, .inl (k 0, 34, .inl (fun _ => 0))), (al1, .inl (k 0, 34, .inl (fun _ => 0))), (s2, .inr (1, [.ref t2, a2_1, a2_2, a2_3, a2_4, a2_5, a2_6, a2_7, a2_8, a2_9])), (t2, .inr (2, [.ref fr2, .ref al2, b2_2, b2_3, b2_4, b2_5])), (fr2, .inl (k 0, 34, .inl (fun _ => 0))), (al2, .inl (k 0, 34, .inl (fun _ => 0))), (s3, .inr (1, [.ref t3, a3_1, a3_2, a3_3, a3_4, a3_5, a3_6, a3_7, a3_8, a3_9])), (t3, .inr (2, [.ref fr3, .ref al3, b3_2, b3_3, b3_4, b3_5])), (fr3, .inl (k 0, 34, .inl (fun _ => 0))), (al3, .inl (k 0, 34, .inl (fun _ => 0))), (wl, .inr (3, [.ref wk, .int 1, .int 52, .int 0])), (wk, .inl (k 0, 136, .inl f2))] H := hP
  replace hD : va_D A [(h0, .inr (5, [.ref pl, .ref wl, x2, x3, x4, x5, x6, .int 0, x8, .int 0, x10, x11, x12, .int 0, x14, x15, x16, x17, x18])), (pl, .inl (k 3, 4, .inr (.inr (.inr (.inr f))))), (s0, .inr (1, [.ref t0, a0_1, a0_2, a0_3, a0_4, a0_5, a0_6, a0_7, a0_8, a0_9])), (t0, .inr (2, [.ref fr0, .ref al0, b0_2, b0_3, b0_4, b0_5])), (fr0, .inl (k 0, 34, .inl (fun _ => 0))), (al0, .inl (k 0, 34, .inl (fun _ => 0))), (s1, .inr (1, [.ref t1, a1_1, a1_2, a1_3, a1_4, a1_5, a1_6, a1_7, a1_8, a1_9])), (t1, .inr (2, [.ref fr1, .ref al1, b1_2, b1_3, b1_4, b1_5])), (fr1, .inl (k 0, 34, .inl (fun _ => 0))), (al1, .inl (k 0, 34, .inl (fun _ => 0))), (s2, .inr (1, [.ref t2, a2_1, a2_2, a2_3, a2_4, a2_5, a2_6, a2_7, a2_8, a2_9])), (t2, .inr (2, [.ref fr2, .ref al2, b2_2, b2_3, b2_4, b2_5])), (fr2, .inl (k 0, 34, .inl (fun _ => 0))), (al2, .inl (k 0, 34, .inl (fun _ => 0))), (s3, .inr (1, [.ref t3, a3_1, a3_2, a3_3, a3_4, a3_5, a3_6, a3_7, a3_8, a3_9])), (t3, .inr (2, [.ref fr3, .ref al3, b3_2, b3_3, b3_4, b3_5])), (fr3, .inl (k 0, 34, .inl (fun _ => 0))), (al3, .inl (k 0, 34, .inl (fun _ => 0))), (wl, .inr (3, [.ref wk, .int 1, .int 52, .int 0])), (wk, .inl (k 0, 136, .inl f2))] := hD
  refine lv_iconst (v := 0) hx hb dX6_deal_24 (by decide) ?_
  refine lv_istore_n (lv' := [(3, .int 0), (0, .ref h0), (1, .long p0)]) hx hb dX6_deal_25 rfl hl (by decide) rfl (fun ls hl => ?_)
  refine lv_iload_n hx hb dX6_deal_26 rfl (lv_at hl 0 rfl) ?_
  refine lv_iconst (v := 4) hx hb dX6_deal_27 (by decide) ?_
  refine lv_icmp_ge (tgt := 93) hx hb dX6_deal_28 (by decide) (fun c9 => absurd c9 (by decide)) (fun _ => ?_)
  refine lv_aload_n hx hb dX6_deal_31 rfl (lv_at hl 1 rfl) ?_
  refine lv_aload_n hx hb dX6_deal_32 rfl (lv_at hl 1 rfl) ?_
  refine va_get (D := G) (ci := 5) (v := .int 0) (C := RX6) (T := TX6) (N := 19) hx hb hts i_c_X6_deal0_X6 hown hK hP 0 rfl rfl 9 (by decide) (hts (.fieldLink RX6 62 "TileHouse" "dealer" "I") (by decide +kernel)) (fun _ h9 => h9) rfl dX6_deal_33 ?_
  refine lv_iload_n hx hb dX6_deal_36 rfl (lv_at hl 0 rfl) ?_
  refine lv_iadd hx hb dX6_deal_37 ?_
  refine lv_topi (fun z3 ez3 => ?_)
  obtain rfl : z3 = 0 := ez3.trans (by decide)
  have hPc := hP.sub (ws' := [(h0, .inr (5, [.ref pl, .ref wl, x2, x3, x4, x5, x6, .int 0, x8, .int 0, x10, x11, x12, .int 0, x14, x15, x16, x17, x18])), (pl, .inl (k 3, 4, .inr (.inr (.inr (.inr f)))))]) [0, 1] rfl
  refine q_callr (va_runV (As := [.int 0]) (rest := []) ⟨hx, hb, hml, hown, hts⟩ (c_X6_at l G k h0 pl f sa hf 0 (.ref wl) (x2) (x3) (x4) (x5) (x6) (.int 0) (x8) (.int 0) (x10) (x11) (x12) (.int 0) (x14) (x15) (x16) (x17) (x18)) (cwV 1 hts g_c_X6_deal0_c_X6_at_65 rfl rfl rfl (by decide +kernel) ⟨Nat.le_of_ble_eq_true rfl, Nat.le_of_ble_eq_true rfl⟩) ⟨pr_bl, va_recv hK hPc (ci := 5) (q0 := 0) rfl rfl, pr_pre hPc hK hN⟩ rfl rfl hl.1 rfl (lv_room (Nat.le_of_ble_eq_true rfl)) dX6_deal_38 ⟨Nat.le_of_ble_eq_true rfl, Nat.le_of_ble_eq_true rfl⟩) (fun r4 hr4 => ?_)
  rw [show r4 = s0 from hr4.trans hs0]
  refine lv_astore (lv' := [(4, .ref s0), (3, .int 0), (0, .ref h0), (1, .long p0)]) hx hb dX6_deal_41 hl (by decide) rfl (fun ls hl => ?_)
  refine lv_aload hx hb dX6_deal_43 (lv_at hl 0 rfl) ?_
  have hPc := hP.sub (ws' := [(s0, .inr (1, [.ref t0, a0_1, a0_2, a0_3, a0_4, a0_5, a0_6, a0_7, a0_8, a0_9])), (t0, .inr (2, [.ref fr0, .ref al0, b0_2, b0_3, b0_4, b0_5])), (fr0, .inl (k 0, 34, .inl (fun _ => 0))), (al0, .inl (k 0, 34, .inl (fun _ => 0)))]) [2, 3, 4, 5] rfl
  have hDc := hD.sub (ws' := [(s0, .inr (1, [.ref t0, a0_1, a0_2, a0_3, a0_4, a0_5, a0_6, a0_7, a0_8, a0_9])), (t0, .inr (2, [.ref fr0, .ref al0, b0_2, b0_3, b0_4, b0_5])), (fr0, .inl (k 0, 34, .inl (fun _ => 0))), (al0, .inl (k 0, 34, .inl (fun _ => 0)))]) [2, 3, 4, 5] (by decide) rfl
  have hFc := va_free (wc := [(s0, .inr (1, [.ref t0, a0_1, a0_2, a0_3, a0_4, a0_5, a0_6, a0_7, a0_8, a0_9])), (t0, .inr (2, [.ref fr0, .ref al0, b0_2, b0_3, b0_4, b0_5])), (fr0, .inl (k 0, 34, .inl (fun _ => 0))), (al0, .inl (k 0, 34, .inl (fun _ => 0)))]) hD hS hA [2, 3, 4, 5] rfl
  refine va_callv (va_runV (As := []) (rest := []) ⟨hx, hb, hml, hown, hts⟩ (c_X2_startHand l G k H.size s0 t0 fr0 al0 (fun _ => 0) (fun _ => 0) (a0_1) (a0_2) (a0_3) (a0_4) (a0_5) (a0_6) (a0_7) (a0_8) (a0_9) (b0_2) (b0_3) (b0_4) (b0_5)) (cwV 0 hts g_c_X6_deal0_c_X2_startHand_69 rfl rfl rfl (by decide +kernel) ⟨Nat.le_of_ble_eq_true rfl, Nat.le_of_ble_eq_true rfl⟩) ⟨pq_bl, va_recv hK hPc (ci := 1) (q0 := 0) rfl rfl, pq_pre hPc hDc hK hN⟩ rfl rfl hl.1 rfl (lv_room (Nat.le_of_ble_eq_true rfl)) dX6_deal_45 ⟨Nat.le_of_ble_eq_true rfl, Nat.le_of_ble_eq_true rfl⟩) hS (fun q _ h => hFc q h) hFc (fun ur5 t H1 locs ht hvm hr5 hB hz1 hk1 hS => ?_)
  obtain ⟨f6, g7⟩ := ur5
  obtain ⟨hP1, hD1⟩ := hB
  rw [ht] at hP1
  obtain ⟨hP, hD⟩ := va_join (wr := [(h0, .inr (5, [.ref pl, .ref wl, x2, x3, x4, x5, x6, .int 0, x8, .int 0, x10, x11, x12, .int 0, x14, x15, x16, x17, x18])), (pl, .inl (k 3, 4, .inr (.inr (.inr (.inr f))))), (s1, .inr (1, [.ref t1, a1_1, a1_2, a1_3, a1_4, a1_5, a1_6, a1_7, a1_8, a1_9])), (t1, .inr (2, [.ref fr1, .ref al1, b1_2, b1_3, b1_4, b1_5])), (fr1, .inl (k 0, 34, .inl (fun _ => 0))), (al1, .inl (k 0, 34, .inl (fun _ => 0))), (s2, .inr (1, [.ref t2, a2_1, a2_2, a2_3, a2_4, a2_5, a2_6, a2_7, a2_8, a2_9])), (t2, .inr (2, [.ref fr2, .ref al2, b2_2, b2_3, b2_4, b2_5])), (fr2, .inl (k 0, 34, .inl (fun _ => 0))), (al2, .inl (k 0, 34, .inl (fun _ => 0))), (s3, .inr (1, [.ref t3, a3_1, a3_2, a3_3, a3_4, a3_5, a3_6, a3_7, a3_8, a3_9])), (t3, .inr (2, [.ref fr3, .ref al3, b3_2, b3_3, b3_4, b3_5])), (fr3, .inl (k 0, 34, .inl (fun _ => 0))), (al3, .inl (k 0, 34, .inl (fun _ => 0))), (wl, .inr (3, [.ref wk, .int 1, .int 52, .int 0])), (wk, .inl (k 0, 136, .inl f2))]) (w1 := [(s0, .inr (1, [.ref t0, a0_1, .int 0, .long 0, a0_4, .int 0, .int 0, .int 0, .int 0, .int 0])), (t0, .inr (2, [.ref fr0, .ref al0, b0_2, b0_3, .int 0, .int 0])), (fr0, .inl (k 0, 34, .inl f6)), (al0, .inl (k 0, 34, .inl g7))]) hP hD [2, 3, 4, 5] [0, 1, 6, 7, 8, 9, 10, 11, 12, 13, 14, 15, 16, 17, 18, 19] rfl rfl (by decide) (by decide) hk1 hFc hP1 hD1
  clear hP1 hD1
  generalize H1 = H at hP hS ⊢
  replace hP : va_P G vwCl [(h0, .inr (5, [.ref pl, .ref wl, x2, x3, x4, x5, x6, .int 0, x8, .int 0, x10, x11, x12, .int 0, x14, x15, x16, x17, x18])), (pl, .inl (k 3, 4, .inr (.inr (.inr (.inr f))))), (s1, .inr (1, [.ref t1, a1_1, a1_2, a1_3, a1_4, a1_5, a1_6, a1_7, a1_8, a1_9])), (t1, .inr (2, [.ref fr1, .ref al1, b1_2, b1_3, b1_4, b1_5])), (fr1, .inl (k 0, 34, .inl (fun _ => 0))), (al1, .inl (k 0, 34, .inl (fun _ => 0))), (s2, .inr (1, [.ref t2, a2_1, a2_2, a2_3, a2_4, a2_5, a2_6, a2_7, a2_8, a2_9])), (t2, .inr (2, [.ref fr2, .ref al2, b2_2, b2_3, b2_4, b2_5])), (fr2, .inl (k 0, 34, .inl (fun _ => 0))), (al2, .inl (k 0, 34, .inl (fun _ => 0))), (s3, .inr (1, [.ref t3, a3_1, a3_2, a3_3, a3_4, a3_5, a3_6, a3_7, a3_8, a3_9])), (t3, .inr (2, [.ref fr3, .ref al3, b3_2, b3_3, b3_4, b3_5])), (fr3, .inl (k 0, 34, .inl (fun _ => 0))), (al3, .inl (k 0, 34, .inl (fun _ => 0))), (wl, .inr (3, [.ref wk, .int 1, .int 52, .int 0])), (wk, .inl (k 0, 136, .inl f2)), (s0, .inr (1, [.ref t0, a0_1, .int 0, .long 0, a0_4, .int 0, .int 0, .int 0, .int 0, .int 0])), (t0, .inr (2, [.ref fr0, .ref al0, b0_2, b0_3, .int 0, .int 0])), (fr0, .inl (k 0, 34, .inl f6)), (al0, .inl (k 0, 34, .inl g7))] H := hP
  replace hD : va_D A [(h0, .inr (5, [.ref pl, .ref wl, x2, x3, x4, x5, x6, .int 0, x8, .int 0, x10, x11, x12, .int 0, x14, x15, x16, x17, x18])), (pl, .inl (k 3, 4, .inr (.inr (.inr (.inr f))))), (s1, .inr (1, [.ref t1, a1_1, a1_2, a1_3, a1_4, a1_5, a1_6, a1_7, a1_8, a1_9])), (t1, .inr (2, [.ref fr1, .ref al1, b1_2, b1_3, b1_4, b1_5])), (fr1, .inl (k 0, 34, .inl (fun _ => 0))), (al1, .inl (k 0, 34, .inl (fun _ => 0))), (s2, .inr (1, [.ref t2, a2_1, a2_2, a2_3, a2_4, a2_5, a2_6, a2_7, a2_8, a2_9])), (t2, .inr (2, [.ref fr2, .ref al2, b2_2, b2_3, b2_4, b2_5])), (fr2, .inl (k 0, 34, .inl (fun _ => 0))), (al2, .inl (k 0, 34, .inl (fun _ => 0))), (s3, .inr (1, [.ref t3, a3_1, a3_2, a3_3, a3_4, a3_5, a3_6, a3_7, a3_8, a3_9])), (t3, .inr (2, [.ref fr3, .ref al3, b3_2, b3_3, b3_4, b3_5])), (fr3, .inl (k 0, 34, .inl (fun _ => 0))), (al3, .inl (k 0, 34, .inl (fun _ => 0))), (wl, .inr (3, [.ref wk, .int 1, .int 52, .int 0])), (wk, .inl (k 0, 136, .inl f2)), (s0, .inr (1, [.ref t0, a0_1, .int 0, .long 0, a0_4, .int 0, .int 0, .int 0, .int 0, .int 0])), (t0, .inr (2, [.ref fr0, .ref al0, b0_2, b0_3, .int 0, .int 0])), (fr0, .inl (k 0, 34, .inl f6)), (al0, .inl (k 0, 34, .inl g7))] := hD
  refine lv_iconst (v := 0) hx hb dX6_deal_48 (by decide) ?_
  refine lv_istore (lv' := [(5, .int 0), (4, .ref s0), (3, .int 0), (0, .ref h0), (1, .long p0)]) hx hb dX6_deal_49 hl (by decide) rfl (fun ls hl => ?_)
  obtain ⟨j8, kj8, ej8, hj8⟩ : ∃ j : Nat, j = 0 ∧ nI j = (0 : Int32) ∧ j ≤ 13 := ⟨0, rfl, rfl, by decide⟩
  replace hl : lv_has ls 6 [(5, .int (nI j8)), (4, .ref s0), (3, .int 0), (0, .ref h0), (1, .long p0)] := by rw [ej8]; exact hl
  obtain ⟨w9, ew9⟩ : ∃ x : Int32, x = 0 := ⟨_, rfl⟩
  replace hP : va_P G vwCl [(h0, .inr (5, [.ref pl, .ref wl, x2, x3, x4, x5, x6, .int 0, x8, .int 0, x10, x11, x12, .int 0, x14, x15, x16, x17, x18])), (pl, .inl (k 3, 4, .inr (.inr (.inr (.inr f))))), (s1, .inr (1, [.ref t1, a1_1, a1_2, a1_3, a1_4, a1_5, a1_6, a1_7, a1_8, a1_9])), (t1, .inr (2, [.ref fr1, .ref al1, b1_2, b1_3, b1_4, b1_5])), (fr1, .inl (k 0, 34, .inl (fun _ => 0))), (al1, .inl (k 0, 34, .inl (fun _ => 0))), (s2, .inr (1, [.ref t2, a2_1, a2_2, a2_3, a2_4, a2_5, a2_6, a2_7, a2_8, a2_9])), (t2, .inr (2, [.ref fr2, .ref al2, b2_2, b2_3, b2_4, b2_5])), (fr2, .inl (k 0, 34, .inl (fun _ => 0))), (al2, .inl (k 0, 34, .inl (fun _ => 0))), (s3, .inr (1, [.ref t3, a3_1, a3_2, a3_3, a3_4, a3_5, a3_6, a3_7, a3_8, a3_9])), (t3, .inr (2, [.ref fr3, .ref al3, b3_2, b3_3, b3_4, b3_5])), (fr3, .inl (k 0, 34, .inl (fun _ => 0))), (al3, .inl (k 0, 34, .inl (fun _ => 0))), (wl, .inr (3, [.ref wk, .int 1, .int 52, .int 0])), (wk, .inl (k 0, 136, .inl f2)), (s0, .inr (1, [.ref t0, a0_1, .int 0, .long 0, a0_4, .int 0, .int 0, .int 0, .int 0, .int 0])), (t0, .inr (2, [.ref fr0, .ref al0, b0_2, b0_3, .int 0, .int w9])), (fr0, .inl (k 0, 34, .inl f6)), (al0, .inl (k 0, 34, .inl g7))] H := by rw [ew9]; exact hP
  replace hD : va_D A [(h0, .inr (5, [.ref pl, .ref wl, x2, x3, x4, x5, x6, .int 0, x8, .int 0, x10, x11, x12, .int 0, x14, x15, x16, x17, x18])), (pl, .inl (k 3, 4, .inr (.inr (.inr (.inr f))))), (s1, .inr (1, [.ref t1, a1_1, a1_2, a1_3, a1_4, a1_5, a1_6, a1_7, a1_8, a1_9])), (t1, .inr (2, [.ref fr1, .ref al1, b1_2, b1_3, b1_4, b1_5])), (fr1, .inl (k 0, 34, .inl (fun _ => 0))), (al1, .inl (k 0, 34, .inl (fun _ => 0))), (s2, .inr (1, [.ref t2, a2_1, a2_2, a2_3, a2_4, a2_5, a2_6, a2_7, a2_8, a2_9])), (t2, .inr (2, [.ref fr2, .ref al2, b2_2, b2_3, b2_4, b2_5])), (fr2, .inl (k 0, 34, .inl (fun _ => 0))), (al2, .inl (k 0, 34, .inl (fun _ => 0))), (s3, .inr (1, [.ref t3, a3_1, a3_2, a3_3, a3_4, a3_5, a3_6, a3_7, a3_8, a3_9])), (t3, .inr (2, [.ref fr3, .ref al3, b3_2, b3_3, b3_4, b3_5])), (fr3, .inl (k 0, 34, .inl (fun _ => 0))), (al3, .inl (k 0, 34, .inl (fun _ => 0))), (wl, .inr (3, [.ref wk, .int 1, .int 52, .int 0])), (wk, .inl (k 0, 136, .inl f2)), (s0, .inr (1, [.ref t0, a0_1, .int 0, .long 0, a0_4, .int 0, .int 0, .int 0, .int 0, .int 0])), (t0, .inr (2, [.ref fr0, .ref al0, b0_2, b0_3, .int 0, .int w9])), (fr0, .inl (k 0, 34, .inl f6)), (al0, .inl (k 0, 34, .inl g7))] := by rw [ew9]; exact hD
  clear ew9
  obtain ⟨f10, ef10⟩ : ∃ x : Nat → Int32, x = (g7) := ⟨_, rfl⟩
  replace hP : va_P G vwCl [(h0, .inr (5, [.ref pl, .ref wl, x2, x3, x4, x5, x6, .int 0, x8, .int 0, x10, x11, x12, .int 0, x14, x15, x16, x17, x18])), (pl, .inl (k 3, 4, .inr (.inr (.inr (.inr f))))), (s1, .inr (1, [.ref t1, a1_1, a1_2, a1_3, a1_4, a1_5, a1_6, a1_7, a1_8, a1_9])), (t1, .inr (2, [.ref fr1, .ref al1, b1_2, b1_3, b1_4, b1_5])), (fr1, .inl (k 0, 34, .inl (fun _ => 0))), (al1, .inl (k 0, 34, .inl (fun _ => 0))), (s2, .inr (1, [.ref t2, a2_1, a2_2, a2_3, a2_4, a2_5, a2_6, a2_7, a2_8, a2_9])), (t2, .inr (2, [.ref fr2, .ref al2, b2_2, b2_3, b2_4, b2_5])), (fr2, .inl (k 0, 34, .inl (fun _ => 0))), (al2, .inl (k 0, 34, .inl (fun _ => 0))), (s3, .inr (1, [.ref t3, a3_1, a3_2, a3_3, a3_4, a3_5, a3_6, a3_7, a3_8, a3_9])), (t3, .inr (2, [.ref fr3, .ref al3, b3_2, b3_3, b3_4, b3_5])), (fr3, .inl (k 0, 34, .inl (fun _ => 0))), (al3, .inl (k 0, 34, .inl (fun _ => 0))), (wl, .inr (3, [.ref wk, .int 1, .int 52, .int 0])), (wk, .inl (k 0, 136, .inl f2)), (s0, .inr (1, [.ref t0, a0_1, .int 0, .long 0, a0_4, .int 0, .int 0, .int 0, .int 0, .int 0])), (t0, .inr (2, [.ref fr0, .ref al0, b0_2, b0_3, .int 0, .int w9])), (fr0, .inl (k 0, 34, .inl f6)), (al0, .inl (k 0, 34, .inl f10))] H := by rw [ef10]; exact hP
  replace hD : va_D A [(h0, .inr (5, [.ref pl, .ref wl, x2, x3, x4, x5, x6, .int 0, x8, .int 0, x10, x11, x12, .int 0, x14, x15, x16, x17, x18])), (pl, .inl (k 3, 4, .inr (.inr (.inr (.inr f))))), (s1, .inr (1, [.ref t1, a1_1, a1_2, a1_3, a1_4, a1_5, a1_6, a1_7, a1_8, a1_9])), (t1, .inr (2, [.ref fr1, .ref al1, b1_2, b1_3, b1_4, b1_5])), (fr1, .inl (k 0, 34, .inl (fun _ => 0))), (al1, .inl (k 0, 34, .inl (fun _ => 0))), (s2, .inr (1, [.ref t2, a2_1, a2_2, a2_3, a2_4, a2_5, a2_6, a2_7, a2_8, a2_9])), (t2, .inr (2, [.ref fr2, .ref al2, b2_2, b2_3, b2_4, b2_5])), (fr2, .inl (k 0, 34, .inl (fun _ => 0))), (al2, .inl (k 0, 34, .inl (fun _ => 0))), (s3, .inr (1, [.ref t3, a3_1, a3_2, a3_3, a3_4, a3_5, a3_6, a3_7, a3_8, a3_9])), (t3, .inr (2, [.ref fr3, .ref al3, b3_2, b3_3, b3_4, b3_5])), (fr3, .inl (k 0, 34, .inl (fun _ => 0))), (al3, .inl (k 0, 34, .inl (fun _ => 0))), (wl, .inr (3, [.ref wk, .int 1, .int 52, .int 0])), (wk, .inl (k 0, 136, .inl f2)), (s0, .inr (1, [.ref t0, a0_1, .int 0, .long 0, a0_4, .int 0, .int 0, .int 0, .int 0, .int 0])), (t0, .inr (2, [.ref fr0, .ref al0, b0_2, b0_3, .int 0, .int w9])), (fr0, .inl (k 0, 34, .inl f6)), (al0, .inl (k 0, 34, .inl f10))] := by rw [ef10]; exact hD
  clear ef10
  clear kj8 ej8
  obtain ⟨nj8, hnj8⟩ : ∃ n : Nat, 13 < j8 + n := ⟨14, by omega⟩
  induction nj8 generalizing j8 ls H locs w9 f6 f10 with
  | zero => exact absurd hnj8 (by omega)
  | succ nj8 ihj8 =>
    refine lv_iload hx hb dX6_deal_51 (lv_at hl 0 rfl) ?_
    refine lv_bipush (v := 13) hx hb dX6_deal_53 (by decide) ?_
    refine lv_icmp_ge (tgt := 87) hx hb dX6_deal_55 (by decide) (fun c11 => ?_) (fun c11 => ?_)
    · skip
      have hge : 13 ≤ j8 := (nI_leI (a := 13) (b := j8) (by omega) (by omega)).mp c11
      refine lv_iinc (v := 1) (lv' := [(3, .int 1), (5, .int (nI j8)), (4, .ref s0), (0, .ref h0), (1, .long p0)]) hx hb dX6_deal_87 hl (k := 2) rfl (by decide) (by decide) rfl (fun ls hl => ?_)
      refine lv_goto (tgt := 26) hx hb dX6_deal_90 (by decide) ?_
      refine lv_iload_n hx hb dX6_deal_26 rfl (lv_at hl 0 rfl) ?_
      refine lv_iconst (v := 4) hx hb dX6_deal_27 (by decide) ?_
      refine lv_icmp_ge (tgt := 93) hx hb dX6_deal_28 (by decide) (fun c9 => absurd c9 (by decide)) (fun _ => ?_)
      refine lv_aload_n hx hb dX6_deal_31 rfl (lv_at hl 3 rfl) ?_
      refine lv_aload_n hx hb dX6_deal_32 rfl (lv_at hl 3 rfl) ?_
      refine va_get (D := G) (ci := 5) (v := .int 0) (C := RX6) (T := TX6) (N := 19) hx hb hts i_c_X6_deal0_X6 hown hK hP 0 rfl rfl 9 (by decide) (hts (.fieldLink RX6 62 "TileHouse" "dealer" "I") (by decide +kernel)) (fun _ h9 => h9) rfl dX6_deal_33 ?_
      refine lv_iload_n hx hb dX6_deal_36 rfl (lv_at hl 0 rfl) ?_
      refine lv_iadd hx hb dX6_deal_37 ?_
      refine lv_topi (fun z12 ez12 => ?_)
      obtain rfl : z12 = 1 := ez12.trans (by decide)
      have hPc := hP.sub (ws' := [(h0, .inr (5, [.ref pl, .ref wl, x2, x3, x4, x5, x6, .int 0, x8, .int 0, x10, x11, x12, .int 0, x14, x15, x16, x17, x18])), (pl, .inl (k 3, 4, .inr (.inr (.inr (.inr f)))))]) [0, 1] rfl
      refine q_callr (va_runV (As := [.int 1]) (rest := []) ⟨hx, hb, hml, hown, hts⟩ (c_X6_at l G k h0 pl f sa hf 1 (.ref wl) (x2) (x3) (x4) (x5) (x6) (.int 0) (x8) (.int 0) (x10) (x11) (x12) (.int 0) (x14) (x15) (x16) (x17) (x18)) (cwV 1 hts g_c_X6_deal0_c_X6_at_65 rfl rfl rfl (by decide +kernel) ⟨Nat.le_of_ble_eq_true rfl, Nat.le_of_ble_eq_true rfl⟩) ⟨pr_bl, va_recv hK hPc (ci := 5) (q0 := 0) rfl rfl, pr_pre hPc hK hN⟩ rfl rfl hl.1 rfl (lv_room (Nat.le_of_ble_eq_true rfl)) dX6_deal_38 ⟨Nat.le_of_ble_eq_true rfl, Nat.le_of_ble_eq_true rfl⟩) (fun r13 hr13 => ?_)
      rw [show r13 = s1 from hr13.trans hs1]
      refine lv_astore (lv' := [(4, .ref s1), (3, .int 1), (5, .int (nI j8)), (0, .ref h0), (1, .long p0)]) hx hb dX6_deal_41 hl (by decide) rfl (fun ls hl => ?_)
      refine lv_aload hx hb dX6_deal_43 (lv_at hl 0 rfl) ?_
      have hPc := hP.sub (ws' := [(s1, .inr (1, [.ref t1, a1_1, a1_2, a1_3, a1_4, a1_5, a1_6, a1_7, a1_8, a1_9])), (t1, .inr (2, [.ref fr1, .ref al1, b1_2, b1_3, b1_4, b1_5])), (fr1, .inl (k 0, 34, .inl (fun _ => 0))), (al1, .inl (k 0, 34, .inl (fun _ => 0)))]) [2, 3, 4, 5] rfl
      have hDc := hD.sub (ws' := [(s1, .inr (1, [.ref t1, a1_1, a1_2, a1_3, a1_4, a1_5, a1_6, a1_7, a1_8, a1_9])), (t1, .inr (2, [.ref fr1, .ref al1, b1_2, b1_3, b1_4, b1_5])), (fr1, .inl (k 0, 34, .inl (fun _ => 0))), (al1, .inl (k 0, 34, .inl (fun _ => 0)))]) [2, 3, 4, 5] (by decide) rfl
      have hFc := va_free (wc := [(s1, .inr (1, [.ref t1, a1_1, a1_2, a1_3, a1_4, a1_5, a1_6, a1_7, a1_8, a1_9])), (t1, .inr (2, [.ref fr1, .ref al1, b1_2, b1_3, b1_4, b1_5])), (fr1, .inl (k 0, 34, .inl (fun _ => 0))), (al1, .inl (k 0, 34, .inl (fun _ => 0)))]) hD hS hA [2, 3, 4, 5] rfl
      refine va_callv (va_runV (As := []) (rest := []) ⟨hx, hb, hml, hown, hts⟩ (c_X2_startHand l G k H.size s1 t1 fr1 al1 (fun _ => 0) (fun _ => 0) (a1_1) (a1_2) (a1_3) (a1_4) (a1_5) (a1_6) (a1_7) (a1_8) (a1_9) (b1_2) (b1_3) (b1_4) (b1_5)) (cwV 0 hts g_c_X6_deal0_c_X2_startHand_69 rfl rfl rfl (by decide +kernel) ⟨Nat.le_of_ble_eq_true rfl, Nat.le_of_ble_eq_true rfl⟩) ⟨pq_bl, va_recv hK hPc (ci := 1) (q0 := 0) rfl rfl, pq_pre hPc hDc hK hN⟩ rfl rfl hl.1 rfl (lv_room (Nat.le_of_ble_eq_true rfl)) dX6_deal_45 ⟨Nat.le_of_ble_eq_true rfl, Nat.le_of_ble_eq_true rfl⟩) hS (fun q _ h => hFc q h) hFc (fun ur14 t H1 locs ht hvm hr14 hB hz1 hk1 hS => ?_)
      obtain ⟨f15, g16⟩ := ur14
      obtain ⟨hP1, hD1⟩ := hB
      rw [ht] at hP1
      obtain ⟨hP, hD⟩ := va_join (wr := [(h0, .inr (5, [.ref pl, .ref wl, x2, x3, x4, x5, x6, .int 0, x8, .int 0, x10, x11, x12, .int 0, x14, x15, x16, x17, x18])), (pl, .inl (k 3, 4, .inr (.inr (.inr (.inr f))))), (s2, .inr (1, [.ref t2, a2_1, a2_2, a2_3, a2_4, a2_5, a2_6, a2_7, a2_8, a2_9])), (t2, .inr (2, [.ref fr2, .ref al2, b2_2, b2_3, b2_4, b2_5])), (fr2, .inl (k 0, 34, .inl (fun _ => 0))), (al2, .inl (k 0, 34, .inl (fun _ => 0))), (s3, .inr (1, [.ref t3, a3_1, a3_2, a3_3, a3_4, a3_5, a3_6, a3_7, a3_8, a3_9])), (t3, .inr (2, [.ref fr3, .ref al3, b3_2, b3_3, b3_4, b3_5])), (fr3, .inl (k 0, 34, .inl (fun _ => 0))), (al3, .inl (k 0, 34, .inl (fun _ => 0))), (wl, .inr (3, [.ref wk, .int 1, .int 52, .int 0])), (wk, .inl (k 0, 136, .inl f2)), (s0, .inr (1, [.ref t0, a0_1, .int 0, .long 0, a0_4, .int 0, .int 0, .int 0, .int 0, .int 0])), (t0, .inr (2, [.ref fr0, .ref al0, b0_2, b0_3, .int 0, .int w9])), (fr0, .inl (k 0, 34, .inl f6)), (al0, .inl (k 0, 34, .inl f10))]) (w1 := [(s1, .inr (1, [.ref t1, a1_1, .int 0, .long 0, a1_4, .int 0, .int 0, .int 0, .int 0, .int 0])), (t1, .inr (2, [.ref fr1, .ref al1, b1_2, b1_3, .int 0, .int 0])), (fr1, .inl (k 0, 34, .inl f15)), (al1, .inl (k 0, 34, .inl g16))]) hP hD [2, 3, 4, 5] [0, 1, 6, 7, 8, 9, 10, 11, 12, 13, 14, 15, 16, 17, 18, 19] rfl rfl (by decide) (by decide) hk1 hFc hP1 hD1
      clear hP1 hD1
      generalize H1 = H at hP hS ⊢
      replace hP : va_P G vwCl [(h0, .inr (5, [.ref pl, .ref wl, x2, x3, x4, x5, x6, .int 0, x8, .int 0, x10, x11, x12, .int 0, x14, x15, x16, x17, x18])), (pl, .inl (k 3, 4, .inr (.inr (.inr (.inr f))))), (s2, .inr (1, [.ref t2, a2_1, a2_2, a2_3, a2_4, a2_5, a2_6, a2_7, a2_8, a2_9])), (t2, .inr (2, [.ref fr2, .ref al2, b2_2, b2_3, b2_4, b2_5])), (fr2, .inl (k 0, 34, .inl (fun _ => 0))), (al2, .inl (k 0, 34, .inl (fun _ => 0))), (s3, .inr (1, [.ref t3, a3_1, a3_2, a3_3, a3_4, a3_5, a3_6, a3_7, a3_8, a3_9])), (t3, .inr (2, [.ref fr3, .ref al3, b3_2, b3_3, b3_4, b3_5])), (fr3, .inl (k 0, 34, .inl (fun _ => 0))), (al3, .inl (k 0, 34, .inl (fun _ => 0))), (wl, .inr (3, [.ref wk, .int 1, .int 52, .int 0])), (wk, .inl (k 0, 136, .inl f2)), (s0, .inr (1, [.ref t0, a0_1, .int 0, .long 0, a0_4, .int 0, .int 0, .int 0, .int 0, .int 0])), (t0, .inr (2, [.ref fr0, .ref al0, b0_2, b0_3, .int 0, .int w9])), (fr0, .inl (k 0, 34, .inl f6)), (al0, .inl (k 0, 34, .inl f10)), (s1, .inr (1, [.ref t1, a1_1, .int 0, .long 0, a1_4, .int 0, .int 0, .int 0, .int 0, .int 0])), (t1, .inr (2, [.ref fr1, .ref al1, b1_2, b1_3, .int 0, .int 0])), (fr1, .inl (k 0, 34, .inl f15)), (al1, .inl (k 0, 34, .inl g16))] H := hP
      replace hD : va_D A [(h0, .inr (5, [.ref pl, .ref wl, x2, x3, x4, x5, x6, .int 0, x8, .int 0, x10, x11, x12, .int 0, x14, x15, x16, x17, x18])), (pl, .inl (k 3, 4, .inr (.inr (.inr (.inr f))))), (s2, .inr (1, [.ref t2, a2_1, a2_2, a2_3, a2_4, a2_5, a2_6, a2_7, a2_8, a2_9])), (t2, .inr (2, [.ref fr2, .ref al2, b2_2, b2_3, b2_4, b2_5])), (fr2, .inl (k 0, 34, .inl (fun _ => 0))), (al2, .inl (k 0, 34, .inl (fun _ => 0))), (s3, .inr (1, [.ref t3, a3_1, a3_2, a3_3, a3_4, a3_5, a3_6, a3_7, a3_8, a3_9])), (t3, .inr (2, [.ref fr3, .ref al3, b3_2, b3_3, b3_4, b3_5])), (fr3, .inl (k 0, 34, .inl (fun _ => 0))), (al3, .inl (k 0, 34, .inl (fun _ => 0))), (wl, .inr (3, [.ref wk, .int 1, .int 52, .int 0])), (wk, .inl (k 0, 136, .inl f2)), (s0, .inr (1, [.ref t0, a0_1, .int 0, .long 0, a0_4, .int 0, .int 0, .int 0, .int 0, .int 0])), (t0, .inr (2, [.ref fr0, .ref al0, b0_2, b0_3, .int 0, .int w9])), (fr0, .inl (k 0, 34, .inl f6)), (al0, .inl (k 0, 34, .inl f10)), (s1, .inr (1, [.ref t1, a1_1, .int 0, .long 0, a1_4, .int 0, .int 0, .int 0, .int 0, .int 0])), (t1, .inr (2, [.ref fr1, .ref al1, b1_2, b1_3, .int 0, .int 0])), (fr1, .inl (k 0, 34, .inl f15)), (al1, .inl (k 0, 34, .inl g16))] := hD
      refine lv_iconst (v := 0) hx hb dX6_deal_48 (by decide) ?_
      refine lv_istore (lv' := [(5, .int 0), (4, .ref s1), (3, .int 1), (0, .ref h0), (1, .long p0)]) hx hb dX6_deal_49 hl (by decide) rfl (fun ls hl => ?_)
      obtain ⟨j17, kj17, ej17, hj17⟩ : ∃ j : Nat, j = 0 ∧ nI j = (0 : Int32) ∧ j ≤ 13 := ⟨0, rfl, rfl, by decide⟩
      replace hl : lv_has ls 6 [(5, .int (nI j17)), (4, .ref s1), (3, .int 1), (0, .ref h0), (1, .long p0)] := by rw [ej17]; exact hl
      obtain ⟨w18, ew18⟩ : ∃ x : Int32, x = 0 := ⟨_, rfl⟩
      replace hP : va_P G vwCl [(h0, .inr (5, [.ref pl, .ref wl, x2, x3, x4, x5, x6, .int 0, x8, .int 0, x10, x11, x12, .int 0, x14, x15, x16, x17, x18])), (pl, .inl (k 3, 4, .inr (.inr (.inr (.inr f))))), (s2, .inr (1, [.ref t2, a2_1, a2_2, a2_3, a2_4, a2_5, a2_6, a2_7, a2_8, a2_9])), (t2, .inr (2, [.ref fr2, .ref al2, b2_2, b2_3, b2_4, b2_5])), (fr2, .inl (k 0, 34, .inl (fun _ => 0))), (al2, .inl (k 0, 34, .inl (fun _ => 0))), (s3, .inr (1, [.ref t3, a3_1, a3_2, a3_3, a3_4, a3_5, a3_6, a3_7, a3_8, a3_9])), (t3, .inr (2, [.ref fr3, .ref al3, b3_2, b3_3, b3_4, b3_5])), (fr3, .inl (k 0, 34, .inl (fun _ => 0))), (al3, .inl (k 0, 34, .inl (fun _ => 0))), (wl, .inr (3, [.ref wk, .int 1, .int 52, .int 0])), (wk, .inl (k 0, 136, .inl f2)), (s0, .inr (1, [.ref t0, a0_1, .int 0, .long 0, a0_4, .int 0, .int 0, .int 0, .int 0, .int 0])), (t0, .inr (2, [.ref fr0, .ref al0, b0_2, b0_3, .int 0, .int w9])), (fr0, .inl (k 0, 34, .inl f6)), (al0, .inl (k 0, 34, .inl f10)), (s1, .inr (1, [.ref t1, a1_1, .int 0, .long 0, a1_4, .int 0, .int 0, .int 0, .int 0, .int 0])), (t1, .inr (2, [.ref fr1, .ref al1, b1_2, b1_3, .int 0, .int w18])), (fr1, .inl (k 0, 34, .inl f15)), (al1, .inl (k 0, 34, .inl g16))] H := by rw [ew18]; exact hP
      replace hD : va_D A [(h0, .inr (5, [.ref pl, .ref wl, x2, x3, x4, x5, x6, .int 0, x8, .int 0, x10, x11, x12, .int 0, x14, x15, x16, x17, x18])), (pl, .inl (k 3, 4, .inr (.inr (.inr (.inr f))))), (s2, .inr (1, [.ref t2, a2_1, a2_2, a2_3, a2_4, a2_5, a2_6, a2_7, a2_8, a2_9])), (t2, .inr (2, [.ref fr2, .ref al2, b2_2, b2_3, b2_4, b2_5])), (fr2, .inl (k 0, 34, .inl (fun _ => 0))), (al2, .inl (k 0, 34, .inl (fun _ => 0))), (s3, .inr (1, [.ref t3, a3_1, a3_2, a3_3, a3_4, a3_5, a3_6, a3_7, a3_8, a3_9])), (t3, .inr (2, [.ref fr3, .ref al3, b3_2, b3_3, b3_4, b3_5])), (fr3, .inl (k 0, 34, .inl (fun _ => 0))), (al3, .inl (k 0, 34, .inl (fun _ => 0))), (wl, .inr (3, [.ref wk, .int 1, .int 52, .int 0])), (wk, .inl (k 0, 136, .inl f2)), (s0, .inr (1, [.ref t0, a0_1, .int 0, .long 0, a0_4, .int 0, .int 0, .int 0, .int 0, .int 0])), (t0, .inr (2, [.ref fr0, .ref al0, b0_2, b0_3, .int 0, .int w9])), (fr0, .inl (k 0, 34, .inl f6)), (al0, .inl (k 0, 34, .inl f10)), (s1, .inr (1, [.ref t1, a1_1, .int 0, .long 0, a1_4, .int 0, .int 0, .int 0, .int 0, .int 0])), (t1, .inr (2, [.ref fr1, .ref al1, b1_2, b1_3, .int 0, .int w18])), (fr1, .inl (k 0, 34, .inl f15)), (al1, .inl (k 0, 34, .inl g16))] := by rw [ew18]; exact hD
      clear ew18
      obtain ⟨f19, ef19⟩ : ∃ x : Nat → Int32, x = (g16) := ⟨_, rfl⟩
      replace hP : va_P G vwCl [(h0, .inr (5, [.ref pl, .ref wl, x2, x3, x4, x5, x6, .int 0, x8, .int 0, x10, x11, x12, .int 0, x14, x15, x16, x17, x18])), (pl, .inl (k 3, 4, .inr (.inr (.inr (.inr f))))), (s2, .inr (1, [.ref t2, a2_1, a2_2, a2_3, a2_4, a2_5, a2_6, a2_7, a2_8, a2_9])), (t2, .inr (2, [.ref fr2, .ref al2, b2_2, b2_3, b2_4, b2_5])), (fr2, .inl (k 0, 34, .inl (fun _ => 0))), (al2, .inl (k 0, 34, .inl (fun _ => 0))), (s3, .inr (1, [.ref t3, a3_1, a3_2, a3_3, a3_4, a3_5, a3_6, a3_7, a3_8, a3_9])), (t3, .inr (2, [.ref fr3, .ref al3, b3_2, b3_3, b3_4, b3_5])), (fr3, .inl (k 0, 34, .inl (fun _ => 0))), (al3, .inl (k 0, 34, .inl (fun _ => 0))), (wl, .inr (3, [.ref wk, .int 1, .int 52, .int 0])), (wk, .inl (k 0, 136, .inl f2)), (s0, .inr (1, [.ref t0, a0_1, .int 0, .long 0, a0_4, .int 0, .int 0, .int 0, .int 0, .int 0])), (t0, .inr (2, [.ref fr0, .ref al0, b0_2, b0_3, .int 0, .int w9])), (fr0, .inl (k 0, 34, .inl f6)), (al0, .inl (k 0, 34, .inl f10)), (s1, .inr (1, [.ref t1, a1_1, .int 0, .long 0, a1_4, .int 0, .int 0, .int 0, .int 0, .int 0])), (t1, .inr (2, [.ref fr1, .ref al1, b1_2, b1_3, .int 0, .int w18])), (fr1, .inl (k 0, 34, .inl f15)), (al1, .inl (k 0, 34, .inl f19))] H := by rw [ef19]; exact hP
      replace hD : va_D A [(h0, .inr (5, [.ref pl, .ref wl, x2, x3, x4, x5, x6, .int 0, x8, .int 0, x10, x11, x12, .int 0, x14, x15, x16, x17, x18])), (pl, .inl (k 3, 4, .inr (.inr (.inr (.inr f))))), (s2, .inr (1, [.ref t2, a2_1, a2_2, a2_3, a2_4, a2_5, a2_6, a2_7, a2_8, a2_9])), (t2, .inr (2, [.ref fr2, .ref al2, b2_2, b2_3, b2_4, b2_5])), (fr2, .inl (k 0, 34, .inl (fun _ => 0))), (al2, .inl (k 0, 34, .inl (fun _ => 0))), (s3, .inr (1, [.ref t3, a3_1, a3_2, a3_3, a3_4, a3_5, a3_6, a3_7, a3_8, a3_9])), (t3, .inr (2, [.ref fr3, .ref al3, b3_2, b3_3, b3_4, b3_5])), (fr3, .inl (k 0, 34, .inl (fun _ => 0))), (al3, .inl (k 0, 34, .inl (fun _ => 0))), (wl, .inr (3, [.ref wk, .int 1, .int 52, .int 0])), (wk, .inl (k 0, 136, .inl f2)), (s0, .inr (1, [.ref t0, a0_1, .int 0, .long 0, a0_4, .int 0, .int 0, .int 0, .int 0, .int 0])), (t0, .inr (2, [.ref fr0, .ref al0, b0_2, b0_3, .int 0, .int w9])), (fr0, .inl (k 0, 34, .inl f6)), (al0, .inl (k 0, 34, .inl f10)), (s1, .inr (1, [.ref t1, a1_1, .int 0, .long 0, a1_4, .int 0, .int 0, .int 0, .int 0, .int 0])), (t1, .inr (2, [.ref fr1, .ref al1, b1_2, b1_3, .int 0, .int w18])), (fr1, .inl (k 0, 34, .inl f15)), (al1, .inl (k 0, 34, .inl f19))] := by rw [ef19]; exact hD
      clear ef19
      clear kj17 ej17
      obtain ⟨nj17, hnj17⟩ : ∃ n : Nat, 13 < j17 + n := ⟨14, by omega⟩
      induction nj17 generalizing j17 ls H locs w18 f15 f19 with
      | zero => exact absurd hnj17 (by omega)
      | succ nj17 ihj17 =>
        refine lv_iload hx hb dX6_deal_51 (lv_at hl 0 rfl) ?_
        refine lv_bipush (v := 13) hx hb dX6_deal_53 (by decide) ?_
        refine lv_icmp_ge (tgt := 87) hx hb dX6_deal_55 (by decide) (fun c20 => ?_) (fun c20 => ?_)
        · skip
          have hge : 13 ≤ j17 := (nI_leI (a := 13) (b := j17) (by omega) (by omega)).mp c20
          refine lv_iinc (v := 2) (lv' := [(3, .int 2), (5, .int (nI j17)), (4, .ref s1), (0, .ref h0), (1, .long p0)]) hx hb dX6_deal_87 hl (k := 2) rfl (by decide) (by decide) rfl (fun ls hl => ?_)
          refine lv_goto (tgt := 26) hx hb dX6_deal_90 (by decide) ?_
          refine lv_iload_n hx hb dX6_deal_26 rfl (lv_at hl 0 rfl) ?_
          refine lv_iconst (v := 4) hx hb dX6_deal_27 (by decide) ?_
          refine lv_icmp_ge (tgt := 93) hx hb dX6_deal_28 (by decide) (fun c9 => absurd c9 (by decide)) (fun _ => ?_)
          refine lv_aload_n hx hb dX6_deal_31 rfl (lv_at hl 3 rfl) ?_
          refine lv_aload_n hx hb dX6_deal_32 rfl (lv_at hl 3 rfl) ?_
          refine va_get (D := G) (ci := 5) (v := .int 0) (C := RX6) (T := TX6) (N := 19) hx hb hts i_c_X6_deal0_X6 hown hK hP 0 rfl rfl 9 (by decide) (hts (.fieldLink RX6 62 "TileHouse" "dealer" "I") (by decide +kernel)) (fun _ h9 => h9) rfl dX6_deal_33 ?_
          refine lv_iload_n hx hb dX6_deal_36 rfl (lv_at hl 0 rfl) ?_
          refine lv_iadd hx hb dX6_deal_37 ?_
          refine lv_topi (fun z21 ez21 => ?_)
          obtain rfl : z21 = 2 := ez21.trans (by decide)
          have hPc := hP.sub (ws' := [(h0, .inr (5, [.ref pl, .ref wl, x2, x3, x4, x5, x6, .int 0, x8, .int 0, x10, x11, x12, .int 0, x14, x15, x16, x17, x18])), (pl, .inl (k 3, 4, .inr (.inr (.inr (.inr f)))))]) [0, 1] rfl
          refine q_callr (va_runV (As := [.int 2]) (rest := []) ⟨hx, hb, hml, hown, hts⟩ (c_X6_at l G k h0 pl f sa hf 2 (.ref wl) (x2) (x3) (x4) (x5) (x6) (.int 0) (x8) (.int 0) (x10) (x11) (x12) (.int 0) (x14) (x15) (x16) (x17) (x18)) (cwV 1 hts g_c_X6_deal0_c_X6_at_65 rfl rfl rfl (by decide +kernel) ⟨Nat.le_of_ble_eq_true rfl, Nat.le_of_ble_eq_true rfl⟩) ⟨pr_bl, va_recv hK hPc (ci := 5) (q0 := 0) rfl rfl, pr_pre hPc hK hN⟩ rfl rfl hl.1 rfl (lv_room (Nat.le_of_ble_eq_true rfl)) dX6_deal_38 ⟨Nat.le_of_ble_eq_true rfl, Nat.le_of_ble_eq_true rfl⟩) (fun r22 hr22 => ?_)
          rw [show r22 = s2 from hr22.trans hs2]
          refine lv_astore (lv' := [(4, .ref s2), (3, .int 2), (5, .int (nI j17)), (0, .ref h0), (1, .long p0)]) hx hb dX6_deal_41 hl (by decide) rfl (fun ls hl => ?_)
          refine lv_aload hx hb dX6_deal_43 (lv_at hl 0 rfl) ?_
          have hPc := hP.sub (ws' := [(s2, .inr (1, [.ref t2, a2_1, a2_2, a2_3, a2_4, a2_5, a2_6, a2_7, a2_8, a2_9])), (t2, .inr (2, [.ref fr2, .ref al2, b2_2, b2_3, b2_4, b2_5])), (fr2, .inl (k 0, 34, .inl (fun _ => 0))), (al2, .inl (k 0, 34, .inl (fun _ => 0)))]) [2, 3, 4, 5] rfl
          have hDc := hD.sub (ws' := [(s2, .inr (1, [.ref t2, a2_1, a2_2, a2_3, a2_4, a2_5, a2_6, a2_7, a2_8, a2_9])), (t2, .inr (2, [.ref fr2, .ref al2, b2_2, b2_3, b2_4, b2_5])), (fr2, .inl (k 0, 34, .inl (fun _ => 0))), (al2, .inl (k 0, 34, .inl (fun _ => 0)))]) [2, 3, 4, 5] (by decide) rfl
          have hFc := va_free (wc := [(s2, .inr (1, [.ref t2, a2_1, a2_2, a2_3, a2_4, a2_5, a2_6, a2_7, a2_8, a2_9])), (t2, .inr (2, [.ref fr2, .ref al2, b2_2, b2_3, b2_4, b2_5])), (fr2, .inl (k 0, 34, .inl (fun _ => 0))), (al2, .inl (k 0, 34, .inl (fun _ => 0)))]) hD hS hA [2, 3, 4, 5] rfl
          refine va_callv (va_runV (As := []) (rest := []) ⟨hx, hb, hml, hown, hts⟩ (c_X2_startHand l G k H.size s2 t2 fr2 al2 (fun _ => 0) (fun _ => 0) (a2_1) (a2_2) (a2_3) (a2_4) (a2_5) (a2_6) (a2_7) (a2_8) (a2_9) (b2_2) (b2_3) (b2_4) (b2_5)) (cwV 0 hts g_c_X6_deal0_c_X2_startHand_69 rfl rfl rfl (by decide +kernel) ⟨Nat.le_of_ble_eq_true rfl, Nat.le_of_ble_eq_true rfl⟩) ⟨pq_bl, va_recv hK hPc (ci := 1) (q0 := 0) rfl rfl, pq_pre hPc hDc hK hN⟩ rfl rfl hl.1 rfl (lv_room (Nat.le_of_ble_eq_true rfl)) dX6_deal_45 ⟨Nat.le_of_ble_eq_true rfl, Nat.le_of_ble_eq_true rfl⟩) hS (fun q _ h => hFc q h) hFc (fun ur23 t H1 locs ht hvm hr23 hB hz1 hk1 hS => ?_)
          obtain ⟨f24, g25⟩ := ur23
          obtain ⟨hP1, hD1⟩ := hB
          rw [ht] at hP1
          obtain ⟨hP, hD⟩ := va_join (wr := [(h0, .inr (5, [.ref pl, .ref wl, x2, x3, x4, x5, x6, .int 0, x8, .int 0, x10, x11, x12, .int 0, x14, x15, x16, x17, x18])), (pl, .inl (k 3, 4, .inr (.inr (.inr (.inr f))))), (s3, .inr (1, [.ref t3, a3_1, a3_2, a3_3, a3_4, a3_5, a3_6, a3_7, a3_8, a3_9])), (t3, .inr (2, [.ref fr3, .ref al3, b3_2, b3_3, b3_4, b3_5])), (fr3, .inl (k 0, 34, .inl (fun _ => 0))), (al3, .inl (k 0, 34, .inl (fun _ => 0))), (wl, .inr (3, [.ref wk, .int 1, .int 52, .int 0])), (wk, .inl (k 0, 136, .inl f2)), (s0, .inr (1, [.ref t0, a0_1, .int 0, .long 0, a0_4, .int 0, .int 0, .int 0, .int 0, .int 0])), (t0, .inr (2, [.ref fr0, .ref al0, b0_2, b0_3, .int 0, .int w9])), (fr0, .inl (k 0, 34, .inl f6)), (al0, .inl (k 0, 34, .inl f10)), (s1, .inr (1, [.ref t1, a1_1, .int 0, .long 0, a1_4, .int 0, .int 0, .int 0, .int 0, .int 0])), (t1, .inr (2, [.ref fr1, .ref al1, b1_2, b1_3, .int 0, .int w18])), (fr1, .inl (k 0, 34, .inl f15)), (al1, .inl (k 0, 34, .inl f19))]) (w1 := [(s2, .inr (1, [.ref t2, a2_1, .int 0, .long 0, a2_4, .int 0, .int 0, .int 0, .int 0, .int 0])), (t2, .inr (2, [.ref fr2, .ref al2, b2_2, b2_3, .int 0, .int 0])), (fr2, .inl (k 0, 34, .inl f24)), (al2, .inl (k 0, 34, .inl g25))]) hP hD [2, 3, 4, 5] [0, 1, 6, 7, 8, 9, 10, 11, 12, 13, 14, 15, 16, 17, 18, 19] rfl rfl (by decide) (by decide) hk1 hFc hP1 hD1
          clear hP1 hD1
          generalize H1 = H at hP hS ⊢
          replace hP : va_P G vwCl [(h0, .inr (5, [.ref pl, .ref wl, x2, x3, x4, x5, x6, .int 0, x8, .int 0, x10, x11, x12, .int 0, x14, x15, x16, x17, x18])), (pl, .inl (k 3, 4, .inr (.inr (.inr (.inr f))))), (s3, .inr (1, [.ref t3, a3_1, a3_2, a3_3, a3_4, a3_5, a3_6, a3_7, a3_8, a3_9])), (t3, .inr (2, [.ref fr3, .ref al3, b3_2, b3_3, b3_4, b3_5])), (fr3, .inl (k 0, 34, .inl (fun _ => 0))), (al3, .inl (k 0, 34, .inl (fun _ => 0))), (wl, .inr (3, [.ref wk, .int 1, .int 52, .int 0])), (wk, .inl (k 0, 136, .inl f2)), (s0, .inr (1, [.ref t0, a0_1, .int 0, .long 0, a0_4, .int 0, .int 0, .int 0, .int 0, .int 0])), (t0, .inr (2, [.ref fr0, .ref al0, b0_2, b0_3, .int 0, .int w9])), (fr0, .inl (k 0, 34, .inl f6)), (al0, .inl (k 0, 34, .inl f10)), (s1, .inr (1, [.ref t1, a1_1, .int 0, .long 0, a1_4, .int 0, .int 0, .int 0, .int 0, .int 0])), (t1, .inr (2, [.ref fr1, .ref al1, b1_2, b1_3, .int 0, .int w18])), (fr1, .inl (k 0, 34, .inl f15)), (al1, .inl (k 0, 34, .inl f19)), (s2, .inr (1, [.ref t2, a2_1, .int 0, .long 0, a2_4, .int 0, .int 0, .int 0, .int 0, .int 0])), (t2, .inr (2, [.ref fr2, .ref al2, b2_2, b2_3, .int 0, .int 0])), (fr2, .inl (k 0, 34, .inl f24)), (al2, .inl (k 0, 34, .inl g25))] H := hP
          replace hD : va_D A [(h0, .inr (5, [.ref pl, .ref wl, x2, x3, x4, x5, x6, .int 0, x8, .int 0, x10, x11, x12, .int 0, x14, x15, x16, x17, x18])), (pl, .inl (k 3, 4, .inr (.inr (.inr (.inr f))))), (s3, .inr (1, [.ref t3, a3_1, a3_2, a3_3, a3_4, a3_5, a3_6, a3_7, a3_8, a3_9])), (t3, .inr (2, [.ref fr3, .ref al3, b3_2, b3_3, b3_4, b3_5])), (fr3, .inl (k 0, 34, .inl (fun _ => 0))), (al3, .inl (k 0, 34, .inl (fun _ => 0))), (wl, .inr (3, [.ref wk, .int 1, .int 52, .int 0])), (wk, .inl (k 0, 136, .inl f2)), (s0, .inr (1, [.ref t0, a0_1, .int 0, .long 0, a0_4, .int 0, .int 0, .int 0, .int 0, .int 0])), (t0, .inr (2, [.ref fr0, .ref al0, b0_2, b0_3, .int 0, .int w9])), (fr0, .inl (k 0, 34, .inl f6)), (al0, .inl (k 0, 34, .inl f10)), (s1, .inr (1, [.ref t1, a1_1, .int 0, .long 0, a1_4, .int 0, .int 0, .int 0, .int 0, .int 0])), (t1, .inr (2, [.ref fr1, .ref al1, b1_2, b1_3, .int 0, .int w18])), (fr1, .inl (k 0, 34, .inl f15)), (al1, .inl (k 0, 34, .inl f19)), (s2, .inr (1, [.ref t2, a2_1, .int 0, .long 0, a2_4, .int 0, .int 0, .int 0, .int 0, .int 0])), (t2, .inr (2, [.ref fr2, .ref al2, b2_2, b2_3, .int 0, .int 0])), (fr2, .inl (k 0, 34, .inl f24)), (al2, .inl (k 0, 34, .inl g25))] := hD
          refine lv_iconst (v := 0) hx hb dX6_deal_48 (by decide) ?_
          refine lv_istore (lv' := [(5, .int 0), (4, .ref s2), (3, .int 2), (0, .ref h0), (1, .long p0)]) hx hb dX6_deal_49 hl (by decide) rfl (fun ls hl => ?_)
          obtain ⟨j26, kj26, ej26, hj26⟩ : ∃ j : Nat, j = 0 ∧ nI j = (0 : Int32) ∧ j ≤ 13 := ⟨0, rfl, rfl, by decide⟩
          replace hl : lv_has ls 6 [(5, .int (nI j26)), (4, .ref s2), (3, .int 2), (0, .ref h0), (1, .long p0)] := by rw [ej26]; exact hl
          obtain ⟨w27, ew27⟩ : ∃ x : Int32, x = 0 := ⟨_, rfl⟩
          replace hP : va_P G vwCl [(h0, .inr (5, [.ref pl, .ref wl, x2, x3, x4, x5, x6, .int 0, x8, .int 0, x10, x11, x12, .int 0, x14, x15, x16, x17, x18])), (pl, .inl (k 3, 4, .inr (.inr (.inr (.inr f))))), (s3, .inr (1, [.ref t3, a3_1, a3_2, a3_3, a3_4, a3_5, a3_6, a3_7, a3_8, a3_9])), (t3, .inr (2, [.ref fr3, .ref al3, b3_2, b3_3, b3_4, b3_5])), (fr3, .inl (k 0, 34, .inl (fun _ => 0))), (al3, .inl (k 0, 34, .inl (fun _ => 0))), (wl, .inr (3, [.ref wk, .int 1, .int 52, .int 0])), (wk, .inl (k 0, 136, .inl f2)), (s0, .inr (1, [.ref t0, a0_1, .int 0, .long 0, a0_4, .int 0, .int 0, .int 0, .int 0, .int 0])), (t0, .inr (2, [.ref fr0, .ref al0, b0_2, b0_3, .int 0, .int w9])), (fr0, .inl (k 0, 34, .inl f6)), (al0, .inl (k 0, 34, .inl f10)), (s1, .inr (1, [.ref t1, a1_1, .int 0, .long 0, a1_4, .int 0, .int 0, .int 0, .int 0, .int 0])), (t1, .inr (2, [.ref fr1, .ref al1, b1_2, b1_3, .int 0, .int w18])), (fr1, .inl (k 0, 34, .inl f15)), (al1, .inl (k 0, 34, .inl f19)), (s2, .inr (1, [.ref t2, a2_1, .int 0, .long 0, a2_4, .int 0, .int 0, .int 0, .int 0, .int 0])), (t2, .inr (2, [.ref fr2, .ref al2, b2_2, b2_3, .int 0, .int w27])), (fr2, .inl (k 0, 34, .inl f24)), (al2, .inl (k 0, 34, .inl g25))] H := by rw [ew27]; exact hP
          replace hD : va_D A [(h0, .inr (5, [.ref pl, .ref wl, x2, x3, x4, x5, x6, .int 0, x8, .int 0, x10, x11, x12, .int 0, x14, x15, x16, x17, x18])), (pl, .inl (k 3, 4, .inr (.inr (.inr (.inr f))))), (s3, .inr (1, [.ref t3, a3_1, a3_2, a3_3, a3_4, a3_5, a3_6, a3_7, a3_8, a3_9])), (t3, .inr (2, [.ref fr3, .ref al3, b3_2, b3_3, b3_4, b3_5])), (fr3, .inl (k 0, 34, .inl (fun _ => 0))), (al3, .inl (k 0, 34, .inl (fun _ => 0))), (wl, .inr (3, [.ref wk, .int 1, .int 52, .int 0])), (wk, .inl (k 0, 136, .inl f2)), (s0, .inr (1, [.ref t0, a0_1, .int 0, .long 0, a0_4, .int 0, .int 0, .int 0, .int 0, .int 0])), (t0, .inr (2, [.ref fr0, .ref al0, b0_2, b0_3, .int 0, .int w9])), (fr0, .inl (k 0, 34, .inl f6)), (al0, .inl (k 0, 34, .inl f10)), (s1, .inr (1, [.ref t1, a1_1, .int 0, .long 0, a1_4, .int 0, .int 0, .int 0, .int 0, .int 0])), (t1, .inr (2, [.ref fr1, .ref al1, b1_2, b1_3, .int 0, .int w18])), (fr1, .inl (k 0, 34, .inl f15)), (al1, .inl (k 0, 34, .inl f19)), (s2, .inr (1, [.ref t2, a2_1, .int 0, .long 0, a2_4, .int 0, .int 0, .int 0, .int 0, .int 0])), (t2, .inr (2, [.ref fr2, .ref al2, b2_2, b2_3, .int 0, .int w27])), (fr2, .inl (k 0, 34, .inl f24)), (al2, .inl (k 0, 34, .inl g25))] := by rw [ew27]; exact hD
          clear ew27
          obtain ⟨f28, ef28⟩ : ∃ x : Nat → Int32, x = (g25) := ⟨_, rfl⟩
          replace hP : va_P G vwCl [(h0, .inr (5, [.ref pl, .ref wl, x2, x3, x4, x5, x6, .int 0, x8, .int 0, x10, x11, x12, .int 0, x14, x15, x16, x17, x18])), (pl, .inl (k 3, 4, .inr (.inr (.inr (.inr f))))), (s3, .inr (1, [.ref t3, a3_1, a3_2, a3_3, a3_4, a3_5, a3_6, a3_7, a3_8, a3_9])), (t3, .inr (2, [.ref fr3, .ref al3, b3_2, b3_3, b3_4, b3_5])), (fr3, .inl (k 0, 34, .inl (fun _ => 0))), (al3, .inl (k 0, 34, .inl (fun _ => 0))), (wl, .inr (3, [.ref wk, .int 1, .int 52, .int 0])), (wk, .inl (k 0, 136, .inl f2)), (s0, .inr (1, [.ref t0, a0_1, .int 0, .long 0, a0_4, .int 0, .int 0, .int 0, .int 0, .int 0])), (t0, .inr (2, [.ref fr0, .ref al0, b0_2, b0_3, .int 0, .int w9])), (fr0, .inl (k 0, 34, .inl f6)), (al0, .inl (k 0, 34, .inl f10)), (s1, .inr (1, [.ref t1, a1_1, .int 0, .long 0, a1_4, .int 0, .int 0, .int 0, .int 0, .int 0])), (t1, .inr (2, [.ref fr1, .ref al1, b1_2, b1_3, .int 0, .int w18])), (fr1, .inl (k 0, 34, .inl f15)), (al1, .inl (k 0, 34, .inl f19)), (s2, .inr (1, [.ref t2, a2_1, .int 0, .long 0, a2_4, .int 0, .int 0, .int 0, .int 0, .int 0])), (t2, .inr (2, [.ref fr2, .ref al2, b2_2, b2_3, .int 0, .int w27])), (fr2, .inl (k 0, 34, .inl f24)), (al2, .inl (k 0, 34, .inl f28))] H := by rw [ef28]; exact hP
          replace hD : va_D A [(h0, .inr (5, [.ref pl, .ref wl, x2, x3, x4, x5, x6, .int 0, x8, .int 0, x10, x11, x12, .int 0, x14, x15, x16, x17, x18])), (pl, .inl (k 3, 4, .inr (.inr (.inr (.inr f))))), (s3, .inr (1, [.ref t3, a3_1, a3_2, a3_3, a3_4, a3_5, a3_6, a3_7, a3_8, a3_9])), (t3, .inr (2, [.ref fr3, .ref al3, b3_2, b3_3, b3_4, b3_5])), (fr3, .inl (k 0, 34, .inl (fun _ => 0))), (al3, .inl (k 0, 34, .inl (fun _ => 0))), (wl, .inr (3, [.ref wk, .int 1, .int 52, .int 0])), (wk, .inl (k 0, 136, .inl f2)), (s0, .inr (1, [.ref t0, a0_1, .int 0, .long 0, a0_4, .int 0, .int 0, .int 0, .int 0, .int 0])), (t0, .inr (2, [.ref fr0, .ref al0, b0_2, b0_3, .int 0, .int w9])), (fr0, .inl (k 0, 34, .inl f6)), (al0, .inl (k 0, 34, .inl f10)), (s1, .inr (1, [.ref t1, a1_1, .int 0, .long 0, a1_4, .int 0, .int 0, .int 0, .int 0, .int 0])), (t1, .inr (2, [.ref fr1, .ref al1, b1_2, b1_3, .int 0, .int w18])), (fr1, .inl (k 0, 34, .inl f15)), (al1, .inl (k 0, 34, .inl f19)), (s2, .inr (1, [.ref t2, a2_1, .int 0, .long 0, a2_4, .int 0, .int 0, .int 0, .int 0, .int 0])), (t2, .inr (2, [.ref fr2, .ref al2, b2_2, b2_3, .int 0, .int w27])), (fr2, .inl (k 0, 34, .inl f24)), (al2, .inl (k 0, 34, .inl f28))] := by rw [ef28]; exact hD
          clear ef28
          clear kj26 ej26
          obtain ⟨nj26, hnj26⟩ : ∃ n : Nat, 13 < j26 + n := ⟨14, by omega⟩
          induction nj26 generalizing j26 ls H locs w27 f24 f28 with
          | zero => exact absurd hnj26 (by omega)
          | succ nj26 ihj26 =>
            refine lv_iload hx hb dX6_deal_51 (lv_at hl 0 rfl) ?_
            refine lv_bipush (v := 13) hx hb dX6_deal_53 (by decide) ?_
            refine lv_icmp_ge (tgt := 87) hx hb dX6_deal_55 (by decide) (fun c29 => ?_) (fun c29 => ?_)
            · skip
              have hge : 13 ≤ j26 := (nI_leI (a := 13) (b := j26) (by omega) (by omega)).mp c29
              refine lv_iinc (v := 3) (lv' := [(3, .int 3), (5, .int (nI j26)), (4, .ref s2), (0, .ref h0), (1, .long p0)]) hx hb dX6_deal_87 hl (k := 2) rfl (by decide) (by decide) rfl (fun ls hl => ?_)
              refine lv_goto (tgt := 26) hx hb dX6_deal_90 (by decide) ?_
              refine lv_iload_n hx hb dX6_deal_26 rfl (lv_at hl 0 rfl) ?_
              refine lv_iconst (v := 4) hx hb dX6_deal_27 (by decide) ?_
              refine lv_icmp_ge (tgt := 93) hx hb dX6_deal_28 (by decide) (fun c9 => absurd c9 (by decide)) (fun _ => ?_)
              refine lv_aload_n hx hb dX6_deal_31 rfl (lv_at hl 3 rfl) ?_
              refine lv_aload_n hx hb dX6_deal_32 rfl (lv_at hl 3 rfl) ?_
              refine va_get (D := G) (ci := 5) (v := .int 0) (C := RX6) (T := TX6) (N := 19) hx hb hts i_c_X6_deal0_X6 hown hK hP 0 rfl rfl 9 (by decide) (hts (.fieldLink RX6 62 "TileHouse" "dealer" "I") (by decide +kernel)) (fun _ h9 => h9) rfl dX6_deal_33 ?_
              refine lv_iload_n hx hb dX6_deal_36 rfl (lv_at hl 0 rfl) ?_
              refine lv_iadd hx hb dX6_deal_37 ?_
              refine lv_topi (fun z30 ez30 => ?_)
              obtain rfl : z30 = 3 := ez30.trans (by decide)
              have hPc := hP.sub (ws' := [(h0, .inr (5, [.ref pl, .ref wl, x2, x3, x4, x5, x6, .int 0, x8, .int 0, x10, x11, x12, .int 0, x14, x15, x16, x17, x18])), (pl, .inl (k 3, 4, .inr (.inr (.inr (.inr f)))))]) [0, 1] rfl
              refine q_callr (va_runV (As := [.int 3]) (rest := []) ⟨hx, hb, hml, hown, hts⟩ (c_X6_at l G k h0 pl f sa hf 3 (.ref wl) (x2) (x3) (x4) (x5) (x6) (.int 0) (x8) (.int 0) (x10) (x11) (x12) (.int 0) (x14) (x15) (x16) (x17) (x18)) (cwV 1 hts g_c_X6_deal0_c_X6_at_65 rfl rfl rfl (by decide +kernel) ⟨Nat.le_of_ble_eq_true rfl, Nat.le_of_ble_eq_true rfl⟩) ⟨pr_bl, va_recv hK hPc (ci := 5) (q0 := 0) rfl rfl, pr_pre hPc hK hN⟩ rfl rfl hl.1 rfl (lv_room (Nat.le_of_ble_eq_true rfl)) dX6_deal_38 ⟨Nat.le_of_ble_eq_true rfl, Nat.le_of_ble_eq_true rfl⟩) (fun r31 hr31 => ?_)
              rw [show r31 = s3 from hr31.trans hs3]
              refine lv_astore (lv' := [(4, .ref s3), (3, .int 3), (5, .int (nI j26)), (0, .ref h0), (1, .long p0)]) hx hb dX6_deal_41 hl (by decide) rfl (fun ls hl => ?_)
              refine lv_aload hx hb dX6_deal_43 (lv_at hl 0 rfl) ?_
              have hPc := hP.sub (ws' := [(s3, .inr (1, [.ref t3, a3_1, a3_2, a3_3, a3_4, a3_5, a3_6, a3_7, a3_8, a3_9])), (t3, .inr (2, [.ref fr3, .ref al3, b3_2, b3_3, b3_4, b3_5])), (fr3, .inl (k 0, 34, .inl (fun _ => 0))), (al3, .inl (k 0, 34, .inl (fun _ => 0)))]) [2, 3, 4, 5] rfl
              have hDc := hD.sub (ws' := [(s3, .inr (1, [.ref t3, a3_1, a3_2, a3_3, a3_4, a3_5, a3_6, a3_7, a3_8, a3_9])), (t3, .inr (2, [.ref fr3, .ref al3, b3_2, b3_3, b3_4, b3_5])), (fr3, .inl (k 0, 34, .inl (fun _ => 0))), (al3, .inl (k 0, 34, .inl (fun _ => 0)))]) [2, 3, 4, 5] (by decide) rfl
              have hFc := va_free (wc := [(s3, .inr (1, [.ref t3, a3_1, a3_2, a3_3, a3_4, a3_5, a3_6, a3_7, a3_8, a3_9])), (t3, .inr (2, [.ref fr3, .ref al3, b3_2, b3_3, b3_4, b3_5])), (fr3, .inl (k 0, 34, .inl (fun _ => 0))), (al3, .inl (k 0, 34, .inl (fun _ => 0)))]) hD hS hA [2, 3, 4, 5] rfl
              refine va_callv (va_runV (As := []) (rest := []) ⟨hx, hb, hml, hown, hts⟩ (c_X2_startHand l G k H.size s3 t3 fr3 al3 (fun _ => 0) (fun _ => 0) (a3_1) (a3_2) (a3_3) (a3_4) (a3_5) (a3_6) (a3_7) (a3_8) (a3_9) (b3_2) (b3_3) (b3_4) (b3_5)) (cwV 0 hts g_c_X6_deal0_c_X2_startHand_69 rfl rfl rfl (by decide +kernel) ⟨Nat.le_of_ble_eq_true rfl, Nat.le_of_ble_eq_true rfl⟩) ⟨pq_bl, va_recv hK hPc (ci := 1) (q0 := 0) rfl rfl, pq_pre hPc hDc hK hN⟩ rfl rfl hl.1 rfl (lv_room (Nat.le_of_ble_eq_true rfl)) dX6_deal_45 ⟨Nat.le_of_ble_eq_true rfl, Nat.le_of_ble_eq_true rfl⟩) hS (fun q _ h => hFc q h) hFc (fun ur32 t H1 locs ht hvm hr32 hB hz1 hk1 hS => ?_)
              obtain ⟨f33, g34⟩ := ur32
              obtain ⟨hP1, hD1⟩ := hB
              rw [ht] at hP1
              obtain ⟨hP, hD⟩ := va_join (wr := [(h0, .inr (5, [.ref pl, .ref wl, x2, x3, x4, x5, x6, .int 0, x8, .int 0, x10, x11, x12, .int 0, x14, x15, x16, x17, x18])), (pl, .inl (k 3, 4, .inr (.inr (.inr (.inr f))))), (wl, .inr (3, [.ref wk, .int 1, .int 52, .int 0])), (wk, .inl (k 0, 136, .inl f2)), (s0, .inr (1, [.ref t0, a0_1, .int 0, .long 0, a0_4, .int 0, .int 0, .int 0, .int 0, .int 0])), (t0, .inr (2, [.ref fr0, .ref al0, b0_2, b0_3, .int 0, .int w9])), (fr0, .inl (k 0, 34, .inl f6)), (al0, .inl (k 0, 34, .inl f10)), (s1, .inr (1, [.ref t1, a1_1, .int 0, .long 0, a1_4, .int 0, .int 0, .int 0, .int 0, .int 0])), (t1, .inr (2, [.ref fr1, .ref al1, b1_2, b1_3, .int 0, .int w18])), (fr1, .inl (k 0, 34, .inl f15)), (al1, .inl (k 0, 34, .inl f19)), (s2, .inr (1, [.ref t2, a2_1, .int 0, .long 0, a2_4, .int 0, .int 0, .int 0, .int 0, .int 0])), (t2, .inr (2, [.ref fr2, .ref al2, b2_2, b2_3, .int 0, .int w27])), (fr2, .inl (k 0, 34, .inl f24)), (al2, .inl (k 0, 34, .inl f28))]) (w1 := [(s3, .inr (1, [.ref t3, a3_1, .int 0, .long 0, a3_4, .int 0, .int 0, .int 0, .int 0, .int 0])), (t3, .inr (2, [.ref fr3, .ref al3, b3_2, b3_3, .int 0, .int 0])), (fr3, .inl (k 0, 34, .inl f33)), (al3, .inl (k 0, 34, .inl g34))]) hP hD [2, 3, 4, 5] [0, 1, 6, 7, 8, 9, 10, 11, 12, 13, 14, 15, 16, 17, 18, 19] rfl rfl (by decide) (by decide) hk1 hFc hP1 hD1
              clear hP1 hD1
              generalize H1 = H at hP hS ⊢
              replace hP : va_P G vwCl [(h0, .inr (5, [.ref pl, .ref wl, x2, x3, x4, x5, x6, .int 0, x8, .int 0, x10, x11, x12, .int 0, x14, x15, x16, x17, x18])), (pl, .inl (k 3, 4, .inr (.inr (.inr (.inr f))))), (wl, .inr (3, [.ref wk, .int 1, .int 52, .int 0])), (wk, .inl (k 0, 136, .inl f2)), (s0, .inr (1, [.ref t0, a0_1, .int 0, .long 0, a0_4, .int 0, .int 0, .int 0, .int 0, .int 0])), (t0, .inr (2, [.ref fr0, .ref al0, b0_2, b0_3, .int 0, .int w9])), (fr0, .inl (k 0, 34, .inl f6)), (al0, .inl (k 0, 34, .inl f10)), (s1, .inr (1, [.ref t1, a1_1, .int 0, .long 0, a1_4, .int 0, .int 0, .int 0, .int 0, .int 0])), (t1, .inr (2, [.ref fr1, .ref al1, b1_2, b1_3, .int 0, .int w18])), (fr1, .inl (k 0, 34, .inl f15)), (al1, .inl (k 0, 34, .inl f19)), (s2, .inr (1, [.ref t2, a2_1, .int 0, .long 0, a2_4, .int 0, .int 0, .int 0, .int 0, .int 0])), (t2, .inr (2, [.ref fr2, .ref al2, b2_2, b2_3, .int 0, .int w27])), (fr2, .inl (k 0, 34, .inl f24)), (al2, .inl (k 0, 34, .inl f28)), (s3, .inr (1, [.ref t3, a3_1, .int 0, .long 0, a3_4, .int 0, .int 0, .int 0, .int 0, .int 0])), (t3, .inr (2, [.ref fr3, .ref al3, b3_2, b3_3, .int 0, .int 0])), (fr3, .inl (k 0, 34, .inl f33)), (al3, .inl (k 0, 34, .inl g34))] H := hP
              replace hD : va_D A [(h0, .inr (5, [.ref pl, .ref wl, x2, x3, x4, x5, x6, .int 0, x8, .int 0, x10, x11, x12, .int 0, x14, x15, x16, x17, x18])), (pl, .inl (k 3, 4, .inr (.inr (.inr (.inr f))))), (wl, .inr (3, [.ref wk, .int 1, .int 52, .int 0])), (wk, .inl (k 0, 136, .inl f2)), (s0, .inr (1, [.ref t0, a0_1, .int 0, .long 0, a0_4, .int 0, .int 0, .int 0, .int 0, .int 0])), (t0, .inr (2, [.ref fr0, .ref al0, b0_2, b0_3, .int 0, .int w9])), (fr0, .inl (k 0, 34, .inl f6)), (al0, .inl (k 0, 34, .inl f10)), (s1, .inr (1, [.ref t1, a1_1, .int 0, .long 0, a1_4, .int 0, .int 0, .int 0, .int 0, .int 0])), (t1, .inr (2, [.ref fr1, .ref al1, b1_2, b1_3, .int 0, .int w18])), (fr1, .inl (k 0, 34, .inl f15)), (al1, .inl (k 0, 34, .inl f19)), (s2, .inr (1, [.ref t2, a2_1, .int 0, .long 0, a2_4, .int 0, .int 0, .int 0, .int 0, .int 0])), (t2, .inr (2, [.ref fr2, .ref al2, b2_2, b2_3, .int 0, .int w27])), (fr2, .inl (k 0, 34, .inl f24)), (al2, .inl (k 0, 34, .inl f28)), (s3, .inr (1, [.ref t3, a3_1, .int 0, .long 0, a3_4, .int 0, .int 0, .int 0, .int 0, .int 0])), (t3, .inr (2, [.ref fr3, .ref al3, b3_2, b3_3, .int 0, .int 0])), (fr3, .inl (k 0, 34, .inl f33)), (al3, .inl (k 0, 34, .inl g34))] := hD
              refine lv_iconst (v := 0) hx hb dX6_deal_48 (by decide) ?_
              refine lv_istore (lv' := [(5, .int 0), (4, .ref s3), (3, .int 3), (0, .ref h0), (1, .long p0)]) hx hb dX6_deal_49 hl (by decide) rfl (fun ls hl => ?_)
              obtain ⟨j35, kj35, ej35, hj35⟩ : ∃ j : Nat, j = 0 ∧ nI j = (0 : Int32) ∧ j ≤ 13 := ⟨0, rfl, rfl, by decide⟩
              replace hl : lv_has ls 6 [(5, .int (nI j35)), (4, .ref s3), (3, .int 3), (0, .ref h0), (1, .long p0)] := by rw [ej35]; exact hl
              obtain ⟨w36, ew36⟩ : ∃ x : Int32, x = 0 := ⟨_, rfl⟩
              replace hP : va_P G vwCl [(h0, .inr (5, [.ref pl, .ref wl, x2, x3, x4, x5, x6, .int 0, x8, .int 0, x10, x11, x12, .int 0, x14, x15, x16, x17, x18])), (pl, .inl (k 3, 4, .inr (.inr (.inr (.inr f))))), (wl, .inr (3, [.ref wk, .int 1, .int 52, .int 0])), (wk, .inl (k 0, 136, .inl f2)), (s0, .inr (1, [.ref t0, a0_1, .int 0, .long 0, a0_4, .int 0, .int 0, .int 0, .int 0, .int 0])), (t0, .inr (2, [.ref fr0, .ref al0, b0_2, b0_3, .int 0, .int w9])), (fr0, .inl (k 0, 34, .inl f6)), (al0, .inl (k 0, 34, .inl f10)), (s1, .inr (1, [.ref t1, a1_1, .int 0, .long 0, a1_4, .int 0, .int 0, .int 0, .int 0, .int 0])), (t1, .inr (2, [.ref fr1, .ref al1, b1_2, b1_3, .int 0, .int w18])), (fr1, .inl (k 0, 34, .inl f15)), (al1, .inl (k 0, 34, .inl f19)), (s2, .inr (1, [.ref t2, a2_1, .int 0, .long 0, a2_4, .int 0, .int 0, .int 0, .int 0, .int 0])), (t2, .inr (2, [.ref fr2, .ref al2, b2_2, b2_3, .int 0, .int w27])), (fr2, .inl (k 0, 34, .inl f24)), (al2, .inl (k 0, 34, .inl f28)), (s3, .inr (1, [.ref t3, a3_1, .int 0, .long 0, a3_4, .int 0, .int 0, .int 0, .int 0, .int 0])), (t3, .inr (2, [.ref fr3, .ref al3, b3_2, b3_3, .int 0, .int w36])), (fr3, .inl (k 0, 34, .inl f33)), (al3, .inl (k 0, 34, .inl g34))] H := by rw [ew36]; exact hP
              replace hD : va_D A [(h0, .inr (5, [.ref pl, .ref wl, x2, x3, x4, x5, x6, .int 0, x8, .int 0, x10, x11, x12, .int 0, x14, x15, x16, x17, x18])), (pl, .inl (k 3, 4, .inr (.inr (.inr (.inr f))))), (wl, .inr (3, [.ref wk, .int 1, .int 52, .int 0])), (wk, .inl (k 0, 136, .inl f2)), (s0, .inr (1, [.ref t0, a0_1, .int 0, .long 0, a0_4, .int 0, .int 0, .int 0, .int 0, .int 0])), (t0, .inr (2, [.ref fr0, .ref al0, b0_2, b0_3, .int 0, .int w9])), (fr0, .inl (k 0, 34, .inl f6)), (al0, .inl (k 0, 34, .inl f10)), (s1, .inr (1, [.ref t1, a1_1, .int 0, .long 0, a1_4, .int 0, .int 0, .int 0, .int 0, .int 0])), (t1, .inr (2, [.ref fr1, .ref al1, b1_2, b1_3, .int 0, .int w18])), (fr1, .inl (k 0, 34, .inl f15)), (al1, .inl (k 0, 34, .inl f19)), (s2, .inr (1, [.ref t2, a2_1, .int 0, .long 0, a2_4, .int 0, .int 0, .int 0, .int 0, .int 0])), (t2, .inr (2, [.ref fr2, .ref al2, b2_2, b2_3, .int 0, .int w27])), (fr2, .inl (k 0, 34, .inl f24)), (al2, .inl (k 0, 34, .inl f28)), (s3, .inr (1, [.ref t3, a3_1, .int 0, .long 0, a3_4, .int 0, .int 0, .int 0, .int 0, .int 0])), (t3, .inr (2, [.ref fr3, .ref al3, b3_2, b3_3, .int 0, .int w36])), (fr3, .inl (k 0, 34, .inl f33)), (al3, .inl (k 0, 34, .inl g34))] := by rw [ew36]; exact hD
              clear ew36
              obtain ⟨f37, ef37⟩ : ∃ x : Nat → Int32, x = (g34) := ⟨_, rfl⟩
              replace hP : va_P G vwCl [(h0, .inr (5, [.ref pl, .ref wl, x2, x3, x4, x5, x6, .int 0, x8, .int 0, x10, x11, x12, .int 0, x14, x15, x16, x17, x18])), (pl, .inl (k 3, 4, .inr (.inr (.inr (.inr f))))), (wl, .inr (3, [.ref wk, .int 1, .int 52, .int 0])), (wk, .inl (k 0, 136, .inl f2)), (s0, .inr (1, [.ref t0, a0_1, .int 0, .long 0, a0_4, .int 0, .int 0, .int 0, .int 0, .int 0])), (t0, .inr (2, [.ref fr0, .ref al0, b0_2, b0_3, .int 0, .int w9])), (fr0, .inl (k 0, 34, .inl f6)), (al0, .inl (k 0, 34, .inl f10)), (s1, .inr (1, [.ref t1, a1_1, .int 0, .long 0, a1_4, .int 0, .int 0, .int 0, .int 0, .int 0])), (t1, .inr (2, [.ref fr1, .ref al1, b1_2, b1_3, .int 0, .int w18])), (fr1, .inl (k 0, 34, .inl f15)), (al1, .inl (k 0, 34, .inl f19)), (s2, .inr (1, [.ref t2, a2_1, .int 0, .long 0, a2_4, .int 0, .int 0, .int 0, .int 0, .int 0])), (t2, .inr (2, [.ref fr2, .ref al2, b2_2, b2_3, .int 0, .int w27])), (fr2, .inl (k 0, 34, .inl f24)), (al2, .inl (k 0, 34, .inl f28)), (s3, .inr (1, [.ref t3, a3_1, .int 0, .long 0, a3_4, .int 0, .int 0, .int 0, .int 0, .int 0])), (t3, .inr (2, [.ref fr3, .ref al3, b3_2, b3_3, .int 0, .int w36])), (fr3, .inl (k 0, 34, .inl f33)), (al3, .inl (k 0, 34, .inl f37))] H := by rw [ef37]; exact hP
              replace hD : va_D A [(h0, .inr (5, [.ref pl, .ref wl, x2, x3, x4, x5, x6, .int 0, x8, .int 0, x10, x11, x12, .int 0, x14, x15, x16, x17, x18])), (pl, .inl (k 3, 4, .inr (.inr (.inr (.inr f))))), (wl, .inr (3, [.ref wk, .int 1, .int 52, .int 0])), (wk, .inl (k 0, 136, .inl f2)), (s0, .inr (1, [.ref t0, a0_1, .int 0, .long 0, a0_4, .int 0, .int 0, .int 0, .int 0, .int 0])), (t0, .inr (2, [.ref fr0, .ref al0, b0_2, b0_3, .int 0, .int w9])), (fr0, .inl (k 0, 34, .inl f6)), (al0, .inl (k 0, 34, .inl f10)), (s1, .inr (1, [.ref t1, a1_1, .int 0, .long 0, a1_4, .int 0, .int 0, .int 0, .int 0, .int 0])), (t1, .inr (2, [.ref fr1, .ref al1, b1_2, b1_3, .int 0, .int w18])), (fr1, .inl (k 0, 34, .inl f15)), (al1, .inl (k 0, 34, .inl f19)), (s2, .inr (1, [.ref t2, a2_1, .int 0, .long 0, a2_4, .int 0, .int 0, .int 0, .int 0, .int 0])), (t2, .inr (2, [.ref fr2, .ref al2, b2_2, b2_3, .int 0, .int w27])), (fr2, .inl (k 0, 34, .inl f24)), (al2, .inl (k 0, 34, .inl f28)), (s3, .inr (1, [.ref t3, a3_1, .int 0, .long 0, a3_4, .int 0, .int 0, .int 0, .int 0, .int 0])), (t3, .inr (2, [.ref fr3, .ref al3, b3_2, b3_3, .int 0, .int w36])), (fr3, .inl (k 0, 34, .inl f33)), (al3, .inl (k 0, 34, .inl f37))] := by rw [ef37]; exact hD
              clear ef37
              clear kj35 ej35
              obtain ⟨nj35, hnj35⟩ : ∃ n : Nat, 13 < j35 + n := ⟨14, by omega⟩
              induction nj35 generalizing j35 ls H locs w36 f33 f37 with
              | zero => exact absurd hnj35 (by omega)
              | succ nj35 ihj35 =>
                refine lv_iload hx hb dX6_deal_51 (lv_at hl 0 rfl) ?_
                refine lv_bipush (v := 13) hx hb dX6_deal_53 (by decide) ?_
                refine lv_icmp_ge (tgt := 87) hx hb dX6_deal_55 (by decide) (fun c38 => ?_) (fun c38 => ?_)
                · skip
                  have hge : 13 ≤ j35 := (nI_leI (a := 13) (b := j35) (by omega) (by omega)).mp c38
                  refine lv_iinc (v := 4) (lv' := [(3, .int 4), (5, .int (nI j35)), (4, .ref s3), (0, .ref h0), (1, .long p0)]) hx hb dX6_deal_87 hl (k := 2) rfl (by decide) (by decide) rfl (fun ls hl => ?_)
                  refine lv_goto (tgt := 26) hx hb dX6_deal_90 (by decide) ?_
                  refine lv_iload_n hx hb dX6_deal_26 rfl (lv_at hl 0 rfl) ?_
                  refine lv_iconst (v := 4) hx hb dX6_deal_27 (by decide) ?_
                  refine lv_icmp_ge (tgt := 93) hx hb dX6_deal_28 (by decide) (fun _ => ?_) (fun c9 => absurd (by decide) c9)
                  refine lv_aload_n hx hb dX6_deal_93 rfl (lv_at hl 3 rfl) ?_
                  refine lv_iconst (v := 0) hx hb dX6_deal_94 (by decide) ?_
                  refine va_put (D := G) (ci := 5) (v := .int 0) (ty := .int) (C := RX6) (T := TX6) (N := 19) hx hb hts i_c_X6_deal0_X6 tyX6 tyX6_ok nmX6 hown hK hP hD hS 0 rfl rfl 6 (by decide) (hts (.fieldLink RX6 83 "TileHouse" "winCount" "I") (by decide +kernel)) (fun _ h9 => h9) rfl (by decide +kernel) rfl rfl (Nat.le_of_ble_eq_true rfl) dX6_deal_95 (fun H locs hP hD hS => ?_)
                  replace hP : va_P G vwCl [(h0, .inr (5, [.ref pl, .ref wl, x2, x3, x4, x5, .int 0, .int 0, x8, .int 0, x10, x11, x12, .int 0, x14, x15, x16, x17, x18])), (pl, .inl (k 3, 4, .inr (.inr (.inr (.inr f))))), (wl, .inr (3, [.ref wk, .int 1, .int 52, .int 0])), (wk, .inl (k 0, 136, .inl f2)), (s0, .inr (1, [.ref t0, a0_1, .int 0, .long 0, a0_4, .int 0, .int 0, .int 0, .int 0, .int 0])), (t0, .inr (2, [.ref fr0, .ref al0, b0_2, b0_3, .int 0, .int w9])), (fr0, .inl (k 0, 34, .inl f6)), (al0, .inl (k 0, 34, .inl f10)), (s1, .inr (1, [.ref t1, a1_1, .int 0, .long 0, a1_4, .int 0, .int 0, .int 0, .int 0, .int 0])), (t1, .inr (2, [.ref fr1, .ref al1, b1_2, b1_3, .int 0, .int w18])), (fr1, .inl (k 0, 34, .inl f15)), (al1, .inl (k 0, 34, .inl f19)), (s2, .inr (1, [.ref t2, a2_1, .int 0, .long 0, a2_4, .int 0, .int 0, .int 0, .int 0, .int 0])), (t2, .inr (2, [.ref fr2, .ref al2, b2_2, b2_3, .int 0, .int w27])), (fr2, .inl (k 0, 34, .inl f24)), (al2, .inl (k 0, 34, .inl f28)), (s3, .inr (1, [.ref t3, a3_1, .int 0, .long 0, a3_4, .int 0, .int 0, .int 0, .int 0, .int 0])), (t3, .inr (2, [.ref fr3, .ref al3, b3_2, b3_3, .int 0, .int w36])), (fr3, .inl (k 0, 34, .inl f33)), (al3, .inl (k 0, 34, .inl f37))] H := hP
                  replace hD : va_D A [(h0, .inr (5, [.ref pl, .ref wl, x2, x3, x4, x5, .int 0, .int 0, x8, .int 0, x10, x11, x12, .int 0, x14, x15, x16, x17, x18])), (pl, .inl (k 3, 4, .inr (.inr (.inr (.inr f))))), (wl, .inr (3, [.ref wk, .int 1, .int 52, .int 0])), (wk, .inl (k 0, 136, .inl f2)), (s0, .inr (1, [.ref t0, a0_1, .int 0, .long 0, a0_4, .int 0, .int 0, .int 0, .int 0, .int 0])), (t0, .inr (2, [.ref fr0, .ref al0, b0_2, b0_3, .int 0, .int w9])), (fr0, .inl (k 0, 34, .inl f6)), (al0, .inl (k 0, 34, .inl f10)), (s1, .inr (1, [.ref t1, a1_1, .int 0, .long 0, a1_4, .int 0, .int 0, .int 0, .int 0, .int 0])), (t1, .inr (2, [.ref fr1, .ref al1, b1_2, b1_3, .int 0, .int w18])), (fr1, .inl (k 0, 34, .inl f15)), (al1, .inl (k 0, 34, .inl f19)), (s2, .inr (1, [.ref t2, a2_1, .int 0, .long 0, a2_4, .int 0, .int 0, .int 0, .int 0, .int 0])), (t2, .inr (2, [.ref fr2, .ref al2, b2_2, b2_3, .int 0, .int w27])), (fr2, .inl (k 0, 34, .inl f24)), (al2, .inl (k 0, 34, .inl f28)), (s3, .inr (1, [.ref t3, a3_1, .int 0, .long 0, a3_4, .int 0, .int 0, .int 0, .int 0, .int 0])), (t3, .inr (2, [.ref fr3, .ref al3, b3_2, b3_3, .int 0, .int w36])), (fr3, .inl (k 0, 34, .inl f33)), (al3, .inl (k 0, 34, .inl f37))] := hD
                  refine lv_aload_n hx hb dX6_deal_98 rfl (lv_at hl 3 rfl) ?_
                  refine lv_iconst (v := 0) hx hb dX6_deal_99 (by decide) ?_
                  refine va_put (D := G) (ci := 5) (v := .int 0) (ty := .boolean) (C := RX6) (T := TX6) (N := 19) hx hb hts i_c_X6_deal0_X6 tyX6 tyX6_ok nmX6 hown hK hP hD hS 0 rfl rfl 17 (by decide) (hts (.fieldLink RX6 86 "TileHouse" "broken" "Z") (by decide +kernel)) (fun _ h9 => h9) rfl (by decide +kernel) (by decide) rfl (Nat.le_of_ble_eq_true rfl) dX6_deal_100 (fun H locs hP hD hS => ?_)
                  replace hP : va_P G vwCl [(h0, .inr (5, [.ref pl, .ref wl, x2, x3, x4, x5, .int 0, .int 0, x8, .int 0, x10, x11, x12, .int 0, x14, x15, x16, .int 0, x18])), (pl, .inl (k 3, 4, .inr (.inr (.inr (.inr f))))), (wl, .inr (3, [.ref wk, .int 1, .int 52, .int 0])), (wk, .inl (k 0, 136, .inl f2)), (s0, .inr (1, [.ref t0, a0_1, .int 0, .long 0, a0_4, .int 0, .int 0, .int 0, .int 0, .int 0])), (t0, .inr (2, [.ref fr0, .ref al0, b0_2, b0_3, .int 0, .int w9])), (fr0, .inl (k 0, 34, .inl f6)), (al0, .inl (k 0, 34, .inl f10)), (s1, .inr (1, [.ref t1, a1_1, .int 0, .long 0, a1_4, .int 0, .int 0, .int 0, .int 0, .int 0])), (t1, .inr (2, [.ref fr1, .ref al1, b1_2, b1_3, .int 0, .int w18])), (fr1, .inl (k 0, 34, .inl f15)), (al1, .inl (k 0, 34, .inl f19)), (s2, .inr (1, [.ref t2, a2_1, .int 0, .long 0, a2_4, .int 0, .int 0, .int 0, .int 0, .int 0])), (t2, .inr (2, [.ref fr2, .ref al2, b2_2, b2_3, .int 0, .int w27])), (fr2, .inl (k 0, 34, .inl f24)), (al2, .inl (k 0, 34, .inl f28)), (s3, .inr (1, [.ref t3, a3_1, .int 0, .long 0, a3_4, .int 0, .int 0, .int 0, .int 0, .int 0])), (t3, .inr (2, [.ref fr3, .ref al3, b3_2, b3_3, .int 0, .int w36])), (fr3, .inl (k 0, 34, .inl f33)), (al3, .inl (k 0, 34, .inl f37))] H := hP
                  replace hD : va_D A [(h0, .inr (5, [.ref pl, .ref wl, x2, x3, x4, x5, .int 0, .int 0, x8, .int 0, x10, x11, x12, .int 0, x14, x15, x16, .int 0, x18])), (pl, .inl (k 3, 4, .inr (.inr (.inr (.inr f))))), (wl, .inr (3, [.ref wk, .int 1, .int 52, .int 0])), (wk, .inl (k 0, 136, .inl f2)), (s0, .inr (1, [.ref t0, a0_1, .int 0, .long 0, a0_4, .int 0, .int 0, .int 0, .int 0, .int 0])), (t0, .inr (2, [.ref fr0, .ref al0, b0_2, b0_3, .int 0, .int w9])), (fr0, .inl (k 0, 34, .inl f6)), (al0, .inl (k 0, 34, .inl f10)), (s1, .inr (1, [.ref t1, a1_1, .int 0, .long 0, a1_4, .int 0, .int 0, .int 0, .int 0, .int 0])), (t1, .inr (2, [.ref fr1, .ref al1, b1_2, b1_3, .int 0, .int w18])), (fr1, .inl (k 0, 34, .inl f15)), (al1, .inl (k 0, 34, .inl f19)), (s2, .inr (1, [.ref t2, a2_1, .int 0, .long 0, a2_4, .int 0, .int 0, .int 0, .int 0, .int 0])), (t2, .inr (2, [.ref fr2, .ref al2, b2_2, b2_3, .int 0, .int w27])), (fr2, .inl (k 0, 34, .inl f24)), (al2, .inl (k 0, 34, .inl f28)), (s3, .inr (1, [.ref t3, a3_1, .int 0, .long 0, a3_4, .int 0, .int 0, .int 0, .int 0, .int 0])), (t3, .inr (2, [.ref fr3, .ref al3, b3_2, b3_3, .int 0, .int w36])), (fr3, .inl (k 0, 34, .inl f33)), (al3, .inl (k 0, 34, .inl f37))] := hD
                  refine lv_aload_n hx hb dX6_deal_103 rfl (lv_at hl 3 rfl) ?_
                  refine lv_aload_n hx hb dX6_deal_104 rfl (lv_at hl 3 rfl) ?_
                  refine va_get (D := G) (ci := 5) (v := .int 0) (C := RX6) (T := TX6) (N := 19) hx hb hts i_c_X6_deal0_X6 hown hK hP 0 rfl rfl 9 (by decide) (hts (.fieldLink RX6 62 "TileHouse" "dealer" "I") (by decide +kernel)) (fun _ h9 => h9) rfl dX6_deal_105 ?_
                  refine lv_iconst (v := 0) hx hb dX6_deal_108 (by decide) ?_
                  have hPc := hP.sub (ws' := [(h0, .inr (5, [.ref pl, .ref wl, x2, x3, x4, x5, .int 0, .int 0, x8, .int 0, x10, x11, x12, .int 0, x14, x15, x16, .int 0, x18])), (pl, .inl (k 3, 4, .inr (.inr (.inr (.inr f))))), (wl, .inr (3, [.ref wk, .int 1, .int 52, .int 0])), (wk, .inl (k 0, 136, .inl f2)), (s0, .inr (1, [.ref t0, a0_1, .int 0, .long 0, a0_4, .int 0, .int 0, .int 0, .int 0, .int 0])), (t0, .inr (2, [.ref fr0, .ref al0, b0_2, b0_3, .int 0, .int w9])), (fr0, .inl (k 0, 34, .inl f6)), (al0, .inl (k 0, 34, .inl f10))]) [0, 1, 2, 3, 4, 5, 6, 7] rfl
                  have hDc := hD.sub (ws' := [(h0, .inr (5, [.ref pl, .ref wl, x2, x3, x4, x5, .int 0, .int 0, x8, .int 0, x10, x11, x12, .int 0, x14, x15, x16, .int 0, x18])), (pl, .inl (k 3, 4, .inr (.inr (.inr (.inr f))))), (wl, .inr (3, [.ref wk, .int 1, .int 52, .int 0])), (wk, .inl (k 0, 136, .inl f2)), (s0, .inr (1, [.ref t0, a0_1, .int 0, .long 0, a0_4, .int 0, .int 0, .int 0, .int 0, .int 0])), (t0, .inr (2, [.ref fr0, .ref al0, b0_2, b0_3, .int 0, .int w9])), (fr0, .inl (k 0, 34, .inl f6)), (al0, .inl (k 0, 34, .inl f10))]) [0, 1, 2, 3, 4, 5, 6, 7] (by decide) rfl
                  have hFc := va_free (wc := [(h0, .inr (5, [.ref pl, .ref wl, x2, x3, x4, x5, .int 0, .int 0, x8, .int 0, x10, x11, x12, .int 0, x14, x15, x16, .int 0, x18])), (pl, .inl (k 3, 4, .inr (.inr (.inr (.inr f))))), (wl, .inr (3, [.ref wk, .int 1, .int 52, .int 0])), (wk, .inl (k 0, 136, .inl f2)), (s0, .inr (1, [.ref t0, a0_1, .int 0, .long 0, a0_4, .int 0, .int 0, .int 0, .int 0, .int 0])), (t0, .inr (2, [.ref fr0, .ref al0, b0_2, b0_3, .int 0, .int w9])), (fr0, .inl (k 0, 34, .inl f6)), (al0, .inl (k 0, 34, .inl f10))]) hD hS hA [0, 1, 2, 3, 4, 5, 6, 7] rfl
                  refine va_callv (va_runV (As := [.int 0, .int 0]) (rest := []) ⟨hx, hb, hml, hown, hts⟩ (c_X6_drawTile0 l G k H.size h0 pl f sa hf wl wk f2 52 s0 t0 fr0 al0 f6 f10 w9 hs0 (x2) (x3) (x4) (x5) (.int 0) (.int 0) (x8) (.int 0) (x10) (x11) (x12) (.int 0) (x14) (x15) (x16) (.int 0) (x18) (.int 0) (a0_1) (.int 0) (.long 0) (a0_4) (.int 0) (.int 0) (.int 0) (.int 0) (b0_2) (b0_3) (.int 0)) (cwV 2 hts g_c_X6_deal0_c_X6_drawTile0_89 rfl rfl rfl (by decide +kernel) ⟨Nat.le_of_ble_eq_true rfl, Nat.le_of_ble_eq_true rfl⟩) ⟨pq_bl, va_recv hK hPc (ci := 5) (q0 := 0) rfl rfl, pq_pre hPc hDc hK hN⟩ rfl rfl hl.1 rfl (lv_room (Nat.le_of_ble_eq_true rfl)) dX6_deal_109 ⟨Nat.le_of_ble_eq_true rfl, Nat.le_of_ble_eq_true rfl⟩) hS (fun q _ h => hFc q h) hFc (fun ur39 t H1 locs ht hvm hr39 hB hz1 hk1 hS => ?_)
                  have hP1 : va_P G vwCl [] H1 := vP0
                  have hD1 : va_D (va_A [(h0, .inr (5, [.ref pl, .ref wl, x2, x3, x4, x5, .int 0, .int 0, x8, .int 0, x10, x11, x12, .int 0, x14, x15, x16, .int 0, x18])), (pl, .inl (k 3, 4, .inr (.inr (.inr (.inr f))))), (wl, .inr (3, [.ref wk, .int 1, .int 52, .int 0])), (wk, .inl (k 0, 136, .inl f2)), (s0, .inr (1, [.ref t0, a0_1, .int 0, .long 0, a0_4, .int 0, .int 0, .int 0, .int 0, .int 0])), (t0, .inr (2, [.ref fr0, .ref al0, b0_2, b0_3, .int 0, .int w9])), (fr0, .inl (k 0, 34, .inl f6)), (al0, .inl (k 0, 34, .inl f10))] H.size) [] := vD0
                  obtain ⟨hP, hD⟩ := va_join (wr := [(s1, .inr (1, [.ref t1, a1_1, .int 0, .long 0, a1_4, .int 0, .int 0, .int 0, .int 0, .int 0])), (t1, .inr (2, [.ref fr1, .ref al1, b1_2, b1_3, .int 0, .int w18])), (fr1, .inl (k 0, 34, .inl f15)), (al1, .inl (k 0, 34, .inl f19)), (s2, .inr (1, [.ref t2, a2_1, .int 0, .long 0, a2_4, .int 0, .int 0, .int 0, .int 0, .int 0])), (t2, .inr (2, [.ref fr2, .ref al2, b2_2, b2_3, .int 0, .int w27])), (fr2, .inl (k 0, 34, .inl f24)), (al2, .inl (k 0, 34, .inl f28)), (s3, .inr (1, [.ref t3, a3_1, .int 0, .long 0, a3_4, .int 0, .int 0, .int 0, .int 0, .int 0])), (t3, .inr (2, [.ref fr3, .ref al3, b3_2, b3_3, .int 0, .int w36])), (fr3, .inl (k 0, 34, .inl f33)), (al3, .inl (k 0, 34, .inl f37))]) (w1 := []) hP hD [0, 1, 2, 3, 4, 5, 6, 7] [8, 9, 10, 11, 12, 13, 14, 15, 16, 17, 18, 19] rfl rfl (by decide) (by decide) hk1 hFc hP1 hD1
                  clear hP1 hD1
                  generalize H1 = H at hP hS ⊢
                  replace hP : va_P G vwCl [(s1, .inr (1, [.ref t1, a1_1, .int 0, .long 0, a1_4, .int 0, .int 0, .int 0, .int 0, .int 0])), (t1, .inr (2, [.ref fr1, .ref al1, b1_2, b1_3, .int 0, .int w18])), (fr1, .inl (k 0, 34, .inl f15)), (al1, .inl (k 0, 34, .inl f19)), (s2, .inr (1, [.ref t2, a2_1, .int 0, .long 0, a2_4, .int 0, .int 0, .int 0, .int 0, .int 0])), (t2, .inr (2, [.ref fr2, .ref al2, b2_2, b2_3, .int 0, .int w27])), (fr2, .inl (k 0, 34, .inl f24)), (al2, .inl (k 0, 34, .inl f28)), (s3, .inr (1, [.ref t3, a3_1, .int 0, .long 0, a3_4, .int 0, .int 0, .int 0, .int 0, .int 0])), (t3, .inr (2, [.ref fr3, .ref al3, b3_2, b3_3, .int 0, .int w36])), (fr3, .inl (k 0, 34, .inl f33)), (al3, .inl (k 0, 34, .inl f37))] H := hP
                  replace hD : va_D A [(s1, .inr (1, [.ref t1, a1_1, .int 0, .long 0, a1_4, .int 0, .int 0, .int 0, .int 0, .int 0])), (t1, .inr (2, [.ref fr1, .ref al1, b1_2, b1_3, .int 0, .int w18])), (fr1, .inl (k 0, 34, .inl f15)), (al1, .inl (k 0, 34, .inl f19)), (s2, .inr (1, [.ref t2, a2_1, .int 0, .long 0, a2_4, .int 0, .int 0, .int 0, .int 0, .int 0])), (t2, .inr (2, [.ref fr2, .ref al2, b2_2, b2_3, .int 0, .int w27])), (fr2, .inl (k 0, 34, .inl f24)), (al2, .inl (k 0, 34, .inl f28)), (s3, .inr (1, [.ref t3, a3_1, .int 0, .long 0, a3_4, .int 0, .int 0, .int 0, .int 0, .int 0])), (t3, .inr (2, [.ref fr3, .ref al3, b3_2, b3_3, .int 0, .int w36])), (fr3, .inl (k 0, 34, .inl f33)), (al3, .inl (k 0, 34, .inl f37))] := hD
                  refine lv_iconst (v := 1) hx hb dX6_deal_112 (by decide) ?_
                  refine W.widen (k := 0) (n := 0) (Nat.le_of_ble_eq_true rfl) (Nat.le_of_ble_eq_true rfl) ?_
                  exact W.zret (v := 1) hx hb hr rfl (fun t ht hW => ⟨⟨1, (), rfl, rfl, trivial⟩, hS.F ht⟩) hS.2.2 dX6_deal_113
                · skip
                  have hltj35 : j35 < 13 := Nat.lt_of_not_le (fun h9 => c38 (nI_le h9 (by omega)))
                  refine lv_aload hx hb dX6_deal_58 (lv_at hl 1 rfl) ?_
                  refine va_get (D := G) (ci := 1) (v := .ref t3) (C := RX2) (T := TX2) (N := 10) hx hb hts i_c_X6_deal0_X2 hown hK hP 16 rfl rfl 0 (by decide) (hts (.fieldLink RX6 72 "TileHouse$Seat" "tiles" "LTileHouse$Tiles;") (by decide +kernel)) (fun _ h9 => h9) rfl dX6_deal_60 ?_
                  refine lv_aload_n hx hb dX6_deal_63 rfl (lv_at hl 3 rfl) ?_
                  refine va_get (D := G) (ci := 5) (v := .ref wl) (C := RX6) (T := TX6) (N := 19) hx hb hts i_c_X6_deal0_X6 hown hK hP 0 rfl rfl 1 (by decide) (hts (.fieldLink RX6 18 "TileHouse" "bricks" "LTileHouse$Wall;") (by decide +kernel)) (fun _ h9 => h9) rfl dX6_deal_64 ?_
                  refine lv_bipush (v := 13) hx hb dX6_deal_67 (by decide) ?_
                  refine lv_iload_n hx hb dX6_deal_69 rfl (lv_at hl 2 rfl) ?_
                  refine lv_imul hx hb dX6_deal_70 ?_
                  refine lv_topi (fun z40 ez40 => ?_)
                  obtain rfl : z40 = 39 := ez40.trans (by decide)
                  refine lv_iload hx hb dX6_deal_71 (lv_at hl 0 rfl) ?_
                  refine lv_iadd hx hb dX6_deal_73 ?_
                  refine lv_topi (fun v41 ev41 => ?_)
                  have nv41 : v41 = nI (39 + j35) := by rw [ev41]; exact nI_add (39) (j35)
                  have hPc := hP.sub (ws' := [(wl, .inr (3, [.ref wk, .int 1, .int 52, .int 0])), (wk, .inl (k 0, 136, .inl f2))]) [2, 3] rfl
                  refine q_calli (va_runV (As := [.int v41]) (rest := [.ref t3]) ⟨hx, hb, hml, hown, hts⟩ (c_X4_kindAt1 l G k wl wk f2 v41 (.int 52) (.int 0)) (cwV 1 hts g_c_X6_deal0_c_X4_kindAt1_75 rfl rfl rfl (by decide +kernel) ⟨Nat.le_of_ble_eq_true rfl, Nat.le_of_ble_eq_true rfl⟩) ⟨pr_bl, va_recv hK hPc (ci := 3) (q0 := 0) rfl rfl, pr_pre hPc hK hN⟩ rfl rfl hl.1 rfl (lv_room (Nat.le_of_ble_eq_true rfl)) dX6_deal_74 ⟨Nat.le_of_ble_eq_true rfl, Nat.le_of_ble_eq_true rfl⟩) (fun r42 hr42 => ?_)
                  refine lv_iconst (v := 1) hx hb dX6_deal_77 (by decide) ?_
                  have hPc := hP.sub (ws' := [(t3, .inr (2, [.ref fr3, .ref al3, b3_2, b3_3, .int 0, .int w36])), (fr3, .inl (k 0, 34, .inl f33)), (al3, .inl (k 0, 34, .inl f37))]) [17, 18, 19] rfl
                  have hDc := hD.sub (ws' := [(t3, .inr (2, [.ref fr3, .ref al3, b3_2, b3_3, .int 0, .int w36])), (fr3, .inl (k 0, 34, .inl f33)), (al3, .inl (k 0, 34, .inl f37))]) [17, 18, 19] (by decide) rfl
                  have hFc := va_free (wc := [(t3, .inr (2, [.ref fr3, .ref al3, b3_2, b3_3, .int 0, .int w36])), (fr3, .inl (k 0, 34, .inl f33)), (al3, .inl (k 0, 34, .inl f37))]) hD hS hA [17, 18, 19] rfl
                  refine va_callv (va_runV (As := [.int r42, .int 1]) (rest := []) ⟨hx, hb, hml, hown, hts⟩ (c_X3_put l G k H.size t3 fr3 al3 f33 f37 w36 r42 1 (b3_2) (b3_3) (.int 0)) (cwV 2 hts g_c_X6_deal0_c_X3_put_79 rfl rfl rfl (by decide +kernel) ⟨Nat.le_of_ble_eq_true rfl, Nat.le_of_ble_eq_true rfl⟩) ⟨pq_bl, va_recv hK hPc (ci := 2) (q0 := 0) rfl rfl, pq_pre hPc hDc hK hN⟩ rfl rfl hl.1 rfl (lv_room (Nat.le_of_ble_eq_true rfl)) dX6_deal_78 ⟨Nat.le_of_ble_eq_true rfl, Nat.le_of_ble_eq_true rfl⟩) hS (fun q _ h => hFc q h) hFc (fun ur43 t H1 locs ht hvm hr43 hB hz1 hk1 hS => ?_)
                  obtain ⟨f44, g45, w46⟩ := ur43
                  obtain ⟨hP1, hD1⟩ := hB
                  rw [ht] at hP1
                  obtain ⟨hP, hD⟩ := va_join (wr := [(h0, .inr (5, [.ref pl, .ref wl, x2, x3, x4, x5, x6, .int 0, x8, .int 0, x10, x11, x12, .int 0, x14, x15, x16, x17, x18])), (pl, .inl (k 3, 4, .inr (.inr (.inr (.inr f))))), (wl, .inr (3, [.ref wk, .int 1, .int 52, .int 0])), (wk, .inl (k 0, 136, .inl f2)), (s0, .inr (1, [.ref t0, a0_1, .int 0, .long 0, a0_4, .int 0, .int 0, .int 0, .int 0, .int 0])), (t0, .inr (2, [.ref fr0, .ref al0, b0_2, b0_3, .int 0, .int w9])), (fr0, .inl (k 0, 34, .inl f6)), (al0, .inl (k 0, 34, .inl f10)), (s1, .inr (1, [.ref t1, a1_1, .int 0, .long 0, a1_4, .int 0, .int 0, .int 0, .int 0, .int 0])), (t1, .inr (2, [.ref fr1, .ref al1, b1_2, b1_3, .int 0, .int w18])), (fr1, .inl (k 0, 34, .inl f15)), (al1, .inl (k 0, 34, .inl f19)), (s2, .inr (1, [.ref t2, a2_1, .int 0, .long 0, a2_4, .int 0, .int 0, .int 0, .int 0, .int 0])), (t2, .inr (2, [.ref fr2, .ref al2, b2_2, b2_3, .int 0, .int w27])), (fr2, .inl (k 0, 34, .inl f24)), (al2, .inl (k 0, 34, .inl f28)), (s3, .inr (1, [.ref t3, a3_1, .int 0, .long 0, a3_4, .int 0, .int 0, .int 0, .int 0, .int 0]))]) (w1 := [(t3, .inr (2, [.ref fr3, .ref al3, b3_2, b3_3, .int 0, .int w46])), (fr3, .inl (k 0, 34, .inl f44)), (al3, .inl (k 0, 34, .inl g45))]) hP hD [17, 18, 19] [0, 1, 2, 3, 4, 5, 6, 7, 8, 9, 10, 11, 12, 13, 14, 15, 16] rfl rfl (by decide) (by decide) hk1 hFc hP1 hD1
                  clear hP1 hD1
                  generalize H1 = H at hP hS ⊢
                  replace hP : va_P G vwCl [(h0, .inr (5, [.ref pl, .ref wl, x2, x3, x4, x5, x6, .int 0, x8, .int 0, x10, x11, x12, .int 0, x14, x15, x16, x17, x18])), (pl, .inl (k 3, 4, .inr (.inr (.inr (.inr f))))), (wl, .inr (3, [.ref wk, .int 1, .int 52, .int 0])), (wk, .inl (k 0, 136, .inl f2)), (s0, .inr (1, [.ref t0, a0_1, .int 0, .long 0, a0_4, .int 0, .int 0, .int 0, .int 0, .int 0])), (t0, .inr (2, [.ref fr0, .ref al0, b0_2, b0_3, .int 0, .int w9])), (fr0, .inl (k 0, 34, .inl f6)), (al0, .inl (k 0, 34, .inl f10)), (s1, .inr (1, [.ref t1, a1_1, .int 0, .long 0, a1_4, .int 0, .int 0, .int 0, .int 0, .int 0])), (t1, .inr (2, [.ref fr1, .ref al1, b1_2, b1_3, .int 0, .int w18])), (fr1, .inl (k 0, 34, .inl f15)), (al1, .inl (k 0, 34, .inl f19)), (s2, .inr (1, [.ref t2, a2_1, .int 0, .long 0, a2_4, .int 0, .int 0, .int 0, .int 0, .int 0])), (t2, .inr (2, [.ref fr2, .ref al2, b2_2, b2_3, .int 0, .int w27])), (fr2, .inl (k 0, 34, .inl f24)), (al2, .inl (k 0, 34, .inl f28)), (s3, .inr (1, [.ref t3, a3_1, .int 0, .long 0, a3_4, .int 0, .int 0, .int 0, .int 0, .int 0])), (t3, .inr (2, [.ref fr3, .ref al3, b3_2, b3_3, .int 0, .int w46])), (fr3, .inl (k 0, 34, .inl f44)), (al3, .inl (k 0, 34, .inl g45))] H := hP
                  replace hD : va_D A [(h0, .inr (5, [.ref pl, .ref wl, x2, x3, x4, x5, x6, .int 0, x8, .int 0, x10, x11, x12, .int 0, x14, x15, x16, x17, x18])), (pl, .inl (k 3, 4, .inr (.inr (.inr (.inr f))))), (wl, .inr (3, [.ref wk, .int 1, .int 52, .int 0])), (wk, .inl (k 0, 136, .inl f2)), (s0, .inr (1, [.ref t0, a0_1, .int 0, .long 0, a0_4, .int 0, .int 0, .int 0, .int 0, .int 0])), (t0, .inr (2, [.ref fr0, .ref al0, b0_2, b0_3, .int 0, .int w9])), (fr0, .inl (k 0, 34, .inl f6)), (al0, .inl (k 0, 34, .inl f10)), (s1, .inr (1, [.ref t1, a1_1, .int 0, .long 0, a1_4, .int 0, .int 0, .int 0, .int 0, .int 0])), (t1, .inr (2, [.ref fr1, .ref al1, b1_2, b1_3, .int 0, .int w18])), (fr1, .inl (k 0, 34, .inl f15)), (al1, .inl (k 0, 34, .inl f19)), (s2, .inr (1, [.ref t2, a2_1, .int 0, .long 0, a2_4, .int 0, .int 0, .int 0, .int 0, .int 0])), (t2, .inr (2, [.ref fr2, .ref al2, b2_2, b2_3, .int 0, .int w27])), (fr2, .inl (k 0, 34, .inl f24)), (al2, .inl (k 0, 34, .inl f28)), (s3, .inr (1, [.ref t3, a3_1, .int 0, .long 0, a3_4, .int 0, .int 0, .int 0, .int 0, .int 0])), (t3, .inr (2, [.ref fr3, .ref al3, b3_2, b3_3, .int 0, .int w46])), (fr3, .inl (k 0, 34, .inl f44)), (al3, .inl (k 0, 34, .inl g45))] := hD
                  obtain ⟨v47, ev47⟩ : ∃ y : Int32, y = (nI j35) + 1 := ⟨_, rfl⟩
                  have nv47 : v47 = nI (j35 + 1) := by rw [ev47]; exact nI_add (j35) (1)
                  refine lv_iinc (v := v47) (lv' := [(5, .int v47), (4, .ref s3), (3, .int 3), (0, .ref h0), (1, .long p0)]) hx hb dX6_deal_81 hl (k := 0) rfl (by rw [ev47]; rfl) (by decide) rfl (fun ls hl => ?_)
                  refine lv_goto (tgt := 51) hx hb dX6_deal_84 (by decide) ?_
                  exact ihj35 (j35 := j35 + 1) (hj35 := by omega) (hnj35 := by omega) (ls := ls) (hl := by rw [nI_succ, ← ev47]; exact lv_sub hl [0, 1, 2, 3, 4] rfl) (H := H) (locs := locs) (hP := hP.sub [0, 1, 2, 3, 4, 5, 6, 7, 8, 9, 10, 11, 12, 13, 14, 15, 16, 17, 18, 19] rfl) (hS := hS) (hD := hD.sub [0, 1, 2, 3, 4, 5, 6, 7, 8, 9, 10, 11, 12, 13, 14, 15, 16, 17, 18, 19] (by decide) rfl) (w36 := w46) (f33 := f44) (f37 := g45)
            · skip
              have hltj26 : j26 < 13 := Nat.lt_of_not_le (fun h9 => c29 (nI_le h9 (by omega)))
              refine lv_aload hx hb dX6_deal_58 (lv_at hl 1 rfl) ?_
              refine va_get (D := G) (ci := 1) (v := .ref t2) (C := RX2) (T := TX2) (N := 10) hx hb hts i_c_X6_deal0_X2 hown hK hP 16 rfl rfl 0 (by decide) (hts (.fieldLink RX6 72 "TileHouse$Seat" "tiles" "LTileHouse$Tiles;") (by decide +kernel)) (fun _ h9 => h9) rfl dX6_deal_60 ?_
              refine lv_aload_n hx hb dX6_deal_63 rfl (lv_at hl 3 rfl) ?_
              refine va_get (D := G) (ci := 5) (v := .ref wl) (C := RX6) (T := TX6) (N := 19) hx hb hts i_c_X6_deal0_X6 hown hK hP 0 rfl rfl 1 (by decide) (hts (.fieldLink RX6 18 "TileHouse" "bricks" "LTileHouse$Wall;") (by decide +kernel)) (fun _ h9 => h9) rfl dX6_deal_64 ?_
              refine lv_bipush (v := 13) hx hb dX6_deal_67 (by decide) ?_
              refine lv_iload_n hx hb dX6_deal_69 rfl (lv_at hl 2 rfl) ?_
              refine lv_imul hx hb dX6_deal_70 ?_
              refine lv_topi (fun z48 ez48 => ?_)
              obtain rfl : z48 = 26 := ez48.trans (by decide)
              refine lv_iload hx hb dX6_deal_71 (lv_at hl 0 rfl) ?_
              refine lv_iadd hx hb dX6_deal_73 ?_
              refine lv_topi (fun v49 ev49 => ?_)
              have nv49 : v49 = nI (26 + j26) := by rw [ev49]; exact nI_add (26) (j26)
              have hPc := hP.sub (ws' := [(wl, .inr (3, [.ref wk, .int 1, .int 52, .int 0])), (wk, .inl (k 0, 136, .inl f2))]) [6, 7] rfl
              refine q_calli (va_runV (As := [.int v49]) (rest := [.ref t2]) ⟨hx, hb, hml, hown, hts⟩ (c_X4_kindAt1 l G k wl wk f2 v49 (.int 52) (.int 0)) (cwV 1 hts g_c_X6_deal0_c_X4_kindAt1_75 rfl rfl rfl (by decide +kernel) ⟨Nat.le_of_ble_eq_true rfl, Nat.le_of_ble_eq_true rfl⟩) ⟨pr_bl, va_recv hK hPc (ci := 3) (q0 := 0) rfl rfl, pr_pre hPc hK hN⟩ rfl rfl hl.1 rfl (lv_room (Nat.le_of_ble_eq_true rfl)) dX6_deal_74 ⟨Nat.le_of_ble_eq_true rfl, Nat.le_of_ble_eq_true rfl⟩) (fun r50 hr50 => ?_)
              refine lv_iconst (v := 1) hx hb dX6_deal_77 (by decide) ?_
              have hPc := hP.sub (ws' := [(t2, .inr (2, [.ref fr2, .ref al2, b2_2, b2_3, .int 0, .int w27])), (fr2, .inl (k 0, 34, .inl f24)), (al2, .inl (k 0, 34, .inl f28))]) [17, 18, 19] rfl
              have hDc := hD.sub (ws' := [(t2, .inr (2, [.ref fr2, .ref al2, b2_2, b2_3, .int 0, .int w27])), (fr2, .inl (k 0, 34, .inl f24)), (al2, .inl (k 0, 34, .inl f28))]) [17, 18, 19] (by decide) rfl
              have hFc := va_free (wc := [(t2, .inr (2, [.ref fr2, .ref al2, b2_2, b2_3, .int 0, .int w27])), (fr2, .inl (k 0, 34, .inl f24)), (al2, .inl (k 0, 34, .inl f28))]) hD hS hA [17, 18, 19] rfl
              refine va_callv (va_runV (As := [.int r50, .int 1]) (rest := []) ⟨hx, hb, hml, hown, hts⟩ (c_X3_put l G k H.size t2 fr2 al2 f24 f28 w27 r50 1 (b2_2) (b2_3) (.int 0)) (cwV 2 hts g_c_X6_deal0_c_X3_put_79 rfl rfl rfl (by decide +kernel) ⟨Nat.le_of_ble_eq_true rfl, Nat.le_of_ble_eq_true rfl⟩) ⟨pq_bl, va_recv hK hPc (ci := 2) (q0 := 0) rfl rfl, pq_pre hPc hDc hK hN⟩ rfl rfl hl.1 rfl (lv_room (Nat.le_of_ble_eq_true rfl)) dX6_deal_78 ⟨Nat.le_of_ble_eq_true rfl, Nat.le_of_ble_eq_true rfl⟩) hS (fun q _ h => hFc q h) hFc (fun ur51 t H1 locs ht hvm hr51 hB hz1 hk1 hS => ?_)
              obtain ⟨f52, g53, w54⟩ := ur51
              obtain ⟨hP1, hD1⟩ := hB
              rw [ht] at hP1
              obtain ⟨hP, hD⟩ := va_join (wr := [(h0, .inr (5, [.ref pl, .ref wl, x2, x3, x4, x5, x6, .int 0, x8, .int 0, x10, x11, x12, .int 0, x14, x15, x16, x17, x18])), (pl, .inl (k 3, 4, .inr (.inr (.inr (.inr f))))), (s3, .inr (1, [.ref t3, a3_1, a3_2, a3_3, a3_4, a3_5, a3_6, a3_7, a3_8, a3_9])), (t3, .inr (2, [.ref fr3, .ref al3, b3_2, b3_3, b3_4, b3_5])), (fr3, .inl (k 0, 34, .inl (fun _ => 0))), (al3, .inl (k 0, 34, .inl (fun _ => 0))), (wl, .inr (3, [.ref wk, .int 1, .int 52, .int 0])), (wk, .inl (k 0, 136, .inl f2)), (s0, .inr (1, [.ref t0, a0_1, .int 0, .long 0, a0_4, .int 0, .int 0, .int 0, .int 0, .int 0])), (t0, .inr (2, [.ref fr0, .ref al0, b0_2, b0_3, .int 0, .int w9])), (fr0, .inl (k 0, 34, .inl f6)), (al0, .inl (k 0, 34, .inl f10)), (s1, .inr (1, [.ref t1, a1_1, .int 0, .long 0, a1_4, .int 0, .int 0, .int 0, .int 0, .int 0])), (t1, .inr (2, [.ref fr1, .ref al1, b1_2, b1_3, .int 0, .int w18])), (fr1, .inl (k 0, 34, .inl f15)), (al1, .inl (k 0, 34, .inl f19)), (s2, .inr (1, [.ref t2, a2_1, .int 0, .long 0, a2_4, .int 0, .int 0, .int 0, .int 0, .int 0]))]) (w1 := [(t2, .inr (2, [.ref fr2, .ref al2, b2_2, b2_3, .int 0, .int w54])), (fr2, .inl (k 0, 34, .inl f52)), (al2, .inl (k 0, 34, .inl g53))]) hP hD [17, 18, 19] [0, 1, 2, 3, 4, 5, 6, 7, 8, 9, 10, 11, 12, 13, 14, 15, 16] rfl rfl (by decide) (by decide) hk1 hFc hP1 hD1
              clear hP1 hD1
              generalize H1 = H at hP hS ⊢
              replace hP : va_P G vwCl [(h0, .inr (5, [.ref pl, .ref wl, x2, x3, x4, x5, x6, .int 0, x8, .int 0, x10, x11, x12, .int 0, x14, x15, x16, x17, x18])), (pl, .inl (k 3, 4, .inr (.inr (.inr (.inr f))))), (s3, .inr (1, [.ref t3, a3_1, a3_2, a3_3, a3_4, a3_5, a3_6, a3_7, a3_8, a3_9])), (t3, .inr (2, [.ref fr3, .ref al3, b3_2, b3_3, b3_4, b3_5])), (fr3, .inl (k 0, 34, .inl (fun _ => 0))), (al3, .inl (k 0, 34, .inl (fun _ => 0))), (wl, .inr (3, [.ref wk, .int 1, .int 52, .int 0])), (wk, .inl (k 0, 136, .inl f2)), (s0, .inr (1, [.ref t0, a0_1, .int 0, .long 0, a0_4, .int 0, .int 0, .int 0, .int 0, .int 0])), (t0, .inr (2, [.ref fr0, .ref al0, b0_2, b0_3, .int 0, .int w9])), (fr0, .inl (k 0, 34, .inl f6)), (al0, .inl (k 0, 34, .inl f10)), (s1, .inr (1, [.ref t1, a1_1, .int 0, .long 0, a1_4, .int 0, .int 0, .int 0, .int 0, .int 0])), (t1, .inr (2, [.ref fr1, .ref al1, b1_2, b1_3, .int 0, .int w18])), (fr1, .inl (k 0, 34, .inl f15)), (al1, .inl (k 0, 34, .inl f19)), (s2, .inr (1, [.ref t2, a2_1, .int 0, .long 0, a2_4, .int 0, .int 0, .int 0, .int 0, .int 0])), (t2, .inr (2, [.ref fr2, .ref al2, b2_2, b2_3, .int 0, .int w54])), (fr2, .inl (k 0, 34, .inl f52)), (al2, .inl (k 0, 34, .inl g53))] H := hP
              replace hD : va_D A [(h0, .inr (5, [.ref pl, .ref wl, x2, x3, x4, x5, x6, .int 0, x8, .int 0, x10, x11, x12, .int 0, x14, x15, x16, x17, x18])), (pl, .inl (k 3, 4, .inr (.inr (.inr (.inr f))))), (s3, .inr (1, [.ref t3, a3_1, a3_2, a3_3, a3_4, a3_5, a3_6, a3_7, a3_8, a3_9])), (t3, .inr (2, [.ref fr3, .ref al3, b3_2, b3_3, b3_4, b3_5])), (fr3, .inl (k 0, 34, .inl (fun _ => 0))), (al3, .inl (k 0, 34, .inl (fun _ => 0))), (wl, .inr (3, [.ref wk, .int 1, .int 52, .int 0])), (wk, .inl (k 0, 136, .inl f2)), (s0, .inr (1, [.ref t0, a0_1, .int 0, .long 0, a0_4, .int 0, .int 0, .int 0, .int 0, .int 0])), (t0, .inr (2, [.ref fr0, .ref al0, b0_2, b0_3, .int 0, .int w9])), (fr0, .inl (k 0, 34, .inl f6)), (al0, .inl (k 0, 34, .inl f10)), (s1, .inr (1, [.ref t1, a1_1, .int 0, .long 0, a1_4, .int 0, .int 0, .int 0, .int 0, .int 0])), (t1, .inr (2, [.ref fr1, .ref al1, b1_2, b1_3, .int 0, .int w18])), (fr1, .inl (k 0, 34, .inl f15)), (al1, .inl (k 0, 34, .inl f19)), (s2, .inr (1, [.ref t2, a2_1, .int 0, .long 0, a2_4, .int 0, .int 0, .int 0, .int 0, .int 0])), (t2, .inr (2, [.ref fr2, .ref al2, b2_2, b2_3, .int 0, .int w54])), (fr2, .inl (k 0, 34, .inl f52)), (al2, .inl (k 0, 34, .inl g53))] := hD
              obtain ⟨v55, ev55⟩ : ∃ y : Int32, y = (nI j26) + 1 := ⟨_, rfl⟩
              have nv55 : v55 = nI (j26 + 1) := by rw [ev55]; exact nI_add (j26) (1)
              refine lv_iinc (v := v55) (lv' := [(5, .int v55), (4, .ref s2), (3, .int 2), (0, .ref h0), (1, .long p0)]) hx hb dX6_deal_81 hl (k := 0) rfl (by rw [ev55]; rfl) (by decide) rfl (fun ls hl => ?_)
              refine lv_goto (tgt := 51) hx hb dX6_deal_84 (by decide) ?_
              exact ihj26 (j26 := j26 + 1) (hj26 := by omega) (hnj26 := by omega) (ls := ls) (hl := by rw [nI_succ, ← ev55]; exact lv_sub hl [0, 1, 2, 3, 4] rfl) (H := H) (locs := locs) (hP := hP.sub [0, 1, 2, 3, 4, 5, 6, 7, 8, 9, 10, 11, 12, 13, 14, 15, 16, 17, 18, 19] rfl) (hS := hS) (hD := hD.sub [0, 1, 2, 3, 4, 5, 6, 7, 8, 9, 10, 11, 12, 13, 14, 15, 16, 17, 18, 19] (by decide) rfl) (w27 := w54) (f24 := f52) (f28 := g53)
        · skip
          have hltj17 : j17 < 13 := Nat.lt_of_not_le (fun h9 => c20 (nI_le h9 (by omega)))
          refine lv_aload hx hb dX6_deal_58 (lv_at hl 1 rfl) ?_
          refine va_get (D := G) (ci := 1) (v := .ref t1) (C := RX2) (T := TX2) (N := 10) hx hb hts i_c_X6_deal0_X2 hown hK hP 16 rfl rfl 0 (by decide) (hts (.fieldLink RX6 72 "TileHouse$Seat" "tiles" "LTileHouse$Tiles;") (by decide +kernel)) (fun _ h9 => h9) rfl dX6_deal_60 ?_
          refine lv_aload_n hx hb dX6_deal_63 rfl (lv_at hl 3 rfl) ?_
          refine va_get (D := G) (ci := 5) (v := .ref wl) (C := RX6) (T := TX6) (N := 19) hx hb hts i_c_X6_deal0_X6 hown hK hP 0 rfl rfl 1 (by decide) (hts (.fieldLink RX6 18 "TileHouse" "bricks" "LTileHouse$Wall;") (by decide +kernel)) (fun _ h9 => h9) rfl dX6_deal_64 ?_
          refine lv_bipush (v := 13) hx hb dX6_deal_67 (by decide) ?_
          refine lv_iload_n hx hb dX6_deal_69 rfl (lv_at hl 2 rfl) ?_
          refine lv_imul hx hb dX6_deal_70 ?_
          refine lv_topi (fun z56 ez56 => ?_)
          obtain rfl : z56 = 13 := ez56.trans (by decide)
          refine lv_iload hx hb dX6_deal_71 (lv_at hl 0 rfl) ?_
          refine lv_iadd hx hb dX6_deal_73 ?_
          refine lv_topi (fun v57 ev57 => ?_)
          have nv57 : v57 = nI (13 + j17) := by rw [ev57]; exact nI_add (13) (j17)
          have hPc := hP.sub (ws' := [(wl, .inr (3, [.ref wk, .int 1, .int 52, .int 0])), (wk, .inl (k 0, 136, .inl f2))]) [10, 11] rfl
          refine q_calli (va_runV (As := [.int v57]) (rest := [.ref t1]) ⟨hx, hb, hml, hown, hts⟩ (c_X4_kindAt1 l G k wl wk f2 v57 (.int 52) (.int 0)) (cwV 1 hts g_c_X6_deal0_c_X4_kindAt1_75 rfl rfl rfl (by decide +kernel) ⟨Nat.le_of_ble_eq_true rfl, Nat.le_of_ble_eq_true rfl⟩) ⟨pr_bl, va_recv hK hPc (ci := 3) (q0 := 0) rfl rfl, pr_pre hPc hK hN⟩ rfl rfl hl.1 rfl (lv_room (Nat.le_of_ble_eq_true rfl)) dX6_deal_74 ⟨Nat.le_of_ble_eq_true rfl, Nat.le_of_ble_eq_true rfl⟩) (fun r58 hr58 => ?_)
          refine lv_iconst (v := 1) hx hb dX6_deal_77 (by decide) ?_
          have hPc := hP.sub (ws' := [(t1, .inr (2, [.ref fr1, .ref al1, b1_2, b1_3, .int 0, .int w18])), (fr1, .inl (k 0, 34, .inl f15)), (al1, .inl (k 0, 34, .inl f19))]) [17, 18, 19] rfl
          have hDc := hD.sub (ws' := [(t1, .inr (2, [.ref fr1, .ref al1, b1_2, b1_3, .int 0, .int w18])), (fr1, .inl (k 0, 34, .inl f15)), (al1, .inl (k 0, 34, .inl f19))]) [17, 18, 19] (by decide) rfl
          have hFc := va_free (wc := [(t1, .inr (2, [.ref fr1, .ref al1, b1_2, b1_3, .int 0, .int w18])), (fr1, .inl (k 0, 34, .inl f15)), (al1, .inl (k 0, 34, .inl f19))]) hD hS hA [17, 18, 19] rfl
          refine va_callv (va_runV (As := [.int r58, .int 1]) (rest := []) ⟨hx, hb, hml, hown, hts⟩ (c_X3_put l G k H.size t1 fr1 al1 f15 f19 w18 r58 1 (b1_2) (b1_3) (.int 0)) (cwV 2 hts g_c_X6_deal0_c_X3_put_79 rfl rfl rfl (by decide +kernel) ⟨Nat.le_of_ble_eq_true rfl, Nat.le_of_ble_eq_true rfl⟩) ⟨pq_bl, va_recv hK hPc (ci := 2) (q0 := 0) rfl rfl, pq_pre hPc hDc hK hN⟩ rfl rfl hl.1 rfl (lv_room (Nat.le_of_ble_eq_true rfl)) dX6_deal_78 ⟨Nat.le_of_ble_eq_true rfl, Nat.le_of_ble_eq_true rfl⟩) hS (fun q _ h => hFc q h) hFc (fun ur59 t H1 locs ht hvm hr59 hB hz1 hk1 hS => ?_)
          obtain ⟨f60, g61, w62⟩ := ur59
          obtain ⟨hP1, hD1⟩ := hB
          rw [ht] at hP1
          obtain ⟨hP, hD⟩ := va_join (wr := [(h0, .inr (5, [.ref pl, .ref wl, x2, x3, x4, x5, x6, .int 0, x8, .int 0, x10, x11, x12, .int 0, x14, x15, x16, x17, x18])), (pl, .inl (k 3, 4, .inr (.inr (.inr (.inr f))))), (s2, .inr (1, [.ref t2, a2_1, a2_2, a2_3, a2_4, a2_5, a2_6, a2_7, a2_8, a2_9])), (t2, .inr (2, [.ref fr2, .ref al2, b2_2, b2_3, b2_4, b2_5])), (fr2, .inl (k 0, 34, .inl (fun _ => 0))), (al2, .inl (k 0, 34, .inl (fun _ => 0))), (s3, .inr (1, [.ref t3, a3_1, a3_2, a3_3, a3_4, a3_5, a3_6, a3_7, a3_8, a3_9])), (t3, .inr (2, [.ref fr3, .ref al3, b3_2, b3_3, b3_4, b3_5])), (fr3, .inl (k 0, 34, .inl (fun _ => 0))), (al3, .inl (k 0, 34, .inl (fun _ => 0))), (wl, .inr (3, [.ref wk, .int 1, .int 52, .int 0])), (wk, .inl (k 0, 136, .inl f2)), (s0, .inr (1, [.ref t0, a0_1, .int 0, .long 0, a0_4, .int 0, .int 0, .int 0, .int 0, .int 0])), (t0, .inr (2, [.ref fr0, .ref al0, b0_2, b0_3, .int 0, .int w9])), (fr0, .inl (k 0, 34, .inl f6)), (al0, .inl (k 0, 34, .inl f10)), (s1, .inr (1, [.ref t1, a1_1, .int 0, .long 0, a1_4, .int 0, .int 0, .int 0, .int 0, .int 0]))]) (w1 := [(t1, .inr (2, [.ref fr1, .ref al1, b1_2, b1_3, .int 0, .int w62])), (fr1, .inl (k 0, 34, .inl f60)), (al1, .inl (k 0, 34, .inl g61))]) hP hD [17, 18, 19] [0, 1, 2, 3, 4, 5, 6, 7, 8, 9, 10, 11, 12, 13, 14, 15, 16] rfl rfl (by decide) (by decide) hk1 hFc hP1 hD1
          clear hP1 hD1
          generalize H1 = H at hP hS ⊢
          replace hP : va_P G vwCl [(h0, .inr (5, [.ref pl, .ref wl, x2, x3, x4, x5, x6, .int 0, x8, .int 0, x10, x11, x12, .int 0, x14, x15, x16, x17, x18])), (pl, .inl (k 3, 4, .inr (.inr (.inr (.inr f))))), (s2, .inr (1, [.ref t2, a2_1, a2_2, a2_3, a2_4, a2_5, a2_6, a2_7, a2_8, a2_9])), (t2, .inr (2, [.ref fr2, .ref al2, b2_2, b2_3, b2_4, b2_5])), (fr2, .inl (k 0, 34, .inl (fun _ => 0))), (al2, .inl (k 0, 34, .inl (fun _ => 0))), (s3, .inr (1, [.ref t3, a3_1, a3_2, a3_3, a3_4, a3_5, a3_6, a3_7, a3_8, a3_9])), (t3, .inr (2, [.ref fr3, .ref al3, b3_2, b3_3, b3_4, b3_5])), (fr3, .inl (k 0, 34, .inl (fun _ => 0))), (al3, .inl (k 0, 34, .inl (fun _ => 0))), (wl, .inr (3, [.ref wk, .int 1, .int 52, .int 0])), (wk, .inl (k 0, 136, .inl f2)), (s0, .inr (1, [.ref t0, a0_1, .int 0, .long 0, a0_4, .int 0, .int 0, .int 0, .int 0, .int 0])), (t0, .inr (2, [.ref fr0, .ref al0, b0_2, b0_3, .int 0, .int w9])), (fr0, .inl (k 0, 34, .inl f6)), (al0, .inl (k 0, 34, .inl f10)), (s1, .inr (1, [.ref t1, a1_1, .int 0, .long 0, a1_4, .int 0, .int 0, .int 0, .int 0, .int 0])), (t1, .inr (2, [.ref fr1, .ref al1, b1_2, b1_3, .int 0, .int w62])), (fr1, .inl (k 0, 34, .inl f60)), (al1, .inl (k 0, 34, .inl g61))] H := hP
          replace hD : va_D A [(h0, .inr (5, [.ref pl, .ref wl, x2, x3, x4, x5, x6, .int 0, x8, .int 0, x10, x11, x12, .int 0, x14, x15, x16, x17, x18])), (pl, .inl (k 3, 4, .inr (.inr (.inr (.inr f))))), (s2, .inr (1, [.ref t2, a2_1, a2_2, a2_3, a2_4, a2_5, a2_6, a2_7, a2_8, a2_9])), (t2, .inr (2, [.ref fr2, .ref al2, b2_2, b2_3, b2_4, b2_5])), (fr2, .inl (k 0, 34, .inl (fun _ => 0))), (al2, .inl (k 0, 34, .inl (fun _ => 0))), (s3, .inr (1, [.ref t3, a3_1, a3_2, a3_3, a3_4, a3_5, a3_6, a3_7, a3_8, a3_9])), (t3, .inr (2, [.ref fr3, .ref al3, b3_2, b3_3, b3_4, b3_5])), (fr3, .inl (k 0, 34, .inl (fun _ => 0))), (al3, .inl (k 0, 34, .inl (fun _ => 0))), (wl, .inr (3, [.ref wk, .int 1, .int 52, .int 0])), (wk, .inl (k 0, 136, .inl f2)), (s0, .inr (1, [.ref t0, a0_1, .int 0, .long 0, a0_4, .int 0, .int 0, .int 0, .int 0, .int 0])), (t0, .inr (2, [.ref fr0, .ref al0, b0_2, b0_3, .int 0, .int w9])), (fr0, .inl (k 0, 34, .inl f6)), (al0, .inl (k 0, 34, .inl f10)), (s1, .inr (1, [.ref t1, a1_1, .int 0, .long 0, a1_4, .int 0, .int 0, .int 0, .int 0, .int 0])), (t1, .inr (2, [.ref fr1, .ref al1, b1_2, b1_3, .int 0, .int w62])), (fr1, .inl (k 0, 34, .inl f60)), (al1, .inl (k 0, 34, .inl g61))] := hD
          obtain ⟨v63, ev63⟩ : ∃ y : Int32, y = (nI j17) + 1 := ⟨_, rfl⟩
          have nv63 : v63 = nI (j17 + 1) := by rw [ev63]; exact nI_add (j17) (1)
          refine lv_iinc (v := v63) (lv' := [(5, .int v63), (4, .ref s1), (3, .int 1), (0, .ref h0), (1, .long p0)]) hx hb dX6_deal_81 hl (k := 0) rfl (by rw [ev63]; rfl) (by decide) rfl (fun ls hl => ?_)
          refine lv_goto (tgt := 51) hx hb dX6_deal_84 (by decide) ?_
          exact ihj17 (j17 := j17 + 1) (hj17 := by omega) (hnj17 := by omega) (ls := ls) (hl := by rw [nI_succ, ← ev63]; exact lv_sub hl [0, 1, 2, 3, 4] rfl) (H := H) (locs := locs) (hP := hP.sub [0, 1, 2, 3, 4, 5, 6, 7, 8, 9, 10, 11, 12, 13, 14, 15, 16, 17, 18, 19] rfl) (hS := hS) (hD := hD.sub [0, 1, 2, 3, 4, 5, 6, 7, 8, 9, 10, 11, 12, 13, 14, 15, 16, 17, 18, 19] (by decide) rfl) (w18 := w62) (f15 := f60) (f19 := g61)
    · skip
      have hltj8 : j8 < 13 := Nat.lt_of_not_le (fun h9 => c11 (nI_le h9 (by omega)))
      refine lv_aload hx hb dX6_deal_58 (lv_at hl 1 rfl) ?_
      refine va_get (D := G) (ci := 1) (v := .ref t0) (C := RX2) (T := TX2) (N := 10) hx hb hts i_c_X6_deal0_X2 hown hK hP 16 rfl rfl 0 (by decide) (hts (.fieldLink RX6 72 "TileHouse$Seat" "tiles" "LTileHouse$Tiles;") (by decide +kernel)) (fun _ h9 => h9) rfl dX6_deal_60 ?_
      refine lv_aload_n hx hb dX6_deal_63 rfl (lv_at hl 3 rfl) ?_
      refine va_get (D := G) (ci := 5) (v := .ref wl) (C := RX6) (T := TX6) (N := 19) hx hb hts i_c_X6_deal0_X6 hown hK hP 0 rfl rfl 1 (by decide) (hts (.fieldLink RX6 18 "TileHouse" "bricks" "LTileHouse$Wall;") (by decide +kernel)) (fun _ h9 => h9) rfl dX6_deal_64 ?_
      refine lv_bipush (v := 13) hx hb dX6_deal_67 (by decide) ?_
      refine lv_iload_n hx hb dX6_deal_69 rfl (lv_at hl 2 rfl) ?_
      refine lv_imul hx hb dX6_deal_70 ?_
      refine lv_topi (fun z64 ez64 => ?_)
      obtain rfl : z64 = 0 := ez64.trans (by decide)
      refine lv_iload hx hb dX6_deal_71 (lv_at hl 0 rfl) ?_
      refine lv_iadd hx hb dX6_deal_73 ?_
      refine lv_topi (fun v65 ev65 => ?_)
      have nv65 : v65 = nI (0 + j8) := by rw [ev65]; exact nI_add (0) (j8)
      have hPc := hP.sub (ws' := [(wl, .inr (3, [.ref wk, .int 1, .int 52, .int 0])), (wk, .inl (k 0, 136, .inl f2))]) [14, 15] rfl
      refine q_calli (va_runV (As := [.int v65]) (rest := [.ref t0]) ⟨hx, hb, hml, hown, hts⟩ (c_X4_kindAt1 l G k wl wk f2 v65 (.int 52) (.int 0)) (cwV 1 hts g_c_X6_deal0_c_X4_kindAt1_75 rfl rfl rfl (by decide +kernel) ⟨Nat.le_of_ble_eq_true rfl, Nat.le_of_ble_eq_true rfl⟩) ⟨pr_bl, va_recv hK hPc (ci := 3) (q0 := 0) rfl rfl, pr_pre hPc hK hN⟩ rfl rfl hl.1 rfl (lv_room (Nat.le_of_ble_eq_true rfl)) dX6_deal_74 ⟨Nat.le_of_ble_eq_true rfl, Nat.le_of_ble_eq_true rfl⟩) (fun r66 hr66 => ?_)
      refine lv_iconst (v := 1) hx hb dX6_deal_77 (by decide) ?_
      have hPc := hP.sub (ws' := [(t0, .inr (2, [.ref fr0, .ref al0, b0_2, b0_3, .int 0, .int w9])), (fr0, .inl (k 0, 34, .inl f6)), (al0, .inl (k 0, 34, .inl f10))]) [17, 18, 19] rfl
      have hDc := hD.sub (ws' := [(t0, .inr (2, [.ref fr0, .ref al0, b0_2, b0_3, .int 0, .int w9])), (fr0, .inl (k 0, 34, .inl f6)), (al0, .inl (k 0, 34, .inl f10))]) [17, 18, 19] (by decide) rfl
      have hFc := va_free (wc := [(t0, .inr (2, [.ref fr0, .ref al0, b0_2, b0_3, .int 0, .int w9])), (fr0, .inl (k 0, 34, .inl f6)), (al0, .inl (k 0, 34, .inl f10))]) hD hS hA [17, 18, 19] rfl
      refine va_callv (va_runV (As := [.int r66, .int 1]) (rest := []) ⟨hx, hb, hml, hown, hts⟩ (c_X3_put l G k H.size t0 fr0 al0 f6 f10 w9 r66 1 (b0_2) (b0_3) (.int 0)) (cwV 2 hts g_c_X6_deal0_c_X3_put_79 rfl rfl rfl (by decide +kernel) ⟨Nat.le_of_ble_eq_true rfl, Nat.le_of_ble_eq_true rfl⟩) ⟨pq_bl, va_recv hK hPc (ci := 2) (q0 := 0) rfl rfl, pq_pre hPc hDc hK hN⟩ rfl rfl hl.1 rfl (lv_room (Nat.le_of_ble_eq_true rfl)) dX6_deal_78 ⟨Nat.le_of_ble_eq_true rfl, Nat.le_of_ble_eq_true rfl⟩) hS (fun q _ h => hFc q h) hFc (fun ur67 t H1 locs ht hvm hr67 hB hz1 hk1 hS => ?_)
      obtain ⟨f68, g69, w70⟩ := ur67
      obtain ⟨hP1, hD1⟩ := hB
      rw [ht] at hP1
      obtain ⟨hP, hD⟩ := va_join (wr := [(h0, .inr (5, [.ref pl, .ref wl, x2, x3, x4, x5, x6, .int 0, x8, .int 0, x10, x11, x12, .int 0, x14, x15, x16, x17, x18])), (pl, .inl (k 3, 4, .inr (.inr (.inr (.inr f))))), (s1, .inr (1, [.ref t1, a1_1, a1_2, a1_3, a1_4, a1_5, a1_6, a1_7, a1_8, a1_9])), (t1, .inr (2, [.ref fr1, .ref al1, b1_2, b1_3, b1_4, b1_5])), (fr1, .inl (k 0, 34, .inl (fun _ => 0))), (al1, .inl (k 0, 34, .inl (fun _ => 0))), (s2, .inr (1, [.ref t2, a2_1, a2_2, a2_3, a2_4, a2_5, a2_6, a2_7, a2_8, a2_9])), (t2, .inr (2, [.ref fr2, .ref al2, b2_2, b2_3, b2_4, b2_5])), (fr2, .inl (k 0, 34, .inl (fun _ => 0))), (al2, .inl (k 0, 34, .inl (fun _ => 0))), (s3, .inr (1, [.ref t3, a3_1, a3_2, a3_3, a3_4, a3_5, a3_6, a3_7, a3_8, a3_9])), (t3, .inr (2, [.ref fr3, .ref al3, b3_2, b3_3, b3_4, b3_5])), (fr3, .inl (k 0, 34, .inl (fun _ => 0))), (al3, .inl (k 0, 34, .inl (fun _ => 0))), (wl, .inr (3, [.ref wk, .int 1, .int 52, .int 0])), (wk, .inl (k 0, 136, .inl f2)), (s0, .inr (1, [.ref t0, a0_1, .int 0, .long 0, a0_4, .int 0, .int 0, .int 0, .int 0, .int 0]))]) (w1 := [(t0, .inr (2, [.ref fr0, .ref al0, b0_2, b0_3, .int 0, .int w70])), (fr0, .inl (k 0, 34, .inl f68)), (al0, .inl (k 0, 34, .inl g69))]) hP hD [17, 18, 19] [0, 1, 2, 3, 4, 5, 6, 7, 8, 9, 10, 11, 12, 13, 14, 15, 16] rfl rfl (by decide) (by decide) hk1 hFc hP1 hD1
      clear hP1 hD1
      generalize H1 = H at hP hS ⊢
      replace hP : va_P G vwCl [(h0, .inr (5, [.ref pl, .ref wl, x2, x3, x4, x5, x6, .int 0, x8, .int 0, x10, x11, x12, .int 0, x14, x15, x16, x17, x18])), (pl, .inl (k 3, 4, .inr (.inr (.inr (.inr f))))), (s1, .inr (1, [.ref t1, a1_1, a1_2, a1_3, a1_4, a1_5, a1_6, a1_7, a1_8, a1_9])), (t1, .inr (2, [.ref fr1, .ref al1, b1_2, b1_3, b1_4, b1_5])), (fr1, .inl (k 0, 34, .inl (fun _ => 0))), (al1, .inl (k 0, 34, .inl (fun _ => 0))), (s2, .inr (1, [.ref t2, a2_1, a2_2, a2_3, a2_4, a2_5, a2_6, a2_7, a2_8, a2_9])), (t2, .inr (2, [.ref fr2, .ref al2, b2_2, b2_3, b2_4, b2_5])), (fr2, .inl (k 0, 34, .inl (fun _ => 0))), (al2, .inl (k 0, 34, .inl (fun _ => 0))), (s3, .inr (1, [.ref t3, a3_1, a3_2, a3_3, a3_4, a3_5, a3_6, a3_7, a3_8, a3_9])), (t3, .inr (2, [.ref fr3, .ref al3, b3_2, b3_3, b3_4, b3_5])), (fr3, .inl (k 0, 34, .inl (fun _ => 0))), (al3, .inl (k 0, 34, .inl (fun _ => 0))), (wl, .inr (3, [.ref wk, .int 1, .int 52, .int 0])), (wk, .inl (k 0, 136, .inl f2)), (s0, .inr (1, [.ref t0, a0_1, .int 0, .long 0, a0_4, .int 0, .int 0, .int 0, .int 0, .int 0])), (t0, .inr (2, [.ref fr0, .ref al0, b0_2, b0_3, .int 0, .int w70])), (fr0, .inl (k 0, 34, .inl f68)), (al0, .inl (k 0, 34, .inl g69))] H := hP
      replace hD : va_D A [(h0, .inr (5, [.ref pl, .ref wl, x2, x3, x4, x5, x6, .int 0, x8, .int 0, x10, x11, x12, .int 0, x14, x15, x16, x17, x18])), (pl, .inl (k 3, 4, .inr (.inr (.inr (.inr f))))), (s1, .inr (1, [.ref t1, a1_1, a1_2, a1_3, a1_4, a1_5, a1_6, a1_7, a1_8, a1_9])), (t1, .inr (2, [.ref fr1, .ref al1, b1_2, b1_3, b1_4, b1_5])), (fr1, .inl (k 0, 34, .inl (fun _ => 0))), (al1, .inl (k 0, 34, .inl (fun _ => 0))), (s2, .inr (1, [.ref t2, a2_1, a2_2, a2_3, a2_4, a2_5, a2_6, a2_7, a2_8, a2_9])), (t2, .inr (2, [.ref fr2, .ref al2, b2_2, b2_3, b2_4, b2_5])), (fr2, .inl (k 0, 34, .inl (fun _ => 0))), (al2, .inl (k 0, 34, .inl (fun _ => 0))), (s3, .inr (1, [.ref t3, a3_1, a3_2, a3_3, a3_4, a3_5, a3_6, a3_7, a3_8, a3_9])), (t3, .inr (2, [.ref fr3, .ref al3, b3_2, b3_3, b3_4, b3_5])), (fr3, .inl (k 0, 34, .inl (fun _ => 0))), (al3, .inl (k 0, 34, .inl (fun _ => 0))), (wl, .inr (3, [.ref wk, .int 1, .int 52, .int 0])), (wk, .inl (k 0, 136, .inl f2)), (s0, .inr (1, [.ref t0, a0_1, .int 0, .long 0, a0_4, .int 0, .int 0, .int 0, .int 0, .int 0])), (t0, .inr (2, [.ref fr0, .ref al0, b0_2, b0_3, .int 0, .int w70])), (fr0, .inl (k 0, 34, .inl f68)), (al0, .inl (k 0, 34, .inl g69))] := hD
      obtain ⟨v71, ev71⟩ : ∃ y : Int32, y = (nI j8) + 1 := ⟨_, rfl⟩
      have nv71 : v71 = nI (j8 + 1) := by rw [ev71]; exact nI_add (j8) (1)
      refine lv_iinc (v := v71) (lv' := [(5, .int v71), (4, .ref s0), (3, .int 0), (0, .ref h0), (1, .long p0)]) hx hb dX6_deal_81 hl (k := 0) rfl (by rw [ev71]; rfl) (by decide) rfl (fun ls hl => ?_)
      refine lv_goto (tgt := 51) hx hb dX6_deal_84 (by decide) ?_
      exact ihj8 (j8 := j8 + 1) (hj8 := by omega) (hnj8 := by omega) (ls := ls) (hl := by rw [nI_succ, ← ev71]; exact lv_sub hl [0, 1, 2, 3, 4] rfl) (H := H) (locs := locs) (hP := hP.sub [0, 1, 2, 3, 4, 5, 6, 7, 8, 9, 10, 11, 12, 13, 14, 15, 16, 17, 18, 19] rfl) (hS := hS) (hD := hD.sub [0, 1, 2, 3, 4, 5, 6, 7, 8, 9, 10, 11, 12, 13, 14, 15, 16, 17, 18, 19] (by decide) rfl) (w9 := w70) (f6 := f68) (f10 := g69)
