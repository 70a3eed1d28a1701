theorem dX6_mayClaimSet_0 : decode cX6_mayClaimSet 0 = .ok (.aload_n 0, 1) := by decide +kernel
theorem dX6_mayClaimSet_1 : decode cX6_mayClaimSet 1 = .ok (.getfield 45, 3) := by decide +kernel
theorem dX6_mayClaimSet_4 : decode cX6_mayClaimSet 4 = .ok (.iconst 2, 1) := by decide +kernel
theorem dX6_mayClaimSet_5 : decode cX6_mayClaimSet 5 = .ok (.if_icmp .ne 50, 3) := by decide +kernel
theorem dX6_mayClaimSet_55 : decode cX6_mayClaimSet 55 = .ok (.iconst 0, 1) := by decide +kernel
theorem dX6_mayClaimSet_56 : decode cX6_mayClaimSet 56 = .ok (.ireturn, 1) := by decide +kernel
theorem dX6_mayMakeFour_0 : decode cX6_mayMakeFour 0 = .ok (.aload_n 0, 1) := by decide +kernel
theorem dX6_mayMakeFour_1 : decode cX6_mayMakeFour 1 = .ok (.getfield 45, 3) := by decide +kernel
theorem dX6_mayMakeFour_4 : decode cX6_mayMakeFour 4 = .ok (.iconst 1, 1) := by decide +kernel
theorem dX6_mayMakeFour_5 : decode cX6_mayMakeFour 5 = .ok (.if_icmp .ne 50, 3) := by decide +kernel
theorem dX6_mayMakeFour_55 : decode cX6_mayMakeFour 55 = .ok (.iconst 0, 1) := by decide +kernel
theorem dX6_mayMakeFour_56 : decode cX6_mayMakeFour 56 = .ok (.ireturn, 1) := by decide +kernel
theorem dX6_discard_0 : decode cX6_discard 0 = .ok (.aload_n 0, 1) := by decide +kernel
theorem dX6_discard_1 : decode cX6_discard 1 = .ok (.getfield 45, 3) := by decide +kernel
theorem dX6_discard_4 : decode cX6_discard 4 = .ok (.iconst 1, 1) := by decide +kernel
theorem dX6_discard_5 : decode cX6_discard 5 = .ok (.if_icmp .ne 11, 3) := by decide +kernel
theorem dX6_discard_16 : decode cX6_discard 16 = .ok (.iconst 0, 1) := by decide +kernel
theorem dX6_discard_17 : decode cX6_discard 17 = .ok (.ireturn, 1) := by decide +kernel
theorem dX6_pass_0 : decode cX6_pass 0 = .ok (.aload_n 0, 1) := by decide +kernel
theorem dX6_pass_1 : decode cX6_pass 1 = .ok (.getfield 45, 3) := by decide +kernel
theorem dX6_pass_4 : decode cX6_pass 4 = .ok (.iconst 2, 1) := by decide +kernel
theorem dX6_pass_5 : decode cX6_pass 5 = .ok (.if_icmp .eq 13, 3) := by decide +kernel
theorem dX6_pass_8 : decode cX6_pass 8 = .ok (.aload_n 0, 1) := by decide +kernel
theorem dX6_pass_9 : decode cX6_pass 9 = .ok (.getfield 45, 3) := by decide +kernel
theorem dX6_pass_12 : decode cX6_pass 12 = .ok (.iconst 3, 1) := by decide +kernel
theorem dX6_pass_13 : decode cX6_pass 13 = .ok (.if_icmp .eq 5, 3) := by decide +kernel
theorem dX6_pass_16 : decode cX6_pass 16 = .ok (.iconst 0, 1) := by decide +kernel
theorem dX6_pass_17 : decode cX6_pass 17 = .ok (.ireturn, 1) := by decide +kernel
theorem dX6_run_0 : decode cX6_run 0 = .ok (.aload_n 0, 1) := by decide +kernel
theorem dX6_run_1 : decode cX6_run 1 = .ok (.iload_n 1, 1) := by decide +kernel
theorem dX6_run_2 : decode cX6_run 2 = .ok (.invokevirtual 147, 3) := by decide +kernel
theorem dX6_run_5 : decode cX6_run 5 = .ok (.ifCond .eq 22, 3) := by decide +kernel
theorem dX6_run_27 : decode cX6_run 27 = .ok (.iconst 0, 1) := by decide +kernel
theorem dX6_run_28 : decode cX6_run 28 = .ok (.ireturn, 1) := by decide +kernel
theorem dX6_three_0 : decode cX6_three 0 = .ok (.aload_n 0, 1) := by decide +kernel
theorem dX6_three_1 : decode cX6_three 1 = .ok (.iload_n 1, 1) := by decide +kernel
theorem dX6_three_2 : decode cX6_three 2 = .ok (.invokevirtual 147, 3) := by decide +kernel
theorem dX6_three_5 : decode cX6_three 5 = .ok (.ifCond .eq 22, 3) := by decide +kernel
theorem dX6_three_27 : decode cX6_three 27 = .ok (.iconst 0, 1) := by decide +kernel
theorem dX6_three_28 : decode cX6_three 28 = .ok (.ireturn, 1) := by decide +kernel
theorem dX6_four_0 : decode cX6_four 0 = .ok (.aload_n 0, 1) := by decide +kernel
theorem dX6_four_1 : decode cX6_four 1 = .ok (.iload_n 1, 1) := by decide +kernel
theorem dX6_four_2 : decode cX6_four 2 = .ok (.invokevirtual 147, 3) := by decide +kernel
theorem dX6_four_5 : decode cX6_four 5 = .ok (.ifCond .eq 33, 3) := by decide +kernel
theorem dX6_four_38 : decode cX6_four 38 = .ok (.iconst 0, 1) := by decide +kernel
theorem dX6_four_39 : decode cX6_four 39 = .ok (.ireturn, 1) := by decide +kernel
theorem dX6_hide_0 : decode cX6_hide 0 = .ok (.aload_n 0, 1) := by decide +kernel
theorem dX6_hide_1 : decode cX6_hide 1 = .ok (.invokevirtual 178, 3) := by decide +kernel
theorem dX6_hide_4 : decode cX6_hide 4 = .ok (.ifCond .eq 22, 3) := by decide +kernel
theorem dX6_hide_26 : decode cX6_hide 26 = .ok (.iconst 0, 1) := by decide +kernel
theorem dX6_hide_27 : decode cX6_hide 27 = .ok (.ireturn, 1) := by decide +kernel
theorem dX6_add_0 : decode cX6_add 0 = .ok (.aload_n 0, 1) := by decide +kernel
theorem dX6_add_1 : decode cX6_add 1 = .ok (.invokevirtual 178, 3) := by decide +kernel
theorem dX6_add_4 : decode cX6_add 4 = .ok (.ifCond .eq 21, 3) := by decide +kernel
theorem dX6_add_25 : decode cX6_add 25 = .ok (.iconst 0, 1) := by decide +kernel
theorem dX6_add_26 : decode cX6_add 26 = .ok (.ireturn, 1) := by decide +kernel
theorem dX6_win_0 : decode cX6_win 0 = .ok (.aload_n 0, 1) := by decide +kernel
theorem dX6_win_1 : decode cX6_win 1 = .ok (.getfield 45, 3) := by decide +kernel
theorem dX6_win_4 : decode cX6_win 4 = .ok (.iconst 1, 1) := by decide +kernel
theorem dX6_win_5 : decode cX6_win 5 = .ok (.if_icmp .ne 23, 3) := by decide +kernel
theorem dX6_win_28 : decode cX6_win 28 = .ok (.iconst 0, 1) := by decide +kernel
theorem dX6_win_29 : decode cX6_win 29 = .ok (.ireturn, 1) := by decide +kernel
theorem dX6_claim_0 : decode cX6_claim 0 = .ok (.aload_n 0, 1) := by decide +kernel
theorem dX6_claim_1 : decode cX6_claim 1 = .ok (.getfield 45, 3) := by decide +kernel
theorem dX6_claim_4 : decode cX6_claim 4 = .ok (.iconst 2, 1) := by decide +kernel
theorem dX6_claim_5 : decode cX6_claim 5 = .ok (.if_icmp .eq 11, 3) := by decide +kernel
theorem dX6_claim_8 : decode cX6_claim 8 = .ok (.aload_n 0, 1) := by decide +kernel
theorem dX6_claim_9 : decode cX6_claim 9 = .ok (.getfield 45, 3) := by decide +kernel
theorem dX6_claim_12 : decode cX6_claim 12 = .ok (.iconst 3, 1) := by decide +kernel
theorem dX6_claim_13 : decode cX6_claim 13 = .ok (.if_icmp .ne 18, 3) := by decide +kernel
theorem dX6_claim_31 : decode cX6_claim 31 = .ok (.iconst 0, 1) := by decide +kernel
theorem dX6_claim_32 : decode cX6_claim 32 = .ok (.ireturn, 1) := by decide +kernel
theorem dX6_nine_0 : decode cX6_nine 0 = .ok (.aload_n 0, 1) := by decide +kernel
theorem dX6_nine_1 : decode cX6_nine 1 = .ok (.getfield 45, 3) := by decide +kernel
theorem dX6_nine_4 : decode cX6_nine 4 = .ok (.iconst 1, 1) := by decide +kernel
theorem dX6_nine_5 : decode cX6_nine 5 = .ok (.if_icmp .ne 24, 3) := by decide +kernel
theorem dX6_nine_29 : decode cX6_nine 29 = .ok (.iconst 0, 1) := by decide +kernel
theorem dX6_nine_30 : decode cX6_nine 30 = .ok (.ireturn, 1) := by decide +kernel
theorem dX6_hand_0 : decode cX6_hand 0 = .ok (.iload_n 1, 1) := by decide +kernel
theorem dX6_hand_1 : decode cX6_hand 1 = .ok (.invokestatic 213, 3) := by decide +kernel
theorem dX6_hand_4 : decode cX6_hand 4 = .ok (.ifCond .eq 18, 3) := by decide +kernel
theorem dX6_hand_7 : decode cX6_hand 7 = .ok (.aload_n 0, 1) := by decide +kernel
theorem dX6_hand_8 : decode cX6_hand 8 = .ok (.iload_n 1, 1) := by decide +kernel
theorem dX6_hand_9 : decode cX6_hand 9 = .ok (.invokevirtual 65, 3) := by decide +kernel
theorem dX6_hand_12 : decode cX6_hand 12 = .ok (.getfield 72, 3) := by decide +kernel
theorem dX6_hand_15 : decode cX6_hand 15 = .ok (.iload_n 2, 1) := by decide +kernel
theorem dX6_hand_16 : decode cX6_hand 16 = .ok (.invokevirtual 173, 3) := by decide +kernel
theorem dX6_hand_19 : decode cX6_hand 19 = .ok (.goto 4, 3) := by decide +kernel
theorem dX6_hand_23 : decode cX6_hand 23 = .ok (.ireturn, 1) := by decide +kernel
theorem dX6_hand_22 : decode cX6_hand 22 = .ok (.iconst 0, 1) := by decide +kernel
theorem dX6_laid_0 : decode cX6_laid 0 = .ok (.iload_n 1, 1) := by decide +kernel
theorem dX6_laid_1 : decode cX6_laid 1 = .ok (.invokestatic 213, 3) := by decide +kernel
theorem dX6_laid_4 : decode cX6_laid 4 = .ok (.ifCond .ne 5, 3) := by decide +kernel
theorem dX6_laid_9 : decode cX6_laid 9 = .ok (.aload_n 0, 1) := by decide +kernel
theorem dX6_laid_10 : decode cX6_laid 10 = .ok (.iload_n 1, 1) := by decide +kernel
theorem dX6_laid_11 : decode cX6_laid 11 = .ok (.invokevirtual 65, 3) := by decide +kernel
theorem dX6_laid_14 : decode cX6_laid 14 = .ok (.getfield 72, 3) := by decide +kernel
theorem dX6_laid_17 : decode cX6_laid 17 = .ok (.astore 4, 2) := by decide +kernel
theorem dX6_laid_19 : decode cX6_laid 19 = .ok (.iload_n 2, 1) := by decide +kernel
theorem dX6_laid_20 : decode cX6_laid 20 = .ok (.ifCond .lt 17, 3) := by decide +kernel
theorem dX6_laid_37 : decode cX6_laid 37 = .ok (.iconst (-1), 1) := by decide +kernel
theorem dX6_laid_38 : decode cX6_laid 38 = .ok (.ireturn, 1) := by decide +kernel
theorem dX6_laid_23 : decode cX6_laid 23 = .ok (.iload_n 2, 1) := by decide +kernel
theorem dX6_laid_24 : decode cX6_laid 24 = .ok (.aload 4, 2) := by decide +kernel
theorem dX6_laid_26 : decode cX6_laid 26 = .ok (.getfield 244, 3) := by decide +kernel
theorem dX6_laid_29 : decode cX6_laid 29 = .ok (.if_icmp .ge 8, 3) := by decide +kernel
theorem dX6_laid_7 : decode cX6_laid 7 = .ok (.iconst (-1), 1) := by decide +kernel
theorem dX6_laid_8 : decode cX6_laid 8 = .ok (.ireturn, 1) := by decide +kernel
theorem dX3_waitsFor_0 : decode cX3_waitsFor 0 = .ok (.aload_n 0, 1) := by decide +kernel
theorem dX3_waitsFor_1 : decode cX3_waitsFor 1 = .ok (.invokevirtual 48, 3) := by decide +kernel
theorem dX3_waitsFor_4 : decode cX3_waitsFor 4 = .ok (.bipush 13, 2) := by decide +kernel
theorem dX3_waitsFor_6 : decode cX3_waitsFor 6 = .ok (.if_icmp .ne 20, 3) := by decide +kernel
theorem dX3_waitsFor_26 : decode cX3_waitsFor 26 = .ok (.iconst 0, 1) := by decide +kernel
theorem dX3_waitsFor_27 : decode cX3_waitsFor 27 = .ok (.ireturn, 1) := by decide +kernel
theorem dX3_waiting_0 : decode cX3_waiting 0 = .ok (.lconst 0, 1) := by decide +kernel
theorem dX3_waiting_1 : decode cX3_waiting 1 = .ok (.lstore_n 1, 1) := by decide +kernel
theorem dX3_waiting_2 : decode cX3_waiting 2 = .ok (.iconst 0, 1) := by decide +kernel
theorem dX3_waiting_3 : decode cX3_waiting 3 = .ok (.istore_n 3, 1) := by decide +kernel
theorem dX3_waiting_4 : decode cX3_waiting 4 = .ok (.iload_n 3, 1) := by decide +kernel
theorem dX3_waiting_5 : decode cX3_waiting 5 = .ok (.bipush 34, 2) := by decide +kernel
theorem dX3_waiting_7 : decode cX3_waiting 7 = .ok (.if_icmp .ge 23, 3) := by decide +kernel
theorem dX3_waiting_30 : decode cX3_waiting 30 = .ok (.lload_n 1, 1) := by decide +kernel
theorem dX3_waiting_31 : decode cX3_waiting 31 = .ok (.lreturn, 1) := by decide +kernel
theorem dX3_waiting_10 : decode cX3_waiting 10 = .ok (.aload_n 0, 1) := by decide +kernel
theorem dX3_waiting_11 : decode cX3_waiting 11 = .ok (.iload_n 3, 1) := by decide +kernel
theorem dX3_waiting_12 : decode cX3_waiting 12 = .ok (.invokevirtual 45, 3) := by decide +kernel
theorem dX3_waiting_15 : decode cX3_waiting 15 = .ok (.ifCond .eq 9, 3) := by decide +kernel
theorem dX3_waiting_24 : decode cX3_waiting 24 = .ok (.iinc 3 1, 3) := by decide +kernel
theorem dX3_waiting_27 : decode cX3_waiting 27 = .ok (.goto (-23), 3) := by decide +kernel
theorem dX6_waits_0 : decode cX6_waits 0 = .ok (.iload_n 1, 1) := by decide +kernel
theorem dX6_waits_1 : decode cX6_waits 1 = .ok (.invokestatic 213, 3) := by decide +kernel
theorem dX6_waits_4 : decode cX6_waits 4 = .ok (.ifCond .eq 17, 3) := by decide +kernel
theorem dX6_waits_7 : decode cX6_waits 7 = .ok (.aload_n 0, 1) := by decide +kernel
theorem dX6_waits_8 : decode cX6_waits 8 = .ok (.iload_n 1, 1) := by decide +kernel
theorem dX6_waits_9 : decode cX6_waits 9 = .ok (.invokevirtual 65, 3) := by decide +kernel
theorem dX6_waits_12 : decode cX6_waits 12 = .ok (.getfield 72, 3) := by decide +kernel
theorem dX6_waits_15 : decode cX6_waits 15 = .ok (.invokevirtual 222, 3) := by decide +kernel
theorem dX6_waits_18 : decode cX6_waits 18 = .ok (.goto 4, 3) := by decide +kernel
theorem dX6_waits_22 : decode cX6_waits 22 = .ok (.lreturn, 1) := by decide +kernel
theorem dX6_waits_21 : decode cX6_waits 21 = .ok (.lconst 0, 1) := by decide +kernel
theorem dX6_seat_0 : decode cX6_seat 0 = .ok (.iload_n 1, 1) := by decide +kernel
theorem dX6_seat_1 : decode cX6_seat 1 = .ok (.invokestatic 213, 3) := by decide +kernel
theorem dX6_seat_4 : decode cX6_seat 4 = .ok (.ifCond .ne 5, 3) := by decide +kernel
theorem dX6_seat_9 : decode cX6_seat 9 = .ok (.aload_n 0, 1) := by decide +kernel
theorem dX6_seat_10 : decode cX6_seat 10 = .ok (.iload_n 1, 1) := by decide +kernel
theorem dX6_seat_11 : decode cX6_seat 11 = .ok (.invokevirtual 65, 3) := by decide +kernel
theorem dX6_seat_14 : decode cX6_seat 14 = .ok (.astore_n 3, 1) := by decide +kernel
theorem dX6_seat_15 : decode cX6_seat 15 = .ok (.iload_n 2, 1) := by decide +kernel
theorem dX6_seat_16 : decode cX6_seat 16 = .ok (.tableswitch 119 0 7 #[48, 53, 58, 71, 77, 82, 90, 106], 48) := by decide +kernel
theorem dX6_seat_135 : decode cX6_seat 135 = .ok (.iconst (-1), 1) := by decide +kernel
theorem dX6_seat_136 : decode cX6_seat 136 = .ok (.ireturn, 1) := by decide +kernel
theorem dX6_seat_64 : decode cX6_seat 64 = .ok (.aload_n 3, 1) := by decide +kernel
theorem dX6_seat_65 : decode cX6_seat 65 = .ok (.getfield 203, 3) := by decide +kernel
theorem dX6_seat_68 : decode cX6_seat 68 = .ok (.ireturn, 1) := by decide +kernel
theorem dX6_seat_69 : decode cX6_seat 69 = .ok (.aload_n 3, 1) := by decide +kernel
theorem dX6_seat_70 : decode cX6_seat 70 = .ok (.getfield 110, 3) := by decide +kernel
theorem dX6_seat_73 : decode cX6_seat 73 = .ok (.ireturn, 1) := by decide +kernel
theorem dX6_seat_74 : decode cX6_seat 74 = .ok (.aload_n 3, 1) := by decide +kernel
theorem dX6_seat_75 : decode cX6_seat 75 = .ok (.getfield 219, 3) := by decide +kernel
theorem dX6_seat_78 : decode cX6_seat 78 = .ok (.ifCond .eq 7, 3) := by decide +kernel
theorem dX6_seat_85 : decode cX6_seat 85 = .ok (.iconst 0, 1) := by decide +kernel
theorem dX6_seat_86 : decode cX6_seat 86 = .ok (.ireturn, 1) := by decide +kernel
theorem dX6_seat_87 : decode cX6_seat 87 = .ok (.aload_n 0, 1) := by decide +kernel
theorem dX6_seat_88 : decode cX6_seat 88 = .ok (.iload_n 1, 1) := by decide +kernel
theorem dX6_seat_89 : decode cX6_seat 89 = .ok (.invokevirtual 263, 3) := by decide +kernel
theorem dX6_seat_92 : decode cX6_seat 92 = .ok (.ireturn, 1) := by decide +kernel
theorem dX6_seat_93 : decode cX6_seat 93 = .ok (.aload_n 3, 1) := by decide +kernel
theorem dX6_seat_94 : decode cX6_seat 94 = .ok (.getfield 107, 3) := by decide +kernel
theorem dX6_seat_97 : decode cX6_seat 97 = .ok (.ireturn, 1) := by decide +kernel
theorem dX6_seat_98 : decode cX6_seat 98 = .ok (.aload_n 3, 1) := by decide +kernel
theorem dX6_seat_99 : decode cX6_seat 99 = .ok (.getfield 72, 3) := by decide +kernel
theorem dX6_seat_102 : decode cX6_seat 102 = .ok (.getfield 244, 3) := by decide +kernel
theorem dX6_seat_105 : decode cX6_seat 105 = .ok (.ireturn, 1) := by decide +kernel
theorem dX6_seat_106 : decode cX6_seat 106 = .ok (.aload_n 3, 1) := by decide +kernel
theorem dX6_seat_107 : decode cX6_seat 107 = .ok (.getfield 72, 3) := by decide +kernel
theorem dX6_seat_110 : decode cX6_seat 110 = .ok (.invokevirtual 266, 3) := by decide +kernel
theorem dX6_seat_113 : decode cX6_seat 113 = .ok (.ifCond .eq 7, 3) := by decide +kernel
theorem dX6_seat_120 : decode cX6_seat 120 = .ok (.iconst 0, 1) := by decide +kernel
theorem dX6_seat_121 : decode cX6_seat 121 = .ok (.ireturn, 1) := by decide +kernel
theorem dX6_seat_122 : decode cX6_seat 122 = .ok (.aload_n 3, 1) := by decide +kernel
theorem dX6_seat_123 : decode cX6_seat 123 = .ok (.getfield 216, 3) := by decide +kernel
theorem dX6_seat_126 : decode cX6_seat 126 = .ok (.ifCond .eq 7, 3) := by decide +kernel
theorem dX6_seat_133 : decode cX6_seat 133 = .ok (.iconst 0, 1) := by decide +kernel
theorem dX6_seat_134 : decode cX6_seat 134 = .ok (.ireturn, 1) := by decide +kernel
theorem dX6_seat_7 : decode cX6_seat 7 = .ok (.iconst (-1), 1) := by decide +kernel
theorem dX6_seat_8 : decode cX6_seat 8 = .ok (.ireturn, 1) := by decide +kernel
theorem dX6_won_0 : decode cX6_won 0 = .ok (.aload_n 0, 1) := by decide +kernel
theorem dX6_won_1 : decode cX6_won 1 = .ok (.iload_n 1, 1) := by decide +kernel
theorem dX6_won_2 : decode cX6_won 2 = .ok (.invokevirtual 269, 3) := by decide +kernel
theorem dX6_won_5 : decode cX6_won 5 = .ok (.ifCond .eq 16, 3) := by decide +kernel
theorem dX6_won_21 : decode cX6_won 21 = .ok (.iconst (-1), 1) := by decide +kernel
theorem dX6_won_22 : decode cX6_won 22 = .ok (.ireturn, 1) := by decide +kernel
theorem dX6_forms_0 : decode cX6_forms 0 = .ok (.aload_n 0, 1) := by decide +kernel
theorem dX6_forms_1 : decode cX6_forms 1 = .ok (.iload_n 1, 1) := by decide +kernel
theorem dX6_forms_2 : decode cX6_forms 2 = .ok (.invokevirtual 269, 3) := by decide +kernel
theorem dX6_forms_5 : decode cX6_forms 5 = .ok (.ifCond .eq 15, 3) := by decide +kernel
theorem dX6_forms_20 : decode cX6_forms 20 = .ok (.lconst 0, 1) := by decide +kernel
theorem dX6_forms_21 : decode cX6_forms 21 = .ok (.lreturn, 1) := by decide +kernel
theorem dX6_count_0 : decode cX6_count 0 = .ok (.iload_n 1, 1) := by decide +kernel
theorem dX6_count_1 : decode cX6_count 1 = .ok (.tableswitch 171 0 12 #[67, 72, 88, 93, 98, 103, 108, 116, 124, 132, 145, 150, 155], 67) := by decide +kernel
theorem dX6_count_172 : decode cX6_count 172 = .ok (.iconst (-1), 1) := by decide +kernel
theorem dX6_count_173 : decode cX6_count 173 = .ok (.ireturn, 1) := by decide +kernel
theorem dX6_count_68 : decode cX6_count 68 = .ok (.aload_n 0, 1) := by decide +kernel
theorem dX6_count_69 : decode cX6_count 69 = .ok (.getfield 45, 3) := by decide +kernel
theorem dX6_count_72 : decode cX6_count 72 = .ok (.ireturn, 1) := by decide +kernel
theorem dX6_count_73 : decode cX6_count 73 = .ok (.aload_n 0, 1) := by decide +kernel
theorem dX6_count_74 : decode cX6_count 74 = .ok (.getfield 45, 3) := by decide +kernel
theorem dX6_count_77 : decode cX6_count 77 = .ok (.ifCond .ne 7, 3) := by decide +kernel
theorem dX6_count_80 : decode cX6_count 80 = .ok (.iconst (-1), 1) := by decide +kernel
theorem dX6_count_81 : decode cX6_count 81 = .ok (.goto 7, 3) := by decide +kernel
theorem dX6_count_88 : decode cX6_count 88 = .ok (.ireturn, 1) := by decide +kernel
theorem dX6_count_89 : decode cX6_count 89 = .ok (.aload_n 0, 1) := by decide +kernel
theorem dX6_count_90 : decode cX6_count 90 = .ok (.getfield 62, 3) := by decide +kernel
theorem dX6_count_93 : decode cX6_count 93 = .ok (.ireturn, 1) := by decide +kernel
theorem dX6_count_94 : decode cX6_count 94 = .ok (.aload_n 0, 1) := by decide +kernel
theorem dX6_count_95 : decode cX6_count 95 = .ok (.getfield 278, 3) := by decide +kernel
theorem dX6_count_98 : decode cX6_count 98 = .ok (.ireturn, 1) := by decide +kernel
theorem dX6_count_99 : decode cX6_count 99 = .ok (.aload_n 0, 1) := by decide +kernel
theorem dX6_count_100 : decode cX6_count 100 = .ok (.getfield 200, 3) := by decide +kernel
theorem dX6_count_103 : decode cX6_count 103 = .ok (.ireturn, 1) := by decide +kernel
theorem dX6_count_104 : decode cX6_count 104 = .ok (.aload_n 0, 1) := by decide +kernel
theorem dX6_count_105 : decode cX6_count 105 = .ok (.getfield 191, 3) := by decide +kernel
theorem dX6_count_108 : decode cX6_count 108 = .ok (.ireturn, 1) := by decide +kernel
theorem dX6_count_109 : decode cX6_count 109 = .ok (.aload_n 0, 1) := by decide +kernel
theorem dX6_count_110 : decode cX6_count 110 = .ok (.getfield 18, 3) := by decide +kernel
theorem dX6_count_113 : decode cX6_count 113 = .ok (.invokevirtual 140, 3) := by decide +kernel
theorem dX6_count_116 : decode cX6_count 116 = .ok (.ireturn, 1) := by decide +kernel
theorem dX6_count_117 : decode cX6_count 117 = .ok (.aload_n 0, 1) := by decide +kernel
theorem dX6_count_118 : decode cX6_count 118 = .ok (.getfield 18, 3) := by decide +kernel
theorem dX6_count_121 : decode cX6_count 121 = .ok (.getfield 175, 3) := by decide +kernel
theorem dX6_count_124 : decode cX6_count 124 = .ok (.ireturn, 1) := by decide +kernel
theorem dX6_count_125 : decode cX6_count 125 = .ok (.aload_n 0, 1) := by decide +kernel
theorem dX6_count_126 : decode cX6_count 126 = .ok (.getfield 18, 3) := by decide +kernel
theorem dX6_count_129 : decode cX6_count 129 = .ok (.invokevirtual 281, 3) := by decide +kernel
theorem dX6_count_132 : decode cX6_count 132 = .ok (.ireturn, 1) := by decide +kernel
theorem dX6_count_133 : decode cX6_count 133 = .ok (.aload_n 0, 1) := by decide +kernel
theorem dX6_count_134 : decode cX6_count 134 = .ok (.getfield 54, 3) := by decide +kernel
theorem dX6_count_137 : decode cX6_count 137 = .ok (.ifCond .eq 7, 3) := by decide +kernel
theorem dX6_count_144 : decode cX6_count 144 = .ok (.iconst 0, 1) := by decide +kernel
theorem dX6_count_145 : decode cX6_count 145 = .ok (.ireturn, 1) := by decide +kernel
theorem dX6_count_146 : decode cX6_count 146 = .ok (.aload_n 0, 1) := by decide +kernel
theorem dX6_count_147 : decode cX6_count 147 = .ok (.getfield 284, 3) := by decide +kernel
theorem dX6_count_150 : decode cX6_count 150 = .ok (.ireturn, 1) := by decide +kernel
theorem dX6_count_151 : decode cX6_count 151 = .ok (.aload_n 0, 1) := by decide +kernel
theorem dX6_count_152 : decode cX6_count 152 = .ok (.getfield 83, 3) := by decide +kernel
theorem dX6_count_155 : decode cX6_count 155 = .ok (.ireturn, 1) := by decide +kernel
theorem dX6_count_156 : decode cX6_count 156 = .ok (.aload_n 0, 1) := by decide +kernel
theorem dX6_count_157 : decode cX6_count 157 = .ok (.getfield 45, 3) := by decide +kernel
theorem dX6_count_160 : decode cX6_count 160 = .ok (.ifCond .ne 7, 3) := by decide +kernel
theorem dX6_count_163 : decode cX6_count 163 = .ok (.iconst (-1), 1) := by decide +kernel
theorem dX6_count_164 : decode cX6_count 164 = .ok (.goto 7, 3) := by decide +kernel
theorem dX6_count_171 : decode cX6_count 171 = .ok (.ireturn, 1) := by decide +kernel
theorem dX6_desk_0 : decode cX6_desk 0 = .ok (.iload_n 1, 1) := by decide +kernel
theorem dX6_desk_1 : decode cX6_desk 1 = .ok (.tableswitch 63 0 3 #[31, 39, 47, 55], 31) := by decide +kernel
theorem dX6_desk_64 : decode cX6_desk 64 = .ok (.iconst (-1), 1) := by decide +kernel
theorem dX6_desk_65 : decode cX6_desk 65 = .ok (.ireturn, 1) := by decide +kernel
theorem dX6_desk_32 : decode cX6_desk 32 = .ok (.aload_n 0, 1) := by decide +kernel
theorem dX6_desk_33 : decode cX6_desk 33 = .ok (.getfield 42, 3) := by decide +kernel
theorem dX6_desk_36 : decode cX6_desk 36 = .ok (.getfield 194, 3) := by decide +kernel
theorem dX6_desk_39 : decode cX6_desk 39 = .ok (.ireturn, 1) := by decide +kernel
theorem dX6_desk_40 : decode cX6_desk 40 = .ok (.aload_n 0, 1) := by decide +kernel
theorem dX6_desk_41 : decode cX6_desk 41 = .ok (.getfield 42, 3) := by decide +kernel
theorem dX6_desk_44 : decode cX6_desk 44 = .ok (.getfield 307, 3) := by decide +kernel
theorem dX6_desk_47 : decode cX6_desk 47 = .ok (.ireturn, 1) := by decide +kernel
theorem dX6_desk_48 : decode cX6_desk 48 = .ok (.aload_n 0, 1) := by decide +kernel
theorem dX6_desk_49 : decode cX6_desk 49 = .ok (.getfield 42, 3) := by decide +kernel
theorem dX6_desk_52 : decode cX6_desk 52 = .ok (.getfield 310, 3) := by decide +kernel
theorem dX6_desk_55 : decode cX6_desk 55 = .ok (.ireturn, 1) := by decide +kernel
theorem dX6_desk_56 : decode cX6_desk 56 = .ok (.aload_n 0, 1) := by decide +kernel
theorem dX6_desk_57 : decode cX6_desk 57 = .ok (.getfield 42, 3) := by decide +kernel
theorem dX6_desk_60 : decode cX6_desk 60 = .ok (.getfield 313, 3) := by decide +kernel
theorem dX6_desk_63 : decode cX6_desk 63 = .ok (.ireturn, 1) := by decide +kernel
theorem dX6_deskForms_0 : decode cX6_deskForms 0 = .ok (.aload_n 0, 1) := by decide +kernel
theorem dX6_deskForms_1 : decode cX6_deskForms 1 = .ok (.getfield 42, 3) := by decide +kernel
theorem dX6_deskForms_4 : decode cX6_deskForms 4 = .ok (.getfield 316, 3) := by decide +kernel
theorem dX6_deskForms_7 : decode cX6_deskForms 7 = .ok (.lreturn, 1) := by decide +kernel
theorem dX6_deskWaits_0 : decode cX6_deskWaits 0 = .ok (.aload_n 0, 1) := by decide +kernel
theorem dX6_deskWaits_1 : decode cX6_deskWaits 1 = .ok (.getfield 38, 3) := by decide +kernel
theorem dX6_deskWaits_4 : decode cX6_deskWaits 4 = .ok (.invokevirtual 222, 3) := by decide +kernel
theorem dX6_deskWaits_7 : decode cX6_deskWaits 7 = .ok (.lreturn, 1) := by decide +kernel
def v_c_X6_mayClaimSet0 : List Cond := .code yX6_mayClaimSet cX6_mayClaimSet 2 (some .boolean) :: ([.fieldLink RX6 45 "TileHouse" "phase" "I"] ++ (wsX60 ++ ([])))
theorem vg_c_X6_mayClaimSet0 : ∀ w ∈ v_c_X6_mayClaimSet0, goodWord w = true := vg_c (c := .code yX6_mayClaimSet cX6_mayClaimSet 2 (some .boolean)) (l := [.fieldLink RX6 45 "TileHouse" "phase" "I"]) (by decide +kernel) (vg_a vgX6 (vg_nil))
theorem i_c_X6_mayClaimSet0_X6 : ∀ w ∈ u_ws RX6 TX6 19, w ∈ v_c_X6_mayClaimSet0 := fun _ h => List.mem_cons_of_mem _ (List.mem_append_right _ (List.mem_append_left _ h))
set_option maxHeartbeats 4000000 in
set_option maxRecDepth 100000 in
theorem c_X6_mayClaimSet0 (l : Launch) (G : va_G) (k : Nat → ClassId) (h0 : Nat) (p0 : Int32) (x0 : Value) (x1 : Value) (x2 : Value) (x3 : Value) (x4 : Value) (x5 : Value) (x6 : Value) (x8 : Value) (x9 : Value) (x10 : Value) (x11 : Value) (x12 : Value) (x13 : Value) (x14 : Value) (x15 : Value) (x16 : Value) (x17 : Value) (x18 : Value) : Met l yX6_mayClaimSet v_c_X6_mayClaimSet0 ({ frames := 0, cells := 0, slots := 0, locals := 0 }) (va_Pc [.ref h0, .int p0] (pr G k [(h0, .inr (5, [x0, x1, x2, x3, x4, x5, x6, .int 0, x8, x9, x10, x11, x12, x13, x14, x15, x16, x17, x18]))])) (vp_Si (fun r => r = 0)) 0 0 (fun _ => False) := by
  refine Met.ofW (cc := cX6_mayClaimSet) (maxL := 2) (ret := (some .boolean)) (by decide) rfl ?_
  intro p e s m args below meth c s₁ B hml hv
  obtain ⟨rfl, hP, hK, hN⟩ := hv
  have hx := B.exec
  have hb := B.bytes
  have hr := B.returns
  have hts := atoms_spec (ws := v_c_X6_mayClaimSet0) B.pre
  have hown : s.vm.findClass RX6 = some m.cls := findClass_of_methodNamed B.named
  have hlocks := B.notSynchronized
  have hl := lv_entry ([.ref h0, .int p0]) (n := 2) (Nat.le_of_ble_eq_true rfl)
  rw [lg_entry_eq]
  generalize (lg_sl ([.ref h0, .int p0]) ++ List.replicate (2 - (lg_sl ([.ref h0, .int p0])).length) Slot.unset).toArray = ls at hl ⊢
  have hl : lv_has ls 2 [(0, .ref h0), (1, .int p0)] := hl
  refine lv_aload_n hx hb dX6_mayClaimSet_0 rfl (lv_at hl 0 rfl) ?_
  refine va_get (D := G) (ci := 5) (v := .int 0) (C := RX6) (T := TX6) (N := 19) hx hb hts i_c_X6_mayClaimSet0_X6 hown hK hP 0 rfl rfl 7 (by decide) (hts (.fieldLink RX6 45 "TileHouse" "phase" "I") (by decide +kernel)) (fun _ h9 => h9) rfl dX6_mayClaimSet_1 ?_
  refine lv_iconst (v := 2) hx hb dX6_mayClaimSet_4 (by decide) ?_
  refine lv_icmp_ne (tgt := 55) hx hb dX6_mayClaimSet_5 (by decide) (fun _ => ?_) (fun c9 => absurd c9 (by decide))
  refine lv_iconst (v := 0) hx hb dX6_mayClaimSet_55 (by decide) ?_
  exact W.zret (v := 0) hx hb hr rfl (fun t ht hW => ⟨0, rfl, rfl, ht⟩) (fun _ h => by cases h) dX6_mayClaimSet_56
def v_c_X6_mayMakeFour0 : List Cond := .code yX6_mayMakeFour cX6_mayMakeFour 1 (some .boolean) :: ([.fieldLink RX6 45 "TileHouse" "phase" "I"] ++ (wsX60 ++ ([])))
theorem vg_c_X6_mayMakeFour0 : ∀ w ∈ v_c_X6_mayMakeFour0, goodWord w = true := vg_c (c := .code yX6_mayMakeFour cX6_mayMakeFour 1 (some .boolean)) (l := [.fieldLink RX6 45 "TileHouse" "phase" "I"]) (by decide +kernel) (vg_a vgX6 (vg_nil))
theorem i_c_X6_mayMakeFour0_X6 : ∀ w ∈ u_ws RX6 TX6 19, w ∈ v_c_X6_mayMakeFour0 := fun _ h => List.mem_cons_of_mem _ (List.mem_append_right _ (List.mem_append_left _ h))
set_option maxHeartbeats 4000000 in
set_option maxRecDepth 100000 in
theorem c_X6_mayMakeFour0 (l : Launch) (G : va_G) (k : Nat → ClassId) (h0 : Nat) (x0 : Value) (x1 : Value) (x2 : Value) (x3 : Value) (x4 : Value) (x5 : Value) (x6 : Value) (x8 : Value) (x9 : Value) (x10 : Value) (x11 : Value) (x12 : Value) (x13 : Value) (x14 : Value) (x15 : Value) (x16 : Value) (x17 : Value) (x18 : Value) : Met l yX6_mayMakeFour v_c_X6_mayMakeFour0 ({ frames := 0, cells := 0, slots := 0, locals := 0 }) (va_Pc [.ref h0] (pr G k [(h0, .inr (5, [x0, x1, x2, x3, x4, x5, x6, .int 0, x8, x9, x10, x11, x12, x13, x14, x15, x16, x17, x18]))])) (vp_Si (fun r => r = 0)) 0 0 (fun _ => False) := by
  refine Met.ofW (cc := cX6_mayMakeFour) (maxL := 1) (ret := (some .boolean)) (by decide) rfl ?_
  intro p e s m args below meth c s₁ B hml hv
  obtain ⟨rfl, hP, hK, hN⟩ := hv
  have hx := B.exec
  have hb := B.bytes
  have hr := B.returns
  have hts := atoms_spec (ws := v_c_X6_mayMakeFour0) B.pre
  have hown : s.vm.findClass RX6 = some m.cls := findClass_of_methodNamed B.named
  have hlocks := B.notSynchronized
  have hl := lv_entry ([.ref h0]) (n := 1) (Nat.le_of_ble_eq_true rfl)
  rw [lg_entry_eq]
  generalize (lg_sl ([.ref h0]) ++ List.replicate (1 - (lg_sl ([.ref h0])).length) Slot.unset).toArray = ls at hl ⊢
  have hl : lv_has ls 1 [(0, .ref h0)] := hl
  refine lv_aload_n hx hb dX6_mayMakeFour_0 rfl (lv_at hl 0 rfl) ?_
  refine va_get (D := G) (ci := 5) (v := .int 0) (C := RX6) (T := TX6) (N := 19) hx hb hts i_c_X6_mayMakeFour0_X6 hown hK hP 0 rfl rfl 7 (by decide) (hts (.fieldLink RX6 45 "TileHouse" "phase" "I") (by decide +kernel)) (fun _ h9 => h9) rfl dX6_mayMakeFour_1 ?_
  refine lv_iconst (v := 1) hx hb dX6_mayMakeFour_4 (by decide) ?_
  refine lv_icmp_ne (tgt := 55) hx hb dX6_mayMakeFour_5 (by decide) (fun _ => ?_) (fun c9 => absurd c9 (by decide))
  refine lv_iconst (v := 0) hx hb dX6_mayMakeFour_55 (by decide) ?_
  exact W.zret (v := 0) hx hb hr rfl (fun t ht hW => ⟨0, rfl, rfl, ht⟩) (fun _ h => by cases h) dX6_mayMakeFour_56
def v_c_X6_discard0 : List Cond := .code yX6_discard cX6_discard 4 (some .boolean) :: ([.fieldLink RX6 45 "TileHouse" "phase" "I"] ++ (wsX60 ++ ([])))
theorem vg_c_X6_discard0 : ∀ w ∈ v_c_X6_discard0, goodWord w = true := vg_c (c := .code yX6_discard cX6_discard 4 (some .boolean)) (l := [.fieldLink RX6 45 "TileHouse" "phase" "I"]) (by decide +kernel) (vg_a vgX6 (vg_nil))
theorem i_c_X6_discard0_X6 : ∀ w ∈ u_ws RX6 TX6 19, w ∈ v_c_X6_discard0 := fun _ h => List.mem_cons_of_mem _ (List.mem_append_right _ (List.mem_append_left _ h))
set_option maxHeartbeats 4000000 in
set_option maxRecDepth 100000 in
theorem c_X6_discard0 (l : Launch) (G : va_G) (k : Nat → ClassId) (h0 : Nat) (p0 : Int32) (p1 : Int32) (x0 : Value) (x1 : Value) (x2 : Value) (x3 : Value) (x4 : Value) (x5 : Value) (x6 : Value) (x8 : Value) (x9 : Value) (x10 : Value) (x11 : Value) (x12 : Value) (x13 : Value) (x14 : Value) (x15 : Value) (x16 : Value) (x17 : Value) (x18 : Value) : Met l yX6_discard v_c_X6_discard0 ({ frames := 0, cells := 0, slots := 0, locals := 0 }) (va_Pc [.ref h0, .int p0, .int p1] (pr G k [(h0, .inr (5, [x0, x1, x2, x3, x4, x5, x6, .int 0, x8, x9, x10, x11, x12, x13, x14, x15, x16, x17, x18]))])) (vp_Si (fun r => r = 0)) 0 0 (fun _ => False) := by
  refine Met.ofW (cc := cX6_discard) (maxL := 4) (ret := (some .boolean)) (by decide) rfl ?_
  intro p e s m args below meth c s₁ B hml hv
  obtain ⟨rfl, hP, hK, hN⟩ := hv
  have hx := B.exec
  have hb := B.bytes
  have hr := B.returns
  have hts := atoms_spec (ws := v_c_X6_discard0) B.pre
  have hown : s.vm.findClass RX6 = some m.cls := findClass_of_methodNamed B.named
  have hlocks := B.notSynchronized
  have hl := lv_entry ([.ref h0, .int p0, .int p1]) (n := 4) (Nat.le_of_ble_eq_true rfl)
  rw [lg_entry_eq]
  generalize (lg_sl ([.ref h0, .int p0, .int p1]) ++ List.replicate (4 - (lg_sl ([.ref h0, .int p0, .int p1])).length) Slot.unset).toArray = ls at hl ⊢
  have hl : lv_has ls 4 [(0, .ref h0), (1, .int p0), (2, .int p1)] := hl
  refine lv_aload_n hx hb dX6_discard_0 rfl (lv_at hl 0 rfl) ?_
  refine va_get (D := G) (ci := 5) (v := .int 0) (C := RX6) (T := TX6) (N := 19) hx hb hts i_c_X6_discard0_X6 hown hK hP 0 rfl rfl 7 (by decide) (hts (.fieldLink RX6 45 "TileHouse" "phase" "I") (by decide +kernel)) (fun _ h9 => h9) rfl dX6_discard_1 ?_
  refine lv_iconst (v := 1) hx hb dX6_discard_4 (by decide) ?_
  refine lv_icmp_ne (tgt := 16) hx hb dX6_discard_5 (by decide) (fun _ => ?_) (fun c9 => absurd c9 (by decide))
  refine lv_iconst (v := 0) hx hb dX6_discard_16 (by decide) ?_
  exact W.zret (v := 0) hx hb hr rfl (fun t ht hW => ⟨0, rfl, rfl, ht⟩) (fun _ h => by cases h) dX6_discard_17
def v_c_X6_pass0 : List Cond := .code yX6_pass cX6_pass 1 (some .boolean) :: ([.fieldLink RX6 45 "TileHouse" "phase" "I"] ++ (wsX60 ++ ([])))
theorem vg_c_X6_pass0 : ∀ w ∈ v_c_X6_pass0, goodWord w = true := vg_c (c := .code yX6_pass cX6_pass 1 (some .boolean)) (l := [.fieldLink RX6 45 "TileHouse" "phase" "I"]) (by decide +kernel) (vg_a vgX6 (vg_nil))
theorem i_c_X6_pass0_X6 : ∀ w ∈ u_ws RX6 TX6 19, w ∈ v_c_X6_pass0 := fun _ h => List.mem_cons_of_mem _ (List.mem_append_right _ (List.mem_append_left _ h))
set_option maxHeartbeats 4000000 in
set_option maxRecDepth 100000 in
theorem c_X6_pass0 (l : Launch) (G : va_G) (k : Nat → ClassId) (h0 : Nat) (x0 : Value) (x1 : Value) (x2 : Value) (x3 : Value) (x4 : Value) (x5 : Value) (x6 : Value) (x8 : Value) (x9 : Value) (x10 : Value) (x11 : Value) (x12 : Value) (x13 : Value) (x14 : Value) (x15 : Value) (x16 : Value) (x17 : Value) (x18 : Value) : Met l yX6_pass v_c_X6_pass0 ({ frames := 0, cells := 0, slots := 0, locals := 0 }) (va_Pc [.ref h0] (pr G k [(h0, .inr (5, [x0, x1, x2, x3, x4, x5, x6, .int 0, x8, x9, x10, x11, x12, x13, x14, x15, x16, x17, x18]))])) (vp_Si (fun r => r = 0)) 0 0 (fun _ => False) := by
  refine Met.ofW (cc := cX6_pass) (maxL := 1) (ret := (some .boolean)) (by decide) rfl ?_
  intro p e s m args below meth c s₁ B hml hv
  obtain ⟨rfl, hP, hK, hN⟩ := hv
  have hx := B.exec
  have hb := B.bytes
  have hr := B.returns
  have hts := atoms_spec (ws := v_c_X6_pass0) B.pre
  have hown : s.vm.findClass RX6 = some m.cls := findClass_of_methodNamed B.named
  have hlocks := B.notSynchronized
  have hl := lv_entry ([.ref h0]) (n := 1) (Nat.le_of_ble_eq_true rfl)
  rw [lg_entry_eq]
  generalize (lg_sl ([.ref h0]) ++ List.replicate (1 - (lg_sl ([.ref h0])).length) Slot.unset).toArray = ls at hl ⊢
  have hl : lv_has ls 1 [(0, .ref h0)] := hl
  refine lv_aload_n hx hb dX6_pass_0 rfl (lv_at hl 0 rfl) ?_
  refine va_get (D := G) (ci := 5) (v := .int 0) (C := RX6) (T := TX6) (N := 19) hx hb hts i_c_X6_pass0_X6 hown hK hP 0 rfl rfl 7 (by decide) (hts (.fieldLink RX6 45 "TileHouse" "phase" "I") (by decide +kernel)) (fun _ h9 => h9) rfl dX6_pass_1 ?_
  refine lv_iconst (v := 2) hx hb dX6_pass_4 (by decide) ?_
  refine lv_icmp_eq (tgt := 18) hx hb dX6_pass_5 (by decide) (fun c9 => absurd c9 (by decide)) (fun _ => ?_)
  refine lv_aload_n hx hb dX6_pass_8 rfl (lv_at hl 0 rfl) ?_
  refine va_get (D := G) (ci := 5) (v := .int 0) (C := RX6) (T := TX6) (N := 19) hx hb hts i_c_X6_pass0_X6 hown hK hP 0 rfl rfl 7 (by decide) (hts (.fieldLink RX6 45 "TileHouse" "phase" "I") (by decide +kernel)) (fun _ h9 => h9) rfl dX6_pass_9 ?_
  refine lv_iconst (v := 3) hx hb dX6_pass_12 (by decide) ?_
  refine lv_icmp_eq (tgt := 18) hx hb dX6_pass_13 (by decide) (fun c9 => absurd c9 (by decide)) (fun _ => ?_)
  refine lv_iconst (v := 0) hx hb dX6_pass_16 (by decide) ?_
  exact W.zret (v := 0) hx hb hr rfl (fun t ht hW => ⟨0, rfl, rfl, ht⟩) (fun _ h => by cases h) dX6_pass_17
def v_c_X6_run0 : List Cond := .code yX6_run cX6_run 6 (some .boolean) :: ([.methodLink RX6 147 yX6_mayClaimSet, .instanceMethod yX6_mayClaimSet, .selects RX6 yX6_mayClaimSet yX6_mayClaimSet, .initialized RX6] ++ (v_c_X6_mayClaimSet0 ++ ([])))
theorem vg_c_X6_run0 : ∀ w ∈ v_c_X6_run0, goodWord w = true := vg_c (c := .code yX6_run cX6_run 6 (some .boolean)) (l := [.methodLink RX6 147 yX6_mayClaimSet, .instanceMethod yX6_mayClaimSet, .selects RX6 yX6_mayClaimSet yX6_mayClaimSet, .initialized RX6]) (by decide +kernel) (vg_a vg_c_X6_mayClaimSet0 (vg_nil))
theorem g_c_X6_run0_c_X6_mayClaimSet0_147 : GoodIn v_c_X6_run0 (wsV RX6 147 RX6 yX6_mayClaimSet v_c_X6_mayClaimSet0) := goodIn_app (goodIn_of _ (by decide +kernel)) (fun w h => ⟨List.mem_cons_of_mem _ (List.mem_append_right _ (List.mem_append_left _ h)), good_of_word (vg_c_X6_mayClaimSet0 w h)⟩)
set_option maxHeartbeats 4000000 in
set_option maxRecDepth 100000 in
theorem c_X6_run0 (l : Launch) (G : va_G) (k : Nat → ClassId) (h0 : Nat) (p0 : Int32) (p1 : Int32) (x0 : Value) (x1 : Value) (x2 : Value) (x3 : Value) (x4 : Value) (x5 : Value) (x6 : Value) (x8 : Value) (x9 : Value) (x10 : Value) (x11 : Value) (x12 : Value) (x13 : Value) (x14 : Value) (x15 : Value) (x16 : Value) (x17 : Value) (x18 : Value) : Met l yX6_run v_c_X6_run0 ({ frames := 1, cells := 0, slots := 0, locals := 21 }) (va_Pc [.ref h0, .int p0, .int p1] (pr G k [(h0, .inr (5, [x0, x1, x2, x3, x4, x5, x6, .int 0, x8, x9, x10, x11, x12, x13, x14, x15, x16, x17, x18]))])) (vp_Si (fun r => r = 0)) 0 0 (fun _ => False) := by
  refine Met.ofW (cc := cX6_run) (maxL := 6) (ret := (some .boolean)) (by decide) rfl ?_
  intro p e s m args below meth c s₁ B hml hv
  obtain ⟨rfl, hP, hK, hN⟩ := hv
  have hx := B.exec
  have hb := B.bytes
  have hr := B.returns
  have hts := atoms_spec (ws := v_c_X6_run0) B.pre
  have hown : s.vm.findClass RX6 = some m.cls := findClass_of_methodNamed B.named
  have hlocks := B.notSynchronized
  have hl := lv_entry ([.ref h0, .int p0, .int p1]) (n := 6) (Nat.le_of_ble_eq_true rfl)
  rw [lg_entry_eq]
  generalize (lg_sl ([.ref h0, .int p0, .int p1]) ++ List.replicate (6 - (lg_sl ([.ref h0, .int p0, .int p1])).length) Slot.unset).toArray = ls at hl ⊢
  have hl : lv_has ls 6 [(0, .ref h0), (1, .int p0), (2, .int p1)] := hl
  refine lv_aload_n hx hb dX6_run_0 rfl (lv_at hl 0 rfl) ?_
  refine lv_iload_n hx hb dX6_run_1 rfl (lv_at hl 1 rfl) ?_
  have hPc := hP.sub (ws' := [(h0, .inr (5, [x0, x1, x2, x3, x4, x5, x6, .int 0, x8, x9, x10, x11, x12, x13, x14, x15, x16, x17, x18]))]) [0] rfl
  refine q_calli (va_runV (As := [.int p0]) (rest := []) ⟨hx, hb, hml, hown, hts⟩ (c_X6_mayClaimSet0 l G k h0 p0 (x0) (x1) (x2) (x3) (x4) (x5) (x6) (x8) (x9) (x10) (x11) (x12) (x13) (x14) (x15) (x16) (x17) (x18)) (cwV 1 hts g_c_X6_run0_c_X6_mayClaimSet0_147 rfl rfl rfl (by decide +kernel) ⟨Nat.le_of_ble_eq_true rfl, Nat.le_of_ble_eq_true rfl⟩) ⟨pr_bl, va_recv hK hPc (ci := 5) (q0 := 0) rfl rfl, pr_pre hPc hK hN⟩ rfl rfl hl.1 rfl (lv_room (Nat.le_of_ble_eq_true rfl)) dX6_run_2 ⟨Nat.le_of_ble_eq_true rfl, Nat.le_of_ble_eq_true rfl⟩) (fun r1 hr1 => ?_)
  obtain rfl : r1 = 0 := hr1
  refine lv_if_eq (tgt := 27) hx hb dX6_run_5 (by decide) (fun _ => ?_) (fun c9 => absurd (by decide) c9)
  refine lv_iconst (v := 0) hx hb dX6_run_27 (by decide) ?_
  exact W.zret (v := 0) hx hb hr rfl (fun t ht hW => ⟨0, rfl, rfl, ht⟩) (fun _ h => by cases h) dX6_run_28
def v_c_X6_three0 : List Cond := .code yX6_three cX6_three 4 (some .boolean) :: ([.methodLink RX6 147 yX6_mayClaimSet, .instanceMethod yX6_mayClaimSet, .selects RX6 yX6_mayClaimSet yX6_mayClaimSet, .initialized RX6] ++ (v_c_X6_mayClaimSet0 ++ ([])))
theorem vg_c_X6_three0 : ∀ w ∈ v_c_X6_three0, goodWord w = true := vg_c (c := .code yX6_three cX6_three 4 (some .boolean)) (l := [.methodLink RX6 147 yX6_mayClaimSet, .instanceMethod yX6_mayClaimSet, .selects RX6 yX6_mayClaimSet yX6_mayClaimSet, .initialized RX6]) (by decide +kernel) (vg_a vg_c_X6_mayClaimSet0 (vg_nil))
theorem g_c_X6_three0_c_X6_mayClaimSet0_147 : GoodIn v_c_X6_three0 (wsV RX6 147 RX6 yX6_mayClaimSet v_c_X6_mayClaimSet0) := goodIn_app (goodIn_of _ (by decide +kernel)) (fun w h => ⟨List.mem_cons_of_mem _ (List.mem_append_right _ (List.mem_append_left _ h)), good_of_word (vg_c_X6_mayClaimSet0 w h)⟩)
set_option maxHeartbeats 4000000 in
set_option maxRecDepth 100000 in
theorem c_X6_three0 (l : Launch) (G : va_G) (k : Nat → ClassId) (h0 : Nat) (p0 : Int32) (x0 : Value) (x1 : Value) (x2 : Value) (x3 : Value) (x4 : Value) (x5 : Value) (x6 : Value) (x8 : Value) (x9 : Value) (x10 : Value) (x11 : Value) (x12 : Value) (x13 : Value) (x14 : Value) (x15 : Value) (x16 : Value) (x17 : Value) (x18 : Value) : Met l yX6_three v_c_X6_three0 ({ frames := 1, cells := 0, slots := 0, locals := 21 }) (va_Pc [.ref h0, .int p0] (pr G k [(h0, .inr (5, [x0, x1, x2, x3, x4, x5, x6, .int 0, x8, x9, x10, x11, x12, x13, x14, x15, x16, x17, x18]))])) (vp_Si (fun r => r = 0)) 0 0 (fun _ => False) := by
  refine Met.ofW (cc := cX6_three) (maxL := 4) (ret := (some .boolean)) (by decide) rfl ?_
  intro p e s m args below meth c s₁ B hml hv
  obtain ⟨rfl, hP, hK, hN⟩ := hv
  have hx := B.exec
  have hb := B.bytes
  have hr := B.returns
  have hts := atoms_spec (ws := v_c_X6_three0) B.pre
  have hown : s.vm.findClass RX6 = some m.cls := findClass_of_methodNamed B.named
  have hlocks := B.notSynchronized
  have hl := lv_entry ([.ref h0, .int p0]) (n := 4) (Nat.le_of_ble_eq_true rfl)
  rw [lg_entry_eq]
  generalize (lg_sl ([.ref h0, .int p0]) ++ List.replicate (4 - (lg_sl ([.ref h0, .int p0])).length) Slot.unset).toArray = ls at hl ⊢
  have hl : lv_has ls 4 [(0, .ref h0), (1, .int p0)] := hl
  refine lv_aload_n hx hb dX6_three_0 rfl (lv_at hl 0 rfl) ?_
  refine lv_iload_n hx hb dX6_three_1 rfl (lv_at hl 1 rfl) ?_
  have hPc := hP.sub (ws' := [(h0, .inr (5, [x0, x1, x2, x3, x4, x5, x6, .int 0, x8, x9, x10, x11, x12, x13, x14, x15, x16, x17, x18]))]) [0] rfl
  refine q_calli (va_runV (As := [.int p0]) (rest := []) ⟨hx, hb, hml, hown, hts⟩ (c_X6_mayClaimSet0 l G k h0 p0 (x0) (x1) (x2) (x3) (x4) (x5) (x6) (x8) (x9) (x10) (x11) (x12) (x13) (x14) (x15) (x16) (x17) (x18)) (cwV 1 hts g_c_X6_three0_c_X6_mayClaimSet0_147 rfl rfl rfl (by decide +kernel) ⟨Nat.le_of_ble_eq_true rfl, Nat.le_of_ble_eq_true rfl⟩) ⟨pr_bl, va_recv hK hPc (ci := 5) (q0 := 0) rfl rfl, pr_pre hPc hK hN⟩ rfl rfl hl.1 rfl (lv_room (Nat.le_of_ble_eq_true rfl)) dX6_three_2 ⟨Nat.le_of_ble_eq_true rfl, Nat.le_of_ble_eq_true rfl⟩) (fun r1 hr1 => ?_)
  obtain rfl : r1 = 0 := hr1
  refine lv_if_eq (tgt := 27) hx hb dX6_three_5 (by decide) (fun _ => ?_) (fun c9 => absurd (by decide) c9)
  refine lv_iconst (v := 0) hx hb dX6_three_27 (by decide) ?_
  exact W.zret (v := 0) hx hb hr rfl (fun t ht hW => ⟨0, rfl, rfl, ht⟩) (fun _ h => by cases h) dX6_three_28
def v_c_X6_four0 : List Cond := .code yX6_four cX6_four 2 (some .boolean) :: ([.methodLink RX6 147 yX6_mayClaimSet, .instanceMethod yX6_mayClaimSet, .selects RX6 yX6_mayClaimSet yX6_mayClaimSet, .initialized RX6] ++ (v_c_X6_mayClaimSet0 ++ ([])))
theorem vg_c_X6_four0 : ∀ w ∈ v_c_X6_four0, goodWord w = true := vg_c (c := .code yX6_four cX6_four 2 (some .boolean)) (l := [.methodLink RX6 147 yX6_mayClaimSet, .instanceMethod yX6_mayClaimSet, .selects RX6 yX6_mayClaimSet yX6_mayClaimSet, .initialized RX6]) (by decide +kernel) (vg_a vg_c_X6_mayClaimSet0 (vg_nil))
theorem g_c_X6_four0_c_X6_mayClaimSet0_147 : GoodIn v_c_X6_four0 (wsV RX6 147 RX6 yX6_mayClaimSet v_c_X6_mayClaimSet0) := goodIn_app (goodIn_of _ (by decide +kernel)) (fun w h => ⟨List.mem_cons_of_mem _ (List.mem_append_right _ (List.mem_append_left _ h)), good_of_word (vg_c_X6_mayClaimSet0 w h)⟩)
set_option maxHeartbeats 4000000 in
set_option maxRecDepth 100000 in
theorem c_X6_four0 (l : Launch) (G : va_G) (k : Nat → ClassId) (h0 : Nat) (p0 : Int32) (x0 : Value) (x1 : Value) (x2 : Value) (x3 : Value) (x4 : Value) (x5 : Value) (x6 : Value) (x8 : Value) (x9 : Value) (x10 : Value) (x11 : Value) (x12 : Value) (x13 : Value) (x14 : Value) (x15 : Value) (x16 : Value) (x17 : Value) (x18 : Value) : Met l yX6_four v_c_X6_four0 ({ frames := 1, cells := 0, slots := 0, locals := 21 }) (va_Pc [.ref h0, .int p0] (pr G k [(h0, .inr (5, [x0, x1, x2, x3, x4, x5, x6, .int 0, x8, x9, x10, x11, x12, x13, x14, x15, x16, x17, x18]))])) (vp_Si (fun r => r = 0)) 0 0 (fun _ => False) := by
  refine Met.ofW (cc := cX6_four) (maxL := 2) (ret := (some .boolean)) (by decide) rfl ?_
  intro p e s m args below meth c s₁ B hml hv
  obtain ⟨rfl, hP, hK, hN⟩ := hv
  have hx := B.exec
  have hb := B.bytes
  have hr := B.returns
  have hts := atoms_spec (ws := v_c_X6_four0) B.pre
  have hown : s.vm.findClass RX6 = some m.cls := findClass_of_methodNamed B.named
  have hlocks := B.notSynchronized
  have hl := lv_entry ([.ref h0, .int p0]) (n := 2) (Nat.le_of_ble_eq_true rfl)
  rw [lg_entry_eq]
  generalize (lg_sl ([.ref h0, .int p0]) ++ List.replicate (2 - (lg_sl ([.ref h0, .int p0])).length) Slot.unset).toArray = ls at hl ⊢
  have hl : lv_has ls 2 [(0, .ref h0), (1, .int p0)] := hl
  refine lv_aload_n hx hb dX6_four_0 rfl (lv_at hl 0 rfl) ?_
  refine lv_iload_n hx hb dX6_four_1 rfl (lv_at hl 1 rfl) ?_
  have hPc := hP.sub (ws' := [(h0, .inr (5, [x0, x1, x2, x3, x4, x5, x6, .int 0, x8, x9, x10, x11, x12, x13, x14, x15, x16, x17, x18]))]) [0] rfl
  refine q_calli (va_runV (As := [.int p0]) (rest := []) ⟨hx, hb, hml, hown, hts⟩ (c_X6_mayClaimSet0 l G k h0 p0 (x0) (x1) (x2) (x3) (x4) (x5) (x6) (x8) (x9) (x10) (x11) (x12) (x13) (x14) (x15) (x16) (x17) (x18)) (cwV 1 hts g_c_X6_four0_c_X6_mayClaimSet0_147 rfl rfl rfl (by decide +kernel) ⟨Nat.le_of_ble_eq_true rfl, Nat.le_of_ble_eq_true rfl⟩) ⟨pr_bl, va_recv hK hPc (ci := 5) (q0 := 0) rfl rfl, pr_pre hPc hK hN⟩ rfl rfl hl.1 rfl (lv_room (Nat.le_of_ble_eq_true rfl)) dX6_four_2 ⟨Nat.le_of_ble_eq_true rfl, Nat.le_of_ble_eq_true rfl⟩) (fun r1 hr1 => ?_)
  obtain rfl : r1 = 0 := hr1
  refine lv_if_eq (tgt := 38) hx hb dX6_four_5 (by decide) (fun _ => ?_) (fun c9 => absurd (by decide) c9)
  refine lv_iconst (v := 0) hx hb dX6_four_38 (by decide) ?_
  exact W.zret (v := 0) hx hb hr rfl (fun t ht hW => ⟨0, rfl, rfl, ht⟩) (fun _ h => by cases h) dX6_four_39
def v_c_X6_hide0 : List Cond := .code yX6_hide cX6_hide 2 (some .boolean) :: ([.methodLink RX6 178 yX6_mayMakeFour, .instanceMethod yX6_mayMakeFour, .selects RX6 yX6_mayMakeFour yX6_mayMakeFour, .initialized RX6] ++ (v_c_X6_mayMakeFour0 ++ ([])))
theorem vg_c_X6_hide0 : ∀ w ∈ v_c_X6_hide0, goodWord w = true := vg_c (c := .code yX6_hide cX6_hide 2 (some .boolean)) (l := [.methodLink RX6 178 yX6_mayMakeFour, .instanceMethod yX6_mayMakeFour, .selects RX6 yX6_mayMakeFour yX6_mayMakeFour, .initialized RX6]) (by decide +kernel) (vg_a vg_c_X6_mayMakeFour0 (vg_nil))
theorem g_c_X6_hide0_c_X6_mayMakeFour0_178 : GoodIn v_c_X6_hide0 (wsV RX6 178 RX6 yX6_mayMakeFour v_c_X6_mayMakeFour0) := goodIn_app (goodIn_of _ (by decide +kernel)) (fun w h => ⟨List.mem_cons_of_mem _ (List.mem_append_right _ (List.mem_append_left _ h)), good_of_word (vg_c_X6_mayMakeFour0 w h)⟩)
set_option maxHeartbeats 4000000 in
set_option maxRecDepth 100000 in
theorem c_X6_hide0 (l : Launch) (G : va_G) (k : Nat → ClassId) (h0 : Nat) (p0 : Int32) (x0 : Value) (x1 : Value) (x2 : Value) (x3 : Value) (x4 : Value) (x5 : Value) (x6 : Value) (x8 : Value) (x9 : Value) (x10 : Value) (x11 : Value) (x12 : Value) (x13 : Value) (x14 : Value) (x15 : Value) (x16 : Value) (x17 : Value) (x18 : Value) : Met l yX6_hide v_c_X6_hide0 ({ frames := 1, cells := 0, slots := 0, locals := 20 }) (va_Pc [.ref h0, .int p0] (pr G k [(h0, .inr (5, [x0, x1, x2, x3, x4, x5, x6, .int 0, x8, x9, x10, x11, x12, x13, x14, x15, x16, x17, x18]))])) (vp_Si (fun r => r = 0)) 0 0 (fun _ => False) := by
  refine Met.ofW (cc := cX6_hide) (maxL := 2) (ret := (some .boolean)) (by decide) rfl ?_
  intro p e s m args below meth c s₁ B hml hv
  obtain ⟨rfl, hP, hK, hN⟩ := hv
  have hx := B.exec
  have hb := B.bytes
  have hr := B.returns
  have hts := atoms_spec (ws := v_c_X6_hide0) B.pre
  have hown : s.vm.findClass RX6 = some m.cls := findClass_of_methodNamed B.named
  have hlocks := B.notSynchronized
  have hl := lv_entry ([.ref h0, .int p0]) (n := 2) (Nat.le_of_ble_eq_true rfl)
  rw [lg_entry_eq]
  generalize (lg_sl ([.ref h0, .int p0]) ++ List.replicate (2 - (lg_sl ([.ref h0, .int p0])).length) Slot.unset).toArray = ls at hl ⊢
  have hl : lv_has ls 2 [(0, .ref h0), (1, .int p0)] := hl
  refine lv_aload_n hx hb dX6_hide_0 rfl (lv_at hl 0 rfl) ?_
  have hPc := hP.sub (ws' := [(h0, .inr (5, [x0, x1, x2, x3, x4, x5, x6, .int 0, x8, x9, x10, x11, x12, x13, x14, x15, x16, x17, x18]))]) [0] rfl
  refine q_calli (va_runV (As := []) (rest := []) ⟨hx, hb, hml, hown, hts⟩ (c_X6_mayMakeFour0 l G k h0 (x0) (x1) (x2) (x3) (x4) (x5) (x6) (x8) (x9) (x10) (x11) (x12) (x13) (x14) (x15) (x16) (x17) (x18)) (cwV 0 hts g_c_X6_hide0_c_X6_mayMakeFour0_178 rfl rfl rfl (by decide +kernel) ⟨Nat.le_of_ble_eq_true rfl, Nat.le_of_ble_eq_true rfl⟩) ⟨pr_bl, va_recv hK hPc (ci := 5) (q0 := 0) rfl rfl, pr_pre hPc hK hN⟩ rfl rfl hl.1 rfl (lv_room (Nat.le_of_ble_eq_true rfl)) dX6_hide_1 ⟨Nat.le_of_ble_eq_true rfl, Nat.le_of_ble_eq_true rfl⟩) (fun r1 hr1 => ?_)
  obtain rfl : r1 = 0 := hr1
  refine lv_if_eq (tgt := 26) hx hb dX6_hide_4 (by decide) (fun _ => ?_) (fun c9 => absurd (by decide) c9)
  refine lv_iconst (v := 0) hx hb dX6_hide_26 (by decide) ?_
  exact W.zret (v := 0) hx hb hr rfl (fun t ht hW => ⟨0, rfl, rfl, ht⟩) (fun _ h => by cases h) dX6_hide_27
def v_c_X6_add0 : List Cond := .code yX6_add cX6_add 2 (some .boolean) :: ([.methodLink RX6 178 yX6_mayMakeFour, .instanceMethod yX6_mayMakeFour, .selects RX6 yX6_mayMakeFour yX6_mayMakeFour, .initialized RX6] ++ (v_c_X6_mayMakeFour0 ++ ([])))
theorem vg_c_X6_add0 : ∀ w ∈ v_c_X6_add0, goodWord w = true := vg_c (c := .code yX6_add cX6_add 2 (some .boolean)) (l := [.methodLink RX6 178 yX6_mayMakeFour, .instanceMethod yX6_mayMakeFour, .selects RX6 yX6_mayMakeFour yX6_mayMakeFour, .initialized RX6]) (by decide +kernel) (vg_a vg_c_X6_mayMakeFour0 (vg_nil))
theorem g_c_X6_add0_c_X6_mayMakeFour0_178 : GoodIn v_c_X6_add0 (wsV RX6 178 RX6 yX6_mayMakeFour v_c_X6_mayMakeFour0) := goodIn_app (goodIn_of _ (by decide +kernel)) (fun w h => ⟨List.mem_cons_of_mem _ (List.mem_append_right _ (List.mem_append_left _ h)), good_of_word (vg_c_X6_mayMakeFour0 w h)⟩)
set_option maxHeartbeats 4000000 in
set_option maxRecDepth 100000 in
theorem c_X6_add0 (l : Launch) (G : va_G) (k : Nat → ClassId) (h0 : Nat) (p0 : Int32) (x0 : Value) (x1 : Value) (x2 : Value) (x3 : Value) (x4 : Value) (x5 : Value) (x6 : Value) (x8 : Value) (x9 : Value) (x10 : Value) (x11 : Value) (x12 : Value) (x13 : Value) (x14 : Value) (x15 : Value) (x16 : Value) (x17 : Value) (x18 : Value) : Met l yX6_add v_c_X6_add0 ({ frames := 1, cells := 0, slots := 0, locals := 20 }) (va_Pc [.ref h0, .int p0] (pr G k [(h0, .inr (5, [x0, x1, x2, x3, x4, x5, x6, .int 0, x8, x9, x10, x11, x12, x13, x14, x15, x16, x17, x18]))])) (vp_Si (fun r => r = 0)) 0 0 (fun _ => False) := by
  refine Met.ofW (cc := cX6_add) (maxL := 2) (ret := (some .boolean)) (by decide) rfl ?_
  intro p e s m args below meth c s₁ B hml hv
  obtain ⟨rfl, hP, hK, hN⟩ := hv
  have hx := B.exec
  have hb := B.bytes
  have hr := B.returns
  have hts := atoms_spec (ws := v_c_X6_add0) B.pre
  have hown : s.vm.findClass RX6 = some m.cls := findClass_of_methodNamed B.named
  have hlocks := B.notSynchronized
  have hl := lv_entry ([.ref h0, .int p0]) (n := 2) (Nat.le_of_ble_eq_true rfl)
  rw [lg_entry_eq]
  generalize (lg_sl ([.ref h0, .int p0]) ++ List.replicate (2 - (lg_sl ([.ref h0, .int p0])).length) Slot.unset).toArray = ls at hl ⊢
  have hl : lv_has ls 2 [(0, .ref h0), (1, .int p0)] := hl
  refine lv_aload_n hx hb dX6_add_0 rfl (lv_at hl 0 rfl) ?_
  have hPc := hP.sub (ws' := [(h0, .inr (5, [x0, x1, x2, x3, x4, x5, x6, .int 0, x8, x9, x10, x11, x12, x13, x14, x15, x16, x17, x18]))]) [0] rfl
  refine q_calli (va_runV (As := []) (rest := []) ⟨hx, hb, hml, hown, hts⟩ (c_X6_mayMakeFour0 l G k h0 (x0) (x1) (x2) (x3) (x4) (x5) (x6) (x8) (x9) (x10) (x11) (x12) (x13) (x14) (x15) (x16) (x17) (x18)) (cwV 0 hts g_c_X6_add0_c_X6_mayMakeFour0_178 rfl rfl rfl (by decide +kernel) ⟨Nat.le_of_ble_eq_true rfl, Nat.le_of_ble_eq_true rfl⟩) ⟨pr_bl, va_recv hK hPc (ci := 5) (q0 := 0) rfl rfl, pr_pre hPc hK hN⟩ rfl rfl hl.1 rfl (lv_room (Nat.le_of_ble_eq_true rfl)) dX6_add_1 ⟨Nat.le_of_ble_eq_true rfl, Nat.le_of_ble_eq_true rfl⟩) (fun r1 hr1 => ?_)
  obtain rfl : r1 = 0 := hr1
  refine lv_if_eq (tgt := 25) hx hb dX6_add_4 (by decide) (fun _ => ?_) (fun c9 => absurd (by decide) c9)
  refine lv_iconst (v := 0) hx hb dX6_add_25 (by decide) ?_
  exact W.zret (v := 0) hx hb hr rfl (fun t ht hW => ⟨0, rfl, rfl, ht⟩) (fun _ h => by cases h) dX6_add_26
def v_c_X6_win0 : List Cond := .code yX6_win cX6_win 6 (some .boolean) :: ([.fieldLink RX6 45 "TileHouse" "phase" "I"] ++ (wsX60 ++ ([])))
theorem vg_c_X6_win0 : ∀ w ∈ v_c_X6_win0, goodWord w = true := vg_c (c := .code yX6_win cX6_win 6 (some .boolean)) (l := [.fieldLink RX6 45 "TileHouse" "phase" "I"]) (by decide +kernel) (vg_a vgX6 (vg_nil))
theorem i_c_X6_win0_X6 : ∀ w ∈ u_ws RX6 TX6 19, w ∈ v_c_X6_win0 := fun _ h => List.mem_cons_of_mem _ (List.mem_append_right _ (List.mem_append_left _ h))
set_option maxHeartbeats 4000000 in
set_option maxRecDepth 100000 in
theorem c_X6_win0 (l : Launch) (G : va_G) (k : Nat → ClassId) (h0 : Nat) (x0 : Value) (x1 : Value) (x2 : Value) (x3 : Value) (x4 : Value) (x5 : Value) (x6 : Value) (x8 : Value) (x9 : Value) (x10 : Value) (x11 : Value) (x12 : Value) (x13 : Value) (x14 : Value) (x15 : Value) (x16 : Value) (x17 : Value) (x18 : Value) : Met l yX6_win v_c_X6_win0 ({ frames := 0, cells := 0, slots := 0, locals := 0 }) (va_Pc [.ref h0] (pr G k [(h0, .inr (5, [x0, x1, x2, x3, x4, x5, x6, .int 0, x8, x9, x10, x11, x12, x13, x14, x15, x16, x17, x18]))])) (vp_Si (fun r => r = 0)) 0 0 (fun _ => False) := by
  refine Met.ofW (cc := cX6_win) (maxL := 6) (ret := (some .boolean)) (by decide) rfl ?_
  intro p e s m args below meth c s₁ B hml hv
  obtain ⟨rfl, hP, hK, hN⟩ := hv
  have hx := B.exec
  have hb := B.bytes
  have hr := B.returns
  have hts := atoms_spec (ws := v_c_X6_win0) B.pre
  have hown : s.vm.findClass RX6 = some m.cls := findClass_of_methodNamed B.named
  have hlocks := B.notSynchronized
  have hl := lv_entry ([.ref h0]) (n := 6) (Nat.le_of_ble_eq_true rfl)
  rw [lg_entry_eq]
  generalize (lg_sl ([.ref h0]) ++ List.replicate (6 - (lg_sl ([.ref h0])).length) Slot.unset).toArray = ls at hl ⊢
  have hl : lv_has ls 6 [(0, .ref h0)] := hl
  refine lv_aload_n hx hb dX6_win_0 rfl (lv_at hl 0 rfl) ?_
  refine va_get (D := G) (ci := 5) (v := .int 0) (C := RX6) (T := TX6) (N := 19) hx hb hts i_c_X6_win0_X6 hown hK hP 0 rfl rfl 7 (by decide) (hts (.fieldLink RX6 45 "TileHouse" "phase" "I") (by decide +kernel)) (fun _ h9 => h9) rfl dX6_win_1 ?_
  refine lv_iconst (v := 1) hx hb dX6_win_4 (by decide) ?_
  refine lv_icmp_ne (tgt := 28) hx hb dX6_win_5 (by decide) (fun _ => ?_) (fun c9 => absurd c9 (by decide))
  refine lv_iconst (v := 0) hx hb dX6_win_28 (by decide) ?_
  exact W.zret (v := 0) hx hb hr rfl (fun t ht hW => ⟨0, rfl, rfl, ht⟩) (fun _ h => by cases h) dX6_win_29
def v_c_X6_claim0 : List Cond := .code yX6_claim cX6_claim 5 (some .boolean) :: ([.fieldLink RX6 45 "TileHouse" "phase" "I"] ++ (wsX60 ++ ([])))
theorem vg_c_X6_claim0 : ∀ w ∈ v_c_X6_claim0, goodWord w = true := vg_c (c := .code yX6_claim cX6_claim 5 (some .boolean)) (l := [.fieldLink RX6 45 "TileHouse" "phase" "I"]) (by decide +kernel) (vg_a vgX6 (vg_nil))
theorem i_c_X6_claim0_X6 : ∀ w ∈ u_ws RX6 TX6 19, w ∈ v_c_X6_claim0 := fun _ h => List.mem_cons_of_mem _ (List.mem_append_right _ (List.mem_append_left _ h))
set_option maxHeartbeats 4000000 in
set_option maxRecDepth 100000 in
theorem c_X6_claim0 (l : Launch) (G : va_G) (k : Nat → ClassId) (h0 : Nat) (p0 : Int32) (x0 : Value) (x1 : Value) (x2 : Value) (x3 : Value) (x4 : Value) (x5 : Value) (x6 : Value) (x8 : Value) (x9 : Value) (x10 : Value) (x11 : Value) (x12 : Value) (x13 : Value) (x14 : Value) (x15 : Value) (x16 : Value) (x17 : Value) (x18 : Value) : Met l yX6_claim v_c_X6_claim0 ({ frames := 0, cells := 0, slots := 0, locals := 0 }) (va_Pc [.ref h0, .int p0] (pr G k [(h0, .inr (5, [x0, x1, x2, x3, x4, x5, x6, .int 0, x8, x9, x10, x11, x12, x13, x14, x15, x16, x17, x18]))])) (vp_Si (fun r => r = 0)) 0 0 (fun _ => False) := by
  refine Met.ofW (cc := cX6_claim) (maxL := 5) (ret := (some .boolean)) (by decide) rfl ?_
  intro p e s m args below meth c s₁ B hml hv
  obtain ⟨rfl, hP, hK, hN⟩ := hv
  have hx := B.exec
  have hb := B.bytes
  have hr := B.returns
  have hts := atoms_spec (ws := v_c_X6_claim0) B.pre
  have hown : s.vm.findClass RX6 = some m.cls := findClass_of_methodNamed B.named
  have hlocks := B.notSynchronized
  have hl := lv_entry ([.ref h0, .int p0]) (n := 5) (Nat.le_of_ble_eq_true rfl)
  rw [lg_entry_eq]
  generalize (lg_sl ([.ref h0, .int p0]) ++ List.replicate (5 - (lg_sl ([.ref h0, .int p0])).length) Slot.unset).toArray = ls at hl ⊢
  have hl : lv_has ls 5 [(0, .ref h0), (1, .int p0)] := hl
  refine lv_aload_n hx hb dX6_claim_0 rfl (lv_at hl 0 rfl) ?_
  refine va_get (D := G) (ci := 5) (v := .int 0) (C := RX6) (T := TX6) (N := 19) hx hb hts i_c_X6_claim0_X6 hown hK hP 0 rfl rfl 7 (by decide) (hts (.fieldLink RX6 45 "TileHouse" "phase" "I") (by decide +kernel)) (fun _ h9 => h9) rfl dX6_claim_1 ?_
  refine lv_iconst (v := 2) hx hb dX6_claim_4 (by decide) ?_
  refine lv_icmp_eq (tgt := 16) hx hb dX6_claim_5 (by decide) (fun c9 => absurd c9 (by decide)) (fun _ => ?_)
  refine lv_aload_n hx hb dX6_claim_8 rfl (lv_at hl 0 rfl) ?_
  refine va_get (D := G) (ci := 5) (v := .int 0) (C := RX6) (T := TX6) (N := 19) hx hb hts i_c_X6_claim0_X6 hown hK hP 0 rfl rfl 7 (by decide) (hts (.fieldLink RX6 45 "TileHouse" "phase" "I") (by decide +kernel)) (fun _ h9 => h9) rfl dX6_claim_9 ?_
  refine lv_iconst (v := 3) hx hb dX6_claim_12 (by decide) ?_
  refine lv_icmp_ne (tgt := 31) hx hb dX6_claim_13 (by decide) (fun _ => ?_) (fun c9 => absurd c9 (by decide))
  refine lv_iconst (v := 0) hx hb dX6_claim_31 (by decide) ?_
  exact W.zret (v := 0) hx hb hr rfl (fun t ht hW => ⟨0, rfl, rfl, ht⟩) (fun _ h => by cases h) dX6_claim_32
def v_c_X6_nine0 : List Cond := .code yX6_nine cX6_nine 1 (some .boolean) :: ([.fieldLink RX6 45 "TileHouse" "phase" "I"] ++ (wsX60 ++ ([])))
theorem vg_c_X6_nine0 : ∀ w ∈ v_c_X6_nine0, goodWord w = true := vg_c (c := .code yX6_nine cX6_nine 1 (some .boolean)) (l := [.fieldLink RX6 45 "TileHouse" "phase" "I"]) (by decide +kernel) (vg_a vgX6 (vg_nil))
theorem i_c_X6_nine0_X6 : ∀ w ∈ u_ws RX6 TX6 19, w ∈ v_c_X6_nine0 := fun _ h => List.mem_cons_of_mem _ (List.mem_append_right _ (List.mem_append_left _ h))
set_option maxHeartbeats 4000000 in
set_option maxRecDepth 100000 in
theorem c_X6_nine0 (l : Launch) (G : va_G) (k : Nat → ClassId) (h0 : Nat) (x0 : Value) (x1 : Value) (x2 : Value) (x3 : Value) (x4 : Value) (x5 : Value) (x6 : Value) (x8 : Value) (x9 : Value) (x10 : Value) (x11 : Value) (x12 : Value) (x13 : Value) (x14 : Value) (x15 : Value) (x16 : Value) (x17 : Value) (x18 : Value) : Met l yX6_nine v_c_X6_nine0 ({ frames := 0, cells := 0, slots := 0, locals := 0 }) (va_Pc [.ref h0] (pr G k [(h0, .inr (5, [x0, x1, x2, x3, x4, x5, x6, .int 0, x8, x9, x10, x11, x12, x13, x14, x15, x16, x17, x18]))])) (vp_Si (fun r => r = 0)) 0 0 (fun _ => False) := by
  refine Met.ofW (cc := cX6_nine) (maxL := 1) (ret := (some .boolean)) (by decide) rfl ?_
  intro p e s m args below meth c s₁ B hml hv
  obtain ⟨rfl, hP, hK, hN⟩ := hv
  have hx := B.exec
  have hb := B.bytes
  have hr := B.returns
  have hts := atoms_spec (ws := v_c_X6_nine0) B.pre
  have hown : s.vm.findClass RX6 = some m.cls := findClass_of_methodNamed B.named
  have hlocks := B.notSynchronized
  have hl := lv_entry ([.ref h0]) (n := 1) (Nat.le_of_ble_eq_true rfl)
  rw [lg_entry_eq]
  generalize (lg_sl ([.ref h0]) ++ List.replicate (1 - (lg_sl ([.ref h0])).length) Slot.unset).toArray = ls at hl ⊢
  have hl : lv_has ls 1 [(0, .ref h0)] := hl
  refine lv_aload_n hx hb dX6_nine_0 rfl (lv_at hl 0 rfl) ?_
  refine va_get (D := G) (ci := 5) (v := .int 0) (C := RX6) (T := TX6) (N := 19) hx hb hts i_c_X6_nine0_X6 hown hK hP 0 rfl rfl 7 (by decide) (hts (.fieldLink RX6 45 "TileHouse" "phase" "I") (by decide +kernel)) (fun _ h9 => h9) rfl dX6_nine_1 ?_
  refine lv_iconst (v := 1) hx hb dX6_nine_4 (by decide) ?_
  refine lv_icmp_ne (tgt := 29) hx hb dX6_nine_5 (by decide) (fun _ => ?_) (fun c9 => absurd c9 (by decide))
  refine lv_iconst (v := 0) hx hb dX6_nine_29 (by decide) ?_
  exact W.zret (v := 0) hx hb hr rfl (fun t ht hW => ⟨0, rfl, rfl, ht⟩) (fun _ h => by cases h) dX6_nine_30
def v_c_X6_hand0 : List Cond := .code yX6_hand cX6_hand 3 (some .int) :: ([.methodLink RX6 213 yX6_isSeat, .static yX6_isSeat, .initialized RX6, .methodLink RX6 65 yX6_at, .instanceMethod yX6_at, .selects RX6 yX6_at yX6_at, .fieldLink RX6 72 "TileHouse$Seat" "tiles" "LTileHouse$Tiles;", .methodLink RX6 173 yX3_free, .instanceMethod yX3_free, .selects RX3 yX3_free yX3_free, .initialized RX3] ++ (v_c_X6_isSeat ++ (v_c_X6_at ++ (wsX20 ++ (v_c_X3_free ++ ([]))))))
theorem vg_c_X6_hand0 : ∀ w ∈ v_c_X6_hand0, goodWord w = true := vg_c (c := .code yX6_hand cX6_hand 3 (some .int)) (l := [.methodLink RX6 213 yX6_isSeat, .static yX6_isSeat, .initialized RX6, .methodLink RX6 65 yX6_at, .instanceMethod yX6_at, .selects RX6 yX6_at yX6_at, .fieldLink RX6 72 "TileHouse$Seat" "tiles" "LTileHouse$Tiles;", .methodLink RX6 173 yX3_free, .instanceMethod yX3_free, .selects RX3 yX3_free yX3_free, .initialized RX3]) (by decide +kernel) (vg_a vg_c_X6_isSeat (vg_a vg_c_X6_at (vg_a vgX2 (vg_a vg_c_X3_free (vg_nil)))))
theorem i_c_X6_hand0_X2 : ∀ w ∈ u_ws RX2 TX2 10, w ∈ v_c_X6_hand0 := fun _ h => List.mem_cons_of_mem _ (List.mem_append_right _ (List.mem_append_right _ (List.mem_append_right _ (List.mem_append_left _ h))))
theorem g_c_X6_hand0_c_X6_isSeat_213 : GoodIn v_c_X6_hand0 (wsS RX6 213 yX6_isSeat v_c_X6_isSeat) := goodIn_app (goodIn_of _ (by decide +kernel)) (fun w h => ⟨List.mem_cons_of_mem _ (List.mem_append_right _ (List.mem_append_left _ h)), good_of_word (vg_c_X6_isSeat w h)⟩)
theorem g_c_X6_hand0_c_X6_at_65 : GoodIn v_c_X6_hand0 (wsV RX6 65 RX6 yX6_at v_c_X6_at) := goodIn_app (goodIn_of _ (by decide +kernel)) (fun w h => ⟨List.mem_cons_of_mem _ (List.mem_append_right _ (List.mem_append_right _ (List.mem_append_left _ h))), good_of_word (vg_c_X6_at w h)⟩)
theorem g_c_X6_hand0_c_X3_free_173 : GoodIn v_c_X6_hand0 (wsV RX6 173 RX3 yX3_free v_c_X3_free) := goodIn_app (goodIn_of _ (by decide +kernel)) (fun w h => ⟨List.mem_cons_of_mem _ (List.mem_append_right _ (List.mem_append_right _ (List.mem_append_right _ (List.mem_append_right _ (List.mem_append_left _ h))))), good_of_word (vg_c_X3_free w h)⟩)
set_option maxHeartbeats 4000000 in
set_option maxRecDepth 100000 in
theorem c_X6_hand0 (l : Launch) (G : va_G) (k : Nat → ClassId) (h0 : Nat) (pl : Nat) (f : Nat → Option Nat) (sa : Nat → Nat) (hf : ∀ j, j < 4 → f j = some (sa j)) (s0 : Nat) (t0 : Nat) (fr : Nat) (p0 : Int32) (p1 : Int32) (hs : vp_in p0 4 → sa (p0 &&& 3).toNatClampNeg = s0) (x1 : Value) (x2 : Value) (x3 : Value) (x4 : Value) (x5 : Value) (x6 : Value) (x7 : Value) (x8 : Value) (x9 : Value) (x10 : Value) (x11 : Value) (x12 : Value) (x13 : Value) (x14 : Value) (x15 : Value) (x16 : Value) (x17 : Value) (x18 : Value) (y1 : Value) (y2 : Value) (y3 : Value) (y4 : Value) (y5 : Value) (y6 : Value) (y7 : Value) (y8 : Value) (y9 : Value) (z1 : Value) (z2 : Value) (z3 : Value) (z4 : Value) (z5 : Value) : Met l yX6_hand v_c_X6_hand0 ({ frames := 2, cells := 0, slots := 0, locals := 41 }) (va_Pc [.ref h0, .int p0, .int p1] (pr G k [(h0, .inr (5, [.ref pl, x1, x2, x3, x4, x5, x6, x7, x8, x9, x10, x11, x12, x13, x14, x15, x16, x17, x18])), (pl, .inl (k 3, 4, .inr (.inr (.inr (.inr f))))), (s0, .inr (1, [.ref t0, y1, y2, y3, y4, y5, y6, y7, y8, y9])), (t0, .inr (2, [.ref fr, z1, z2, z3, z4, z5])), (fr, .inl (k 0, 34, .inl (fun _ => 0)))])) (vp_Si (fun r => r = 0)) 0 0 (fun _ => False) := by
  refine Met.ofW (cc := cX6_hand) (maxL := 3) (ret := (some .int)) (by decide) rfl ?_
  intro p e s m args below meth c s₁ B hml hv
  obtain ⟨rfl, hP, hK, hN⟩ := hv
  have hx := B.exec
  have hb := B.bytes
  have hr := B.returns
  have hts := atoms_spec (ws := v_c_X6_hand0) B.pre
  have hown : s.vm.findClass RX6 = some m.cls := findClass_of_methodNamed B.named
  have hlocks := B.notSynchronized
  have hl := lv_entry ([.ref h0, .int p0, .int p1]) (n := 3) (Nat.le_of_ble_eq_true rfl)
  rw [lg_entry_eq]
  generalize (lg_sl ([.ref h0, .int p0, .int p1]) ++ List.replicate (3 - (lg_sl ([.ref h0, .int p0, .int p1])).length) Slot.unset).toArray = ls at hl ⊢
  have hl : lv_has ls 3 [(0, .ref h0), (1, .int p0), (2, .int p1)] := hl
  refine lv_iload_n hx hb dX6_hand_0 rfl (lv_at hl 1 rfl) ?_
  have hPc := hP.sub (ws' := []) [] rfl
  refine q_calli (va_runS (As := [.int p0]) (rest := []) ⟨hx, hb, hml, hown, hts⟩ (c_X6_isSeat l G k p0) (cwS 1 hts g_c_X6_hand0_c_X6_isSeat_213 rfl rfl rfl (by decide +kernel) ⟨Nat.le_of_ble_eq_true rfl, Nat.le_of_ble_eq_true rfl⟩) ⟨pr_bl, pr_pre hPc hK hN⟩ rfl rfl hl.1 rfl (lv_room (Nat.le_of_ble_eq_true rfl)) dX6_hand_1 ⟨Nat.le_of_ble_eq_true rfl, Nat.le_of_ble_eq_true rfl⟩) (fun r1 hr1 => ?_)
  rcases hr1 with ⟨rfl, h2⟩ | ⟨rfl, h2⟩
  · skip
    refine lv_if_eq (tgt := 22) hx hb dX6_hand_4 (by decide) (fun c9 => absurd c9 (by decide)) (fun _ => ?_)
    refine lv_aload_n hx hb dX6_hand_7 rfl (lv_at hl 0 rfl) ?_
    refine lv_iload_n hx hb dX6_hand_8 rfl (lv_at hl 1 rfl) ?_
    have hPc := hP.sub (ws' := [(h0, .inr (5, [.ref pl, x1, x2, x3, x4, x5, x6, x7, x8, x9, x10, x11, x12, x13, x14, x15, x16, x17, x18])), (pl, .inl (k 3, 4, .inr (.inr (.inr (.inr f)))))]) [0, 1] rfl
    refine q_callr (va_runV (As := [.int p0]) (rest := []) ⟨hx, hb, hml, hown, hts⟩ (c_X6_at l G k h0 pl f sa hf p0 (x1) (x2) (x3) (x4) (x5) (x6) (x7) (x8) (x9) (x10) (x11) (x12) (x13) (x14) (x15) (x16) (x17) (x18)) (cwV 1 hts g_c_X6_hand0_c_X6_at_65 rfl rfl rfl (by decide +kernel) ⟨Nat.le_of_ble_eq_true rfl, Nat.le_of_ble_eq_true rfl⟩) ⟨pr_bl, va_recv hK hPc (ci := 5) (q0 := 0) rfl rfl, pr_pre hPc hK hN⟩ rfl rfl hl.1 rfl (lv_room (Nat.le_of_ble_eq_true rfl)) dX6_hand_9 ⟨Nat.le_of_ble_eq_true rfl, Nat.le_of_ble_eq_true rfl⟩) (fun r3 hr3 => ?_)
    rw [show r3 = s0 from hr3.trans (hs h2)]
    refine va_get (D := G) (ci := 1) (v := .ref t0) (C := RX2) (T := TX2) (N := 10) hx hb hts i_c_X6_hand0_X2 hown hK hP 2 rfl rfl 0 (by decide) (hts (.fieldLink RX6 72 "TileHouse$Seat" "tiles" "LTileHouse$Tiles;") (by decide +kernel)) (fun _ h9 => h9) rfl dX6_hand_12 ?_
    refine lv_iload_n hx hb dX6_hand_15 rfl (lv_at hl 2 rfl) ?_
    have hPc := hP.sub (ws' := [(t0, .inr (2, [.ref fr, z1, z2, z3, z4, z5])), (fr, .inl (k 0, 34, .inl (fun _ => 0)))]) [3, 4] rfl
    refine q_calli (va_runV (As := [.int p1]) (rest := []) ⟨hx, hb, hml, hown, hts⟩ (c_X3_free l G k t0 fr (fun _ => 0) p1 (z1) (z2) (z3) (z4) (z5)) (cwV 1 hts g_c_X6_hand0_c_X3_free_173 rfl rfl rfl (by decide +kernel) ⟨Nat.le_of_ble_eq_true rfl, Nat.le_of_ble_eq_true rfl⟩) ⟨pr_bl, va_recv hK hPc (ci := 2) (q0 := 0) rfl rfl, pr_pre hPc hK hN⟩ rfl rfl hl.1 rfl (lv_room (Nat.le_of_ble_eq_true rfl)) dX6_hand_16 ⟨Nat.le_of_ble_eq_true rfl, Nat.le_of_ble_eq_true rfl⟩) (fun r4 hr4 => ?_)
    obtain rfl : r4 = 0 := hr4.elim (fun q => q.2) (fun q => q.2)
    refine lv_goto (tgt := 23) hx hb dX6_hand_19 (by decide) ?_
    exact W.iret (v := 0) hx hb hr (fun t ht hW => ⟨0, rfl, rfl, ht⟩) (fun _ h => by cases h) dX6_hand_23
  · skip
    refine lv_if_eq (tgt := 22) hx hb dX6_hand_4 (by decide) (fun _ => ?_) (fun c9 => absurd (by decide) c9)
    refine lv_iconst (v := 0) hx hb dX6_hand_22 (by decide) ?_
    exact W.iret (v := 0) hx hb hr (fun t ht hW => ⟨0, rfl, rfl, ht⟩) (fun _ h => by cases h) dX6_hand_23
def v_c_X6_laid0 : List Cond := .code yX6_laid cX6_laid 5 (some .int) :: ([.methodLink RX6 213 yX6_isSeat, .static yX6_isSeat, .initialized RX6, .methodLink RX6 65 yX6_at, .instanceMethod yX6_at, .selects RX6 yX6_at yX6_at, .fieldLink RX6 72 "TileHouse$Seat" "tiles" "LTileHouse$Tiles;", .fieldLink RX6 244 "TileHouse$Tiles" "laidDown" "I"] ++ (v_c_X6_isSeat ++ (v_c_X6_at ++ (wsX20 ++ (wsX30 ++ ([]))))))
theorem vg_c_X6_laid0 : ∀ w ∈ v_c_X6_laid0, goodWord w = true := vg_c (c := .code yX6_laid cX6_laid 5 (some .int)) (l := [.methodLink RX6 213 yX6_isSeat, .static yX6_isSeat, .initialized RX6, .methodLink RX6 65 yX6_at, .instanceMethod yX6_at, .selects RX6 yX6_at yX6_at, .fieldLink RX6 72 "TileHouse$Seat" "tiles" "LTileHouse$Tiles;", .fieldLink RX6 244 "TileHouse$Tiles" "laidDown" "I"]) (by decide +kernel) (vg_a vg_c_X6_isSeat (vg_a vg_c_X6_at (vg_a vgX2 (vg_a vgX3 (vg_nil)))))
theorem i_c_X6_laid0_X2 : ∀ w ∈ u_ws RX2 TX2 10, w ∈ v_c_X6_laid0 := fun _ h => List.mem_cons_of_mem _ (List.mem_append_right _ (List.mem_append_right _ (List.mem_append_right _ (List.mem_append_left _ h))))
theorem i_c_X6_laid0_X3 : ∀ w ∈ u_ws RX3 TX3 6, w ∈ v_c_X6_laid0 := fun _ h => List.mem_cons_of_mem _ (List.mem_append_right _ (List.mem_append_right _ (List.mem_append_right _ (List.mem_append_right _ (List.mem_append_left _ h)))))
theorem g_c_X6_laid0_c_X6_isSeat_213 : GoodIn v_c_X6_laid0 (wsS RX6 213 yX6_isSeat v_c_X6_isSeat) := goodIn_app (goodIn_of _ (by decide +kernel)) (fun w h => ⟨List.mem_cons_of_mem _ (List.mem_append_right _ (List.mem_append_left _ h)), good_of_word (vg_c_X6_isSeat w h)⟩)
theorem g_c_X6_laid0_c_X6_at_65 : GoodIn v_c_X6_laid0 (wsV RX6 65 RX6 yX6_at v_c_X6_at) := goodIn_app (goodIn_of _ (by decide +kernel)) (fun w h => ⟨List.mem_cons_of_mem _ (List.mem_append_right _ (List.mem_append_right _ (List.mem_append_left _ h))), good_of_word (vg_c_X6_at w h)⟩)
set_option maxHeartbeats 4000000 in
set_option maxRecDepth 100000 in
theorem c_X6_laid0 (l : Launch) (G : va_G) (k : Nat → ClassId) (h0 : Nat) (pl : Nat) (f : Nat → Option Nat) (sa : Nat → Nat) (hf : ∀ j, j < 4 → f j = some (sa j)) (s0 : Nat) (t0 : Nat) (p0 : Int32) (p1 : Int32) (p2 : Int32) (hs : vp_in p0 4 → sa (p0 &&& 3).toNatClampNeg = s0) (x1 : Value) (x2 : Value) (x3 : Value) (x4 : Value) (x5 : Value) (x6 : Value) (x7 : Value) (x8 : Value) (x9 : Value) (x10 : Value) (x11 : Value) (x12 : Value) (x13 : Value) (x14 : Value) (x15 : Value) (x16 : Value) (x17 : Value) (x18 : Value) (y1 : Value) (y2 : Value) (y3 : Value) (y4 : Value) (y5 : Value) (y6 : Value) (y7 : Value) (y8 : Value) (y9 : Value) (z0 : Value) (z1 : Value) (z2 : Value) (z3 : Value) (z5 : Value) : Met l yX6_laid v_c_X6_laid0 ({ frames := 1, cells := 0, slots := 0, locals := 21 }) (va_Pc [.ref h0, .int p0, .int p1, .int p2] (pr G k [(h0, .inr (5, [.ref pl, x1, x2, x3, x4, x5, x6, x7, x8, x9, x10, x11, x12, x13, x14, x15, x16, x17, x18])), (pl, .inl (k 3, 4, .inr (.inr (.inr (.inr f))))), (s0, .inr (1, [.ref t0, y1, y2, y3, y4, y5, y6, y7, y8, y9])), (t0, .inr (2, [z0, z1, z2, z3, .int 0, z5]))])) (vp_Si (fun r => r = (-1))) 0 0 (fun _ => False) := by
  refine Met.ofW (cc := cX6_laid) (maxL := 5) (ret := (some .int)) (by decide) rfl ?_
  intro p e s m args below meth c s₁ B hml hv
  obtain ⟨rfl, hP, hK, hN⟩ := hv
  have hx := B.exec
  have hb := B.bytes
  have hr := B.returns
  have hts := atoms_spec (ws := v_c_X6_laid0) B.pre
  have hown : s.vm.findClass RX6 = some m.cls := findClass_of_methodNamed B.named
  have hlocks := B.notSynchronized
  have hl := lv_entry ([.ref h0, .int p0, .int p1, .int p2]) (n := 5) (Nat.le_of_ble_eq_true rfl)
  rw [lg_entry_eq]
  generalize (lg_sl ([.ref h0, .int p0, .int p1, .int p2]) ++ List.replicate (5 - (lg_sl ([.ref h0, .int p0, .int p1, .int p2])).length) Slot.unset).toArray = ls at hl ⊢
  have hl : lv_has ls 5 [(0, .ref h0), (1, .int p0), (2, .int p1), (3, .int p2)] := hl
  refine lv_iload_n hx hb dX6_laid_0 rfl (lv_at hl 1 rfl) ?_
  have hPc := hP.sub (ws' := []) [] rfl
  refine q_calli (va_runS (As := [.int p0]) (rest := []) ⟨hx, hb, hml, hown, hts⟩ (c_X6_isSeat l G k p0) (cwS 1 hts g_c_X6_laid0_c_X6_isSeat_213 rfl rfl rfl (by decide +kernel) ⟨Nat.le_of_ble_eq_true rfl, Nat.le_of_ble_eq_true rfl⟩) ⟨pr_bl, pr_pre hPc hK hN⟩ rfl rfl hl.1 rfl (lv_room (Nat.le_of_ble_eq_true rfl)) dX6_laid_1 ⟨Nat.le_of_ble_eq_true rfl, Nat.le_of_ble_eq_true rfl⟩) (fun r1 hr1 => ?_)
  rcases hr1 with ⟨rfl, h2⟩ | ⟨rfl, h2⟩
  · skip
    refine lv_if_ne (tgt := 9) hx hb dX6_laid_4 (by decide) (fun _ => ?_) (fun c9 => absurd c9 (by decide))
    refine lv_aload_n hx hb dX6_laid_9 rfl (lv_at hl 0 rfl) ?_
    refine lv_iload_n hx hb dX6_laid_10 rfl (lv_at hl 1 rfl) ?_
    have hPc := hP.sub (ws' := [(h0, .inr (5, [.ref pl, x1, x2, x3, x4, x5, x6, x7, x8, x9, x10, x11, x12, x13, x14, x15, x16, x17, x18])), (pl, .inl (k 3, 4, .inr (.inr (.inr (.inr f)))))]) [0, 1] rfl
    refine q_callr (va_runV (As := [.int p0]) (rest := []) ⟨hx, hb, hml, hown, hts⟩ (c_X6_at l G k h0 pl f sa hf p0 (x1) (x2) (x3) (x4) (x5) (x6) (x7) (x8) (x9) (x10) (x11) (x12) (x13) (x14) (x15) (x16) (x17) (x18)) (cwV 1 hts g_c_X6_laid0_c_X6_at_65 rfl rfl rfl (by decide +kernel) ⟨Nat.le_of_ble_eq_true rfl, Nat.le_of_ble_eq_true rfl⟩) ⟨pr_bl, va_recv hK hPc (ci := 5) (q0 := 0) rfl rfl, pr_pre hPc hK hN⟩ rfl rfl hl.1 rfl (lv_room (Nat.le_of_ble_eq_true rfl)) dX6_laid_11 ⟨Nat.le_of_ble_eq_true rfl, Nat.le_of_ble_eq_true rfl⟩) (fun r3 hr3 => ?_)
    rw [show r3 = s0 from hr3.trans (hs h2)]
    refine va_get (D := G) (ci := 1) (v := .ref t0) (C := RX2) (T := TX2) (N := 10) hx hb hts i_c_X6_laid0_X2 hown hK hP 2 rfl rfl 0 (by decide) (hts (.fieldLink RX6 72 "TileHouse$Seat" "tiles" "LTileHouse$Tiles;") (by decide +kernel)) (fun _ h9 => h9) rfl dX6_laid_14 ?_
    refine lv_astore (lv' := [(4, .ref t0), (0, .ref h0), (1, .int p0), (2, .int p1), (3, .int p2)]) hx hb dX6_laid_17 hl (by decide) rfl (fun ls hl => ?_)
    refine lv_iload_n hx hb dX6_laid_19 rfl (lv_at hl 3 rfl) ?_
    refine lv_if_lt (tgt := 37) hx hb dX6_laid_20 (by decide) (fun c4 => ?_) (fun c4 => ?_)
    · skip
      refine lv_iconst (v := (-1)) hx hb dX6_laid_37 (by decide) ?_
      exact W.iret (v := (-1)) hx hb hr (fun t ht hW => ⟨(-1), rfl, rfl, ht⟩) (fun _ h => by cases h) dX6_laid_38
    · skip
      refine lv_iload_n hx hb dX6_laid_23 rfl (lv_at hl 3 rfl) ?_
      refine lv_aload hx hb dX6_laid_24 (lv_at hl 0 rfl) ?_
      refine va_get (D := G) (ci := 2) (v := .int 0) (C := RX3) (T := TX3) (N := 6) hx hb hts i_c_X6_laid0_X3 hown hK hP 3 rfl rfl 4 (by decide) (hts (.fieldLink RX6 244 "TileHouse$Tiles" "laidDown" "I") (by decide +kernel)) (fun _ h9 => h9) rfl dX6_laid_26 ?_
      refine lv_icmp_ge (tgt := 37) hx hb dX6_laid_29 (by decide) (fun _ => ?_) (fun c9 => absurd (i_nn (by assumption)) c9)
      refine lv_iconst (v := (-1)) hx hb dX6_laid_37 (by decide) ?_
      exact W.iret (v := (-1)) hx hb hr (fun t ht hW => ⟨(-1), rfl, rfl, ht⟩) (fun _ h => by cases h) dX6_laid_38
  · skip
    refine lv_if_ne (tgt := 9) hx hb dX6_laid_4 (by decide) (fun c9 => absurd (by decide) c9) (fun _ => ?_)
    refine lv_iconst (v := (-1)) hx hb dX6_laid_7 (by decide) ?_
    exact W.iret (v := (-1)) hx hb hr (fun t ht hW => ⟨(-1), rfl, rfl, ht⟩) (fun _ h => by cases h) dX6_laid_8
def v_c_X3_waitsFor0 : List Cond := .code yX3_waitsFor cX3_waitsFor 3 (some .boolean) :: ([.methodLink RX3 48 yX3_size, .instanceMethod yX3_size, .selects RX3 yX3_size yX3_size, .initialized RX3] ++ (v_c_X3_size ++ ([])))
theorem vg_c_X3_waitsFor0 : ∀ w ∈ v_c_X3_waitsFor0, goodWord w = true := vg_c (c := .code yX3_waitsFor cX3_waitsFor 3 (some .boolean)) (l := [.methodLink RX3 48 yX3_size, .instanceMethod yX3_size, .selects RX3 yX3_size yX3_size, .initialized RX3]) (by decide +kernel) (vg_a vg_c_X3_size (vg_nil))
theorem g_c_X3_waitsFor0_c_X3_size_48 : GoodIn v_c_X3_waitsFor0 (wsV RX3 48 RX3 yX3_size v_c_X3_size) := goodIn_app (goodIn_of _ (by decide +kernel)) (fun w h => ⟨List.mem_cons_of_mem _ (List.mem_append_right _ (List.mem_append_left _ h)), good_of_word (vg_c_X3_size w h)⟩)
set_option maxHeartbeats 4000000 in
set_option maxRecDepth 100000 in
theorem c_X3_waitsFor0 (l : Launch) (G : va_G) (k : Nat → ClassId) (h0 : Nat) (p0 : Int32) (z0 : Value) (z1 : Value) (z2 : Value) (z3 : Value) : Met l yX3_waitsFor v_c_X3_waitsFor0 ({ frames := 1, cells := 0, slots := 0, locals := 20 }) (va_Pc [.ref h0, .int p0] (pr G k [(h0, .inr (2, [z0, z1, z2, z3, .int 0, .int 0]))])) (vp_Si (fun r => r = 0)) 0 0 (fun _ => False) := by
  refine Met.ofW (cc := cX3_waitsFor) (maxL := 3) (ret := (some .boolean)) (by decide) rfl ?_
  intro p e s m args below meth c s₁ B hml hv
  obtain ⟨rfl, hP, hK, hN⟩ := hv
  have hx := B.exec
  have hb := B.bytes
  have hr := B.returns
  have hts := atoms_spec (ws := v_c_X3_waitsFor0) B.pre
  have hown : s.vm.findClass RX3 = some m.cls := findClass_of_methodNamed B.named
  have hlocks := B.notSynchronized
  have hl := lv_entry ([.ref h0, .int p0]) (n := 3) (Nat.le_of_ble_eq_true rfl)
  rw [lg_entry_eq]
  generalize (lg_sl ([.ref h0, .int p0]) ++ List.replicate (3 - (lg_sl ([.ref h0, .int p0])).length) Slot.unset).toArray = ls at hl ⊢
  have hl : lv_has ls 3 [(0, .ref h0), (1, .int p0)] := hl
  refine lv_aload_n hx hb dX3_waitsFor_0 rfl (lv_at hl 0 rfl) ?_
  have hPc := hP.sub (ws' := [(h0, .inr (2, [z0, z1, z2, z3, .int 0, .int 0]))]) [0] rfl
  refine q_calli (va_runV (As := []) (rest := []) ⟨hx, hb, hml, hown, hts⟩ (c_X3_size l G k h0 0 0 (z0) (z1) (z2) (z3)) (cwV 0 hts g_c_X3_waitsFor0_c_X3_size_48 rfl rfl rfl (by decide +kernel) ⟨Nat.le_of_ble_eq_true rfl, Nat.le_of_ble_eq_true rfl⟩) ⟨pr_bl, va_recv hK hPc (ci := 2) (q0 := 0) rfl rfl, pr_pre hPc hK hN⟩ rfl rfl hl.1 rfl (lv_room (Nat.le_of_ble_eq_true rfl)) dX3_waitsFor_1 ⟨Nat.le_of_ble_eq_true rfl, Nat.le_of_ble_eq_true rfl⟩) (fun r1 hr1 => ?_)
  obtain rfl : r1 = 0 := hr1.trans (by decide)
  refine lv_bipush (v := 13) hx hb dX3_waitsFor_4 (by decide) ?_
  refine lv_icmp_ne (tgt := 26) hx hb dX3_waitsFor_6 (by decide) (fun _ => ?_) (fun c9 => absurd c9 (by decide))
  refine lv_iconst (v := 0) hx hb dX3_waitsFor_26 (by decide) ?_
  exact W.zret (v := 0) hx hb hr rfl (fun t ht hW => ⟨0, rfl, rfl, ht⟩) (fun _ h => by cases h) dX3_waitsFor_27
def v_c_X3_waiting0 : List Cond := .code yX3_waiting cX3_waiting 4 (some .long) :: ([.methodLink RX3 45 yX3_waitsFor, .instanceMethod yX3_waitsFor, .selects RX3 yX3_waitsFor yX3_waitsFor, .initialized RX3] ++ (v_c_X3_waitsFor0 ++ ([])))
theorem vg_c_X3_waiting0 : ∀ w ∈ v_c_X3_waiting0, goodWord w = true := vg_c (c := .code yX3_waiting cX3_waiting 4 (some .long)) (l := [.methodLink RX3 45 yX3_waitsFor, .instanceMethod yX3_waitsFor, .selects RX3 yX3_waitsFor yX3_waitsFor, .initialized RX3]) (by decide +kernel) (vg_a vg_c_X3_waitsFor0 (vg_nil))
theorem g_c_X3_waiting0_c_X3_waitsFor0_45 : GoodIn v_c_X3_waiting0 (wsV RX3 45 RX3 yX3_waitsFor v_c_X3_waitsFor0) := goodIn_app (goodIn_of _ (by decide +kernel)) (fun w h => ⟨List.mem_cons_of_mem _ (List.mem_append_right _ (List.mem_append_left _ h)), good_of_word (vg_c_X3_waitsFor0 w h)⟩)
set_option maxHeartbeats 4000000 in
set_option maxRecDepth 100000 in
theorem c_X3_waiting0 (l : Launch) (G : va_G) (k : Nat → ClassId) (h0 : Nat) (z0 : Value) (z1 : Value) (z2 : Value) (z3 : Value) : Met l yX3_waiting v_c_X3_waiting0 ({ frames := 2, cells := 0, slots := 0, locals := 42 }) (va_Pc [.ref h0] (pr G k [(h0, .inr (2, [z0, z1, z2, z3, .int 0, .int 0]))])) (vp_Sl (fun r => r = 0)) 0 0 (fun _ => False) := by
  refine Met.ofW (cc := cX3_waiting) (maxL := 4) (ret := (some .long)) (by decide) rfl ?_
  intro p e s m args below meth c s₁ B hml hv
  obtain ⟨rfl, hP, hK, hN⟩ := hv
  have hx := B.exec
  have hb := B.bytes
  have hr := B.returns
  have hts := atoms_spec (ws := v_c_X3_waiting0) B.pre
  have hown : s.vm.findClass RX3 = some m.cls := findClass_of_methodNamed B.named
  have hlocks := B.notSynchronized
  have hl := lv_entry ([.ref h0]) (n := 4) (Nat.le_of_ble_eq_true rfl)
  rw [lg_entry_eq]
  generalize (lg_sl ([.ref h0]) ++ List.replicate (4 - (lg_sl ([.ref h0])).length) Slot.unset).toArray = ls at hl ⊢
  have hl : lv_has ls 4 [(0, .ref h0)] := hl
  refine lv_lconst (v := 0) hx hb dX3_waiting_0 (by decide) ?_
  refine lv_lstore_n (lv' := [(1, .long 0), (0, .ref h0)]) hx hb dX3_waiting_1 rfl hl (by decide) rfl (fun ls hl => ?_)
  refine lv_iconst (v := 0) hx hb dX3_waiting_2 (by decide) ?_
  refine lv_istore_n (lv' := [(3, .int 0), (1, .long 0), (0, .ref h0)]) hx hb dX3_waiting_3 rfl hl (by decide) rfl (fun ls hl => ?_)
  obtain ⟨j1, kj1, ej1, hj1⟩ : ∃ j : Nat, j = 0 ∧ nI j = (0 : Int32) ∧ j ≤ 34 := ⟨0, rfl, rfl, by decide⟩
  replace hl : lv_has ls 4 [(3, .int (nI j1)), (1, .long 0), (0, .ref h0)] := by rw [ej1]; exact hl
  clear kj1 ej1
  obtain ⟨nj1, hnj1⟩ : ∃ n : Nat, 34 < j1 + n := ⟨35, by omega⟩
  induction nj1 generalizing j1 ls  with
  | zero => exact absurd hnj1 (by omega)
  | succ nj1 ihj1 =>
    refine lv_iload_n hx hb dX3_waiting_4 rfl (lv_at hl 0 rfl) ?_
    refine lv_bipush (v := 34) hx hb dX3_waiting_5 (by decide) ?_
    refine lv_icmp_ge (tgt := 30) hx hb dX3_waiting_7 (by decide) (fun c2 => ?_) (fun c2 => ?_)
    · skip
      have hge : 34 ≤ j1 := (nI_leI (a := 34) (b := j1) (by omega) (by omega)).mp c2
      refine lv_lload_n hx hb dX3_waiting_30 rfl (lv_at hl 1 rfl) ?_
      exact W.lret (v := 0) hx hb hr (fun t ht hW => ⟨0, rfl, rfl, ht⟩) (fun _ h => by cases h) dX3_waiting_31
    · skip
      have hltj1 : j1 < 34 := Nat.lt_of_not_le (fun h9 => c2 (nI_le h9 (by omega)))
      refine lv_aload_n hx hb dX3_waiting_10 rfl (lv_at hl 2 rfl) ?_
      refine lv_iload_n hx hb dX3_waiting_11 rfl (lv_at hl 0 rfl) ?_
      have hPc := hP.sub (ws' := [(h0, .inr (2, [z0, z1, z2, z3, .int 0, .int 0]))]) [0] rfl
      refine q_calli (va_runV (As := [.int (nI j1)]) (rest := []) ⟨hx, hb, hml, hown, hts⟩ (c_X3_waitsFor0 l G k h0 (nI j1) (z0) (z1) (z2) (z3)) (cwV 1 hts g_c_X3_waiting0_c_X3_waitsFor0_45 rfl rfl rfl (by decide +kernel) ⟨Nat.le_of_ble_eq_true rfl, Nat.le_of_ble_eq_true rfl⟩) ⟨pr_bl, va_recv hK hPc (ci := 2) (q0 := 0) rfl rfl, pr_pre hPc hK hN⟩ rfl rfl hl.1 rfl (lv_room (Nat.le_of_ble_eq_true rfl)) dX3_waiting_12 ⟨Nat.le_of_ble_eq_true rfl, Nat.le_of_ble_eq_true rfl⟩) (fun r3 hr3 => ?_)
      obtain rfl : r3 = 0 := hr3
      refine lv_if_eq (tgt := 24) hx hb dX3_waiting_15 (by decide) (fun _ => ?_) (fun c9 => absurd (by decide) c9)
      obtain ⟨v4, ev4⟩ : ∃ y : Int32, y = (nI j1) + 1 := ⟨_, rfl⟩
      have nv4 : v4 = nI (j1 + 1) := by rw [ev4]; exact nI_add (j1) (1)
      refine lv_iinc (v := v4) (lv' := [(3, .int v4), (1, .long 0), (0, .ref h0)]) hx hb dX3_waiting_24 hl (k := 0) rfl (by rw [ev4]; rfl) (by decide) rfl (fun ls hl => ?_)
      refine lv_goto (tgt := 4) hx hb dX3_waiting_27 (by decide) ?_
      exact ihj1 (j1 := j1 + 1) (hj1 := by omega) (hnj1 := by omega) (ls := ls) (hl := by rw [nI_succ, ← ev4]; exact lv_sub hl [0, 1, 2] rfl)
def v_c_X6_waits0 : List Cond := .code yX6_waits cX6_waits 2 (some .long) :: ([.methodLink RX6 213 yX6_isSeat, .static yX6_isSeat, .initialized RX6, .methodLink RX6 65 yX6_at, .instanceMethod yX6_at, .selects RX6 yX6_at yX6_at, .fieldLink RX6 72 "TileHouse$Seat" "tiles" "LTileHouse$Tiles;", .methodLink RX6 222 yX3_waiting, .instanceMethod yX3_waiting, .selects RX3 yX3_waiting yX3_waiting, .initialized RX3] ++ (v_c_X6_isSeat ++ (v_c_X6_at ++ (wsX20 ++ (v_c_X3_waiting0 ++ ([]))))))
theorem vg_c_X6_waits0 : ∀ w ∈ v_c_X6_waits0, goodWord w = true := vg_c (c := .code yX6_waits cX6_waits 2 (some .long)) (l := [.methodLink RX6 213 yX6_isSeat, .static yX6_isSeat, .initialized RX6, .methodLink RX6 65 yX6_at, .instanceMethod yX6_at, .selects RX6 yX6_at yX6_at, .fieldLink RX6 72 "TileHouse$Seat" "tiles" "LTileHouse$Tiles;", .methodLink RX6 222 yX3_waiting, .instanceMethod yX3_waiting, .selects RX3 yX3_waiting yX3_waiting, .initialized RX3]) (by decide +kernel) (vg_a vg_c_X6_isSeat (vg_a vg_c_X6_at (vg_a vgX2 (vg_a vg_c_X3_waiting0 (vg_nil)))))
theorem i_c_X6_waits0_X2 : ∀ w ∈ u_ws RX2 TX2 10, w ∈ v_c_X6_waits0 := fun _ h => List.mem_cons_of_mem _ (List.mem_append_right _ (List.mem_append_right _ (List.mem_append_right _ (List.mem_append_left _ h))))
theorem g_c_X6_waits0_c_X6_isSeat_213 : GoodIn v_c_X6_waits0 (wsS RX6 213 yX6_isSeat v_c_X6_isSeat) := goodIn_app (goodIn_of _ (by decide +kernel)) (fun w h => ⟨List.mem_cons_of_mem _ (List.mem_append_right _ (List.mem_append_left _ h)), good_of_word (vg_c_X6_isSeat w h)⟩)
theorem g_c_X6_waits0_c_X6_at_65 : GoodIn v_c_X6_waits0 (wsV RX6 65 RX6 yX6_at v_c_X6_at) := goodIn_app (goodIn_of _ (by decide +kernel)) (fun w h => ⟨List.mem_cons_of_mem _ (List.mem_append_right _ (List.mem_append_right _ (List.mem_append_left _ h))), good_of_word (vg_c_X6_at w h)⟩)
theorem g_c_X6_waits0_c_X3_waiting0_222 : GoodIn v_c_X6_waits0 (wsV RX6 222 RX3 yX3_waiting v_c_X3_waiting0) := goodIn_app (goodIn_of _ (by decide +kernel)) (fun w h => ⟨List.mem_cons_of_mem _ (List.mem_append_right _ (List.mem_append_right _ (List.mem_append_right _ (List.mem_append_right _ (List.mem_append_left _ h))))), good_of_word (vg_c_X3_waiting0 w h)⟩)
set_option maxHeartbeats 4000000 in
set_option maxRecDepth 100000 in
theorem c_X6_waits0 (l : Launch) (G : va_G) (k : Nat → ClassId) (h0 : Nat) (pl : Nat) (f : Nat → Option Nat) (sa : Nat → Nat) (hf : ∀ j, j < 4 → f j = some (sa j)) (s0 : Nat) (t0 : Nat) (p0 : Int32) (hs : vp_in p0 4 → sa (p0 &&& 3).toNatClampNeg = s0) (x1 : Value) (x2 : Value) (x3 : Value) (x4 : Value) (x5 : Value) (x6 : Value) (x7 : Value) (x8 : Value) (x9 : Value) (x10 : Value) (x11 : Value) (x12 : Value) (x13 : Value) (x14 : Value) (x15 : Value) (x16 : Value) (x17 : Value) (x18 : Value) (y1 : Value) (y2 : Value) (y3 : Value) (y4 : Value) (y5 : Value) (y6 : Value) (y7 : Value) (y8 : Value) (y9 : Value) (z0 : Value) (z1 : Value) (z2 : Value) (z3 : Value) : Met l yX6_waits v_c_X6_waits0 ({ frames := 3, cells := 0, slots := 0, locals := 65 }) (va_Pc [.ref h0, .int p0] (pr G k [(h0, .inr (5, [.ref pl, x1, x2, x3, x4, x5, x6, x7, x8, x9, x10, x11, x12, x13, x14, x15, x16, x17, x18])), (pl, .inl (k 3, 4, .inr (.inr (.inr (.inr f))))), (s0, .inr (1, [.ref t0, y1, y2, y3, y4, y5, y6, y7, y8, y9])), (t0, .inr (2, [z0, z1, z2, z3, .int 0, .int 0]))])) (vp_Sl (fun r => r = 0)) 0 0 (fun _ => False) := by
  refine Met.ofW (cc := cX6_waits) (maxL := 2) (ret := (some .long)) (by decide) rfl ?_
  intro p e s m args below meth c s₁ B hml hv
  obtain ⟨rfl, hP, hK, hN⟩ := hv
  have hx := B.exec
  have hb := B.bytes
  have hr := B.returns
  have hts := atoms_spec (ws := v_c_X6_waits0) B.pre
  have hown : s.vm.findClass RX6 = some m.cls := findClass_of_methodNamed B.named
  have hlocks := B.notSynchronized
  have hl := lv_entry ([.ref h0, .int p0]) (n := 2) (Nat.le_of_ble_eq_true rfl)
  rw [lg_entry_eq]
  generalize (lg_sl ([.ref h0, .int p0]) ++ List.replicate (2 - (lg_sl ([.ref h0, .int p0])).length) Slot.unset).toArray = ls at hl ⊢
  have hl : lv_has ls 2 [(0, .ref h0), (1, .int p0)] := hl
  refine lv_iload_n hx hb dX6_waits_0 rfl (lv_at hl 1 rfl) ?_
  have hPc := hP.sub (ws' := []) [] rfl
  refine q_calli (va_runS (As := [.int p0]) (rest := []) ⟨hx, hb, hml, hown, hts⟩ (c_X6_isSeat l G k p0) (cwS 1 hts g_c_X6_waits0_c_X6_isSeat_213 rfl rfl rfl (by decide +kernel) ⟨Nat.le_of_ble_eq_true rfl, Nat.le_of_ble_eq_true rfl⟩) ⟨pr_bl, pr_pre hPc hK hN⟩ rfl rfl hl.1 rfl (lv_room (Nat.le_of_ble_eq_true rfl)) dX6_waits_1 ⟨Nat.le_of_ble_eq_true rfl, Nat.le_of_ble_eq_true rfl⟩) (fun r1 hr1 => ?_)
  rcases hr1 with ⟨rfl, h2⟩ | ⟨rfl, h2⟩
  · skip
    refine lv_if_eq (tgt := 21) hx hb dX6_waits_4 (by decide) (fun c9 => absurd c9 (by decide)) (fun _ => ?_)
    refine lv_aload_n hx hb dX6_waits_7 rfl (lv_at hl 0 rfl) ?_
    refine lv_iload_n hx hb dX6_waits_8 rfl (lv_at hl 1 rfl) ?_
    have hPc := hP.sub (ws' := [(h0, .inr (5, [.ref pl, x1, x2, x3, x4, x5, x6, x7, x8, x9, x10, x11, x12, x13, x14, x15, x16, x17, x18])), (pl, .inl (k 3, 4, .inr (.inr (.inr (.inr f)))))]) [0, 1] rfl
    refine q_callr (va_runV (As := [.int p0]) (rest := []) ⟨hx, hb, hml, hown, hts⟩ (c_X6_at l G k h0 pl f sa hf p0 (x1) (x2) (x3) (x4) (x5) (x6) (x7) (x8) (x9) (x10) (x11) (x12) (x13) (x14) (x15) (x16) (x17) (x18)) (cwV 1 hts g_c_X6_waits0_c_X6_at_65 rfl rfl rfl (by decide +kernel) ⟨Nat.le_of_ble_eq_true rfl, Nat.le_of_ble_eq_true rfl⟩) ⟨pr_bl, va_recv hK hPc (ci := 5) (q0 := 0) rfl rfl, pr_pre hPc hK hN⟩ rfl rfl hl.1 rfl (lv_room (Nat.le_of_ble_eq_true rfl)) dX6_waits_9 ⟨Nat.le_of_ble_eq_true rfl, Nat.le_of_ble_eq_true rfl⟩) (fun r3 hr3 => ?_)
    rw [show r3 = s0 from hr3.trans (hs h2)]
    refine va_get (D := G) (ci := 1) (v := .ref t0) (C := RX2) (T := TX2) (N := 10) hx hb hts i_c_X6_waits0_X2 hown hK hP 2 rfl rfl 0 (by decide) (hts (.fieldLink RX6 72 "TileHouse$Seat" "tiles" "LTileHouse$Tiles;") (by decide +kernel)) (fun _ h9 => h9) rfl dX6_waits_12 ?_
    have hPc := hP.sub (ws' := [(t0, .inr (2, [z0, z1, z2, z3, .int 0, .int 0]))]) [3] rfl
    refine q_calll (va_runV (As := []) (rest := []) ⟨hx, hb, hml, hown, hts⟩ (c_X3_waiting0 l G k t0 (z0) (z1) (z2) (z3)) (cwV 0 hts g_c_X6_waits0_c_X3_waiting0_222 rfl rfl rfl (by decide +kernel) ⟨Nat.le_of_ble_eq_true rfl, Nat.le_of_ble_eq_true rfl⟩) ⟨pr_bl, va_recv hK hPc (ci := 2) (q0 := 0) rfl rfl, pr_pre hPc hK hN⟩ rfl rfl hl.1 rfl (lv_room (Nat.le_of_ble_eq_true rfl)) dX6_waits_15 ⟨Nat.le_of_ble_eq_true rfl, Nat.le_of_ble_eq_true rfl⟩) (fun r4 hr4 => ?_)
    obtain rfl : r4 = 0 := hr4
    refine lv_goto (tgt := 22) hx hb dX6_waits_18 (by decide) ?_
    exact W.lret (v := 0) hx hb hr (fun t ht hW => ⟨0, rfl, rfl, ht⟩) (fun _ h => by cases h) dX6_waits_22
  · skip
    refine lv_if_eq (tgt := 21) hx hb dX6_waits_4 (by decide) (fun _ => ?_) (fun c9 => absurd (by decide) c9)
    refine lv_lconst (v := 0) hx hb dX6_waits_21 (by decide) ?_
    exact W.lret (v := 0) hx hb hr (fun t ht hW => ⟨0, rfl, rfl, ht⟩) (fun _ h => by cases h) dX6_waits_22
def seatF (p0 p1 : Int32) : Int32 := if p1 = 0 then 25000 else if p1 = 3 then p0 else if p1 = 1 ∨ p1 = 2 ∨ p1 = 4 ∨ p1 = 5 ∨ p1 = 6 ∨ p1 = 7 then 0 else -1
theorem seatF_out {p0 p1 : Int32} (h : p1.toInt < 0 ∨ 7 < p1.toInt) : seatF p0 p1 = -1 := by
  have h9 : ∀ v : Int32, 0 ≤ v.toInt → v.toInt ≤ 7 → ¬ p1 = v := fun v a b e => by subst e; omega
  unfold seatF
  rw [if_neg (h9 0 (by decide) (by decide)), if_neg (h9 3 (by decide) (by decide)), if_neg]
  rintro (e | e | e | e | e | e)
  · exact h9 1 (by decide) (by decide) e
  · exact h9 2 (by decide) (by decide) e
  · exact h9 4 (by decide) (by decide) e
  · exact h9 5 (by decide) (by decide) e
  · exact h9 6 (by decide) (by decide) e
  · exact h9 7 (by decide) (by decide) e
theorem and3 {p : Int32} (h : vp_in p 4) : p &&& 3 = p := by
  obtain ⟨j, hj, rfl⟩ := vp_in_of h (by decide)
  rcases (show j = 0 ∨ j = 1 ∨ j = 2 ∨ j = 3 by omega) with rfl | rfl | rfl | rfl <;> decide
def v_c_X6_seat0 : List Cond := .code yX6_seat cX6_seat 4 (some .int) :: ([.methodLink RX6 213 yX6_isSeat, .static yX6_isSeat, .initialized RX6, .methodLink RX6 65 yX6_at, .instanceMethod yX6_at, .selects RX6 yX6_at yX6_at, .fieldLink RX6 203 "TileHouse$Seat" "points" "I", .fieldLink RX6 110 "TileHouse$Seat" "bet" "I", .fieldLink RX6 219 "TileHouse$Seat" "letGo" "Z", .methodLink RX6 263 yX6_windOf, .instanceMethod yX6_windOf, .selects RX6 yX6_windOf yX6_windOf, .fieldLink RX6 107 "TileHouse$Seat" "discards" "I", .fieldLink RX6 72 "TileHouse$Seat" "tiles" "LTileHouse$Tiles;", .fieldLink RX6 244 "TileHouse$Tiles" "laidDown" "I", .methodLink RX6 266 yX3_isOpen, .instanceMethod yX3_isOpen, .selects RX3 yX3_isOpen yX3_isOpen, .initialized RX3, .fieldLink RX6 216 "TileHouse$Seat" "says" "Z"] ++ (v_c_X6_isSeat ++ (v_c_X6_at ++ (wsX20 ++ (v_c_X6_windOf ++ (wsX30 ++ (v_c_X3_isOpen0 ++ ([]))))))))
theorem vg_c_X6_seat0 : ∀ w ∈ v_c_X6_seat0, goodWord w = true := vg_c (c := .code yX6_seat cX6_seat 4 (some .int)) (l := [.methodLink RX6 213 yX6_isSeat, .static yX6_isSeat, .initialized RX6, .methodLink RX6 65 yX6_at, .instanceMethod yX6_at, .selects RX6 yX6_at yX6_at, .fieldLink RX6 203 "TileHouse$Seat" "points" "I", .fieldLink RX6 110 "TileHouse$Seat" "bet" "I", .fieldLink RX6 219 "TileHouse$Seat" "letGo" "Z", .methodLink RX6 263 yX6_windOf, .instanceMethod yX6_windOf, .selects RX6 yX6_windOf yX6_windOf, .fieldLink RX6 107 "TileHouse$Seat" "discards" "I", .fieldLink RX6 72 "TileHouse$Seat" "tiles" "LTileHouse$Tiles;", .fieldLink RX6 244 "TileHouse$Tiles" "laidDown" "I", .methodLink RX6 266 yX3_isOpen, .instanceMethod yX3_isOpen, .selects RX3 yX3_isOpen yX3_isOpen, .initialized RX3, .fieldLink RX6 216 "TileHouse$Seat" "says" "Z"]) (by decide +kernel) (vg_a vg_c_X6_isSeat (vg_a vg_c_X6_at (vg_a vgX2 (vg_a vg_c_X6_windOf (vg_a vgX3 (vg_a vg_c_X3_isOpen0 (vg_nil)))))))
theorem i_c_X6_seat0_X2 : ∀ w ∈ u_ws RX2 TX2 10, w ∈ v_c_X6_seat0 := fun _ h => List.mem_cons_of_mem _ (List.mem_append_right _ (List.mem_append_right _ (List.mem_append_right _ (List.mem_append_left _ h))))
theorem i_c_X6_seat0_X3 : ∀ w ∈ u_ws RX3 TX3 6, w ∈ v_c_X6_seat0 := fun _ h => List.mem_cons_of_mem _ (List.mem_append_right _ (List.mem_append_right _ (List.mem_append_right _ (List.mem_append_right _ (List.mem_append_right _ (List.mem_append_left _ h))))))
theorem g_c_X6_seat0_c_X6_isSeat_213 : GoodIn v_c_X6_seat0 (wsS RX6 213 yX6_isSeat v_c_X6_isSeat) := goodIn_app (goodIn_of _ (by decide +kernel)) (fun w h => ⟨List.mem_cons_of_mem _ (List.mem_append_right _ (List.mem_append_left _ h)), good_of_word (vg_c_X6_isSeat w h)⟩)
theorem g_c_X6_seat0_c_X6_at_65 : GoodIn v_c_X6_seat0 (wsV RX6 65 RX6 yX6_at v_c_X6_at) := goodIn_app (goodIn_of _ (by decide +kernel)) (fun w h => ⟨List.mem_cons_of_mem _ (List.mem_append_right _ (List.mem_append_right _ (List.mem_append_left _ h))), good_of_word (vg_c_X6_at w h)⟩)
theorem g_c_X6_seat0_c_X6_windOf_263 : GoodIn v_c_X6_seat0 (wsV RX6 263 RX6 yX6_windOf v_c_X6_windOf) := goodIn_app (goodIn_of _ (by decide +kernel)) (fun w h => ⟨List.mem_cons_of_mem _ (List.mem_append_right _ (List.mem_append_right _ (List.mem_append_right _ (List.mem_append_right _ (List.mem_append_left _ h))))), good_of_word (vg_c_X6_windOf w h)⟩)
theorem g_c_X6_seat0_c_X3_isOpen0_266 : GoodIn v_c_X6_seat0 (wsV RX6 266 RX3 yX3_isOpen v_c_X3_isOpen0) := goodIn_app (goodIn_of _ (by decide +kernel)) (fun w h => ⟨List.mem_cons_of_mem _ (List.mem_append_right _ (List.mem_append_right _ (List.mem_append_right _ (List.mem_append_right _ (List.mem_append_right _ (List.mem_append_right _ (List.mem_append_left _ h))))))), good_of_word (vg_c_X3_isOpen0 w h)⟩)
set_option maxHeartbeats 4000000 in
set_option maxRecDepth 100000 in
theorem c_X6_seat0 (l : Launch) (G : va_G) (k : Nat → ClassId) (h0 : Nat) (pl : Nat) (f : Nat → Option Nat) (sa : Nat → Nat) (hf : ∀ j, j < 4 → f j = some (sa j)) (s0 : Nat) (t0 : Nat) (p0 : Int32) (p1 : Int32) (hs : vp_in p0 4 → sa (p0 &&& 3).toNatClampNeg = s0) (x1 : Value) (x2 : Value) (x3 : Value) (x4 : Value) (x5 : Value) (x6 : Value) (x7 : Value) (x8 : Value) (x10 : Value) (x11 : Value) (x12 : Value) (x13 : Value) (x14 : Value) (x15 : Value) (x16 : Value) (x17 : Value) (x18 : Value) (y1 : Value) (y3 : Value) (y6 : Value) (y7 : Value) (z0 : Value) (z1 : Value) (z2 : Value) (z3 : Value) (z5 : Value) : Met l yX6_seat v_c_X6_seat0 ({ frames := 1, cells := 0, slots := 0, locals := 21 }) (va_Pc [.ref h0, .int p0, .int p1] (pr G k [(h0, .inr (5, [.ref pl, x1, x2, x3, x4, x5, x6, x7, x8, .int 0, x10, x11, x12, x13, x14, x15, x16, x17, x18])), (pl, .inl (k 3, 4, .inr (.inr (.inr (.inr f))))), (s0, .inr (1, [.ref t0, y1, .int 0, y3, .int 25000, .int 0, y6, y7, .int 0, .int 0])), (t0, .inr (2, [z0, z1, z2, z3, .int 0, z5]))])) (vp_Si (fun r => (vp_in p0 4 ∧ r = seatF p0 p1) ∨ (¬ vp_in p0 4 ∧ r = (-1)))) 0 0 (fun _ => False) := by
  refine Met.ofW (cc := cX6_seat) (maxL := 4) (ret := (some .int)) (by decide) rfl ?_
  intro p e s m args below meth c s₁ B hml hv
  obtain ⟨rfl, hP, hK, hN⟩ := hv
  have hx := B.exec
  have hb := B.bytes
  have hr := B.returns
  have hts := atoms_spec (ws := v_c_X6_seat0) B.pre
  have hown : s.vm.findClass RX6 = some m.cls := findClass_of_methodNamed B.named
  have hlocks := B.notSynchronized
  have hl := lv_entry ([.ref h0, .int p0, .int p1]) (n := 4) (Nat.le_of_ble_eq_true rfl)
  rw [lg_entry_eq]
  generalize (lg_sl ([.ref h0, .int p0, .int p1]) ++ List.replicate (4 - (lg_sl ([.ref h0, .int p0, .int p1])).length) Slot.unset).toArray = ls at hl ⊢
  have hl : lv_has ls 4 [(0, .ref h0), (1, .int p0), (2, .int p1)] := hl
  refine lv_iload_n hx hb dX6_seat_0 rfl (lv_at hl 1 rfl) ?_
  have hPc := hP.sub (ws' := []) [] rfl
  refine q_calli (va_runS (As := [.int p0]) (rest := []) ⟨hx, hb, hml, hown, hts⟩ (c_X6_isSeat l G k p0) (cwS 1 hts g_c_X6_seat0_c_X6_isSeat_213 rfl rfl rfl (by decide +kernel) ⟨Nat.le_of_ble_eq_true rfl, Nat.le_of_ble_eq_true rfl⟩) ⟨pr_bl, pr_pre hPc hK hN⟩ rfl rfl hl.1 rfl (lv_room (Nat.le_of_ble_eq_true rfl)) dX6_seat_1 ⟨Nat.le_of_ble_eq_true rfl, Nat.le_of_ble_eq_true rfl⟩) (fun r1 hr1 => ?_)
  rcases hr1 with ⟨rfl, h2⟩ | ⟨rfl, h2⟩
  · skip
    refine lv_if_ne (tgt := 9) hx hb dX6_seat_4 (by decide) (fun _ => ?_) (fun c9 => absurd c9 (by decide))
    refine lv_aload_n hx hb dX6_seat_9 rfl (lv_at hl 0 rfl) ?_
    refine lv_iload_n hx hb dX6_seat_10 rfl (lv_at hl 1 rfl) ?_
    have hPc := hP.sub (ws' := [(h0, .inr (5, [.ref pl, x1, x2, x3, x4, x5, x6, x7, x8, .int 0, x10, x11, x12, x13, x14, x15, x16, x17, x18])), (pl, .inl (k 3, 4, .inr (.inr (.inr (.inr f)))))]) [0, 1] rfl
    refine q_callr (va_runV (As := [.int p0]) (rest := []) ⟨hx, hb, hml, hown, hts⟩ (c_X6_at l G k h0 pl f sa hf p0 (x1) (x2) (x3) (x4) (x5) (x6) (x7) (x8) (.int 0) (x10) (x11) (x12) (x13) (x14) (x15) (x16) (x17) (x18)) (cwV 1 hts g_c_X6_seat0_c_X6_at_65 rfl rfl rfl (by decide +kernel) ⟨Nat.le_of_ble_eq_true rfl, Nat.le_of_ble_eq_true rfl⟩) ⟨pr_bl, va_recv hK hPc (ci := 5) (q0 := 0) rfl rfl, pr_pre hPc hK hN⟩ rfl rfl hl.1 rfl (lv_room (Nat.le_of_ble_eq_true rfl)) dX6_seat_11 ⟨Nat.le_of_ble_eq_true rfl, Nat.le_of_ble_eq_true rfl⟩) (fun r3 hr3 => ?_)
    rw [show r3 = s0 from hr3.trans (hs h2)]
    refine lv_astore_n (lv' := [(3, .ref s0), (0, .ref h0), (1, .int p0), (2, .int p1)]) hx hb dX6_seat_14 rfl hl (by decide) rfl (fun ls hl => ?_)
    refine lv_iload_n hx hb dX6_seat_15 rfl (lv_at hl 3 rfl) ?_
    rcases tsw7 p1 with hO | rfl | rfl | rfl | rfl | rfl | rfl | rfl | rfl
    · skip
      refine lv_tableOut (tgt := 135) hx hb dX6_seat_16 hO (by decide) ?_
      refine lv_iconst (v := (-1)) hx hb dX6_seat_135 (by decide) ?_
      exact W.iret (v := (-1)) hx hb hr (fun t ht hW => ⟨(-1), rfl, Or.inl ⟨h2, (seatF_out hO).symm⟩, ht⟩) (fun _ h => by cases h) dX6_seat_136
    · skip
      refine lv_tableIn (tgt := 64) hx hb dX6_seat_16 (by decide) (by decide) rfl (by decide) ?_
      refine lv_aload_n hx hb dX6_seat_64 rfl (lv_at hl 0 rfl) ?_
      refine va_get (D := G) (ci := 1) (v := .int 25000) (C := RX2) (T := TX2) (N := 10) hx hb hts i_c_X6_seat0_X2 hown hK hP 2 rfl rfl 4 (by decide) (hts (.fieldLink RX6 203 "TileHouse$Seat" "points" "I") (by decide +kernel)) (fun _ h9 => h9) rfl dX6_seat_65 ?_
      exact W.iret (v := 25000) hx hb hr (fun t ht hW => ⟨25000, rfl, Or.inl ⟨h2, rfl⟩, ht⟩) (fun _ h => by cases h) dX6_seat_68
    · skip
      refine lv_tableIn (tgt := 69) hx hb dX6_seat_16 (by decide) (by decide) rfl (by decide) ?_
      refine lv_aload_n hx hb dX6_seat_69 rfl (lv_at hl 0 rfl) ?_
      refine va_get (D := G) (ci := 1) (v := .int 0) (C := RX2) (T := TX2) (N := 10) hx hb hts i_c_X6_seat0_X2 hown hK hP 2 rfl rfl 5 (by decide) (hts (.fieldLink RX6 110 "TileHouse$Seat" "bet" "I") (by decide +kernel)) (fun _ h9 => h9) rfl dX6_seat_70 ?_
      exact W.iret (v := 0) hx hb hr (fun t ht hW => ⟨0, rfl, Or.inl ⟨h2, rfl⟩, ht⟩) (fun _ h => by cases h) dX6_seat_73
    · skip
      refine lv_tableIn (tgt := 74) hx hb dX6_seat_16 (by decide) (by decide) rfl (by decide) ?_
      refine lv_aload_n hx hb dX6_seat_74 rfl (lv_at hl 0 rfl) ?_
      refine va_get (D := G) (ci := 1) (v := .int 0) (C := RX2) (T := TX2) (N := 10) hx hb hts i_c_X6_seat0_X2 hown hK hP 2 rfl rfl 8 (by decide) (hts (.fieldLink RX6 219 "TileHouse$Seat" "letGo" "Z") (by decide +kernel)) (fun _ h9 => h9) rfl dX6_seat_75 ?_
      refine lv_if_eq (tgt := 85) hx hb dX6_seat_78 (by decide) (fun _ => ?_) (fun c9 => absurd (by decide) c9)
      refine lv_iconst (v := 0) hx hb dX6_seat_85 (by decide) ?_
      exact W.iret (v := 0) hx hb hr (fun t ht hW => ⟨0, rfl, Or.inl ⟨h2, rfl⟩, ht⟩) (fun _ h => by cases h) dX6_seat_86
    · skip
      refine lv_tableIn (tgt := 87) hx hb dX6_seat_16 (by decide) (by decide) rfl (by decide) ?_
      refine lv_aload_n hx hb dX6_seat_87 rfl (lv_at hl 1 rfl) ?_
      refine lv_iload_n hx hb dX6_seat_88 rfl (lv_at hl 2 rfl) ?_
      have hPc := hP.sub (ws' := [(h0, .inr (5, [.ref pl, x1, x2, x3, x4, x5, x6, x7, x8, .int 0, x10, x11, x12, x13, x14, x15, x16, x17, x18]))]) [0] rfl
      refine q_calli (va_runV (As := [.int p0]) (rest := []) ⟨hx, hb, hml, hown, hts⟩ (c_X6_windOf l G k h0 0 p0 (.ref pl) (x1) (x2) (x3) (x4) (x5) (x6) (x7) (x8) (x10) (x11) (x12) (x13) (x14) (x15) (x16) (x17) (x18)) (cwV 1 hts g_c_X6_seat0_c_X6_windOf_263 rfl rfl rfl (by decide +kernel) ⟨Nat.le_of_ble_eq_true rfl, Nat.le_of_ble_eq_true rfl⟩) ⟨pr_bl, va_recv hK hPc (ci := 5) (q0 := 0) rfl rfl, pr_pre hPc hK hN⟩ rfl rfl hl.1 rfl (lv_room (Nat.le_of_ble_eq_true rfl)) dX6_seat_89 ⟨Nat.le_of_ble_eq_true rfl, Nat.le_of_ble_eq_true rfl⟩) (fun r4 hr4 => ?_)
      exact W.iret (v := r4) hx hb hr (fun t ht hW => ⟨r4, rfl, Or.inl ⟨h2, hr4.trans (by rw [show p0 - 0 = p0 from Int32.sub_zero p0]; exact and3 h2)⟩, ht⟩) (fun _ h => by cases h) dX6_seat_92
    · skip
      refine lv_tableIn (tgt := 93) hx hb dX6_seat_16 (by decide) (by decide) rfl (by decide) ?_
      refine lv_aload_n hx hb dX6_seat_93 rfl (lv_at hl 0 rfl) ?_
      refine va_get (D := G) (ci := 1) (v := .int 0) (C := RX2) (T := TX2) (N := 10) hx hb hts i_c_X6_seat0_X2 hown hK hP 2 rfl rfl 2 (by decide) (hts (.fieldLink RX6 107 "TileHouse$Seat" "discards" "I") (by decide +kernel)) (fun _ h9 => h9) rfl dX6_seat_94 ?_
      exact W.iret (v := 0) hx hb hr (fun t ht hW => ⟨0, rfl, Or.inl ⟨h2, rfl⟩, ht⟩) (fun _ h => by cases h) dX6_seat_97
    · skip
      refine lv_tableIn (tgt := 98) hx hb dX6_seat_16 (by decide) (by decide) rfl (by decide) ?_
      refine lv_aload_n hx hb dX6_seat_98 rfl (lv_at hl 0 rfl) ?_
      refine va_get (D := G) (ci := 1) (v := .ref t0) (C := RX2) (T := TX2) (N := 10) hx hb hts i_c_X6_seat0_X2 hown hK hP 2 rfl rfl 0 (by decide) (hts (.fieldLink RX6 72 "TileHouse$Seat" "tiles" "LTileHouse$Tiles;") (by decide +kernel)) (fun _ h9 => h9) rfl dX6_seat_99 ?_
      refine va_get (D := G) (ci := 2) (v := .int 0) (C := RX3) (T := TX3) (N := 6) hx hb hts i_c_X6_seat0_X3 hown hK hP 3 rfl rfl 4 (by decide) (hts (.fieldLink RX6 244 "TileHouse$Tiles" "laidDown" "I") (by decide +kernel)) (fun _ h9 => h9) rfl dX6_seat_102 ?_
      exact W.iret (v := 0) hx hb hr (fun t ht hW => ⟨0, rfl, Or.inl ⟨h2, rfl⟩, ht⟩) (fun _ h => by cases h) dX6_seat_105
    · skip
      refine lv_tableIn (tgt := 106) hx hb dX6_seat_16 (by decide) (by decide) rfl (by decide) ?_
      refine lv_aload_n hx hb dX6_seat_106 rfl (lv_at hl 0 rfl) ?_
      refine va_get (D := G) (ci := 1) (v := .ref t0) (C := RX2) (T := TX2) (N := 10) hx hb hts i_c_X6_seat0_X2 hown hK hP 2 rfl rfl 0 (by decide) (hts (.fieldLink RX6 72 "TileHouse$Seat" "tiles" "LTileHouse$Tiles;") (by decide +kernel)) (fun _ h9 => h9) rfl dX6_seat_107 ?_
      have hPc := hP.sub (ws' := [(t0, .inr (2, [z0, z1, z2, z3, .int 0, z5]))]) [3] rfl
      refine q_calli (va_runV (As := []) (rest := []) ⟨hx, hb, hml, hown, hts⟩ (c_X3_isOpen0 l G k t0 (z0) (z1) (z2) (z3) (z5)) (cwV 0 hts g_c_X6_seat0_c_X3_isOpen0_266 rfl rfl rfl (by decide +kernel) ⟨Nat.le_of_ble_eq_true rfl, Nat.le_of_ble_eq_true rfl⟩) ⟨pr_bl, va_recv hK hPc (ci := 2) (q0 := 0) rfl rfl, pr_pre hPc hK hN⟩ rfl rfl hl.1 rfl (lv_room (Nat.le_of_ble_eq_true rfl)) dX6_seat_110 ⟨Nat.le_of_ble_eq_true rfl, Nat.le_of_ble_eq_true rfl⟩) (fun r5 hr5 => ?_)
      obtain rfl : r5 = 0 := hr5
      refine lv_if_eq (tgt := 120) hx hb dX6_seat_113 (by decide) (fun _ => ?_) (fun c9 => absurd (by decide) c9)
      refine lv_iconst (v := 0) hx hb dX6_seat_120 (by decide) ?_
      exact W.iret (v := 0) hx hb hr (fun t ht hW => ⟨0, rfl, Or.inl ⟨h2, rfl⟩, ht⟩) (fun _ h => by cases h) dX6_seat_121
    · skip
      refine lv_tableIn (tgt := 122) hx hb dX6_seat_16 (by decide) (by decide) rfl (by decide) ?_
      refine lv_aload_n hx hb dX6_seat_122 rfl (lv_at hl 0 rfl) ?_
      refine va_get (D := G) (ci := 1) (v := .int 0) (C := RX2) (T := TX2) (N := 10) hx hb hts i_c_X6_seat0_X2 hown hK hP 2 rfl rfl 9 (by decide) (hts (.fieldLink RX6 216 "TileHouse$Seat" "says" "Z") (by decide +kernel)) (fun _ h9 => h9) rfl dX6_seat_123 ?_
      refine lv_if_eq (tgt := 133) hx hb dX6_seat_126 (by decide) (fun _ => ?_) (fun c9 => absurd (by decide) c9)
      refine lv_iconst (v := 0) hx hb dX6_seat_133 (by decide) ?_
      exact W.iret (v := 0) hx hb hr (fun t ht hW => ⟨0, rfl, Or.inl ⟨h2, rfl⟩, ht⟩) (fun _ h => by cases h) dX6_seat_134
  · skip
    refine lv_if_ne (tgt := 9) hx hb dX6_seat_4 (by decide) (fun c9 => absurd (by decide) c9) (fun _ => ?_)
    refine lv_iconst (v := (-1)) hx hb dX6_seat_7 (by decide) ?_
    exact W.iret (v := (-1)) hx hb hr (fun t ht hW => ⟨(-1), rfl, Or.inr ⟨h2, rfl⟩, ht⟩) (fun _ h => by cases h) dX6_seat_8
def v_c_X6_won0 : List Cond := .code yX6_won cX6_won 3 (some .int) :: ([.methodLink RX6 269 yX6_isWin, .instanceMethod yX6_isWin, .selects RX6 yX6_isWin yX6_isWin, .initialized RX6] ++ (v_c_X6_isWin0 ++ ([])))
theorem vg_c_X6_won0 : ∀ w ∈ v_c_X6_won0, goodWord w = true := vg_c (c := .code yX6_won cX6_won 3 (some .int)) (l := [.methodLink RX6 269 yX6_isWin, .instanceMethod yX6_isWin, .selects RX6 yX6_isWin yX6_isWin, .initialized RX6]) (by decide +kernel) (vg_a vg_c_X6_isWin0 (vg_nil))
theorem g_c_X6_won0_c_X6_isWin0_269 : GoodIn v_c_X6_won0 (wsV RX6 269 RX6 yX6_isWin v_c_X6_isWin0) := goodIn_app (goodIn_of _ (by decide +kernel)) (fun w h => ⟨List.mem_cons_of_mem _ (List.mem_append_right _ (List.mem_append_left _ h)), good_of_word (vg_c_X6_isWin0 w h)⟩)
set_option maxHeartbeats 4000000 in
set_option maxRecDepth 100000 in
theorem c_X6_won0 (l : Launch) (G : va_G) (k : Nat → ClassId) (h0 : Nat) (p0 : Int32) (p1 : Int32) (x0 : Value) (x1 : Value) (x2 : Value) (x3 : Value) (x4 : Value) (x5 : Value) (x7 : Value) (x8 : Value) (x9 : Value) (x10 : Value) (x11 : Value) (x12 : Value) (x13 : Value) (x14 : Value) (x15 : Value) (x16 : Value) (x17 : Value) (x18 : Value) : Met l yX6_won v_c_X6_won0 ({ frames := 1, cells := 0, slots := 0, locals := 21 }) (va_Pc [.ref h0, .int p0, .int p1] (pr G k [(h0, .inr (5, [x0, x1, x2, x3, x4, x5, .int 0, x7, x8, x9, x10, x11, x12, x13, x14, x15, x16, x17, x18]))])) (vp_Si (fun r => r = (-1))) 0 0 (fun _ => False) := by
  refine Met.ofW (cc := cX6_won) (maxL := 3) (ret := (some .int)) (by decide) rfl ?_
  intro p e s m args below meth c s₁ B hml hv
  obtain ⟨rfl, hP, hK, hN⟩ := hv
  have hx := B.exec
  have hb := B.bytes
  have hr := B.returns
  have hts := atoms_spec (ws := v_c_X6_won0) B.pre
  have hown : s.vm.findClass RX6 = some m.cls := findClass_of_methodNamed B.named
  have hlocks := B.notSynchronized
  have hl := lv_entry ([.ref h0, .int p0, .int p1]) (n := 3) (Nat.le_of_ble_eq_true rfl)
  rw [lg_entry_eq]
  generalize (lg_sl ([.ref h0, .int p0, .int p1]) ++ List.replicate (3 - (lg_sl ([.ref h0, .int p0, .int p1])).length) Slot.unset).toArray = ls at hl ⊢
  have hl : lv_has ls 3 [(0, .ref h0), (1, .int p0), (2, .int p1)] := hl
  refine lv_aload_n hx hb dX6_won_0 rfl (lv_at hl 0 rfl) ?_
  refine lv_iload_n hx hb dX6_won_1 rfl (lv_at hl 1 rfl) ?_
  have hPc := hP.sub (ws' := [(h0, .inr (5, [x0, x1, x2, x3, x4, x5, .int 0, x7, x8, x9, x10, x11, x12, x13, x14, x15, x16, x17, x18]))]) [0] rfl
  refine q_calli (va_runV (As := [.int p0]) (rest := []) ⟨hx, hb, hml, hown, hts⟩ (c_X6_isWin0 l G k h0 p0 (x0) (x1) (x2) (x3) (x4) (x5) (x7) (x8) (x9) (x10) (x11) (x12) (x13) (x14) (x15) (x16) (x17) (x18)) (cwV 1 hts g_c_X6_won0_c_X6_isWin0_269 rfl rfl rfl (by decide +kernel) ⟨Nat.le_of_ble_eq_true rfl, Nat.le_of_ble_eq_true rfl⟩) ⟨pr_bl, va_recv hK hPc (ci := 5) (q0 := 0) rfl rfl, pr_pre hPc hK hN⟩ rfl rfl hl.1 rfl (lv_room (Nat.le_of_ble_eq_true rfl)) dX6_won_2 ⟨Nat.le_of_ble_eq_true rfl, Nat.le_of_ble_eq_true rfl⟩) (fun r1 hr1 => ?_)
  obtain rfl : r1 = 0 := hr1
  refine lv_if_eq (tgt := 21) hx hb dX6_won_5 (by decide) (fun _ => ?_) (fun c9 => absurd (by decide) c9)
  refine lv_iconst (v := (-1)) hx hb dX6_won_21 (by decide) ?_
  exact W.iret (v := (-1)) hx hb hr (fun t ht hW => ⟨(-1), rfl, rfl, ht⟩) (fun _ h => by cases h) dX6_won_22
def v_c_X6_forms0 : List Cond := .code yX6_forms cX6_forms 2 (some .long) :: ([.methodLink RX6 269 yX6_isWin, .instanceMethod yX6_isWin, .selects RX6 yX6_isWin yX6_isWin, .initialized RX6] ++ (v_c_X6_isWin0 ++ ([])))
theorem vg_c_X6_forms0 : ∀ w ∈ v_c_X6_forms0, goodWord w = true := vg_c (c := .code yX6_forms cX6_forms 2 (some .long)) (l := [.methodLink RX6 269 yX6_isWin, .instanceMethod yX6_isWin, .selects RX6 yX6_isWin yX6_isWin, .initialized RX6]) (by decide +kernel) (vg_a vg_c_X6_isWin0 (vg_nil))
theorem g_c_X6_forms0_c_X6_isWin0_269 : GoodIn v_c_X6_forms0 (wsV RX6 269 RX6 yX6_isWin v_c_X6_isWin0) := goodIn_app (goodIn_of _ (by decide +kernel)) (fun w h => ⟨List.mem_cons_of_mem _ (List.mem_append_right _ (List.mem_append_left _ h)), good_of_word (vg_c_X6_isWin0 w h)⟩)
set_option maxHeartbeats 4000000 in
set_option maxRecDepth 100000 in
theorem c_X6_forms0 (l : Launch) (G : va_G) (k : Nat → ClassId) (h0 : Nat) (p0 : Int32) (x0 : Value) (x1 : Value) (x2 : Value) (x3 : Value) (x4 : Value) (x5 : Value) (x7 : Value) (x8 : Value) (x9 : Value) (x10 : Value) (x11 : Value) (x12 : Value) (x13 : Value) (x14 : Value) (x15 : Value) (x16 : Value) (x17 : Value) (x18 : Value) : Met l yX6_forms v_c_X6_forms0 ({ frames := 1, cells := 0, slots := 0, locals := 21 }) (va_Pc [.ref h0, .int p0] (pr G k [(h0, .inr (5, [x0, x1, x2, x3, x4, x5, .int 0, x7, x8, x9, x10, x11, x12, x13, x14, x15, x16, x17, x18]))])) (vp_Sl (fun r => r = 0)) 0 0 (fun _ => False) := by
  refine Met.ofW (cc := cX6_forms) (maxL := 2) (ret := (some .long)) (by decide) rfl ?_
  intro p e s m args below meth c s₁ B hml hv
  obtain ⟨rfl, hP, hK, hN⟩ := hv
  have hx := B.exec
  have hb := B.bytes
  have hr := B.returns
  have hts := atoms_spec (ws := v_c_X6_forms0) B.pre
  have hown : s.vm.findClass RX6 = some m.cls := findClass_of_methodNamed B.named
  have hlocks := B.notSynchronized
  have hl := lv_entry ([.ref h0, .int p0]) (n := 2) (Nat.le_of_ble_eq_true rfl)
  rw [lg_entry_eq]
  generalize (lg_sl ([.ref h0, .int p0]) ++ List.replicate (2 - (lg_sl ([.ref h0, .int p0])).length) Slot.unset).toArray = ls at hl ⊢
  have hl : lv_has ls 2 [(0, .ref h0), (1, .int p0)] := hl
  refine lv_aload_n hx hb dX6_forms_0 rfl (lv_at hl 0 rfl) ?_
  refine lv_iload_n hx hb dX6_forms_1 rfl (lv_at hl 1 rfl) ?_
  have hPc := hP.sub (ws' := [(h0, .inr (5, [x0, x1, x2, x3, x4, x5, .int 0, x7, x8, x9, x10, x11, x12, x13, x14, x15, x16, x17, x18]))]) [0] rfl
  refine q_calli (va_runV (As := [.int p0]) (rest := []) ⟨hx, hb, hml, hown, hts⟩ (c_X6_isWin0 l G k h0 p0 (x0) (x1) (x2) (x3) (x4) (x5) (x7) (x8) (x9) (x10) (x11) (x12) (x13) (x14) (x15) (x16) (x17) (x18)) (cwV 1 hts g_c_X6_forms0_c_X6_isWin0_269 rfl rfl rfl (by decide +kernel) ⟨Nat.le_of_ble_eq_true rfl, Nat.le_of_ble_eq_true rfl⟩) ⟨pr_bl, va_recv hK hPc (ci := 5) (q0 := 0) rfl rfl, pr_pre hPc hK hN⟩ rfl rfl hl.1 rfl (lv_room (Nat.le_of_ble_eq_true rfl)) dX6_forms_2 ⟨Nat.le_of_ble_eq_true rfl, Nat.le_of_ble_eq_true rfl⟩) (fun r1 hr1 => ?_)
  obtain rfl : r1 = 0 := hr1
  refine lv_if_eq (tgt := 20) hx hb dX6_forms_5 (by decide) (fun _ => ?_) (fun c9 => absurd (by decide) c9)
  refine lv_lconst (v := 0) hx hb dX6_forms_20 (by decide) ?_
  exact W.lret (v := 0) hx hb hr (fun t ht hW => ⟨0, rfl, rfl, ht⟩) (fun _ h => by cases h) dX6_forms_21
def countF (p : Int32) : Int32 := if p = 0 ∨ p = 2 ∨ p = 3 ∨ p = 4 ∨ p = 5 ∨ p = 6 ∨ p = 7 ∨ p = 8 ∨ p = 9 ∨ p = 10 ∨ p = 11 then 0 else -1
theorem countF_out {p1 : Int32} (h : p1.toInt < 0 ∨ 12 < p1.toInt) : countF p1 = -1 := by
  have h9 : ∀ v : Int32, 0 ≤ v.toInt → v.toInt ≤ 12 → ¬ p1 = v := fun v a b e => by subst e; omega
  unfold countF
  rw [if_neg]
  rintro (e | e | e | e | e | e | e | e | e | e | e)
  · exact h9 0 (by decide) (by decide) e
  · exact h9 2 (by decide) (by decide) e
  · exact h9 3 (by decide) (by decide) e
  · exact h9 4 (by decide) (by decide) e
  · exact h9 5 (by decide) (by decide) e
  · exact h9 6 (by decide) (by decide) e
  · exact h9 7 (by decide) (by decide) e
  · exact h9 8 (by decide) (by decide) e
  · exact h9 9 (by decide) (by decide) e
  · exact h9 10 (by decide) (by decide) e
  · exact h9 11 (by decide) (by decide) e
def v_c_X6_count0 : List Cond := .code yX6_count cX6_count 2 (some .int) :: ([.fieldLink RX6 45 "TileHouse" "phase" "I", .fieldLink RX6 62 "TileHouse" "dealer" "I", .fieldLink RX6 278 "TileHouse" "round" "I", .fieldLink RX6 200 "TileHouse" "stays" "I", .fieldLink RX6 191 "TileHouse" "bets" "I", .fieldLink RX6 18 "TileHouse" "bricks" "LTileHouse$Wall;", .methodLink RX6 140 yX4_left, .instanceMethod yX4_left, .selects RX4 yX4_left yX4_left, .initialized RX4, .fieldLink RX6 175 "TileHouse$Wall" "fours" "I", .methodLink RX6 281 yX4_signs, .instanceMethod yX4_signs, .selects RX4 yX4_signs yX4_signs, .fieldLink RX6 54 "TileHouse" "ended" "Z", .fieldLink RX6 284 "TileHouse" "handsEnded" "I", .fieldLink RX6 83 "TileHouse" "winCount" "I"] ++ (wsX60 ++ (v_c_X4_left0 ++ (wsX40 ++ (v_c_X4_signs0 ++ ([]))))))
theorem vg_c_X6_count0 : ∀ w ∈ v_c_X6_count0, goodWord w = true := vg_c (c := .code yX6_count cX6_count 2 (some .int)) (l := [.fieldLink RX6 45 "TileHouse" "phase" "I", .fieldLink RX6 62 "TileHouse" "dealer" "I", .fieldLink RX6 278 "TileHouse" "round" "I", .fieldLink RX6 200 "TileHouse" "stays" "I", .fieldLink RX6 191 "TileHouse" "bets" "I", .fieldLink RX6 18 "TileHouse" "bricks" "LTileHouse$Wall;", .methodLink RX6 140 yX4_left, .instanceMethod yX4_left, .selects RX4 yX4_left yX4_left, .initialized RX4, .fieldLink RX6 175 "TileHouse$Wall" "fours" "I", .methodLink RX6 281 yX4_signs, .instanceMethod yX4_signs, .selects RX4 yX4_signs yX4_signs, .fieldLink RX6 54 "TileHouse" "ended" "Z", .fieldLink RX6 284 "TileHouse" "handsEnded" "I", .fieldLink RX6 83 "TileHouse" "winCount" "I"]) (by decide +kernel) (vg_a vgX6 (vg_a vg_c_X4_left0 (vg_a vgX4 (vg_a vg_c_X4_signs0 (vg_nil)))))
theorem i_c_X6_count0_X6 : ∀ w ∈ u_ws RX6 TX6 19, w ∈ v_c_X6_count0 := fun _ h => List.mem_cons_of_mem _ (List.mem_append_right _ (List.mem_append_left _ h))
theorem i_c_X6_count0_X4 : ∀ w ∈ u_ws RX4 TX4 4, w ∈ v_c_X6_count0 := fun _ h => List.mem_cons_of_mem _ (List.mem_append_right _ (List.mem_append_right _ (List.mem_append_right _ (List.mem_append_left _ h))))
theorem g_c_X6_count0_c_X4_left0_140 : GoodIn v_c_X6_count0 (wsV RX6 140 RX4 yX4_left v_c_X4_left0) := goodIn_app (goodIn_of _ (by decide +kernel)) (fun w h => ⟨List.mem_cons_of_mem _ (List.mem_append_right _ (List.mem_append_right _ (List.mem_append_left _ h))), good_of_word (vg_c_X4_left0 w h)⟩)
theorem g_c_X6_count0_c_X4_signs0_281 : GoodIn v_c_X6_count0 (wsV RX6 281 RX4 yX4_signs v_c_X4_signs0) := goodIn_app (goodIn_of _ (by decide +kernel)) (fun w h => ⟨List.mem_cons_of_mem _ (List.mem_append_right _ (List.mem_append_right _ (List.mem_append_right _ (List.mem_append_right _ (List.mem_append_left _ h))))), good_of_word (vg_c_X4_signs0 w h)⟩)
set_option maxHeartbeats 4000000 in
set_option maxRecDepth 100000 in
theorem c_X6_count0 (l : Launch) (G : va_G) (k : Nat → ClassId) (h0 : Nat) (wl : Nat) (p0 : Int32) (x0 : Value) (x2 : Value) (x3 : Value) (x4 : Value) (x5 : Value) (x8 : Value) (x15 : Value) (x16 : Value) (x17 : Value) (x18 : Value) (y0 : Value) (y2 : Value) : Met l yX6_count v_c_X6_count0 ({ frames := 1, cells := 0, slots := 0, locals := 20 }) (va_Pc [.ref h0, .int p0] (pr G k [(h0, .inr (5, [x0, .ref wl, x2, x3, x4, x5, .int 0, .int 0, x8, .int 0, .int 0, .int 0, .int 0, .int 0, .int 0, x15, x16, x17, x18])), (wl, .inr (3, [y0, .int 0, y2, .int 0]))])) (vp_Si (fun r => r = countF p0)) 0 0 (fun _ => False) := by
  refine Met.ofW (cc := cX6_count) (maxL := 2) (ret := (some .int)) (by decide) rfl ?_
  intro p e s m args below meth c s₁ B hml hv
  obtain ⟨rfl, hP, hK, hN⟩ := hv
  have hx := B.exec
  have hb := B.bytes
  have hr := B.returns
  have hts := atoms_spec (ws := v_c_X6_count0) B.pre
  have hown : s.vm.findClass RX6 = some m.cls := findClass_of_methodNamed B.named
  have hlocks := B.notSynchronized
  have hl := lv_entry ([.ref h0, .int p0]) (n := 2) (Nat.le_of_ble_eq_true rfl)
  rw [lg_entry_eq]
  generalize (lg_sl ([.ref h0, .int p0]) ++ List.replicate (2 - (lg_sl ([.ref h0, .int p0])).length) Slot.unset).toArray = ls at hl ⊢
  have hl : lv_has ls 2 [(0, .ref h0), (1, .int p0)] := hl
  refine lv_iload_n hx hb dX6_count_0 rfl (lv_at hl 1 rfl) ?_
  rcases tsw12 p0 with hO | rfl | rfl | rfl | rfl | rfl | rfl | rfl | rfl | rfl | rfl | rfl | rfl | rfl
  · skip
    refine lv_tableOut (tgt := 172) hx hb dX6_count_1 hO (by decide) ?_
    refine lv_iconst (v := (-1)) hx hb dX6_count_172 (by decide) ?_
    exact W.iret (v := (-1)) hx hb hr (fun t ht hW => ⟨(-1), rfl, (countF_out hO).symm, ht⟩) (fun _ h => by cases h) dX6_count_173
  · skip
    refine lv_tableIn (tgt := 68) hx hb dX6_count_1 (by decide) (by decide) rfl (by decide) ?_
    refine lv_aload_n hx hb dX6_count_68 rfl (lv_at hl 0 rfl) ?_
    refine va_get (D := G) (ci := 5) (v := .int 0) (C := RX6) (T := TX6) (N := 19) hx hb hts i_c_X6_count0_X6 hown hK hP 0 rfl rfl 7 (by decide) (hts (.fieldLink RX6 45 "TileHouse" "phase" "I") (by decide +kernel)) (fun _ h9 => h9) rfl dX6_count_69 ?_
    exact W.iret (v := 0) hx hb hr (fun t ht hW => ⟨0, rfl, rfl, ht⟩) (fun _ h => by cases h) dX6_count_72
  · skip
    refine lv_tableIn (tgt := 73) hx hb dX6_count_1 (by decide) (by decide) rfl (by decide) ?_
    refine lv_aload_n hx hb dX6_count_73 rfl (lv_at hl 0 rfl) ?_
    refine va_get (D := G) (ci := 5) (v := .int 0) (C := RX6) (T := TX6) (N := 19) hx hb hts i_c_X6_count0_X6 hown hK hP 0 rfl rfl 7 (by decide) (hts (.fieldLink RX6 45 "TileHouse" "phase" "I") (by decide +kernel)) (fun _ h9 => h9) rfl dX6_count_74 ?_
    refine lv_if_ne (tgt := 84) hx hb dX6_count_77 (by decide) (fun c9 => absurd (by decide) c9) (fun _ => ?_)
    refine lv_iconst (v := (-1)) hx hb dX6_count_80 (by decide) ?_
    refine lv_goto (tgt := 88) hx hb dX6_count_81 (by decide) ?_
    exact W.iret (v := (-1)) hx hb hr (fun t ht hW => ⟨(-1), rfl, rfl, ht⟩) (fun _ h => by cases h) dX6_count_88
  · skip
    refine lv_tableIn (tgt := 89) hx hb dX6_count_1 (by decide) (by decide) rfl (by decide) ?_
    refine lv_aload_n hx hb dX6_count_89 rfl (lv_at hl 0 rfl) ?_
    refine va_get (D := G) (ci := 5) (v := .int 0) (C := RX6) (T := TX6) (N := 19) hx hb hts i_c_X6_count0_X6 hown hK hP 0 rfl rfl 9 (by decide) (hts (.fieldLink RX6 62 "TileHouse" "dealer" "I") (by decide +kernel)) (fun _ h9 => h9) rfl dX6_count_90 ?_
    exact W.iret (v := 0) hx hb hr (fun t ht hW => ⟨0, rfl, rfl, ht⟩) (fun _ h => by cases h) dX6_count_93
  · skip
    refine lv_tableIn (tgt := 94) hx hb dX6_count_1 (by decide) (by decide) rfl (by decide) ?_
    refine lv_aload_n hx hb dX6_count_94 rfl (lv_at hl 0 rfl) ?_
    refine va_get (D := G) (ci := 5) (v := .int 0) (C := RX6) (T := TX6) (N := 19) hx hb hts i_c_X6_count0_X6 hown hK hP 0 rfl rfl 10 (by decide) (hts (.fieldLink RX6 278 "TileHouse" "round" "I") (by decide +kernel)) (fun _ h9 => h9) rfl dX6_count_95 ?_
    exact W.iret (v := 0) hx hb hr (fun t ht hW => ⟨0, rfl, rfl, ht⟩) (fun _ h => by cases h) dX6_count_98
  · skip
    refine lv_tableIn (tgt := 99) hx hb dX6_count_1 (by decide) (by decide) rfl (by decide) ?_
    refine lv_aload_n hx hb dX6_count_99 rfl (lv_at hl 0 rfl) ?_
    refine va_get (D := G) (ci := 5) (v := .int 0) (C := RX6) (T := TX6) (N := 19) hx hb hts i_c_X6_count0_X6 hown hK hP 0 rfl rfl 11 (by decide) (hts (.fieldLink RX6 200 "TileHouse" "stays" "I") (by decide +kernel)) (fun _ h9 => h9) rfl dX6_count_100 ?_
    exact W.iret (v := 0) hx hb hr (fun t ht hW => ⟨0, rfl, rfl, ht⟩) (fun _ h => by cases h) dX6_count_103
  · skip
    refine lv_tableIn (tgt := 104) hx hb dX6_count_1 (by decide) (by decide) rfl (by decide) ?_
    refine lv_aload_n hx hb dX6_count_104 rfl (lv_at hl 0 rfl) ?_
    refine va_get (D := G) (ci := 5) (v := .int 0) (C := RX6) (T := TX6) (N := 19) hx hb hts i_c_X6_count0_X6 hown hK hP 0 rfl rfl 12 (by decide) (hts (.fieldLink RX6 191 "TileHouse" "bets" "I") (by decide +kernel)) (fun _ h9 => h9) rfl dX6_count_105 ?_
    exact W.iret (v := 0) hx hb hr (fun t ht hW => ⟨0, rfl, rfl, ht⟩) (fun _ h => by cases h) dX6_count_108
  · skip
    refine lv_tableIn (tgt := 109) hx hb dX6_count_1 (by decide) (by decide) rfl (by decide) ?_
    refine lv_aload_n hx hb dX6_count_109 rfl (lv_at hl 0 rfl) ?_
    refine va_get (D := G) (ci := 5) (v := .ref wl) (C := RX6) (T := TX6) (N := 19) hx hb hts i_c_X6_count0_X6 hown hK hP 0 rfl rfl 1 (by decide) (hts (.fieldLink RX6 18 "TileHouse" "bricks" "LTileHouse$Wall;") (by decide +kernel)) (fun _ h9 => h9) rfl dX6_count_110 ?_
    have hPc := hP.sub (ws' := [(wl, .inr (3, [y0, .int 0, y2, .int 0]))]) [1] rfl
    refine q_calli (va_runV (As := []) (rest := []) ⟨hx, hb, hml, hown, hts⟩ (c_X4_left0 l G k wl (y0) (y2) (.int 0)) (cwV 0 hts g_c_X6_count0_c_X4_left0_140 rfl rfl rfl (by decide +kernel) ⟨Nat.le_of_ble_eq_true rfl, Nat.le_of_ble_eq_true rfl⟩) ⟨pr_bl, va_recv hK hPc (ci := 3) (q0 := 0) rfl rfl, pr_pre hPc hK hN⟩ rfl rfl hl.1 rfl (lv_room (Nat.le_of_ble_eq_true rfl)) dX6_count_113 ⟨Nat.le_of_ble_eq_true rfl, Nat.le_of_ble_eq_true rfl⟩) (fun r1 hr1 => ?_)
    obtain rfl : r1 = 0 := hr1
    exact W.iret (v := 0) hx hb hr (fun t ht hW => ⟨0, rfl, rfl, ht⟩) (fun _ h => by cases h) dX6_count_116
  · skip
    refine lv_tableIn (tgt := 117) hx hb dX6_count_1 (by decide) (by decide) rfl (by decide) ?_
    refine lv_aload_n hx hb dX6_count_117 rfl (lv_at hl 0 rfl) ?_
    refine va_get (D := G) (ci := 5) (v := .ref wl) (C := RX6) (T := TX6) (N := 19) hx hb hts i_c_X6_count0_X6 hown hK hP 0 rfl rfl 1 (by decide) (hts (.fieldLink RX6 18 "TileHouse" "bricks" "LTileHouse$Wall;") (by decide +kernel)) (fun _ h9 => h9) rfl dX6_count_118 ?_
    refine va_get (D := G) (ci := 3) (v := .int 0) (C := RX4) (T := TX4) (N := 4) hx hb hts i_c_X6_count0_X4 hown hK hP 1 rfl rfl 3 (by decide) (hts (.fieldLink RX6 175 "TileHouse$Wall" "fours" "I") (by decide +kernel)) (fun _ h9 => h9) rfl dX6_count_121 ?_
    exact W.iret (v := 0) hx hb hr (fun t ht hW => ⟨0, rfl, rfl, ht⟩) (fun _ h => by cases h) dX6_count_124
  · skip
    refine lv_tableIn (tgt := 125) hx hb dX6_count_1 (by decide) (by decide) rfl (by decide) ?_
    refine lv_aload_n hx hb dX6_count_125 rfl (lv_at hl 0 rfl) ?_
    refine va_get (D := G) (ci := 5) (v := .ref wl) (C := RX6) (T := TX6) (N := 19) hx hb hts i_c_X6_count0_X6 hown hK hP 0 rfl rfl 1 (by decide) (hts (.fieldLink RX6 18 "TileHouse" "bricks" "LTileHouse$Wall;") (by decide +kernel)) (fun _ h9 => h9) rfl dX6_count_126 ?_
    have hPc := hP.sub (ws' := [(wl, .inr (3, [y0, .int 0, y2, .int 0]))]) [1] rfl
    refine q_calli (va_runV (As := []) (rest := []) ⟨hx, hb, hml, hown, hts⟩ (c_X4_signs0 l G k wl (y0) (y2) (.int 0)) (cwV 0 hts g_c_X6_count0_c_X4_signs0_281 rfl rfl rfl (by decide +kernel) ⟨Nat.le_of_ble_eq_true rfl, Nat.le_of_ble_eq_true rfl⟩) ⟨pr_bl, va_recv hK hPc (ci := 3) (q0 := 0) rfl rfl, pr_pre hPc hK hN⟩ rfl rfl hl.1 rfl (lv_room (Nat.le_of_ble_eq_true rfl)) dX6_count_129 ⟨Nat.le_of_ble_eq_true rfl, Nat.le_of_ble_eq_true rfl⟩) (fun r2 hr2 => ?_)
    obtain rfl : r2 = 0 := hr2
    exact W.iret (v := 0) hx hb hr (fun t ht hW => ⟨0, rfl, rfl, ht⟩) (fun _ h => by cases h) dX6_count_132
  · skip
    refine lv_tableIn (tgt := 133) hx hb dX6_count_1 (by decide) (by decide) rfl (by decide) ?_
    refine lv_aload_n hx hb dX6_count_133 rfl (lv_at hl 0 rfl) ?_
    refine va_get (D := G) (ci := 5) (v := .int 0) (C := RX6) (T := TX6) (N := 19) hx hb hts i_c_X6_count0_X6 hown hK hP 0 rfl rfl 13 (by decide) (hts (.fieldLink RX6 54 "TileHouse" "ended" "Z") (by decide +kernel)) (fun _ h9 => h9) rfl dX6_count_134 ?_
    refine lv_if_eq (tgt := 144) hx hb dX6_count_137 (by decide) (fun _ => ?_) (fun c9 => absurd (by decide) c9)
    refine lv_iconst (v := 0) hx hb dX6_count_144 (by decide) ?_
    exact W.iret (v := 0) hx hb hr (fun t ht hW => ⟨0, rfl, rfl, ht⟩) (fun _ h => by cases h) dX6_count_145
  · skip
    refine lv_tableIn (tgt := 146) hx hb dX6_count_1 (by decide) (by decide) rfl (by decide) ?_
    refine lv_aload_n hx hb dX6_count_146 rfl (lv_at hl 0 rfl) ?_
    refine va_get (D := G) (ci := 5) (v := .int 0) (C := RX6) (T := TX6) (N := 19) hx hb hts i_c_X6_count0_X6 hown hK hP 0 rfl rfl 14 (by decide) (hts (.fieldLink RX6 284 "TileHouse" "handsEnded" "I") (by decide +kernel)) (fun _ h9 => h9) rfl dX6_count_147 ?_
    exact W.iret (v := 0) hx hb hr (fun t ht hW => ⟨0, rfl, rfl, ht⟩) (fun _ h => by cases h) dX6_count_150
  · skip
    refine lv_tableIn (tgt := 151) hx hb dX6_count_1 (by decide) (by decide) rfl (by decide) ?_
    refine lv_aload_n hx hb dX6_count_151 rfl (lv_at hl 0 rfl) ?_
    refine va_get (D := G) (ci := 5) (v := .int 0) (C := RX6) (T := TX6) (N := 19) hx hb hts i_c_X6_count0_X6 hown hK hP 0 rfl rfl 6 (by decide) (hts (.fieldLink RX6 83 "TileHouse" "winCount" "I") (by decide +kernel)) (fun _ h9 => h9) rfl dX6_count_152 ?_
    exact W.iret (v := 0) hx hb hr (fun t ht hW => ⟨0, rfl, rfl, ht⟩) (fun _ h => by cases h) dX6_count_155
  · skip
    refine lv_tableIn (tgt := 156) hx hb dX6_count_1 (by decide) (by decide) rfl (by decide) ?_
    refine lv_aload_n hx hb dX6_count_156 rfl (lv_at hl 0 rfl) ?_
    refine va_get (D := G) (ci := 5) (v := .int 0) (C := RX6) (T := TX6) (N := 19) hx hb hts i_c_X6_count0_X6 hown hK hP 0 rfl rfl 7 (by decide) (hts (.fieldLink RX6 45 "TileHouse" "phase" "I") (by decide +kernel)) (fun _ h9 => h9) rfl dX6_count_157 ?_
    refine lv_if_ne (tgt := 167) hx hb dX6_count_160 (by decide) (fun c9 => absurd (by decide) c9) (fun _ => ?_)
    refine lv_iconst (v := (-1)) hx hb dX6_count_163 (by decide) ?_
    refine lv_goto (tgt := 171) hx hb dX6_count_164 (by decide) ?_
    exact W.iret (v := (-1)) hx hb hr (fun t ht hW => ⟨(-1), rfl, rfl, ht⟩) (fun _ h => by cases h) dX6_count_171
def deskF (p : Int32) : Int32 := if p = 0 ∨ p = 1 ∨ p = 2 ∨ p = 3 then 0 else -1
theorem deskF_out {p1 : Int32} (h : p1.toInt < 0 ∨ 3 < p1.toInt) : deskF p1 = -1 := by
  have h9 : ∀ v : Int32, 0 ≤ v.toInt → v.toInt ≤ 3 → ¬ p1 = v := fun v a b e => by subst e; omega
  unfold deskF
  rw [if_neg]
  rintro (e | e | e | e)
  · exact h9 0 (by decide) (by decide) e
  · exact h9 1 (by decide) (by decide) e
  · exact h9 2 (by decide) (by decide) e
  · exact h9 3 (by decide) (by decide) e
def v_c_X6_desk0 : List Cond := .code yX6_desk cX6_desk 2 (some .int) :: ([.fieldLink RX6 42 "TileHouse" "deskJudge" "LTileHouse$Judge;", .fieldLink RX6 194 "TileHouse$Judge" "base" "I", .fieldLink RX6 307 "TileHouse$Judge" "han" "I", .fieldLink RX6 310 "TileHouse$Judge" "fu" "I", .fieldLink RX6 313 "TileHouse$Judge" "ways" "I"] ++ (wsX60 ++ (wsX10 ++ ([]))))
theorem vg_c_X6_desk0 : ∀ w ∈ v_c_X6_desk0, goodWord w = true := vg_c (c := .code yX6_desk cX6_desk 2 (some .int)) (l := [.fieldLink RX6 42 "TileHouse" "deskJudge" "LTileHouse$Judge;", .fieldLink RX6 194 "TileHouse$Judge" "base" "I", .fieldLink RX6 307 "TileHouse$Judge" "han" "I", .fieldLink RX6 310 "TileHouse$Judge" "fu" "I", .fieldLink RX6 313 "TileHouse$Judge" "ways" "I"]) (by decide +kernel) (vg_a vgX6 (vg_a vgX1 (vg_nil)))
theorem i_c_X6_desk0_X6 : ∀ w ∈ u_ws RX6 TX6 19, w ∈ v_c_X6_desk0 := fun _ h => List.mem_cons_of_mem _ (List.mem_append_right _ (List.mem_append_left _ h))
theorem i_c_X6_desk0_X1 : ∀ w ∈ u_ws RX1 TX1 19, w ∈ v_c_X6_desk0 := fun _ h => List.mem_cons_of_mem _ (List.mem_append_right _ (List.mem_append_right _ (List.mem_append_left _ h)))
set_option maxHeartbeats 4000000 in
set_option maxRecDepth 100000 in
theorem c_X6_desk0 (l : Launch) (G : va_G) (k : Nat → ClassId) (h0 : Nat) (t0 : Nat) (dj : Nat) (p0 : Int32) (x0 : Value) (x1 : Value) (x2 : Value) (x3 : Value) (x6 : Value) (x7 : Value) (x8 : Value) (x9 : Value) (x10 : Value) (x11 : Value) (x12 : Value) (x13 : Value) (x14 : Value) (x15 : Value) (x16 : Value) (x17 : Value) (x18 : Value) (y5 : Value) (y6 : Value) (y7 : Value) (y8 : Value) (y9 : Value) (y10 : Value) (y11 : Value) (y12 : Value) (y13 : Value) (y14 : Value) (y15 : Value) (y16 : Value) (y17 : Value) (y18 : Value) : Met l yX6_desk v_c_X6_desk0 ({ frames := 0, cells := 0, slots := 0, locals := 0 }) (va_Pc [.ref h0, .int p0] (pr G k [(h0, .inr (5, [x0, x1, x2, x3, .ref t0, .ref dj, x6, x7, x8, x9, x10, x11, x12, x13, x14, x15, x16, x17, x18])), (dj, .inr (0, [.int 0, .int 0, .int 0, .long 0, .int 0, y5, y6, y7, y8, y9, y10, y11, y12, y13, y14, y15, y16, y17, y18]))])) (vp_Si (fun r => r = deskF p0)) 0 0 (fun _ => False) := by
  refine Met.ofW (cc := cX6_desk) (maxL := 2) (ret := (some .int)) (by decide) rfl ?_
  intro p e s m args below meth c s₁ B hml hv
  obtain ⟨rfl, hP, hK, hN⟩ := hv
  have hx := B.exec
  have hb := B.bytes
  have hr := B.returns
  have hts := atoms_spec (ws := v_c_X6_desk0) B.pre
  have hown : s.vm.findClass RX6 = some m.cls := findClass_of_methodNamed B.named
  have hlocks := B.notSynchronized
  have hl := lv_entry ([.ref h0, .int p0]) (n := 2) (Nat.le_of_ble_eq_true rfl)
  rw [lg_entry_eq]
  generalize (lg_sl ([.ref h0, .int p0]) ++ List.replicate (2 - (lg_sl ([.ref h0, .int p0])).length) Slot.unset).toArray = ls at hl ⊢
  have hl : lv_has ls 2 [(0, .ref h0), (1, .int p0)] := hl
  refine lv_iload_n hx hb dX6_desk_0 rfl (lv_at hl 1 rfl) ?_
  rcases tsw3 p0 with hO | rfl | rfl | rfl | rfl
  · skip
    refine lv_tableOut (tgt := 64) hx hb dX6_desk_1 hO (by decide) ?_
    refine lv_iconst (v := (-1)) hx hb dX6_desk_64 (by decide) ?_
    exact W.iret (v := (-1)) hx hb hr (fun t ht hW => ⟨(-1), rfl, (deskF_out hO).symm, ht⟩) (fun _ h => by cases h) dX6_desk_65
  · skip
    refine lv_tableIn (tgt := 32) hx hb dX6_desk_1 (by decide) (by decide) rfl (by decide) ?_
    refine lv_aload_n hx hb dX6_desk_32 rfl (lv_at hl 0 rfl) ?_
    refine va_get (D := G) (ci := 5) (v := .ref dj) (C := RX6) (T := TX6) (N := 19) hx hb hts i_c_X6_desk0_X6 hown hK hP 0 rfl rfl 5 (by decide) (hts (.fieldLink RX6 42 "TileHouse" "deskJudge" "LTileHouse$Judge;") (by decide +kernel)) (fun _ h9 => h9) rfl dX6_desk_33 ?_
    refine va_get (D := G) (ci := 0) (v := .int 0) (C := RX1) (T := TX1) (N := 19) hx hb hts i_c_X6_desk0_X1 hown hK hP 1 rfl rfl 0 (by decide) (hts (.fieldLink RX6 194 "TileHouse$Judge" "base" "I") (by decide +kernel)) (fun _ h9 => h9) rfl dX6_desk_36 ?_
    exact W.iret (v := 0) hx hb hr (fun t ht hW => ⟨0, rfl, rfl, ht⟩) (fun _ h => by cases h) dX6_desk_39
  · skip
    refine lv_tableIn (tgt := 40) hx hb dX6_desk_1 (by decide) (by decide) rfl (by decide) ?_
    refine lv_aload_n hx hb dX6_desk_40 rfl (lv_at hl 0 rfl) ?_
    refine va_get (D := G) (ci := 5) (v := .ref dj) (C := RX6) (T := TX6) (N := 19) hx hb hts i_c_X6_desk0_X6 hown hK hP 0 rfl rfl 5 (by decide) (hts (.fieldLink RX6 42 "TileHouse" "deskJudge" "LTileHouse$Judge;") (by decide +kernel)) (fun _ h9 => h9) rfl dX6_desk_41 ?_
    refine va_get (D := G) (ci := 0) (v := .int 0) (C := RX1) (T := TX1) (N := 19) hx hb hts i_c_X6_desk0_X1 hown hK hP 1 rfl rfl 1 (by decide) (hts (.fieldLink RX6 307 "TileHouse$Judge" "han" "I") (by decide +kernel)) (fun _ h9 => h9) rfl dX6_desk_44 ?_
    exact W.iret (v := 0) hx hb hr (fun t ht hW => ⟨0, rfl, rfl, ht⟩) (fun _ h => by cases h) dX6_desk_47
  · skip
    refine lv_tableIn (tgt := 48) hx hb dX6_desk_1 (by decide) (by decide) rfl (by decide) ?_
    refine lv_aload_n hx hb dX6_desk_48 rfl (lv_at hl 0 rfl) ?_
    refine va_get (D := G) (ci := 5) (v := .ref dj) (C := RX6) (T := TX6) (N := 19) hx hb hts i_c_X6_desk0_X6 hown hK hP 0 rfl rfl 5 (by decide) (hts (.fieldLink RX6 42 "TileHouse" "deskJudge" "LTileHouse$Judge;") (by decide +kernel)) (fun _ h9 => h9) rfl dX6_desk_49 ?_
    refine va_get (D := G) (ci := 0) (v := .int 0) (C := RX1) (T := TX1) (N := 19) hx hb hts i_c_X6_desk0_X1 hown hK hP 1 rfl rfl 2 (by decide) (hts (.fieldLink RX6 310 "TileHouse$Judge" "fu" "I") (by decide +kernel)) (fun _ h9 => h9) rfl dX6_desk_52 ?_
    exact W.iret (v := 0) hx hb hr (fun t ht hW => ⟨0, rfl, rfl, ht⟩) (fun _ h => by cases h) dX6_desk_55
  · skip
    refine lv_tableIn (tgt := 56) hx hb dX6_desk_1 (by decide) (by decide) rfl (by decide) ?_
    refine lv_aload_n hx hb dX6_desk_56 rfl (lv_at hl 0 rfl) ?_
    refine va_get (D := G) (ci := 5) (v := .ref dj) (C := RX6) (T := TX6) (N := 19) hx hb hts i_c_X6_desk0_X6 hown hK hP 0 rfl rfl 5 (by decide) (hts (.fieldLink RX6 42 "TileHouse" "deskJudge" "LTileHouse$Judge;") (by decide +kernel)) (fun _ h9 => h9) rfl dX6_desk_57 ?_
    refine va_get (D := G) (ci := 0) (v := .int 0) (C := RX1) (T := TX1) (N := 19) hx hb hts i_c_X6_desk0_X1 hown hK hP 1 rfl rfl 4 (by decide) (hts (.fieldLink RX6 313 "TileHouse$Judge" "ways" "I") (by decide +kernel)) (fun _ h9 => h9) rfl dX6_desk_60 ?_
    exact W.iret (v := 0) hx hb hr (fun t ht hW => ⟨0, rfl, rfl, ht⟩) (fun _ h => by cases h) dX6_desk_63
def v_c_X6_deskForms0 : List Cond := .code yX6_deskForms cX6_deskForms 1 (some .long) :: ([.fieldLink RX6 42 "TileHouse" "deskJudge" "LTileHouse$Judge;", .fieldLink RX6 316 "TileHouse$Judge" "best" "J"] ++ (wsX60 ++ (wsX10 ++ ([]))))
theorem vg_c_X6_deskForms0 : ∀ w ∈ v_c_X6_deskForms0, goodWord w = true := vg_c (c := .code yX6_deskForms cX6_deskForms 1 (some .long)) (l := [.fieldLink RX6 42 "TileHouse" "deskJudge" "LTileHouse$Judge;", .fieldLink RX6 316 "TileHouse$Judge" "best" "J"]) (by decide +kernel) (vg_a vgX6 (vg_a vgX1 (vg_nil)))
theorem i_c_X6_deskForms0_X6 : ∀ w ∈ u_ws RX6 TX6 19, w ∈ v_c_X6_deskForms0 := fun _ h => List.mem_cons_of_mem _ (List.mem_append_right _ (List.mem_append_left _ h))
theorem i_c_X6_deskForms0_X1 : ∀ w ∈ u_ws RX1 TX1 19, w ∈ v_c_X6_deskForms0 := fun _ h => List.mem_cons_of_mem _ (List.mem_append_right _ (List.mem_append_right _ (List.mem_append_left _ h)))
set_option maxHeartbeats 4000000 in
set_option maxRecDepth 100000 in
theorem c_X6_deskForms0 (l : Launch) (G : va_G) (k : Nat → ClassId) (h0 : Nat) (t0 : Nat) (dj : Nat) (x0 : Value) (x1 : Value) (x2 : Value) (x3 : Value) (x6 : Value) (x7 : Value) (x8 : Value) (x9 : Value) (x10 : Value) (x11 : Value) (x12 : Value) (x13 : Value) (x14 : Value) (x15 : Value) (x16 : Value) (x17 : Value) (x18 : Value) (y5 : Value) (y6 : Value) (y7 : Value) (y8 : Value) (y9 : Value) (y10 : Value) (y11 : Value) (y12 : Value) (y13 : Value) (y14 : Value) (y15 : Value) (y16 : Value) (y17 : Value) (y18 : Value) : Met l yX6_deskForms v_c_X6_deskForms0 ({ frames := 0, cells := 0, slots := 0, locals := 0 }) (va_Pc [.ref h0] (pr G k [(h0, .inr (5, [x0, x1, x2, x3, .ref t0, .ref dj, x6, x7, x8, x9, x10, x11, x12, x13, x14, x15, x16, x17, x18])), (dj, .inr (0, [.int 0, .int 0, .int 0, .long 0, .int 0, y5, y6, y7, y8, y9, y10, y11, y12, y13, y14, y15, y16, y17, y18]))])) (vp_Sl (fun r => r = 0)) 0 0 (fun _ => False) := by
  refine Met.ofW (cc := cX6_deskForms) (maxL := 1) (ret := (some .long)) (by decide) rfl ?_
  intro p e s m args below meth c s₁ B hml hv
  obtain ⟨rfl, hP, hK, hN⟩ := hv
  have hx := B.exec
  have hb := B.bytes
  have hr := B.returns
  have hts := atoms_spec (ws := v_c_X6_deskForms0) B.pre
  have hown : s.vm.findClass RX6 = some m.cls := findClass_of_methodNamed B.named
  have hlocks := B.notSynchronized
  have hl := lv_entry ([.ref h0]) (n := 1) (Nat.le_of_ble_eq_true rfl)
  rw [lg_entry_eq]
  generalize (lg_sl ([.ref h0]) ++ List.replicate (1 - (lg_sl ([.ref h0])).length) Slot.unset).toArray = ls at hl ⊢
  have hl : lv_has ls 1 [(0, .ref h0)] := hl
  refine lv_aload_n hx hb dX6_deskForms_0 rfl (lv_at hl 0 rfl) ?_
  refine va_get (D := G) (ci := 5) (v := .ref dj) (C := RX6) (T := TX6) (N := 19) hx hb hts i_c_X6_deskForms0_X6 hown hK hP 0 rfl rfl 5 (by decide) (hts (.fieldLink RX6 42 "TileHouse" "deskJudge" "LTileHouse$Judge;") (by decide +kernel)) (fun _ h9 => h9) rfl dX6_deskForms_1 ?_
  refine va_get (D := G) (ci := 0) (v := .long 0) (C := RX1) (T := TX1) (N := 19) hx hb hts i_c_X6_deskForms0_X1 hown hK hP 1 rfl rfl 3 (by decide) (hts (.fieldLink RX6 316 "TileHouse$Judge" "best" "J") (by decide +kernel)) (fun _ h9 => h9) rfl dX6_deskForms_4 ?_
  exact W.lret (v := 0) hx hb hr (fun t ht hW => ⟨0, rfl, rfl, ht⟩) (fun _ h => by cases h) dX6_deskForms_7
def v_c_X6_deskWaits0 : List Cond := .code yX6_deskWaits cX6_deskWaits 1 (some .long) :: ([.fieldLink RX6 38 "TileHouse" "deskTiles" "LTileHouse$Tiles;", .methodLink RX6 222 yX3_waiting, .instanceMethod yX3_waiting, .selects RX3 yX3_waiting yX3_waiting, .initialized RX3] ++ (wsX60 ++ (v_c_X3_waiting0 ++ ([]))))
theorem vg_c_X6_deskWaits0 : ∀ w ∈ v_c_X6_deskWaits0, goodWord w = true := vg_c (c := .code yX6_deskWaits cX6_deskWaits 1 (some .long)) (l := [.fieldLink RX6 38 "TileHouse" "deskTiles" "LTileHouse$Tiles;", .methodLink RX6 222 yX3_waiting, .instanceMethod yX3_waiting, .selects RX3 yX3_waiting yX3_waiting, .initialized RX3]) (by decide +kernel) (vg_a vgX6 (vg_a vg_c_X3_waiting0 (vg_nil)))
theorem i_c_X6_deskWaits0_X6 : ∀ w ∈ u_ws RX6 TX6 19, w ∈ v_c_X6_deskWaits0 := fun _ h => List.mem_cons_of_mem _ (List.mem_append_right _ (List.mem_append_left _ h))
theorem g_c_X6_deskWaits0_c_X3_waiting0_222 : GoodIn v_c_X6_deskWaits0 (wsV RX6 222 RX3 yX3_waiting v_c_X3_waiting0) := goodIn_app (goodIn_of _ (by decide +kernel)) (fun w h => ⟨List.mem_cons_of_mem _ (List.mem_append_right _ (List.mem_append_right _ (List.mem_append_left _ h))), good_of_word (vg_c_X3_waiting0 w h)⟩)
set_option maxHeartbeats 4000000 in
set_option maxRecDepth 100000 in
theorem c_X6_deskWaits0 (l : Launch) (G : va_G) (k : Nat → ClassId) (h0 : Nat) (t0 : Nat) (x0 : Value) (x1 : Value) (x2 : Value) (x3 : Value) (x5 : Value) (x6 : Value) (x7 : Value) (x8 : Value) (x9 : Value) (x10 : Value) (x11 : Value) (x12 : Value) (x13 : Value) (x14 : Value) (x15 : Value) (x16 : Value) (x17 : Value) (x18 : Value) (z0 : Value) (z1 : Value) (z2 : Value) (z3 : Value) : Met l yX6_deskWaits v_c_X6_deskWaits0 ({ frames := 3, cells := 0, slots := 0, locals := 65 }) (va_Pc [.ref h0] (pr G k [(h0, .inr (5, [x0, x1, x2, x3, .ref t0, x5, x6, x7, x8, x9, x10, x11, x12, x13, x14, x15, x16, x17, x18])), (t0, .inr (2, [z0, z1, z2, z3, .int 0, .int 0]))])) (vp_Sl (fun r => r = 0)) 0 0 (fun _ => False) := by
  refine Met.ofW (cc := cX6_deskWaits) (maxL := 1) (ret := (some .long)) (by decide) rfl ?_
  intro p e s m args below meth c s₁ B hml hv
  obtain ⟨rfl, hP, hK, hN⟩ := hv
  have hx := B.exec
  have hb := B.bytes
  have hr := B.returns
  have hts := atoms_spec (ws := v_c_X6_deskWaits0) B.pre
  have hown : s.vm.findClass RX6 = some m.cls := findClass_of_methodNamed B.named
  have hlocks := B.notSynchronized
  have hl := lv_entry ([.ref h0]) (n := 1) (Nat.le_of_ble_eq_true rfl)
  rw [lg_entry_eq]
  generalize (lg_sl ([.ref h0]) ++ List.replicate (1 - (lg_sl ([.ref h0])).length) Slot.unset).toArray = ls at hl ⊢
  have hl : lv_has ls 1 [(0, .ref h0)] := hl
  refine lv_aload_n hx hb dX6_deskWaits_0 rfl (lv_at hl 0 rfl) ?_
  refine va_get (D := G) (ci := 5) (v := .ref t0) (C := RX6) (T := TX6) (N := 19) hx hb hts i_c_X6_deskWaits0_X6 hown hK hP 0 rfl rfl 4 (by decide) (hts (.fieldLink RX6 38 "TileHouse" "deskTiles" "LTileHouse$Tiles;") (by decide +kernel)) (fun _ h9 => h9) rfl dX6_deskWaits_1 ?_
  have hPc := hP.sub (ws' := [(t0, .inr (2, [z0, z1, z2, z3, .int 0, .int 0]))]) [1] rfl
  refine q_calll (va_runV (As := []) (rest := []) ⟨hx, hb, hml, hown, hts⟩ (c_X3_waiting0 l G k t0 (z0) (z1) (z2) (z3)) (cwV 0 hts g_c_X6_deskWaits0_c_X3_waiting0_222 rfl rfl rfl (by decide +kernel) ⟨Nat.le_of_ble_eq_true rfl, Nat.le_of_ble_eq_true rfl⟩) ⟨pr_bl, va_recv hK hPc (ci := 2) (q0 := 0) rfl rfl, pr_pre hPc hK hN⟩ rfl rfl hl.1 rfl (lv_room (Nat.le_of_ble_eq_true rfl)) dX6_deskWaits_4 ⟨Nat.le_of_ble_eq_true rfl, Nat.le_of_ble_eq_true rfl⟩) (fun r1 hr1 => ?_)
  obtain rfl : r1 = 0 := hr1
  exact W.lret (v := 0) hx hb hr (fun t ht hW => ⟨0, rfl, rfl, ht⟩) (fun _ h => by cases h) dX6_deskWaits_7
