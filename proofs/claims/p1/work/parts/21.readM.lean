theorem dX7_mayClaim_0 : decode cX7_mayClaim 0 = .ok (.aload_n 0, 1) := by decide +kernel
theorem dX7_mayClaim_1 : decode cX7_mayClaim 1 = .ok (.getfield 277, 3) := by decide +kernel
theorem dX7_mayClaim_4 : decode cX7_mayClaim 4 = .ok (.iconst 2, 1) := by decide +kernel
theorem dX7_mayClaim_5 : decode cX7_mayClaim 5 = .ok (.if_icmp .ne 45, 3) := by decide +kernel
theorem dX7_mayClaim_50 : decode cX7_mayClaim 50 = .ok (.iconst 0, 1) := by decide +kernel
theorem dX7_mayClaim_51 : decode cX7_mayClaim 51 = .ok (.ireturn, 1) := by decide +kernel
theorem dX7_mayMake_0 : decode cX7_mayMake 0 = .ok (.aload_n 0, 1) := by decide +kernel
theorem dX7_mayMake_1 : decode cX7_mayMake 1 = .ok (.getfield 277, 3) := by decide +kernel
theorem dX7_mayMake_4 : decode cX7_mayMake 4 = .ok (.iconst 1, 1) := by decide +kernel
theorem dX7_mayMake_5 : decode cX7_mayMake 5 = .ok (.if_icmp .ne 41, 3) := by decide +kernel
theorem dX7_mayMake_46 : decode cX7_mayMake 46 = .ok (.iconst 0, 1) := by decide +kernel
theorem dX7_mayMake_47 : decode cX7_mayMake 47 = .ok (.ireturn, 1) := by decide +kernel
theorem dX7_has__0 : decode cX7_has_ 0 = .ok (.aload_n 0, 1) := by decide +kernel
theorem dX7_has__1 : decode cX7_has_ 1 = .ok (.getfield 37, 3) := by decide +kernel
theorem dX7_has__4 : decode cX7_has_ 4 = .ok (.bipush 34, 2) := by decide +kernel
theorem dX7_has__6 : decode cX7_has_ 6 = .ok (.iload_n 1, 1) := by decide +kernel
theorem dX7_has__7 : decode cX7_has_ 7 = .ok (.imul, 1) := by decide +kernel
theorem dX7_has__8 : decode cX7_has_ 8 = .ok (.iload_n 2, 1) := by decide +kernel
theorem dX7_has__9 : decode cX7_has_ 9 = .ok (.iadd, 1) := by decide +kernel
theorem dX7_has__10 : decode cX7_has_ 10 = .ok (.iaload, 1) := by decide +kernel
theorem dX7_has__11 : decode cX7_has_ 11 = .ok (.ireturn, 1) := by decide +kernel
theorem dX7_isOpen__0 : decode cX7_isOpen_ 0 = .ok (.iconst 0, 1) := by decide +kernel
theorem dX7_isOpen__1 : decode cX7_isOpen_ 1 = .ok (.istore_n 2, 1) := by decide +kernel
theorem dX7_isOpen__2 : decode cX7_isOpen_ 2 = .ok (.iconst 0, 1) := by decide +kernel
theorem dX7_isOpen__3 : decode cX7_isOpen_ 3 = .ok (.istore_n 3, 1) := by decide +kernel
theorem dX7_isOpen__4 : decode cX7_isOpen_ 4 = .ok (.iload_n 3, 1) := by decide +kernel
theorem dX7_isOpen__5 : decode cX7_isOpen_ 5 = .ok (.aload_n 0, 1) := by decide +kernel
theorem dX7_isOpen__6 : decode cX7_isOpen_ 6 = .ok (.getfield 49, 3) := by decide +kernel
theorem dX7_isOpen__9 : decode cX7_isOpen_ 9 = .ok (.iload_n 1, 1) := by decide +kernel
theorem dX7_isOpen__10 : decode cX7_isOpen_ 10 = .ok (.iaload, 1) := by decide +kernel
theorem dX7_isOpen__11 : decode cX7_isOpen_ 11 = .ok (.if_icmp .ge 33, 3) := by decide +kernel
theorem dX7_isOpen__44 : decode cX7_isOpen_ 44 = .ok (.iload_n 2, 1) := by decide +kernel
theorem dX7_isOpen__45 : decode cX7_isOpen_ 45 = .ok (.ireturn, 1) := by decide +kernel
theorem dX7_windOf_0 : decode cX7_windOf 0 = .ok (.iload_n 1, 1) := by decide +kernel
theorem dX7_windOf_1 : decode cX7_windOf 1 = .ok (.aload_n 0, 1) := by decide +kernel
theorem dX7_windOf_2 : decode cX7_windOf 2 = .ok (.getfield 265, 3) := by decide +kernel
theorem dX7_windOf_5 : decode cX7_windOf 5 = .ok (.isub, 1) := by decide +kernel
theorem dX7_windOf_6 : decode cX7_windOf 6 = .ok (.iconst 4, 1) := by decide +kernel
theorem dX7_windOf_7 : decode cX7_windOf 7 = .ok (.iadd, 1) := by decide +kernel
theorem dX7_windOf_8 : decode cX7_windOf 8 = .ok (.iconst 4, 1) := by decide +kernel
theorem dX7_windOf_9 : decode cX7_windOf 9 = .ok (.irem, 1) := by decide +kernel
theorem dX7_windOf_10 : decode cX7_windOf 10 = .ok (.ireturn, 1) := by decide +kernel
theorem dX7_inHand_0 : decode cX7_inHand 0 = .ok (.iconst 0, 1) := by decide +kernel
theorem dX7_inHand_1 : decode cX7_inHand 1 = .ok (.istore_n 1, 1) := by decide +kernel
theorem dX7_inHand_2 : decode cX7_inHand 2 = .ok (.iconst 0, 1) := by decide +kernel
theorem dX7_inHand_3 : decode cX7_inHand 3 = .ok (.istore_n 2, 1) := by decide +kernel
theorem dX7_inHand_4 : decode cX7_inHand 4 = .ok (.iload_n 2, 1) := by decide +kernel
theorem dX7_inHand_5 : decode cX7_inHand 5 = .ok (.bipush 34, 2) := by decide +kernel
theorem dX7_inHand_7 : decode cX7_inHand 7 = .ok (.if_icmp .ge 18, 3) := by decide +kernel
theorem dX7_inHand_25 : decode cX7_inHand 25 = .ok (.iload_n 1, 1) := by decide +kernel
theorem dX7_inHand_26 : decode cX7_inHand 26 = .ok (.ireturn, 1) := by decide +kernel
theorem dX7_inHand_10 : decode cX7_inHand 10 = .ok (.iload_n 1, 1) := by decide +kernel
theorem dX7_inHand_11 : decode cX7_inHand 11 = .ok (.aload_n 0, 1) := by decide +kernel
theorem dX7_inHand_12 : decode cX7_inHand 12 = .ok (.getfield 9, 3) := by decide +kernel
theorem dX7_inHand_15 : decode cX7_inHand 15 = .ok (.iload_n 2, 1) := by decide +kernel
theorem dX7_inHand_16 : decode cX7_inHand 16 = .ok (.iaload, 1) := by decide +kernel
theorem dX7_inHand_17 : decode cX7_inHand 17 = .ok (.iadd, 1) := by decide +kernel
theorem dX7_inHand_18 : decode cX7_inHand 18 = .ok (.istore_n 1, 1) := by decide +kernel
theorem dX7_inHand_19 : decode cX7_inHand 19 = .ok (.iinc 2 1, 3) := by decide +kernel
theorem dX7_inHand_22 : decode cX7_inHand 22 = .ok (.goto (-18), 3) := by decide +kernel
theorem dX7_of_0 : decode cX7_of 0 = .ok (.aload_n 0, 1) := by decide +kernel
theorem dX7_of_1 : decode cX7_of 1 = .ok (.getfield 31, 3) := by decide +kernel
theorem dX7_of_4 : decode cX7_of 4 = .ok (.iload_n 1, 1) := by decide +kernel
theorem dX7_of_5 : decode cX7_of 5 = .ok (.iaload, 1) := by decide +kernel
theorem dX7_of_6 : decode cX7_of 6 = .ok (.istore_n 2, 1) := by decide +kernel
theorem dX7_of_7 : decode cX7_of 7 = .ok (.iconst 0, 1) := by decide +kernel
theorem dX7_of_8 : decode cX7_of 8 = .ok (.istore_n 3, 1) := by decide +kernel
theorem dX7_of_9 : decode cX7_of 9 = .ok (.iload_n 3, 1) := by decide +kernel
theorem dX7_of_10 : decode cX7_of 10 = .ok (.aload_n 0, 1) := by decide +kernel
theorem dX7_of_11 : decode cX7_of 11 = .ok (.getfield 137, 3) := by decide +kernel
theorem dX7_of_14 : decode cX7_of 14 = .ok (.if_icmp .ge 71, 3) := by decide +kernel
theorem dX7_of_85 : decode cX7_of 85 = .ok (.iload_n 2, 1) := by decide +kernel
theorem dX7_of_86 : decode cX7_of 86 = .ok (.ireturn, 1) := by decide +kernel
theorem dX7_waitsOf_0 : decode cX7_waitsOf 0 = .ok (.lconst 0, 1) := by decide +kernel
theorem dX7_waitsOf_1 : decode cX7_waitsOf 1 = .ok (.lstore_n 1, 1) := by decide +kernel
theorem dX7_waitsOf_2 : decode cX7_waitsOf 2 = .ok (.aload_n 0, 1) := by decide +kernel
theorem dX7_waitsOf_3 : decode cX7_waitsOf 3 = .ok (.invokevirtual 133, 3) := by decide +kernel
theorem dX7_waitsOf_6 : decode cX7_waitsOf 6 = .ok (.iconst 3, 1) := by decide +kernel
theorem dX7_waitsOf_7 : decode cX7_waitsOf 7 = .ok (.aload_n 0, 1) := by decide +kernel
theorem dX7_waitsOf_8 : decode cX7_waitsOf 8 = .ok (.getfield 137, 3) := by decide +kernel
theorem dX7_waitsOf_11 : decode cX7_waitsOf 11 = .ok (.imul, 1) := by decide +kernel
theorem dX7_waitsOf_12 : decode cX7_waitsOf 12 = .ok (.iadd, 1) := by decide +kernel
theorem dX7_waitsOf_13 : decode cX7_waitsOf 13 = .ok (.bipush 13, 2) := by decide +kernel
theorem dX7_waitsOf_15 : decode cX7_waitsOf 15 = .ok (.if_icmp .eq 5, 3) := by decide +kernel
theorem dX7_waitsOf_18 : decode cX7_waitsOf 18 = .ok (.lload_n 1, 1) := by decide +kernel
theorem dX7_waitsOf_19 : decode cX7_waitsOf 19 = .ok (.lreturn, 1) := by decide +kernel
theorem dX7_bit_0 : decode cX7_bit 0 = .ok (.lconst 1, 1) := by decide +kernel
theorem dX7_bit_1 : decode cX7_bit 1 = .ok (.iload_n 0, 1) := by decide +kernel
theorem dX7_bit_2 : decode cX7_bit 2 = .ok (.lshl, 1) := by decide +kernel
theorem dX7_bit_3 : decode cX7_bit 3 = .ok (.lreturn, 1) := by decide +kernel
theorem dX7_discard_0 : decode cX7_discard 0 = .ok (.aload_n 0, 1) := by decide +kernel
theorem dX7_discard_1 : decode cX7_discard 1 = .ok (.iconst 0, 1) := by decide +kernel
theorem dX7_discard_2 : decode cX7_discard 2 = .ok (.putfield 103, 3) := by decide +kernel
theorem dX7_discard_5 : decode cX7_discard 5 = .ok (.aload_n 0, 1) := by decide +kernel
theorem dX7_discard_6 : decode cX7_discard 6 = .ok (.getfield 277, 3) := by decide +kernel
theorem dX7_discard_9 : decode cX7_discard 9 = .ok (.iconst 1, 1) := by decide +kernel
theorem dX7_discard_10 : decode cX7_discard 10 = .ok (.if_icmp .ne 22, 3) := by decide +kernel
theorem dX7_discard_32 : decode cX7_discard 32 = .ok (.iconst 0, 1) := by decide +kernel
theorem dX7_discard_33 : decode cX7_discard 33 = .ok (.ireturn, 1) := by decide +kernel
theorem dX7_pass_0 : decode cX7_pass 0 = .ok (.aload_n 0, 1) := by decide +kernel
theorem dX7_pass_1 : decode cX7_pass 1 = .ok (.iconst 0, 1) := by decide +kernel
theorem dX7_pass_2 : decode cX7_pass 2 = .ok (.putfield 103, 3) := by decide +kernel
theorem dX7_pass_5 : decode cX7_pass 5 = .ok (.aload_n 0, 1) := by decide +kernel
theorem dX7_pass_6 : decode cX7_pass 6 = .ok (.getfield 277, 3) := by decide +kernel
theorem dX7_pass_9 : decode cX7_pass 9 = .ok (.iconst 2, 1) := by decide +kernel
theorem dX7_pass_10 : decode cX7_pass 10 = .ok (.if_icmp .ge 5, 3) := by decide +kernel
theorem dX7_pass_13 : decode cX7_pass 13 = .ok (.iconst 0, 1) := by decide +kernel
theorem dX7_pass_14 : decode cX7_pass 14 = .ok (.ireturn, 1) := by decide +kernel
theorem dX7_run_0 : decode cX7_run 0 = .ok (.aload_n 0, 1) := by decide +kernel
theorem dX7_run_1 : decode cX7_run 1 = .ok (.iconst 0, 1) := by decide +kernel
theorem dX7_run_2 : decode cX7_run 2 = .ok (.putfield 103, 3) := by decide +kernel
theorem dX7_run_5 : decode cX7_run 5 = .ok (.aload_n 0, 1) := by decide +kernel
theorem dX7_run_6 : decode cX7_run 6 = .ok (.iload_n 1, 1) := by decide +kernel
theorem dX7_run_7 : decode cX7_run 7 = .ok (.invokevirtual 361, 3) := by decide +kernel
theorem dX7_run_10 : decode cX7_run 10 = .ok (.ifCond .eq 40, 3) := by decide +kernel
theorem dX7_run_50 : decode cX7_run 50 = .ok (.iconst 0, 1) := by decide +kernel
theorem dX7_run_51 : decode cX7_run 51 = .ok (.ireturn, 1) := by decide +kernel
theorem dX7_three_0 : decode cX7_three 0 = .ok (.aload_n 0, 1) := by decide +kernel
theorem dX7_three_1 : decode cX7_three 1 = .ok (.iconst 0, 1) := by decide +kernel
theorem dX7_three_2 : decode cX7_three 2 = .ok (.putfield 103, 3) := by decide +kernel
theorem dX7_three_5 : decode cX7_three 5 = .ok (.aload_n 0, 1) := by decide +kernel
theorem dX7_three_6 : decode cX7_three 6 = .ok (.iload_n 1, 1) := by decide +kernel
theorem dX7_three_7 : decode cX7_three 7 = .ok (.invokevirtual 361, 3) := by decide +kernel
theorem dX7_three_10 : decode cX7_three 10 = .ok (.ifCond .eq 16, 3) := by decide +kernel
theorem dX7_three_26 : decode cX7_three 26 = .ok (.iconst 0, 1) := by decide +kernel
theorem dX7_three_27 : decode cX7_three 27 = .ok (.ireturn, 1) := by decide +kernel
theorem dX7_four_0 : decode cX7_four 0 = .ok (.aload_n 0, 1) := by decide +kernel
theorem dX7_four_1 : decode cX7_four 1 = .ok (.iconst 0, 1) := by decide +kernel
theorem dX7_four_2 : decode cX7_four 2 = .ok (.putfield 103, 3) := by decide +kernel
theorem dX7_four_5 : decode cX7_four 5 = .ok (.aload_n 0, 1) := by decide +kernel
theorem dX7_four_6 : decode cX7_four 6 = .ok (.iload_n 1, 1) := by decide +kernel
theorem dX7_four_7 : decode cX7_four 7 = .ok (.invokevirtual 361, 3) := by decide +kernel
theorem dX7_four_10 : decode cX7_four 10 = .ok (.ifCond .eq 24, 3) := by decide +kernel
theorem dX7_four_34 : decode cX7_four 34 = .ok (.iconst 0, 1) := by decide +kernel
theorem dX7_four_35 : decode cX7_four 35 = .ok (.ireturn, 1) := by decide +kernel
theorem dX7_hide_0 : decode cX7_hide 0 = .ok (.aload_n 0, 1) := by decide +kernel
theorem dX7_hide_1 : decode cX7_hide 1 = .ok (.iconst 0, 1) := by decide +kernel
theorem dX7_hide_2 : decode cX7_hide 2 = .ok (.putfield 103, 3) := by decide +kernel
theorem dX7_hide_5 : decode cX7_hide 5 = .ok (.aload_n 0, 1) := by decide +kernel
theorem dX7_hide_6 : decode cX7_hide 6 = .ok (.invokevirtual 370, 3) := by decide +kernel
theorem dX7_hide_9 : decode cX7_hide 9 = .ok (.ifCond .eq 23, 3) := by decide +kernel
theorem dX7_hide_32 : decode cX7_hide 32 = .ok (.iconst 0, 1) := by decide +kernel
theorem dX7_hide_33 : decode cX7_hide 33 = .ok (.ireturn, 1) := by decide +kernel
theorem dX7_add_0 : decode cX7_add 0 = .ok (.aload_n 0, 1) := by decide +kernel
theorem dX7_add_1 : decode cX7_add 1 = .ok (.iconst 0, 1) := by decide +kernel
theorem dX7_add_2 : decode cX7_add 2 = .ok (.putfield 103, 3) := by decide +kernel
theorem dX7_add_5 : decode cX7_add 5 = .ok (.aload_n 0, 1) := by decide +kernel
theorem dX7_add_6 : decode cX7_add 6 = .ok (.invokevirtual 370, 3) := by decide +kernel
theorem dX7_add_9 : decode cX7_add 9 = .ok (.ifCond .eq 22, 3) := by decide +kernel
theorem dX7_add_31 : decode cX7_add 31 = .ok (.iconst 0, 1) := by decide +kernel
theorem dX7_add_32 : decode cX7_add 32 = .ok (.ireturn, 1) := by decide +kernel
theorem dX7_win_0 : decode cX7_win 0 = .ok (.aload_n 0, 1) := by decide +kernel
theorem dX7_win_1 : decode cX7_win 1 = .ok (.iconst 0, 1) := by decide +kernel
theorem dX7_win_2 : decode cX7_win 2 = .ok (.putfield 103, 3) := by decide +kernel
theorem dX7_win_5 : decode cX7_win 5 = .ok (.aload_n 0, 1) := by decide +kernel
theorem dX7_win_6 : decode cX7_win 6 = .ok (.getfield 277, 3) := by decide +kernel
theorem dX7_win_9 : decode cX7_win 9 = .ok (.iconst 1, 1) := by decide +kernel
theorem dX7_win_10 : decode cX7_win 10 = .ok (.if_icmp .ne 10, 3) := by decide +kernel
theorem dX7_win_20 : decode cX7_win 20 = .ok (.iconst 0, 1) := by decide +kernel
theorem dX7_win_21 : decode cX7_win 21 = .ok (.ireturn, 1) := by decide +kernel
theorem dX7_claim_0 : decode cX7_claim 0 = .ok (.aload_n 0, 1) := by decide +kernel
theorem dX7_claim_1 : decode cX7_claim 1 = .ok (.iconst 0, 1) := by decide +kernel
theorem dX7_claim_2 : decode cX7_claim 2 = .ok (.putfield 103, 3) := by decide +kernel
theorem dX7_claim_5 : decode cX7_claim 5 = .ok (.aload_n 0, 1) := by decide +kernel
theorem dX7_claim_6 : decode cX7_claim 6 = .ok (.getfield 277, 3) := by decide +kernel
theorem dX7_claim_9 : decode cX7_claim 9 = .ok (.iconst 2, 1) := by decide +kernel
theorem dX7_claim_10 : decode cX7_claim 10 = .ok (.if_icmp .lt 36, 3) := by decide +kernel
theorem dX7_claim_46 : decode cX7_claim 46 = .ok (.iconst 0, 1) := by decide +kernel
theorem dX7_claim_47 : decode cX7_claim 47 = .ok (.ireturn, 1) := by decide +kernel
theorem dX7_nine_0 : decode cX7_nine 0 = .ok (.aload_n 0, 1) := by decide +kernel
theorem dX7_nine_1 : decode cX7_nine 1 = .ok (.iconst 0, 1) := by decide +kernel
theorem dX7_nine_2 : decode cX7_nine 2 = .ok (.putfield 103, 3) := by decide +kernel
theorem dX7_nine_5 : decode cX7_nine 5 = .ok (.aload_n 0, 1) := by decide +kernel
theorem dX7_nine_6 : decode cX7_nine 6 = .ok (.getfield 277, 3) := by decide +kernel
theorem dX7_nine_9 : decode cX7_nine 9 = .ok (.iconst 1, 1) := by decide +kernel
theorem dX7_nine_10 : decode cX7_nine 10 = .ok (.if_icmp .ne 29, 3) := by decide +kernel
theorem dX7_nine_39 : decode cX7_nine 39 = .ok (.iconst 0, 1) := by decide +kernel
theorem dX7_nine_40 : decode cX7_nine 40 = .ok (.ireturn, 1) := by decide +kernel
theorem dX7_hand_0 : decode cX7_hand 0 = .ok (.aload_n 0, 1) := by decide +kernel
theorem dX7_hand_1 : decode cX7_hand 1 = .ok (.iconst 0, 1) := by decide +kernel
theorem dX7_hand_2 : decode cX7_hand 2 = .ok (.putfield 103, 3) := by decide +kernel
theorem dX7_hand_5 : decode cX7_hand 5 = .ok (.iload_n 1, 1) := by decide +kernel
theorem dX7_hand_6 : decode cX7_hand 6 = .ok (.invokestatic 355, 3) := by decide +kernel
theorem dX7_hand_9 : decode cX7_hand 9 = .ok (.ifCond .eq 19, 3) := by decide +kernel
theorem dX7_hand_12 : decode cX7_hand 12 = .ok (.iload_n 2, 1) := by decide +kernel
theorem dX7_hand_13 : decode cX7_hand 13 = .ok (.invokestatic 329, 3) := by decide +kernel
theorem dX7_hand_16 : decode cX7_hand 16 = .ok (.ifCond .eq 12, 3) := by decide +kernel
theorem dX7_hand_19 : decode cX7_hand 19 = .ok (.aload_n 0, 1) := by decide +kernel
theorem dX7_hand_20 : decode cX7_hand 20 = .ok (.iload_n 1, 1) := by decide +kernel
theorem dX7_hand_21 : decode cX7_hand 21 = .ok (.iload_n 2, 1) := by decide +kernel
theorem dX7_hand_22 : decode cX7_hand 22 = .ok (.invokevirtual 256, 3) := by decide +kernel
theorem dX7_hand_25 : decode cX7_hand 25 = .ok (.goto 4, 3) := by decide +kernel
theorem dX7_hand_29 : decode cX7_hand 29 = .ok (.ireturn, 1) := by decide +kernel
theorem dX7_hand_28 : decode cX7_hand 28 = .ok (.iconst 0, 1) := by decide +kernel
theorem dX7_laid_0 : decode cX7_laid 0 = .ok (.aload_n 0, 1) := by decide +kernel
theorem dX7_laid_1 : decode cX7_laid 1 = .ok (.iconst 0, 1) := by decide +kernel
theorem dX7_laid_2 : decode cX7_laid 2 = .ok (.putfield 103, 3) := by decide +kernel
theorem dX7_laid_5 : decode cX7_laid 5 = .ok (.iload_n 1, 1) := by decide +kernel
theorem dX7_laid_6 : decode cX7_laid 6 = .ok (.invokestatic 355, 3) := by decide +kernel
theorem dX7_laid_9 : decode cX7_laid 9 = .ok (.ifCond .eq 26, 3) := by decide +kernel
theorem dX7_laid_12 : decode cX7_laid 12 = .ok (.iload_n 2, 1) := by decide +kernel
theorem dX7_laid_13 : decode cX7_laid 13 = .ok (.ifCond .lt 22, 3) := by decide +kernel
theorem dX7_laid_35 : decode cX7_laid 35 = .ok (.iconst (-1), 1) := by decide +kernel
theorem dX7_laid_36 : decode cX7_laid 36 = .ok (.ireturn, 1) := by decide +kernel
theorem dX7_laid_16 : decode cX7_laid 16 = .ok (.iload_n 2, 1) := by decide +kernel
theorem dX7_laid_17 : decode cX7_laid 17 = .ok (.aload_n 0, 1) := by decide +kernel
theorem dX7_laid_18 : decode cX7_laid 18 = .ok (.getfield 49, 3) := by decide +kernel
theorem dX7_laid_21 : decode cX7_laid 21 = .ok (.iload_n 1, 1) := by decide +kernel
theorem dX7_laid_22 : decode cX7_laid 22 = .ok (.iaload, 1) := by decide +kernel
theorem dX7_laid_23 : decode cX7_laid 23 = .ok (.if_icmp .ge 12, 3) := by decide +kernel
theorem dX7_waits_0 : decode cX7_waits 0 = .ok (.aload_n 0, 1) := by decide +kernel
theorem dX7_waits_1 : decode cX7_waits 1 = .ok (.iconst 0, 1) := by decide +kernel
theorem dX7_waits_2 : decode cX7_waits 2 = .ok (.putfield 103, 3) := by decide +kernel
theorem dX7_waits_5 : decode cX7_waits 5 = .ok (.iload_n 1, 1) := by decide +kernel
theorem dX7_waits_6 : decode cX7_waits 6 = .ok (.invokestatic 355, 3) := by decide +kernel
theorem dX7_waits_9 : decode cX7_waits 9 = .ok (.ifCond .eq 26, 3) := by decide +kernel
theorem dX7_waits_12 : decode cX7_waits 12 = .ok (.aload_n 0, 1) := by decide +kernel
theorem dX7_waits_13 : decode cX7_waits 13 = .ok (.getfield 277, 3) := by decide +kernel
theorem dX7_waits_16 : decode cX7_waits 16 = .ok (.ifCond .eq 19, 3) := by decide +kernel
theorem dX7_waits_35 : decode cX7_waits 35 = .ok (.lconst 0, 1) := by decide +kernel
theorem dX7_waits_36 : decode cX7_waits 36 = .ok (.lreturn, 1) := by decide +kernel
theorem dX7_seat_0 : decode cX7_seat 0 = .ok (.aload_n 0, 1) := by decide +kernel
theorem dX7_seat_1 : decode cX7_seat 1 = .ok (.iconst 0, 1) := by decide +kernel
theorem dX7_seat_2 : decode cX7_seat 2 = .ok (.putfield 103, 3) := by decide +kernel
theorem dX7_seat_5 : decode cX7_seat 5 = .ok (.iload_n 1, 1) := by decide +kernel
theorem dX7_seat_6 : decode cX7_seat 6 = .ok (.invokestatic 355, 3) := by decide +kernel
theorem dX7_seat_9 : decode cX7_seat 9 = .ok (.ifCond .ne 5, 3) := by decide +kernel
theorem dX7_seat_14 : decode cX7_seat 14 = .ok (.iload_n 2, 1) := by decide +kernel
theorem dX7_seat_15 : decode cX7_seat 15 = .ok (.tableswitch 123 0 7 #[45, 52, 59, 74, 80, 87, 94, 108], 45) := by decide +kernel
theorem dX7_seat_138 : decode cX7_seat 138 = .ok (.iconst (-1), 1) := by decide +kernel
theorem dX7_seat_139 : decode cX7_seat 139 = .ok (.ireturn, 1) := by decide +kernel
theorem dX7_seat_60 : decode cX7_seat 60 = .ok (.aload_n 0, 1) := by decide +kernel
theorem dX7_seat_61 : decode cX7_seat 61 = .ok (.getfield 40, 3) := by decide +kernel
theorem dX7_seat_64 : decode cX7_seat 64 = .ok (.iload_n 1, 1) := by decide +kernel
theorem dX7_seat_65 : decode cX7_seat 65 = .ok (.iaload, 1) := by decide +kernel
theorem dX7_seat_66 : decode cX7_seat 66 = .ok (.ireturn, 1) := by decide +kernel
theorem dX7_seat_67 : decode cX7_seat 67 = .ok (.aload_n 0, 1) := by decide +kernel
theorem dX7_seat_68 : decode cX7_seat 68 = .ok (.getfield 58, 3) := by decide +kernel
theorem dX7_seat_71 : decode cX7_seat 71 = .ok (.iload_n 1, 1) := by decide +kernel
theorem dX7_seat_72 : decode cX7_seat 72 = .ok (.iaload, 1) := by decide +kernel
theorem dX7_seat_73 : decode cX7_seat 73 = .ok (.ireturn, 1) := by decide +kernel
theorem dX7_seat_74 : decode cX7_seat 74 = .ok (.aload_n 0, 1) := by decide +kernel
theorem dX7_seat_75 : decode cX7_seat 75 = .ok (.getfield 68, 3) := by decide +kernel
theorem dX7_seat_78 : decode cX7_seat 78 = .ok (.iload_n 1, 1) := by decide +kernel
theorem dX7_seat_79 : decode cX7_seat 79 = .ok (.baload, 1) := by decide +kernel
theorem dX7_seat_80 : decode cX7_seat 80 = .ok (.ifCond .eq 7, 3) := by decide +kernel
theorem dX7_seat_87 : decode cX7_seat 87 = .ok (.iconst 0, 1) := by decide +kernel
theorem dX7_seat_88 : decode cX7_seat 88 = .ok (.ireturn, 1) := by decide +kernel
theorem dX7_seat_89 : decode cX7_seat 89 = .ok (.aload_n 0, 1) := by decide +kernel
theorem dX7_seat_90 : decode cX7_seat 90 = .ok (.iload_n 1, 1) := by decide +kernel
theorem dX7_seat_91 : decode cX7_seat 91 = .ok (.invokevirtual 283, 3) := by decide +kernel
theorem dX7_seat_94 : decode cX7_seat 94 = .ok (.ireturn, 1) := by decide +kernel
theorem dX7_seat_95 : decode cX7_seat 95 = .ok (.aload_n 0, 1) := by decide +kernel
theorem dX7_seat_96 : decode cX7_seat 96 = .ok (.getfield 55, 3) := by decide +kernel
theorem dX7_seat_99 : decode cX7_seat 99 = .ok (.iload_n 1, 1) := by decide +kernel
theorem dX7_seat_100 : decode cX7_seat 100 = .ok (.iaload, 1) := by decide +kernel
theorem dX7_seat_101 : decode cX7_seat 101 = .ok (.ireturn, 1) := by decide +kernel
theorem dX7_seat_102 : decode cX7_seat 102 = .ok (.aload_n 0, 1) := by decide +kernel
theorem dX7_seat_103 : decode cX7_seat 103 = .ok (.getfield 49, 3) := by decide +kernel
theorem dX7_seat_106 : decode cX7_seat 106 = .ok (.iload_n 1, 1) := by decide +kernel
theorem dX7_seat_107 : decode cX7_seat 107 = .ok (.iaload, 1) := by decide +kernel
theorem dX7_seat_108 : decode cX7_seat 108 = .ok (.ireturn, 1) := by decide +kernel
theorem dX7_seat_109 : decode cX7_seat 109 = .ok (.aload_n 0, 1) := by decide +kernel
theorem dX7_seat_110 : decode cX7_seat 110 = .ok (.iload_n 1, 1) := by decide +kernel
theorem dX7_seat_111 : decode cX7_seat 111 = .ok (.invokevirtual 332, 3) := by decide +kernel
theorem dX7_seat_114 : decode cX7_seat 114 = .ok (.ifCond .eq 7, 3) := by decide +kernel
theorem dX7_seat_121 : decode cX7_seat 121 = .ok (.iconst 0, 1) := by decide +kernel
theorem dX7_seat_122 : decode cX7_seat 122 = .ok (.ireturn, 1) := by decide +kernel
theorem dX7_seat_123 : decode cX7_seat 123 = .ok (.aload_n 0, 1) := by decide +kernel
theorem dX7_seat_124 : decode cX7_seat 124 = .ok (.getfield 71, 3) := by decide +kernel
theorem dX7_seat_127 : decode cX7_seat 127 = .ok (.iload_n 1, 1) := by decide +kernel
theorem dX7_seat_128 : decode cX7_seat 128 = .ok (.baload, 1) := by decide +kernel
theorem dX7_seat_129 : decode cX7_seat 129 = .ok (.ifCond .eq 7, 3) := by decide +kernel
theorem dX7_seat_136 : decode cX7_seat 136 = .ok (.iconst 0, 1) := by decide +kernel
theorem dX7_seat_137 : decode cX7_seat 137 = .ok (.ireturn, 1) := by decide +kernel
theorem dX7_seat_12 : decode cX7_seat 12 = .ok (.iconst (-1), 1) := by decide +kernel
theorem dX7_seat_13 : decode cX7_seat 13 = .ok (.ireturn, 1) := by decide +kernel
theorem dX7_won_0 : decode cX7_won 0 = .ok (.aload_n 0, 1) := by decide +kernel
theorem dX7_won_1 : decode cX7_won 1 = .ok (.iconst 0, 1) := by decide +kernel
theorem dX7_won_2 : decode cX7_won 2 = .ok (.putfield 103, 3) := by decide +kernel
theorem dX7_won_5 : decode cX7_won 5 = .ok (.iload_n 1, 1) := by decide +kernel
theorem dX7_won_6 : decode cX7_won 6 = .ok (.ifCond .lt 21, 3) := by decide +kernel
theorem dX7_won_27 : decode cX7_won 27 = .ok (.iconst (-1), 1) := by decide +kernel
theorem dX7_won_28 : decode cX7_won 28 = .ok (.goto 14, 3) := by decide +kernel
theorem dX7_won_42 : decode cX7_won 42 = .ok (.ireturn, 1) := by decide +kernel
theorem dX7_won_9 : decode cX7_won 9 = .ok (.iload_n 1, 1) := by decide +kernel
theorem dX7_won_10 : decode cX7_won 10 = .ok (.aload_n 0, 1) := by decide +kernel
theorem dX7_won_11 : decode cX7_won 11 = .ok (.getfield 317, 3) := by decide +kernel
theorem dX7_won_14 : decode cX7_won 14 = .ok (.if_icmp .ge 13, 3) := by decide +kernel
theorem dX7_forms_0 : decode cX7_forms 0 = .ok (.aload_n 0, 1) := by decide +kernel
theorem dX7_forms_1 : decode cX7_forms 1 = .ok (.iconst 0, 1) := by decide +kernel
theorem dX7_forms_2 : decode cX7_forms 2 = .ok (.putfield 103, 3) := by decide +kernel
theorem dX7_forms_5 : decode cX7_forms 5 = .ok (.iload_n 1, 1) := by decide +kernel
theorem dX7_forms_6 : decode cX7_forms 6 = .ok (.ifCond .lt 11, 3) := by decide +kernel
theorem dX7_forms_17 : decode cX7_forms 17 = .ok (.lconst 0, 1) := by decide +kernel
theorem dX7_forms_18 : decode cX7_forms 18 = .ok (.goto 9, 3) := by decide +kernel
theorem dX7_forms_27 : decode cX7_forms 27 = .ok (.lreturn, 1) := by decide +kernel
theorem dX7_forms_9 : decode cX7_forms 9 = .ok (.iload_n 1, 1) := by decide +kernel
theorem dX7_forms_10 : decode cX7_forms 10 = .ok (.aload_n 0, 1) := by decide +kernel
theorem dX7_forms_11 : decode cX7_forms 11 = .ok (.getfield 317, 3) := by decide +kernel
theorem dX7_forms_14 : decode cX7_forms 14 = .ok (.if_icmp .lt 7, 3) := by decide +kernel
theorem dX7_count_0 : decode cX7_count 0 = .ok (.aload_n 0, 1) := by decide +kernel
theorem dX7_count_1 : decode cX7_count 1 = .ok (.iconst 0, 1) := by decide +kernel
theorem dX7_count_2 : decode cX7_count 2 = .ok (.putfield 103, 3) := by decide +kernel
theorem dX7_count_5 : decode cX7_count 5 = .ok (.iload_n 1, 1) := by decide +kernel
theorem dX7_count_6 : decode cX7_count 6 = .ok (.tableswitch 174 0 12 #[66, 71, 87, 92, 97, 102, 107, 123, 128, 146, 159, 164, 169], 66) := by decide +kernel
theorem dX7_count_180 : decode cX7_count 180 = .ok (.iconst (-1), 1) := by decide +kernel
theorem dX7_count_181 : decode cX7_count 181 = .ok (.ireturn, 1) := by decide +kernel
theorem dX7_count_72 : decode cX7_count 72 = .ok (.aload_n 0, 1) := by decide +kernel
theorem dX7_count_73 : decode cX7_count 73 = .ok (.getfield 277, 3) := by decide +kernel
theorem dX7_count_76 : decode cX7_count 76 = .ok (.ireturn, 1) := by decide +kernel
theorem dX7_count_77 : decode cX7_count 77 = .ok (.aload_n 0, 1) := by decide +kernel
theorem dX7_count_78 : decode cX7_count 78 = .ok (.getfield 277, 3) := by decide +kernel
theorem dX7_count_81 : decode cX7_count 81 = .ok (.ifCond .ne 7, 3) := by decide +kernel
theorem dX7_count_84 : decode cX7_count 84 = .ok (.iconst (-1), 1) := by decide +kernel
theorem dX7_count_85 : decode cX7_count 85 = .ok (.goto 7, 3) := by decide +kernel
theorem dX7_count_92 : decode cX7_count 92 = .ok (.ireturn, 1) := by decide +kernel
theorem dX7_count_93 : decode cX7_count 93 = .ok (.aload_n 0, 1) := by decide +kernel
theorem dX7_count_94 : decode cX7_count 94 = .ok (.getfield 265, 3) := by decide +kernel
theorem dX7_count_97 : decode cX7_count 97 = .ok (.ireturn, 1) := by decide +kernel
theorem dX7_count_98 : decode cX7_count 98 = .ok (.aload_n 0, 1) := by decide +kernel
theorem dX7_count_99 : decode cX7_count 99 = .ok (.getfield 286, 3) := by decide +kernel
theorem dX7_count_102 : decode cX7_count 102 = .ok (.ireturn, 1) := by decide +kernel
theorem dX7_count_103 : decode cX7_count 103 = .ok (.aload_n 0, 1) := by decide +kernel
theorem dX7_count_104 : decode cX7_count 104 = .ok (.getfield 384, 3) := by decide +kernel
theorem dX7_count_107 : decode cX7_count 107 = .ok (.ireturn, 1) := by decide +kernel
theorem dX7_count_108 : decode cX7_count 108 = .ok (.aload_n 0, 1) := by decide +kernel
theorem dX7_count_109 : decode cX7_count 109 = .ok (.getfield 337, 3) := by decide +kernel
theorem dX7_count_112 : decode cX7_count 112 = .ok (.ireturn, 1) := by decide +kernel
theorem dX7_count_113 : decode cX7_count 113 = .ok (.aload_n 0, 1) := by decide +kernel
theorem dX7_count_114 : decode cX7_count 114 = .ok (.getfield 323, 3) := by decide +kernel
theorem dX7_count_117 : decode cX7_count 117 = .ok (.ifCond .eq 10, 3) := by decide +kernel
theorem dX7_count_127 : decode cX7_count 127 = .ok (.iconst 0, 1) := by decide +kernel
theorem dX7_count_128 : decode cX7_count 128 = .ok (.ireturn, 1) := by decide +kernel
theorem dX7_count_129 : decode cX7_count 129 = .ok (.aload_n 0, 1) := by decide +kernel
theorem dX7_count_130 : decode cX7_count 130 = .ok (.getfield 250, 3) := by decide +kernel
theorem dX7_count_133 : decode cX7_count 133 = .ok (.ireturn, 1) := by decide +kernel
theorem dX7_count_134 : decode cX7_count 134 = .ok (.aload_n 0, 1) := by decide +kernel
theorem dX7_count_135 : decode cX7_count 135 = .ok (.getfield 323, 3) := by decide +kernel
theorem dX7_count_138 : decode cX7_count 138 = .ok (.ifCond .eq 12, 3) := by decide +kernel
theorem dX7_count_150 : decode cX7_count 150 = .ok (.iconst 0, 1) := by decide +kernel
theorem dX7_count_151 : decode cX7_count 151 = .ok (.ireturn, 1) := by decide +kernel
theorem dX7_count_152 : decode cX7_count 152 = .ok (.aload_n 0, 1) := by decide +kernel
theorem dX7_count_153 : decode cX7_count 153 = .ok (.getfield 310, 3) := by decide +kernel
theorem dX7_count_156 : decode cX7_count 156 = .ok (.ifCond .eq 7, 3) := by decide +kernel
theorem dX7_count_163 : decode cX7_count 163 = .ok (.iconst 0, 1) := by decide +kernel
theorem dX7_count_164 : decode cX7_count 164 = .ok (.ireturn, 1) := by decide +kernel
theorem dX7_count_165 : decode cX7_count 165 = .ok (.aload_n 0, 1) := by decide +kernel
theorem dX7_count_166 : decode cX7_count 166 = .ok (.getfield 397, 3) := by decide +kernel
theorem dX7_count_169 : decode cX7_count 169 = .ok (.ireturn, 1) := by decide +kernel
theorem dX7_count_170 : decode cX7_count 170 = .ok (.aload_n 0, 1) := by decide +kernel
theorem dX7_count_171 : decode cX7_count 171 = .ok (.getfield 317, 3) := by decide +kernel
theorem dX7_count_174 : decode cX7_count 174 = .ok (.ireturn, 1) := by decide +kernel
theorem dX7_count_175 : decode cX7_count 175 = .ok (.aload_n 0, 1) := by decide +kernel
theorem dX7_count_176 : decode cX7_count 176 = .ok (.getfield 74, 3) := by decide +kernel
theorem dX7_count_179 : decode cX7_count 179 = .ok (.ireturn, 1) := by decide +kernel
theorem upd0 {i : Nat} : upd (fun _ => (0 : Int32)) i 0 = fun _ => 0 := funext (fun j => by unfold upd; split <;> rfl)
theorem in136 {a b : Int32} (ha : vp_in a 4) (hb : vp_in b 34) : vp_in (34 * a + b) 136 := by
  obtain ⟨i, hi, rfl⟩ := vp_in_of ha (by decide)
  obtain ⟨j, hj, rfl⟩ := vp_in_of hb (by decide)
  rw [show (34 : Int32) = nI 34 from rfl, pk_mul, nI_add]
  exact vp_in_nI (by omega) (by decide)
theorem wind4 {p : Int32} (h : vp_in p 4) : (p - 0 + 4) - (p - 0 + 4) / 4 * 4 = p := by
  obtain ⟨j, hj, rfl⟩ := vp_in_of h (by decide)
  rcases (show j = 0 ∨ j = 1 ∨ j = 2 ∨ j = 3 by omega) with rfl | rfl | rfl | rfl <;> decide
def LOK (p0 p1 : Int32) : Prop := vp_in p0 34 ∧ ¬ p1 < 1 ∧ p1 ≤ 4
def SOK (p0 p1 : Int32) : Prop := vp_in p1 34 ∧ ¬ p0 < 0 ∧ ¬ 3 < p0 ∧ (p0 = 0 → sr p1)
theorem lay_le4 {p v : Int32} (h : p ≤ 4) (e : v = 0 + p) : ¬ 4 < v := by
  rw [e, Int32.zero_add]
  exact Int32.not_lt.mpr h
theorem lay_le14 {p v : Int32} (h : p ≤ 4) (e : v = 0 + p) : v ≤ 14 := by
  rw [e, Int32.zero_add]
  exact Int32.le_trans h (by decide)
theorem n_lt {a b : Int32} (h : ¬ a < b) : b ≤ a := Int32.not_lt.mp h
theorem ptsF {p : Int32} (h : vp_in p 4) : (upd (upd (upd (upd (fun _ => 0) (0 : Int32).toNatClampNeg 25000) (1 : Int32).toNatClampNeg 25000) (2 : Int32).toNatClampNeg 25000) (3 : Int32).toNatClampNeg 25000) p.toNatClampNeg = (25000 : Int32) := by
  obtain ⟨j, hj, rfl⟩ := vp_in_of h (by decide)
  rcases (show j = 0 ∨ j = 1 ∨ j = 2 ∨ j = 3 by omega) with rfl | rfl | rfl | rfl <;> rfl
def v_m_mayClaim : List Cond := .code yX7_mayClaim cX7_mayClaim 2 (some .boolean) :: ([.fieldLink RX7 277 "TileHouseModel" "phase" "I"] ++ (wsX70 ++ ([])))
theorem vg_m_mayClaim : ∀ w ∈ v_m_mayClaim, goodWord w = true := vg_c (c := .code yX7_mayClaim cX7_mayClaim 2 (some .boolean)) (l := [.fieldLink RX7 277 "TileHouseModel" "phase" "I"]) (by decide +kernel) (vg_a vgX7 (vg_nil))
theorem i_m_mayClaim_X7 : ∀ w ∈ u_ws RX7 TX7 68, w ∈ v_m_mayClaim := fun _ h => List.mem_cons_of_mem _ (List.mem_append_right _ (List.mem_append_left _ h))
set_option maxHeartbeats 4000000 in
set_option maxRecDepth 100000 in
theorem m_mayClaim (l : Launch) (G : va_G) (k : Nat → ClassId) (h0 : Nat) (u : Nat → Nat) (p0 : Int32) : Met l yX7_mayClaim v_m_mayClaim ({ frames := 0, cells := 0, slots := 0, locals := 0 }) (va_Pc [.ref h0, .int p0] (pr G k [(h0, .inr (6, [.int 0, .ref (u 0), .ref (u 1), .ref (u 2), .int 0, .ref (u 3), .ref (u 4), .int 0, .int 0, .int 0, .int 0, .int 0, .long 0, .int 0, .int 0, .int 0, .int 0, .long 0, .int 0, .ref (u 5), .ref (u 6), .int 0, .int 0, .int 0, .long 0, .long 0, .ref (u 7), .ref (u 8), .ref (u 9), .ref (u 10), .ref (u 11), .ref (u 12), .ref (u 13), .ref (u 14), .ref (u 15), .ref (u 16), .ref (u 17), .ref (u 18), .ref (u 19), .ref (u 20), .int 0, .int 0, .int 0, .int 0, .int 0, .int 0, .int 0, .int 0, .int 0, .int (-1), .int (-1), .int (-1), .int 0, .int 0, .int 0, .int 0, .int 0, .int 0, .int 0, .int 0, .ref (u 21), .ref (u 22), .ref (u 23), .ref (u 24), .ref (u 25), .ref (u 26), .int 0, .long 0]))])) (vp_Si (fun r => r = 0)) 0 0 (fun _ => False) := by
  refine Met.ofW (cc := cX7_mayClaim) (maxL := 2) (ret := (some .boolean)) (by decide) rfl ?_
  intro p e s m args below meth c s₁ B hml hv
  obtain ⟨rfl, hP, hK, hN⟩ := hv
  have hx := B.exec
  have hb := B.bytes
  have hr := B.returns
  have hts := atoms_spec (ws := v_m_mayClaim) B.pre
  have hown : s.vm.findClass RX7 = some m.cls := findClass_of_methodNamed B.named
  have hlocks := B.notSynchronized
  have hl := lv_entry ([.ref h0, .int p0]) (n := 2) (Nat.le_of_ble_eq_true rfl)
  rw [lg_entry_eq]
  generalize (lg_sl ([.ref h0, .int p0]) ++ List.replicate (2 - (lg_sl ([.ref h0, .int p0])).length) Slot.unset).toArray = ls at hl ⊢
  have hl : lv_has ls 2 [(0, .ref h0), (1, .int p0)] := hl
  refine lv_aload_n hx hb dX7_mayClaim_0 rfl (lv_at hl 0 rfl) ?_
  refine va_get (D := G) (ci := 6) (v := .int 0) (C := RX7) (T := TX7) (N := 68) hx hb hts i_m_mayClaim_X7 hown hK hP 0 rfl rfl 44 (by decide) (hts (.fieldLink RX7 277 "TileHouseModel" "phase" "I") (by decide +kernel)) (fun _ h9 => h9) rfl dX7_mayClaim_1 ?_
  refine lv_iconst (v := 2) hx hb dX7_mayClaim_4 (by decide) ?_
  refine lv_icmp_ne (tgt := 50) hx hb dX7_mayClaim_5 (by decide) (fun _ => ?_) (fun c9 => absurd c9 (by decide))
  refine lv_iconst (v := 0) hx hb dX7_mayClaim_50 (by decide) ?_
  exact W.zret (v := 0) hx hb hr rfl (fun t ht hW => ⟨0, rfl, rfl, ht⟩) (fun _ h => by cases h) dX7_mayClaim_51
def v_m_mayMake : List Cond := .code yX7_mayMake cX7_mayMake 1 (some .boolean) :: ([.fieldLink RX7 277 "TileHouseModel" "phase" "I"] ++ (wsX70 ++ ([])))
theorem vg_m_mayMake : ∀ w ∈ v_m_mayMake, goodWord w = true := vg_c (c := .code yX7_mayMake cX7_mayMake 1 (some .boolean)) (l := [.fieldLink RX7 277 "TileHouseModel" "phase" "I"]) (by decide +kernel) (vg_a vgX7 (vg_nil))
theorem i_m_mayMake_X7 : ∀ w ∈ u_ws RX7 TX7 68, w ∈ v_m_mayMake := fun _ h => List.mem_cons_of_mem _ (List.mem_append_right _ (List.mem_append_left _ h))
set_option maxHeartbeats 4000000 in
set_option maxRecDepth 100000 in
theorem m_mayMake (l : Launch) (G : va_G) (k : Nat → ClassId) (h0 : Nat) (u : Nat → Nat) : Met l yX7_mayMake v_m_mayMake ({ frames := 0, cells := 0, slots := 0, locals := 0 }) (va_Pc [.ref h0] (pr G k [(h0, .inr (6, [.int 0, .ref (u 0), .ref (u 1), .ref (u 2), .int 0, .ref (u 3), .ref (u 4), .int 0, .int 0, .int 0, .int 0, .int 0, .long 0, .int 0, .int 0, .int 0, .int 0, .long 0, .int 0, .ref (u 5), .ref (u 6), .int 0, .int 0, .int 0, .long 0, .long 0, .ref (u 7), .ref (u 8), .ref (u 9), .ref (u 10), .ref (u 11), .ref (u 12), .ref (u 13), .ref (u 14), .ref (u 15), .ref (u 16), .ref (u 17), .ref (u 18), .ref (u 19), .ref (u 20), .int 0, .int 0, .int 0, .int 0, .int 0, .int 0, .int 0, .int 0, .int 0, .int (-1), .int (-1), .int (-1), .int 0, .int 0, .int 0, .int 0, .int 0, .int 0, .int 0, .int 0, .ref (u 21), .ref (u 22), .ref (u 23), .ref (u 24), .ref (u 25), .ref (u 26), .int 0, .long 0]))])) (vp_Si (fun r => r = 0)) 0 0 (fun _ => False) := by
  refine Met.ofW (cc := cX7_mayMake) (maxL := 1) (ret := (some .boolean)) (by decide) rfl ?_
  intro p e s m args below meth c s₁ B hml hv
  obtain ⟨rfl, hP, hK, hN⟩ := hv
  have hx := B.exec
  have hb := B.bytes
  have hr := B.returns
  have hts := atoms_spec (ws := v_m_mayMake) B.pre
  have hown : s.vm.findClass RX7 = some m.cls := findClass_of_methodNamed B.named
  have hlocks := B.notSynchronized
  have hl := lv_entry ([.ref h0]) (n := 1) (Nat.le_of_ble_eq_true rfl)
  rw [lg_entry_eq]
  generalize (lg_sl ([.ref h0]) ++ List.replicate (1 - (lg_sl ([.ref h0])).length) Slot.unset).toArray = ls at hl ⊢
  have hl : lv_has ls 1 [(0, .ref h0)] := hl
  refine lv_aload_n hx hb dX7_mayMake_0 rfl (lv_at hl 0 rfl) ?_
  refine va_get (D := G) (ci := 6) (v := .int 0) (C := RX7) (T := TX7) (N := 68) hx hb hts i_m_mayMake_X7 hown hK hP 0 rfl rfl 44 (by decide) (hts (.fieldLink RX7 277 "TileHouseModel" "phase" "I") (by decide +kernel)) (fun _ h9 => h9) rfl dX7_mayMake_1 ?_
  refine lv_iconst (v := 1) hx hb dX7_mayMake_4 (by decide) ?_
  refine lv_icmp_ne (tgt := 46) hx hb dX7_mayMake_5 (by decide) (fun _ => ?_) (fun c9 => absurd c9 (by decide))
  refine lv_iconst (v := 0) hx hb dX7_mayMake_46 (by decide) ?_
  exact W.zret (v := 0) hx hb hr rfl (fun t ht hW => ⟨0, rfl, rfl, ht⟩) (fun _ h => by cases h) dX7_mayMake_47
def v_m_has : List Cond := .code yX7_has_ cX7_has_ 3 (some .int) :: ([.fieldLink RX7 37 "TileHouseModel" "hands" "[I"] ++ (wsX70 ++ ([])))
theorem vg_m_has : ∀ w ∈ v_m_has, goodWord w = true := vg_c (c := .code yX7_has_ cX7_has_ 3 (some .int)) (l := [.fieldLink RX7 37 "TileHouseModel" "hands" "[I"]) (by decide +kernel) (vg_a vgX7 (vg_nil))
theorem i_m_has_X7 : ∀ w ∈ u_ws RX7 TX7 68, w ∈ v_m_has := fun _ h => List.mem_cons_of_mem _ (List.mem_append_right _ (List.mem_append_left _ h))
set_option maxHeartbeats 4000000 in
set_option maxRecDepth 100000 in
theorem m_has (l : Launch) (G : va_G) (k : Nat → ClassId) (h0 : Nat) (u : Nat → Nat) (p0 : Int32) (p1 : Int32) (h4 : vp_in p0 4) (h34 : vp_in p1 34) : Met l yX7_has_ v_m_has ({ frames := 0, cells := 0, slots := 0, locals := 0 }) (va_Pc [.ref h0, .int p0, .int p1] (pr G k [(h0, .inr (6, [.int 0, .ref (u 0), .ref (u 1), .ref (u 2), .int 0, .ref (u 3), .ref (u 4), .int 0, .int 0, .int 0, .int 0, .int 0, .long 0, .int 0, .int 0, .int 0, .int 0, .long 0, .int 0, .ref (u 5), .ref (u 6), .int 0, .int 0, .int 0, .long 0, .long 0, .ref (u 7), .ref (u 8), .ref (u 9), .ref (u 10), .ref (u 11), .ref (u 12), .ref (u 13), .ref (u 14), .ref (u 15), .ref (u 16), .ref (u 17), .ref (u 18), .ref (u 19), .ref (u 20), .int 0, .int 0, .int 0, .int 0, .int 0, .int 0, .int 0, .int 0, .int 0, .int (-1), .int (-1), .int (-1), .int 0, .int 0, .int 0, .int 0, .int 0, .int 0, .int 0, .int 0, .ref (u 21), .ref (u 22), .ref (u 23), .ref (u 24), .ref (u 25), .ref (u 26), .int 0, .long 0])), ((u 9), .inl (k 0, 136, .inl (fun _ => 0)))])) (vp_Si (fun r => r = 0)) 0 0 (fun _ => False) := by
  refine Met.ofW (cc := cX7_has_) (maxL := 3) (ret := (some .int)) (by decide) rfl ?_
  intro p e s m args below meth c s₁ B hml hv
  obtain ⟨rfl, hP, hK, hN⟩ := hv
  have hx := B.exec
  have hb := B.bytes
  have hr := B.returns
  have hts := atoms_spec (ws := v_m_has) B.pre
  have hown : s.vm.findClass RX7 = some m.cls := findClass_of_methodNamed B.named
  have hlocks := B.notSynchronized
  have hl := lv_entry ([.ref h0, .int p0, .int p1]) (n := 3) (Nat.le_of_ble_eq_true rfl)
  rw [lg_entry_eq]
  generalize (lg_sl ([.ref h0, .int p0, .int p1]) ++ List.replicate (3 - (lg_sl ([.ref h0, .int p0, .int p1])).length) Slot.unset).toArray = ls at hl ⊢
  have hl : lv_has ls 3 [(0, .ref h0), (1, .int p0), (2, .int p1)] := hl
  refine lv_aload_n hx hb dX7_has__0 rfl (lv_at hl 0 rfl) ?_
  refine va_get (D := G) (ci := 6) (v := .ref (u 9)) (C := RX7) (T := TX7) (N := 68) hx hb hts i_m_has_X7 hown hK hP 0 rfl rfl 28 (by decide) (hts (.fieldLink RX7 37 "TileHouseModel" "hands" "[I") (by decide +kernel)) (fun _ h9 => h9) rfl dX7_has__1 ?_
  refine lv_bipush (v := 34) hx hb dX7_has__4 (by decide) ?_
  refine lv_iload_n hx hb dX7_has__6 rfl (lv_at hl 1 rfl) ?_
  refine lv_imul hx hb dX7_has__7 ?_
  refine lv_topi (fun v1 ev1 => ?_)
  refine lv_iload_n hx hb dX7_has__8 rfl (lv_at hl 2 rfl) ?_
  refine lv_iadd hx hb dX7_has__9 ?_
  refine lv_topi (fun v2 ev2 => ?_)
  refine va_iald hx hb hK hP 1 0 rfl rfl (by rw [ev2, ev1]; exact in136 h4 h34) dX7_has__10 ?_
  refine lv_topi (fun z3 ez3 => ?_)
  obtain rfl : z3 = 0 := ez3.trans rfl
  exact W.iret (v := 0) hx hb hr (fun t ht hW => ⟨0, rfl, rfl, ht⟩) (fun _ h => by cases h) dX7_has__11
def v_m_isOpen : List Cond := .code yX7_isOpen_ cX7_isOpen_ 4 (some .boolean) :: ([.fieldLink RX7 49 "TileHouseModel" "setMany" "[I"] ++ (wsX70 ++ ([])))
theorem vg_m_isOpen : ∀ w ∈ v_m_isOpen, goodWord w = true := vg_c (c := .code yX7_isOpen_ cX7_isOpen_ 4 (some .boolean)) (l := [.fieldLink RX7 49 "TileHouseModel" "setMany" "[I"]) (by decide +kernel) (vg_a vgX7 (vg_nil))
theorem i_m_isOpen_X7 : ∀ w ∈ u_ws RX7 TX7 68, w ∈ v_m_isOpen := fun _ h => List.mem_cons_of_mem _ (List.mem_append_right _ (List.mem_append_left _ h))
set_option maxHeartbeats 4000000 in
set_option maxRecDepth 100000 in
theorem m_isOpen (l : Launch) (G : va_G) (k : Nat → ClassId) (h0 : Nat) (u : Nat → Nat) (p0 : Int32) (h4 : vp_in p0 4) : Met l yX7_isOpen_ v_m_isOpen ({ frames := 0, cells := 0, slots := 0, locals := 0 }) (va_Pc [.ref h0, .int p0] (pr G k [(h0, .inr (6, [.int 0, .ref (u 0), .ref (u 1), .ref (u 2), .int 0, .ref (u 3), .ref (u 4), .int 0, .int 0, .int 0, .int 0, .int 0, .long 0, .int 0, .int 0, .int 0, .int 0, .long 0, .int 0, .ref (u 5), .ref (u 6), .int 0, .int 0, .int 0, .long 0, .long 0, .ref (u 7), .ref (u 8), .ref (u 9), .ref (u 10), .ref (u 11), .ref (u 12), .ref (u 13), .ref (u 14), .ref (u 15), .ref (u 16), .ref (u 17), .ref (u 18), .ref (u 19), .ref (u 20), .int 0, .int 0, .int 0, .int 0, .int 0, .int 0, .int 0, .int 0, .int 0, .int (-1), .int (-1), .int (-1), .int 0, .int 0, .int 0, .int 0, .int 0, .int 0, .int 0, .int 0, .ref (u 21), .ref (u 22), .ref (u 23), .ref (u 24), .ref (u 25), .ref (u 26), .int 0, .long 0])), ((u 13), .inl (k 0, 4, .inl (fun _ => 0)))])) (vp_Si (fun r => r = 0)) 0 0 (fun _ => False) := by
  refine Met.ofW (cc := cX7_isOpen_) (maxL := 4) (ret := (some .boolean)) (by decide) rfl ?_
  intro p e s m args below meth c s₁ B hml hv
  obtain ⟨rfl, hP, hK, hN⟩ := hv
  have hx := B.exec
  have hb := B.bytes
  have hr := B.returns
  have hts := atoms_spec (ws := v_m_isOpen) B.pre
  have hown : s.vm.findClass RX7 = some m.cls := findClass_of_methodNamed B.named
  have hlocks := B.notSynchronized
  have hl := lv_entry ([.ref h0, .int p0]) (n := 4) (Nat.le_of_ble_eq_true rfl)
  rw [lg_entry_eq]
  generalize (lg_sl ([.ref h0, .int p0]) ++ List.replicate (4 - (lg_sl ([.ref h0, .int p0])).length) Slot.unset).toArray = ls at hl ⊢
  have hl : lv_has ls 4 [(0, .ref h0), (1, .int p0)] := hl
  refine lv_iconst (v := 0) hx hb dX7_isOpen__0 (by decide) ?_
  refine lv_istore_n (lv' := [(2, .int 0), (0, .ref h0), (1, .int p0)]) hx hb dX7_isOpen__1 rfl hl (by decide) rfl (fun ls hl => ?_)
  refine lv_iconst (v := 0) hx hb dX7_isOpen__2 (by decide) ?_
  refine lv_istore_n (lv' := [(3, .int 0), (2, .int 0), (0, .ref h0), (1, .int p0)]) hx hb dX7_isOpen__3 rfl hl (by decide) rfl (fun ls hl => ?_)
  refine lv_iload_n hx hb dX7_isOpen__4 rfl (lv_at hl 0 rfl) ?_
  refine lv_aload_n hx hb dX7_isOpen__5 rfl (lv_at hl 2 rfl) ?_
  refine va_get (D := G) (ci := 6) (v := .ref (u 13)) (C := RX7) (T := TX7) (N := 68) hx hb hts i_m_isOpen_X7 hown hK hP 0 rfl rfl 32 (by decide) (hts (.fieldLink RX7 49 "TileHouseModel" "setMany" "[I") (by decide +kernel)) (fun _ h9 => h9) rfl dX7_isOpen__6 ?_
  refine lv_iload_n hx hb dX7_isOpen__9 rfl (lv_at hl 3 rfl) ?_
  refine va_iald hx hb hK hP 1 0 rfl rfl h4 dX7_isOpen__10 ?_
  refine lv_topi (fun z1 ez1 => ?_)
  obtain rfl : z1 = 0 := ez1.trans rfl
  refine lv_icmp_ge (tgt := 44) hx hb dX7_isOpen__11 (by decide) (fun _ => ?_) (fun c9 => absurd (by decide) c9)
  refine lv_iload_n hx hb dX7_isOpen__44 rfl (lv_at hl 1 rfl) ?_
  exact W.zret (v := 0) hx hb hr rfl (fun t ht hW => ⟨0, rfl, rfl, ht⟩) (fun _ h => by cases h) dX7_isOpen__45
def v_m_windOf : List Cond := .code yX7_windOf cX7_windOf 2 (some .int) :: ([.fieldLink RX7 265 "TileHouseModel" "dealer" "I"] ++ (wsX70 ++ ([])))
theorem vg_m_windOf : ∀ w ∈ v_m_windOf, goodWord w = true := vg_c (c := .code yX7_windOf cX7_windOf 2 (some .int)) (l := [.fieldLink RX7 265 "TileHouseModel" "dealer" "I"]) (by decide +kernel) (vg_a vgX7 (vg_nil))
theorem i_m_windOf_X7 : ∀ w ∈ u_ws RX7 TX7 68, w ∈ v_m_windOf := fun _ h => List.mem_cons_of_mem _ (List.mem_append_right _ (List.mem_append_left _ h))
set_option maxHeartbeats 4000000 in
set_option maxRecDepth 100000 in
theorem m_windOf (l : Launch) (G : va_G) (k : Nat → ClassId) (h0 : Nat) (u : Nat → Nat) (p0 : Int32) : Met l yX7_windOf v_m_windOf ({ frames := 0, cells := 0, slots := 0, locals := 0 }) (va_Pc [.ref h0, .int p0] (pr G k [(h0, .inr (6, [.int 0, .ref (u 0), .ref (u 1), .ref (u 2), .int 0, .ref (u 3), .ref (u 4), .int 0, .int 0, .int 0, .int 0, .int 0, .long 0, .int 0, .int 0, .int 0, .int 0, .long 0, .int 0, .ref (u 5), .ref (u 6), .int 0, .int 0, .int 0, .long 0, .long 0, .ref (u 7), .ref (u 8), .ref (u 9), .ref (u 10), .ref (u 11), .ref (u 12), .ref (u 13), .ref (u 14), .ref (u 15), .ref (u 16), .ref (u 17), .ref (u 18), .ref (u 19), .ref (u 20), .int 0, .int 0, .int 0, .int 0, .int 0, .int 0, .int 0, .int 0, .int 0, .int (-1), .int (-1), .int (-1), .int 0, .int 0, .int 0, .int 0, .int 0, .int 0, .int 0, .int 0, .ref (u 21), .ref (u 22), .ref (u 23), .ref (u 24), .ref (u 25), .ref (u 26), .int 0, .long 0]))])) (vp_Si (fun r => r = (p0 - 0 + 4) - (p0 - 0 + 4) / 4 * 4)) 0 0 (fun _ => False) := by
  refine Met.ofW (cc := cX7_windOf) (maxL := 2) (ret := (some .int)) (by decide) rfl ?_
  intro p e s m args below meth c s₁ B hml hv
  obtain ⟨rfl, hP, hK, hN⟩ := hv
  have hx := B.exec
  have hb := B.bytes
  have hr := B.returns
  have hts := atoms_spec (ws := v_m_windOf) B.pre
  have hown : s.vm.findClass RX7 = some m.cls := findClass_of_methodNamed B.named
  have hlocks := B.notSynchronized
  have hl := lv_entry ([.ref h0, .int p0]) (n := 2) (Nat.le_of_ble_eq_true rfl)
  rw [lg_entry_eq]
  generalize (lg_sl ([.ref h0, .int p0]) ++ List.replicate (2 - (lg_sl ([.ref h0, .int p0])).length) Slot.unset).toArray = ls at hl ⊢
  have hl : lv_has ls 2 [(0, .ref h0), (1, .int p0)] := hl
  refine lv_iload_n hx hb dX7_windOf_0 rfl (lv_at hl 1 rfl) ?_
  refine lv_aload_n hx hb dX7_windOf_1 rfl (lv_at hl 0 rfl) ?_
  refine va_get (D := G) (ci := 6) (v := .int 0) (C := RX7) (T := TX7) (N := 68) hx hb hts i_m_windOf_X7 hown hK hP 0 rfl rfl 40 (by decide) (hts (.fieldLink RX7 265 "TileHouseModel" "dealer" "I") (by decide +kernel)) (fun _ h9 => h9) rfl dX7_windOf_2 ?_
  refine lv_isub hx hb dX7_windOf_5 ?_
  refine lv_topi (fun v1 ev1 => ?_)
  refine lv_iconst (v := 4) hx hb dX7_windOf_6 (by decide) ?_
  refine lv_iadd hx hb dX7_windOf_7 ?_
  refine lv_topi (fun v2 ev2 => ?_)
  refine lv_iconst (v := 4) hx hb dX7_windOf_8 (by decide) ?_
  refine lv_irem hx hb dX7_windOf_9 (by decide) ?_
  refine lv_topi (fun v3 ev3 => ?_)
  exact W.iret (v := v3) hx hb hr (fun t ht hW => ⟨v3, rfl, by rw [ev3, ev2, ev1], ht⟩) (fun _ h => by cases h) dX7_windOf_10
def v_m_inHand : List Cond := .code yX7_inHand cX7_inHand 3 (some .int) :: ([.fieldLink RX7 9 "TileHouseModel" "in" "[I"] ++ (wsX70 ++ ([])))
theorem vg_m_inHand : ∀ w ∈ v_m_inHand, goodWord w = true := vg_c (c := .code yX7_inHand cX7_inHand 3 (some .int)) (l := [.fieldLink RX7 9 "TileHouseModel" "in" "[I"]) (by decide +kernel) (vg_a vgX7 (vg_nil))
theorem i_m_inHand_X7 : ∀ w ∈ u_ws RX7 TX7 68, w ∈ v_m_inHand := fun _ h => List.mem_cons_of_mem _ (List.mem_append_right _ (List.mem_append_left _ h))
set_option maxHeartbeats 4000000 in
set_option maxRecDepth 100000 in
theorem m_inHand (l : Launch) (G : va_G) (k : Nat → ClassId) (h0 : Nat) (u : Nat → Nat) : Met l yX7_inHand v_m_inHand ({ frames := 0, cells := 0, slots := 0, locals := 0 }) (va_Pc [.ref h0] (pr G k [(h0, .inr (6, [.int 0, .ref (u 0), .ref (u 1), .ref (u 2), .int 0, .ref (u 3), .ref (u 4), .int 0, .int 0, .int 0, .int 0, .int 0, .long 0, .int 0, .int 0, .int 0, .int 0, .long 0, .int 0, .ref (u 5), .ref (u 6), .int 0, .int 0, .int 0, .long 0, .long 0, .ref (u 7), .ref (u 8), .ref (u 9), .ref (u 10), .ref (u 11), .ref (u 12), .ref (u 13), .ref (u 14), .ref (u 15), .ref (u 16), .ref (u 17), .ref (u 18), .ref (u 19), .ref (u 20), .int 0, .int 0, .int 0, .int 0, .int 0, .int 0, .int 0, .int 0, .int 0, .int (-1), .int (-1), .int (-1), .int 0, .int 0, .int 0, .int 0, .int 0, .int 0, .int 0, .int 0, .ref (u 21), .ref (u 22), .ref (u 23), .ref (u 24), .ref (u 25), .ref (u 26), .int 0, .long 0])), ((u 0), .inl (k 0, 34, .inl (fun _ => 0)))])) (vp_Si (fun r => r = 0)) 0 0 (fun _ => False) := by
  refine Met.ofW (cc := cX7_inHand) (maxL := 3) (ret := (some .int)) (by decide) rfl ?_
  intro p e s m args below meth c s₁ B hml hv
  obtain ⟨rfl, hP, hK, hN⟩ := hv
  have hx := B.exec
  have hb := B.bytes
  have hr := B.returns
  have hts := atoms_spec (ws := v_m_inHand) B.pre
  have hown : s.vm.findClass RX7 = some m.cls := findClass_of_methodNamed B.named
  have hlocks := B.notSynchronized
  have hl := lv_entry ([.ref h0]) (n := 3) (Nat.le_of_ble_eq_true rfl)
  rw [lg_entry_eq]
  generalize (lg_sl ([.ref h0]) ++ List.replicate (3 - (lg_sl ([.ref h0])).length) Slot.unset).toArray = ls at hl ⊢
  have hl : lv_has ls 3 [(0, .ref h0)] := hl
  refine lv_iconst (v := 0) hx hb dX7_inHand_0 (by decide) ?_
  refine lv_istore_n (lv' := [(1, .int 0), (0, .ref h0)]) hx hb dX7_inHand_1 rfl hl (by decide) rfl (fun ls hl => ?_)
  refine lv_iconst (v := 0) hx hb dX7_inHand_2 (by decide) ?_
  refine lv_istore_n (lv' := [(2, .int 0), (1, .int 0), (0, .ref h0)]) hx hb dX7_inHand_3 rfl hl (by decide) rfl (fun ls hl => ?_)
  obtain ⟨j1, kj1, ej1, hj1⟩ : ∃ j : Nat, j = 0 ∧ nI j = (0 : Int32) ∧ j ≤ 34 := ⟨0, rfl, rfl, by decide⟩
  replace hl : lv_has ls 3 [(2, .int (nI j1)), (1, .int 0), (0, .ref h0)] := by rw [ej1]; exact hl
  clear kj1 ej1
  obtain ⟨nj1, hnj1⟩ : ∃ n : Nat, 34 < j1 + n := ⟨35, by omega⟩
  induction nj1 generalizing j1 ls  with
  | zero => exact absurd hnj1 (by omega)
  | succ nj1 ihj1 =>
    refine lv_iload_n hx hb dX7_inHand_4 rfl (lv_at hl 0 rfl) ?_
    refine lv_bipush (v := 34) hx hb dX7_inHand_5 (by decide) ?_
    refine lv_icmp_ge (tgt := 25) hx hb dX7_inHand_7 (by decide) (fun c2 => ?_) (fun c2 => ?_)
    · skip
      have hge : 34 ≤ j1 := (nI_leI (a := 34) (b := j1) (by omega) (by omega)).mp c2
      refine lv_iload_n hx hb dX7_inHand_25 rfl (lv_at hl 1 rfl) ?_
      exact W.iret (v := 0) hx hb hr (fun t ht hW => ⟨0, rfl, rfl, ht⟩) (fun _ h => by cases h) dX7_inHand_26
    · skip
      have hltj1 : j1 < 34 := Nat.lt_of_not_le (fun h9 => c2 (nI_le h9 (by omega)))
      refine lv_iload_n hx hb dX7_inHand_10 rfl (lv_at hl 1 rfl) ?_
      refine lv_aload_n hx hb dX7_inHand_11 rfl (lv_at hl 2 rfl) ?_
      refine va_get (D := G) (ci := 6) (v := .ref (u 0)) (C := RX7) (T := TX7) (N := 68) hx hb hts i_m_inHand_X7 hown hK hP 0 rfl rfl 1 (by decide) (hts (.fieldLink RX7 9 "TileHouseModel" "in" "[I") (by decide +kernel)) (fun _ h9 => h9) rfl dX7_inHand_12 ?_
      refine lv_iload_n hx hb dX7_inHand_15 rfl (lv_at hl 0 rfl) ?_
      refine va_iald hx hb hK hP 1 0 rfl rfl (vp_in_nI hltj1 (by decide)) dX7_inHand_16 ?_
      refine lv_topi (fun z3 ez3 => ?_)
      obtain rfl : z3 = 0 := ez3.trans rfl
      refine lv_iadd hx hb dX7_inHand_17 ?_
      refine lv_topi (fun z4 ez4 => ?_)
      obtain rfl : z4 = 0 := ez4.trans (by decide)
      refine lv_istore_n (lv' := [(1, .int 0), (2, .int (nI j1)), (0, .ref h0)]) hx hb dX7_inHand_18 rfl hl (by decide) rfl (fun ls hl => ?_)
      obtain ⟨v5, ev5⟩ : ∃ y : Int32, y = (nI j1) + 1 := ⟨_, rfl⟩
      have nv5 : v5 = nI (j1 + 1) := by rw [ev5]; exact nI_add (j1) (1)
      refine lv_iinc (v := v5) (lv' := [(2, .int v5), (1, .int 0), (0, .ref h0)]) hx hb dX7_inHand_19 hl (k := 1) rfl (by rw [ev5]; rfl) (by decide) rfl (fun ls hl => ?_)
      refine lv_goto (tgt := 4) hx hb dX7_inHand_22 (by decide) ?_
      exact ihj1 (j1 := j1 + 1) (hj1 := by omega) (hnj1 := by omega) (ls := ls) (hl := by rw [nI_succ, ← ev5]; exact lv_sub hl [0, 1, 2] rfl)
def v_m_of : List Cond := .code yX7_of cX7_of 4 (some .int) :: ([.fieldLink RX7 31 "TileHouseModel" "whole" "[I", .fieldLink RX7 137 "TileHouseModel" "laidMany" "I"] ++ (wsX70 ++ ([])))
theorem vg_m_of : ∀ w ∈ v_m_of, goodWord w = true := vg_c (c := .code yX7_of cX7_of 4 (some .int)) (l := [.fieldLink RX7 31 "TileHouseModel" "whole" "[I", .fieldLink RX7 137 "TileHouseModel" "laidMany" "I"]) (by decide +kernel) (vg_a vgX7 (vg_nil))
theorem i_m_of_X7 : ∀ w ∈ u_ws RX7 TX7 68, w ∈ v_m_of := fun _ h => List.mem_cons_of_mem _ (List.mem_append_right _ (List.mem_append_left _ h))
set_option maxHeartbeats 4000000 in
set_option maxRecDepth 100000 in
theorem m_of (l : Launch) (G : va_G) (k : Nat → ClassId) (h0 : Nat) (u : Nat → Nat) (p0 : Int32) (h34 : vp_in p0 34) : Met l yX7_of v_m_of ({ frames := 0, cells := 0, slots := 0, locals := 0 }) (va_Pc [.ref h0, .int p0] (pr G k [(h0, .inr (6, [.int 0, .ref (u 0), .ref (u 1), .ref (u 2), .int 0, .ref (u 3), .ref (u 4), .int 0, .int 0, .int 0, .int 0, .int 0, .long 0, .int 0, .int 0, .int 0, .int 0, .long 0, .int 0, .ref (u 5), .ref (u 6), .int 0, .int 0, .int 0, .long 0, .long 0, .ref (u 7), .ref (u 8), .ref (u 9), .ref (u 10), .ref (u 11), .ref (u 12), .ref (u 13), .ref (u 14), .ref (u 15), .ref (u 16), .ref (u 17), .ref (u 18), .ref (u 19), .ref (u 20), .int 0, .int 0, .int 0, .int 0, .int 0, .int 0, .int 0, .int 0, .int 0, .int (-1), .int (-1), .int (-1), .int 0, .int 0, .int 0, .int 0, .int 0, .int 0, .int 0, .int 0, .ref (u 21), .ref (u 22), .ref (u 23), .ref (u 24), .ref (u 25), .ref (u 26), .int 0, .long 0])), ((u 7), .inl (k 0, 34, .inl (fun _ => 0)))])) (vp_Si (fun r => r = 0)) 0 0 (fun _ => False) := by
  refine Met.ofW (cc := cX7_of) (maxL := 4) (ret := (some .int)) (by decide) rfl ?_
  intro p e s m args below meth c s₁ B hml hv
  obtain ⟨rfl, hP, hK, hN⟩ := hv
  have hx := B.exec
  have hb := B.bytes
  have hr := B.returns
  have hts := atoms_spec (ws := v_m_of) B.pre
  have hown : s.vm.findClass RX7 = some m.cls := findClass_of_methodNamed B.named
  have hlocks := B.notSynchronized
  have hl := lv_entry ([.ref h0, .int p0]) (n := 4) (Nat.le_of_ble_eq_true rfl)
  rw [lg_entry_eq]
  generalize (lg_sl ([.ref h0, .int p0]) ++ List.replicate (4 - (lg_sl ([.ref h0, .int p0])).length) Slot.unset).toArray = ls at hl ⊢
  have hl : lv_has ls 4 [(0, .ref h0), (1, .int p0)] := hl
  refine lv_aload_n hx hb dX7_of_0 rfl (lv_at hl 0 rfl) ?_
  refine va_get (D := G) (ci := 6) (v := .ref (u 7)) (C := RX7) (T := TX7) (N := 68) hx hb hts i_m_of_X7 hown hK hP 0 rfl rfl 26 (by decide) (hts (.fieldLink RX7 31 "TileHouseModel" "whole" "[I") (by decide +kernel)) (fun _ h9 => h9) rfl dX7_of_1 ?_
  refine lv_iload_n hx hb dX7_of_4 rfl (lv_at hl 1 rfl) ?_
  refine va_iald hx hb hK hP 1 0 rfl rfl h34 dX7_of_5 ?_
  refine lv_topi (fun z1 ez1 => ?_)
  obtain rfl : z1 = 0 := ez1.trans rfl
  refine lv_istore_n (lv' := [(2, .int 0), (0, .ref h0), (1, .int p0)]) hx hb dX7_of_6 rfl hl (by decide) rfl (fun ls hl => ?_)
  refine lv_iconst (v := 0) hx hb dX7_of_7 (by decide) ?_
  refine lv_istore_n (lv' := [(3, .int 0), (2, .int 0), (0, .ref h0), (1, .int p0)]) hx hb dX7_of_8 rfl hl (by decide) rfl (fun ls hl => ?_)
  refine lv_iload_n hx hb dX7_of_9 rfl (lv_at hl 0 rfl) ?_
  refine lv_aload_n hx hb dX7_of_10 rfl (lv_at hl 2 rfl) ?_
  refine va_get (D := G) (ci := 6) (v := .int 0) (C := RX7) (T := TX7) (N := 68) hx hb hts i_m_of_X7 hown hK hP 0 rfl rfl 4 (by decide) (hts (.fieldLink RX7 137 "TileHouseModel" "laidMany" "I") (by decide +kernel)) (fun _ h9 => h9) rfl dX7_of_11 ?_
  refine lv_icmp_ge (tgt := 85) hx hb dX7_of_14 (by decide) (fun _ => ?_) (fun c9 => absurd (by decide) c9)
  refine lv_iload_n hx hb dX7_of_85 rfl (lv_at hl 1 rfl) ?_
  exact W.iret (v := 0) hx hb hr (fun t ht hW => ⟨0, rfl, rfl, ht⟩) (fun _ h => by cases h) dX7_of_86
def v_m_waitsOf : List Cond := .code yX7_waitsOf cX7_waitsOf 5 (some .long) :: ([.methodLink RX7 133 yX7_inHand, .instanceMethod yX7_inHand, .selects RX7 yX7_inHand yX7_inHand, .initialized RX7, .fieldLink RX7 137 "TileHouseModel" "laidMany" "I"] ++ (v_m_inHand ++ (wsX70 ++ ([]))))
theorem vg_m_waitsOf : ∀ w ∈ v_m_waitsOf, goodWord w = true := vg_c (c := .code yX7_waitsOf cX7_waitsOf 5 (some .long)) (l := [.methodLink RX7 133 yX7_inHand, .instanceMethod yX7_inHand, .selects RX7 yX7_inHand yX7_inHand, .initialized RX7, .fieldLink RX7 137 "TileHouseModel" "laidMany" "I"]) (by decide +kernel) (vg_a vg_m_inHand (vg_a vgX7 (vg_nil)))
theorem i_m_waitsOf_X7 : ∀ w ∈ u_ws RX7 TX7 68, w ∈ v_m_waitsOf := fun _ h => List.mem_cons_of_mem _ (List.mem_append_right _ (List.mem_append_right _ (List.mem_append_left _ h)))
theorem g_m_waitsOf_m_inHand_133 : GoodIn v_m_waitsOf (wsV RX7 133 RX7 yX7_inHand v_m_inHand) := goodIn_app (goodIn_of _ (by decide +kernel)) (fun w h => ⟨List.mem_cons_of_mem _ (List.mem_append_right _ (List.mem_append_left _ h)), good_of_word (vg_m_inHand w h)⟩)
set_option maxHeartbeats 4000000 in
set_option maxRecDepth 100000 in
theorem m_waitsOf (l : Launch) (G : va_G) (k : Nat → ClassId) (h0 : Nat) (u : Nat → Nat) : Met l yX7_waitsOf v_m_waitsOf ({ frames := 1, cells := 0, slots := 0, locals := 22 }) (va_Pc [.ref h0] (pr G k [(h0, .inr (6, [.int 0, .ref (u 0), .ref (u 1), .ref (u 2), .int 0, .ref (u 3), .ref (u 4), .int 0, .int 0, .int 0, .int 0, .int 0, .long 0, .int 0, .int 0, .int 0, .int 0, .long 0, .int 0, .ref (u 5), .ref (u 6), .int 0, .int 0, .int 0, .long 0, .long 0, .ref (u 7), .ref (u 8), .ref (u 9), .ref (u 10), .ref (u 11), .ref (u 12), .ref (u 13), .ref (u 14), .ref (u 15), .ref (u 16), .ref (u 17), .ref (u 18), .ref (u 19), .ref (u 20), .int 0, .int 0, .int 0, .int 0, .int 0, .int 0, .int 0, .int 0, .int 0, .int (-1), .int (-1), .int (-1), .int 0, .int 0, .int 0, .int 0, .int 0, .int 0, .int 0, .int 0, .ref (u 21), .ref (u 22), .ref (u 23), .ref (u 24), .ref (u 25), .ref (u 26), .int 0, .long 0])), ((u 0), .inl (k 0, 34, .inl (fun _ => 0)))])) (vp_Sl (fun r => r = 0)) 0 0 (fun _ => False) := by
  refine Met.ofW (cc := cX7_waitsOf) (maxL := 5) (ret := (some .long)) (by decide) rfl ?_
  intro p e s m args below meth c s₁ B hml hv
  obtain ⟨rfl, hP, hK, hN⟩ := hv
  have hx := B.exec
  have hb := B.bytes
  have hr := B.returns
  have hts := atoms_spec (ws := v_m_waitsOf) B.pre
  have hown : s.vm.findClass RX7 = some m.cls := findClass_of_methodNamed B.named
  have hlocks := B.notSynchronized
  have hl := lv_entry ([.ref h0]) (n := 5) (Nat.le_of_ble_eq_true rfl)
  rw [lg_entry_eq]
  generalize (lg_sl ([.ref h0]) ++ List.replicate (5 - (lg_sl ([.ref h0])).length) Slot.unset).toArray = ls at hl ⊢
  have hl : lv_has ls 5 [(0, .ref h0)] := hl
  refine lv_lconst (v := 0) hx hb dX7_waitsOf_0 (by decide) ?_
  refine lv_lstore_n (lv' := [(1, .long 0), (0, .ref h0)]) hx hb dX7_waitsOf_1 rfl hl (by decide) rfl (fun ls hl => ?_)
  refine lv_aload_n hx hb dX7_waitsOf_2 rfl (lv_at hl 1 rfl) ?_
  have hPc := hP.sub (ws' := [(h0, .inr (6, [.int 0, .ref (u 0), .ref (u 1), .ref (u 2), .int 0, .ref (u 3), .ref (u 4), .int 0, .int 0, .int 0, .int 0, .int 0, .long 0, .int 0, .int 0, .int 0, .int 0, .long 0, .int 0, .ref (u 5), .ref (u 6), .int 0, .int 0, .int 0, .long 0, .long 0, .ref (u 7), .ref (u 8), .ref (u 9), .ref (u 10), .ref (u 11), .ref (u 12), .ref (u 13), .ref (u 14), .ref (u 15), .ref (u 16), .ref (u 17), .ref (u 18), .ref (u 19), .ref (u 20), .int 0, .int 0, .int 0, .int 0, .int 0, .int 0, .int 0, .int 0, .int 0, .int (-1), .int (-1), .int (-1), .int 0, .int 0, .int 0, .int 0, .int 0, .int 0, .int 0, .int 0, .ref (u 21), .ref (u 22), .ref (u 23), .ref (u 24), .ref (u 25), .ref (u 26), .int 0, .long 0])), ((u 0), .inl (k 0, 34, .inl (fun _ => 0)))]) [0, 1] rfl
  refine q_calli (va_runV (As := []) (rest := []) ⟨hx, hb, hml, hown, hts⟩ (m_inHand l G k h0 u) (cwV 0 hts g_m_waitsOf_m_inHand_133 rfl rfl rfl (by decide +kernel) ⟨Nat.le_of_ble_eq_true rfl, Nat.le_of_ble_eq_true rfl⟩) ⟨pr_bl, va_recv hK hPc (ci := 6) (q0 := 0) rfl rfl, pr_pre hPc hK hN⟩ rfl rfl hl.1 rfl (lv_room (Nat.le_of_ble_eq_true rfl)) dX7_waitsOf_3 ⟨Nat.le_of_ble_eq_true rfl, Nat.le_of_ble_eq_true rfl⟩) (fun r1 hr1 => ?_)
  obtain rfl : r1 = 0 := hr1
  refine lv_iconst (v := 3) hx hb dX7_waitsOf_6 (by decide) ?_
  refine lv_aload_n hx hb dX7_waitsOf_7 rfl (lv_at hl 1 rfl) ?_
  refine va_get (D := G) (ci := 6) (v := .int 0) (C := RX7) (T := TX7) (N := 68) hx hb hts i_m_waitsOf_X7 hown hK hP 0 rfl rfl 4 (by decide) (hts (.fieldLink RX7 137 "TileHouseModel" "laidMany" "I") (by decide +kernel)) (fun _ h9 => h9) rfl dX7_waitsOf_8 ?_
  refine lv_imul hx hb dX7_waitsOf_11 ?_
  refine lv_topi (fun z2 ez2 => ?_)
  obtain rfl : z2 = 0 := ez2.trans (by decide)
  refine lv_iadd hx hb dX7_waitsOf_12 ?_
  refine lv_topi (fun z3 ez3 => ?_)
  obtain rfl : z3 = 0 := ez3.trans (by decide)
  refine lv_bipush (v := 13) hx hb dX7_waitsOf_13 (by decide) ?_
  refine lv_icmp_eq (tgt := 20) hx hb dX7_waitsOf_15 (by decide) (fun c9 => absurd c9 (by decide)) (fun _ => ?_)
  refine lv_lload_n hx hb dX7_waitsOf_18 rfl (lv_at hl 0 rfl) ?_
  exact W.lret (v := 0) hx hb hr (fun t ht hW => ⟨0, rfl, rfl, ht⟩) (fun _ h => by cases h) dX7_waitsOf_19
def v_m_bit : List Cond := .code yX7_bit cX7_bit 1 (some .long) :: ([] ++ ([]))
theorem vg_m_bit : ∀ w ∈ v_m_bit, goodWord w = true := vg_c (c := .code yX7_bit cX7_bit 1 (some .long)) (l := []) (by decide +kernel) (vg_nil)
set_option maxHeartbeats 4000000 in
set_option maxRecDepth 100000 in
theorem m_bit (l : Launch) (G : va_G) (k : Nat → ClassId) (p0 : Int32) : Met l yX7_bit v_m_bit ({ frames := 0, cells := 0, slots := 0, locals := 0 }) (va_Pc [.int p0] (pr G k [])) (vp_Sl (fun r => True)) 0 0 (fun _ => False) := by
  refine Met.ofW (cc := cX7_bit) (maxL := 1) (ret := (some .long)) (by decide) rfl ?_
  intro p e s m args below meth c s₁ B hml hv
  obtain ⟨rfl, hP, hK, hN⟩ := hv
  have hx := B.exec
  have hb := B.bytes
  have hr := B.returns
  have hts := atoms_spec (ws := v_m_bit) B.pre
  have hown : s.vm.findClass RX7 = some m.cls := findClass_of_methodNamed B.named
  have hlocks := B.notSynchronized
  have hl := lv_entry ([.int p0]) (n := 1) (Nat.le_of_ble_eq_true rfl)
  rw [lg_entry_eq]
  generalize (lg_sl ([.int p0]) ++ List.replicate (1 - (lg_sl ([.int p0])).length) Slot.unset).toArray = ls at hl ⊢
  have hl : lv_has ls 1 [(0, .int p0)] := hl
  refine lv_lconst (v := 1) hx hb dX7_bit_0 (by decide) ?_
  refine lv_iload_n hx hb dX7_bit_1 rfl (lv_at hl 0 rfl) ?_
  refine lv_lshl hx hb dX7_bit_2 rfl ?_
  refine lv_topl (fun v1 ev1 => ?_)
  exact W.lret (v := v1) hx hb hr (fun t ht hW => ⟨v1, rfl, trivial, ht⟩) (fun _ h => by cases h) dX7_bit_3
def v_m_discard : List Cond := .code yX7_discard cX7_discard 5 (some .boolean) :: ([.fieldLink RX7 103 "TileHouseModel" "thrown" "I", .fieldLink RX7 277 "TileHouseModel" "phase" "I"] ++ (wsX70 ++ ([])))
theorem vg_m_discard : ∀ w ∈ v_m_discard, goodWord w = true := vg_c (c := .code yX7_discard cX7_discard 5 (some .boolean)) (l := [.fieldLink RX7 103 "TileHouseModel" "thrown" "I", .fieldLink RX7 277 "TileHouseModel" "phase" "I"]) (by decide +kernel) (vg_a vgX7 (vg_nil))
theorem i_m_discard_X7 : ∀ w ∈ u_ws RX7 TX7 68, w ∈ v_m_discard := fun _ h => List.mem_cons_of_mem _ (List.mem_append_right _ (List.mem_append_left _ h))
set_option maxHeartbeats 4000000 in
set_option maxRecDepth 100000 in
theorem m_discard (l : Launch) (G : va_G) (k : Nat → ClassId) (sz : Nat) (h0 : Nat) (u : Nat → Nat) (p0 : Int32) (p1 : Int32) : Met l yX7_discard v_m_discard ({ frames := 0, cells := 0, slots := 0, locals := 0 }) (va_Pc [.ref h0, .int p0, .int p1] (pq G k [(h0, .inr (6, [.int 0, .ref (u 0), .ref (u 1), .ref (u 2), .int 0, .ref (u 3), .ref (u 4), .int 0, .int 0, .int 0, .int 0, .int 0, .long 0, .int 0, .int 0, .int 0, .int 0, .long 0, .int 0, .ref (u 5), .ref (u 6), .int 0, .int 0, .int 0, .long 0, .long 0, .ref (u 7), .ref (u 8), .ref (u 9), .ref (u 10), .ref (u 11), .ref (u 12), .ref (u 13), .ref (u 14), .ref (u 15), .ref (u 16), .ref (u 17), .ref (u 18), .ref (u 19), .ref (u 20), .int 0, .int 0, .int 0, .int 0, .int 0, .int 0, .int 0, .int 0, .int 0, .int (-1), .int (-1), .int (-1), .int 0, .int 0, .int 0, .int 0, .int 0, .int 0, .int 0, .int 0, .ref (u 21), .ref (u 22), .ref (u 23), .ref (u 24), .ref (u 25), .ref (u 26), .int 0, .long 0]))] sz)) (va_Qi (fun r (_ : Unit) => r = 0) (fun (_ : Unit) _ => True) (va_A [(h0, .inr (6, [.int 0, .ref (u 0), .ref (u 1), .ref (u 2), .int 0, .ref (u 3), .ref (u 4), .int 0, .int 0, .int 0, .int 0, .int 0, .long 0, .int 0, .int 0, .int 0, .int 0, .long 0, .int 0, .ref (u 5), .ref (u 6), .int 0, .int 0, .int 0, .long 0, .long 0, .ref (u 7), .ref (u 8), .ref (u 9), .ref (u 10), .ref (u 11), .ref (u 12), .ref (u 13), .ref (u 14), .ref (u 15), .ref (u 16), .ref (u 17), .ref (u 18), .ref (u 19), .ref (u 20), .int 0, .int 0, .int 0, .int 0, .int 0, .int 0, .int 0, .int 0, .int 0, .int (-1), .int (-1), .int (-1), .int 0, .int 0, .int 0, .int 0, .int 0, .int 0, .int 0, .int 0, .ref (u 21), .ref (u 22), .ref (u 23), .ref (u 24), .ref (u 25), .ref (u 26), .int 0, .long 0]))] sz)) 0 0 (va_A [(h0, .inr (6, [.int 0, .ref (u 0), .ref (u 1), .ref (u 2), .int 0, .ref (u 3), .ref (u 4), .int 0, .int 0, .int 0, .int 0, .int 0, .long 0, .int 0, .int 0, .int 0, .int 0, .long 0, .int 0, .ref (u 5), .ref (u 6), .int 0, .int 0, .int 0, .long 0, .long 0, .ref (u 7), .ref (u 8), .ref (u 9), .ref (u 10), .ref (u 11), .ref (u 12), .ref (u 13), .ref (u 14), .ref (u 15), .ref (u 16), .ref (u 17), .ref (u 18), .ref (u 19), .ref (u 20), .int 0, .int 0, .int 0, .int 0, .int 0, .int 0, .int 0, .int 0, .int 0, .int (-1), .int (-1), .int (-1), .int 0, .int 0, .int 0, .int 0, .int 0, .int 0, .int 0, .int 0, .ref (u 21), .ref (u 22), .ref (u 23), .ref (u 24), .ref (u 25), .ref (u 26), .int 0, .long 0]))] sz) := by
  refine Met.ofW (cc := cX7_discard) (maxL := 5) (ret := (some .boolean)) (by decide) rfl ?_
  intro p e s m args below meth c s₁ B hml hv
  obtain ⟨rfl, hsz, ⟨hP, hK, hN⟩, hD0⟩ := hv
  have hx := B.exec
  have hb := B.bytes
  have hr := B.returns
  have hts := atoms_spec (ws := v_m_discard) B.pre
  have hown : s.vm.findClass RX7 = some m.cls := findClass_of_methodNamed B.named
  have hlocks := B.notSynchronized
  subst hsz
  have hD := hD0.self (sz := s.heap.size)
  generalize hAe : va_A [(h0, .inr (6, [.int 0, .ref (u 0), .ref (u 1), .ref (u 2), .int 0, .ref (u 3), .ref (u 4), .int 0, .int 0, .int 0, .int 0, .int 0, .long 0, .int 0, .int 0, .int 0, .int 0, .long 0, .int 0, .ref (u 5), .ref (u 6), .int 0, .int 0, .int 0, .long 0, .long 0, .ref (u 7), .ref (u 8), .ref (u 9), .ref (u 10), .ref (u 11), .ref (u 12), .ref (u 13), .ref (u 14), .ref (u 15), .ref (u 16), .ref (u 17), .ref (u 18), .ref (u 19), .ref (u 20), .int 0, .int 0, .int 0, .int 0, .int 0, .int 0, .int 0, .int 0, .int 0, .int (-1), .int (-1), .int (-1), .int 0, .int 0, .int 0, .int 0, .int 0, .int 0, .int 0, .int 0, .ref (u 21), .ref (u 22), .ref (u 23), .ref (u 24), .ref (u 25), .ref (u 26), .int 0, .long 0]))] s.heap.size = A at hD ⊢
  have hA : ∀ q : Nat, s.heap.size ≤ q → A q := fun q h => by rw [← hAe]; exact Or.inr h
  have hS : va_S A s.heap s.heap [] := va_S.rf
  have hP : va_P G vwCl [(h0, .inr (6, [.int 0, .ref (u 0), .ref (u 1), .ref (u 2), .int 0, .ref (u 3), .ref (u 4), .int 0, .int 0, .int 0, .int 0, .int 0, .long 0, .int 0, .int 0, .int 0, .int 0, .long 0, .int 0, .ref (u 5), .ref (u 6), .int 0, .int 0, .int 0, .long 0, .long 0, .ref (u 7), .ref (u 8), .ref (u 9), .ref (u 10), .ref (u 11), .ref (u 12), .ref (u 13), .ref (u 14), .ref (u 15), .ref (u 16), .ref (u 17), .ref (u 18), .ref (u 19), .ref (u 20), .int 0, .int 0, .int 0, .int 0, .int 0, .int 0, .int 0, .int 0, .int 0, .int (-1), .int (-1), .int (-1), .int 0, .int 0, .int 0, .int 0, .int 0, .int 0, .int 0, .int 0, .ref (u 21), .ref (u 22), .ref (u 23), .ref (u 24), .ref (u 25), .ref (u 26), .int 0, .long 0]))] s.heap := hP
  have hl := lv_entry ([.ref h0, .int p0, .int p1]) (n := 5) (Nat.le_of_ble_eq_true rfl)
  rw [lg_entry_eq]
  generalize (lg_sl ([.ref h0, .int p0, .int p1]) ++ List.replicate (5 - (lg_sl ([.ref h0, .int p0, .int p1])).length) Slot.unset).toArray = ls at hl ⊢
  have hl : lv_has ls 5 [(0, .ref h0), (1, .int p0), (2, .int p1)] := hl
  refine lv_aload_n hx hb dX7_discard_0 rfl (lv_at hl 0 rfl) ?_
  refine lv_iconst (v := 0) hx hb dX7_discard_1 (by decide) ?_
  refine va_put (D := G) (ci := 6) (v := .int 0) (ty := .int) (C := RX7) (T := TX7) (N := 68) hx hb hts i_m_discard_X7 tyX7 tyX7_ok nmX7 hown hK hP hD hS 0 rfl rfl 0 (by decide) (hts (.fieldLink RX7 103 "TileHouseModel" "thrown" "I") (by decide +kernel)) (fun _ h9 => h9) rfl (by decide +kernel) rfl rfl (Nat.le_of_ble_eq_true rfl) dX7_discard_2 (fun H locs hP hD hS => ?_)
  replace hP : va_P G vwCl [(h0, .inr (6, [.int 0, .ref (u 0), .ref (u 1), .ref (u 2), .int 0, .ref (u 3), .ref (u 4), .int 0, .int 0, .int 0, .int 0, .int 0, .long 0, .int 0, .int 0, .int 0, .int 0, .long 0, .int 0, .ref (u 5), .ref (u 6), .int 0, .int 0, .int 0, .long 0, .long 0, .ref (u 7), .ref (u 8), .ref (u 9), .ref (u 10), .ref (u 11), .ref (u 12), .ref (u 13), .ref (u 14), .ref (u 15), .ref (u 16), .ref (u 17), .ref (u 18), .ref (u 19), .ref (u 20), .int 0, .int 0, .int 0, .int 0, .int 0, .int 0, .int 0, .int 0, .int 0, .int (-1), .int (-1), .int (-1), .int 0, .int 0, .int 0, .int 0, .int 0, .int 0, .int 0, .int 0, .ref (u 21), .ref (u 22), .ref (u 23), .ref (u 24), .ref (u 25), .ref (u 26), .int 0, .long 0]))] H := hP
  replace hD : va_D A [(h0, .inr (6, [.int 0, .ref (u 0), .ref (u 1), .ref (u 2), .int 0, .ref (u 3), .ref (u 4), .int 0, .int 0, .int 0, .int 0, .int 0, .long 0, .int 0, .int 0, .int 0, .int 0, .long 0, .int 0, .ref (u 5), .ref (u 6), .int 0, .int 0, .int 0, .long 0, .long 0, .ref (u 7), .ref (u 8), .ref (u 9), .ref (u 10), .ref (u 11), .ref (u 12), .ref (u 13), .ref (u 14), .ref (u 15), .ref (u 16), .ref (u 17), .ref (u 18), .ref (u 19), .ref (u 20), .int 0, .int 0, .int 0, .int 0, .int 0, .int 0, .int 0, .int 0, .int 0, .int (-1), .int (-1), .int (-1), .int 0, .int 0, .int 0, .int 0, .int 0, .int 0, .int 0, .int 0, .ref (u 21), .ref (u 22), .ref (u 23), .ref (u 24), .ref (u 25), .ref (u 26), .int 0, .long 0]))] := hD
  refine lv_aload_n hx hb dX7_discard_5 rfl (lv_at hl 0 rfl) ?_
  refine va_get (D := G) (ci := 6) (v := .int 0) (C := RX7) (T := TX7) (N := 68) hx hb hts i_m_discard_X7 hown hK hP 0 rfl rfl 44 (by decide) (hts (.fieldLink RX7 277 "TileHouseModel" "phase" "I") (by decide +kernel)) (fun _ h9 => h9) rfl dX7_discard_6 ?_
  refine lv_iconst (v := 1) hx hb dX7_discard_9 (by decide) ?_
  refine lv_icmp_ne (tgt := 32) hx hb dX7_discard_10 (by decide) (fun _ => ?_) (fun c9 => absurd c9 (by decide))
  refine lv_iconst (v := 0) hx hb dX7_discard_32 (by decide) ?_
  refine W.widen (k := 0) (n := 0) (Nat.le_of_ble_eq_true rfl) (Nat.le_of_ble_eq_true rfl) ?_
  exact W.zret (v := 0) hx hb hr rfl (fun t ht hW => ⟨⟨0, (), rfl, rfl, trivial⟩, hS.F ht⟩) hS.2.2 dX7_discard_33
def v_m_pass : List Cond := .code yX7_pass cX7_pass 2 (some .boolean) :: ([.fieldLink RX7 103 "TileHouseModel" "thrown" "I", .fieldLink RX7 277 "TileHouseModel" "phase" "I"] ++ (wsX70 ++ ([])))
theorem vg_m_pass : ∀ w ∈ v_m_pass, goodWord w = true := vg_c (c := .code yX7_pass cX7_pass 2 (some .boolean)) (l := [.fieldLink RX7 103 "TileHouseModel" "thrown" "I", .fieldLink RX7 277 "TileHouseModel" "phase" "I"]) (by decide +kernel) (vg_a vgX7 (vg_nil))
theorem i_m_pass_X7 : ∀ w ∈ u_ws RX7 TX7 68, w ∈ v_m_pass := fun _ h => List.mem_cons_of_mem _ (List.mem_append_right _ (List.mem_append_left _ h))
set_option maxHeartbeats 4000000 in
set_option maxRecDepth 100000 in
theorem m_pass (l : Launch) (G : va_G) (k : Nat → ClassId) (sz : Nat) (h0 : Nat) (u : Nat → Nat) : Met l yX7_pass v_m_pass ({ frames := 0, cells := 0, slots := 0, locals := 0 }) (va_Pc [.ref h0] (pq G k [(h0, .inr (6, [.int 0, .ref (u 0), .ref (u 1), .ref (u 2), .int 0, .ref (u 3), .ref (u 4), .int 0, .int 0, .int 0, .int 0, .int 0, .long 0, .int 0, .int 0, .int 0, .int 0, .long 0, .int 0, .ref (u 5), .ref (u 6), .int 0, .int 0, .int 0, .long 0, .long 0, .ref (u 7), .ref (u 8), .ref (u 9), .ref (u 10), .ref (u 11), .ref (u 12), .ref (u 13), .ref (u 14), .ref (u 15), .ref (u 16), .ref (u 17), .ref (u 18), .ref (u 19), .ref (u 20), .int 0, .int 0, .int 0, .int 0, .int 0, .int 0, .int 0, .int 0, .int 0, .int (-1), .int (-1), .int (-1), .int 0, .int 0, .int 0, .int 0, .int 0, .int 0, .int 0, .int 0, .ref (u 21), .ref (u 22), .ref (u 23), .ref (u 24), .ref (u 25), .ref (u 26), .int 0, .long 0]))] sz)) (va_Qi (fun r (_ : Unit) => r = 0) (fun (_ : Unit) _ => True) (va_A [(h0, .inr (6, [.int 0, .ref (u 0), .ref (u 1), .ref (u 2), .int 0, .ref (u 3), .ref (u 4), .int 0, .int 0, .int 0, .int 0, .int 0, .long 0, .int 0, .int 0, .int 0, .int 0, .long 0, .int 0, .ref (u 5), .ref (u 6), .int 0, .int 0, .int 0, .long 0, .long 0, .ref (u 7), .ref (u 8), .ref (u 9), .ref (u 10), .ref (u 11), .ref (u 12), .ref (u 13), .ref (u 14), .ref (u 15), .ref (u 16), .ref (u 17), .ref (u 18), .ref (u 19), .ref (u 20), .int 0, .int 0, .int 0, .int 0, .int 0, .int 0, .int 0, .int 0, .int 0, .int (-1), .int (-1), .int (-1), .int 0, .int 0, .int 0, .int 0, .int 0, .int 0, .int 0, .int 0, .ref (u 21), .ref (u 22), .ref (u 23), .ref (u 24), .ref (u 25), .ref (u 26), .int 0, .long 0]))] sz)) 0 0 (va_A [(h0, .inr (6, [.int 0, .ref (u 0), .ref (u 1), .ref (u 2), .int 0, .ref (u 3), .ref (u 4), .int 0, .int 0, .int 0, .int 0, .int 0, .long 0, .int 0, .int 0, .int 0, .int 0, .long 0, .int 0, .ref (u 5), .ref (u 6), .int 0, .int 0, .int 0, .long 0, .long 0, .ref (u 7), .ref (u 8), .ref (u 9), .ref (u 10), .ref (u 11), .ref (u 12), .ref (u 13), .ref (u 14), .ref (u 15), .ref (u 16), .ref (u 17), .ref (u 18), .ref (u 19), .ref (u 20), .int 0, .int 0, .int 0, .int 0, .int 0, .int 0, .int 0, .int 0, .int 0, .int (-1), .int (-1), .int (-1), .int 0, .int 0, .int 0, .int 0, .int 0, .int 0, .int 0, .int 0, .ref (u 21), .ref (u 22), .ref (u 23), .ref (u 24), .ref (u 25), .ref (u 26), .int 0, .long 0]))] sz) := by
  refine Met.ofW (cc := cX7_pass) (maxL := 2) (ret := (some .boolean)) (by decide) rfl ?_
  intro p e s m args below meth c s₁ B hml hv
  obtain ⟨rfl, hsz, ⟨hP, hK, hN⟩, hD0⟩ := hv
  have hx := B.exec
  have hb := B.bytes
  have hr := B.returns
  have hts := atoms_spec (ws := v_m_pass) B.pre
  have hown : s.vm.findClass RX7 = some m.cls := findClass_of_methodNamed B.named
  have hlocks := B.notSynchronized
  subst hsz
  have hD := hD0.self (sz := s.heap.size)
  generalize hAe : va_A [(h0, .inr (6, [.int 0, .ref (u 0), .ref (u 1), .ref (u 2), .int 0, .ref (u 3), .ref (u 4), .int 0, .int 0, .int 0, .int 0, .int 0, .long 0, .int 0, .int 0, .int 0, .int 0, .long 0, .int 0, .ref (u 5), .ref (u 6), .int 0, .int 0, .int 0, .long 0, .long 0, .ref (u 7), .ref (u 8), .ref (u 9), .ref (u 10), .ref (u 11), .ref (u 12), .ref (u 13), .ref (u 14), .ref (u 15), .ref (u 16), .ref (u 17), .ref (u 18), .ref (u 19), .ref (u 20), .int 0, .int 0, .int 0, .int 0, .int 0, .int 0, .int 0, .int 0, .int 0, .int (-1), .int (-1), .int (-1), .int 0, .int 0, .int 0, .int 0, .int 0, .int 0, .int 0, .int 0, .ref (u 21), .ref (u 22), .ref (u 23), .ref (u 24), .ref (u 25), .ref (u 26), .int 0, .long 0]))] s.heap.size = A at hD ⊢
  have hA : ∀ q : Nat, s.heap.size ≤ q → A q := fun q h => by rw [← hAe]; exact Or.inr h
  have hS : va_S A s.heap s.heap [] := va_S.rf
  have hP : va_P G vwCl [(h0, .inr (6, [.int 0, .ref (u 0), .ref (u 1), .ref (u 2), .int 0, .ref (u 3), .ref (u 4), .int 0, .int 0, .int 0, .int 0, .int 0, .long 0, .int 0, .int 0, .int 0, .int 0, .long 0, .int 0, .ref (u 5), .ref (u 6), .int 0, .int 0, .int 0, .long 0, .long 0, .ref (u 7), .ref (u 8), .ref (u 9), .ref (u 10), .ref (u 11), .ref (u 12), .ref (u 13), .ref (u 14), .ref (u 15), .ref (u 16), .ref (u 17), .ref (u 18), .ref (u 19), .ref (u 20), .int 0, .int 0, .int 0, .int 0, .int 0, .int 0, .int 0, .int 0, .int 0, .int (-1), .int (-1), .int (-1), .int 0, .int 0, .int 0, .int 0, .int 0, .int 0, .int 0, .int 0, .ref (u 21), .ref (u 22), .ref (u 23), .ref (u 24), .ref (u 25), .ref (u 26), .int 0, .long 0]))] s.heap := hP
  have hl := lv_entry ([.ref h0]) (n := 2) (Nat.le_of_ble_eq_true rfl)
  rw [lg_entry_eq]
  generalize (lg_sl ([.ref h0]) ++ List.replicate (2 - (lg_sl ([.ref h0])).length) Slot.unset).toArray = ls at hl ⊢
  have hl : lv_has ls 2 [(0, .ref h0)] := hl
  refine lv_aload_n hx hb dX7_pass_0 rfl (lv_at hl 0 rfl) ?_
  refine lv_iconst (v := 0) hx hb dX7_pass_1 (by decide) ?_
  refine va_put (D := G) (ci := 6) (v := .int 0) (ty := .int) (C := RX7) (T := TX7) (N := 68) hx hb hts i_m_pass_X7 tyX7 tyX7_ok nmX7 hown hK hP hD hS 0 rfl rfl 0 (by decide) (hts (.fieldLink RX7 103 "TileHouseModel" "thrown" "I") (by decide +kernel)) (fun _ h9 => h9) rfl (by decide +kernel) rfl rfl (Nat.le_of_ble_eq_true rfl) dX7_pass_2 (fun H locs hP hD hS => ?_)
  replace hP : va_P G vwCl [(h0, .inr (6, [.int 0, .ref (u 0), .ref (u 1), .ref (u 2), .int 0, .ref (u 3), .ref (u 4), .int 0, .int 0, .int 0, .int 0, .int 0, .long 0, .int 0, .int 0, .int 0, .int 0, .long 0, .int 0, .ref (u 5), .ref (u 6), .int 0, .int 0, .int 0, .long 0, .long 0, .ref (u 7), .ref (u 8), .ref (u 9), .ref (u 10), .ref (u 11), .ref (u 12), .ref (u 13), .ref (u 14), .ref (u 15), .ref (u 16), .ref (u 17), .ref (u 18), .ref (u 19), .ref (u 20), .int 0, .int 0, .int 0, .int 0, .int 0, .int 0, .int 0, .int 0, .int 0, .int (-1), .int (-1), .int (-1), .int 0, .int 0, .int 0, .int 0, .int 0, .int 0, .int 0, .int 0, .ref (u 21), .ref (u 22), .ref (u 23), .ref (u 24), .ref (u 25), .ref (u 26), .int 0, .long 0]))] H := hP
  replace hD : va_D A [(h0, .inr (6, [.int 0, .ref (u 0), .ref (u 1), .ref (u 2), .int 0, .ref (u 3), .ref (u 4), .int 0, .int 0, .int 0, .int 0, .int 0, .long 0, .int 0, .int 0, .int 0, .int 0, .long 0, .int 0, .ref (u 5), .ref (u 6), .int 0, .int 0, .int 0, .long 0, .long 0, .ref (u 7), .ref (u 8), .ref (u 9), .ref (u 10), .ref (u 11), .ref (u 12), .ref (u 13), .ref (u 14), .ref (u 15), .ref (u 16), .ref (u 17), .ref (u 18), .ref (u 19), .ref (u 20), .int 0, .int 0, .int 0, .int 0, .int 0, .int 0, .int 0, .int 0, .int 0, .int (-1), .int (-1), .int (-1), .int 0, .int 0, .int 0, .int 0, .int 0, .int 0, .int 0, .int 0, .ref (u 21), .ref (u 22), .ref (u 23), .ref (u 24), .ref (u 25), .ref (u 26), .int 0, .long 0]))] := hD
  refine lv_aload_n hx hb dX7_pass_5 rfl (lv_at hl 0 rfl) ?_
  refine va_get (D := G) (ci := 6) (v := .int 0) (C := RX7) (T := TX7) (N := 68) hx hb hts i_m_pass_X7 hown hK hP 0 rfl rfl 44 (by decide) (hts (.fieldLink RX7 277 "TileHouseModel" "phase" "I") (by decide +kernel)) (fun _ h9 => h9) rfl dX7_pass_6 ?_
  refine lv_iconst (v := 2) hx hb dX7_pass_9 (by decide) ?_
  refine lv_icmp_ge (tgt := 15) hx hb dX7_pass_10 (by decide) (fun c9 => absurd c9 (by decide)) (fun _ => ?_)
  refine lv_iconst (v := 0) hx hb dX7_pass_13 (by decide) ?_
  refine W.widen (k := 0) (n := 0) (Nat.le_of_ble_eq_true rfl) (Nat.le_of_ble_eq_true rfl) ?_
  exact W.zret (v := 0) hx hb hr rfl (fun t ht hW => ⟨⟨0, (), rfl, rfl, trivial⟩, hS.F ht⟩) hS.2.2 dX7_pass_14
def v_m_run : List Cond := .code yX7_run cX7_run 5 (some .boolean) :: ([.fieldLink RX7 103 "TileHouseModel" "thrown" "I", .methodLink RX7 361 yX7_mayClaim, .instanceMethod yX7_mayClaim, .selects RX7 yX7_mayClaim yX7_mayClaim, .initialized RX7] ++ (wsX70 ++ (v_m_mayClaim ++ ([]))))
theorem vg_m_run : ∀ w ∈ v_m_run, goodWord w = true := vg_c (c := .code yX7_run cX7_run 5 (some .boolean)) (l := [.fieldLink RX7 103 "TileHouseModel" "thrown" "I", .methodLink RX7 361 yX7_mayClaim, .instanceMethod yX7_mayClaim, .selects RX7 yX7_mayClaim yX7_mayClaim, .initialized RX7]) (by decide +kernel) (vg_a vgX7 (vg_a vg_m_mayClaim (vg_nil)))
theorem i_m_run_X7 : ∀ w ∈ u_ws RX7 TX7 68, w ∈ v_m_run := fun _ h => List.mem_cons_of_mem _ (List.mem_append_right _ (List.mem_append_left _ h))
theorem g_m_run_m_mayClaim_361 : GoodIn v_m_run (wsV RX7 361 RX7 yX7_mayClaim v_m_mayClaim) := goodIn_app (goodIn_of _ (by decide +kernel)) (fun w h => ⟨List.mem_cons_of_mem _ (List.mem_append_right _ (List.mem_append_right _ (List.mem_append_left _ h))), good_of_word (vg_m_mayClaim w h)⟩)
set_option maxHeartbeats 4000000 in
set_option maxRecDepth 100000 in
theorem m_run (l : Launch) (G : va_G) (k : Nat → ClassId) (sz : Nat) (h0 : Nat) (u : Nat → Nat) (p0 : Int32) (p1 : Int32) : Met l yX7_run v_m_run ({ frames := 1, cells := 0, slots := 0, locals := 21 }) (va_Pc [.ref h0, .int p0, .int p1] (pq G k [(h0, .inr (6, [.int 0, .ref (u 0), .ref (u 1), .ref (u 2), .int 0, .ref (u 3), .ref (u 4), .int 0, .int 0, .int 0, .int 0, .int 0, .long 0, .int 0, .int 0, .int 0, .int 0, .long 0, .int 0, .ref (u 5), .ref (u 6), .int 0, .int 0, .int 0, .long 0, .long 0, .ref (u 7), .ref (u 8), .ref (u 9), .ref (u 10), .ref (u 11), .ref (u 12), .ref (u 13), .ref (u 14), .ref (u 15), .ref (u 16), .ref (u 17), .ref (u 18), .ref (u 19), .ref (u 20), .int 0, .int 0, .int 0, .int 0, .int 0, .int 0, .int 0, .int 0, .int 0, .int (-1), .int (-1), .int (-1), .int 0, .int 0, .int 0, .int 0, .int 0, .int 0, .int 0, .int 0, .ref (u 21), .ref (u 22), .ref (u 23), .ref (u 24), .ref (u 25), .ref (u 26), .int 0, .long 0]))] sz)) (va_Qi (fun r (_ : Unit) => r = 0) (fun (_ : Unit) _ => True) (va_A [(h0, .inr (6, [.int 0, .ref (u 0), .ref (u 1), .ref (u 2), .int 0, .ref (u 3), .ref (u 4), .int 0, .int 0, .int 0, .int 0, .int 0, .long 0, .int 0, .int 0, .int 0, .int 0, .long 0, .int 0, .ref (u 5), .ref (u 6), .int 0, .int 0, .int 0, .long 0, .long 0, .ref (u 7), .ref (u 8), .ref (u 9), .ref (u 10), .ref (u 11), .ref (u 12), .ref (u 13), .ref (u 14), .ref (u 15), .ref (u 16), .ref (u 17), .ref (u 18), .ref (u 19), .ref (u 20), .int 0, .int 0, .int 0, .int 0, .int 0, .int 0, .int 0, .int 0, .int 0, .int (-1), .int (-1), .int (-1), .int 0, .int 0, .int 0, .int 0, .int 0, .int 0, .int 0, .int 0, .ref (u 21), .ref (u 22), .ref (u 23), .ref (u 24), .ref (u 25), .ref (u 26), .int 0, .long 0]))] sz)) 0 0 (va_A [(h0, .inr (6, [.int 0, .ref (u 0), .ref (u 1), .ref (u 2), .int 0, .ref (u 3), .ref (u 4), .int 0, .int 0, .int 0, .int 0, .int 0, .long 0, .int 0, .int 0, .int 0, .int 0, .long 0, .int 0, .ref (u 5), .ref (u 6), .int 0, .int 0, .int 0, .long 0, .long 0, .ref (u 7), .ref (u 8), .ref (u 9), .ref (u 10), .ref (u 11), .ref (u 12), .ref (u 13), .ref (u 14), .ref (u 15), .ref (u 16), .ref (u 17), .ref (u 18), .ref (u 19), .ref (u 20), .int 0, .int 0, .int 0, .int 0, .int 0, .int 0, .int 0, .int 0, .int 0, .int (-1), .int (-1), .int (-1), .int 0, .int 0, .int 0, .int 0, .int 0, .int 0, .int 0, .int 0, .ref (u 21), .ref (u 22), .ref (u 23), .ref (u 24), .ref (u 25), .ref (u 26), .int 0, .long 0]))] sz) := by
  refine Met.ofW (cc := cX7_run) (maxL := 5) (ret := (some .boolean)) (by decide) rfl ?_
  intro p e s m args below meth c s₁ B hml hv
  obtain ⟨rfl, hsz, ⟨hP, hK, hN⟩, hD0⟩ := hv
  have hx := B.exec
  have hb := B.bytes
  have hr := B.returns
  have hts := atoms_spec (ws := v_m_run) B.pre
  have hown : s.vm.findClass RX7 = some m.cls := findClass_of_methodNamed B.named
  have hlocks := B.notSynchronized
  subst hsz
  have hD := hD0.self (sz := s.heap.size)
  generalize hAe : va_A [(h0, .inr (6, [.int 0, .ref (u 0), .ref (u 1), .ref (u 2), .int 0, .ref (u 3), .ref (u 4), .int 0, .int 0, .int 0, .int 0, .int 0, .long 0, .int 0, .int 0, .int 0, .int 0, .long 0, .int 0, .ref (u 5), .ref (u 6), .int 0, .int 0, .int 0, .long 0, .long 0, .ref (u 7), .ref (u 8), .ref (u 9), .ref (u 10), .ref (u 11), .ref (u 12), .ref (u 13), .ref (u 14), .ref (u 15), .ref (u 16), .ref (u 17), .ref (u 18), .ref (u 19), .ref (u 20), .int 0, .int 0, .int 0, .int 0, .int 0, .int 0, .int 0, .int 0, .int 0, .int (-1), .int (-1), .int (-1), .int 0, .int 0, .int 0, .int 0, .int 0, .int 0, .int 0, .int 0, .ref (u 21), .ref (u 22), .ref (u 23), .ref (u 24), .ref (u 25), .ref (u 26), .int 0, .long 0]))] s.heap.size = A at hD ⊢
  have hA : ∀ q : Nat, s.heap.size ≤ q → A q := fun q h => by rw [← hAe]; exact Or.inr h
  have hS : va_S A s.heap s.heap [] := va_S.rf
  have hP : va_P G vwCl [(h0, .inr (6, [.int 0, .ref (u 0), .ref (u 1), .ref (u 2), .int 0, .ref (u 3), .ref (u 4), .int 0, .int 0, .int 0, .int 0, .int 0, .long 0, .int 0, .int 0, .int 0, .int 0, .long 0, .int 0, .ref (u 5), .ref (u 6), .int 0, .int 0, .int 0, .long 0, .long 0, .ref (u 7), .ref (u 8), .ref (u 9), .ref (u 10), .ref (u 11), .ref (u 12), .ref (u 13), .ref (u 14), .ref (u 15), .ref (u 16), .ref (u 17), .ref (u 18), .ref (u 19), .ref (u 20), .int 0, .int 0, .int 0, .int 0, .int 0, .int 0, .int 0, .int 0, .int 0, .int (-1), .int (-1), .int (-1), .int 0, .int 0, .int 0, .int 0, .int 0, .int 0, .int 0, .int 0, .ref (u 21), .ref (u 22), .ref (u 23), .ref (u 24), .ref (u 25), .ref (u 26), .int 0, .long 0]))] s.heap := hP
  have hl := lv_entry ([.ref h0, .int p0, .int p1]) (n := 5) (Nat.le_of_ble_eq_true rfl)
  rw [lg_entry_eq]
  generalize (lg_sl ([.ref h0, .int p0, .int p1]) ++ List.replicate (5 - (lg_sl ([.ref h0, .int p0, .int p1])).length) Slot.unset).toArray = ls at hl ⊢
  have hl : lv_has ls 5 [(0, .ref h0), (1, .int p0), (2, .int p1)] := hl
  refine lv_aload_n hx hb dX7_run_0 rfl (lv_at hl 0 rfl) ?_
  refine lv_iconst (v := 0) hx hb dX7_run_1 (by decide) ?_
  refine va_put (D := G) (ci := 6) (v := .int 0) (ty := .int) (C := RX7) (T := TX7) (N := 68) hx hb hts i_m_run_X7 tyX7 tyX7_ok nmX7 hown hK hP hD hS 0 rfl rfl 0 (by decide) (hts (.fieldLink RX7 103 "TileHouseModel" "thrown" "I") (by decide +kernel)) (fun _ h9 => h9) rfl (by decide +kernel) rfl rfl (Nat.le_of_ble_eq_true rfl) dX7_run_2 (fun H locs hP hD hS => ?_)
  replace hP : va_P G vwCl [(h0, .inr (6, [.int 0, .ref (u 0), .ref (u 1), .ref (u 2), .int 0, .ref (u 3), .ref (u 4), .int 0, .int 0, .int 0, .int 0, .int 0, .long 0, .int 0, .int 0, .int 0, .int 0, .long 0, .int 0, .ref (u 5), .ref (u 6), .int 0, .int 0, .int 0, .long 0, .long 0, .ref (u 7), .ref (u 8), .ref (u 9), .ref (u 10), .ref (u 11), .ref (u 12), .ref (u 13), .ref (u 14), .ref (u 15), .ref (u 16), .ref (u 17), .ref (u 18), .ref (u 19), .ref (u 20), .int 0, .int 0, .int 0, .int 0, .int 0, .int 0, .int 0, .int 0, .int 0, .int (-1), .int (-1), .int (-1), .int 0, .int 0, .int 0, .int 0, .int 0, .int 0, .int 0, .int 0, .ref (u 21), .ref (u 22), .ref (u 23), .ref (u 24), .ref (u 25), .ref (u 26), .int 0, .long 0]))] H := hP
  replace hD : va_D A [(h0, .inr (6, [.int 0, .ref (u 0), .ref (u 1), .ref (u 2), .int 0, .ref (u 3), .ref (u 4), .int 0, .int 0, .int 0, .int 0, .int 0, .long 0, .int 0, .int 0, .int 0, .int 0, .long 0, .int 0, .ref (u 5), .ref (u 6), .int 0, .int 0, .int 0, .long 0, .long 0, .ref (u 7), .ref (u 8), .ref (u 9), .ref (u 10), .ref (u 11), .ref (u 12), .ref (u 13), .ref (u 14), .ref (u 15), .ref (u 16), .ref (u 17), .ref (u 18), .ref (u 19), .ref (u 20), .int 0, .int 0, .int 0, .int 0, .int 0, .int 0, .int 0, .int 0, .int 0, .int (-1), .int (-1), .int (-1), .int 0, .int 0, .int 0, .int 0, .int 0, .int 0, .int 0, .int 0, .ref (u 21), .ref (u 22), .ref (u 23), .ref (u 24), .ref (u 25), .ref (u 26), .int 0, .long 0]))] := hD
  refine lv_aload_n hx hb dX7_run_5 rfl (lv_at hl 0 rfl) ?_
  refine lv_iload_n hx hb dX7_run_6 rfl (lv_at hl 1 rfl) ?_
  have hPc := hP.sub (ws' := [(h0, .inr (6, [.int 0, .ref (u 0), .ref (u 1), .ref (u 2), .int 0, .ref (u 3), .ref (u 4), .int 0, .int 0, .int 0, .int 0, .int 0, .long 0, .int 0, .int 0, .int 0, .int 0, .long 0, .int 0, .ref (u 5), .ref (u 6), .int 0, .int 0, .int 0, .long 0, .long 0, .ref (u 7), .ref (u 8), .ref (u 9), .ref (u 10), .ref (u 11), .ref (u 12), .ref (u 13), .ref (u 14), .ref (u 15), .ref (u 16), .ref (u 17), .ref (u 18), .ref (u 19), .ref (u 20), .int 0, .int 0, .int 0, .int 0, .int 0, .int 0, .int 0, .int 0, .int 0, .int (-1), .int (-1), .int (-1), .int 0, .int 0, .int 0, .int 0, .int 0, .int 0, .int 0, .int 0, .ref (u 21), .ref (u 22), .ref (u 23), .ref (u 24), .ref (u 25), .ref (u 26), .int 0, .long 0]))]) [0] rfl
  refine q_calli (va_runV (As := [.int p0]) (rest := []) ⟨hx, hb, hml, hown, hts⟩ (m_mayClaim l G k h0 u p0) (cwV 1 hts g_m_run_m_mayClaim_361 rfl rfl rfl (by decide +kernel) ⟨Nat.le_of_ble_eq_true rfl, Nat.le_of_ble_eq_true rfl⟩) ⟨pr_bl, va_recv hK hPc (ci := 6) (q0 := 0) rfl rfl, pr_pre hPc hK hN⟩ rfl rfl hl.1 rfl (lv_room (Nat.le_of_ble_eq_true rfl)) dX7_run_7 ⟨Nat.le_of_ble_eq_true rfl, Nat.le_of_ble_eq_true rfl⟩) (fun r1 hr1 => ?_)
  obtain rfl : r1 = 0 := hr1
  refine lv_if_eq (tgt := 50) hx hb dX7_run_10 (by decide) (fun _ => ?_) (fun c9 => absurd (by decide) c9)
  refine lv_iconst (v := 0) hx hb dX7_run_50 (by decide) ?_
  refine W.widen (k := 0) (n := 0) (Nat.le_of_ble_eq_true rfl) (Nat.le_of_ble_eq_true rfl) ?_
  exact W.zret (v := 0) hx hb hr rfl (fun t ht hW => ⟨⟨0, (), rfl, rfl, trivial⟩, hS.F ht⟩) hS.2.2 dX7_run_51
def v_m_three : List Cond := .code yX7_three cX7_three 3 (some .boolean) :: ([.fieldLink RX7 103 "TileHouseModel" "thrown" "I", .methodLink RX7 361 yX7_mayClaim, .instanceMethod yX7_mayClaim, .selects RX7 yX7_mayClaim yX7_mayClaim, .initialized RX7] ++ (wsX70 ++ (v_m_mayClaim ++ ([]))))
theorem vg_m_three : ∀ w ∈ v_m_three, goodWord w = true := vg_c (c := .code yX7_three cX7_three 3 (some .boolean)) (l := [.fieldLink RX7 103 "TileHouseModel" "thrown" "I", .methodLink RX7 361 yX7_mayClaim, .instanceMethod yX7_mayClaim, .selects RX7 yX7_mayClaim yX7_mayClaim, .initialized RX7]) (by decide +kernel) (vg_a vgX7 (vg_a vg_m_mayClaim (vg_nil)))
theorem i_m_three_X7 : ∀ w ∈ u_ws RX7 TX7 68, w ∈ v_m_three := fun _ h => List.mem_cons_of_mem _ (List.mem_append_right _ (List.mem_append_left _ h))
theorem g_m_three_m_mayClaim_361 : GoodIn v_m_three (wsV RX7 361 RX7 yX7_mayClaim v_m_mayClaim) := goodIn_app (goodIn_of _ (by decide +kernel)) (fun w h => ⟨List.mem_cons_of_mem _ (List.mem_append_right _ (List.mem_append_right _ (List.mem_append_left _ h))), good_of_word (vg_m_mayClaim w h)⟩)
set_option maxHeartbeats 4000000 in
set_option maxRecDepth 100000 in
theorem m_three (l : Launch) (G : va_G) (k : Nat → ClassId) (sz : Nat) (h0 : Nat) (u : Nat → Nat) (p0 : Int32) : Met l yX7_three v_m_three ({ frames := 1, cells := 0, slots := 0, locals := 21 }) (va_Pc [.ref h0, .int p0] (pq G k [(h0, .inr (6, [.int 0, .ref (u 0), .ref (u 1), .ref (u 2), .int 0, .ref (u 3), .ref (u 4), .int 0, .int 0, .int 0, .int 0, .int 0, .long 0, .int 0, .int 0, .int 0, .int 0, .long 0, .int 0, .ref (u 5), .ref (u 6), .int 0, .int 0, .int 0, .long 0, .long 0, .ref (u 7), .ref (u 8), .ref (u 9), .ref (u 10), .ref (u 11), .ref (u 12), .ref (u 13), .ref (u 14), .ref (u 15), .ref (u 16), .ref (u 17), .ref (u 18), .ref (u 19), .ref (u 20), .int 0, .int 0, .int 0, .int 0, .int 0, .int 0, .int 0, .int 0, .int 0, .int (-1), .int (-1), .int (-1), .int 0, .int 0, .int 0, .int 0, .int 0, .int 0, .int 0, .int 0, .ref (u 21), .ref (u 22), .ref (u 23), .ref (u 24), .ref (u 25), .ref (u 26), .int 0, .long 0]))] sz)) (va_Qi (fun r (_ : Unit) => r = 0) (fun (_ : Unit) _ => True) (va_A [(h0, .inr (6, [.int 0, .ref (u 0), .ref (u 1), .ref (u 2), .int 0, .ref (u 3), .ref (u 4), .int 0, .int 0, .int 0, .int 0, .int 0, .long 0, .int 0, .int 0, .int 0, .int 0, .long 0, .int 0, .ref (u 5), .ref (u 6), .int 0, .int 0, .int 0, .long 0, .long 0, .ref (u 7), .ref (u 8), .ref (u 9), .ref (u 10), .ref (u 11), .ref (u 12), .ref (u 13), .ref (u 14), .ref (u 15), .ref (u 16), .ref (u 17), .ref (u 18), .ref (u 19), .ref (u 20), .int 0, .int 0, .int 0, .int 0, .int 0, .int 0, .int 0, .int 0, .int 0, .int (-1), .int (-1), .int (-1), .int 0, .int 0, .int 0, .int 0, .int 0, .int 0, .int 0, .int 0, .ref (u 21), .ref (u 22), .ref (u 23), .ref (u 24), .ref (u 25), .ref (u 26), .int 0, .long 0]))] sz)) 0 0 (va_A [(h0, .inr (6, [.int 0, .ref (u 0), .ref (u 1), .ref (u 2), .int 0, .ref (u 3), .ref (u 4), .int 0, .int 0, .int 0, .int 0, .int 0, .long 0, .int 0, .int 0, .int 0, .int 0, .long 0, .int 0, .ref (u 5), .ref (u 6), .int 0, .int 0, .int 0, .long 0, .long 0, .ref (u 7), .ref (u 8), .ref (u 9), .ref (u 10), .ref (u 11), .ref (u 12), .ref (u 13), .ref (u 14), .ref (u 15), .ref (u 16), .ref (u 17), .ref (u 18), .ref (u 19), .ref (u 20), .int 0, .int 0, .int 0, .int 0, .int 0, .int 0, .int 0, .int 0, .int 0, .int (-1), .int (-1), .int (-1), .int 0, .int 0, .int 0, .int 0, .int 0, .int 0, .int 0, .int 0, .ref (u 21), .ref (u 22), .ref (u 23), .ref (u 24), .ref (u 25), .ref (u 26), .int 0, .long 0]))] sz) := by
  refine Met.ofW (cc := cX7_three) (maxL := 3) (ret := (some .boolean)) (by decide) rfl ?_
  intro p e s m args below meth c s₁ B hml hv
  obtain ⟨rfl, hsz, ⟨hP, hK, hN⟩, hD0⟩ := hv
  have hx := B.exec
  have hb := B.bytes
  have hr := B.returns
  have hts := atoms_spec (ws := v_m_three) B.pre
  have hown : s.vm.findClass RX7 = some m.cls := findClass_of_methodNamed B.named
  have hlocks := B.notSynchronized
  subst hsz
  have hD := hD0.self (sz := s.heap.size)
  generalize hAe : va_A [(h0, .inr (6, [.int 0, .ref (u 0), .ref (u 1), .ref (u 2), .int 0, .ref (u 3), .ref (u 4), .int 0, .int 0, .int 0, .int 0, .int 0, .long 0, .int 0, .int 0, .int 0, .int 0, .long 0, .int 0, .ref (u 5), .ref (u 6), .int 0, .int 0, .int 0, .long 0, .long 0, .ref (u 7), .ref (u 8), .ref (u 9), .ref (u 10), .ref (u 11), .ref (u 12), .ref (u 13), .ref (u 14), .ref (u 15), .ref (u 16), .ref (u 17), .ref (u 18), .ref (u 19), .ref (u 20), .int 0, .int 0, .int 0, .int 0, .int 0, .int 0, .int 0, .int 0, .int 0, .int (-1), .int (-1), .int (-1), .int 0, .int 0, .int 0, .int 0, .int 0, .int 0, .int 0, .int 0, .ref (u 21), .ref (u 22), .ref (u 23), .ref (u 24), .ref (u 25), .ref (u 26), .int 0, .long 0]))] s.heap.size = A at hD ⊢
  have hA : ∀ q : Nat, s.heap.size ≤ q → A q := fun q h => by rw [← hAe]; exact Or.inr h
  have hS : va_S A s.heap s.heap [] := va_S.rf
  have hP : va_P G vwCl [(h0, .inr (6, [.int 0, .ref (u 0), .ref (u 1), .ref (u 2), .int 0, .ref (u 3), .ref (u 4), .int 0, .int 0, .int 0, .int 0, .int 0, .long 0, .int 0, .int 0, .int 0, .int 0, .long 0, .int 0, .ref (u 5), .ref (u 6), .int 0, .int 0, .int 0, .long 0, .long 0, .ref (u 7), .ref (u 8), .ref (u 9), .ref (u 10), .ref (u 11), .ref (u 12), .ref (u 13), .ref (u 14), .ref (u 15), .ref (u 16), .ref (u 17), .ref (u 18), .ref (u 19), .ref (u 20), .int 0, .int 0, .int 0, .int 0, .int 0, .int 0, .int 0, .int 0, .int 0, .int (-1), .int (-1), .int (-1), .int 0, .int 0, .int 0, .int 0, .int 0, .int 0, .int 0, .int 0, .ref (u 21), .ref (u 22), .ref (u 23), .ref (u 24), .ref (u 25), .ref (u 26), .int 0, .long 0]))] s.heap := hP
  have hl := lv_entry ([.ref h0, .int p0]) (n := 3) (Nat.le_of_ble_eq_true rfl)
  rw [lg_entry_eq]
  generalize (lg_sl ([.ref h0, .int p0]) ++ List.replicate (3 - (lg_sl ([.ref h0, .int p0])).length) Slot.unset).toArray = ls at hl ⊢
  have hl : lv_has ls 3 [(0, .ref h0), (1, .int p0)] := hl
  refine lv_aload_n hx hb dX7_three_0 rfl (lv_at hl 0 rfl) ?_
  refine lv_iconst (v := 0) hx hb dX7_three_1 (by decide) ?_
  refine va_put (D := G) (ci := 6) (v := .int 0) (ty := .int) (C := RX7) (T := TX7) (N := 68) hx hb hts i_m_three_X7 tyX7 tyX7_ok nmX7 hown hK hP hD hS 0 rfl rfl 0 (by decide) (hts (.fieldLink RX7 103 "TileHouseModel" "thrown" "I") (by decide +kernel)) (fun _ h9 => h9) rfl (by decide +kernel) rfl rfl (Nat.le_of_ble_eq_true rfl) dX7_three_2 (fun H locs hP hD hS => ?_)
  replace hP : va_P G vwCl [(h0, .inr (6, [.int 0, .ref (u 0), .ref (u 1), .ref (u 2), .int 0, .ref (u 3), .ref (u 4), .int 0, .int 0, .int 0, .int 0, .int 0, .long 0, .int 0, .int 0, .int 0, .int 0, .long 0, .int 0, .ref (u 5), .ref (u 6), .int 0, .int 0, .int 0, .long 0, .long 0, .ref (u 7), .ref (u 8), .ref (u 9), .ref (u 10), .ref (u 11), .ref (u 12), .ref (u 13), .ref (u 14), .ref (u 15), .ref (u 16), .ref (u 17), .ref (u 18), .ref (u 19), .ref (u 20), .int 0, .int 0, .int 0, .int 0, .int 0, .int 0, .int 0, .int 0, .int 0, .int (-1), .int (-1), .int (-1), .int 0, .int 0, .int 0, .int 0, .int 0, .int 0, .int 0, .int 0, .ref (u 21), .ref (u 22), .ref (u 23), .ref (u 24), .ref (u 25), .ref (u 26), .int 0, .long 0]))] H := hP
  replace hD : va_D A [(h0, .inr (6, [.int 0, .ref (u 0), .ref (u 1), .ref (u 2), .int 0, .ref (u 3), .ref (u 4), .int 0, .int 0, .int 0, .int 0, .int 0, .long 0, .int 0, .int 0, .int 0, .int 0, .long 0, .int 0, .ref (u 5), .ref (u 6), .int 0, .int 0, .int 0, .long 0, .long 0, .ref (u 7), .ref (u 8), .ref (u 9), .ref (u 10), .ref (u 11), .ref (u 12), .ref (u 13), .ref (u 14), .ref (u 15), .ref (u 16), .ref (u 17), .ref (u 18), .ref (u 19), .ref (u 20), .int 0, .int 0, .int 0, .int 0, .int 0, .int 0, .int 0, .int 0, .int 0, .int (-1), .int (-1), .int (-1), .int 0, .int 0, .int 0, .int 0, .int 0, .int 0, .int 0, .int 0, .ref (u 21), .ref (u 22), .ref (u 23), .ref (u 24), .ref (u 25), .ref (u 26), .int 0, .long 0]))] := hD
  refine lv_aload_n hx hb dX7_three_5 rfl (lv_at hl 0 rfl) ?_
  refine lv_iload_n hx hb dX7_three_6 rfl (lv_at hl 1 rfl) ?_
  have hPc := hP.sub (ws' := [(h0, .inr (6, [.int 0, .ref (u 0), .ref (u 1), .ref (u 2), .int 0, .ref (u 3), .ref (u 4), .int 0, .int 0, .int 0, .int 0, .int 0, .long 0, .int 0, .int 0, .int 0, .int 0, .long 0, .int 0, .ref (u 5), .ref (u 6), .int 0, .int 0, .int 0, .long 0, .long 0, .ref (u 7), .ref (u 8), .ref (u 9), .ref (u 10), .ref (u 11), .ref (u 12), .ref (u 13), .ref (u 14), .ref (u 15), .ref (u 16), .ref (u 17), .ref (u 18), .ref (u 19), .ref (u 20), .int 0, .int 0, .int 0, .int 0, .int 0, .int 0, .int 0, .int 0, .int 0, .int (-1), .int (-1), .int (-1), .int 0, .int 0, .int 0, .int 0, .int 0, .int 0, .int 0, .int 0, .ref (u 21), .ref (u 22), .ref (u 23), .ref (u 24), .ref (u 25), .ref (u 26), .int 0, .long 0]))]) [0] rfl
  refine q_calli (va_runV (As := [.int p0]) (rest := []) ⟨hx, hb, hml, hown, hts⟩ (m_mayClaim l G k h0 u p0) (cwV 1 hts g_m_three_m_mayClaim_361 rfl rfl rfl (by decide +kernel) ⟨Nat.le_of_ble_eq_true rfl, Nat.le_of_ble_eq_true rfl⟩) ⟨pr_bl, va_recv hK hPc (ci := 6) (q0 := 0) rfl rfl, pr_pre hPc hK hN⟩ rfl rfl hl.1 rfl (lv_room (Nat.le_of_ble_eq_true rfl)) dX7_three_7 ⟨Nat.le_of_ble_eq_true rfl, Nat.le_of_ble_eq_true rfl⟩) (fun r1 hr1 => ?_)
  obtain rfl : r1 = 0 := hr1
  refine lv_if_eq (tgt := 26) hx hb dX7_three_10 (by decide) (fun _ => ?_) (fun c9 => absurd (by decide) c9)
  refine lv_iconst (v := 0) hx hb dX7_three_26 (by decide) ?_
  refine W.widen (k := 0) (n := 0) (Nat.le_of_ble_eq_true rfl) (Nat.le_of_ble_eq_true rfl) ?_
  exact W.zret (v := 0) hx hb hr rfl (fun t ht hW => ⟨⟨0, (), rfl, rfl, trivial⟩, hS.F ht⟩) hS.2.2 dX7_three_27
def v_m_four : List Cond := .code yX7_four cX7_four 2 (some .boolean) :: ([.fieldLink RX7 103 "TileHouseModel" "thrown" "I", .methodLink RX7 361 yX7_mayClaim, .instanceMethod yX7_mayClaim, .selects RX7 yX7_mayClaim yX7_mayClaim, .initialized RX7] ++ (wsX70 ++ (v_m_mayClaim ++ ([]))))
theorem vg_m_four : ∀ w ∈ v_m_four, goodWord w = true := vg_c (c := .code yX7_four cX7_four 2 (some .boolean)) (l := [.fieldLink RX7 103 "TileHouseModel" "thrown" "I", .methodLink RX7 361 yX7_mayClaim, .instanceMethod yX7_mayClaim, .selects RX7 yX7_mayClaim yX7_mayClaim, .initialized RX7]) (by decide +kernel) (vg_a vgX7 (vg_a vg_m_mayClaim (vg_nil)))
theorem i_m_four_X7 : ∀ w ∈ u_ws RX7 TX7 68, w ∈ v_m_four := fun _ h => List.mem_cons_of_mem _ (List.mem_append_right _ (List.mem_append_left _ h))
theorem g_m_four_m_mayClaim_361 : GoodIn v_m_four (wsV RX7 361 RX7 yX7_mayClaim v_m_mayClaim) := goodIn_app (goodIn_of _ (by decide +kernel)) (fun w h => ⟨List.mem_cons_of_mem _ (List.mem_append_right _ (List.mem_append_right _ (List.mem_append_left _ h))), good_of_word (vg_m_mayClaim w h)⟩)
set_option maxHeartbeats 4000000 in
set_option maxRecDepth 100000 in
theorem m_four (l : Launch) (G : va_G) (k : Nat → ClassId) (sz : Nat) (h0 : Nat) (u : Nat → Nat) (p0 : Int32) : Met l yX7_four v_m_four ({ frames := 1, cells := 0, slots := 0, locals := 21 }) (va_Pc [.ref h0, .int p0] (pq G k [(h0, .inr (6, [.int 0, .ref (u 0), .ref (u 1), .ref (u 2), .int 0, .ref (u 3), .ref (u 4), .int 0, .int 0, .int 0, .int 0, .int 0, .long 0, .int 0, .int 0, .int 0, .int 0, .long 0, .int 0, .ref (u 5), .ref (u 6), .int 0, .int 0, .int 0, .long 0, .long 0, .ref (u 7), .ref (u 8), .ref (u 9), .ref (u 10), .ref (u 11), .ref (u 12), .ref (u 13), .ref (u 14), .ref (u 15), .ref (u 16), .ref (u 17), .ref (u 18), .ref (u 19), .ref (u 20), .int 0, .int 0, .int 0, .int 0, .int 0, .int 0, .int 0, .int 0, .int 0, .int (-1), .int (-1), .int (-1), .int 0, .int 0, .int 0, .int 0, .int 0, .int 0, .int 0, .int 0, .ref (u 21), .ref (u 22), .ref (u 23), .ref (u 24), .ref (u 25), .ref (u 26), .int 0, .long 0]))] sz)) (va_Qi (fun r (_ : Unit) => r = 0) (fun (_ : Unit) _ => True) (va_A [(h0, .inr (6, [.int 0, .ref (u 0), .ref (u 1), .ref (u 2), .int 0, .ref (u 3), .ref (u 4), .int 0, .int 0, .int 0, .int 0, .int 0, .long 0, .int 0, .int 0, .int 0, .int 0, .long 0, .int 0, .ref (u 5), .ref (u 6), .int 0, .int 0, .int 0, .long 0, .long 0, .ref (u 7), .ref (u 8), .ref (u 9), .ref (u 10), .ref (u 11), .ref (u 12), .ref (u 13), .ref (u 14), .ref (u 15), .ref (u 16), .ref (u 17), .ref (u 18), .ref (u 19), .ref (u 20), .int 0, .int 0, .int 0, .int 0, .int 0, .int 0, .int 0, .int 0, .int 0, .int (-1), .int (-1), .int (-1), .int 0, .int 0, .int 0, .int 0, .int 0, .int 0, .int 0, .int 0, .ref (u 21), .ref (u 22), .ref (u 23), .ref (u 24), .ref (u 25), .ref (u 26), .int 0, .long 0]))] sz)) 0 0 (va_A [(h0, .inr (6, [.int 0, .ref (u 0), .ref (u 1), .ref (u 2), .int 0, .ref (u 3), .ref (u 4), .int 0, .int 0, .int 0, .int 0, .int 0, .long 0, .int 0, .int 0, .int 0, .int 0, .long 0, .int 0, .ref (u 5), .ref (u 6), .int 0, .int 0, .int 0, .long 0, .long 0, .ref (u 7), .ref (u 8), .ref (u 9), .ref (u 10), .ref (u 11), .ref (u 12), .ref (u 13), .ref (u 14), .ref (u 15), .ref (u 16), .ref (u 17), .ref (u 18), .ref (u 19), .ref (u 20), .int 0, .int 0, .int 0, .int 0, .int 0, .int 0, .int 0, .int 0, .int 0, .int (-1), .int (-1), .int (-1), .int 0, .int 0, .int 0, .int 0, .int 0, .int 0, .int 0, .int 0, .ref (u 21), .ref (u 22), .ref (u 23), .ref (u 24), .ref (u 25), .ref (u 26), .int 0, .long 0]))] sz) := by
  refine Met.ofW (cc := cX7_four) (maxL := 2) (ret := (some .boolean)) (by decide) rfl ?_
  intro p e s m args below meth c s₁ B hml hv
  obtain ⟨rfl, hsz, ⟨hP, hK, hN⟩, hD0⟩ := hv
  have hx := B.exec
  have hb := B.bytes
  have hr := B.returns
  have hts := atoms_spec (ws := v_m_four) B.pre
  have hown : s.vm.findClass RX7 = some m.cls := findClass_of_methodNamed B.named
  have hlocks := B.notSynchronized
  subst hsz
  have hD := hD0.self (sz := s.heap.size)
  generalize hAe : va_A [(h0, .inr (6, [.int 0, .ref (u 0), .ref (u 1), .ref (u 2), .int 0, .ref (u 3), .ref (u 4), .int 0, .int 0, .int 0, .int 0, .int 0, .long 0, .int 0, .int 0, .int 0, .int 0, .long 0, .int 0, .ref (u 5), .ref (u 6), .int 0, .int 0, .int 0, .long 0, .long 0, .ref (u 7), .ref (u 8), .ref (u 9), .ref (u 10), .ref (u 11), .ref (u 12), .ref (u 13), .ref (u 14), .ref (u 15), .ref (u 16), .ref (u 17), .ref (u 18), .ref (u 19), .ref (u 20), .int 0, .int 0, .int 0, .int 0, .int 0, .int 0, .int 0, .int 0, .int 0, .int (-1), .int (-1), .int (-1), .int 0, .int 0, .int 0, .int 0, .int 0, .int 0, .int 0, .int 0, .ref (u 21), .ref (u 22), .ref (u 23), .ref (u 24), .ref (u 25), .ref (u 26), .int 0, .long 0]))] s.heap.size = A at hD ⊢
  have hA : ∀ q : Nat, s.heap.size ≤ q → A q := fun q h => by rw [← hAe]; exact Or.inr h
  have hS : va_S A s.heap s.heap [] := va_S.rf
  have hP : va_P G vwCl [(h0, .inr (6, [.int 0, .ref (u 0), .ref (u 1), .ref (u 2), .int 0, .ref (u 3), .ref (u 4), .int 0, .int 0, .int 0, .int 0, .int 0, .long 0, .int 0, .int 0, .int 0, .int 0, .long 0, .int 0, .ref (u 5), .ref (u 6), .int 0, .int 0, .int 0, .long 0, .long 0, .ref (u 7), .ref (u 8), .ref (u 9), .ref (u 10), .ref (u 11), .ref (u 12), .ref (u 13), .ref (u 14), .ref (u 15), .ref (u 16), .ref (u 17), .ref (u 18), .ref (u 19), .ref (u 20), .int 0, .int 0, .int 0, .int 0, .int 0, .int 0, .int 0, .int 0, .int 0, .int (-1), .int (-1), .int (-1), .int 0, .int 0, .int 0, .int 0, .int 0, .int 0, .int 0, .int 0, .ref (u 21), .ref (u 22), .ref (u 23), .ref (u 24), .ref (u 25), .ref (u 26), .int 0, .long 0]))] s.heap := hP
  have hl := lv_entry ([.ref h0, .int p0]) (n := 2) (Nat.le_of_ble_eq_true rfl)
  rw [lg_entry_eq]
  generalize (lg_sl ([.ref h0, .int p0]) ++ List.replicate (2 - (lg_sl ([.ref h0, .int p0])).length) Slot.unset).toArray = ls at hl ⊢
  have hl : lv_has ls 2 [(0, .ref h0), (1, .int p0)] := hl
  refine lv_aload_n hx hb dX7_four_0 rfl (lv_at hl 0 rfl) ?_
  refine lv_iconst (v := 0) hx hb dX7_four_1 (by decide) ?_
  refine va_put (D := G) (ci := 6) (v := .int 0) (ty := .int) (C := RX7) (T := TX7) (N := 68) hx hb hts i_m_four_X7 tyX7 tyX7_ok nmX7 hown hK hP hD hS 0 rfl rfl 0 (by decide) (hts (.fieldLink RX7 103 "TileHouseModel" "thrown" "I") (by decide +kernel)) (fun _ h9 => h9) rfl (by decide +kernel) rfl rfl (Nat.le_of_ble_eq_true rfl) dX7_four_2 (fun H locs hP hD hS => ?_)
  replace hP : va_P G vwCl [(h0, .inr (6, [.int 0, .ref (u 0), .ref (u 1), .ref (u 2), .int 0, .ref (u 3), .ref (u 4), .int 0, .int 0, .int 0, .int 0, .int 0, .long 0, .int 0, .int 0, .int 0, .int 0, .long 0, .int 0, .ref (u 5), .ref (u 6), .int 0, .int 0, .int 0, .long 0, .long 0, .ref (u 7), .ref (u 8), .ref (u 9), .ref (u 10), .ref (u 11), .ref (u 12), .ref (u 13), .ref (u 14), .ref (u 15), .ref (u 16), .ref (u 17), .ref (u 18), .ref (u 19), .ref (u 20), .int 0, .int 0, .int 0, .int 0, .int 0, .int 0, .int 0, .int 0, .int 0, .int (-1), .int (-1), .int (-1), .int 0, .int 0, .int 0, .int 0, .int 0, .int 0, .int 0, .int 0, .ref (u 21), .ref (u 22), .ref (u 23), .ref (u 24), .ref (u 25), .ref (u 26), .int 0, .long 0]))] H := hP
  replace hD : va_D A [(h0, .inr (6, [.int 0, .ref (u 0), .ref (u 1), .ref (u 2), .int 0, .ref (u 3), .ref (u 4), .int 0, .int 0, .int 0, .int 0, .int 0, .long 0, .int 0, .int 0, .int 0, .int 0, .long 0, .int 0, .ref (u 5), .ref (u 6), .int 0, .int 0, .int 0, .long 0, .long 0, .ref (u 7), .ref (u 8), .ref (u 9), .ref (u 10), .ref (u 11), .ref (u 12), .ref (u 13), .ref (u 14), .ref (u 15), .ref (u 16), .ref (u 17), .ref (u 18), .ref (u 19), .ref (u 20), .int 0, .int 0, .int 0, .int 0, .int 0, .int 0, .int 0, .int 0, .int 0, .int (-1), .int (-1), .int (-1), .int 0, .int 0, .int 0, .int 0, .int 0, .int 0, .int 0, .int 0, .ref (u 21), .ref (u 22), .ref (u 23), .ref (u 24), .ref (u 25), .ref (u 26), .int 0, .long 0]))] := hD
  refine lv_aload_n hx hb dX7_four_5 rfl (lv_at hl 0 rfl) ?_
  refine lv_iload_n hx hb dX7_four_6 rfl (lv_at hl 1 rfl) ?_
  have hPc := hP.sub (ws' := [(h0, .inr (6, [.int 0, .ref (u 0), .ref (u 1), .ref (u 2), .int 0, .ref (u 3), .ref (u 4), .int 0, .int 0, .int 0, .int 0, .int 0, .long 0, .int 0, .int 0, .int 0, .int 0, .long 0, .int 0, .ref (u 5), .ref (u 6), .int 0, .int 0, .int 0, .long 0, .long 0, .ref (u 7), .ref (u 8), .ref (u 9), .ref (u 10), .ref (u 11), .ref (u 12), .ref (u 13), .ref (u 14), .ref (u 15), .ref (u 16), .ref (u 17), .ref (u 18), .ref (u 19), .ref (u 20), .int 0, .int 0, .int 0, .int 0, .int 0, .int 0, .int 0, .int 0, .int 0, .int (-1), .int (-1), .int (-1), .int 0, .int 0, .int 0, .int 0, .int 0, .int 0, .int 0, .int 0, .ref (u 21), .ref (u 22), .ref (u 23), .ref (u 24), .ref (u 25), .ref (u 26), .int 0, .long 0]))]) [0] rfl
  refine q_calli (va_runV (As := [.int p0]) (rest := []) ⟨hx, hb, hml, hown, hts⟩ (m_mayClaim l G k h0 u p0) (cwV 1 hts g_m_four_m_mayClaim_361 rfl rfl rfl (by decide +kernel) ⟨Nat.le_of_ble_eq_true rfl, Nat.le_of_ble_eq_true rfl⟩) ⟨pr_bl, va_recv hK hPc (ci := 6) (q0 := 0) rfl rfl, pr_pre hPc hK hN⟩ rfl rfl hl.1 rfl (lv_room (Nat.le_of_ble_eq_true rfl)) dX7_four_7 ⟨Nat.le_of_ble_eq_true rfl, Nat.le_of_ble_eq_true rfl⟩) (fun r1 hr1 => ?_)
  obtain rfl : r1 = 0 := hr1
  refine lv_if_eq (tgt := 34) hx hb dX7_four_10 (by decide) (fun _ => ?_) (fun c9 => absurd (by decide) c9)
  refine lv_iconst (v := 0) hx hb dX7_four_34 (by decide) ?_
  refine W.widen (k := 0) (n := 0) (Nat.le_of_ble_eq_true rfl) (Nat.le_of_ble_eq_true rfl) ?_
  exact W.zret (v := 0) hx hb hr rfl (fun t ht hW => ⟨⟨0, (), rfl, rfl, trivial⟩, hS.F ht⟩) hS.2.2 dX7_four_35
def v_m_hide : List Cond := .code yX7_hide cX7_hide 2 (some .boolean) :: ([.fieldLink RX7 103 "TileHouseModel" "thrown" "I", .methodLink RX7 370 yX7_mayMake, .instanceMethod yX7_mayMake, .selects RX7 yX7_mayMake yX7_mayMake, .initialized RX7] ++ (wsX70 ++ (v_m_mayMake ++ ([]))))
theorem vg_m_hide : ∀ w ∈ v_m_hide, goodWord w = true := vg_c (c := .code yX7_hide cX7_hide 2 (some .boolean)) (l := [.fieldLink RX7 103 "TileHouseModel" "thrown" "I", .methodLink RX7 370 yX7_mayMake, .instanceMethod yX7_mayMake, .selects RX7 yX7_mayMake yX7_mayMake, .initialized RX7]) (by decide +kernel) (vg_a vgX7 (vg_a vg_m_mayMake (vg_nil)))
theorem i_m_hide_X7 : ∀ w ∈ u_ws RX7 TX7 68, w ∈ v_m_hide := fun _ h => List.mem_cons_of_mem _ (List.mem_append_right _ (List.mem_append_left _ h))
theorem g_m_hide_m_mayMake_370 : GoodIn v_m_hide (wsV RX7 370 RX7 yX7_mayMake v_m_mayMake) := goodIn_app (goodIn_of _ (by decide +kernel)) (fun w h => ⟨List.mem_cons_of_mem _ (List.mem_append_right _ (List.mem_append_right _ (List.mem_append_left _ h))), good_of_word (vg_m_mayMake w h)⟩)
set_option maxHeartbeats 4000000 in
set_option maxRecDepth 100000 in
theorem m_hide (l : Launch) (G : va_G) (k : Nat → ClassId) (sz : Nat) (h0 : Nat) (u : Nat → Nat) (p0 : Int32) : Met l yX7_hide v_m_hide ({ frames := 1, cells := 0, slots := 0, locals := 20 }) (va_Pc [.ref h0, .int p0] (pq G k [(h0, .inr (6, [.int 0, .ref (u 0), .ref (u 1), .ref (u 2), .int 0, .ref (u 3), .ref (u 4), .int 0, .int 0, .int 0, .int 0, .int 0, .long 0, .int 0, .int 0, .int 0, .int 0, .long 0, .int 0, .ref (u 5), .ref (u 6), .int 0, .int 0, .int 0, .long 0, .long 0, .ref (u 7), .ref (u 8), .ref (u 9), .ref (u 10), .ref (u 11), .ref (u 12), .ref (u 13), .ref (u 14), .ref (u 15), .ref (u 16), .ref (u 17), .ref (u 18), .ref (u 19), .ref (u 20), .int 0, .int 0, .int 0, .int 0, .int 0, .int 0, .int 0, .int 0, .int 0, .int (-1), .int (-1), .int (-1), .int 0, .int 0, .int 0, .int 0, .int 0, .int 0, .int 0, .int 0, .ref (u 21), .ref (u 22), .ref (u 23), .ref (u 24), .ref (u 25), .ref (u 26), .int 0, .long 0]))] sz)) (va_Qi (fun r (_ : Unit) => r = 0) (fun (_ : Unit) _ => True) (va_A [(h0, .inr (6, [.int 0, .ref (u 0), .ref (u 1), .ref (u 2), .int 0, .ref (u 3), .ref (u 4), .int 0, .int 0, .int 0, .int 0, .int 0, .long 0, .int 0, .int 0, .int 0, .int 0, .long 0, .int 0, .ref (u 5), .ref (u 6), .int 0, .int 0, .int 0, .long 0, .long 0, .ref (u 7), .ref (u 8), .ref (u 9), .ref (u 10), .ref (u 11), .ref (u 12), .ref (u 13), .ref (u 14), .ref (u 15), .ref (u 16), .ref (u 17), .ref (u 18), .ref (u 19), .ref (u 20), .int 0, .int 0, .int 0, .int 0, .int 0, .int 0, .int 0, .int 0, .int 0, .int (-1), .int (-1), .int (-1), .int 0, .int 0, .int 0, .int 0, .int 0, .int 0, .int 0, .int 0, .ref (u 21), .ref (u 22), .ref (u 23), .ref (u 24), .ref (u 25), .ref (u 26), .int 0, .long 0]))] sz)) 0 0 (va_A [(h0, .inr (6, [.int 0, .ref (u 0), .ref (u 1), .ref (u 2), .int 0, .ref (u 3), .ref (u 4), .int 0, .int 0, .int 0, .int 0, .int 0, .long 0, .int 0, .int 0, .int 0, .int 0, .long 0, .int 0, .ref (u 5), .ref (u 6), .int 0, .int 0, .int 0, .long 0, .long 0, .ref (u 7), .ref (u 8), .ref (u 9), .ref (u 10), .ref (u 11), .ref (u 12), .ref (u 13), .ref (u 14), .ref (u 15), .ref (u 16), .ref (u 17), .ref (u 18), .ref (u 19), .ref (u 20), .int 0, .int 0, .int 0, .int 0, .int 0, .int 0, .int 0, .int 0, .int 0, .int (-1), .int (-1), .int (-1), .int 0, .int 0, .int 0, .int 0, .int 0, .int 0, .int 0, .int 0, .ref (u 21), .ref (u 22), .ref (u 23), .ref (u 24), .ref (u 25), .ref (u 26), .int 0, .long 0]))] sz) := by
  refine Met.ofW (cc := cX7_hide) (maxL := 2) (ret := (some .boolean)) (by decide) rfl ?_
  intro p e s m args below meth c s₁ B hml hv
  obtain ⟨rfl, hsz, ⟨hP, hK, hN⟩, hD0⟩ := hv
  have hx := B.exec
  have hb := B.bytes
  have hr := B.returns
  have hts := atoms_spec (ws := v_m_hide) B.pre
  have hown : s.vm.findClass RX7 = some m.cls := findClass_of_methodNamed B.named
  have hlocks := B.notSynchronized
  subst hsz
  have hD := hD0.self (sz := s.heap.size)
  generalize hAe : va_A [(h0, .inr (6, [.int 0, .ref (u 0), .ref (u 1), .ref (u 2), .int 0, .ref (u 3), .ref (u 4), .int 0, .int 0, .int 0, .int 0, .int 0, .long 0, .int 0, .int 0, .int 0, .int 0, .long 0, .int 0, .ref (u 5), .ref (u 6), .int 0, .int 0, .int 0, .long 0, .long 0, .ref (u 7), .ref (u 8), .ref (u 9), .ref (u 10), .ref (u 11), .ref (u 12), .ref (u 13), .ref (u 14), .ref (u 15), .ref (u 16), .ref (u 17), .ref (u 18), .ref (u 19), .ref (u 20), .int 0, .int 0, .int 0, .int 0, .int 0, .int 0, .int 0, .int 0, .int 0, .int (-1), .int (-1), .int (-1), .int 0, .int 0, .int 0, .int 0, .int 0, .int 0, .int 0, .int 0, .ref (u 21), .ref (u 22), .ref (u 23), .ref (u 24), .ref (u 25), .ref (u 26), .int 0, .long 0]))] s.heap.size = A at hD ⊢
  have hA : ∀ q : Nat, s.heap.size ≤ q → A q := fun q h => by rw [← hAe]; exact Or.inr h
  have hS : va_S A s.heap s.heap [] := va_S.rf
  have hP : va_P G vwCl [(h0, .inr (6, [.int 0, .ref (u 0), .ref (u 1), .ref (u 2), .int 0, .ref (u 3), .ref (u 4), .int 0, .int 0, .int 0, .int 0, .int 0, .long 0, .int 0, .int 0, .int 0, .int 0, .long 0, .int 0, .ref (u 5), .ref (u 6), .int 0, .int 0, .int 0, .long 0, .long 0, .ref (u 7), .ref (u 8), .ref (u 9), .ref (u 10), .ref (u 11), .ref (u 12), .ref (u 13), .ref (u 14), .ref (u 15), .ref (u 16), .ref (u 17), .ref (u 18), .ref (u 19), .ref (u 20), .int 0, .int 0, .int 0, .int 0, .int 0, .int 0, .int 0, .int 0, .int 0, .int (-1), .int (-1), .int (-1), .int 0, .int 0, .int 0, .int 0, .int 0, .int 0, .int 0, .int 0, .ref (u 21), .ref (u 22), .ref (u 23), .ref (u 24), .ref (u 25), .ref (u 26), .int 0, .long 0]))] s.heap := hP
  have hl := lv_entry ([.ref h0, .int p0]) (n := 2) (Nat.le_of_ble_eq_true rfl)
  rw [lg_entry_eq]
  generalize (lg_sl ([.ref h0, .int p0]) ++ List.replicate (2 - (lg_sl ([.ref h0, .int p0])).length) Slot.unset).toArray = ls at hl ⊢
  have hl : lv_has ls 2 [(0, .ref h0), (1, .int p0)] := hl
  refine lv_aload_n hx hb dX7_hide_0 rfl (lv_at hl 0 rfl) ?_
  refine lv_iconst (v := 0) hx hb dX7_hide_1 (by decide) ?_
  refine va_put (D := G) (ci := 6) (v := .int 0) (ty := .int) (C := RX7) (T := TX7) (N := 68) hx hb hts i_m_hide_X7 tyX7 tyX7_ok nmX7 hown hK hP hD hS 0 rfl rfl 0 (by decide) (hts (.fieldLink RX7 103 "TileHouseModel" "thrown" "I") (by decide +kernel)) (fun _ h9 => h9) rfl (by decide +kernel) rfl rfl (Nat.le_of_ble_eq_true rfl) dX7_hide_2 (fun H locs hP hD hS => ?_)
  replace hP : va_P G vwCl [(h0, .inr (6, [.int 0, .ref (u 0), .ref (u 1), .ref (u 2), .int 0, .ref (u 3), .ref (u 4), .int 0, .int 0, .int 0, .int 0, .int 0, .long 0, .int 0, .int 0, .int 0, .int 0, .long 0, .int 0, .ref (u 5), .ref (u 6), .int 0, .int 0, .int 0, .long 0, .long 0, .ref (u 7), .ref (u 8), .ref (u 9), .ref (u 10), .ref (u 11), .ref (u 12), .ref (u 13), .ref (u 14), .ref (u 15), .ref (u 16), .ref (u 17), .ref (u 18), .ref (u 19), .ref (u 20), .int 0, .int 0, .int 0, .int 0, .int 0, .int 0, .int 0, .int 0, .int 0, .int (-1), .int (-1), .int (-1), .int 0, .int 0, .int 0, .int 0, .int 0, .int 0, .int 0, .int 0, .ref (u 21), .ref (u 22), .ref (u 23), .ref (u 24), .ref (u 25), .ref (u 26), .int 0, .long 0]))] H := hP
  replace hD : va_D A [(h0, .inr (6, [.int 0, .ref (u 0), .ref (u 1), .ref (u 2), .int 0, .ref (u 3), .ref (u 4), .int 0, .int 0, .int 0, .int 0, .int 0, .long 0, .int 0, .int 0, .int 0, .int 0, .long 0, .int 0, .ref (u 5), .ref (u 6), .int 0, .int 0, .int 0, .long 0, .long 0, .ref (u 7), .ref (u 8), .ref (u 9), .ref (u 10), .ref (u 11), .ref (u 12), .ref (u 13), .ref (u 14), .ref (u 15), .ref (u 16), .ref (u 17), .ref (u 18), .ref (u 19), .ref (u 20), .int 0, .int 0, .int 0, .int 0, .int 0, .int 0, .int 0, .int 0, .int 0, .int (-1), .int (-1), .int (-1), .int 0, .int 0, .int 0, .int 0, .int 0, .int 0, .int 0, .int 0, .ref (u 21), .ref (u 22), .ref (u 23), .ref (u 24), .ref (u 25), .ref (u 26), .int 0, .long 0]))] := hD
  refine lv_aload_n hx hb dX7_hide_5 rfl (lv_at hl 0 rfl) ?_
  have hPc := hP.sub (ws' := [(h0, .inr (6, [.int 0, .ref (u 0), .ref (u 1), .ref (u 2), .int 0, .ref (u 3), .ref (u 4), .int 0, .int 0, .int 0, .int 0, .int 0, .long 0, .int 0, .int 0, .int 0, .int 0, .long 0, .int 0, .ref (u 5), .ref (u 6), .int 0, .int 0, .int 0, .long 0, .long 0, .ref (u 7), .ref (u 8), .ref (u 9), .ref (u 10), .ref (u 11), .ref (u 12), .ref (u 13), .ref (u 14), .ref (u 15), .ref (u 16), .ref (u 17), .ref (u 18), .ref (u 19), .ref (u 20), .int 0, .int 0, .int 0, .int 0, .int 0, .int 0, .int 0, .int 0, .int 0, .int (-1), .int (-1), .int (-1), .int 0, .int 0, .int 0, .int 0, .int 0, .int 0, .int 0, .int 0, .ref (u 21), .ref (u 22), .ref (u 23), .ref (u 24), .ref (u 25), .ref (u 26), .int 0, .long 0]))]) [0] rfl
  refine q_calli (va_runV (As := []) (rest := []) ⟨hx, hb, hml, hown, hts⟩ (m_mayMake l G k h0 u) (cwV 0 hts g_m_hide_m_mayMake_370 rfl rfl rfl (by decide +kernel) ⟨Nat.le_of_ble_eq_true rfl, Nat.le_of_ble_eq_true rfl⟩) ⟨pr_bl, va_recv hK hPc (ci := 6) (q0 := 0) rfl rfl, pr_pre hPc hK hN⟩ rfl rfl hl.1 rfl (lv_room (Nat.le_of_ble_eq_true rfl)) dX7_hide_6 ⟨Nat.le_of_ble_eq_true rfl, Nat.le_of_ble_eq_true rfl⟩) (fun r1 hr1 => ?_)
  obtain rfl : r1 = 0 := hr1
  refine lv_if_eq (tgt := 32) hx hb dX7_hide_9 (by decide) (fun _ => ?_) (fun c9 => absurd (by decide) c9)
  refine lv_iconst (v := 0) hx hb dX7_hide_32 (by decide) ?_
  refine W.widen (k := 0) (n := 0) (Nat.le_of_ble_eq_true rfl) (Nat.le_of_ble_eq_true rfl) ?_
  exact W.zret (v := 0) hx hb hr rfl (fun t ht hW => ⟨⟨0, (), rfl, rfl, trivial⟩, hS.F ht⟩) hS.2.2 dX7_hide_33
def v_m_add : List Cond := .code yX7_add cX7_add 3 (some .boolean) :: ([.fieldLink RX7 103 "TileHouseModel" "thrown" "I", .methodLink RX7 370 yX7_mayMake, .instanceMethod yX7_mayMake, .selects RX7 yX7_mayMake yX7_mayMake, .initialized RX7] ++ (wsX70 ++ (v_m_mayMake ++ ([]))))
theorem vg_m_add : ∀ w ∈ v_m_add, goodWord w = true := vg_c (c := .code yX7_add cX7_add 3 (some .boolean)) (l := [.fieldLink RX7 103 "TileHouseModel" "thrown" "I", .methodLink RX7 370 yX7_mayMake, .instanceMethod yX7_mayMake, .selects RX7 yX7_mayMake yX7_mayMake, .initialized RX7]) (by decide +kernel) (vg_a vgX7 (vg_a vg_m_mayMake (vg_nil)))
theorem i_m_add_X7 : ∀ w ∈ u_ws RX7 TX7 68, w ∈ v_m_add := fun _ h => List.mem_cons_of_mem _ (List.mem_append_right _ (List.mem_append_left _ h))
theorem g_m_add_m_mayMake_370 : GoodIn v_m_add (wsV RX7 370 RX7 yX7_mayMake v_m_mayMake) := goodIn_app (goodIn_of _ (by decide +kernel)) (fun w h => ⟨List.mem_cons_of_mem _ (List.mem_append_right _ (List.mem_append_right _ (List.mem_append_left _ h))), good_of_word (vg_m_mayMake w h)⟩)
set_option maxHeartbeats 4000000 in
set_option maxRecDepth 100000 in
theorem m_add (l : Launch) (G : va_G) (k : Nat → ClassId) (sz : Nat) (h0 : Nat) (u : Nat → Nat) (p0 : Int32) : Met l yX7_add v_m_add ({ frames := 1, cells := 0, slots := 0, locals := 20 }) (va_Pc [.ref h0, .int p0] (pq G k [(h0, .inr (6, [.int 0, .ref (u 0), .ref (u 1), .ref (u 2), .int 0, .ref (u 3), .ref (u 4), .int 0, .int 0, .int 0, .int 0, .int 0, .long 0, .int 0, .int 0, .int 0, .int 0, .long 0, .int 0, .ref (u 5), .ref (u 6), .int 0, .int 0, .int 0, .long 0, .long 0, .ref (u 7), .ref (u 8), .ref (u 9), .ref (u 10), .ref (u 11), .ref (u 12), .ref (u 13), .ref (u 14), .ref (u 15), .ref (u 16), .ref (u 17), .ref (u 18), .ref (u 19), .ref (u 20), .int 0, .int 0, .int 0, .int 0, .int 0, .int 0, .int 0, .int 0, .int 0, .int (-1), .int (-1), .int (-1), .int 0, .int 0, .int 0, .int 0, .int 0, .int 0, .int 0, .int 0, .ref (u 21), .ref (u 22), .ref (u 23), .ref (u 24), .ref (u 25), .ref (u 26), .int 0, .long 0]))] sz)) (va_Qi (fun r (_ : Unit) => r = 0) (fun (_ : Unit) _ => True) (va_A [(h0, .inr (6, [.int 0, .ref (u 0), .ref (u 1), .ref (u 2), .int 0, .ref (u 3), .ref (u 4), .int 0, .int 0, .int 0, .int 0, .int 0, .long 0, .int 0, .int 0, .int 0, .int 0, .long 0, .int 0, .ref (u 5), .ref (u 6), .int 0, .int 0, .int 0, .long 0, .long 0, .ref (u 7), .ref (u 8), .ref (u 9), .ref (u 10), .ref (u 11), .ref (u 12), .ref (u 13), .ref (u 14), .ref (u 15), .ref (u 16), .ref (u 17), .ref (u 18), .ref (u 19), .ref (u 20), .int 0, .int 0, .int 0, .int 0, .int 0, .int 0, .int 0, .int 0, .int 0, .int (-1), .int (-1), .int (-1), .int 0, .int 0, .int 0, .int 0, .int 0, .int 0, .int 0, .int 0, .ref (u 21), .ref (u 22), .ref (u 23), .ref (u 24), .ref (u 25), .ref (u 26), .int 0, .long 0]))] sz)) 0 0 (va_A [(h0, .inr (6, [.int 0, .ref (u 0), .ref (u 1), .ref (u 2), .int 0, .ref (u 3), .ref (u 4), .int 0, .int 0, .int 0, .int 0, .int 0, .long 0, .int 0, .int 0, .int 0, .int 0, .long 0, .int 0, .ref (u 5), .ref (u 6), .int 0, .int 0, .int 0, .long 0, .long 0, .ref (u 7), .ref (u 8), .ref (u 9), .ref (u 10), .ref (u 11), .ref (u 12), .ref (u 13), .ref (u 14), .ref (u 15), .ref (u 16), .ref (u 17), .ref (u 18), .ref (u 19), .ref (u 20), .int 0, .int 0, .int 0, .int 0, .int 0, .int 0, .int 0, .int 0, .int 0, .int (-1), .int (-1), .int (-1), .int 0, .int 0, .int 0, .int 0, .int 0, .int 0, .int 0, .int 0, .ref (u 21), .ref (u 22), .ref (u 23), .ref (u 24), .ref (u 25), .ref (u 26), .int 0, .long 0]))] sz) := by
  refine Met.ofW (cc := cX7_add) (maxL := 3) (ret := (some .boolean)) (by decide) rfl ?_
  intro p e s m args below meth c s₁ B hml hv
  obtain ⟨rfl, hsz, ⟨hP, hK, hN⟩, hD0⟩ := hv
  have hx := B.exec
  have hb := B.bytes
  have hr := B.returns
  have hts := atoms_spec (ws := v_m_add) B.pre
  have hown : s.vm.findClass RX7 = some m.cls := findClass_of_methodNamed B.named
  have hlocks := B.notSynchronized
  subst hsz
  have hD := hD0.self (sz := s.heap.size)
  generalize hAe : va_A [(h0, .inr (6, [.int 0, .ref (u 0), .ref (u 1), .ref (u 2), .int 0, .ref (u 3), .ref (u 4), .int 0, .int 0, .int 0, .int 0, .int 0, .long 0, .int 0, .int 0, .int 0, .int 0, .long 0, .int 0, .ref (u 5), .ref (u 6), .int 0, .int 0, .int 0, .long 0, .long 0, .ref (u 7), .ref (u 8), .ref (u 9), .ref (u 10), .ref (u 11), .ref (u 12), .ref (u 13), .ref (u 14), .ref (u 15), .ref (u 16), .ref (u 17), .ref (u 18), .ref (u 19), .ref (u 20), .int 0, .int 0, .int 0, .int 0, .int 0, .int 0, .int 0, .int 0, .int 0, .int (-1), .int (-1), .int (-1), .int 0, .int 0, .int 0, .int 0, .int 0, .int 0, .int 0, .int 0, .ref (u 21), .ref (u 22), .ref (u 23), .ref (u 24), .ref (u 25), .ref (u 26), .int 0, .long 0]))] s.heap.size = A at hD ⊢
  have hA : ∀ q : Nat, s.heap.size ≤ q → A q := fun q h => by rw [← hAe]; exact Or.inr h
  have hS : va_S A s.heap s.heap [] := va_S.rf
  have hP : va_P G vwCl [(h0, .inr (6, [.int 0, .ref (u 0), .ref (u 1), .ref (u 2), .int 0, .ref (u 3), .ref (u 4), .int 0, .int 0, .int 0, .int 0, .int 0, .long 0, .int 0, .int 0, .int 0, .int 0, .long 0, .int 0, .ref (u 5), .ref (u 6), .int 0, .int 0, .int 0, .long 0, .long 0, .ref (u 7), .ref (u 8), .ref (u 9), .ref (u 10), .ref (u 11), .ref (u 12), .ref (u 13), .ref (u 14), .ref (u 15), .ref (u 16), .ref (u 17), .ref (u 18), .ref (u 19), .ref (u 20), .int 0, .int 0, .int 0, .int 0, .int 0, .int 0, .int 0, .int 0, .int 0, .int (-1), .int (-1), .int (-1), .int 0, .int 0, .int 0, .int 0, .int 0, .int 0, .int 0, .int 0, .ref (u 21), .ref (u 22), .ref (u 23), .ref (u 24), .ref (u 25), .ref (u 26), .int 0, .long 0]))] s.heap := hP
  have hl := lv_entry ([.ref h0, .int p0]) (n := 3) (Nat.le_of_ble_eq_true rfl)
  rw [lg_entry_eq]
  generalize (lg_sl ([.ref h0, .int p0]) ++ List.replicate (3 - (lg_sl ([.ref h0, .int p0])).length) Slot.unset).toArray = ls at hl ⊢
  have hl : lv_has ls 3 [(0, .ref h0), (1, .int p0)] := hl
  refine lv_aload_n hx hb dX7_add_0 rfl (lv_at hl 0 rfl) ?_
  refine lv_iconst (v := 0) hx hb dX7_add_1 (by decide) ?_
  refine va_put (D := G) (ci := 6) (v := .int 0) (ty := .int) (C := RX7) (T := TX7) (N := 68) hx hb hts i_m_add_X7 tyX7 tyX7_ok nmX7 hown hK hP hD hS 0 rfl rfl 0 (by decide) (hts (.fieldLink RX7 103 "TileHouseModel" "thrown" "I") (by decide +kernel)) (fun _ h9 => h9) rfl (by decide +kernel) rfl rfl (Nat.le_of_ble_eq_true rfl) dX7_add_2 (fun H locs hP hD hS => ?_)
  replace hP : va_P G vwCl [(h0, .inr (6, [.int 0, .ref (u 0), .ref (u 1), .ref (u 2), .int 0, .ref (u 3), .ref (u 4), .int 0, .int 0, .int 0, .int 0, .int 0, .long 0, .int 0, .int 0, .int 0, .int 0, .long 0, .int 0, .ref (u 5), .ref (u 6), .int 0, .int 0, .int 0, .long 0, .long 0, .ref (u 7), .ref (u 8), .ref (u 9), .ref (u 10), .ref (u 11), .ref (u 12), .ref (u 13), .ref (u 14), .ref (u 15), .ref (u 16), .ref (u 17), .ref (u 18), .ref (u 19), .ref (u 20), .int 0, .int 0, .int 0, .int 0, .int 0, .int 0, .int 0, .int 0, .int 0, .int (-1), .int (-1), .int (-1), .int 0, .int 0, .int 0, .int 0, .int 0, .int 0, .int 0, .int 0, .ref (u 21), .ref (u 22), .ref (u 23), .ref (u 24), .ref (u 25), .ref (u 26), .int 0, .long 0]))] H := hP
  replace hD : va_D A [(h0, .inr (6, [.int 0, .ref (u 0), .ref (u 1), .ref (u 2), .int 0, .ref (u 3), .ref (u 4), .int 0, .int 0, .int 0, .int 0, .int 0, .long 0, .int 0, .int 0, .int 0, .int 0, .long 0, .int 0, .ref (u 5), .ref (u 6), .int 0, .int 0, .int 0, .long 0, .long 0, .ref (u 7), .ref (u 8), .ref (u 9), .ref (u 10), .ref (u 11), .ref (u 12), .ref (u 13), .ref (u 14), .ref (u 15), .ref (u 16), .ref (u 17), .ref (u 18), .ref (u 19), .ref (u 20), .int 0, .int 0, .int 0, .int 0, .int 0, .int 0, .int 0, .int 0, .int 0, .int (-1), .int (-1), .int (-1), .int 0, .int 0, .int 0, .int 0, .int 0, .int 0, .int 0, .int 0, .ref (u 21), .ref (u 22), .ref (u 23), .ref (u 24), .ref (u 25), .ref (u 26), .int 0, .long 0]))] := hD
  refine lv_aload_n hx hb dX7_add_5 rfl (lv_at hl 0 rfl) ?_
  have hPc := hP.sub (ws' := [(h0, .inr (6, [.int 0, .ref (u 0), .ref (u 1), .ref (u 2), .int 0, .ref (u 3), .ref (u 4), .int 0, .int 0, .int 0, .int 0, .int 0, .long 0, .int 0, .int 0, .int 0, .int 0, .long 0, .int 0, .ref (u 5), .ref (u 6), .int 0, .int 0, .int 0, .long 0, .long 0, .ref (u 7), .ref (u 8), .ref (u 9), .ref (u 10), .ref (u 11), .ref (u 12), .ref (u 13), .ref (u 14), .ref (u 15), .ref (u 16), .ref (u 17), .ref (u 18), .ref (u 19), .ref (u 20), .int 0, .int 0, .int 0, .int 0, .int 0, .int 0, .int 0, .int 0, .int 0, .int (-1), .int (-1), .int (-1), .int 0, .int 0, .int 0, .int 0, .int 0, .int 0, .int 0, .int 0, .ref (u 21), .ref (u 22), .ref (u 23), .ref (u 24), .ref (u 25), .ref (u 26), .int 0, .long 0]))]) [0] rfl
  refine q_calli (va_runV (As := []) (rest := []) ⟨hx, hb, hml, hown, hts⟩ (m_mayMake l G k h0 u) (cwV 0 hts g_m_add_m_mayMake_370 rfl rfl rfl (by decide +kernel) ⟨Nat.le_of_ble_eq_true rfl, Nat.le_of_ble_eq_true rfl⟩) ⟨pr_bl, va_recv hK hPc (ci := 6) (q0 := 0) rfl rfl, pr_pre hPc hK hN⟩ rfl rfl hl.1 rfl (lv_room (Nat.le_of_ble_eq_true rfl)) dX7_add_6 ⟨Nat.le_of_ble_eq_true rfl, Nat.le_of_ble_eq_true rfl⟩) (fun r1 hr1 => ?_)
  obtain rfl : r1 = 0 := hr1
  refine lv_if_eq (tgt := 31) hx hb dX7_add_9 (by decide) (fun _ => ?_) (fun c9 => absurd (by decide) c9)
  refine lv_iconst (v := 0) hx hb dX7_add_31 (by decide) ?_
  refine W.widen (k := 0) (n := 0) (Nat.le_of_ble_eq_true rfl) (Nat.le_of_ble_eq_true rfl) ?_
  exact W.zret (v := 0) hx hb hr rfl (fun t ht hW => ⟨⟨0, (), rfl, rfl, trivial⟩, hS.F ht⟩) hS.2.2 dX7_add_32
def v_m_win : List Cond := .code yX7_win cX7_win 4 (some .boolean) :: ([.fieldLink RX7 103 "TileHouseModel" "thrown" "I", .fieldLink RX7 277 "TileHouseModel" "phase" "I"] ++ (wsX70 ++ ([])))
theorem vg_m_win : ∀ w ∈ v_m_win, goodWord w = true := vg_c (c := .code yX7_win cX7_win 4 (some .boolean)) (l := [.fieldLink RX7 103 "TileHouseModel" "thrown" "I", .fieldLink RX7 277 "TileHouseModel" "phase" "I"]) (by decide +kernel) (vg_a vgX7 (vg_nil))
theorem i_m_win_X7 : ∀ w ∈ u_ws RX7 TX7 68, w ∈ v_m_win := fun _ h => List.mem_cons_of_mem _ (List.mem_append_right _ (List.mem_append_left _ h))
set_option maxHeartbeats 4000000 in
set_option maxRecDepth 100000 in
theorem m_win (l : Launch) (G : va_G) (k : Nat → ClassId) (sz : Nat) (h0 : Nat) (u : Nat → Nat) : Met l yX7_win v_m_win ({ frames := 0, cells := 0, slots := 0, locals := 0 }) (va_Pc [.ref h0] (pq G k [(h0, .inr (6, [.int 0, .ref (u 0), .ref (u 1), .ref (u 2), .int 0, .ref (u 3), .ref (u 4), .int 0, .int 0, .int 0, .int 0, .int 0, .long 0, .int 0, .int 0, .int 0, .int 0, .long 0, .int 0, .ref (u 5), .ref (u 6), .int 0, .int 0, .int 0, .long 0, .long 0, .ref (u 7), .ref (u 8), .ref (u 9), .ref (u 10), .ref (u 11), .ref (u 12), .ref (u 13), .ref (u 14), .ref (u 15), .ref (u 16), .ref (u 17), .ref (u 18), .ref (u 19), .ref (u 20), .int 0, .int 0, .int 0, .int 0, .int 0, .int 0, .int 0, .int 0, .int 0, .int (-1), .int (-1), .int (-1), .int 0, .int 0, .int 0, .int 0, .int 0, .int 0, .int 0, .int 0, .ref (u 21), .ref (u 22), .ref (u 23), .ref (u 24), .ref (u 25), .ref (u 26), .int 0, .long 0]))] sz)) (va_Qi (fun r (_ : Unit) => r = 0) (fun (_ : Unit) _ => True) (va_A [(h0, .inr (6, [.int 0, .ref (u 0), .ref (u 1), .ref (u 2), .int 0, .ref (u 3), .ref (u 4), .int 0, .int 0, .int 0, .int 0, .int 0, .long 0, .int 0, .int 0, .int 0, .int 0, .long 0, .int 0, .ref (u 5), .ref (u 6), .int 0, .int 0, .int 0, .long 0, .long 0, .ref (u 7), .ref (u 8), .ref (u 9), .ref (u 10), .ref (u 11), .ref (u 12), .ref (u 13), .ref (u 14), .ref (u 15), .ref (u 16), .ref (u 17), .ref (u 18), .ref (u 19), .ref (u 20), .int 0, .int 0, .int 0, .int 0, .int 0, .int 0, .int 0, .int 0, .int 0, .int (-1), .int (-1), .int (-1), .int 0, .int 0, .int 0, .int 0, .int 0, .int 0, .int 0, .int 0, .ref (u 21), .ref (u 22), .ref (u 23), .ref (u 24), .ref (u 25), .ref (u 26), .int 0, .long 0]))] sz)) 0 0 (va_A [(h0, .inr (6, [.int 0, .ref (u 0), .ref (u 1), .ref (u 2), .int 0, .ref (u 3), .ref (u 4), .int 0, .int 0, .int 0, .int 0, .int 0, .long 0, .int 0, .int 0, .int 0, .int 0, .long 0, .int 0, .ref (u 5), .ref (u 6), .int 0, .int 0, .int 0, .long 0, .long 0, .ref (u 7), .ref (u 8), .ref (u 9), .ref (u 10), .ref (u 11), .ref (u 12), .ref (u 13), .ref (u 14), .ref (u 15), .ref (u 16), .ref (u 17), .ref (u 18), .ref (u 19), .ref (u 20), .int 0, .int 0, .int 0, .int 0, .int 0, .int 0, .int 0, .int 0, .int 0, .int (-1), .int (-1), .int (-1), .int 0, .int 0, .int 0, .int 0, .int 0, .int 0, .int 0, .int 0, .ref (u 21), .ref (u 22), .ref (u 23), .ref (u 24), .ref (u 25), .ref (u 26), .int 0, .long 0]))] sz) := by
  refine Met.ofW (cc := cX7_win) (maxL := 4) (ret := (some .boolean)) (by decide) rfl ?_
  intro p e s m args below meth c s₁ B hml hv
  obtain ⟨rfl, hsz, ⟨hP, hK, hN⟩, hD0⟩ := hv
  have hx := B.exec
  have hb := B.bytes
  have hr := B.returns
  have hts := atoms_spec (ws := v_m_win) B.pre
  have hown : s.vm.findClass RX7 = some m.cls := findClass_of_methodNamed B.named
  have hlocks := B.notSynchronized
  subst hsz
  have hD := hD0.self (sz := s.heap.size)
  generalize hAe : va_A [(h0, .inr (6, [.int 0, .ref (u 0), .ref (u 1), .ref (u 2), .int 0, .ref (u 3), .ref (u 4), .int 0, .int 0, .int 0, .int 0, .int 0, .long 0, .int 0, .int 0, .int 0, .int 0, .long 0, .int 0, .ref (u 5), .ref (u 6), .int 0, .int 0, .int 0, .long 0, .long 0, .ref (u 7), .ref (u 8), .ref (u 9), .ref (u 10), .ref (u 11), .ref (u 12), .ref (u 13), .ref (u 14), .ref (u 15), .ref (u 16), .ref (u 17), .ref (u 18), .ref (u 19), .ref (u 20), .int 0, .int 0, .int 0, .int 0, .int 0, .int 0, .int 0, .int 0, .int 0, .int (-1), .int (-1), .int (-1), .int 0, .int 0, .int 0, .int 0, .int 0, .int 0, .int 0, .int 0, .ref (u 21), .ref (u 22), .ref (u 23), .ref (u 24), .ref (u 25), .ref (u 26), .int 0, .long 0]))] s.heap.size = A at hD ⊢
  have hA : ∀ q : Nat, s.heap.size ≤ q → A q := fun q h => by rw [← hAe]; exact Or.inr h
  have hS : va_S A s.heap s.heap [] := va_S.rf
  have hP : va_P G vwCl [(h0, .inr (6, [.int 0, .ref (u 0), .ref (u 1), .ref (u 2), .int 0, .ref (u 3), .ref (u 4), .int 0, .int 0, .int 0, .int 0, .int 0, .long 0, .int 0, .int 0, .int 0, .int 0, .long 0, .int 0, .ref (u 5), .ref (u 6), .int 0, .int 0, .int 0, .long 0, .long 0, .ref (u 7), .ref (u 8), .ref (u 9), .ref (u 10), .ref (u 11), .ref (u 12), .ref (u 13), .ref (u 14), .ref (u 15), .ref (u 16), .ref (u 17), .ref (u 18), .ref (u 19), .ref (u 20), .int 0, .int 0, .int 0, .int 0, .int 0, .int 0, .int 0, .int 0, .int 0, .int (-1), .int (-1), .int (-1), .int 0, .int 0, .int 0, .int 0, .int 0, .int 0, .int 0, .int 0, .ref (u 21), .ref (u 22), .ref (u 23), .ref (u 24), .ref (u 25), .ref (u 26), .int 0, .long 0]))] s.heap := hP
  have hl := lv_entry ([.ref h0]) (n := 4) (Nat.le_of_ble_eq_true rfl)
  rw [lg_entry_eq]
  generalize (lg_sl ([.ref h0]) ++ List.replicate (4 - (lg_sl ([.ref h0])).length) Slot.unset).toArray = ls at hl ⊢
  have hl : lv_has ls 4 [(0, .ref h0)] := hl
  refine lv_aload_n hx hb dX7_win_0 rfl (lv_at hl 0 rfl) ?_
  refine lv_iconst (v := 0) hx hb dX7_win_1 (by decide) ?_
  refine va_put (D := G) (ci := 6) (v := .int 0) (ty := .int) (C := RX7) (T := TX7) (N := 68) hx hb hts i_m_win_X7 tyX7 tyX7_ok nmX7 hown hK hP hD hS 0 rfl rfl 0 (by decide) (hts (.fieldLink RX7 103 "TileHouseModel" "thrown" "I") (by decide +kernel)) (fun _ h9 => h9) rfl (by decide +kernel) rfl rfl (Nat.le_of_ble_eq_true rfl) dX7_win_2 (fun H locs hP hD hS => ?_)
  replace hP : va_P G vwCl [(h0, .inr (6, [.int 0, .ref (u 0), .ref (u 1), .ref (u 2), .int 0, .ref (u 3), .ref (u 4), .int 0, .int 0, .int 0, .int 0, .int 0, .long 0, .int 0, .int 0, .int 0, .int 0, .long 0, .int 0, .ref (u 5), .ref (u 6), .int 0, .int 0, .int 0, .long 0, .long 0, .ref (u 7), .ref (u 8), .ref (u 9), .ref (u 10), .ref (u 11), .ref (u 12), .ref (u 13), .ref (u 14), .ref (u 15), .ref (u 16), .ref (u 17), .ref (u 18), .ref (u 19), .ref (u 20), .int 0, .int 0, .int 0, .int 0, .int 0, .int 0, .int 0, .int 0, .int 0, .int (-1), .int (-1), .int (-1), .int 0, .int 0, .int 0, .int 0, .int 0, .int 0, .int 0, .int 0, .ref (u 21), .ref (u 22), .ref (u 23), .ref (u 24), .ref (u 25), .ref (u 26), .int 0, .long 0]))] H := hP
  replace hD : va_D A [(h0, .inr (6, [.int 0, .ref (u 0), .ref (u 1), .ref (u 2), .int 0, .ref (u 3), .ref (u 4), .int 0, .int 0, .int 0, .int 0, .int 0, .long 0, .int 0, .int 0, .int 0, .int 0, .long 0, .int 0, .ref (u 5), .ref (u 6), .int 0, .int 0, .int 0, .long 0, .long 0, .ref (u 7), .ref (u 8), .ref (u 9), .ref (u 10), .ref (u 11), .ref (u 12), .ref (u 13), .ref (u 14), .ref (u 15), .ref (u 16), .ref (u 17), .ref (u 18), .ref (u 19), .ref (u 20), .int 0, .int 0, .int 0, .int 0, .int 0, .int 0, .int 0, .int 0, .int 0, .int (-1), .int (-1), .int (-1), .int 0, .int 0, .int 0, .int 0, .int 0, .int 0, .int 0, .int 0, .ref (u 21), .ref (u 22), .ref (u 23), .ref (u 24), .ref (u 25), .ref (u 26), .int 0, .long 0]))] := hD
  refine lv_aload_n hx hb dX7_win_5 rfl (lv_at hl 0 rfl) ?_
  refine va_get (D := G) (ci := 6) (v := .int 0) (C := RX7) (T := TX7) (N := 68) hx hb hts i_m_win_X7 hown hK hP 0 rfl rfl 44 (by decide) (hts (.fieldLink RX7 277 "TileHouseModel" "phase" "I") (by decide +kernel)) (fun _ h9 => h9) rfl dX7_win_6 ?_
  refine lv_iconst (v := 1) hx hb dX7_win_9 (by decide) ?_
  refine lv_icmp_ne (tgt := 20) hx hb dX7_win_10 (by decide) (fun _ => ?_) (fun c9 => absurd c9 (by decide))
  refine lv_iconst (v := 0) hx hb dX7_win_20 (by decide) ?_
  refine W.widen (k := 0) (n := 0) (Nat.le_of_ble_eq_true rfl) (Nat.le_of_ble_eq_true rfl) ?_
  exact W.zret (v := 0) hx hb hr rfl (fun t ht hW => ⟨⟨0, (), rfl, rfl, trivial⟩, hS.F ht⟩) hS.2.2 dX7_win_21
def v_m_claim : List Cond := .code yX7_claim cX7_claim 5 (some .boolean) :: ([.fieldLink RX7 103 "TileHouseModel" "thrown" "I", .fieldLink RX7 277 "TileHouseModel" "phase" "I"] ++ (wsX70 ++ ([])))
theorem vg_m_claim : ∀ w ∈ v_m_claim, goodWord w = true := vg_c (c := .code yX7_claim cX7_claim 5 (some .boolean)) (l := [.fieldLink RX7 103 "TileHouseModel" "thrown" "I", .fieldLink RX7 277 "TileHouseModel" "phase" "I"]) (by decide +kernel) (vg_a vgX7 (vg_nil))
theorem i_m_claim_X7 : ∀ w ∈ u_ws RX7 TX7 68, w ∈ v_m_claim := fun _ h => List.mem_cons_of_mem _ (List.mem_append_right _ (List.mem_append_left _ h))
set_option maxHeartbeats 4000000 in
set_option maxRecDepth 100000 in
theorem m_claim (l : Launch) (G : va_G) (k : Nat → ClassId) (sz : Nat) (h0 : Nat) (u : Nat → Nat) (p0 : Int32) : Met l yX7_claim v_m_claim ({ frames := 0, cells := 0, slots := 0, locals := 0 }) (va_Pc [.ref h0, .int p0] (pq G k [(h0, .inr (6, [.int 0, .ref (u 0), .ref (u 1), .ref (u 2), .int 0, .ref (u 3), .ref (u 4), .int 0, .int 0, .int 0, .int 0, .int 0, .long 0, .int 0, .int 0, .int 0, .int 0, .long 0, .int 0, .ref (u 5), .ref (u 6), .int 0, .int 0, .int 0, .long 0, .long 0, .ref (u 7), .ref (u 8), .ref (u 9), .ref (u 10), .ref (u 11), .ref (u 12), .ref (u 13), .ref (u 14), .ref (u 15), .ref (u 16), .ref (u 17), .ref (u 18), .ref (u 19), .ref (u 20), .int 0, .int 0, .int 0, .int 0, .int 0, .int 0, .int 0, .int 0, .int 0, .int (-1), .int (-1), .int (-1), .int 0, .int 0, .int 0, .int 0, .int 0, .int 0, .int 0, .int 0, .ref (u 21), .ref (u 22), .ref (u 23), .ref (u 24), .ref (u 25), .ref (u 26), .int 0, .long 0]))] sz)) (va_Qi (fun r (_ : Unit) => r = 0) (fun (_ : Unit) _ => True) (va_A [(h0, .inr (6, [.int 0, .ref (u 0), .ref (u 1), .ref (u 2), .int 0, .ref (u 3), .ref (u 4), .int 0, .int 0, .int 0, .int 0, .int 0, .long 0, .int 0, .int 0, .int 0, .int 0, .long 0, .int 0, .ref (u 5), .ref (u 6), .int 0, .int 0, .int 0, .long 0, .long 0, .ref (u 7), .ref (u 8), .ref (u 9), .ref (u 10), .ref (u 11), .ref (u 12), .ref (u 13), .ref (u 14), .ref (u 15), .ref (u 16), .ref (u 17), .ref (u 18), .ref (u 19), .ref (u 20), .int 0, .int 0, .int 0, .int 0, .int 0, .int 0, .int 0, .int 0, .int 0, .int (-1), .int (-1), .int (-1), .int 0, .int 0, .int 0, .int 0, .int 0, .int 0, .int 0, .int 0, .ref (u 21), .ref (u 22), .ref (u 23), .ref (u 24), .ref (u 25), .ref (u 26), .int 0, .long 0]))] sz)) 0 0 (va_A [(h0, .inr (6, [.int 0, .ref (u 0), .ref (u 1), .ref (u 2), .int 0, .ref (u 3), .ref (u 4), .int 0, .int 0, .int 0, .int 0, .int 0, .long 0, .int 0, .int 0, .int 0, .int 0, .long 0, .int 0, .ref (u 5), .ref (u 6), .int 0, .int 0, .int 0, .long 0, .long 0, .ref (u 7), .ref (u 8), .ref (u 9), .ref (u 10), .ref (u 11), .ref (u 12), .ref (u 13), .ref (u 14), .ref (u 15), .ref (u 16), .ref (u 17), .ref (u 18), .ref (u 19), .ref (u 20), .int 0, .int 0, .int 0, .int 0, .int 0, .int 0, .int 0, .int 0, .int 0, .int (-1), .int (-1), .int (-1), .int 0, .int 0, .int 0, .int 0, .int 0, .int 0, .int 0, .int 0, .ref (u 21), .ref (u 22), .ref (u 23), .ref (u 24), .ref (u 25), .ref (u 26), .int 0, .long 0]))] sz) := by
  refine Met.ofW (cc := cX7_claim) (maxL := 5) (ret := (some .boolean)) (by decide) rfl ?_
  intro p e s m args below meth c s₁ B hml hv
  obtain ⟨rfl, hsz, ⟨hP, hK, hN⟩, hD0⟩ := hv
  have hx := B.exec
  have hb := B.bytes
  have hr := B.returns
  have hts := atoms_spec (ws := v_m_claim) B.pre
  have hown : s.vm.findClass RX7 = some m.cls := findClass_of_methodNamed B.named
  have hlocks := B.notSynchronized
  subst hsz
  have hD := hD0.self (sz := s.heap.size)
  generalize hAe : va_A [(h0, .inr (6, [.int 0, .ref (u 0), .ref (u 1), .ref (u 2), .int 0, .ref (u 3), .ref (u 4), .int 0, .int 0, .int 0, .int 0, .int 0, .long 0, .int 0, .int 0, .int 0, .int 0, .long 0, .int 0, .ref (u 5), .ref (u 6), .int 0, .int 0, .int 0, .long 0, .long 0, .ref (u 7), .ref (u 8), .ref (u 9), .ref (u 10), .ref (u 11), .ref (u 12), .ref (u 13), .ref (u 14), .ref (u 15), .ref (u 16), .ref (u 17), .ref (u 18), .ref (u 19), .ref (u 20), .int 0, .int 0, .int 0, .int 0, .int 0, .int 0, .int 0, .int 0, .int 0, .int (-1), .int (-1), .int (-1), .int 0, .int 0, .int 0, .int 0, .int 0, .int 0, .int 0, .int 0, .ref (u 21), .ref (u 22), .ref (u 23), .ref (u 24), .ref (u 25), .ref (u 26), .int 0, .long 0]))] s.heap.size = A at hD ⊢
  have hA : ∀ q : Nat, s.heap.size ≤ q → A q := fun q h => by rw [← hAe]; exact Or.inr h
  have hS : va_S A s.heap s.heap [] := va_S.rf
  have hP : va_P G vwCl [(h0, .inr (6, [.int 0, .ref (u 0), .ref (u 1), .ref (u 2), .int 0, .ref (u 3), .ref (u 4), .int 0, .int 0, .int 0, .int 0, .int 0, .long 0, .int 0, .int 0, .int 0, .int 0, .long 0, .int 0, .ref (u 5), .ref (u 6), .int 0, .int 0, .int 0, .long 0, .long 0, .ref (u 7), .ref (u 8), .ref (u 9), .ref (u 10), .ref (u 11), .ref (u 12), .ref (u 13), .ref (u 14), .ref (u 15), .ref (u 16), .ref (u 17), .ref (u 18), .ref (u 19), .ref (u 20), .int 0, .int 0, .int 0, .int 0, .int 0, .int 0, .int 0, .int 0, .int 0, .int (-1), .int (-1), .int (-1), .int 0, .int 0, .int 0, .int 0, .int 0, .int 0, .int 0, .int 0, .ref (u 21), .ref (u 22), .ref (u 23), .ref (u 24), .ref (u 25), .ref (u 26), .int 0, .long 0]))] s.heap := hP
  have hl := lv_entry ([.ref h0, .int p0]) (n := 5) (Nat.le_of_ble_eq_true rfl)
  rw [lg_entry_eq]
  generalize (lg_sl ([.ref h0, .int p0]) ++ List.replicate (5 - (lg_sl ([.ref h0, .int p0])).length) Slot.unset).toArray = ls at hl ⊢
  have hl : lv_has ls 5 [(0, .ref h0), (1, .int p0)] := hl
  refine lv_aload_n hx hb dX7_claim_0 rfl (lv_at hl 0 rfl) ?_
  refine lv_iconst (v := 0) hx hb dX7_claim_1 (by decide) ?_
  refine va_put (D := G) (ci := 6) (v := .int 0) (ty := .int) (C := RX7) (T := TX7) (N := 68) hx hb hts i_m_claim_X7 tyX7 tyX7_ok nmX7 hown hK hP hD hS 0 rfl rfl 0 (by decide) (hts (.fieldLink RX7 103 "TileHouseModel" "thrown" "I") (by decide +kernel)) (fun _ h9 => h9) rfl (by decide +kernel) rfl rfl (Nat.le_of_ble_eq_true rfl) dX7_claim_2 (fun H locs hP hD hS => ?_)
  replace hP : va_P G vwCl [(h0, .inr (6, [.int 0, .ref (u 0), .ref (u 1), .ref (u 2), .int 0, .ref (u 3), .ref (u 4), .int 0, .int 0, .int 0, .int 0, .int 0, .long 0, .int 0, .int 0, .int 0, .int 0, .long 0, .int 0, .ref (u 5), .ref (u 6), .int 0, .int 0, .int 0, .long 0, .long 0, .ref (u 7), .ref (u 8), .ref (u 9), .ref (u 10), .ref (u 11), .ref (u 12), .ref (u 13), .ref (u 14), .ref (u 15), .ref (u 16), .ref (u 17), .ref (u 18), .ref (u 19), .ref (u 20), .int 0, .int 0, .int 0, .int 0, .int 0, .int 0, .int 0, .int 0, .int 0, .int (-1), .int (-1), .int (-1), .int 0, .int 0, .int 0, .int 0, .int 0, .int 0, .int 0, .int 0, .ref (u 21), .ref (u 22), .ref (u 23), .ref (u 24), .ref (u 25), .ref (u 26), .int 0, .long 0]))] H := hP
  replace hD : va_D A [(h0, .inr (6, [.int 0, .ref (u 0), .ref (u 1), .ref (u 2), .int 0, .ref (u 3), .ref (u 4), .int 0, .int 0, .int 0, .int 0, .int 0, .long 0, .int 0, .int 0, .int 0, .int 0, .long 0, .int 0, .ref (u 5), .ref (u 6), .int 0, .int 0, .int 0, .long 0, .long 0, .ref (u 7), .ref (u 8), .ref (u 9), .ref (u 10), .ref (u 11), .ref (u 12), .ref (u 13), .ref (u 14), .ref (u 15), .ref (u 16), .ref (u 17), .ref (u 18), .ref (u 19), .ref (u 20), .int 0, .int 0, .int 0, .int 0, .int 0, .int 0, .int 0, .int 0, .int 0, .int (-1), .int (-1), .int (-1), .int 0, .int 0, .int 0, .int 0, .int 0, .int 0, .int 0, .int 0, .ref (u 21), .ref (u 22), .ref (u 23), .ref (u 24), .ref (u 25), .ref (u 26), .int 0, .long 0]))] := hD
  refine lv_aload_n hx hb dX7_claim_5 rfl (lv_at hl 0 rfl) ?_
  refine va_get (D := G) (ci := 6) (v := .int 0) (C := RX7) (T := TX7) (N := 68) hx hb hts i_m_claim_X7 hown hK hP 0 rfl rfl 44 (by decide) (hts (.fieldLink RX7 277 "TileHouseModel" "phase" "I") (by decide +kernel)) (fun _ h9 => h9) rfl dX7_claim_6 ?_
  refine lv_iconst (v := 2) hx hb dX7_claim_9 (by decide) ?_
  refine lv_icmp_lt (tgt := 46) hx hb dX7_claim_10 (by decide) (fun _ => ?_) (fun c9 => absurd (by decide) c9)
  refine lv_iconst (v := 0) hx hb dX7_claim_46 (by decide) ?_
  refine W.widen (k := 0) (n := 0) (Nat.le_of_ble_eq_true rfl) (Nat.le_of_ble_eq_true rfl) ?_
  exact W.zret (v := 0) hx hb hr rfl (fun t ht hW => ⟨⟨0, (), rfl, rfl, trivial⟩, hS.F ht⟩) hS.2.2 dX7_claim_47
def v_m_nine : List Cond := .code yX7_nine cX7_nine 3 (some .boolean) :: ([.fieldLink RX7 103 "TileHouseModel" "thrown" "I", .fieldLink RX7 277 "TileHouseModel" "phase" "I"] ++ (wsX70 ++ ([])))
theorem vg_m_nine : ∀ w ∈ v_m_nine, goodWord w = true := vg_c (c := .code yX7_nine cX7_nine 3 (some .boolean)) (l := [.fieldLink RX7 103 "TileHouseModel" "thrown" "I", .fieldLink RX7 277 "TileHouseModel" "phase" "I"]) (by decide +kernel) (vg_a vgX7 (vg_nil))
theorem i_m_nine_X7 : ∀ w ∈ u_ws RX7 TX7 68, w ∈ v_m_nine := fun _ h => List.mem_cons_of_mem _ (List.mem_append_right _ (List.mem_append_left _ h))
set_option maxHeartbeats 4000000 in
set_option maxRecDepth 100000 in
theorem m_nine (l : Launch) (G : va_G) (k : Nat → ClassId) (sz : Nat) (h0 : Nat) (u : Nat → Nat) : Met l yX7_nine v_m_nine ({ frames := 0, cells := 0, slots := 0, locals := 0 }) (va_Pc [.ref h0] (pq G k [(h0, .inr (6, [.int 0, .ref (u 0), .ref (u 1), .ref (u 2), .int 0, .ref (u 3), .ref (u 4), .int 0, .int 0, .int 0, .int 0, .int 0, .long 0, .int 0, .int 0, .int 0, .int 0, .long 0, .int 0, .ref (u 5), .ref (u 6), .int 0, .int 0, .int 0, .long 0, .long 0, .ref (u 7), .ref (u 8), .ref (u 9), .ref (u 10), .ref (u 11), .ref (u 12), .ref (u 13), .ref (u 14), .ref (u 15), .ref (u 16), .ref (u 17), .ref (u 18), .ref (u 19), .ref (u 20), .int 0, .int 0, .int 0, .int 0, .int 0, .int 0, .int 0, .int 0, .int 0, .int (-1), .int (-1), .int (-1), .int 0, .int 0, .int 0, .int 0, .int 0, .int 0, .int 0, .int 0, .ref (u 21), .ref (u 22), .ref (u 23), .ref (u 24), .ref (u 25), .ref (u 26), .int 0, .long 0]))] sz)) (va_Qi (fun r (_ : Unit) => r = 0) (fun (_ : Unit) _ => True) (va_A [(h0, .inr (6, [.int 0, .ref (u 0), .ref (u 1), .ref (u 2), .int 0, .ref (u 3), .ref (u 4), .int 0, .int 0, .int 0, .int 0, .int 0, .long 0, .int 0, .int 0, .int 0, .int 0, .long 0, .int 0, .ref (u 5), .ref (u 6), .int 0, .int 0, .int 0, .long 0, .long 0, .ref (u 7), .ref (u 8), .ref (u 9), .ref (u 10), .ref (u 11), .ref (u 12), .ref (u 13), .ref (u 14), .ref (u 15), .ref (u 16), .ref (u 17), .ref (u 18), .ref (u 19), .ref (u 20), .int 0, .int 0, .int 0, .int 0, .int 0, .int 0, .int 0, .int 0, .int 0, .int (-1), .int (-1), .int (-1), .int 0, .int 0, .int 0, .int 0, .int 0, .int 0, .int 0, .int 0, .ref (u 21), .ref (u 22), .ref (u 23), .ref (u 24), .ref (u 25), .ref (u 26), .int 0, .long 0]))] sz)) 0 0 (va_A [(h0, .inr (6, [.int 0, .ref (u 0), .ref (u 1), .ref (u 2), .int 0, .ref (u 3), .ref (u 4), .int 0, .int 0, .int 0, .int 0, .int 0, .long 0, .int 0, .int 0, .int 0, .int 0, .long 0, .int 0, .ref (u 5), .ref (u 6), .int 0, .int 0, .int 0, .long 0, .long 0, .ref (u 7), .ref (u 8), .ref (u 9), .ref (u 10), .ref (u 11), .ref (u 12), .ref (u 13), .ref (u 14), .ref (u 15), .ref (u 16), .ref (u 17), .ref (u 18), .ref (u 19), .ref (u 20), .int 0, .int 0, .int 0, .int 0, .int 0, .int 0, .int 0, .int 0, .int 0, .int (-1), .int (-1), .int (-1), .int 0, .int 0, .int 0, .int 0, .int 0, .int 0, .int 0, .int 0, .ref (u 21), .ref (u 22), .ref (u 23), .ref (u 24), .ref (u 25), .ref (u 26), .int 0, .long 0]))] sz) := by
  refine Met.ofW (cc := cX7_nine) (maxL := 3) (ret := (some .boolean)) (by decide) rfl ?_
  intro p e s m args below meth c s₁ B hml hv
  obtain ⟨rfl, hsz, ⟨hP, hK, hN⟩, hD0⟩ := hv
  have hx := B.exec
  have hb := B.bytes
  have hr := B.returns
  have hts := atoms_spec (ws := v_m_nine) B.pre
  have hown : s.vm.findClass RX7 = some m.cls := findClass_of_methodNamed B.named
  have hlocks := B.notSynchronized
  subst hsz
  have hD := hD0.self (sz := s.heap.size)
  generalize hAe : va_A [(h0, .inr (6, [.int 0, .ref (u 0), .ref (u 1), .ref (u 2), .int 0, .ref (u 3), .ref (u 4), .int 0, .int 0, .int 0, .int 0, .int 0, .long 0, .int 0, .int 0, .int 0, .int 0, .long 0, .int 0, .ref (u 5), .ref (u 6), .int 0, .int 0, .int 0, .long 0, .long 0, .ref (u 7), .ref (u 8), .ref (u 9), .ref (u 10), .ref (u 11), .ref (u 12), .ref (u 13), .ref (u 14), .ref (u 15), .ref (u 16), .ref (u 17), .ref (u 18), .ref (u 19), .ref (u 20), .int 0, .int 0, .int 0, .int 0, .int 0, .int 0, .int 0, .int 0, .int 0, .int (-1), .int (-1), .int (-1), .int 0, .int 0, .int 0, .int 0, .int 0, .int 0, .int 0, .int 0, .ref (u 21), .ref (u 22), .ref (u 23), .ref (u 24), .ref (u 25), .ref (u 26), .int 0, .long 0]))] s.heap.size = A at hD ⊢
  have hA : ∀ q : Nat, s.heap.size ≤ q → A q := fun q h => by rw [← hAe]; exact Or.inr h
  have hS : va_S A s.heap s.heap [] := va_S.rf
  have hP : va_P G vwCl [(h0, .inr (6, [.int 0, .ref (u 0), .ref (u 1), .ref (u 2), .int 0, .ref (u 3), .ref (u 4), .int 0, .int 0, .int 0, .int 0, .int 0, .long 0, .int 0, .int 0, .int 0, .int 0, .long 0, .int 0, .ref (u 5), .ref (u 6), .int 0, .int 0, .int 0, .long 0, .long 0, .ref (u 7), .ref (u 8), .ref (u 9), .ref (u 10), .ref (u 11), .ref (u 12), .ref (u 13), .ref (u 14), .ref (u 15), .ref (u 16), .ref (u 17), .ref (u 18), .ref (u 19), .ref (u 20), .int 0, .int 0, .int 0, .int 0, .int 0, .int 0, .int 0, .int 0, .int 0, .int (-1), .int (-1), .int (-1), .int 0, .int 0, .int 0, .int 0, .int 0, .int 0, .int 0, .int 0, .ref (u 21), .ref (u 22), .ref (u 23), .ref (u 24), .ref (u 25), .ref (u 26), .int 0, .long 0]))] s.heap := hP
  have hl := lv_entry ([.ref h0]) (n := 3) (Nat.le_of_ble_eq_true rfl)
  rw [lg_entry_eq]
  generalize (lg_sl ([.ref h0]) ++ List.replicate (3 - (lg_sl ([.ref h0])).length) Slot.unset).toArray = ls at hl ⊢
  have hl : lv_has ls 3 [(0, .ref h0)] := hl
  refine lv_aload_n hx hb dX7_nine_0 rfl (lv_at hl 0 rfl) ?_
  refine lv_iconst (v := 0) hx hb dX7_nine_1 (by decide) ?_
  refine va_put (D := G) (ci := 6) (v := .int 0) (ty := .int) (C := RX7) (T := TX7) (N := 68) hx hb hts i_m_nine_X7 tyX7 tyX7_ok nmX7 hown hK hP hD hS 0 rfl rfl 0 (by decide) (hts (.fieldLink RX7 103 "TileHouseModel" "thrown" "I") (by decide +kernel)) (fun _ h9 => h9) rfl (by decide +kernel) rfl rfl (Nat.le_of_ble_eq_true rfl) dX7_nine_2 (fun H locs hP hD hS => ?_)
  replace hP : va_P G vwCl [(h0, .inr (6, [.int 0, .ref (u 0), .ref (u 1), .ref (u 2), .int 0, .ref (u 3), .ref (u 4), .int 0, .int 0, .int 0, .int 0, .int 0, .long 0, .int 0, .int 0, .int 0, .int 0, .long 0, .int 0, .ref (u 5), .ref (u 6), .int 0, .int 0, .int 0, .long 0, .long 0, .ref (u 7), .ref (u 8), .ref (u 9), .ref (u 10), .ref (u 11), .ref (u 12), .ref (u 13), .ref (u 14), .ref (u 15), .ref (u 16), .ref (u 17), .ref (u 18), .ref (u 19), .ref (u 20), .int 0, .int 0, .int 0, .int 0, .int 0, .int 0, .int 0, .int 0, .int 0, .int (-1), .int (-1), .int (-1), .int 0, .int 0, .int 0, .int 0, .int 0, .int 0, .int 0, .int 0, .ref (u 21), .ref (u 22), .ref (u 23), .ref (u 24), .ref (u 25), .ref (u 26), .int 0, .long 0]))] H := hP
  replace hD : va_D A [(h0, .inr (6, [.int 0, .ref (u 0), .ref (u 1), .ref (u 2), .int 0, .ref (u 3), .ref (u 4), .int 0, .int 0, .int 0, .int 0, .int 0, .long 0, .int 0, .int 0, .int 0, .int 0, .long 0, .int 0, .ref (u 5), .ref (u 6), .int 0, .int 0, .int 0, .long 0, .long 0, .ref (u 7), .ref (u 8), .ref (u 9), .ref (u 10), .ref (u 11), .ref (u 12), .ref (u 13), .ref (u 14), .ref (u 15), .ref (u 16), .ref (u 17), .ref (u 18), .ref (u 19), .ref (u 20), .int 0, .int 0, .int 0, .int 0, .int 0, .int 0, .int 0, .int 0, .int 0, .int (-1), .int (-1), .int (-1), .int 0, .int 0, .int 0, .int 0, .int 0, .int 0, .int 0, .int 0, .ref (u 21), .ref (u 22), .ref (u 23), .ref (u 24), .ref (u 25), .ref (u 26), .int 0, .long 0]))] := hD
  refine lv_aload_n hx hb dX7_nine_5 rfl (lv_at hl 0 rfl) ?_
  refine va_get (D := G) (ci := 6) (v := .int 0) (C := RX7) (T := TX7) (N := 68) hx hb hts i_m_nine_X7 hown hK hP 0 rfl rfl 44 (by decide) (hts (.fieldLink RX7 277 "TileHouseModel" "phase" "I") (by decide +kernel)) (fun _ h9 => h9) rfl dX7_nine_6 ?_
  refine lv_iconst (v := 1) hx hb dX7_nine_9 (by decide) ?_
  refine lv_icmp_ne (tgt := 39) hx hb dX7_nine_10 (by decide) (fun _ => ?_) (fun c9 => absurd c9 (by decide))
  refine lv_iconst (v := 0) hx hb dX7_nine_39 (by decide) ?_
  refine W.widen (k := 0) (n := 0) (Nat.le_of_ble_eq_true rfl) (Nat.le_of_ble_eq_true rfl) ?_
  exact W.zret (v := 0) hx hb hr rfl (fun t ht hW => ⟨⟨0, (), rfl, rfl, trivial⟩, hS.F ht⟩) hS.2.2 dX7_nine_40
def v_m_hand : List Cond := .code yX7_hand cX7_hand 3 (some .int) :: ([.fieldLink RX7 103 "TileHouseModel" "thrown" "I", .methodLink RX7 355 yX7_isSeat, .static yX7_isSeat, .initialized RX7, .methodLink RX7 329 yX7_isKind, .static yX7_isKind, .methodLink RX7 256 yX7_has_, .instanceMethod yX7_has_, .selects RX7 yX7_has_ yX7_has_] ++ (wsX70 ++ (v_c_X7_isSeat ++ (v_c_X7_isKind ++ (v_m_has ++ ([]))))))
theorem vg_m_hand : ∀ w ∈ v_m_hand, goodWord w = true := vg_c (c := .code yX7_hand cX7_hand 3 (some .int)) (l := [.fieldLink RX7 103 "TileHouseModel" "thrown" "I", .methodLink RX7 355 yX7_isSeat, .static yX7_isSeat, .initialized RX7, .methodLink RX7 329 yX7_isKind, .static yX7_isKind, .methodLink RX7 256 yX7_has_, .instanceMethod yX7_has_, .selects RX7 yX7_has_ yX7_has_]) (by decide +kernel) (vg_a vgX7 (vg_a vg_c_X7_isSeat (vg_a vg_c_X7_isKind (vg_a vg_m_has (vg_nil)))))
theorem i_m_hand_X7 : ∀ w ∈ u_ws RX7 TX7 68, w ∈ v_m_hand := fun _ h => List.mem_cons_of_mem _ (List.mem_append_right _ (List.mem_append_left _ h))
theorem g_m_hand_c_X7_isSeat_355 : GoodIn v_m_hand (wsS RX7 355 yX7_isSeat v_c_X7_isSeat) := goodIn_app (goodIn_of _ (by decide +kernel)) (fun w h => ⟨List.mem_cons_of_mem _ (List.mem_append_right _ (List.mem_append_right _ (List.mem_append_left _ h))), good_of_word (vg_c_X7_isSeat w h)⟩)
theorem g_m_hand_c_X7_isKind_329 : GoodIn v_m_hand (wsS RX7 329 yX7_isKind v_c_X7_isKind) := goodIn_app (goodIn_of _ (by decide +kernel)) (fun w h => ⟨List.mem_cons_of_mem _ (List.mem_append_right _ (List.mem_append_right _ (List.mem_append_right _ (List.mem_append_left _ h)))), good_of_word (vg_c_X7_isKind w h)⟩)
theorem g_m_hand_m_has_256 : GoodIn v_m_hand (wsV RX7 256 RX7 yX7_has_ v_m_has) := goodIn_app (goodIn_of _ (by decide +kernel)) (fun w h => ⟨List.mem_cons_of_mem _ (List.mem_append_right _ (List.mem_append_right _ (List.mem_append_right _ (List.mem_append_right _ (List.mem_append_left _ h))))), good_of_word (vg_m_has w h)⟩)
set_option maxHeartbeats 4000000 in
set_option maxRecDepth 100000 in
theorem m_hand (l : Launch) (G : va_G) (k : Nat → ClassId) (sz : Nat) (h0 : Nat) (u : Nat → Nat) (p0 : Int32) (p1 : Int32) : Met l yX7_hand v_m_hand ({ frames := 1, cells := 0, slots := 0, locals := 22 }) (va_Pc [.ref h0, .int p0, .int p1] (pq G k [(h0, .inr (6, [.int 0, .ref (u 0), .ref (u 1), .ref (u 2), .int 0, .ref (u 3), .ref (u 4), .int 0, .int 0, .int 0, .int 0, .int 0, .long 0, .int 0, .int 0, .int 0, .int 0, .long 0, .int 0, .ref (u 5), .ref (u 6), .int 0, .int 0, .int 0, .long 0, .long 0, .ref (u 7), .ref (u 8), .ref (u 9), .ref (u 10), .ref (u 11), .ref (u 12), .ref (u 13), .ref (u 14), .ref (u 15), .ref (u 16), .ref (u 17), .ref (u 18), .ref (u 19), .ref (u 20), .int 0, .int 0, .int 0, .int 0, .int 0, .int 0, .int 0, .int 0, .int 0, .int (-1), .int (-1), .int (-1), .int 0, .int 0, .int 0, .int 0, .int 0, .int 0, .int 0, .int 0, .ref (u 21), .ref (u 22), .ref (u 23), .ref (u 24), .ref (u 25), .ref (u 26), .int 0, .long 0])), ((u 9), .inl (k 0, 136, .inl (fun _ => 0)))] sz)) (va_Qi (fun r (_ : Unit) => r = 0) (fun (_ : Unit) _ => True) (va_A [(h0, .inr (6, [.int 0, .ref (u 0), .ref (u 1), .ref (u 2), .int 0, .ref (u 3), .ref (u 4), .int 0, .int 0, .int 0, .int 0, .int 0, .long 0, .int 0, .int 0, .int 0, .int 0, .long 0, .int 0, .ref (u 5), .ref (u 6), .int 0, .int 0, .int 0, .long 0, .long 0, .ref (u 7), .ref (u 8), .ref (u 9), .ref (u 10), .ref (u 11), .ref (u 12), .ref (u 13), .ref (u 14), .ref (u 15), .ref (u 16), .ref (u 17), .ref (u 18), .ref (u 19), .ref (u 20), .int 0, .int 0, .int 0, .int 0, .int 0, .int 0, .int 0, .int 0, .int 0, .int (-1), .int (-1), .int (-1), .int 0, .int 0, .int 0, .int 0, .int 0, .int 0, .int 0, .int 0, .ref (u 21), .ref (u 22), .ref (u 23), .ref (u 24), .ref (u 25), .ref (u 26), .int 0, .long 0])), ((u 9), .inl (k 0, 136, .inl (fun _ => 0)))] sz)) 0 0 (va_A [(h0, .inr (6, [.int 0, .ref (u 0), .ref (u 1), .ref (u 2), .int 0, .ref (u 3), .ref (u 4), .int 0, .int 0, .int 0, .int 0, .int 0, .long 0, .int 0, .int 0, .int 0, .int 0, .long 0, .int 0, .ref (u 5), .ref (u 6), .int 0, .int 0, .int 0, .long 0, .long 0, .ref (u 7), .ref (u 8), .ref (u 9), .ref (u 10), .ref (u 11), .ref (u 12), .ref (u 13), .ref (u 14), .ref (u 15), .ref (u 16), .ref (u 17), .ref (u 18), .ref (u 19), .ref (u 20), .int 0, .int 0, .int 0, .int 0, .int 0, .int 0, .int 0, .int 0, .int 0, .int (-1), .int (-1), .int (-1), .int 0, .int 0, .int 0, .int 0, .int 0, .int 0, .int 0, .int 0, .ref (u 21), .ref (u 22), .ref (u 23), .ref (u 24), .ref (u 25), .ref (u 26), .int 0, .long 0])), ((u 9), .inl (k 0, 136, .inl (fun _ => 0)))] sz) := by
  refine Met.ofW (cc := cX7_hand) (maxL := 3) (ret := (some .int)) (by decide) rfl ?_
  intro p e s m args below meth c s₁ B hml hv
  obtain ⟨rfl, hsz, ⟨hP, hK, hN⟩, hD0⟩ := hv
  have hx := B.exec
  have hb := B.bytes
  have hr := B.returns
  have hts := atoms_spec (ws := v_m_hand) B.pre
  have hown : s.vm.findClass RX7 = some m.cls := findClass_of_methodNamed B.named
  have hlocks := B.notSynchronized
  subst hsz
  have hD := hD0.self (sz := s.heap.size)
  generalize hAe : va_A [(h0, .inr (6, [.int 0, .ref (u 0), .ref (u 1), .ref (u 2), .int 0, .ref (u 3), .ref (u 4), .int 0, .int 0, .int 0, .int 0, .int 0, .long 0, .int 0, .int 0, .int 0, .int 0, .long 0, .int 0, .ref (u 5), .ref (u 6), .int 0, .int 0, .int 0, .long 0, .long 0, .ref (u 7), .ref (u 8), .ref (u 9), .ref (u 10), .ref (u 11), .ref (u 12), .ref (u 13), .ref (u 14), .ref (u 15), .ref (u 16), .ref (u 17), .ref (u 18), .ref (u 19), .ref (u 20), .int 0, .int 0, .int 0, .int 0, .int 0, .int 0, .int 0, .int 0, .int 0, .int (-1), .int (-1), .int (-1), .int 0, .int 0, .int 0, .int 0, .int 0, .int 0, .int 0, .int 0, .ref (u 21), .ref (u 22), .ref (u 23), .ref (u 24), .ref (u 25), .ref (u 26), .int 0, .long 0])), ((u 9), .inl (k 0, 136, .inl (fun _ => 0)))] s.heap.size = A at hD ⊢
  have hA : ∀ q : Nat, s.heap.size ≤ q → A q := fun q h => by rw [← hAe]; exact Or.inr h
  have hS : va_S A s.heap s.heap [] := va_S.rf
  have hP : va_P G vwCl [(h0, .inr (6, [.int 0, .ref (u 0), .ref (u 1), .ref (u 2), .int 0, .ref (u 3), .ref (u 4), .int 0, .int 0, .int 0, .int 0, .int 0, .long 0, .int 0, .int 0, .int 0, .int 0, .long 0, .int 0, .ref (u 5), .ref (u 6), .int 0, .int 0, .int 0, .long 0, .long 0, .ref (u 7), .ref (u 8), .ref (u 9), .ref (u 10), .ref (u 11), .ref (u 12), .ref (u 13), .ref (u 14), .ref (u 15), .ref (u 16), .ref (u 17), .ref (u 18), .ref (u 19), .ref (u 20), .int 0, .int 0, .int 0, .int 0, .int 0, .int 0, .int 0, .int 0, .int 0, .int (-1), .int (-1), .int (-1), .int 0, .int 0, .int 0, .int 0, .int 0, .int 0, .int 0, .int 0, .ref (u 21), .ref (u 22), .ref (u 23), .ref (u 24), .ref (u 25), .ref (u 26), .int 0, .long 0])), ((u 9), .inl (k 0, 136, .inl (fun _ => 0)))] s.heap := hP
  have hl := lv_entry ([.ref h0, .int p0, .int p1]) (n := 3) (Nat.le_of_ble_eq_true rfl)
  rw [lg_entry_eq]
  generalize (lg_sl ([.ref h0, .int p0, .int p1]) ++ List.replicate (3 - (lg_sl ([.ref h0, .int p0, .int p1])).length) Slot.unset).toArray = ls at hl ⊢
  have hl : lv_has ls 3 [(0, .ref h0), (1, .int p0), (2, .int p1)] := hl
  refine lv_aload_n hx hb dX7_hand_0 rfl (lv_at hl 0 rfl) ?_
  refine lv_iconst (v := 0) hx hb dX7_hand_1 (by decide) ?_
  refine va_put (D := G) (ci := 6) (v := .int 0) (ty := .int) (C := RX7) (T := TX7) (N := 68) hx hb hts i_m_hand_X7 tyX7 tyX7_ok nmX7 hown hK hP hD hS 0 rfl rfl 0 (by decide) (hts (.fieldLink RX7 103 "TileHouseModel" "thrown" "I") (by decide +kernel)) (fun _ h9 => h9) rfl (by decide +kernel) rfl rfl (Nat.le_of_ble_eq_true rfl) dX7_hand_2 (fun H locs hP hD hS => ?_)
  replace hP : va_P G vwCl [(h0, .inr (6, [.int 0, .ref (u 0), .ref (u 1), .ref (u 2), .int 0, .ref (u 3), .ref (u 4), .int 0, .int 0, .int 0, .int 0, .int 0, .long 0, .int 0, .int 0, .int 0, .int 0, .long 0, .int 0, .ref (u 5), .ref (u 6), .int 0, .int 0, .int 0, .long 0, .long 0, .ref (u 7), .ref (u 8), .ref (u 9), .ref (u 10), .ref (u 11), .ref (u 12), .ref (u 13), .ref (u 14), .ref (u 15), .ref (u 16), .ref (u 17), .ref (u 18), .ref (u 19), .ref (u 20), .int 0, .int 0, .int 0, .int 0, .int 0, .int 0, .int 0, .int 0, .int 0, .int (-1), .int (-1), .int (-1), .int 0, .int 0, .int 0, .int 0, .int 0, .int 0, .int 0, .int 0, .ref (u 21), .ref (u 22), .ref (u 23), .ref (u 24), .ref (u 25), .ref (u 26), .int 0, .long 0])), ((u 9), .inl (k 0, 136, .inl (fun _ => 0)))] H := hP
  replace hD : va_D A [(h0, .inr (6, [.int 0, .ref (u 0), .ref (u 1), .ref (u 2), .int 0, .ref (u 3), .ref (u 4), .int 0, .int 0, .int 0, .int 0, .int 0, .long 0, .int 0, .int 0, .int 0, .int 0, .long 0, .int 0, .ref (u 5), .ref (u 6), .int 0, .int 0, .int 0, .long 0, .long 0, .ref (u 7), .ref (u 8), .ref (u 9), .ref (u 10), .ref (u 11), .ref (u 12), .ref (u 13), .ref (u 14), .ref (u 15), .ref (u 16), .ref (u 17), .ref (u 18), .ref (u 19), .ref (u 20), .int 0, .int 0, .int 0, .int 0, .int 0, .int 0, .int 0, .int 0, .int 0, .int (-1), .int (-1), .int (-1), .int 0, .int 0, .int 0, .int 0, .int 0, .int 0, .int 0, .int 0, .ref (u 21), .ref (u 22), .ref (u 23), .ref (u 24), .ref (u 25), .ref (u 26), .int 0, .long 0])), ((u 9), .inl (k 0, 136, .inl (fun _ => 0)))] := hD
  refine lv_iload_n hx hb dX7_hand_5 rfl (lv_at hl 1 rfl) ?_
  have hPc := hP.sub (ws' := []) [] rfl
  refine q_calli (va_runS (As := [.int p0]) (rest := []) ⟨hx, hb, hml, hown, hts⟩ (c_X7_isSeat l G k p0) (cwS 1 hts g_m_hand_c_X7_isSeat_355 rfl rfl rfl (by decide +kernel) ⟨Nat.le_of_ble_eq_true rfl, Nat.le_of_ble_eq_true rfl⟩) ⟨pr_bl, pr_pre hPc hK hN⟩ rfl rfl hl.1 rfl (lv_room (Nat.le_of_ble_eq_true rfl)) dX7_hand_6 ⟨Nat.le_of_ble_eq_true rfl, Nat.le_of_ble_eq_true rfl⟩) (fun r1 hr1 => ?_)
  rcases hr1 with ⟨rfl, h2⟩ | ⟨rfl, h2⟩
  · skip
    refine lv_if_eq (tgt := 28) hx hb dX7_hand_9 (by decide) (fun c9 => absurd c9 (by decide)) (fun _ => ?_)
    refine lv_iload_n hx hb dX7_hand_12 rfl (lv_at hl 2 rfl) ?_
    have hPc := hP.sub (ws' := []) [] rfl
    refine q_calli (va_runS (As := [.int p1]) (rest := []) ⟨hx, hb, hml, hown, hts⟩ (c_X7_isKind l G k p1) (cwS 1 hts g_m_hand_c_X7_isKind_329 rfl rfl rfl (by decide +kernel) ⟨Nat.le_of_ble_eq_true rfl, Nat.le_of_ble_eq_true rfl⟩) ⟨pr_bl, pr_pre hPc hK hN⟩ rfl rfl hl.1 rfl (lv_room (Nat.le_of_ble_eq_true rfl)) dX7_hand_13 ⟨Nat.le_of_ble_eq_true rfl, Nat.le_of_ble_eq_true rfl⟩) (fun r3 hr3 => ?_)
    rcases hr3 with ⟨rfl, h4⟩ | ⟨rfl, h4⟩
    · skip
      refine lv_if_eq (tgt := 28) hx hb dX7_hand_16 (by decide) (fun c9 => absurd c9 (by decide)) (fun _ => ?_)
      refine lv_aload_n hx hb dX7_hand_19 rfl (lv_at hl 0 rfl) ?_
      refine lv_iload_n hx hb dX7_hand_20 rfl (lv_at hl 1 rfl) ?_
      refine lv_iload_n hx hb dX7_hand_21 rfl (lv_at hl 2 rfl) ?_
      have hPc := hP.sub (ws' := [(h0, .inr (6, [.int 0, .ref (u 0), .ref (u 1), .ref (u 2), .int 0, .ref (u 3), .ref (u 4), .int 0, .int 0, .int 0, .int 0, .int 0, .long 0, .int 0, .int 0, .int 0, .int 0, .long 0, .int 0, .ref (u 5), .ref (u 6), .int 0, .int 0, .int 0, .long 0, .long 0, .ref (u 7), .ref (u 8), .ref (u 9), .ref (u 10), .ref (u 11), .ref (u 12), .ref (u 13), .ref (u 14), .ref (u 15), .ref (u 16), .ref (u 17), .ref (u 18), .ref (u 19), .ref (u 20), .int 0, .int 0, .int 0, .int 0, .int 0, .int 0, .int 0, .int 0, .int 0, .int (-1), .int (-1), .int (-1), .int 0, .int 0, .int 0, .int 0, .int 0, .int 0, .int 0, .int 0, .ref (u 21), .ref (u 22), .ref (u 23), .ref (u 24), .ref (u 25), .ref (u 26), .int 0, .long 0])), ((u 9), .inl (k 0, 136, .inl (fun _ => 0)))]) [0, 1] rfl
      refine q_calli (va_runV (As := [.int p0, .int p1]) (rest := []) ⟨hx, hb, hml, hown, hts⟩ (m_has l G k h0 u p0 p1 h2 h4) (cwV 2 hts g_m_hand_m_has_256 rfl rfl rfl (by decide +kernel) ⟨Nat.le_of_ble_eq_true rfl, Nat.le_of_ble_eq_true rfl⟩) ⟨pr_bl, va_recv hK hPc (ci := 6) (q0 := 0) rfl rfl, pr_pre hPc hK hN⟩ rfl rfl hl.1 rfl (lv_room (Nat.le_of_ble_eq_true rfl)) dX7_hand_22 ⟨Nat.le_of_ble_eq_true rfl, Nat.le_of_ble_eq_true rfl⟩) (fun r5 hr5 => ?_)
      obtain rfl : r5 = 0 := hr5
      refine lv_goto (tgt := 29) hx hb dX7_hand_25 (by decide) ?_
      refine W.widen (k := 0) (n := 0) (Nat.le_of_ble_eq_true rfl) (Nat.le_of_ble_eq_true rfl) ?_
      exact W.iret (v := 0) hx hb hr (fun t ht hW => ⟨⟨0, (), rfl, rfl, trivial⟩, hS.F ht⟩) hS.2.2 dX7_hand_29
    · skip
      refine lv_if_eq (tgt := 28) hx hb dX7_hand_16 (by decide) (fun _ => ?_) (fun c9 => absurd (by decide) c9)
      refine lv_iconst (v := 0) hx hb dX7_hand_28 (by decide) ?_
      refine W.widen (k := 0) (n := 0) (Nat.le_of_ble_eq_true rfl) (Nat.le_of_ble_eq_true rfl) ?_
      exact W.iret (v := 0) hx hb hr (fun t ht hW => ⟨⟨0, (), rfl, rfl, trivial⟩, hS.F ht⟩) hS.2.2 dX7_hand_29
  · skip
    refine lv_if_eq (tgt := 28) hx hb dX7_hand_9 (by decide) (fun _ => ?_) (fun c9 => absurd (by decide) c9)
    refine lv_iconst (v := 0) hx hb dX7_hand_28 (by decide) ?_
    refine W.widen (k := 0) (n := 0) (Nat.le_of_ble_eq_true rfl) (Nat.le_of_ble_eq_true rfl) ?_
    exact W.iret (v := 0) hx hb hr (fun t ht hW => ⟨⟨0, (), rfl, rfl, trivial⟩, hS.F ht⟩) hS.2.2 dX7_hand_29
def v_m_laid : List Cond := .code yX7_laid cX7_laid 4 (some .int) :: ([.fieldLink RX7 103 "TileHouseModel" "thrown" "I", .methodLink RX7 355 yX7_isSeat, .static yX7_isSeat, .initialized RX7, .fieldLink RX7 49 "TileHouseModel" "setMany" "[I"] ++ (wsX70 ++ (v_c_X7_isSeat ++ ([]))))
theorem vg_m_laid : ∀ w ∈ v_m_laid, goodWord w = true := vg_c (c := .code yX7_laid cX7_laid 4 (some .int)) (l := [.fieldLink RX7 103 "TileHouseModel" "thrown" "I", .methodLink RX7 355 yX7_isSeat, .static yX7_isSeat, .initialized RX7, .fieldLink RX7 49 "TileHouseModel" "setMany" "[I"]) (by decide +kernel) (vg_a vgX7 (vg_a vg_c_X7_isSeat (vg_nil)))
theorem i_m_laid_X7 : ∀ w ∈ u_ws RX7 TX7 68, w ∈ v_m_laid := fun _ h => List.mem_cons_of_mem _ (List.mem_append_right _ (List.mem_append_left _ h))
theorem g_m_laid_c_X7_isSeat_355 : GoodIn v_m_laid (wsS RX7 355 yX7_isSeat v_c_X7_isSeat) := goodIn_app (goodIn_of _ (by decide +kernel)) (fun w h => ⟨List.mem_cons_of_mem _ (List.mem_append_right _ (List.mem_append_right _ (List.mem_append_left _ h))), good_of_word (vg_c_X7_isSeat w h)⟩)
set_option maxHeartbeats 4000000 in
set_option maxRecDepth 100000 in
theorem m_laid (l : Launch) (G : va_G) (k : Nat → ClassId) (sz : Nat) (h0 : Nat) (u : Nat → Nat) (p0 : Int32) (p1 : Int32) (p2 : Int32) : Met l yX7_laid v_m_laid ({ frames := 1, cells := 0, slots := 0, locals := 20 }) (va_Pc [.ref h0, .int p0, .int p1, .int p2] (pq G k [(h0, .inr (6, [.int 0, .ref (u 0), .ref (u 1), .ref (u 2), .int 0, .ref (u 3), .ref (u 4), .int 0, .int 0, .int 0, .int 0, .int 0, .long 0, .int 0, .int 0, .int 0, .int 0, .long 0, .int 0, .ref (u 5), .ref (u 6), .int 0, .int 0, .int 0, .long 0, .long 0, .ref (u 7), .ref (u 8), .ref (u 9), .ref (u 10), .ref (u 11), .ref (u 12), .ref (u 13), .ref (u 14), .ref (u 15), .ref (u 16), .ref (u 17), .ref (u 18), .ref (u 19), .ref (u 20), .int 0, .int 0, .int 0, .int 0, .int 0, .int 0, .int 0, .int 0, .int 0, .int (-1), .int (-1), .int (-1), .int 0, .int 0, .int 0, .int 0, .int 0, .int 0, .int 0, .int 0, .ref (u 21), .ref (u 22), .ref (u 23), .ref (u 24), .ref (u 25), .ref (u 26), .int 0, .long 0])), ((u 13), .inl (k 0, 4, .inl (fun _ => 0)))] sz)) (va_Qi (fun r (_ : Unit) => r = (-1)) (fun (_ : Unit) _ => True) (va_A [(h0, .inr (6, [.int 0, .ref (u 0), .ref (u 1), .ref (u 2), .int 0, .ref (u 3), .ref (u 4), .int 0, .int 0, .int 0, .int 0, .int 0, .long 0, .int 0, .int 0, .int 0, .int 0, .long 0, .int 0, .ref (u 5), .ref (u 6), .int 0, .int 0, .int 0, .long 0, .long 0, .ref (u 7), .ref (u 8), .ref (u 9), .ref (u 10), .ref (u 11), .ref (u 12), .ref (u 13), .ref (u 14), .ref (u 15), .ref (u 16), .ref (u 17), .ref (u 18), .ref (u 19), .ref (u 20), .int 0, .int 0, .int 0, .int 0, .int 0, .int 0, .int 0, .int 0, .int 0, .int (-1), .int (-1), .int (-1), .int 0, .int 0, .int 0, .int 0, .int 0, .int 0, .int 0, .int 0, .ref (u 21), .ref (u 22), .ref (u 23), .ref (u 24), .ref (u 25), .ref (u 26), .int 0, .long 0])), ((u 13), .inl (k 0, 4, .inl (fun _ => 0)))] sz)) 0 0 (va_A [(h0, .inr (6, [.int 0, .ref (u 0), .ref (u 1), .ref (u 2), .int 0, .ref (u 3), .ref (u 4), .int 0, .int 0, .int 0, .int 0, .int 0, .long 0, .int 0, .int 0, .int 0, .int 0, .long 0, .int 0, .ref (u 5), .ref (u 6), .int 0, .int 0, .int 0, .long 0, .long 0, .ref (u 7), .ref (u 8), .ref (u 9), .ref (u 10), .ref (u 11), .ref (u 12), .ref (u 13), .ref (u 14), .ref (u 15), .ref (u 16), .ref (u 17), .ref (u 18), .ref (u 19), .ref (u 20), .int 0, .int 0, .int 0, .int 0, .int 0, .int 0, .int 0, .int 0, .int 0, .int (-1), .int (-1), .int (-1), .int 0, .int 0, .int 0, .int 0, .int 0, .int 0, .int 0, .int 0, .ref (u 21), .ref (u 22), .ref (u 23), .ref (u 24), .ref (u 25), .ref (u 26), .int 0, .long 0])), ((u 13), .inl (k 0, 4, .inl (fun _ => 0)))] sz) := by
  refine Met.ofW (cc := cX7_laid) (maxL := 4) (ret := (some .int)) (by decide) rfl ?_
  intro p e s m args below meth c s₁ B hml hv
  obtain ⟨rfl, hsz, ⟨hP, hK, hN⟩, hD0⟩ := hv
  have hx := B.exec
  have hb := B.bytes
  have hr := B.returns
  have hts := atoms_spec (ws := v_m_laid) B.pre
  have hown : s.vm.findClass RX7 = some m.cls := findClass_of_methodNamed B.named
  have hlocks := B.notSynchronized
  subst hsz
  have hD := hD0.self (sz := s.heap.size)
  generalize hAe : va_A [(h0, .inr (6, [.int 0, .ref (u 0), .ref (u 1), .ref (u 2), .int 0, .ref (u 3), .ref (u 4), .int 0, .int 0, .int 0, .int 0, .int 0, .long 0, .int 0, .int 0, .int 0, .int 0, .long 0, .int 0, .ref (u 5), .ref (u 6), .int 0, .int 0, .int 0, .long 0, .long 0, .ref (u 7), .ref (u 8), .ref (u 9), .ref (u 10), .ref (u 11), .ref (u 12), .ref (u 13), .ref (u 14), .ref (u 15), .ref (u 16), .ref (u 17), .ref (u 18), .ref (u 19), .ref (u 20), .int 0, .int 0, .int 0, .int 0, .int 0, .int 0, .int 0, .int 0, .int 0, .int (-1), .int (-1), .int (-1), .int 0, .int 0, .int 0, .int 0, .int 0, .int 0, .int 0, .int 0, .ref (u 21), .ref (u 22), .ref (u 23), .ref (u 24), .ref (u 25), .ref (u 26), .int 0, .long 0])), ((u 13), .inl (k 0, 4, .inl (fun _ => 0)))] s.heap.size = A at hD ⊢
  have hA : ∀ q : Nat, s.heap.size ≤ q → A q := fun q h => by rw [← hAe]; exact Or.inr h
  have hS : va_S A s.heap s.heap [] := va_S.rf
  have hP : va_P G vwCl [(h0, .inr (6, [.int 0, .ref (u 0), .ref (u 1), .ref (u 2), .int 0, .ref (u 3), .ref (u 4), .int 0, .int 0, .int 0, .int 0, .int 0, .long 0, .int 0, .int 0, .int 0, .int 0, .long 0, .int 0, .ref (u 5), .ref (u 6), .int 0, .int 0, .int 0, .long 0, .long 0, .ref (u 7), .ref (u 8), .ref (u 9), .ref (u 10), .ref (u 11), .ref (u 12), .ref (u 13), .ref (u 14), .ref (u 15), .ref (u 16), .ref (u 17), .ref (u 18), .ref (u 19), .ref (u 20), .int 0, .int 0, .int 0, .int 0, .int 0, .int 0, .int 0, .int 0, .int 0, .int (-1), .int (-1), .int (-1), .int 0, .int 0, .int 0, .int 0, .int 0, .int 0, .int 0, .int 0, .ref (u 21), .ref (u 22), .ref (u 23), .ref (u 24), .ref (u 25), .ref (u 26), .int 0, .long 0])), ((u 13), .inl (k 0, 4, .inl (fun _ => 0)))] s.heap := hP
  have hl := lv_entry ([.ref h0, .int p0, .int p1, .int p2]) (n := 4) (Nat.le_of_ble_eq_true rfl)
  rw [lg_entry_eq]
  generalize (lg_sl ([.ref h0, .int p0, .int p1, .int p2]) ++ List.replicate (4 - (lg_sl ([.ref h0, .int p0, .int p1, .int p2])).length) Slot.unset).toArray = ls at hl ⊢
  have hl : lv_has ls 4 [(0, .ref h0), (1, .int p0), (2, .int p1), (3, .int p2)] := hl
  refine lv_aload_n hx hb dX7_laid_0 rfl (lv_at hl 0 rfl) ?_
  refine lv_iconst (v := 0) hx hb dX7_laid_1 (by decide) ?_
  refine va_put (D := G) (ci := 6) (v := .int 0) (ty := .int) (C := RX7) (T := TX7) (N := 68) hx hb hts i_m_laid_X7 tyX7 tyX7_ok nmX7 hown hK hP hD hS 0 rfl rfl 0 (by decide) (hts (.fieldLink RX7 103 "TileHouseModel" "thrown" "I") (by decide +kernel)) (fun _ h9 => h9) rfl (by decide +kernel) rfl rfl (Nat.le_of_ble_eq_true rfl) dX7_laid_2 (fun H locs hP hD hS => ?_)
  replace hP : va_P G vwCl [(h0, .inr (6, [.int 0, .ref (u 0), .ref (u 1), .ref (u 2), .int 0, .ref (u 3), .ref (u 4), .int 0, .int 0, .int 0, .int 0, .int 0, .long 0, .int 0, .int 0, .int 0, .int 0, .long 0, .int 0, .ref (u 5), .ref (u 6), .int 0, .int 0, .int 0, .long 0, .long 0, .ref (u 7), .ref (u 8), .ref (u 9), .ref (u 10), .ref (u 11), .ref (u 12), .ref (u 13), .ref (u 14), .ref (u 15), .ref (u 16), .ref (u 17), .ref (u 18), .ref (u 19), .ref (u 20), .int 0, .int 0, .int 0, .int 0, .int 0, .int 0, .int 0, .int 0, .int 0, .int (-1), .int (-1), .int (-1), .int 0, .int 0, .int 0, .int 0, .int 0, .int 0, .int 0, .int 0, .ref (u 21), .ref (u 22), .ref (u 23), .ref (u 24), .ref (u 25), .ref (u 26), .int 0, .long 0])), ((u 13), .inl (k 0, 4, .inl (fun _ => 0)))] H := hP
  replace hD : va_D A [(h0, .inr (6, [.int 0, .ref (u 0), .ref (u 1), .ref (u 2), .int 0, .ref (u 3), .ref (u 4), .int 0, .int 0, .int 0, .int 0, .int 0, .long 0, .int 0, .int 0, .int 0, .int 0, .long 0, .int 0, .ref (u 5), .ref (u 6), .int 0, .int 0, .int 0, .long 0, .long 0, .ref (u 7), .ref (u 8), .ref (u 9), .ref (u 10), .ref (u 11), .ref (u 12), .ref (u 13), .ref (u 14), .ref (u 15), .ref (u 16), .ref (u 17), .ref (u 18), .ref (u 19), .ref (u 20), .int 0, .int 0, .int 0, .int 0, .int 0, .int 0, .int 0, .int 0, .int 0, .int (-1), .int (-1), .int (-1), .int 0, .int 0, .int 0, .int 0, .int 0, .int 0, .int 0, .int 0, .ref (u 21), .ref (u 22), .ref (u 23), .ref (u 24), .ref (u 25), .ref (u 26), .int 0, .long 0])), ((u 13), .inl (k 0, 4, .inl (fun _ => 0)))] := hD
  refine lv_iload_n hx hb dX7_laid_5 rfl (lv_at hl 1 rfl) ?_
  have hPc := hP.sub (ws' := []) [] rfl
  refine q_calli (va_runS (As := [.int p0]) (rest := []) ⟨hx, hb, hml, hown, hts⟩ (c_X7_isSeat l G k p0) (cwS 1 hts g_m_laid_c_X7_isSeat_355 rfl rfl rfl (by decide +kernel) ⟨Nat.le_of_ble_eq_true rfl, Nat.le_of_ble_eq_true rfl⟩) ⟨pr_bl, pr_pre hPc hK hN⟩ rfl rfl hl.1 rfl (lv_room (Nat.le_of_ble_eq_true rfl)) dX7_laid_6 ⟨Nat.le_of_ble_eq_true rfl, Nat.le_of_ble_eq_true rfl⟩) (fun r1 hr1 => ?_)
  rcases hr1 with ⟨rfl, h2⟩ | ⟨rfl, h2⟩
  · skip
    refine lv_if_eq (tgt := 35) hx hb dX7_laid_9 (by decide) (fun c9 => absurd c9 (by decide)) (fun _ => ?_)
    refine lv_iload_n hx hb dX7_laid_12 rfl (lv_at hl 2 rfl) ?_
    refine lv_if_lt (tgt := 35) hx hb dX7_laid_13 (by decide) (fun c3 => ?_) (fun c3 => ?_)
    · skip
      refine lv_iconst (v := (-1)) hx hb dX7_laid_35 (by decide) ?_
      refine W.widen (k := 0) (n := 0) (Nat.le_of_ble_eq_true rfl) (Nat.le_of_ble_eq_true rfl) ?_
      exact W.iret (v := (-1)) hx hb hr (fun t ht hW => ⟨⟨(-1), (), rfl, rfl, trivial⟩, hS.F ht⟩) hS.2.2 dX7_laid_36
    · skip
      refine lv_iload_n hx hb dX7_laid_16 rfl (lv_at hl 2 rfl) ?_
      refine lv_aload_n hx hb dX7_laid_17 rfl (lv_at hl 0 rfl) ?_
      refine va_get (D := G) (ci := 6) (v := .ref (u 13)) (C := RX7) (T := TX7) (N := 68) hx hb hts i_m_laid_X7 hown hK hP 0 rfl rfl 32 (by decide) (hts (.fieldLink RX7 49 "TileHouseModel" "setMany" "[I") (by decide +kernel)) (fun _ h9 => h9) rfl dX7_laid_18 ?_
      refine lv_iload_n hx hb dX7_laid_21 rfl (lv_at hl 1 rfl) ?_
      refine va_iald hx hb hK hP 1 0 rfl rfl h2 dX7_laid_22 ?_
      refine lv_topi (fun z4 ez4 => ?_)
      obtain rfl : z4 = 0 := ez4.trans rfl
      refine lv_icmp_ge (tgt := 35) hx hb dX7_laid_23 (by decide) (fun _ => ?_) (fun c9 => absurd (i_nn (by assumption)) c9)
      refine lv_iconst (v := (-1)) hx hb dX7_laid_35 (by decide) ?_
      refine W.widen (k := 0) (n := 0) (Nat.le_of_ble_eq_true rfl) (Nat.le_of_ble_eq_true rfl) ?_
      exact W.iret (v := (-1)) hx hb hr (fun t ht hW => ⟨⟨(-1), (), rfl, rfl, trivial⟩, hS.F ht⟩) hS.2.2 dX7_laid_36
  · skip
    refine lv_if_eq (tgt := 35) hx hb dX7_laid_9 (by decide) (fun _ => ?_) (fun c9 => absurd (by decide) c9)
    refine lv_iconst (v := (-1)) hx hb dX7_laid_35 (by decide) ?_
    refine W.widen (k := 0) (n := 0) (Nat.le_of_ble_eq_true rfl) (Nat.le_of_ble_eq_true rfl) ?_
    exact W.iret (v := (-1)) hx hb hr (fun t ht hW => ⟨⟨(-1), (), rfl, rfl, trivial⟩, hS.F ht⟩) hS.2.2 dX7_laid_36
def v_m_waits : List Cond := .code yX7_waits cX7_waits 2 (some .long) :: ([.fieldLink RX7 103 "TileHouseModel" "thrown" "I", .methodLink RX7 355 yX7_isSeat, .static yX7_isSeat, .initialized RX7, .fieldLink RX7 277 "TileHouseModel" "phase" "I"] ++ (wsX70 ++ (v_c_X7_isSeat ++ ([]))))
theorem vg_m_waits : ∀ w ∈ v_m_waits, goodWord w = true := vg_c (c := .code yX7_waits cX7_waits 2 (some .long)) (l := [.fieldLink RX7 103 "TileHouseModel" "thrown" "I", .methodLink RX7 355 yX7_isSeat, .static yX7_isSeat, .initialized RX7, .fieldLink RX7 277 "TileHouseModel" "phase" "I"]) (by decide +kernel) (vg_a vgX7 (vg_a vg_c_X7_isSeat (vg_nil)))
theorem i_m_waits_X7 : ∀ w ∈ u_ws RX7 TX7 68, w ∈ v_m_waits := fun _ h => List.mem_cons_of_mem _ (List.mem_append_right _ (List.mem_append_left _ h))
theorem g_m_waits_c_X7_isSeat_355 : GoodIn v_m_waits (wsS RX7 355 yX7_isSeat v_c_X7_isSeat) := goodIn_app (goodIn_of _ (by decide +kernel)) (fun w h => ⟨List.mem_cons_of_mem _ (List.mem_append_right _ (List.mem_append_right _ (List.mem_append_left _ h))), good_of_word (vg_c_X7_isSeat w h)⟩)
set_option maxHeartbeats 4000000 in
set_option maxRecDepth 100000 in
theorem m_waits (l : Launch) (G : va_G) (k : Nat → ClassId) (sz : Nat) (h0 : Nat) (u : Nat → Nat) (p0 : Int32) : Met l yX7_waits v_m_waits ({ frames := 1, cells := 0, slots := 0, locals := 20 }) (va_Pc [.ref h0, .int p0] (pq G k [(h0, .inr (6, [.int 0, .ref (u 0), .ref (u 1), .ref (u 2), .int 0, .ref (u 3), .ref (u 4), .int 0, .int 0, .int 0, .int 0, .int 0, .long 0, .int 0, .int 0, .int 0, .int 0, .long 0, .int 0, .ref (u 5), .ref (u 6), .int 0, .int 0, .int 0, .long 0, .long 0, .ref (u 7), .ref (u 8), .ref (u 9), .ref (u 10), .ref (u 11), .ref (u 12), .ref (u 13), .ref (u 14), .ref (u 15), .ref (u 16), .ref (u 17), .ref (u 18), .ref (u 19), .ref (u 20), .int 0, .int 0, .int 0, .int 0, .int 0, .int 0, .int 0, .int 0, .int 0, .int (-1), .int (-1), .int (-1), .int 0, .int 0, .int 0, .int 0, .int 0, .int 0, .int 0, .int 0, .ref (u 21), .ref (u 22), .ref (u 23), .ref (u 24), .ref (u 25), .ref (u 26), .int 0, .long 0]))] sz)) (va_Ql (fun r (_ : Unit) => r = 0) (fun (_ : Unit) _ => True) (va_A [(h0, .inr (6, [.int 0, .ref (u 0), .ref (u 1), .ref (u 2), .int 0, .ref (u 3), .ref (u 4), .int 0, .int 0, .int 0, .int 0, .int 0, .long 0, .int 0, .int 0, .int 0, .int 0, .long 0, .int 0, .ref (u 5), .ref (u 6), .int 0, .int 0, .int 0, .long 0, .long 0, .ref (u 7), .ref (u 8), .ref (u 9), .ref (u 10), .ref (u 11), .ref (u 12), .ref (u 13), .ref (u 14), .ref (u 15), .ref (u 16), .ref (u 17), .ref (u 18), .ref (u 19), .ref (u 20), .int 0, .int 0, .int 0, .int 0, .int 0, .int 0, .int 0, .int 0, .int 0, .int (-1), .int (-1), .int (-1), .int 0, .int 0, .int 0, .int 0, .int 0, .int 0, .int 0, .int 0, .ref (u 21), .ref (u 22), .ref (u 23), .ref (u 24), .ref (u 25), .ref (u 26), .int 0, .long 0]))] sz)) 0 0 (va_A [(h0, .inr (6, [.int 0, .ref (u 0), .ref (u 1), .ref (u 2), .int 0, .ref (u 3), .ref (u 4), .int 0, .int 0, .int 0, .int 0, .int 0, .long 0, .int 0, .int 0, .int 0, .int 0, .long 0, .int 0, .ref (u 5), .ref (u 6), .int 0, .int 0, .int 0, .long 0, .long 0, .ref (u 7), .ref (u 8), .ref (u 9), .ref (u 10), .ref (u 11), .ref (u 12), .ref (u 13), .ref (u 14), .ref (u 15), .ref (u 16), .ref (u 17), .ref (u 18), .ref (u 19), .ref (u 20), .int 0, .int 0, .int 0, .int 0, .int 0, .int 0, .int 0, .int 0, .int 0, .int (-1), .int (-1), .int (-1), .int 0, .int 0, .int 0, .int 0, .int 0, .int 0, .int 0, .int 0, .ref (u 21), .ref (u 22), .ref (u 23), .ref (u 24), .ref (u 25), .ref (u 26), .int 0, .long 0]))] sz) := by
  refine Met.ofW (cc := cX7_waits) (maxL := 2) (ret := (some .long)) (by decide) rfl ?_
  intro p e s m args below meth c s₁ B hml hv
  obtain ⟨rfl, hsz, ⟨hP, hK, hN⟩, hD0⟩ := hv
  have hx := B.exec
  have hb := B.bytes
  have hr := B.returns
  have hts := atoms_spec (ws := v_m_waits) B.pre
  have hown : s.vm.findClass RX7 = some m.cls := findClass_of_methodNamed B.named
  have hlocks := B.notSynchronized
  subst hsz
  have hD := hD0.self (sz := s.heap.size)
  generalize hAe : va_A [(h0, .inr (6, [.int 0, .ref (u 0), .ref (u 1), .ref (u 2), .int 0, .ref (u 3), .ref (u 4), .int 0, .int 0, .int 0, .int 0, .int 0, .long 0, .int 0, .int 0, .int 0, .int 0, .long 0, .int 0, .ref (u 5), .ref (u 6), .int 0, .int 0, .int 0, .long 0, .long 0, .ref (u 7), .ref (u 8), .ref (u 9), .ref (u 10), .ref (u 11), .ref (u 12), .ref (u 13), .ref (u 14), .ref (u 15), .ref (u 16), .ref (u 17), .ref (u 18), .ref (u 19), .ref (u 20), .int 0, .int 0, .int 0, .int 0, .int 0, .int 0, .int 0, .int 0, .int 0, .int (-1), .int (-1), .int (-1), .int 0, .int 0, .int 0, .int 0, .int 0, .int 0, .int 0, .int 0, .ref (u 21), .ref (u 22), .ref (u 23), .ref (u 24), .ref (u 25), .ref (u 26), .int 0, .long 0]))] s.heap.size = A at hD ⊢
  have hA : ∀ q : Nat, s.heap.size ≤ q → A q := fun q h => by rw [← hAe]; exact Or.inr h
  have hS : va_S A s.heap s.heap [] := va_S.rf
  have hP : va_P G vwCl [(h0, .inr (6, [.int 0, .ref (u 0), .ref (u 1), .ref (u 2), .int 0, .ref (u 3), .ref (u 4), .int 0, .int 0, .int 0, .int 0, .int 0, .long 0, .int 0, .int 0, .int 0, .int 0, .long 0, .int 0, .ref (u 5), .ref (u 6), .int 0, .int 0, .int 0, .long 0, .long 0, .ref (u 7), .ref (u 8), .ref (u 9), .ref (u 10), .ref (u 11), .ref (u 12), .ref (u 13), .ref (u 14), .ref (u 15), .ref (u 16), .ref (u 17), .ref (u 18), .ref (u 19), .ref (u 20), .int 0, .int 0, .int 0, .int 0, .int 0, .int 0, .int 0, .int 0, .int 0, .int (-1), .int (-1), .int (-1), .int 0, .int 0, .int 0, .int 0, .int 0, .int 0, .int 0, .int 0, .ref (u 21), .ref (u 22), .ref (u 23), .ref (u 24), .ref (u 25), .ref (u 26), .int 0, .long 0]))] s.heap := hP
  have hl := lv_entry ([.ref h0, .int p0]) (n := 2) (Nat.le_of_ble_eq_true rfl)
  rw [lg_entry_eq]
  generalize (lg_sl ([.ref h0, .int p0]) ++ List.replicate (2 - (lg_sl ([.ref h0, .int p0])).length) Slot.unset).toArray = ls at hl ⊢
  have hl : lv_has ls 2 [(0, .ref h0), (1, .int p0)] := hl
  refine lv_aload_n hx hb dX7_waits_0 rfl (lv_at hl 0 rfl) ?_
  refine lv_iconst (v := 0) hx hb dX7_waits_1 (by decide) ?_
  refine va_put (D := G) (ci := 6) (v := .int 0) (ty := .int) (C := RX7) (T := TX7) (N := 68) hx hb hts i_m_waits_X7 tyX7 tyX7_ok nmX7 hown hK hP hD hS 0 rfl rfl 0 (by decide) (hts (.fieldLink RX7 103 "TileHouseModel" "thrown" "I") (by decide +kernel)) (fun _ h9 => h9) rfl (by decide +kernel) rfl rfl (Nat.le_of_ble_eq_true rfl) dX7_waits_2 (fun H locs hP hD hS => ?_)
  replace hP : va_P G vwCl [(h0, .inr (6, [.int 0, .ref (u 0), .ref (u 1), .ref (u 2), .int 0, .ref (u 3), .ref (u 4), .int 0, .int 0, .int 0, .int 0, .int 0, .long 0, .int 0, .int 0, .int 0, .int 0, .long 0, .int 0, .ref (u 5), .ref (u 6), .int 0, .int 0, .int 0, .long 0, .long 0, .ref (u 7), .ref (u 8), .ref (u 9), .ref (u 10), .ref (u 11), .ref (u 12), .ref (u 13), .ref (u 14), .ref (u 15), .ref (u 16), .ref (u 17), .ref (u 18), .ref (u 19), .ref (u 20), .int 0, .int 0, .int 0, .int 0, .int 0, .int 0, .int 0, .int 0, .int 0, .int (-1), .int (-1), .int (-1), .int 0, .int 0, .int 0, .int 0, .int 0, .int 0, .int 0, .int 0, .ref (u 21), .ref (u 22), .ref (u 23), .ref (u 24), .ref (u 25), .ref (u 26), .int 0, .long 0]))] H := hP
  replace hD : va_D A [(h0, .inr (6, [.int 0, .ref (u 0), .ref (u 1), .ref (u 2), .int 0, .ref (u 3), .ref (u 4), .int 0, .int 0, .int 0, .int 0, .int 0, .long 0, .int 0, .int 0, .int 0, .int 0, .long 0, .int 0, .ref (u 5), .ref (u 6), .int 0, .int 0, .int 0, .long 0, .long 0, .ref (u 7), .ref (u 8), .ref (u 9), .ref (u 10), .ref (u 11), .ref (u 12), .ref (u 13), .ref (u 14), .ref (u 15), .ref (u 16), .ref (u 17), .ref (u 18), .ref (u 19), .ref (u 20), .int 0, .int 0, .int 0, .int 0, .int 0, .int 0, .int 0, .int 0, .int 0, .int (-1), .int (-1), .int (-1), .int 0, .int 0, .int 0, .int 0, .int 0, .int 0, .int 0, .int 0, .ref (u 21), .ref (u 22), .ref (u 23), .ref (u 24), .ref (u 25), .ref (u 26), .int 0, .long 0]))] := hD
  refine lv_iload_n hx hb dX7_waits_5 rfl (lv_at hl 1 rfl) ?_
  have hPc := hP.sub (ws' := []) [] rfl
  refine q_calli (va_runS (As := [.int p0]) (rest := []) ⟨hx, hb, hml, hown, hts⟩ (c_X7_isSeat l G k p0) (cwS 1 hts g_m_waits_c_X7_isSeat_355 rfl rfl rfl (by decide +kernel) ⟨Nat.le_of_ble_eq_true rfl, Nat.le_of_ble_eq_true rfl⟩) ⟨pr_bl, pr_pre hPc hK hN⟩ rfl rfl hl.1 rfl (lv_room (Nat.le_of_ble_eq_true rfl)) dX7_waits_6 ⟨Nat.le_of_ble_eq_true rfl, Nat.le_of_ble_eq_true rfl⟩) (fun r1 hr1 => ?_)
  rcases hr1 with ⟨rfl, h2⟩ | ⟨rfl, h2⟩
  · skip
    refine lv_if_eq (tgt := 35) hx hb dX7_waits_9 (by decide) (fun c9 => absurd c9 (by decide)) (fun _ => ?_)
    refine lv_aload_n hx hb dX7_waits_12 rfl (lv_at hl 0 rfl) ?_
    refine va_get (D := G) (ci := 6) (v := .int 0) (C := RX7) (T := TX7) (N := 68) hx hb hts i_m_waits_X7 hown hK hP 0 rfl rfl 44 (by decide) (hts (.fieldLink RX7 277 "TileHouseModel" "phase" "I") (by decide +kernel)) (fun _ h9 => h9) rfl dX7_waits_13 ?_
    refine lv_if_eq (tgt := 35) hx hb dX7_waits_16 (by decide) (fun _ => ?_) (fun c9 => absurd (by decide) c9)
    refine lv_lconst (v := 0) hx hb dX7_waits_35 (by decide) ?_
    refine W.widen (k := 0) (n := 0) (Nat.le_of_ble_eq_true rfl) (Nat.le_of_ble_eq_true rfl) ?_
    exact W.lret (v := 0) hx hb hr (fun t ht hW => ⟨⟨0, (), rfl, rfl, trivial⟩, hS.F ht⟩) hS.2.2 dX7_waits_36
  · skip
    refine lv_if_eq (tgt := 35) hx hb dX7_waits_9 (by decide) (fun _ => ?_) (fun c9 => absurd (by decide) c9)
    refine lv_lconst (v := 0) hx hb dX7_waits_35 (by decide) ?_
    refine W.widen (k := 0) (n := 0) (Nat.le_of_ble_eq_true rfl) (Nat.le_of_ble_eq_true rfl) ?_
    exact W.lret (v := 0) hx hb hr (fun t ht hW => ⟨⟨0, (), rfl, rfl, trivial⟩, hS.F ht⟩) hS.2.2 dX7_waits_36
def v_m_seat : List Cond := .code yX7_seat cX7_seat 3 (some .int) :: ([.fieldLink RX7 103 "TileHouseModel" "thrown" "I", .methodLink RX7 355 yX7_isSeat, .static yX7_isSeat, .initialized RX7, .fieldLink RX7 40 "TileHouseModel" "points" "[I", .fieldLink RX7 58 "TileHouseModel" "bet" "[I", .fieldLink RX7 68 "TileHouseModel" "letGo" "[Z", .methodLink RX7 283 yX7_windOf, .instanceMethod yX7_windOf, .selects RX7 yX7_windOf yX7_windOf, .fieldLink RX7 55 "TileHouseModel" "riverMany" "[I", .fieldLink RX7 49 "TileHouseModel" "setMany" "[I", .methodLink RX7 332 yX7_isOpen_, .instanceMethod yX7_isOpen_, .selects RX7 yX7_isOpen_ yX7_isOpen_, .fieldLink RX7 71 "TileHouseModel" "says" "[Z"] ++ (wsX70 ++ (v_c_X7_isSeat ++ (v_m_windOf ++ (v_m_isOpen ++ ([]))))))
theorem vg_m_seat : ∀ w ∈ v_m_seat, goodWord w = true := vg_c (c := .code yX7_seat cX7_seat 3 (some .int)) (l := [.fieldLink RX7 103 "TileHouseModel" "thrown" "I", .methodLink RX7 355 yX7_isSeat, .static yX7_isSeat, .initialized RX7, .fieldLink RX7 40 "TileHouseModel" "points" "[I", .fieldLink RX7 58 "TileHouseModel" "bet" "[I", .fieldLink RX7 68 "TileHouseModel" "letGo" "[Z", .methodLink RX7 283 yX7_windOf, .instanceMethod yX7_windOf, .selects RX7 yX7_windOf yX7_windOf, .fieldLink RX7 55 "TileHouseModel" "riverMany" "[I", .fieldLink RX7 49 "TileHouseModel" "setMany" "[I", .methodLink RX7 332 yX7_isOpen_, .instanceMethod yX7_isOpen_, .selects RX7 yX7_isOpen_ yX7_isOpen_, .fieldLink RX7 71 "TileHouseModel" "says" "[Z"]) (by decide +kernel) (vg_a vgX7 (vg_a vg_c_X7_isSeat (vg_a vg_m_windOf (vg_a vg_m_isOpen (vg_nil)))))
theorem i_m_seat_X7 : ∀ w ∈ u_ws RX7 TX7 68, w ∈ v_m_seat := fun _ h => List.mem_cons_of_mem _ (List.mem_append_right _ (List.mem_append_left _ h))
theorem g_m_seat_c_X7_isSeat_355 : GoodIn v_m_seat (wsS RX7 355 yX7_isSeat v_c_X7_isSeat) := goodIn_app (goodIn_of _ (by decide +kernel)) (fun w h => ⟨List.mem_cons_of_mem _ (List.mem_append_right _ (List.mem_append_right _ (List.mem_append_left _ h))), good_of_word (vg_c_X7_isSeat w h)⟩)
theorem g_m_seat_m_windOf_283 : GoodIn v_m_seat (wsV RX7 283 RX7 yX7_windOf v_m_windOf) := goodIn_app (goodIn_of _ (by decide +kernel)) (fun w h => ⟨List.mem_cons_of_mem _ (List.mem_append_right _ (List.mem_append_right _ (List.mem_append_right _ (List.mem_append_left _ h)))), good_of_word (vg_m_windOf w h)⟩)
theorem g_m_seat_m_isOpen_332 : GoodIn v_m_seat (wsV RX7 332 RX7 yX7_isOpen_ v_m_isOpen) := goodIn_app (goodIn_of _ (by decide +kernel)) (fun w h => ⟨List.mem_cons_of_mem _ (List.mem_append_right _ (List.mem_append_right _ (List.mem_append_right _ (List.mem_append_right _ (List.mem_append_left _ h))))), good_of_word (vg_m_isOpen w h)⟩)
set_option maxHeartbeats 4000000 in
set_option maxRecDepth 100000 in
theorem m_seat (l : Launch) (G : va_G) (k : Nat → ClassId) (sz : Nat) (h0 : Nat) (u : Nat → Nat) (p0 : Int32) (p1 : Int32) : Met l yX7_seat v_m_seat ({ frames := 1, cells := 0, slots := 0, locals := 23 }) (va_Pc [.ref h0, .int p0, .int p1] (pq G k [(h0, .inr (6, [.int 0, .ref (u 0), .ref (u 1), .ref (u 2), .int 0, .ref (u 3), .ref (u 4), .int 0, .int 0, .int 0, .int 0, .int 0, .long 0, .int 0, .int 0, .int 0, .int 0, .long 0, .int 0, .ref (u 5), .ref (u 6), .int 0, .int 0, .int 0, .long 0, .long 0, .ref (u 7), .ref (u 8), .ref (u 9), .ref (u 10), .ref (u 11), .ref (u 12), .ref (u 13), .ref (u 14), .ref (u 15), .ref (u 16), .ref (u 17), .ref (u 18), .ref (u 19), .ref (u 20), .int 0, .int 0, .int 0, .int 0, .int 0, .int 0, .int 0, .int 0, .int 0, .int (-1), .int (-1), .int (-1), .int 0, .int 0, .int 0, .int 0, .int 0, .int 0, .int 0, .int 0, .ref (u 21), .ref (u 22), .ref (u 23), .ref (u 24), .ref (u 25), .ref (u 26), .int 0, .long 0])), ((u 10), .inl (k 0, 4, .inl (upd (upd (upd (upd (fun _ => 0) (0 : Int32).toNatClampNeg 25000) (1 : Int32).toNatClampNeg 25000) (2 : Int32).toNatClampNeg 25000) (3 : Int32).toNatClampNeg 25000))), ((u 16), .inl (k 0, 4, .inl (fun _ => 0))), ((u 19), .inl (k 2, 4, .inl (fun _ => 0))), ((u 20), .inl (k 2, 4, .inl (fun _ => 0))), ((u 15), .inl (k 0, 4, .inl (fun _ => 0))), ((u 13), .inl (k 0, 4, .inl (fun _ => 0)))] sz)) (va_Qi (fun r (_ : Unit) => (vp_in p0 4 ∧ r = seatF p0 p1) ∨ (¬ vp_in p0 4 ∧ r = (-1))) (fun (_ : Unit) _ => True) (va_A [(h0, .inr (6, [.int 0, .ref (u 0), .ref (u 1), .ref (u 2), .int 0, .ref (u 3), .ref (u 4), .int 0, .int 0, .int 0, .int 0, .int 0, .long 0, .int 0, .int 0, .int 0, .int 0, .long 0, .int 0, .ref (u 5), .ref (u 6), .int 0, .int 0, .int 0, .long 0, .long 0, .ref (u 7), .ref (u 8), .ref (u 9), .ref (u 10), .ref (u 11), .ref (u 12), .ref (u 13), .ref (u 14), .ref (u 15), .ref (u 16), .ref (u 17), .ref (u 18), .ref (u 19), .ref (u 20), .int 0, .int 0, .int 0, .int 0, .int 0, .int 0, .int 0, .int 0, .int 0, .int (-1), .int (-1), .int (-1), .int 0, .int 0, .int 0, .int 0, .int 0, .int 0, .int 0, .int 0, .ref (u 21), .ref (u 22), .ref (u 23), .ref (u 24), .ref (u 25), .ref (u 26), .int 0, .long 0])), ((u 10), .inl (k 0, 4, .inl (upd (upd (upd (upd (fun _ => 0) (0 : Int32).toNatClampNeg 25000) (1 : Int32).toNatClampNeg 25000) (2 : Int32).toNatClampNeg 25000) (3 : Int32).toNatClampNeg 25000))), ((u 16), .inl (k 0, 4, .inl (fun _ => 0))), ((u 19), .inl (k 2, 4, .inl (fun _ => 0))), ((u 20), .inl (k 2, 4, .inl (fun _ => 0))), ((u 15), .inl (k 0, 4, .inl (fun _ => 0))), ((u 13), .inl (k 0, 4, .inl (fun _ => 0)))] sz)) 0 0 (va_A [(h0, .inr (6, [.int 0, .ref (u 0), .ref (u 1), .ref (u 2), .int 0, .ref (u 3), .ref (u 4), .int 0, .int 0, .int 0, .int 0, .int 0, .long 0, .int 0, .int 0, .int 0, .int 0, .long 0, .int 0, .ref (u 5), .ref (u 6), .int 0, .int 0, .int 0, .long 0, .long 0, .ref (u 7), .ref (u 8), .ref (u 9), .ref (u 10), .ref (u 11), .ref (u 12), .ref (u 13), .ref (u 14), .ref (u 15), .ref (u 16), .ref (u 17), .ref (u 18), .ref (u 19), .ref (u 20), .int 0, .int 0, .int 0, .int 0, .int 0, .int 0, .int 0, .int 0, .int 0, .int (-1), .int (-1), .int (-1), .int 0, .int 0, .int 0, .int 0, .int 0, .int 0, .int 0, .int 0, .ref (u 21), .ref (u 22), .ref (u 23), .ref (u 24), .ref (u 25), .ref (u 26), .int 0, .long 0])), ((u 10), .inl (k 0, 4, .inl (upd (upd (upd (upd (fun _ => 0) (0 : Int32).toNatClampNeg 25000) (1 : Int32).toNatClampNeg 25000) (2 : Int32).toNatClampNeg 25000) (3 : Int32).toNatClampNeg 25000))), ((u 16), .inl (k 0, 4, .inl (fun _ => 0))), ((u 19), .inl (k 2, 4, .inl (fun _ => 0))), ((u 20), .inl (k 2, 4, .inl (fun _ => 0))), ((u 15), .inl (k 0, 4, .inl (fun _ => 0))), ((u 13), .inl (k 0, 4, .inl (fun _ => 0)))] sz) := by
  refine Met.ofW (cc := cX7_seat) (maxL := 3) (ret := (some .int)) (by decide) rfl ?_
  intro p e s m args below meth c s₁ B hml hv
  obtain ⟨rfl, hsz, ⟨hP, hK, hN⟩, hD0⟩ := hv
  have hx := B.exec
  have hb := B.bytes
  have hr := B.returns
  have hts := atoms_spec (ws := v_m_seat) B.pre
  have hown : s.vm.findClass RX7 = some m.cls := findClass_of_methodNamed B.named
  have hlocks := B.notSynchronized
  subst hsz
  have hD := hD0.self (sz := s.heap.size)
  generalize hAe : va_A [(h0, .inr (6, [.int 0, .ref (u 0), .ref (u 1), .ref (u 2), .int 0, .ref (u 3), .ref (u 4), .int 0, .int 0, .int 0, .int 0, .int 0, .long 0, .int 0, .int 0, .int 0, .int 0, .long 0, .int 0, .ref (u 5), .ref (u 6), .int 0, .int 0, .int 0, .long 0, .long 0, .ref (u 7), .ref (u 8), .ref (u 9), .ref (u 10), .ref (u 11), .ref (u 12), .ref (u 13), .ref (u 14), .ref (u 15), .ref (u 16), .ref (u 17), .ref (u 18), .ref (u 19), .ref (u 20), .int 0, .int 0, .int 0, .int 0, .int 0, .int 0, .int 0, .int 0, .int 0, .int (-1), .int (-1), .int (-1), .int 0, .int 0, .int 0, .int 0, .int 0, .int 0, .int 0, .int 0, .ref (u 21), .ref (u 22), .ref (u 23), .ref (u 24), .ref (u 25), .ref (u 26), .int 0, .long 0])), ((u 10), .inl (k 0, 4, .inl (upd (upd (upd (upd (fun _ => 0) (0 : Int32).toNatClampNeg 25000) (1 : Int32).toNatClampNeg 25000) (2 : Int32).toNatClampNeg 25000) (3 : Int32).toNatClampNeg 25000))), ((u 16), .inl (k 0, 4, .inl (fun _ => 0))), ((u 19), .inl (k 2, 4, .inl (fun _ => 0))), ((u 20), .inl (k 2, 4, .inl (fun _ => 0))), ((u 15), .inl (k 0, 4, .inl (fun _ => 0))), ((u 13), .inl (k 0, 4, .inl (fun _ => 0)))] s.heap.size = A at hD ⊢
  have hA : ∀ q : Nat, s.heap.size ≤ q → A q := fun q h => by rw [← hAe]; exact Or.inr h
  have hS : va_S A s.heap s.heap [] := va_S.rf
  have hP : va_P G vwCl [(h0, .inr (6, [.int 0, .ref (u 0), .ref (u 1), .ref (u 2), .int 0, .ref (u 3), .ref (u 4), .int 0, .int 0, .int 0, .int 0, .int 0, .long 0, .int 0, .int 0, .int 0, .int 0, .long 0, .int 0, .ref (u 5), .ref (u 6), .int 0, .int 0, .int 0, .long 0, .long 0, .ref (u 7), .ref (u 8), .ref (u 9), .ref (u 10), .ref (u 11), .ref (u 12), .ref (u 13), .ref (u 14), .ref (u 15), .ref (u 16), .ref (u 17), .ref (u 18), .ref (u 19), .ref (u 20), .int 0, .int 0, .int 0, .int 0, .int 0, .int 0, .int 0, .int 0, .int 0, .int (-1), .int (-1), .int (-1), .int 0, .int 0, .int 0, .int 0, .int 0, .int 0, .int 0, .int 0, .ref (u 21), .ref (u 22), .ref (u 23), .ref (u 24), .ref (u 25), .ref (u 26), .int 0, .long 0])), ((u 10), .inl (k 0, 4, .inl (upd (upd (upd (upd (fun _ => 0) (0 : Int32).toNatClampNeg 25000) (1 : Int32).toNatClampNeg 25000) (2 : Int32).toNatClampNeg 25000) (3 : Int32).toNatClampNeg 25000))), ((u 16), .inl (k 0, 4, .inl (fun _ => 0))), ((u 19), .inl (k 2, 4, .inl (fun _ => 0))), ((u 20), .inl (k 2, 4, .inl (fun _ => 0))), ((u 15), .inl (k 0, 4, .inl (fun _ => 0))), ((u 13), .inl (k 0, 4, .inl (fun _ => 0)))] s.heap := hP
  have hl := lv_entry ([.ref h0, .int p0, .int p1]) (n := 3) (Nat.le_of_ble_eq_true rfl)
  rw [lg_entry_eq]
  generalize (lg_sl ([.ref h0, .int p0, .int p1]) ++ List.replicate (3 - (lg_sl ([.ref h0, .int p0, .int p1])).length) Slot.unset).toArray = ls at hl ⊢
  have hl : lv_has ls 3 [(0, .ref h0), (1, .int p0), (2, .int p1)] := hl
  refine lv_aload_n hx hb dX7_seat_0 rfl (lv_at hl 0 rfl) ?_
  refine lv_iconst (v := 0) hx hb dX7_seat_1 (by decide) ?_
  refine va_put (D := G) (ci := 6) (v := .int 0) (ty := .int) (C := RX7) (T := TX7) (N := 68) hx hb hts i_m_seat_X7 tyX7 tyX7_ok nmX7 hown hK hP hD hS 0 rfl rfl 0 (by decide) (hts (.fieldLink RX7 103 "TileHouseModel" "thrown" "I") (by decide +kernel)) (fun _ h9 => h9) rfl (by decide +kernel) rfl rfl (Nat.le_of_ble_eq_true rfl) dX7_seat_2 (fun H locs hP hD hS => ?_)
  replace hP : va_P G vwCl [(h0, .inr (6, [.int 0, .ref (u 0), .ref (u 1), .ref (u 2), .int 0, .ref (u 3), .ref (u 4), .int 0, .int 0, .int 0, .int 0, .int 0, .long 0, .int 0, .int 0, .int 0, .int 0, .long 0, .int 0, .ref (u 5), .ref (u 6), .int 0, .int 0, .int 0, .long 0, .long 0, .ref (u 7), .ref (u 8), .ref (u 9), .ref (u 10), .ref (u 11), .ref (u 12), .ref (u 13), .ref (u 14), .ref (u 15), .ref (u 16), .ref (u 17), .ref (u 18), .ref (u 19), .ref (u 20), .int 0, .int 0, .int 0, .int 0, .int 0, .int 0, .int 0, .int 0, .int 0, .int (-1), .int (-1), .int (-1), .int 0, .int 0, .int 0, .int 0, .int 0, .int 0, .int 0, .int 0, .ref (u 21), .ref (u 22), .ref (u 23), .ref (u 24), .ref (u 25), .ref (u 26), .int 0, .long 0])), ((u 10), .inl (k 0, 4, .inl (upd (upd (upd (upd (fun _ => 0) (0 : Int32).toNatClampNeg 25000) (1 : Int32).toNatClampNeg 25000) (2 : Int32).toNatClampNeg 25000) (3 : Int32).toNatClampNeg 25000))), ((u 16), .inl (k 0, 4, .inl (fun _ => 0))), ((u 19), .inl (k 2, 4, .inl (fun _ => 0))), ((u 20), .inl (k 2, 4, .inl (fun _ => 0))), ((u 15), .inl (k 0, 4, .inl (fun _ => 0))), ((u 13), .inl (k 0, 4, .inl (fun _ => 0)))] H := hP
  replace hD : va_D A [(h0, .inr (6, [.int 0, .ref (u 0), .ref (u 1), .ref (u 2), .int 0, .ref (u 3), .ref (u 4), .int 0, .int 0, .int 0, .int 0, .int 0, .long 0, .int 0, .int 0, .int 0, .int 0, .long 0, .int 0, .ref (u 5), .ref (u 6), .int 0, .int 0, .int 0, .long 0, .long 0, .ref (u 7), .ref (u 8), .ref (u 9), .ref (u 10), .ref (u 11), .ref (u 12), .ref (u 13), .ref (u 14), .ref (u 15), .ref (u 16), .ref (u 17), .ref (u 18), .ref (u 19), .ref (u 20), .int 0, .int 0, .int 0, .int 0, .int 0, .int 0, .int 0, .int 0, .int 0, .int (-1), .int (-1), .int (-1), .int 0, .int 0, .int 0, .int 0, .int 0, .int 0, .int 0, .int 0, .ref (u 21), .ref (u 22), .ref (u 23), .ref (u 24), .ref (u 25), .ref (u 26), .int 0, .long 0])), ((u 10), .inl (k 0, 4, .inl (upd (upd (upd (upd (fun _ => 0) (0 : Int32).toNatClampNeg 25000) (1 : Int32).toNatClampNeg 25000) (2 : Int32).toNatClampNeg 25000) (3 : Int32).toNatClampNeg 25000))), ((u 16), .inl (k 0, 4, .inl (fun _ => 0))), ((u 19), .inl (k 2, 4, .inl (fun _ => 0))), ((u 20), .inl (k 2, 4, .inl (fun _ => 0))), ((u 15), .inl (k 0, 4, .inl (fun _ => 0))), ((u 13), .inl (k 0, 4, .inl (fun _ => 0)))] := hD
  refine lv_iload_n hx hb dX7_seat_5 rfl (lv_at hl 1 rfl) ?_
  have hPc := hP.sub (ws' := []) [] rfl
  refine q_calli (va_runS (As := [.int p0]) (rest := []) ⟨hx, hb, hml, hown, hts⟩ (c_X7_isSeat l G k p0) (cwS 1 hts g_m_seat_c_X7_isSeat_355 rfl rfl rfl (by decide +kernel) ⟨Nat.le_of_ble_eq_true rfl, Nat.le_of_ble_eq_true rfl⟩) ⟨pr_bl, pr_pre hPc hK hN⟩ rfl rfl hl.1 rfl (lv_room (Nat.le_of_ble_eq_true rfl)) dX7_seat_6 ⟨Nat.le_of_ble_eq_true rfl, Nat.le_of_ble_eq_true rfl⟩) (fun r1 hr1 => ?_)
  rcases hr1 with ⟨rfl, h2⟩ | ⟨rfl, h2⟩
  · skip
    refine lv_if_ne (tgt := 14) hx hb dX7_seat_9 (by decide) (fun _ => ?_) (fun c9 => absurd c9 (by decide))
    refine lv_iload_n hx hb dX7_seat_14 rfl (lv_at hl 2 rfl) ?_
    rcases tsw7 p1 with hO | rfl | rfl | rfl | rfl | rfl | rfl | rfl | rfl
    · skip
      refine lv_tableOut (tgt := 138) hx hb dX7_seat_15 hO (by decide) ?_
      refine lv_iconst (v := (-1)) hx hb dX7_seat_138 (by decide) ?_
      refine W.widen (k := 0) (n := 0) (Nat.le_of_ble_eq_true rfl) (Nat.le_of_ble_eq_true rfl) ?_
      exact W.iret (v := (-1)) hx hb hr (fun t ht hW => ⟨⟨(-1), (), rfl, Or.inl ⟨h2, (seatF_out hO).symm⟩, trivial⟩, hS.F ht⟩) hS.2.2 dX7_seat_139
    · skip
      refine lv_tableIn (tgt := 60) hx hb dX7_seat_15 (by decide) (by decide) rfl (by decide) ?_
      refine lv_aload_n hx hb dX7_seat_60 rfl (lv_at hl 0 rfl) ?_
      refine va_get (D := G) (ci := 6) (v := .ref (u 10)) (C := RX7) (T := TX7) (N := 68) hx hb hts i_m_seat_X7 hown hK hP 0 rfl rfl 29 (by decide) (hts (.fieldLink RX7 40 "TileHouseModel" "points" "[I") (by decide +kernel)) (fun _ h9 => h9) rfl dX7_seat_61 ?_
      refine lv_iload_n hx hb dX7_seat_64 rfl (lv_at hl 1 rfl) ?_
      refine va_iald hx hb hK hP 1 0 rfl rfl h2 dX7_seat_65 ?_
      refine lv_topi (fun z3 ez3 => ?_)
      obtain rfl : z3 = 25000 := ez3.trans (ptsF h2)
      refine W.widen (k := 0) (n := 0) (Nat.le_of_ble_eq_true rfl) (Nat.le_of_ble_eq_true rfl) ?_
      exact W.iret (v := 25000) hx hb hr (fun t ht hW => ⟨⟨25000, (), rfl, Or.inl ⟨h2, rfl⟩, trivial⟩, hS.F ht⟩) hS.2.2 dX7_seat_66
    · skip
      refine lv_tableIn (tgt := 67) hx hb dX7_seat_15 (by decide) (by decide) rfl (by decide) ?_
      refine lv_aload_n hx hb dX7_seat_67 rfl (lv_at hl 0 rfl) ?_
      refine va_get (D := G) (ci := 6) (v := .ref (u 16)) (C := RX7) (T := TX7) (N := 68) hx hb hts i_m_seat_X7 hown hK hP 0 rfl rfl 35 (by decide) (hts (.fieldLink RX7 58 "TileHouseModel" "bet" "[I") (by decide +kernel)) (fun _ h9 => h9) rfl dX7_seat_68 ?_
      refine lv_iload_n hx hb dX7_seat_71 rfl (lv_at hl 1 rfl) ?_
      refine va_iald hx hb hK hP 2 0 rfl rfl h2 dX7_seat_72 ?_
      refine lv_topi (fun z4 ez4 => ?_)
      obtain rfl : z4 = 0 := ez4.trans rfl
      refine W.widen (k := 0) (n := 0) (Nat.le_of_ble_eq_true rfl) (Nat.le_of_ble_eq_true rfl) ?_
      exact W.iret (v := 0) hx hb hr (fun t ht hW => ⟨⟨0, (), rfl, Or.inl ⟨h2, rfl⟩, trivial⟩, hS.F ht⟩) hS.2.2 dX7_seat_73
    · skip
      refine lv_tableIn (tgt := 74) hx hb dX7_seat_15 (by decide) (by decide) rfl (by decide) ?_
      refine lv_aload_n hx hb dX7_seat_74 rfl (lv_at hl 0 rfl) ?_
      refine va_get (D := G) (ci := 6) (v := .ref (u 19)) (C := RX7) (T := TX7) (N := 68) hx hb hts i_m_seat_X7 hown hK hP 0 rfl rfl 38 (by decide) (hts (.fieldLink RX7 68 "TileHouseModel" "letGo" "[Z") (by decide +kernel)) (fun _ h9 => h9) rfl dX7_seat_75 ?_
      refine lv_iload_n hx hb dX7_seat_78 rfl (lv_at hl 1 rfl) ?_
      refine va_zald hx hb hK hP 3 2 rfl rfl h2 dX7_seat_79 ?_
      refine lv_topi (fun z5 ez5 => ?_)
      obtain rfl : z5 = 0 := ez5.trans rfl
      refine lv_if_eq (tgt := 87) hx hb dX7_seat_80 (by decide) (fun _ => ?_) (fun c9 => absurd (by decide) c9)
      refine lv_iconst (v := 0) hx hb dX7_seat_87 (by decide) ?_
      refine W.widen (k := 0) (n := 0) (Nat.le_of_ble_eq_true rfl) (Nat.le_of_ble_eq_true rfl) ?_
      exact W.iret (v := 0) hx hb hr (fun t ht hW => ⟨⟨0, (), rfl, Or.inl ⟨h2, rfl⟩, trivial⟩, hS.F ht⟩) hS.2.2 dX7_seat_88
    · skip
      refine lv_tableIn (tgt := 89) hx hb dX7_seat_15 (by decide) (by decide) rfl (by decide) ?_
      refine lv_aload_n hx hb dX7_seat_89 rfl (lv_at hl 0 rfl) ?_
      refine lv_iload_n hx hb dX7_seat_90 rfl (lv_at hl 1 rfl) ?_
      have hPc := hP.sub (ws' := [(h0, .inr (6, [.int 0, .ref (u 0), .ref (u 1), .ref (u 2), .int 0, .ref (u 3), .ref (u 4), .int 0, .int 0, .int 0, .int 0, .int 0, .long 0, .int 0, .int 0, .int 0, .int 0, .long 0, .int 0, .ref (u 5), .ref (u 6), .int 0, .int 0, .int 0, .long 0, .long 0, .ref (u 7), .ref (u 8), .ref (u 9), .ref (u 10), .ref (u 11), .ref (u 12), .ref (u 13), .ref (u 14), .ref (u 15), .ref (u 16), .ref (u 17), .ref (u 18), .ref (u 19), .ref (u 20), .int 0, .int 0, .int 0, .int 0, .int 0, .int 0, .int 0, .int 0, .int 0, .int (-1), .int (-1), .int (-1), .int 0, .int 0, .int 0, .int 0, .int 0, .int 0, .int 0, .int 0, .ref (u 21), .ref (u 22), .ref (u 23), .ref (u 24), .ref (u 25), .ref (u 26), .int 0, .long 0]))]) [0] rfl
      refine q_calli (va_runV (As := [.int p0]) (rest := []) ⟨hx, hb, hml, hown, hts⟩ (m_windOf l G k h0 u p0) (cwV 1 hts g_m_seat_m_windOf_283 rfl rfl rfl (by decide +kernel) ⟨Nat.le_of_ble_eq_true rfl, Nat.le_of_ble_eq_true rfl⟩) ⟨pr_bl, va_recv hK hPc (ci := 6) (q0 := 0) rfl rfl, pr_pre hPc hK hN⟩ rfl rfl hl.1 rfl (lv_room (Nat.le_of_ble_eq_true rfl)) dX7_seat_91 ⟨Nat.le_of_ble_eq_true rfl, Nat.le_of_ble_eq_true rfl⟩) (fun r6 hr6 => ?_)
      refine W.widen (k := 0) (n := 0) (Nat.le_of_ble_eq_true rfl) (Nat.le_of_ble_eq_true rfl) ?_
      exact W.iret (v := r6) hx hb hr (fun t ht hW => ⟨⟨r6, (), rfl, Or.inl ⟨h2, hr6.trans (wind4 h2)⟩, trivial⟩, hS.F ht⟩) hS.2.2 dX7_seat_94
    · skip
      refine lv_tableIn (tgt := 95) hx hb dX7_seat_15 (by decide) (by decide) rfl (by decide) ?_
      refine lv_aload_n hx hb dX7_seat_95 rfl (lv_at hl 0 rfl) ?_
      refine va_get (D := G) (ci := 6) (v := .ref (u 15)) (C := RX7) (T := TX7) (N := 68) hx hb hts i_m_seat_X7 hown hK hP 0 rfl rfl 34 (by decide) (hts (.fieldLink RX7 55 "TileHouseModel" "riverMany" "[I") (by decide +kernel)) (fun _ h9 => h9) rfl dX7_seat_96 ?_
      refine lv_iload_n hx hb dX7_seat_99 rfl (lv_at hl 1 rfl) ?_
      refine va_iald hx hb hK hP 5 0 rfl rfl h2 dX7_seat_100 ?_
      refine lv_topi (fun z7 ez7 => ?_)
      obtain rfl : z7 = 0 := ez7.trans rfl
      refine W.widen (k := 0) (n := 0) (Nat.le_of_ble_eq_true rfl) (Nat.le_of_ble_eq_true rfl) ?_
      exact W.iret (v := 0) hx hb hr (fun t ht hW => ⟨⟨0, (), rfl, Or.inl ⟨h2, rfl⟩, trivial⟩, hS.F ht⟩) hS.2.2 dX7_seat_101
    · skip
      refine lv_tableIn (tgt := 102) hx hb dX7_seat_15 (by decide) (by decide) rfl (by decide) ?_
      refine lv_aload_n hx hb dX7_seat_102 rfl (lv_at hl 0 rfl) ?_
      refine va_get (D := G) (ci := 6) (v := .ref (u 13)) (C := RX7) (T := TX7) (N := 68) hx hb hts i_m_seat_X7 hown hK hP 0 rfl rfl 32 (by decide) (hts (.fieldLink RX7 49 "TileHouseModel" "setMany" "[I") (by decide +kernel)) (fun _ h9 => h9) rfl dX7_seat_103 ?_
      refine lv_iload_n hx hb dX7_seat_106 rfl (lv_at hl 1 rfl) ?_
      refine va_iald hx hb hK hP 6 0 rfl rfl h2 dX7_seat_107 ?_
      refine lv_topi (fun z8 ez8 => ?_)
      obtain rfl : z8 = 0 := ez8.trans rfl
      refine W.widen (k := 0) (n := 0) (Nat.le_of_ble_eq_true rfl) (Nat.le_of_ble_eq_true rfl) ?_
      exact W.iret (v := 0) hx hb hr (fun t ht hW => ⟨⟨0, (), rfl, Or.inl ⟨h2, rfl⟩, trivial⟩, hS.F ht⟩) hS.2.2 dX7_seat_108
    · skip
      refine lv_tableIn (tgt := 109) hx hb dX7_seat_15 (by decide) (by decide) rfl (by decide) ?_
      refine lv_aload_n hx hb dX7_seat_109 rfl (lv_at hl 0 rfl) ?_
      refine lv_iload_n hx hb dX7_seat_110 rfl (lv_at hl 1 rfl) ?_
      have hPc := hP.sub (ws' := [(h0, .inr (6, [.int 0, .ref (u 0), .ref (u 1), .ref (u 2), .int 0, .ref (u 3), .ref (u 4), .int 0, .int 0, .int 0, .int 0, .int 0, .long 0, .int 0, .int 0, .int 0, .int 0, .long 0, .int 0, .ref (u 5), .ref (u 6), .int 0, .int 0, .int 0, .long 0, .long 0, .ref (u 7), .ref (u 8), .ref (u 9), .ref (u 10), .ref (u 11), .ref (u 12), .ref (u 13), .ref (u 14), .ref (u 15), .ref (u 16), .ref (u 17), .ref (u 18), .ref (u 19), .ref (u 20), .int 0, .int 0, .int 0, .int 0, .int 0, .int 0, .int 0, .int 0, .int 0, .int (-1), .int (-1), .int (-1), .int 0, .int 0, .int 0, .int 0, .int 0, .int 0, .int 0, .int 0, .ref (u 21), .ref (u 22), .ref (u 23), .ref (u 24), .ref (u 25), .ref (u 26), .int 0, .long 0])), ((u 13), .inl (k 0, 4, .inl (fun _ => 0)))]) [0, 6] rfl
      refine q_calli (va_runV (As := [.int p0]) (rest := []) ⟨hx, hb, hml, hown, hts⟩ (m_isOpen l G k h0 u p0 h2) (cwV 1 hts g_m_seat_m_isOpen_332 rfl rfl rfl (by decide +kernel) ⟨Nat.le_of_ble_eq_true rfl, Nat.le_of_ble_eq_true rfl⟩) ⟨pr_bl, va_recv hK hPc (ci := 6) (q0 := 0) rfl rfl, pr_pre hPc hK hN⟩ rfl rfl hl.1 rfl (lv_room (Nat.le_of_ble_eq_true rfl)) dX7_seat_111 ⟨Nat.le_of_ble_eq_true rfl, Nat.le_of_ble_eq_true rfl⟩) (fun r9 hr9 => ?_)
      obtain rfl : r9 = 0 := hr9
      refine lv_if_eq (tgt := 121) hx hb dX7_seat_114 (by decide) (fun _ => ?_) (fun c9 => absurd (by decide) c9)
      refine lv_iconst (v := 0) hx hb dX7_seat_121 (by decide) ?_
      refine W.widen (k := 0) (n := 0) (Nat.le_of_ble_eq_true rfl) (Nat.le_of_ble_eq_true rfl) ?_
      exact W.iret (v := 0) hx hb hr (fun t ht hW => ⟨⟨0, (), rfl, Or.inl ⟨h2, rfl⟩, trivial⟩, hS.F ht⟩) hS.2.2 dX7_seat_122
    · skip
      refine lv_tableIn (tgt := 123) hx hb dX7_seat_15 (by decide) (by decide) rfl (by decide) ?_
      refine lv_aload_n hx hb dX7_seat_123 rfl (lv_at hl 0 rfl) ?_
      refine va_get (D := G) (ci := 6) (v := .ref (u 20)) (C := RX7) (T := TX7) (N := 68) hx hb hts i_m_seat_X7 hown hK hP 0 rfl rfl 39 (by decide) (hts (.fieldLink RX7 71 "TileHouseModel" "says" "[Z") (by decide +kernel)) (fun _ h9 => h9) rfl dX7_seat_124 ?_
      refine lv_iload_n hx hb dX7_seat_127 rfl (lv_at hl 1 rfl) ?_
      refine va_zald hx hb hK hP 4 2 rfl rfl h2 dX7_seat_128 ?_
      refine lv_topi (fun z10 ez10 => ?_)
      obtain rfl : z10 = 0 := ez10.trans rfl
      refine lv_if_eq (tgt := 136) hx hb dX7_seat_129 (by decide) (fun _ => ?_) (fun c9 => absurd (by decide) c9)
      refine lv_iconst (v := 0) hx hb dX7_seat_136 (by decide) ?_
      refine W.widen (k := 0) (n := 0) (Nat.le_of_ble_eq_true rfl) (Nat.le_of_ble_eq_true rfl) ?_
      exact W.iret (v := 0) hx hb hr (fun t ht hW => ⟨⟨0, (), rfl, Or.inl ⟨h2, rfl⟩, trivial⟩, hS.F ht⟩) hS.2.2 dX7_seat_137
  · skip
    refine lv_if_ne (tgt := 14) hx hb dX7_seat_9 (by decide) (fun c9 => absurd (by decide) c9) (fun _ => ?_)
    refine lv_iconst (v := (-1)) hx hb dX7_seat_12 (by decide) ?_
    refine W.widen (k := 0) (n := 0) (Nat.le_of_ble_eq_true rfl) (Nat.le_of_ble_eq_true rfl) ?_
    exact W.iret (v := (-1)) hx hb hr (fun t ht hW => ⟨⟨(-1), (), rfl, Or.inr ⟨h2, rfl⟩, trivial⟩, hS.F ht⟩) hS.2.2 dX7_seat_13
def v_m_won : List Cond := .code yX7_won cX7_won 3 (some .int) :: ([.fieldLink RX7 103 "TileHouseModel" "thrown" "I", .fieldLink RX7 317 "TileHouseModel" "wins" "I"] ++ (wsX70 ++ ([])))
theorem vg_m_won : ∀ w ∈ v_m_won, goodWord w = true := vg_c (c := .code yX7_won cX7_won 3 (some .int)) (l := [.fieldLink RX7 103 "TileHouseModel" "thrown" "I", .fieldLink RX7 317 "TileHouseModel" "wins" "I"]) (by decide +kernel) (vg_a vgX7 (vg_nil))
theorem i_m_won_X7 : ∀ w ∈ u_ws RX7 TX7 68, w ∈ v_m_won := fun _ h => List.mem_cons_of_mem _ (List.mem_append_right _ (List.mem_append_left _ h))
set_option maxHeartbeats 4000000 in
set_option maxRecDepth 100000 in
theorem m_won (l : Launch) (G : va_G) (k : Nat → ClassId) (sz : Nat) (h0 : Nat) (u : Nat → Nat) (p0 : Int32) (p1 : Int32) : Met l yX7_won v_m_won ({ frames := 0, cells := 0, slots := 0, locals := 0 }) (va_Pc [.ref h0, .int p0, .int p1] (pq G k [(h0, .inr (6, [.int 0, .ref (u 0), .ref (u 1), .ref (u 2), .int 0, .ref (u 3), .ref (u 4), .int 0, .int 0, .int 0, .int 0, .int 0, .long 0, .int 0, .int 0, .int 0, .int 0, .long 0, .int 0, .ref (u 5), .ref (u 6), .int 0, .int 0, .int 0, .long 0, .long 0, .ref (u 7), .ref (u 8), .ref (u 9), .ref (u 10), .ref (u 11), .ref (u 12), .ref (u 13), .ref (u 14), .ref (u 15), .ref (u 16), .ref (u 17), .ref (u 18), .ref (u 19), .ref (u 20), .int 0, .int 0, .int 0, .int 0, .int 0, .int 0, .int 0, .int 0, .int 0, .int (-1), .int (-1), .int (-1), .int 0, .int 0, .int 0, .int 0, .int 0, .int 0, .int 0, .int 0, .ref (u 21), .ref (u 22), .ref (u 23), .ref (u 24), .ref (u 25), .ref (u 26), .int 0, .long 0]))] sz)) (va_Qi (fun r (_ : Unit) => r = (-1)) (fun (_ : Unit) _ => True) (va_A [(h0, .inr (6, [.int 0, .ref (u 0), .ref (u 1), .ref (u 2), .int 0, .ref (u 3), .ref (u 4), .int 0, .int 0, .int 0, .int 0, .int 0, .long 0, .int 0, .int 0, .int 0, .int 0, .long 0, .int 0, .ref (u 5), .ref (u 6), .int 0, .int 0, .int 0, .long 0, .long 0, .ref (u 7), .ref (u 8), .ref (u 9), .ref (u 10), .ref (u 11), .ref (u 12), .ref (u 13), .ref (u 14), .ref (u 15), .ref (u 16), .ref (u 17), .ref (u 18), .ref (u 19), .ref (u 20), .int 0, .int 0, .int 0, .int 0, .int 0, .int 0, .int 0, .int 0, .int 0, .int (-1), .int (-1), .int (-1), .int 0, .int 0, .int 0, .int 0, .int 0, .int 0, .int 0, .int 0, .ref (u 21), .ref (u 22), .ref (u 23), .ref (u 24), .ref (u 25), .ref (u 26), .int 0, .long 0]))] sz)) 0 0 (va_A [(h0, .inr (6, [.int 0, .ref (u 0), .ref (u 1), .ref (u 2), .int 0, .ref (u 3), .ref (u 4), .int 0, .int 0, .int 0, .int 0, .int 0, .long 0, .int 0, .int 0, .int 0, .int 0, .long 0, .int 0, .ref (u 5), .ref (u 6), .int 0, .int 0, .int 0, .long 0, .long 0, .ref (u 7), .ref (u 8), .ref (u 9), .ref (u 10), .ref (u 11), .ref (u 12), .ref (u 13), .ref (u 14), .ref (u 15), .ref (u 16), .ref (u 17), .ref (u 18), .ref (u 19), .ref (u 20), .int 0, .int 0, .int 0, .int 0, .int 0, .int 0, .int 0, .int 0, .int 0, .int (-1), .int (-1), .int (-1), .int 0, .int 0, .int 0, .int 0, .int 0, .int 0, .int 0, .int 0, .ref (u 21), .ref (u 22), .ref (u 23), .ref (u 24), .ref (u 25), .ref (u 26), .int 0, .long 0]))] sz) := by
  refine Met.ofW (cc := cX7_won) (maxL := 3) (ret := (some .int)) (by decide) rfl ?_
  intro p e s m args below meth c s₁ B hml hv
  obtain ⟨rfl, hsz, ⟨hP, hK, hN⟩, hD0⟩ := hv
  have hx := B.exec
  have hb := B.bytes
  have hr := B.returns
  have hts := atoms_spec (ws := v_m_won) B.pre
  have hown : s.vm.findClass RX7 = some m.cls := findClass_of_methodNamed B.named
  have hlocks := B.notSynchronized
  subst hsz
  have hD := hD0.self (sz := s.heap.size)
  generalize hAe : va_A [(h0, .inr (6, [.int 0, .ref (u 0), .ref (u 1), .ref (u 2), .int 0, .ref (u 3), .ref (u 4), .int 0, .int 0, .int 0, .int 0, .int 0, .long 0, .int 0, .int 0, .int 0, .int 0, .long 0, .int 0, .ref (u 5), .ref (u 6), .int 0, .int 0, .int 0, .long 0, .long 0, .ref (u 7), .ref (u 8), .ref (u 9), .ref (u 10), .ref (u 11), .ref (u 12), .ref (u 13), .ref (u 14), .ref (u 15), .ref (u 16), .ref (u 17), .ref (u 18), .ref (u 19), .ref (u 20), .int 0, .int 0, .int 0, .int 0, .int 0, .int 0, .int 0, .int 0, .int 0, .int (-1), .int (-1), .int (-1), .int 0, .int 0, .int 0, .int 0, .int 0, .int 0, .int 0, .int 0, .ref (u 21), .ref (u 22), .ref (u 23), .ref (u 24), .ref (u 25), .ref (u 26), .int 0, .long 0]))] s.heap.size = A at hD ⊢
  have hA : ∀ q : Nat, s.heap.size ≤ q → A q := fun q h => by rw [← hAe]; exact Or.inr h
  have hS : va_S A s.heap s.heap [] := va_S.rf
  have hP : va_P G vwCl [(h0, .inr (6, [.int 0, .ref (u 0), .ref (u 1), .ref (u 2), .int 0, .ref (u 3), .ref (u 4), .int 0, .int 0, .int 0, .int 0, .int 0, .long 0, .int 0, .int 0, .int 0, .int 0, .long 0, .int 0, .ref (u 5), .ref (u 6), .int 0, .int 0, .int 0, .long 0, .long 0, .ref (u 7), .ref (u 8), .ref (u 9), .ref (u 10), .ref (u 11), .ref (u 12), .ref (u 13), .ref (u 14), .ref (u 15), .ref (u 16), .ref (u 17), .ref (u 18), .ref (u 19), .ref (u 20), .int 0, .int 0, .int 0, .int 0, .int 0, .int 0, .int 0, .int 0, .int 0, .int (-1), .int (-1), .int (-1), .int 0, .int 0, .int 0, .int 0, .int 0, .int 0, .int 0, .int 0, .ref (u 21), .ref (u 22), .ref (u 23), .ref (u 24), .ref (u 25), .ref (u 26), .int 0, .long 0]))] s.heap := hP
  have hl := lv_entry ([.ref h0, .int p0, .int p1]) (n := 3) (Nat.le_of_ble_eq_true rfl)
  rw [lg_entry_eq]
  generalize (lg_sl ([.ref h0, .int p0, .int p1]) ++ List.replicate (3 - (lg_sl ([.ref h0, .int p0, .int p1])).length) Slot.unset).toArray = ls at hl ⊢
  have hl : lv_has ls 3 [(0, .ref h0), (1, .int p0), (2, .int p1)] := hl
  refine lv_aload_n hx hb dX7_won_0 rfl (lv_at hl 0 rfl) ?_
  refine lv_iconst (v := 0) hx hb dX7_won_1 (by decide) ?_
  refine va_put (D := G) (ci := 6) (v := .int 0) (ty := .int) (C := RX7) (T := TX7) (N := 68) hx hb hts i_m_won_X7 tyX7 tyX7_ok nmX7 hown hK hP hD hS 0 rfl rfl 0 (by decide) (hts (.fieldLink RX7 103 "TileHouseModel" "thrown" "I") (by decide +kernel)) (fun _ h9 => h9) rfl (by decide +kernel) rfl rfl (Nat.le_of_ble_eq_true rfl) dX7_won_2 (fun H locs hP hD hS => ?_)
  replace hP : va_P G vwCl [(h0, .inr (6, [.int 0, .ref (u 0), .ref (u 1), .ref (u 2), .int 0, .ref (u 3), .ref (u 4), .int 0, .int 0, .int 0, .int 0, .int 0, .long 0, .int 0, .int 0, .int 0, .int 0, .long 0, .int 0, .ref (u 5), .ref (u 6), .int 0, .int 0, .int 0, .long 0, .long 0, .ref (u 7), .ref (u 8), .ref (u 9), .ref (u 10), .ref (u 11), .ref (u 12), .ref (u 13), .ref (u 14), .ref (u 15), .ref (u 16), .ref (u 17), .ref (u 18), .ref (u 19), .ref (u 20), .int 0, .int 0, .int 0, .int 0, .int 0, .int 0, .int 0, .int 0, .int 0, .int (-1), .int (-1), .int (-1), .int 0, .int 0, .int 0, .int 0, .int 0, .int 0, .int 0, .int 0, .ref (u 21), .ref (u 22), .ref (u 23), .ref (u 24), .ref (u 25), .ref (u 26), .int 0, .long 0]))] H := hP
  replace hD : va_D A [(h0, .inr (6, [.int 0, .ref (u 0), .ref (u 1), .ref (u 2), .int 0, .ref (u 3), .ref (u 4), .int 0, .int 0, .int 0, .int 0, .int 0, .long 0, .int 0, .int 0, .int 0, .int 0, .long 0, .int 0, .ref (u 5), .ref (u 6), .int 0, .int 0, .int 0, .long 0, .long 0, .ref (u 7), .ref (u 8), .ref (u 9), .ref (u 10), .ref (u 11), .ref (u 12), .ref (u 13), .ref (u 14), .ref (u 15), .ref (u 16), .ref (u 17), .ref (u 18), .ref (u 19), .ref (u 20), .int 0, .int 0, .int 0, .int 0, .int 0, .int 0, .int 0, .int 0, .int 0, .int (-1), .int (-1), .int (-1), .int 0, .int 0, .int 0, .int 0, .int 0, .int 0, .int 0, .int 0, .ref (u 21), .ref (u 22), .ref (u 23), .ref (u 24), .ref (u 25), .ref (u 26), .int 0, .long 0]))] := hD
  refine lv_iload_n hx hb dX7_won_5 rfl (lv_at hl 1 rfl) ?_
  refine lv_if_lt (tgt := 27) hx hb dX7_won_6 (by decide) (fun c1 => ?_) (fun c1 => ?_)
  · skip
    refine lv_iconst (v := (-1)) hx hb dX7_won_27 (by decide) ?_
    refine lv_goto (tgt := 42) hx hb dX7_won_28 (by decide) ?_
    refine W.widen (k := 0) (n := 0) (Nat.le_of_ble_eq_true rfl) (Nat.le_of_ble_eq_true rfl) ?_
    exact W.iret (v := (-1)) hx hb hr (fun t ht hW => ⟨⟨(-1), (), rfl, rfl, trivial⟩, hS.F ht⟩) hS.2.2 dX7_won_42
  · skip
    refine lv_iload_n hx hb dX7_won_9 rfl (lv_at hl 1 rfl) ?_
    refine lv_aload_n hx hb dX7_won_10 rfl (lv_at hl 0 rfl) ?_
    refine va_get (D := G) (ci := 6) (v := .int 0) (C := RX7) (T := TX7) (N := 68) hx hb hts i_m_won_X7 hown hK hP 0 rfl rfl 53 (by decide) (hts (.fieldLink RX7 317 "TileHouseModel" "wins" "I") (by decide +kernel)) (fun _ h9 => h9) rfl dX7_won_11 ?_
    refine lv_icmp_ge (tgt := 27) hx hb dX7_won_14 (by decide) (fun _ => ?_) (fun c9 => absurd (i_nn (by assumption)) c9)
    refine lv_iconst (v := (-1)) hx hb dX7_won_27 (by decide) ?_
    refine lv_goto (tgt := 42) hx hb dX7_won_28 (by decide) ?_
    refine W.widen (k := 0) (n := 0) (Nat.le_of_ble_eq_true rfl) (Nat.le_of_ble_eq_true rfl) ?_
    exact W.iret (v := (-1)) hx hb hr (fun t ht hW => ⟨⟨(-1), (), rfl, rfl, trivial⟩, hS.F ht⟩) hS.2.2 dX7_won_42
def v_m_forms : List Cond := .code yX7_forms cX7_forms 2 (some .long) :: ([.fieldLink RX7 103 "TileHouseModel" "thrown" "I", .fieldLink RX7 317 "TileHouseModel" "wins" "I"] ++ (wsX70 ++ ([])))
theorem vg_m_forms : ∀ w ∈ v_m_forms, goodWord w = true := vg_c (c := .code yX7_forms cX7_forms 2 (some .long)) (l := [.fieldLink RX7 103 "TileHouseModel" "thrown" "I", .fieldLink RX7 317 "TileHouseModel" "wins" "I"]) (by decide +kernel) (vg_a vgX7 (vg_nil))
theorem i_m_forms_X7 : ∀ w ∈ u_ws RX7 TX7 68, w ∈ v_m_forms := fun _ h => List.mem_cons_of_mem _ (List.mem_append_right _ (List.mem_append_left _ h))
set_option maxHeartbeats 4000000 in
set_option maxRecDepth 100000 in
theorem m_forms (l : Launch) (G : va_G) (k : Nat → ClassId) (sz : Nat) (h0 : Nat) (u : Nat → Nat) (p0 : Int32) : Met l yX7_forms v_m_forms ({ frames := 0, cells := 0, slots := 0, locals := 0 }) (va_Pc [.ref h0, .int p0] (pq G k [(h0, .inr (6, [.int 0, .ref (u 0), .ref (u 1), .ref (u 2), .int 0, .ref (u 3), .ref (u 4), .int 0, .int 0, .int 0, .int 0, .int 0, .long 0, .int 0, .int 0, .int 0, .int 0, .long 0, .int 0, .ref (u 5), .ref (u 6), .int 0, .int 0, .int 0, .long 0, .long 0, .ref (u 7), .ref (u 8), .ref (u 9), .ref (u 10), .ref (u 11), .ref (u 12), .ref (u 13), .ref (u 14), .ref (u 15), .ref (u 16), .ref (u 17), .ref (u 18), .ref (u 19), .ref (u 20), .int 0, .int 0, .int 0, .int 0, .int 0, .int 0, .int 0, .int 0, .int 0, .int (-1), .int (-1), .int (-1), .int 0, .int 0, .int 0, .int 0, .int 0, .int 0, .int 0, .int 0, .ref (u 21), .ref (u 22), .ref (u 23), .ref (u 24), .ref (u 25), .ref (u 26), .int 0, .long 0]))] sz)) (va_Ql (fun r (_ : Unit) => r = 0) (fun (_ : Unit) _ => True) (va_A [(h0, .inr (6, [.int 0, .ref (u 0), .ref (u 1), .ref (u 2), .int 0, .ref (u 3), .ref (u 4), .int 0, .int 0, .int 0, .int 0, .int 0, .long 0, .int 0, .int 0, .int 0, .int 0, .long 0, .int 0, .ref (u 5), .ref (u 6), .int 0, .int 0, .int 0, .long 0, .long 0, .ref (u 7), .ref (u 8), .ref (u 9), .ref (u 10), .ref (u 11), .ref (u 12), .ref (u 13), .ref (u 14), .ref (u 15), .ref (u 16), .ref (u 17), .ref (u 18), .ref (u 19), .ref (u 20), .int 0, .int 0, .int 0, .int 0, .int 0, .int 0, .int 0, .int 0, .int 0, .int (-1), .int (-1), .int (-1), .int 0, .int 0, .int 0, .int 0, .int 0, .int 0, .int 0, .int 0, .ref (u 21), .ref (u 22), .ref (u 23), .ref (u 24), .ref (u 25), .ref (u 26), .int 0, .long 0]))] sz)) 0 0 (va_A [(h0, .inr (6, [.int 0, .ref (u 0), .ref (u 1), .ref (u 2), .int 0, .ref (u 3), .ref (u 4), .int 0, .int 0, .int 0, .int 0, .int 0, .long 0, .int 0, .int 0, .int 0, .int 0, .long 0, .int 0, .ref (u 5), .ref (u 6), .int 0, .int 0, .int 0, .long 0, .long 0, .ref (u 7), .ref (u 8), .ref (u 9), .ref (u 10), .ref (u 11), .ref (u 12), .ref (u 13), .ref (u 14), .ref (u 15), .ref (u 16), .ref (u 17), .ref (u 18), .ref (u 19), .ref (u 20), .int 0, .int 0, .int 0, .int 0, .int 0, .int 0, .int 0, .int 0, .int 0, .int (-1), .int (-1), .int (-1), .int 0, .int 0, .int 0, .int 0, .int 0, .int 0, .int 0, .int 0, .ref (u 21), .ref (u 22), .ref (u 23), .ref (u 24), .ref (u 25), .ref (u 26), .int 0, .long 0]))] sz) := by
  refine Met.ofW (cc := cX7_forms) (maxL := 2) (ret := (some .long)) (by decide) rfl ?_
  intro p e s m args below meth c s₁ B hml hv
  obtain ⟨rfl, hsz, ⟨hP, hK, hN⟩, hD0⟩ := hv
  have hx := B.exec
  have hb := B.bytes
  have hr := B.returns
  have hts := atoms_spec (ws := v_m_forms) B.pre
  have hown : s.vm.findClass RX7 = some m.cls := findClass_of_methodNamed B.named
  have hlocks := B.notSynchronized
  subst hsz
  have hD := hD0.self (sz := s.heap.size)
  generalize hAe : va_A [(h0, .inr (6, [.int 0, .ref (u 0), .ref (u 1), .ref (u 2), .int 0, .ref (u 3), .ref (u 4), .int 0, .int 0, .int 0, .int 0, .int 0, .long 0, .int 0, .int 0, .int 0, .int 0, .long 0, .int 0, .ref (u 5), .ref (u 6), .int 0, .int 0, .int 0, .long 0, .long 0, .ref (u 7), .ref (u 8), .ref (u 9), .ref (u 10), .ref (u 11), .ref (u 12), .ref (u 13), .ref (u 14), .ref (u 15), .ref (u 16), .ref (u 17), .ref (u 18), .ref (u 19), .ref (u 20), .int 0, .int 0, .int 0, .int 0, .int 0, .int 0, .int 0, .int 0, .int 0, .int (-1), .int (-1), .int (-1), .int 0, .int 0, .int 0, .int 0, .int 0, .int 0, .int 0, .int 0, .ref (u 21), .ref (u 22), .ref (u 23), .ref (u 24), .ref (u 25), .ref (u 26), .int 0, .long 0]))] s.heap.size = A at hD ⊢
  have hA : ∀ q : Nat, s.heap.size ≤ q → A q := fun q h => by rw [← hAe]; exact Or.inr h
  have hS : va_S A s.heap s.heap [] := va_S.rf
  have hP : va_P G vwCl [(h0, .inr (6, [.int 0, .ref (u 0), .ref (u 1), .ref (u 2), .int 0, .ref (u 3), .ref (u 4), .int 0, .int 0, .int 0, .int 0, .int 0, .long 0, .int 0, .int 0, .int 0, .int 0, .long 0, .int 0, .ref (u 5), .ref (u 6), .int 0, .int 0, .int 0, .long 0, .long 0, .ref (u 7), .ref (u 8), .ref (u 9), .ref (u 10), .ref (u 11), .ref (u 12), .ref (u 13), .ref (u 14), .ref (u 15), .ref (u 16), .ref (u 17), .ref (u 18), .ref (u 19), .ref (u 20), .int 0, .int 0, .int 0, .int 0, .int 0, .int 0, .int 0, .int 0, .int 0, .int (-1), .int (-1), .int (-1), .int 0, .int 0, .int 0, .int 0, .int 0, .int 0, .int 0, .int 0, .ref (u 21), .ref (u 22), .ref (u 23), .ref (u 24), .ref (u 25), .ref (u 26), .int 0, .long 0]))] s.heap := hP
  have hl := lv_entry ([.ref h0, .int p0]) (n := 2) (Nat.le_of_ble_eq_true rfl)
  rw [lg_entry_eq]
  generalize (lg_sl ([.ref h0, .int p0]) ++ List.replicate (2 - (lg_sl ([.ref h0, .int p0])).length) Slot.unset).toArray = ls at hl ⊢
  have hl : lv_has ls 2 [(0, .ref h0), (1, .int p0)] := hl
  refine lv_aload_n hx hb dX7_forms_0 rfl (lv_at hl 0 rfl) ?_
  refine lv_iconst (v := 0) hx hb dX7_forms_1 (by decide) ?_
  refine va_put (D := G) (ci := 6) (v := .int 0) (ty := .int) (C := RX7) (T := TX7) (N := 68) hx hb hts i_m_forms_X7 tyX7 tyX7_ok nmX7 hown hK hP hD hS 0 rfl rfl 0 (by decide) (hts (.fieldLink RX7 103 "TileHouseModel" "thrown" "I") (by decide +kernel)) (fun _ h9 => h9) rfl (by decide +kernel) rfl rfl (Nat.le_of_ble_eq_true rfl) dX7_forms_2 (fun H locs hP hD hS => ?_)
  replace hP : va_P G vwCl [(h0, .inr (6, [.int 0, .ref (u 0), .ref (u 1), .ref (u 2), .int 0, .ref (u 3), .ref (u 4), .int 0, .int 0, .int 0, .int 0, .int 0, .long 0, .int 0, .int 0, .int 0, .int 0, .long 0, .int 0, .ref (u 5), .ref (u 6), .int 0, .int 0, .int 0, .long 0, .long 0, .ref (u 7), .ref (u 8), .ref (u 9), .ref (u 10), .ref (u 11), .ref (u 12), .ref (u 13), .ref (u 14), .ref (u 15), .ref (u 16), .ref (u 17), .ref (u 18), .ref (u 19), .ref (u 20), .int 0, .int 0, .int 0, .int 0, .int 0, .int 0, .int 0, .int 0, .int 0, .int (-1), .int (-1), .int (-1), .int 0, .int 0, .int 0, .int 0, .int 0, .int 0, .int 0, .int 0, .ref (u 21), .ref (u 22), .ref (u 23), .ref (u 24), .ref (u 25), .ref (u 26), .int 0, .long 0]))] H := hP
  replace hD : va_D A [(h0, .inr (6, [.int 0, .ref (u 0), .ref (u 1), .ref (u 2), .int 0, .ref (u 3), .ref (u 4), .int 0, .int 0, .int 0, .int 0, .int 0, .long 0, .int 0, .int 0, .int 0, .int 0, .long 0, .int 0, .ref (u 5), .ref (u 6), .int 0, .int 0, .int 0, .long 0, .long 0, .ref (u 7), .ref (u 8), .ref (u 9), .ref (u 10), .ref (u 11), .ref (u 12), .ref (u 13), .ref (u 14), .ref (u 15), .ref (u 16), .ref (u 17), .ref (u 18), .ref (u 19), .ref (u 20), .int 0, .int 0, .int 0, .int 0, .int 0, .int 0, .int 0, .int 0, .int 0, .int (-1), .int (-1), .int (-1), .int 0, .int 0, .int 0, .int 0, .int 0, .int 0, .int 0, .int 0, .ref (u 21), .ref (u 22), .ref (u 23), .ref (u 24), .ref (u 25), .ref (u 26), .int 0, .long 0]))] := hD
  refine lv_iload_n hx hb dX7_forms_5 rfl (lv_at hl 1 rfl) ?_
  refine lv_if_lt (tgt := 17) hx hb dX7_forms_6 (by decide) (fun c1 => ?_) (fun c1 => ?_)
  · skip
    refine lv_lconst (v := 0) hx hb dX7_forms_17 (by decide) ?_
    refine lv_goto (tgt := 27) hx hb dX7_forms_18 (by decide) ?_
    refine W.widen (k := 0) (n := 0) (Nat.le_of_ble_eq_true rfl) (Nat.le_of_ble_eq_true rfl) ?_
    exact W.lret (v := 0) hx hb hr (fun t ht hW => ⟨⟨0, (), rfl, rfl, trivial⟩, hS.F ht⟩) hS.2.2 dX7_forms_27
  · skip
    refine lv_iload_n hx hb dX7_forms_9 rfl (lv_at hl 1 rfl) ?_
    refine lv_aload_n hx hb dX7_forms_10 rfl (lv_at hl 0 rfl) ?_
    refine va_get (D := G) (ci := 6) (v := .int 0) (C := RX7) (T := TX7) (N := 68) hx hb hts i_m_forms_X7 hown hK hP 0 rfl rfl 53 (by decide) (hts (.fieldLink RX7 317 "TileHouseModel" "wins" "I") (by decide +kernel)) (fun _ h9 => h9) rfl dX7_forms_11 ?_
    refine lv_icmp_lt (tgt := 21) hx hb dX7_forms_14 (by decide) (fun c9 => absurd c9 (by assumption)) (fun _ => ?_)
    refine lv_lconst (v := 0) hx hb dX7_forms_17 (by decide) ?_
    refine lv_goto (tgt := 27) hx hb dX7_forms_18 (by decide) ?_
    refine W.widen (k := 0) (n := 0) (Nat.le_of_ble_eq_true rfl) (Nat.le_of_ble_eq_true rfl) ?_
    exact W.lret (v := 0) hx hb hr (fun t ht hW => ⟨⟨0, (), rfl, rfl, trivial⟩, hS.F ht⟩) hS.2.2 dX7_forms_27
def v_m_count : List Cond := .code yX7_count cX7_count 2 (some .int) :: ([.fieldLink RX7 103 "TileHouseModel" "thrown" "I", .fieldLink RX7 277 "TileHouseModel" "phase" "I", .fieldLink RX7 265 "TileHouseModel" "dealer" "I", .fieldLink RX7 286 "TileHouseModel" "round" "I", .fieldLink RX7 384 "TileHouseModel" "stays" "I", .fieldLink RX7 337 "TileHouseModel" "bets" "I", .fieldLink RX7 323 "TileHouseModel" "isDealt" "Z", .fieldLink RX7 250 "TileHouseModel" "fours" "I", .fieldLink RX7 310 "TileHouseModel" "ended" "Z", .fieldLink RX7 397 "TileHouseModel" "handsEnded" "I", .fieldLink RX7 317 "TileHouseModel" "wins" "I", .fieldLink RX7 74 "TileHouseModel" "tile" "I"] ++ (wsX70 ++ ([])))
theorem vg_m_count : ∀ w ∈ v_m_count, goodWord w = true := vg_c (c := .code yX7_count cX7_count 2 (some .int)) (l := [.fieldLink RX7 103 "TileHouseModel" "thrown" "I", .fieldLink RX7 277 "TileHouseModel" "phase" "I", .fieldLink RX7 265 "TileHouseModel" "dealer" "I", .fieldLink RX7 286 "TileHouseModel" "round" "I", .fieldLink RX7 384 "TileHouseModel" "stays" "I", .fieldLink RX7 337 "TileHouseModel" "bets" "I", .fieldLink RX7 323 "TileHouseModel" "isDealt" "Z", .fieldLink RX7 250 "TileHouseModel" "fours" "I", .fieldLink RX7 310 "TileHouseModel" "ended" "Z", .fieldLink RX7 397 "TileHouseModel" "handsEnded" "I", .fieldLink RX7 317 "TileHouseModel" "wins" "I", .fieldLink RX7 74 "TileHouseModel" "tile" "I"]) (by decide +kernel) (vg_a vgX7 (vg_nil))
theorem i_m_count_X7 : ∀ w ∈ u_ws RX7 TX7 68, w ∈ v_m_count := fun _ h => List.mem_cons_of_mem _ (List.mem_append_right _ (List.mem_append_left _ h))
set_option maxHeartbeats 4000000 in
set_option maxRecDepth 100000 in
theorem m_count (l : Launch) (G : va_G) (k : Nat → ClassId) (sz : Nat) (h0 : Nat) (u : Nat → Nat) (p0 : Int32) : Met l yX7_count v_m_count ({ frames := 0, cells := 0, slots := 0, locals := 0 }) (va_Pc [.ref h0, .int p0] (pq G k [(h0, .inr (6, [.int 0, .ref (u 0), .ref (u 1), .ref (u 2), .int 0, .ref (u 3), .ref (u 4), .int 0, .int 0, .int 0, .int 0, .int 0, .long 0, .int 0, .int 0, .int 0, .int 0, .long 0, .int 0, .ref (u 5), .ref (u 6), .int 0, .int 0, .int 0, .long 0, .long 0, .ref (u 7), .ref (u 8), .ref (u 9), .ref (u 10), .ref (u 11), .ref (u 12), .ref (u 13), .ref (u 14), .ref (u 15), .ref (u 16), .ref (u 17), .ref (u 18), .ref (u 19), .ref (u 20), .int 0, .int 0, .int 0, .int 0, .int 0, .int 0, .int 0, .int 0, .int 0, .int (-1), .int (-1), .int (-1), .int 0, .int 0, .int 0, .int 0, .int 0, .int 0, .int 0, .int 0, .ref (u 21), .ref (u 22), .ref (u 23), .ref (u 24), .ref (u 25), .ref (u 26), .int 0, .long 0]))] sz)) (va_Qi (fun r (_ : Unit) => r = countF p0) (fun (_ : Unit) _ => True) (va_A [(h0, .inr (6, [.int 0, .ref (u 0), .ref (u 1), .ref (u 2), .int 0, .ref (u 3), .ref (u 4), .int 0, .int 0, .int 0, .int 0, .int 0, .long 0, .int 0, .int 0, .int 0, .int 0, .long 0, .int 0, .ref (u 5), .ref (u 6), .int 0, .int 0, .int 0, .long 0, .long 0, .ref (u 7), .ref (u 8), .ref (u 9), .ref (u 10), .ref (u 11), .ref (u 12), .ref (u 13), .ref (u 14), .ref (u 15), .ref (u 16), .ref (u 17), .ref (u 18), .ref (u 19), .ref (u 20), .int 0, .int 0, .int 0, .int 0, .int 0, .int 0, .int 0, .int 0, .int 0, .int (-1), .int (-1), .int (-1), .int 0, .int 0, .int 0, .int 0, .int 0, .int 0, .int 0, .int 0, .ref (u 21), .ref (u 22), .ref (u 23), .ref (u 24), .ref (u 25), .ref (u 26), .int 0, .long 0]))] sz)) 0 0 (va_A [(h0, .inr (6, [.int 0, .ref (u 0), .ref (u 1), .ref (u 2), .int 0, .ref (u 3), .ref (u 4), .int 0, .int 0, .int 0, .int 0, .int 0, .long 0, .int 0, .int 0, .int 0, .int 0, .long 0, .int 0, .ref (u 5), .ref (u 6), .int 0, .int 0, .int 0, .long 0, .long 0, .ref (u 7), .ref (u 8), .ref (u 9), .ref (u 10), .ref (u 11), .ref (u 12), .ref (u 13), .ref (u 14), .ref (u 15), .ref (u 16), .ref (u 17), .ref (u 18), .ref (u 19), .ref (u 20), .int 0, .int 0, .int 0, .int 0, .int 0, .int 0, .int 0, .int 0, .int 0, .int (-1), .int (-1), .int (-1), .int 0, .int 0, .int 0, .int 0, .int 0, .int 0, .int 0, .int 0, .ref (u 21), .ref (u 22), .ref (u 23), .ref (u 24), .ref (u 25), .ref (u 26), .int 0, .long 0]))] sz) := by
  refine Met.ofW (cc := cX7_count) (maxL := 2) (ret := (some .int)) (by decide) rfl ?_
  intro p e s m args below meth c s₁ B hml hv
  obtain ⟨rfl, hsz, ⟨hP, hK, hN⟩, hD0⟩ := hv
  have hx := B.exec
  have hb := B.bytes
  have hr := B.returns
  have hts := atoms_spec (ws := v_m_count) B.pre
  have hown : s.vm.findClass RX7 = some m.cls := findClass_of_methodNamed B.named
  have hlocks := B.notSynchronized
  subst hsz
  have hD := hD0.self (sz := s.heap.size)
  generalize hAe : va_A [(h0, .inr (6, [.int 0, .ref (u 0), .ref (u 1), .ref (u 2), .int 0, .ref (u 3), .ref (u 4), .int 0, .int 0, .int 0, .int 0, .int 0, .long 0, .int 0, .int 0, .int 0, .int 0, .long 0, .int 0, .ref (u 5), .ref (u 6), .int 0, .int 0, .int 0, .long 0, .long 0, .ref (u 7), .ref (u 8), .ref (u 9), .ref (u 10), .ref (u 11), .ref (u 12), .ref (u 13), .ref (u 14), .ref (u 15), .ref (u 16), .ref (u 17), .ref (u 18), .ref (u 19), .ref (u 20), .int 0, .int 0, .int 0, .int 0, .int 0, .int 0, .int 0, .int 0, .int 0, .int (-1), .int (-1), .int (-1), .int 0, .int 0, .int 0, .int 0, .int 0, .int 0, .int 0, .int 0, .ref (u 21), .ref (u 22), .ref (u 23), .ref (u 24), .ref (u 25), .ref (u 26), .int 0, .long 0]))] s.heap.size = A at hD ⊢
  have hA : ∀ q : Nat, s.heap.size ≤ q → A q := fun q h => by rw [← hAe]; exact Or.inr h
  have hS : va_S A s.heap s.heap [] := va_S.rf
  have hP : va_P G vwCl [(h0, .inr (6, [.int 0, .ref (u 0), .ref (u 1), .ref (u 2), .int 0, .ref (u 3), .ref (u 4), .int 0, .int 0, .int 0, .int 0, .int 0, .long 0, .int 0, .int 0, .int 0, .int 0, .long 0, .int 0, .ref (u 5), .ref (u 6), .int 0, .int 0, .int 0, .long 0, .long 0, .ref (u 7), .ref (u 8), .ref (u 9), .ref (u 10), .ref (u 11), .ref (u 12), .ref (u 13), .ref (u 14), .ref (u 15), .ref (u 16), .ref (u 17), .ref (u 18), .ref (u 19), .ref (u 20), .int 0, .int 0, .int 0, .int 0, .int 0, .int 0, .int 0, .int 0, .int 0, .int (-1), .int (-1), .int (-1), .int 0, .int 0, .int 0, .int 0, .int 0, .int 0, .int 0, .int 0, .ref (u 21), .ref (u 22), .ref (u 23), .ref (u 24), .ref (u 25), .ref (u 26), .int 0, .long 0]))] s.heap := hP
  have hl := lv_entry ([.ref h0, .int p0]) (n := 2) (Nat.le_of_ble_eq_true rfl)
  rw [lg_entry_eq]
  generalize (lg_sl ([.ref h0, .int p0]) ++ List.replicate (2 - (lg_sl ([.ref h0, .int p0])).length) Slot.unset).toArray = ls at hl ⊢
  have hl : lv_has ls 2 [(0, .ref h0), (1, .int p0)] := hl
  refine lv_aload_n hx hb dX7_count_0 rfl (lv_at hl 0 rfl) ?_
  refine lv_iconst (v := 0) hx hb dX7_count_1 (by decide) ?_
  refine va_put (D := G) (ci := 6) (v := .int 0) (ty := .int) (C := RX7) (T := TX7) (N := 68) hx hb hts i_m_count_X7 tyX7 tyX7_ok nmX7 hown hK hP hD hS 0 rfl rfl 0 (by decide) (hts (.fieldLink RX7 103 "TileHouseModel" "thrown" "I") (by decide +kernel)) (fun _ h9 => h9) rfl (by decide +kernel) rfl rfl (Nat.le_of_ble_eq_true rfl) dX7_count_2 (fun H locs hP hD hS => ?_)
  replace hP : va_P G vwCl [(h0, .inr (6, [.int 0, .ref (u 0), .ref (u 1), .ref (u 2), .int 0, .ref (u 3), .ref (u 4), .int 0, .int 0, .int 0, .int 0, .int 0, .long 0, .int 0, .int 0, .int 0, .int 0, .long 0, .int 0, .ref (u 5), .ref (u 6), .int 0, .int 0, .int 0, .long 0, .long 0, .ref (u 7), .ref (u 8), .ref (u 9), .ref (u 10), .ref (u 11), .ref (u 12), .ref (u 13), .ref (u 14), .ref (u 15), .ref (u 16), .ref (u 17), .ref (u 18), .ref (u 19), .ref (u 20), .int 0, .int 0, .int 0, .int 0, .int 0, .int 0, .int 0, .int 0, .int 0, .int (-1), .int (-1), .int (-1), .int 0, .int 0, .int 0, .int 0, .int 0, .int 0, .int 0, .int 0, .ref (u 21), .ref (u 22), .ref (u 23), .ref (u 24), .ref (u 25), .ref (u 26), .int 0, .long 0]))] H := hP
  replace hD : va_D A [(h0, .inr (6, [.int 0, .ref (u 0), .ref (u 1), .ref (u 2), .int 0, .ref (u 3), .ref (u 4), .int 0, .int 0, .int 0, .int 0, .int 0, .long 0, .int 0, .int 0, .int 0, .int 0, .long 0, .int 0, .ref (u 5), .ref (u 6), .int 0, .int 0, .int 0, .long 0, .long 0, .ref (u 7), .ref (u 8), .ref (u 9), .ref (u 10), .ref (u 11), .ref (u 12), .ref (u 13), .ref (u 14), .ref (u 15), .ref (u 16), .ref (u 17), .ref (u 18), .ref (u 19), .ref (u 20), .int 0, .int 0, .int 0, .int 0, .int 0, .int 0, .int 0, .int 0, .int 0, .int (-1), .int (-1), .int (-1), .int 0, .int 0, .int 0, .int 0, .int 0, .int 0, .int 0, .int 0, .ref (u 21), .ref (u 22), .ref (u 23), .ref (u 24), .ref (u 25), .ref (u 26), .int 0, .long 0]))] := hD
  refine lv_iload_n hx hb dX7_count_5 rfl (lv_at hl 1 rfl) ?_
  rcases tsw12 p0 with hO | rfl | rfl | rfl | rfl | rfl | rfl | rfl | rfl | rfl | rfl | rfl | rfl | rfl
  · skip
    refine lv_tableOut (tgt := 180) hx hb dX7_count_6 hO (by decide) ?_
    refine lv_iconst (v := (-1)) hx hb dX7_count_180 (by decide) ?_
    refine W.widen (k := 0) (n := 0) (Nat.le_of_ble_eq_true rfl) (Nat.le_of_ble_eq_true rfl) ?_
    exact W.iret (v := (-1)) hx hb hr (fun t ht hW => ⟨⟨(-1), (), rfl, (countF_out hO).symm, trivial⟩, hS.F ht⟩) hS.2.2 dX7_count_181
  · skip
    refine lv_tableIn (tgt := 72) hx hb dX7_count_6 (by decide) (by decide) rfl (by decide) ?_
    refine lv_aload_n hx hb dX7_count_72 rfl (lv_at hl 0 rfl) ?_
    refine va_get (D := G) (ci := 6) (v := .int 0) (C := RX7) (T := TX7) (N := 68) hx hb hts i_m_count_X7 hown hK hP 0 rfl rfl 44 (by decide) (hts (.fieldLink RX7 277 "TileHouseModel" "phase" "I") (by decide +kernel)) (fun _ h9 => h9) rfl dX7_count_73 ?_
    refine W.widen (k := 0) (n := 0) (Nat.le_of_ble_eq_true rfl) (Nat.le_of_ble_eq_true rfl) ?_
    exact W.iret (v := 0) hx hb hr (fun t ht hW => ⟨⟨0, (), rfl, rfl, trivial⟩, hS.F ht⟩) hS.2.2 dX7_count_76
  · skip
    refine lv_tableIn (tgt := 77) hx hb dX7_count_6 (by decide) (by decide) rfl (by decide) ?_
    refine lv_aload_n hx hb dX7_count_77 rfl (lv_at hl 0 rfl) ?_
    refine va_get (D := G) (ci := 6) (v := .int 0) (C := RX7) (T := TX7) (N := 68) hx hb hts i_m_count_X7 hown hK hP 0 rfl rfl 44 (by decide) (hts (.fieldLink RX7 277 "TileHouseModel" "phase" "I") (by decide +kernel)) (fun _ h9 => h9) rfl dX7_count_78 ?_
    refine lv_if_ne (tgt := 88) hx hb dX7_count_81 (by decide) (fun c9 => absurd (by decide) c9) (fun _ => ?_)
    refine lv_iconst (v := (-1)) hx hb dX7_count_84 (by decide) ?_
    refine lv_goto (tgt := 92) hx hb dX7_count_85 (by decide) ?_
    refine W.widen (k := 0) (n := 0) (Nat.le_of_ble_eq_true rfl) (Nat.le_of_ble_eq_true rfl) ?_
    exact W.iret (v := (-1)) hx hb hr (fun t ht hW => ⟨⟨(-1), (), rfl, rfl, trivial⟩, hS.F ht⟩) hS.2.2 dX7_count_92
  · skip
    refine lv_tableIn (tgt := 93) hx hb dX7_count_6 (by decide) (by decide) rfl (by decide) ?_
    refine lv_aload_n hx hb dX7_count_93 rfl (lv_at hl 0 rfl) ?_
    refine va_get (D := G) (ci := 6) (v := .int 0) (C := RX7) (T := TX7) (N := 68) hx hb hts i_m_count_X7 hown hK hP 0 rfl rfl 40 (by decide) (hts (.fieldLink RX7 265 "TileHouseModel" "dealer" "I") (by decide +kernel)) (fun _ h9 => h9) rfl dX7_count_94 ?_
    refine W.widen (k := 0) (n := 0) (Nat.le_of_ble_eq_true rfl) (Nat.le_of_ble_eq_true rfl) ?_
    exact W.iret (v := 0) hx hb hr (fun t ht hW => ⟨⟨0, (), rfl, rfl, trivial⟩, hS.F ht⟩) hS.2.2 dX7_count_97
  · skip
    refine lv_tableIn (tgt := 98) hx hb dX7_count_6 (by decide) (by decide) rfl (by decide) ?_
    refine lv_aload_n hx hb dX7_count_98 rfl (lv_at hl 0 rfl) ?_
    refine va_get (D := G) (ci := 6) (v := .int 0) (C := RX7) (T := TX7) (N := 68) hx hb hts i_m_count_X7 hown hK hP 0 rfl rfl 41 (by decide) (hts (.fieldLink RX7 286 "TileHouseModel" "round" "I") (by decide +kernel)) (fun _ h9 => h9) rfl dX7_count_99 ?_
    refine W.widen (k := 0) (n := 0) (Nat.le_of_ble_eq_true rfl) (Nat.le_of_ble_eq_true rfl) ?_
    exact W.iret (v := 0) hx hb hr (fun t ht hW => ⟨⟨0, (), rfl, rfl, trivial⟩, hS.F ht⟩) hS.2.2 dX7_count_102
  · skip
    refine lv_tableIn (tgt := 103) hx hb dX7_count_6 (by decide) (by decide) rfl (by decide) ?_
    refine lv_aload_n hx hb dX7_count_103 rfl (lv_at hl 0 rfl) ?_
    refine va_get (D := G) (ci := 6) (v := .int 0) (C := RX7) (T := TX7) (N := 68) hx hb hts i_m_count_X7 hown hK hP 0 rfl rfl 42 (by decide) (hts (.fieldLink RX7 384 "TileHouseModel" "stays" "I") (by decide +kernel)) (fun _ h9 => h9) rfl dX7_count_104 ?_
    refine W.widen (k := 0) (n := 0) (Nat.le_of_ble_eq_true rfl) (Nat.le_of_ble_eq_true rfl) ?_
    exact W.iret (v := 0) hx hb hr (fun t ht hW => ⟨⟨0, (), rfl, rfl, trivial⟩, hS.F ht⟩) hS.2.2 dX7_count_107
  · skip
    refine lv_tableIn (tgt := 108) hx hb dX7_count_6 (by decide) (by decide) rfl (by decide) ?_
    refine lv_aload_n hx hb dX7_count_108 rfl (lv_at hl 0 rfl) ?_
    refine va_get (D := G) (ci := 6) (v := .int 0) (C := RX7) (T := TX7) (N := 68) hx hb hts i_m_count_X7 hown hK hP 0 rfl rfl 43 (by decide) (hts (.fieldLink RX7 337 "TileHouseModel" "bets" "I") (by decide +kernel)) (fun _ h9 => h9) rfl dX7_count_109 ?_
    refine W.widen (k := 0) (n := 0) (Nat.le_of_ble_eq_true rfl) (Nat.le_of_ble_eq_true rfl) ?_
    exact W.iret (v := 0) hx hb hr (fun t ht hW => ⟨⟨0, (), rfl, rfl, trivial⟩, hS.F ht⟩) hS.2.2 dX7_count_112
  · skip
    refine lv_tableIn (tgt := 113) hx hb dX7_count_6 (by decide) (by decide) rfl (by decide) ?_
    refine lv_aload_n hx hb dX7_count_113 rfl (lv_at hl 0 rfl) ?_
    refine va_get (D := G) (ci := 6) (v := .int 0) (C := RX7) (T := TX7) (N := 68) hx hb hts i_m_count_X7 hown hK hP 0 rfl rfl 55 (by decide) (hts (.fieldLink RX7 323 "TileHouseModel" "isDealt" "Z") (by decide +kernel)) (fun _ h9 => h9) rfl dX7_count_114 ?_
    refine lv_if_eq (tgt := 127) hx hb dX7_count_117 (by decide) (fun _ => ?_) (fun c9 => absurd (by decide) c9)
    refine lv_iconst (v := 0) hx hb dX7_count_127 (by decide) ?_
    refine W.widen (k := 0) (n := 0) (Nat.le_of_ble_eq_true rfl) (Nat.le_of_ble_eq_true rfl) ?_
    exact W.iret (v := 0) hx hb hr (fun t ht hW => ⟨⟨0, (), rfl, rfl, trivial⟩, hS.F ht⟩) hS.2.2 dX7_count_128
  · skip
    refine lv_tableIn (tgt := 129) hx hb dX7_count_6 (by decide) (by decide) rfl (by decide) ?_
    refine lv_aload_n hx hb dX7_count_129 rfl (lv_at hl 0 rfl) ?_
    refine va_get (D := G) (ci := 6) (v := .int 0) (C := RX7) (T := TX7) (N := 68) hx hb hts i_m_count_X7 hown hK hP 0 rfl rfl 47 (by decide) (hts (.fieldLink RX7 250 "TileHouseModel" "fours" "I") (by decide +kernel)) (fun _ h9 => h9) rfl dX7_count_130 ?_
    refine W.widen (k := 0) (n := 0) (Nat.le_of_ble_eq_true rfl) (Nat.le_of_ble_eq_true rfl) ?_
    exact W.iret (v := 0) hx hb hr (fun t ht hW => ⟨⟨0, (), rfl, rfl, trivial⟩, hS.F ht⟩) hS.2.2 dX7_count_133
  · skip
    refine lv_tableIn (tgt := 134) hx hb dX7_count_6 (by decide) (by decide) rfl (by decide) ?_
    refine lv_aload_n hx hb dX7_count_134 rfl (lv_at hl 0 rfl) ?_
    refine va_get (D := G) (ci := 6) (v := .int 0) (C := RX7) (T := TX7) (N := 68) hx hb hts i_m_count_X7 hown hK hP 0 rfl rfl 55 (by decide) (hts (.fieldLink RX7 323 "TileHouseModel" "isDealt" "Z") (by decide +kernel)) (fun _ h9 => h9) rfl dX7_count_135 ?_
    refine lv_if_eq (tgt := 150) hx hb dX7_count_138 (by decide) (fun _ => ?_) (fun c9 => absurd (by decide) c9)
    refine lv_iconst (v := 0) hx hb dX7_count_150 (by decide) ?_
    refine W.widen (k := 0) (n := 0) (Nat.le_of_ble_eq_true rfl) (Nat.le_of_ble_eq_true rfl) ?_
    exact W.iret (v := 0) hx hb hr (fun t ht hW => ⟨⟨0, (), rfl, rfl, trivial⟩, hS.F ht⟩) hS.2.2 dX7_count_151
  · skip
    refine lv_tableIn (tgt := 152) hx hb dX7_count_6 (by decide) (by decide) rfl (by decide) ?_
    refine lv_aload_n hx hb dX7_count_152 rfl (lv_at hl 0 rfl) ?_
    refine va_get (D := G) (ci := 6) (v := .int 0) (C := RX7) (T := TX7) (N := 68) hx hb hts i_m_count_X7 hown hK hP 0 rfl rfl 54 (by decide) (hts (.fieldLink RX7 310 "TileHouseModel" "ended" "Z") (by decide +kernel)) (fun _ h9 => h9) rfl dX7_count_153 ?_
    refine lv_if_eq (tgt := 163) hx hb dX7_count_156 (by decide) (fun _ => ?_) (fun c9 => absurd (by decide) c9)
    refine lv_iconst (v := 0) hx hb dX7_count_163 (by decide) ?_
    refine W.widen (k := 0) (n := 0) (Nat.le_of_ble_eq_true rfl) (Nat.le_of_ble_eq_true rfl) ?_
    exact W.iret (v := 0) hx hb hr (fun t ht hW => ⟨⟨0, (), rfl, rfl, trivial⟩, hS.F ht⟩) hS.2.2 dX7_count_164
  · skip
    refine lv_tableIn (tgt := 165) hx hb dX7_count_6 (by decide) (by decide) rfl (by decide) ?_
    refine lv_aload_n hx hb dX7_count_165 rfl (lv_at hl 0 rfl) ?_
    refine va_get (D := G) (ci := 6) (v := .int 0) (C := RX7) (T := TX7) (N := 68) hx hb hts i_m_count_X7 hown hK hP 0 rfl rfl 52 (by decide) (hts (.fieldLink RX7 397 "TileHouseModel" "handsEnded" "I") (by decide +kernel)) (fun _ h9 => h9) rfl dX7_count_166 ?_
    refine W.widen (k := 0) (n := 0) (Nat.le_of_ble_eq_true rfl) (Nat.le_of_ble_eq_true rfl) ?_
    exact W.iret (v := 0) hx hb hr (fun t ht hW => ⟨⟨0, (), rfl, rfl, trivial⟩, hS.F ht⟩) hS.2.2 dX7_count_169
  · skip
    refine lv_tableIn (tgt := 170) hx hb dX7_count_6 (by decide) (by decide) rfl (by decide) ?_
    refine lv_aload_n hx hb dX7_count_170 rfl (lv_at hl 0 rfl) ?_
    refine va_get (D := G) (ci := 6) (v := .int 0) (C := RX7) (T := TX7) (N := 68) hx hb hts i_m_count_X7 hown hK hP 0 rfl rfl 53 (by decide) (hts (.fieldLink RX7 317 "TileHouseModel" "wins" "I") (by decide +kernel)) (fun _ h9 => h9) rfl dX7_count_171 ?_
    refine W.widen (k := 0) (n := 0) (Nat.le_of_ble_eq_true rfl) (Nat.le_of_ble_eq_true rfl) ?_
    exact W.iret (v := 0) hx hb hr (fun t ht hW => ⟨⟨0, (), rfl, rfl, trivial⟩, hS.F ht⟩) hS.2.2 dX7_count_174
  · skip
    refine lv_tableIn (tgt := 175) hx hb dX7_count_6 (by decide) (by decide) rfl (by decide) ?_
    refine lv_aload_n hx hb dX7_count_175 rfl (lv_at hl 0 rfl) ?_
    refine va_get (D := G) (ci := 6) (v := .int (-1)) (C := RX7) (T := TX7) (N := 68) hx hb hts i_m_count_X7 hown hK hP 0 rfl rfl 49 (by decide) (hts (.fieldLink RX7 74 "TileHouseModel" "tile" "I") (by decide +kernel)) (fun _ h9 => h9) rfl dX7_count_176 ?_
    refine W.widen (k := 0) (n := 0) (Nat.le_of_ble_eq_true rfl) (Nat.le_of_ble_eq_true rfl) ?_
    exact W.iret (v := (-1)) hx hb hr (fun t ht hW => ⟨⟨(-1), (), rfl, rfl, trivial⟩, hS.F ht⟩) hS.2.2 dX7_count_179
