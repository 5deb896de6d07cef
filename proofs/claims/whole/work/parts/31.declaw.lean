theorem dL_board_0 : decode cL_board 0 = .ok (.aload_n 3, 1) := by decide +kernel
theorem dL_board_1 : decode cL_board 1 = .ok (.iconst 0, 1) := by decide +kernel
theorem dL_board_2 : decode cL_board 2 = .ok (.aload_n 0, 1) := by decide +kernel
theorem dL_board_3 : decode cL_board 3 = .ok (.iload_n 1, 1) := by decide +kernel
theorem dL_board_4 : decode cL_board 4 = .ok (.iload_n 2, 1) := by decide +kernel
theorem dL_board_5 : decode cL_board 5 = .ok (.invokevirtual 7, 3) := by decide +kernel
theorem dL_board_8 : decode cL_board 8 = .ok (.i2l, 1) := by decide +kernel
theorem dL_board_9 : decode cL_board 9 = .ok (.lastore, 1) := by decide +kernel
theorem dL_board_10 : decode cL_board 10 = .ok (.goto 7, 3) := by decide +kernel
theorem dL_board_13 : decode cL_board 13 = .ok (.astore 4, 2) := by decide +kernel
theorem dL_board_15 : decode cL_board 15 = .ok (.iconst 1, 1) := by decide +kernel
theorem dL_board_16 : decode cL_board 16 = .ok (.ireturn, 1) := by decide +kernel
theorem dL_board_17 : decode cL_board 17 = .ok (.iconst 0, 1) := by decide +kernel
theorem dL_board_18 : decode cL_board 18 = .ok (.ireturn, 1) := by decide +kernel
theorem dL_put_0 : decode cL_put 0 = .ok (.aload_n 3, 1) := by decide +kernel
theorem dL_put_1 : decode cL_put 1 = .ok (.iconst 0, 1) := by decide +kernel
theorem dL_put_2 : decode cL_put 2 = .ok (.aload_n 0, 1) := by decide +kernel
theorem dL_put_3 : decode cL_put 3 = .ok (.iload_n 1, 1) := by decide +kernel
theorem dL_put_4 : decode cL_put 4 = .ok (.iload_n 2, 1) := by decide +kernel
theorem dL_put_5 : decode cL_put 5 = .ok (.invokevirtual 15, 3) := by decide +kernel
theorem dL_put_8 : decode cL_put 8 = .ok (.i2l, 1) := by decide +kernel
theorem dL_put_9 : decode cL_put 9 = .ok (.lastore, 1) := by decide +kernel
theorem dL_put_10 : decode cL_put 10 = .ok (.goto 15, 3) := by decide +kernel
theorem dL_put_13 : decode cL_put 13 = .ok (.astore 4, 2) := by decide +kernel
theorem dL_put_15 : decode cL_put 15 = .ok (.iconst 1, 1) := by decide +kernel
theorem dL_put_16 : decode cL_put 16 = .ok (.ireturn, 1) := by decide +kernel
theorem dL_put_17 : decode cL_put 17 = .ok (.astore 4, 2) := by decide +kernel
theorem dL_put_19 : decode cL_put 19 = .ok (.iconst 2, 1) := by decide +kernel
theorem dL_put_20 : decode cL_put 20 = .ok (.ireturn, 1) := by decide +kernel
theorem dL_put_21 : decode cL_put 21 = .ok (.astore 4, 2) := by decide +kernel
theorem dL_put_23 : decode cL_put 23 = .ok (.iconst 3, 1) := by decide +kernel
theorem dL_put_24 : decode cL_put 24 = .ok (.ireturn, 1) := by decide +kernel
theorem dL_put_25 : decode cL_put 25 = .ok (.iconst 0, 1) := by decide +kernel
theorem dL_put_26 : decode cL_put 26 = .ok (.ireturn, 1) := by decide +kernel
theorem dL_goal_0 : decode cL_goal 0 = .ok (.aload_n 3, 1) := by decide +kernel
theorem dL_goal_1 : decode cL_goal 1 = .ok (.iconst 0, 1) := by decide +kernel
theorem dL_goal_2 : decode cL_goal 2 = .ok (.aload_n 0, 1) := by decide +kernel
theorem dL_goal_3 : decode cL_goal 3 = .ok (.iload_n 1, 1) := by decide +kernel
theorem dL_goal_4 : decode cL_goal 4 = .ok (.iload_n 2, 1) := by decide +kernel
theorem dL_goal_5 : decode cL_goal 5 = .ok (.invokevirtual 23, 3) := by decide +kernel
theorem dL_goal_8 : decode cL_goal 8 = .ok (.i2l, 1) := by decide +kernel
theorem dL_goal_9 : decode cL_goal 9 = .ok (.lastore, 1) := by decide +kernel
theorem dL_goal_10 : decode cL_goal 10 = .ok (.goto 15, 3) := by decide +kernel
theorem dL_goal_13 : decode cL_goal 13 = .ok (.astore 4, 2) := by decide +kernel
theorem dL_goal_15 : decode cL_goal 15 = .ok (.iconst 1, 1) := by decide +kernel
theorem dL_goal_16 : decode cL_goal 16 = .ok (.ireturn, 1) := by decide +kernel
theorem dL_goal_17 : decode cL_goal 17 = .ok (.astore 4, 2) := by decide +kernel
theorem dL_goal_19 : decode cL_goal 19 = .ok (.iconst 2, 1) := by decide +kernel
theorem dL_goal_20 : decode cL_goal 20 = .ok (.ireturn, 1) := by decide +kernel
theorem dL_goal_21 : decode cL_goal 21 = .ok (.astore 4, 2) := by decide +kernel
theorem dL_goal_23 : decode cL_goal 23 = .ok (.iconst 3, 1) := by decide +kernel
theorem dL_goal_24 : decode cL_goal 24 = .ok (.ireturn, 1) := by decide +kernel
theorem dL_goal_25 : decode cL_goal 25 = .ok (.iconst 0, 1) := by decide +kernel
theorem dL_goal_26 : decode cL_goal 26 = .ok (.ireturn, 1) := by decide +kernel
theorem dL_turn_0 : decode cL_turn 0 = .ok (.aload_n 2, 1) := by decide +kernel
theorem dL_turn_1 : decode cL_turn 1 = .ok (.iconst 0, 1) := by decide +kernel
theorem dL_turn_2 : decode cL_turn 2 = .ok (.aload_n 0, 1) := by decide +kernel
theorem dL_turn_3 : decode cL_turn 3 = .ok (.iload_n 1, 1) := by decide +kernel
theorem dL_turn_4 : decode cL_turn 4 = .ok (.invokevirtual 26, 3) := by decide +kernel
theorem dL_turn_7 : decode cL_turn 7 = .ok (.i2l, 1) := by decide +kernel
theorem dL_turn_8 : decode cL_turn 8 = .ok (.lastore, 1) := by decide +kernel
theorem dL_turn_9 : decode cL_turn 9 = .ok (.goto 9, 3) := by decide +kernel
theorem dL_turn_12 : decode cL_turn 12 = .ok (.astore_n 3, 1) := by decide +kernel
theorem dL_turn_13 : decode cL_turn 13 = .ok (.iconst 1, 1) := by decide +kernel
theorem dL_turn_14 : decode cL_turn 14 = .ok (.ireturn, 1) := by decide +kernel
theorem dL_turn_15 : decode cL_turn 15 = .ok (.astore_n 3, 1) := by decide +kernel
theorem dL_turn_16 : decode cL_turn 16 = .ok (.iconst 2, 1) := by decide +kernel
theorem dL_turn_17 : decode cL_turn 17 = .ok (.ireturn, 1) := by decide +kernel
theorem dL_turn_18 : decode cL_turn 18 = .ok (.iconst 0, 1) := by decide +kernel
theorem dL_turn_19 : decode cL_turn 19 = .ok (.ireturn, 1) := by decide +kernel
theorem dL_swap_0 : decode cL_swap 0 = .ok (.aload_n 3, 1) := by decide +kernel
theorem dL_swap_1 : decode cL_swap 1 = .ok (.iconst 0, 1) := by decide +kernel
theorem dL_swap_2 : decode cL_swap 2 = .ok (.aload_n 0, 1) := by decide +kernel
theorem dL_swap_3 : decode cL_swap 3 = .ok (.iload_n 1, 1) := by decide +kernel
theorem dL_swap_4 : decode cL_swap 4 = .ok (.iload_n 2, 1) := by decide +kernel
theorem dL_swap_5 : decode cL_swap 5 = .ok (.invokevirtual 30, 3) := by decide +kernel
theorem dL_swap_8 : decode cL_swap 8 = .ok (.i2l, 1) := by decide +kernel
theorem dL_swap_9 : decode cL_swap 9 = .ok (.lastore, 1) := by decide +kernel
theorem dL_swap_10 : decode cL_swap 10 = .ok (.goto 11, 3) := by decide +kernel
theorem dL_swap_13 : decode cL_swap 13 = .ok (.astore 4, 2) := by decide +kernel
theorem dL_swap_15 : decode cL_swap 15 = .ok (.iconst 1, 1) := by decide +kernel
theorem dL_swap_16 : decode cL_swap 16 = .ok (.ireturn, 1) := by decide +kernel
theorem dL_swap_17 : decode cL_swap 17 = .ok (.astore 4, 2) := by decide +kernel
theorem dL_swap_19 : decode cL_swap 19 = .ok (.iconst 2, 1) := by decide +kernel
theorem dL_swap_20 : decode cL_swap 20 = .ok (.ireturn, 1) := by decide +kernel
theorem dL_swap_21 : decode cL_swap 21 = .ok (.iconst 0, 1) := by decide +kernel
theorem dL_swap_22 : decode cL_swap 22 = .ok (.ireturn, 1) := by decide +kernel
theorem dL_bar_0 : decode cL_bar 0 = .ok (.aload_n 2, 1) := by decide +kernel
theorem dL_bar_1 : decode cL_bar 1 = .ok (.iconst 0, 1) := by decide +kernel
theorem dL_bar_2 : decode cL_bar 2 = .ok (.aload_n 0, 1) := by decide +kernel
theorem dL_bar_3 : decode cL_bar 3 = .ok (.iload_n 1, 1) := by decide +kernel
theorem dL_bar_4 : decode cL_bar 4 = .ok (.invokevirtual 33, 3) := by decide +kernel
theorem dL_bar_7 : decode cL_bar 7 = .ok (.ifCond .eq 7, 3) := by decide +kernel
theorem dL_bar_10 : decode cL_bar 10 = .ok (.lconst 1, 1) := by decide +kernel
theorem dL_bar_11 : decode cL_bar 11 = .ok (.goto 4, 3) := by decide +kernel
theorem dL_bar_14 : decode cL_bar 14 = .ok (.lconst 0, 1) := by decide +kernel
theorem dL_bar_15 : decode cL_bar 15 = .ok (.lastore, 1) := by decide +kernel
theorem dL_bar_16 : decode cL_bar 16 = .ok (.goto 6, 3) := by decide +kernel
theorem dL_bar_19 : decode cL_bar 19 = .ok (.astore_n 3, 1) := by decide +kernel
theorem dL_bar_20 : decode cL_bar 20 = .ok (.iconst 1, 1) := by decide +kernel
theorem dL_bar_21 : decode cL_bar 21 = .ok (.ireturn, 1) := by decide +kernel
theorem dL_bar_22 : decode cL_bar 22 = .ok (.iconst 0, 1) := by decide +kernel
theorem dL_bar_23 : decode cL_bar 23 = .ok (.ireturn, 1) := by decide +kernel
theorem dL_scramble_0 : decode cL_scramble 0 = .ok (.aload_n 3, 1) := by decide +kernel
theorem dL_scramble_1 : decode cL_scramble 1 = .ok (.iconst 0, 1) := by decide +kernel
theorem dL_scramble_2 : decode cL_scramble 2 = .ok (.aload_n 0, 1) := by decide +kernel
theorem dL_scramble_3 : decode cL_scramble 3 = .ok (.iload_n 1, 1) := by decide +kernel
theorem dL_scramble_4 : decode cL_scramble 4 = .ok (.iload_n 2, 1) := by decide +kernel
theorem dL_scramble_5 : decode cL_scramble 5 = .ok (.invokevirtual 37, 3) := by decide +kernel
theorem dL_scramble_8 : decode cL_scramble 8 = .ok (.i2l, 1) := by decide +kernel
theorem dL_scramble_9 : decode cL_scramble 9 = .ok (.lastore, 1) := by decide +kernel
theorem dL_scramble_10 : decode cL_scramble 10 = .ok (.goto 7, 3) := by decide +kernel
theorem dL_scramble_13 : decode cL_scramble 13 = .ok (.astore 4, 2) := by decide +kernel
theorem dL_scramble_15 : decode cL_scramble 15 = .ok (.iconst 1, 1) := by decide +kernel
theorem dL_scramble_16 : decode cL_scramble 16 = .ok (.ireturn, 1) := by decide +kernel
theorem dL_scramble_17 : decode cL_scramble 17 = .ok (.iconst 0, 1) := by decide +kernel
theorem dL_scramble_18 : decode cL_scramble 18 = .ok (.ireturn, 1) := by decide +kernel
theorem dL_step_0 : decode cL_step 0 = .ok (.aload_n 1, 1) := by decide +kernel
theorem dL_step_1 : decode cL_step 1 = .ok (.iconst 0, 1) := by decide +kernel
theorem dL_step_2 : decode cL_step 2 = .ok (.aload_n 0, 1) := by decide +kernel
theorem dL_step_3 : decode cL_step 3 = .ok (.invokevirtual 40, 3) := by decide +kernel
theorem dL_step_6 : decode cL_step 6 = .ok (.i2l, 1) := by decide +kernel
theorem dL_step_7 : decode cL_step 7 = .ok (.lastore, 1) := by decide +kernel
theorem dL_step_8 : decode cL_step 8 = .ok (.goto 9, 3) := by decide +kernel
theorem dL_step_11 : decode cL_step 11 = .ok (.astore_n 2, 1) := by decide +kernel
theorem dL_step_12 : decode cL_step 12 = .ok (.iconst 1, 1) := by decide +kernel
theorem dL_step_13 : decode cL_step 13 = .ok (.ireturn, 1) := by decide +kernel
theorem dL_step_14 : decode cL_step 14 = .ok (.astore_n 2, 1) := by decide +kernel
theorem dL_step_15 : decode cL_step 15 = .ok (.iconst 2, 1) := by decide +kernel
theorem dL_step_16 : decode cL_step 16 = .ok (.ireturn, 1) := by decide +kernel
theorem dL_step_17 : decode cL_step 17 = .ok (.iconst 0, 1) := by decide +kernel
theorem dL_step_18 : decode cL_step 18 = .ok (.ireturn, 1) := by decide +kernel
theorem dL_letter_0 : decode cL_letter 0 = .ok (.aload_n 2, 1) := by decide +kernel
theorem dL_letter_1 : decode cL_letter 1 = .ok (.iconst 0, 1) := by decide +kernel
theorem dL_letter_2 : decode cL_letter 2 = .ok (.aload_n 0, 1) := by decide +kernel
theorem dL_letter_3 : decode cL_letter 3 = .ok (.iload_n 1, 1) := by decide +kernel
theorem dL_letter_4 : decode cL_letter 4 = .ok (.invokevirtual 46, 3) := by decide +kernel
theorem dL_letter_7 : decode cL_letter 7 = .ok (.i2l, 1) := by decide +kernel
theorem dL_letter_8 : decode cL_letter 8 = .ok (.lastore, 1) := by decide +kernel
theorem dL_letter_9 : decode cL_letter 9 = .ok (.goto 6, 3) := by decide +kernel
theorem dL_letter_12 : decode cL_letter 12 = .ok (.astore_n 3, 1) := by decide +kernel
theorem dL_letter_13 : decode cL_letter 13 = .ok (.iconst 1, 1) := by decide +kernel
theorem dL_letter_14 : decode cL_letter 14 = .ok (.ireturn, 1) := by decide +kernel
theorem dL_letter_15 : decode cL_letter 15 = .ok (.iconst 0, 1) := by decide +kernel
theorem dL_letter_16 : decode cL_letter 16 = .ok (.ireturn, 1) := by decide +kernel
theorem dL_sign_0 : decode cL_sign 0 = .ok (.aload_n 2, 1) := by decide +kernel
theorem dL_sign_1 : decode cL_sign 1 = .ok (.iconst 0, 1) := by decide +kernel
theorem dL_sign_2 : decode cL_sign 2 = .ok (.aload_n 0, 1) := by decide +kernel
theorem dL_sign_3 : decode cL_sign 3 = .ok (.iload_n 1, 1) := by decide +kernel
theorem dL_sign_4 : decode cL_sign 4 = .ok (.invokevirtual 50, 3) := by decide +kernel
theorem dL_sign_7 : decode cL_sign 7 = .ok (.i2l, 1) := by decide +kernel
theorem dL_sign_8 : decode cL_sign 8 = .ok (.lastore, 1) := by decide +kernel
theorem dL_sign_9 : decode cL_sign 9 = .ok (.goto 6, 3) := by decide +kernel
theorem dL_sign_12 : decode cL_sign 12 = .ok (.astore_n 3, 1) := by decide +kernel
theorem dL_sign_13 : decode cL_sign 13 = .ok (.iconst 1, 1) := by decide +kernel
theorem dL_sign_14 : decode cL_sign 14 = .ok (.ireturn, 1) := by decide +kernel
theorem dL_sign_15 : decode cL_sign 15 = .ok (.iconst 0, 1) := by decide +kernel
theorem dL_sign_16 : decode cL_sign 16 = .ok (.ireturn, 1) := by decide +kernel
theorem dL_isBarred_0 : decode cL_isBarred 0 = .ok (.aload_n 2, 1) := by decide +kernel
theorem dL_isBarred_1 : decode cL_isBarred 1 = .ok (.iconst 0, 1) := by decide +kernel
theorem dL_isBarred_2 : decode cL_isBarred 2 = .ok (.aload_n 0, 1) := by decide +kernel
theorem dL_isBarred_3 : decode cL_isBarred 3 = .ok (.iload_n 1, 1) := by decide +kernel
theorem dL_isBarred_4 : decode cL_isBarred 4 = .ok (.invokevirtual 53, 3) := by decide +kernel
theorem dL_isBarred_7 : decode cL_isBarred 7 = .ok (.ifCond .eq 7, 3) := by decide +kernel
theorem dL_isBarred_10 : decode cL_isBarred 10 = .ok (.lconst 1, 1) := by decide +kernel
theorem dL_isBarred_11 : decode cL_isBarred 11 = .ok (.goto 4, 3) := by decide +kernel
theorem dL_isBarred_14 : decode cL_isBarred 14 = .ok (.lconst 0, 1) := by decide +kernel
theorem dL_isBarred_15 : decode cL_isBarred 15 = .ok (.lastore, 1) := by decide +kernel
theorem dL_isBarred_16 : decode cL_isBarred 16 = .ok (.goto 6, 3) := by decide +kernel
theorem dL_isBarred_19 : decode cL_isBarred 19 = .ok (.astore_n 3, 1) := by decide +kernel
theorem dL_isBarred_20 : decode cL_isBarred 20 = .ok (.iconst 1, 1) := by decide +kernel
theorem dL_isBarred_21 : decode cL_isBarred 21 = .ok (.ireturn, 1) := by decide +kernel
theorem dL_isBarred_22 : decode cL_isBarred 22 = .ok (.iconst 0, 1) := by decide +kernel
theorem dL_isBarred_23 : decode cL_isBarred 23 = .ok (.ireturn, 1) := by decide +kernel
theorem dL_boardOf_0 : decode cL_boardOf 0 = .ok (.aload_n 2, 1) := by decide +kernel
theorem dL_boardOf_1 : decode cL_boardOf 1 = .ok (.iconst 0, 1) := by decide +kernel
theorem dL_boardOf_2 : decode cL_boardOf 2 = .ok (.aload_n 0, 1) := by decide +kernel
theorem dL_boardOf_3 : decode cL_boardOf 3 = .ok (.iload_n 1, 1) := by decide +kernel
theorem dL_boardOf_4 : decode cL_boardOf 4 = .ok (.invokevirtual 56, 3) := by decide +kernel
theorem dL_boardOf_7 : decode cL_boardOf 7 = .ok (.i2l, 1) := by decide +kernel
theorem dL_boardOf_8 : decode cL_boardOf 8 = .ok (.lastore, 1) := by decide +kernel
theorem dL_boardOf_9 : decode cL_boardOf 9 = .ok (.goto 6, 3) := by decide +kernel
theorem dL_boardOf_12 : decode cL_boardOf 12 = .ok (.astore_n 3, 1) := by decide +kernel
theorem dL_boardOf_13 : decode cL_boardOf 13 = .ok (.iconst 1, 1) := by decide +kernel
theorem dL_boardOf_14 : decode cL_boardOf 14 = .ok (.ireturn, 1) := by decide +kernel
theorem dL_boardOf_15 : decode cL_boardOf 15 = .ok (.iconst 0, 1) := by decide +kernel
theorem dL_boardOf_16 : decode cL_boardOf 16 = .ok (.ireturn, 1) := by decide +kernel
theorem dL_away_0 : decode cL_away 0 = .ok (.aload_n 2, 1) := by decide +kernel
theorem dL_away_1 : decode cL_away 1 = .ok (.iconst 0, 1) := by decide +kernel
theorem dL_away_2 : decode cL_away 2 = .ok (.aload_n 0, 1) := by decide +kernel
theorem dL_away_3 : decode cL_away 3 = .ok (.iload_n 1, 1) := by decide +kernel
theorem dL_away_4 : decode cL_away 4 = .ok (.invokevirtual 59, 3) := by decide +kernel
theorem dL_away_7 : decode cL_away 7 = .ok (.i2l, 1) := by decide +kernel
theorem dL_away_8 : decode cL_away 8 = .ok (.lastore, 1) := by decide +kernel
theorem dL_away_9 : decode cL_away 9 = .ok (.goto 6, 3) := by decide +kernel
theorem dL_away_12 : decode cL_away 12 = .ok (.astore_n 3, 1) := by decide +kernel
theorem dL_away_13 : decode cL_away 13 = .ok (.iconst 1, 1) := by decide +kernel
theorem dL_away_14 : decode cL_away 14 = .ok (.ireturn, 1) := by decide +kernel
theorem dL_away_15 : decode cL_away 15 = .ok (.iconst 0, 1) := by decide +kernel
theorem dL_away_16 : decode cL_away 16 = .ok (.ireturn, 1) := by decide +kernel
theorem dL_firstTurn_0 : decode cL_firstTurn 0 = .ok (.aload_n 1, 1) := by decide +kernel
theorem dL_firstTurn_1 : decode cL_firstTurn 1 = .ok (.iconst 0, 1) := by decide +kernel
theorem dL_firstTurn_2 : decode cL_firstTurn 2 = .ok (.aload_n 0, 1) := by decide +kernel
theorem dL_firstTurn_3 : decode cL_firstTurn 3 = .ok (.invokevirtual 63, 3) := by decide +kernel
theorem dL_firstTurn_6 : decode cL_firstTurn 6 = .ok (.i2l, 1) := by decide +kernel
theorem dL_firstTurn_7 : decode cL_firstTurn 7 = .ok (.lastore, 1) := by decide +kernel
theorem dL_firstTurn_8 : decode cL_firstTurn 8 = .ok (.goto 6, 3) := by decide +kernel
theorem dL_firstTurn_11 : decode cL_firstTurn 11 = .ok (.astore_n 2, 1) := by decide +kernel
theorem dL_firstTurn_12 : decode cL_firstTurn 12 = .ok (.iconst 1, 1) := by decide +kernel
theorem dL_firstTurn_13 : decode cL_firstTurn 13 = .ok (.ireturn, 1) := by decide +kernel
theorem dL_firstTurn_14 : decode cL_firstTurn 14 = .ok (.iconst 0, 1) := by decide +kernel
theorem dL_firstTurn_15 : decode cL_firstTurn 15 = .ok (.ireturn, 1) := by decide +kernel
theorem dL_isOdd_0 : decode cL_isOdd 0 = .ok (.aload_n 2, 1) := by decide +kernel
theorem dL_isOdd_1 : decode cL_isOdd 1 = .ok (.iconst 0, 1) := by decide +kernel
theorem dL_isOdd_2 : decode cL_isOdd 2 = .ok (.aload_n 0, 1) := by decide +kernel
theorem dL_isOdd_3 : decode cL_isOdd 3 = .ok (.iload_n 1, 1) := by decide +kernel
theorem dL_isOdd_4 : decode cL_isOdd 4 = .ok (.invokevirtual 66, 3) := by decide +kernel
theorem dL_isOdd_7 : decode cL_isOdd 7 = .ok (.ifCond .eq 7, 3) := by decide +kernel
theorem dL_isOdd_10 : decode cL_isOdd 10 = .ok (.lconst 1, 1) := by decide +kernel
theorem dL_isOdd_11 : decode cL_isOdd 11 = .ok (.goto 4, 3) := by decide +kernel
theorem dL_isOdd_14 : decode cL_isOdd 14 = .ok (.lconst 0, 1) := by decide +kernel
theorem dL_isOdd_15 : decode cL_isOdd 15 = .ok (.lastore, 1) := by decide +kernel
theorem dL_isOdd_16 : decode cL_isOdd 16 = .ok (.goto 6, 3) := by decide +kernel
theorem dL_isOdd_19 : decode cL_isOdd 19 = .ok (.astore_n 3, 1) := by decide +kernel
theorem dL_isOdd_20 : decode cL_isOdd 20 = .ok (.iconst 1, 1) := by decide +kernel
theorem dL_isOdd_21 : decode cL_isOdd 21 = .ok (.ireturn, 1) := by decide +kernel
theorem dL_isOdd_22 : decode cL_isOdd 22 = .ok (.iconst 0, 1) := by decide +kernel
theorem dL_isOdd_23 : decode cL_isOdd 23 = .ok (.ireturn, 1) := by decide +kernel
theorem dL_would_0 : decode cL_would 0 = .ok (.aload_n 2, 1) := by decide +kernel
theorem dL_would_1 : decode cL_would 1 = .ok (.iconst 0, 1) := by decide +kernel
theorem dL_would_2 : decode cL_would 2 = .ok (.aload_n 0, 1) := by decide +kernel
theorem dL_would_3 : decode cL_would 3 = .ok (.iload_n 1, 1) := by decide +kernel
theorem dL_would_4 : decode cL_would 4 = .ok (.invokevirtual 70, 3) := by decide +kernel
theorem dL_would_7 : decode cL_would 7 = .ok (.i2l, 1) := by decide +kernel
theorem dL_would_8 : decode cL_would 8 = .ok (.lastore, 1) := by decide +kernel
theorem dL_would_9 : decode cL_would 9 = .ok (.goto 6, 3) := by decide +kernel
theorem dL_would_12 : decode cL_would 12 = .ok (.astore_n 3, 1) := by decide +kernel
theorem dL_would_13 : decode cL_would 13 = .ok (.iconst 1, 1) := by decide +kernel
theorem dL_would_14 : decode cL_would 14 = .ok (.ireturn, 1) := by decide +kernel
theorem dL_would_15 : decode cL_would 15 = .ok (.iconst 0, 1) := by decide +kernel
theorem dL_would_16 : decode cL_would 16 = .ok (.ireturn, 1) := by decide +kernel
theorem dL_best_0 : decode cL_best 0 = .ok (.aload_n 1, 1) := by decide +kernel
theorem dL_best_1 : decode cL_best 1 = .ok (.iconst 0, 1) := by decide +kernel
theorem dL_best_2 : decode cL_best 2 = .ok (.aload_n 0, 1) := by decide +kernel
theorem dL_best_3 : decode cL_best 3 = .ok (.invokevirtual 73, 3) := by decide +kernel
theorem dL_best_6 : decode cL_best 6 = .ok (.i2l, 1) := by decide +kernel
theorem dL_best_7 : decode cL_best 7 = .ok (.lastore, 1) := by decide +kernel
theorem dL_best_8 : decode cL_best 8 = .ok (.goto 6, 3) := by decide +kernel
theorem dL_best_11 : decode cL_best 11 = .ok (.astore_n 2, 1) := by decide +kernel
theorem dL_best_12 : decode cL_best 12 = .ok (.iconst 1, 1) := by decide +kernel
theorem dL_best_13 : decode cL_best 13 = .ok (.ireturn, 1) := by decide +kernel
theorem dL_best_14 : decode cL_best 14 = .ok (.iconst 0, 1) := by decide +kernel
theorem dL_best_15 : decode cL_best 15 = .ok (.ireturn, 1) := by decide +kernel
theorem dL_where_0 : decode cL_where 0 = .ok (.aload 4, 2) := by decide +kernel
theorem dL_where_2 : decode cL_where 2 = .ok (.iconst 0, 1) := by decide +kernel
theorem dL_where_3 : decode cL_where 3 = .ok (.aload_n 0, 1) := by decide +kernel
theorem dL_where_4 : decode cL_where 4 = .ok (.iload_n 1, 1) := by decide +kernel
theorem dL_where_5 : decode cL_where 5 = .ok (.iload_n 2, 1) := by decide +kernel
theorem dL_where_6 : decode cL_where 6 = .ok (.iload_n 3, 1) := by decide +kernel
theorem dL_where_7 : decode cL_where 7 = .ok (.invokevirtual 76, 3) := by decide +kernel
theorem dL_where_10 : decode cL_where 10 = .ok (.i2l, 1) := by decide +kernel
theorem dL_where_11 : decode cL_where 11 = .ok (.lastore, 1) := by decide +kernel
theorem dL_where_12 : decode cL_where 12 = .ok (.goto 11, 3) := by decide +kernel
theorem dL_where_15 : decode cL_where 15 = .ok (.astore 5, 2) := by decide +kernel
theorem dL_where_17 : decode cL_where 17 = .ok (.iconst 1, 1) := by decide +kernel
theorem dL_where_18 : decode cL_where 18 = .ok (.ireturn, 1) := by decide +kernel
theorem dL_where_19 : decode cL_where 19 = .ok (.astore 5, 2) := by decide +kernel
theorem dL_where_21 : decode cL_where 21 = .ok (.iconst 2, 1) := by decide +kernel
theorem dL_where_22 : decode cL_where 22 = .ok (.ireturn, 1) := by decide +kernel
theorem dL_where_23 : decode cL_where 23 = .ok (.iconst 0, 1) := by decide +kernel
theorem dL_where_24 : decode cL_where 24 = .ok (.ireturn, 1) := by decide +kernel
theorem dL_far_0 : decode cL_far 0 = .ok (.aload_n 3, 1) := by decide +kernel
theorem dL_far_1 : decode cL_far 1 = .ok (.iconst 0, 1) := by decide +kernel
theorem dL_far_2 : decode cL_far 2 = .ok (.aload_n 0, 1) := by decide +kernel
theorem dL_far_3 : decode cL_far 3 = .ok (.iload_n 1, 1) := by decide +kernel
theorem dL_far_4 : decode cL_far 4 = .ok (.iload_n 2, 1) := by decide +kernel
theorem dL_far_5 : decode cL_far 5 = .ok (.invokevirtual 80, 3) := by decide +kernel
theorem dL_far_8 : decode cL_far 8 = .ok (.i2l, 1) := by decide +kernel
theorem dL_far_9 : decode cL_far 9 = .ok (.lastore, 1) := by decide +kernel
theorem dL_far_10 : decode cL_far 10 = .ok (.goto 7, 3) := by decide +kernel
theorem dL_far_13 : decode cL_far 13 = .ok (.astore 4, 2) := by decide +kernel
theorem dL_far_15 : decode cL_far 15 = .ok (.iconst 1, 1) := by decide +kernel
theorem dL_far_16 : decode cL_far 16 = .ok (.ireturn, 1) := by decide +kernel
theorem dL_far_17 : decode cL_far 17 = .ok (.iconst 0, 1) := by decide +kernel
theorem dL_far_18 : decode cL_far 18 = .ok (.ireturn, 1) := by decide +kernel
theorem dL_sings_0 : decode cL_sings 0 = .ok (.aload_n 2, 1) := by decide +kernel
theorem dL_sings_1 : decode cL_sings 1 = .ok (.iconst 0, 1) := by decide +kernel
theorem dL_sings_2 : decode cL_sings 2 = .ok (.aload_n 0, 1) := by decide +kernel
theorem dL_sings_3 : decode cL_sings 3 = .ok (.iload_n 1, 1) := by decide +kernel
theorem dL_sings_4 : decode cL_sings 4 = .ok (.invokevirtual 83, 3) := by decide +kernel
theorem dL_sings_7 : decode cL_sings 7 = .ok (.ifCond .eq 7, 3) := by decide +kernel
theorem dL_sings_10 : decode cL_sings 10 = .ok (.lconst 1, 1) := by decide +kernel
theorem dL_sings_11 : decode cL_sings 11 = .ok (.goto 4, 3) := by decide +kernel
theorem dL_sings_14 : decode cL_sings 14 = .ok (.lconst 0, 1) := by decide +kernel
theorem dL_sings_15 : decode cL_sings 15 = .ok (.lastore, 1) := by decide +kernel
theorem dL_sings_16 : decode cL_sings 16 = .ok (.goto 6, 3) := by decide +kernel
theorem dL_sings_19 : decode cL_sings 19 = .ok (.astore_n 3, 1) := by decide +kernel
theorem dL_sings_20 : decode cL_sings 20 = .ok (.iconst 1, 1) := by decide +kernel
theorem dL_sings_21 : decode cL_sings 21 = .ok (.ireturn, 1) := by decide +kernel
theorem dL_sings_22 : decode cL_sings 22 = .ok (.iconst 0, 1) := by decide +kernel
theorem dL_sings_23 : decode cL_sings 23 = .ok (.ireturn, 1) := by decide +kernel
theorem dL_ranked_0 : decode cL_ranked 0 = .ok (.aload_n 2, 1) := by decide +kernel
theorem dL_ranked_1 : decode cL_ranked 1 = .ok (.iconst 0, 1) := by decide +kernel
theorem dL_ranked_2 : decode cL_ranked 2 = .ok (.aload_n 0, 1) := by decide +kernel
theorem dL_ranked_3 : decode cL_ranked 3 = .ok (.iload_n 1, 1) := by decide +kernel
theorem dL_ranked_4 : decode cL_ranked 4 = .ok (.invokevirtual 86, 3) := by decide +kernel
theorem dL_ranked_7 : decode cL_ranked 7 = .ok (.i2l, 1) := by decide +kernel
theorem dL_ranked_8 : decode cL_ranked 8 = .ok (.lastore, 1) := by decide +kernel
theorem dL_ranked_9 : decode cL_ranked 9 = .ok (.goto 6, 3) := by decide +kernel
theorem dL_ranked_12 : decode cL_ranked 12 = .ok (.astore_n 3, 1) := by decide +kernel
theorem dL_ranked_13 : decode cL_ranked 13 = .ok (.iconst 1, 1) := by decide +kernel
theorem dL_ranked_14 : decode cL_ranked 14 = .ok (.ireturn, 1) := by decide +kernel
theorem dL_ranked_15 : decode cL_ranked 15 = .ok (.iconst 0, 1) := by decide +kernel
theorem dL_ranked_16 : decode cL_ranked 16 = .ok (.ireturn, 1) := by decide +kernel
theorem dL_lineText_0 : decode cL_lineText 0 = .ok (.aload_n 2, 1) := by decide +kernel
theorem dL_lineText_1 : decode cL_lineText 1 = .ok (.iconst 0, 1) := by decide +kernel
theorem dL_lineText_2 : decode cL_lineText 2 = .ok (.aload_n 0, 1) := by decide +kernel
theorem dL_lineText_3 : decode cL_lineText 3 = .ok (.iload_n 1, 1) := by decide +kernel
theorem dL_lineText_4 : decode cL_lineText 4 = .ok (.invokevirtual 89, 3) := by decide +kernel
theorem dL_lineText_7 : decode cL_lineText 7 = .ok (.i2l, 1) := by decide +kernel
theorem dL_lineText_8 : decode cL_lineText 8 = .ok (.lastore, 1) := by decide +kernel
theorem dL_lineText_9 : decode cL_lineText 9 = .ok (.goto 6, 3) := by decide +kernel
theorem dL_lineText_12 : decode cL_lineText 12 = .ok (.astore_n 3, 1) := by decide +kernel
theorem dL_lineText_13 : decode cL_lineText 13 = .ok (.iconst 1, 1) := by decide +kernel
theorem dL_lineText_14 : decode cL_lineText 14 = .ok (.ireturn, 1) := by decide +kernel
theorem dL_lineText_15 : decode cL_lineText 15 = .ok (.iconst 0, 1) := by decide +kernel
theorem dL_lineText_16 : decode cL_lineText 16 = .ok (.ireturn, 1) := by decide +kernel
theorem dL_character_0 : decode cL_character 0 = .ok (.aload_n 2, 1) := by decide +kernel
theorem dL_character_1 : decode cL_character 1 = .ok (.iconst 0, 1) := by decide +kernel
theorem dL_character_2 : decode cL_character 2 = .ok (.aload_n 0, 1) := by decide +kernel
theorem dL_character_3 : decode cL_character 3 = .ok (.iload_n 1, 1) := by decide +kernel
theorem dL_character_4 : decode cL_character 4 = .ok (.invokevirtual 92, 3) := by decide +kernel
theorem dL_character_7 : decode cL_character 7 = .ok (.i2l, 1) := by decide +kernel
theorem dL_character_8 : decode cL_character 8 = .ok (.lastore, 1) := by decide +kernel
theorem dL_character_9 : decode cL_character 9 = .ok (.goto 6, 3) := by decide +kernel
theorem dL_character_12 : decode cL_character 12 = .ok (.astore_n 3, 1) := by decide +kernel
theorem dL_character_13 : decode cL_character 13 = .ok (.iconst 1, 1) := by decide +kernel
theorem dL_character_14 : decode cL_character 14 = .ok (.ireturn, 1) := by decide +kernel
theorem dL_character_15 : decode cL_character 15 = .ok (.iconst 0, 1) := by decide +kernel
theorem dL_character_16 : decode cL_character 16 = .ok (.ireturn, 1) := by decide +kernel
theorem dL_append_0 : decode cL_append 0 = .ok (.aload_n 2, 1) := by decide +kernel
theorem dL_append_1 : decode cL_append 1 = .ok (.iconst 0, 1) := by decide +kernel
theorem dL_append_2 : decode cL_append 2 = .ok (.aload_n 0, 1) := by decide +kernel
theorem dL_append_3 : decode cL_append 3 = .ok (.iload_n 1, 1) := by decide +kernel
theorem dL_append_4 : decode cL_append 4 = .ok (.invokevirtual 95, 3) := by decide +kernel
theorem dL_append_7 : decode cL_append 7 = .ok (.i2l, 1) := by decide +kernel
theorem dL_append_8 : decode cL_append 8 = .ok (.lastore, 1) := by decide +kernel
theorem dL_append_9 : decode cL_append 9 = .ok (.goto 6, 3) := by decide +kernel
theorem dL_append_12 : decode cL_append 12 = .ok (.astore_n 3, 1) := by decide +kernel
theorem dL_append_13 : decode cL_append 13 = .ok (.iconst 1, 1) := by decide +kernel
theorem dL_append_14 : decode cL_append 14 = .ok (.ireturn, 1) := by decide +kernel
theorem dL_append_15 : decode cL_append 15 = .ok (.iconst 0, 1) := by decide +kernel
theorem dL_append_16 : decode cL_append 16 = .ok (.ireturn, 1) := by decide +kernel
theorem dL_run_0 : decode cL_run 0 = .ok (.aload_n 1, 1) := by decide +kernel
theorem dL_run_1 : decode cL_run 1 = .ok (.iconst 0, 1) := by decide +kernel
theorem dL_run_2 : decode cL_run 2 = .ok (.aload_n 0, 1) := by decide +kernel
theorem dL_run_3 : decode cL_run 3 = .ok (.invokevirtual 101, 3) := by decide +kernel
theorem dL_run_6 : decode cL_run 6 = .ok (.i2l, 1) := by decide +kernel
theorem dL_run_7 : decode cL_run 7 = .ok (.lastore, 1) := by decide +kernel
theorem dL_run_8 : decode cL_run 8 = .ok (.goto 9, 3) := by decide +kernel
theorem dL_run_11 : decode cL_run 11 = .ok (.astore_n 2, 1) := by decide +kernel
theorem dL_run_12 : decode cL_run 12 = .ok (.iconst 1, 1) := by decide +kernel
theorem dL_run_13 : decode cL_run 13 = .ok (.ireturn, 1) := by decide +kernel
theorem dL_run_14 : decode cL_run 14 = .ok (.astore_n 2, 1) := by decide +kernel
theorem dL_run_15 : decode cL_run 15 = .ok (.iconst 2, 1) := by decide +kernel
theorem dL_run_16 : decode cL_run 16 = .ok (.ireturn, 1) := by decide +kernel
theorem dL_run_17 : decode cL_run 17 = .ok (.iconst 0, 1) := by decide +kernel
theorem dL_run_18 : decode cL_run 18 = .ok (.ireturn, 1) := by decide +kernel
theorem dL_refusal_0 : decode cL_refusal 0 = .ok (.aload_n 2, 1) := by decide +kernel
theorem dL_refusal_1 : decode cL_refusal 1 = .ok (.iconst 0, 1) := by decide +kernel
theorem dL_refusal_2 : decode cL_refusal 2 = .ok (.aload_n 0, 1) := by decide +kernel
theorem dL_refusal_3 : decode cL_refusal 3 = .ok (.iload_n 1, 1) := by decide +kernel
theorem dL_refusal_4 : decode cL_refusal 4 = .ok (.invokevirtual 104, 3) := by decide +kernel
theorem dL_refusal_7 : decode cL_refusal 7 = .ok (.i2l, 1) := by decide +kernel
theorem dL_refusal_8 : decode cL_refusal 8 = .ok (.lastore, 1) := by decide +kernel
theorem dL_refusal_9 : decode cL_refusal 9 = .ok (.goto 6, 3) := by decide +kernel
theorem dL_refusal_12 : decode cL_refusal 12 = .ok (.astore_n 3, 1) := by decide +kernel
theorem dL_refusal_13 : decode cL_refusal 13 = .ok (.iconst 1, 1) := by decide +kernel
theorem dL_refusal_14 : decode cL_refusal 14 = .ok (.ireturn, 1) := by decide +kernel
theorem dL_refusal_15 : decode cL_refusal 15 = .ok (.iconst 0, 1) := by decide +kernel
theorem dL_refusal_16 : decode cL_refusal 16 = .ok (.ireturn, 1) := by decide +kernel
theorem dL_account_0 : decode cL_account 0 = .ok (.aload_n 2, 1) := by decide +kernel
theorem dL_account_1 : decode cL_account 1 = .ok (.iconst 0, 1) := by decide +kernel
theorem dL_account_2 : decode cL_account 2 = .ok (.aload_n 0, 1) := by decide +kernel
theorem dL_account_3 : decode cL_account 3 = .ok (.iload_n 1, 1) := by decide +kernel
theorem dL_account_4 : decode cL_account 4 = .ok (.invokevirtual 107, 3) := by decide +kernel
theorem dL_account_7 : decode cL_account 7 = .ok (.i2l, 1) := by decide +kernel
theorem dL_account_8 : decode cL_account 8 = .ok (.lastore, 1) := by decide +kernel
theorem dL_account_9 : decode cL_account 9 = .ok (.goto 6, 3) := by decide +kernel
theorem dL_account_12 : decode cL_account 12 = .ok (.astore_n 3, 1) := by decide +kernel
theorem dL_account_13 : decode cL_account 13 = .ok (.iconst 1, 1) := by decide +kernel
theorem dL_account_14 : decode cL_account 14 = .ok (.ireturn, 1) := by decide +kernel
theorem dL_account_15 : decode cL_account 15 = .ok (.iconst 0, 1) := by decide +kernel
theorem dL_account_16 : decode cL_account 16 = .ok (.ireturn, 1) := by decide +kernel
theorem dL_meanFar_0 : decode cL_meanFar 0 = .ok (.aload_n 1, 1) := by decide +kernel
theorem dL_meanFar_1 : decode cL_meanFar 1 = .ok (.iconst 0, 1) := by decide +kernel
theorem dL_meanFar_2 : decode cL_meanFar 2 = .ok (.aload_n 0, 1) := by decide +kernel
theorem dL_meanFar_3 : decode cL_meanFar 3 = .ok (.invokevirtual 110, 3) := by decide +kernel
theorem dL_meanFar_6 : decode cL_meanFar 6 = .ok (.dastore, 1) := by decide +kernel
theorem dL_meanFar_7 : decode cL_meanFar 7 = .ok (.goto 6, 3) := by decide +kernel
theorem dL_meanFar_10 : decode cL_meanFar 10 = .ok (.astore_n 2, 1) := by decide +kernel
theorem dL_meanFar_11 : decode cL_meanFar 11 = .ok (.iconst 1, 1) := by decide +kernel
theorem dL_meanFar_12 : decode cL_meanFar 12 = .ok (.ireturn, 1) := by decide +kernel
theorem dL_meanFar_13 : decode cL_meanFar 13 = .ok (.iconst 0, 1) := by decide +kernel
theorem dL_meanFar_14 : decode cL_meanFar 14 = .ok (.ireturn, 1) := by decide +kernel
theorem dL_undo_0 : decode cL_undo 0 = .ok (.aload_n 1, 1) := by decide +kernel
theorem dL_undo_1 : decode cL_undo 1 = .ok (.iconst 0, 1) := by decide +kernel
theorem dL_undo_2 : decode cL_undo 2 = .ok (.aload_n 0, 1) := by decide +kernel
theorem dL_undo_3 : decode cL_undo 3 = .ok (.invokevirtual 116, 3) := by decide +kernel
theorem dL_undo_6 : decode cL_undo 6 = .ok (.i2l, 1) := by decide +kernel
theorem dL_undo_7 : decode cL_undo 7 = .ok (.lastore, 1) := by decide +kernel
theorem dL_undo_8 : decode cL_undo 8 = .ok (.goto 6, 3) := by decide +kernel
theorem dL_undo_11 : decode cL_undo 11 = .ok (.astore_n 2, 1) := by decide +kernel
theorem dL_undo_12 : decode cL_undo 12 = .ok (.iconst 1, 1) := by decide +kernel
theorem dL_undo_13 : decode cL_undo 13 = .ok (.ireturn, 1) := by decide +kernel
theorem dL_undo_14 : decode cL_undo 14 = .ok (.iconst 0, 1) := by decide +kernel
theorem dL_undo_15 : decode cL_undo 15 = .ok (.ireturn, 1) := by decide +kernel
theorem dL_restore_0 : decode cL_restore 0 = .ok (.aload_n 1, 1) := by decide +kernel
theorem dL_restore_1 : decode cL_restore 1 = .ok (.iconst 0, 1) := by decide +kernel
theorem dL_restore_2 : decode cL_restore 2 = .ok (.aload_n 0, 1) := by decide +kernel
theorem dL_restore_3 : decode cL_restore 3 = .ok (.invokevirtual 119, 3) := by decide +kernel
theorem dL_restore_6 : decode cL_restore 6 = .ok (.i2l, 1) := by decide +kernel
theorem dL_restore_7 : decode cL_restore 7 = .ok (.lastore, 1) := by decide +kernel
theorem dL_restore_8 : decode cL_restore 8 = .ok (.goto 6, 3) := by decide +kernel
theorem dL_restore_11 : decode cL_restore 11 = .ok (.astore_n 2, 1) := by decide +kernel
theorem dL_restore_12 : decode cL_restore 12 = .ok (.iconst 1, 1) := by decide +kernel
theorem dL_restore_13 : decode cL_restore 13 = .ok (.ireturn, 1) := by decide +kernel
theorem dL_restore_14 : decode cL_restore 14 = .ok (.iconst 0, 1) := by decide +kernel
theorem dL_restore_15 : decode cL_restore 15 = .ok (.ireturn, 1) := by decide +kernel
