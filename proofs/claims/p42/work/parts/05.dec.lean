theorem dX5_init_0 : decode cX5_init 0 = .ok (.aload_n 0, 1) := by decide +kernel
theorem dX5_init_1 : decode cX5_init 1 = .ok (.invokespecial 3, 3) := by decide +kernel
theorem dX5_init_4 : decode cX5_init 4 = .ok (.aload_n 0, 1) := by decide +kernel
theorem dX5_init_5 : decode cX5_init 5 = .ok (.new 9, 3) := by decide +kernel
theorem dX5_init_8 : decode cX5_init 8 = .ok (.dup, 1) := by decide +kernel
theorem dX5_init_9 : decode cX5_init 9 = .ok (.invokespecial 11, 3) := by decide +kernel
theorem dX5_init_12 : decode cX5_init 12 = .ok (.putfield 12, 3) := by decide +kernel
theorem dX5_init_15 : decode cX5_init 15 = .ok (.aload_n 0, 1) := by decide +kernel
theorem dX5_init_16 : decode cX5_init 16 = .ok (.new 9, 3) := by decide +kernel
theorem dX5_init_19 : decode cX5_init 19 = .ok (.dup, 1) := by decide +kernel
theorem dX5_init_20 : decode cX5_init 20 = .ok (.invokespecial 11, 3) := by decide +kernel
theorem dX5_init_23 : decode cX5_init 23 = .ok (.putfield 16, 3) := by decide +kernel
theorem dX5_init_26 : decode cX5_init 26 = .ok (.aload_n 0, 1) := by decide +kernel
theorem dX5_init_27 : decode cX5_init 27 = .ok (.new 9, 3) := by decide +kernel
theorem dX5_init_30 : decode cX5_init 30 = .ok (.dup, 1) := by decide +kernel
theorem dX5_init_31 : decode cX5_init 31 = .ok (.invokespecial 11, 3) := by decide +kernel
theorem dX5_init_34 : decode cX5_init 34 = .ok (.putfield 19, 3) := by decide +kernel
theorem dX5_init_37 : decode cX5_init 37 = .ok (.aload_n 0, 1) := by decide +kernel
theorem dX5_init_38 : decode cX5_init 38 = .ok (.new 22, 3) := by decide +kernel
theorem dX5_init_41 : decode cX5_init 41 = .ok (.dup, 1) := by decide +kernel
theorem dX5_init_42 : decode cX5_init 42 = .ok (.invokespecial 24, 3) := by decide +kernel
theorem dX5_init_45 : decode cX5_init 45 = .ok (.putfield 25, 3) := by decide +kernel
theorem dX5_init_48 : decode cX5_init 48 = .ok (.aload_n 0, 1) := by decide +kernel
theorem dX5_init_49 : decode cX5_init 49 = .ok (.new 29, 3) := by decide +kernel
theorem dX5_init_52 : decode cX5_init 52 = .ok (.dup, 1) := by decide +kernel
theorem dX5_init_53 : decode cX5_init 53 = .ok (.invokespecial 31, 3) := by decide +kernel
theorem dX5_init_56 : decode cX5_init 56 = .ok (.putfield 32, 3) := by decide +kernel
theorem dX5_init_59 : decode cX5_init 59 = .ok (.aload_n 0, 1) := by decide +kernel
theorem dX5_init_60 : decode cX5_init 60 = .ok (.new 36, 3) := by decide +kernel
theorem dX5_init_63 : decode cX5_init 63 = .ok (.dup, 1) := by decide +kernel
theorem dX5_init_64 : decode cX5_init 64 = .ok (.invokespecial 38, 3) := by decide +kernel
theorem dX5_init_67 : decode cX5_init 67 = .ok (.putfield 39, 3) := by decide +kernel
theorem dX5_init_70 : decode cX5_init 70 = .ok (.aload_n 0, 1) := by decide +kernel
theorem dX5_init_71 : decode cX5_init 71 = .ok (.new 43, 3) := by decide +kernel
theorem dX5_init_74 : decode cX5_init 74 = .ok (.dup, 1) := by decide +kernel
theorem dX5_init_75 : decode cX5_init 75 = .ok (.invokespecial 45, 3) := by decide +kernel
theorem dX5_init_78 : decode cX5_init 78 = .ok (.putfield 46, 3) := by decide +kernel
theorem dX5_init_81 : decode cX5_init 81 = .ok (.aload_n 0, 1) := by decide +kernel
theorem dX5_init_82 : decode cX5_init 82 = .ok (.bipush 60, 2) := by decide +kernel
theorem dX5_init_84 : decode cX5_init 84 = .ok (.newarray .char, 2) := by decide +kernel
theorem dX5_init_86 : decode cX5_init 86 = .ok (.putfield 50, 3) := by decide +kernel
theorem dX5_init_89 : decode cX5_init 89 = .ok (.aload_n 0, 1) := by decide +kernel
theorem dX5_init_90 : decode cX5_init 90 = .ok (.iconst 0, 1) := by decide +kernel
theorem dX5_init_91 : decode cX5_init 91 = .ok (.putfield 54, 3) := by decide +kernel
theorem dX5_init_94 : decode cX5_init 94 = .ok (.aload_n 0, 1) := by decide +kernel
theorem dX5_init_95 : decode cX5_init 95 = .ok (.iconst (-1), 1) := by decide +kernel
theorem dX5_init_96 : decode cX5_init 96 = .ok (.putfield 58, 3) := by decide +kernel
theorem dX5_init_99 : decode cX5_init 99 = .ok (.aload_n 0, 1) := by decide +kernel
theorem dX5_init_100 : decode cX5_init 100 = .ok (.iconst (-1), 1) := by decide +kernel
theorem dX5_init_101 : decode cX5_init 101 = .ok (.putfield 61, 3) := by decide +kernel
theorem dX5_init_104 : decode cX5_init 104 = .ok (.aload_n 0, 1) := by decide +kernel
theorem dX5_init_105 : decode cX5_init 105 = .ok (.iconst (-1), 1) := by decide +kernel
theorem dX5_init_106 : decode cX5_init 106 = .ok (.putfield 64, 3) := by decide +kernel
theorem dX5_init_109 : decode cX5_init 109 = .ok (.aload_n 0, 1) := by decide +kernel
theorem dX5_init_110 : decode cX5_init 110 = .ok (.iconst 0, 1) := by decide +kernel
theorem dX5_init_111 : decode cX5_init 111 = .ok (.putfield 67, 3) := by decide +kernel
theorem dX5_init_114 : decode cX5_init 114 = .ok (.aload_n 0, 1) := by decide +kernel
theorem dX5_init_115 : decode cX5_init 115 = .ok (.getfield 12, 3) := by decide +kernel
theorem dX5_init_118 : decode cX5_init 118 = .ok (.iconst 3, 1) := by decide +kernel
theorem dX5_init_119 : decode cX5_init 119 = .ok (.iconst 3, 1) := by decide +kernel
theorem dX5_init_120 : decode cX5_init 120 = .ok (.invokevirtual 71, 3) := by decide +kernel
theorem dX5_init_123 : decode cX5_init 123 = .ok (.return_, 1) := by decide +kernel
theorem dX5_board_0 : decode cX5_board 0 = .ok (.aload_n 0, 1) := by decide +kernel
theorem dX5_board_1 : decode cX5_board 1 = .ok (.bipush 98, 2) := by decide +kernel
theorem dX5_board_3 : decode cX5_board 3 = .ok (.iload_n 1, 1) := by decide +kernel
theorem dX5_board_4 : decode cX5_board 4 = .ok (.iload_n 2, 1) := by decide +kernel
theorem dX5_board_5 : decode cX5_board 5 = .ok (.invokevirtual 75, 3) := by decide +kernel
theorem dX5_board_8 : decode cX5_board 8 = .ok (.aload_n 0, 1) := by decide +kernel
theorem dX5_board_9 : decode cX5_board 9 = .ok (.getfield 12, 3) := by decide +kernel
theorem dX5_board_12 : decode cX5_board 12 = .ok (.invokevirtual 79, 3) := by decide +kernel
theorem dX5_board_15 : decode cX5_board 15 = .ok (.ireturn, 1) := by decide +kernel
theorem dX5_put_0 : decode cX5_put 0 = .ok (.aload_n 0, 1) := by decide +kernel
theorem dX5_put_1 : decode cX5_put 1 = .ok (.getfield 12, 3) := by decide +kernel
theorem dX5_put_4 : decode cX5_put 4 = .ok (.getfield 83, 3) := by decide +kernel
theorem dX5_put_7 : decode cX5_put 7 = .ok (.lstore_n 3, 1) := by decide +kernel
theorem dX5_put_8 : decode cX5_put 8 = .ok (.aload_n 0, 1) := by decide +kernel
theorem dX5_put_9 : decode cX5_put 9 = .ok (.bipush 112, 2) := by decide +kernel
theorem dX5_put_11 : decode cX5_put 11 = .ok (.iload_n 1, 1) := by decide +kernel
theorem dX5_put_12 : decode cX5_put 12 = .ok (.iload_n 2, 1) := by decide +kernel
theorem dX5_put_13 : decode cX5_put 13 = .ok (.invokestatic 87, 3) := by decide +kernel
theorem dX5_put_16 : decode cX5_put 16 = .ok (.invokevirtual 75, 3) := by decide +kernel
theorem dX5_put_19 : decode cX5_put 19 = .ok (.lload_n 3, 1) := by decide +kernel
theorem dX5_put_20 : decode cX5_put 20 = .ok (.iload_n 1, 1) := by decide +kernel
theorem dX5_put_21 : decode cX5_put 21 = .ok (.invokestatic 91, 3) := by decide +kernel
theorem dX5_put_24 : decode cX5_put 24 = .ok (.invokestatic 95, 3) := by decide +kernel
theorem dX5_put_27 : decode cX5_put 27 = .ok (.ireturn, 1) := by decide +kernel
theorem dX5_goal_0 : decode cX5_goal 0 = .ok (.aload_n 0, 1) := by decide +kernel
theorem dX5_goal_1 : decode cX5_goal 1 = .ok (.getfield 12, 3) := by decide +kernel
theorem dX5_goal_4 : decode cX5_goal 4 = .ok (.getfield 99, 3) := by decide +kernel
theorem dX5_goal_7 : decode cX5_goal 7 = .ok (.lstore_n 3, 1) := by decide +kernel
theorem dX5_goal_8 : decode cX5_goal 8 = .ok (.aload_n 0, 1) := by decide +kernel
theorem dX5_goal_9 : decode cX5_goal 9 = .ok (.bipush 103, 2) := by decide +kernel
theorem dX5_goal_11 : decode cX5_goal 11 = .ok (.iload_n 1, 1) := by decide +kernel
theorem dX5_goal_12 : decode cX5_goal 12 = .ok (.iload_n 2, 1) := by decide +kernel
theorem dX5_goal_13 : decode cX5_goal 13 = .ok (.invokestatic 87, 3) := by decide +kernel
theorem dX5_goal_16 : decode cX5_goal 16 = .ok (.invokevirtual 75, 3) := by decide +kernel
theorem dX5_goal_19 : decode cX5_goal 19 = .ok (.lload_n 3, 1) := by decide +kernel
theorem dX5_goal_20 : decode cX5_goal 20 = .ok (.iload_n 1, 1) := by decide +kernel
theorem dX5_goal_21 : decode cX5_goal 21 = .ok (.invokestatic 91, 3) := by decide +kernel
theorem dX5_goal_24 : decode cX5_goal 24 = .ok (.invokestatic 95, 3) := by decide +kernel
theorem dX5_goal_27 : decode cX5_goal 27 = .ok (.ireturn, 1) := by decide +kernel
theorem dX5_turn_0 : decode cX5_turn 0 = .ok (.aload_n 0, 1) := by decide +kernel
theorem dX5_turn_1 : decode cX5_turn 1 = .ok (.bipush 116, 2) := by decide +kernel
theorem dX5_turn_3 : decode cX5_turn 3 = .ok (.iload_n 1, 1) := by decide +kernel
theorem dX5_turn_4 : decode cX5_turn 4 = .ok (.iconst 0, 1) := by decide +kernel
theorem dX5_turn_5 : decode cX5_turn 5 = .ok (.invokevirtual 75, 3) := by decide +kernel
theorem dX5_turn_8 : decode cX5_turn 8 = .ok (.aload_n 0, 1) := by decide +kernel
theorem dX5_turn_9 : decode cX5_turn 9 = .ok (.getfield 12, 3) := by decide +kernel
theorem dX5_turn_12 : decode cX5_turn 12 = .ok (.aload_n 0, 1) := by decide +kernel
theorem dX5_turn_13 : decode cX5_turn 13 = .ok (.getfield 12, 3) := by decide +kernel
theorem dX5_turn_16 : decode cX5_turn 16 = .ok (.getfield 83, 3) := by decide +kernel
theorem dX5_turn_19 : decode cX5_turn 19 = .ok (.invokevirtual 102, 3) := by decide +kernel
theorem dX5_turn_22 : decode cX5_turn 22 = .ok (.ireturn, 1) := by decide +kernel
theorem dX5_swap_0 : decode cX5_swap 0 = .ok (.aload_n 0, 1) := by decide +kernel
theorem dX5_swap_1 : decode cX5_swap 1 = .ok (.bipush 115, 2) := by decide +kernel
theorem dX5_swap_3 : decode cX5_swap 3 = .ok (.iload_n 1, 1) := by decide +kernel
theorem dX5_swap_4 : decode cX5_swap 4 = .ok (.iload_n 2, 1) := by decide +kernel
theorem dX5_swap_5 : decode cX5_swap 5 = .ok (.invokevirtual 75, 3) := by decide +kernel
theorem dX5_swap_8 : decode cX5_swap 8 = .ok (.aload_n 0, 1) := by decide +kernel
theorem dX5_swap_9 : decode cX5_swap 9 = .ok (.getfield 12, 3) := by decide +kernel
theorem dX5_swap_12 : decode cX5_swap 12 = .ok (.aload_n 0, 1) := by decide +kernel
theorem dX5_swap_13 : decode cX5_swap 13 = .ok (.getfield 12, 3) := by decide +kernel
theorem dX5_swap_16 : decode cX5_swap 16 = .ok (.getfield 83, 3) := by decide +kernel
theorem dX5_swap_19 : decode cX5_swap 19 = .ok (.invokevirtual 102, 3) := by decide +kernel
theorem dX5_swap_22 : decode cX5_swap 22 = .ok (.ireturn, 1) := by decide +kernel
theorem dX5_bar_0 : decode cX5_bar 0 = .ok (.aload_n 0, 1) := by decide +kernel
theorem dX5_bar_1 : decode cX5_bar 1 = .ok (.bipush 120, 2) := by decide +kernel
theorem dX5_bar_3 : decode cX5_bar 3 = .ok (.iload_n 1, 1) := by decide +kernel
theorem dX5_bar_4 : decode cX5_bar 4 = .ok (.iconst 0, 1) := by decide +kernel
theorem dX5_bar_5 : decode cX5_bar 5 = .ok (.invokevirtual 75, 3) := by decide +kernel
theorem dX5_bar_8 : decode cX5_bar 8 = .ok (.aload_n 0, 1) := by decide +kernel
theorem dX5_bar_9 : decode cX5_bar 9 = .ok (.getfield 12, 3) := by decide +kernel
theorem dX5_bar_12 : decode cX5_bar 12 = .ok (.iload_n 1, 1) := by decide +kernel
theorem dX5_bar_13 : decode cX5_bar 13 = .ok (.invokevirtual 106, 3) := by decide +kernel
theorem dX5_bar_16 : decode cX5_bar 16 = .ok (.ireturn, 1) := by decide +kernel
theorem dX5_scramble_0 : decode cX5_scramble 0 = .ok (.aload_n 0, 1) := by decide +kernel
theorem dX5_scramble_1 : decode cX5_scramble 1 = .ok (.getfield 12, 3) := by decide +kernel
theorem dX5_scramble_4 : decode cX5_scramble 4 = .ok (.getfield 110, 3) := by decide +kernel
theorem dX5_scramble_7 : decode cX5_scramble 7 = .ok (.istore_n 3, 1) := by decide +kernel
theorem dX5_scramble_8 : decode cX5_scramble 8 = .ok (.aload_n 0, 1) := by decide +kernel
theorem dX5_scramble_9 : decode cX5_scramble 9 = .ok (.bipush 114, 2) := by decide +kernel
theorem dX5_scramble_11 : decode cX5_scramble 11 = .ok (.iload_n 1, 1) := by decide +kernel
theorem dX5_scramble_12 : decode cX5_scramble 12 = .ok (.iload_n 2, 1) := by decide +kernel
theorem dX5_scramble_13 : decode cX5_scramble 13 = .ok (.invokevirtual 75, 3) := by decide +kernel
theorem dX5_scramble_16 : decode cX5_scramble 16 = .ok (.aload_n 0, 1) := by decide +kernel
theorem dX5_scramble_17 : decode cX5_scramble 17 = .ok (.getfield 12, 3) := by decide +kernel
theorem dX5_scramble_20 : decode cX5_scramble 20 = .ok (.getfield 110, 3) := by decide +kernel
theorem dX5_scramble_23 : decode cX5_scramble 23 = .ok (.iload_n 3, 1) := by decide +kernel
theorem dX5_scramble_24 : decode cX5_scramble 24 = .ok (.isub, 1) := by decide +kernel
theorem dX5_scramble_25 : decode cX5_scramble 25 = .ok (.ireturn, 1) := by decide +kernel
theorem dX5_step_0 : decode cX5_step 0 = .ok (.aload_n 0, 1) := by decide +kernel
theorem dX5_step_1 : decode cX5_step 1 = .ok (.invokevirtual 113, 3) := by decide +kernel
theorem dX5_step_4 : decode cX5_step 4 = .ok (.invokestatic 116, 3) := by decide +kernel
theorem dX5_step_7 : decode cX5_step 7 = .ok (.aload_n 0, 1) := by decide +kernel
theorem dX5_step_8 : decode cX5_step 8 = .ok (.getfield 32, 3) := by decide +kernel
theorem dX5_step_11 : decode cX5_step 11 = .ok (.aload_n 0, 1) := by decide +kernel
theorem dX5_step_12 : decode cX5_step 12 = .ok (.getfield 12, 3) := by decide +kernel
theorem dX5_step_15 : decode cX5_step 15 = .ok (.invokevirtual 120, 3) := by decide +kernel
theorem dX5_step_18 : decode cX5_step 18 = .ok (.aload_n 0, 1) := by decide +kernel
theorem dX5_step_19 : decode cX5_step 19 = .ok (.getfield 32, 3) := by decide +kernel
theorem dX5_step_22 : decode cX5_step 22 = .ok (.getfield 124, 3) := by decide +kernel
theorem dX5_step_25 : decode cX5_step 25 = .ok (.istore_n 1, 1) := by decide +kernel
theorem dX5_step_26 : decode cX5_step 26 = .ok (.iload_n 1, 1) := by decide +kernel
theorem dX5_step_27 : decode cX5_step 27 = .ok (.ifCond .ge 13, 3) := by decide +kernel
theorem dX5_step_30 : decode cX5_step 30 = .ok (.new 127, 3) := by decide +kernel
theorem dX5_step_33 : decode cX5_step 33 = .ok (.dup, 1) := by decide +kernel
theorem dX5_step_34 : decode cX5_step 34 = .ok (.ldc 129, 2) := by decide +kernel
theorem dX5_step_36 : decode cX5_step 36 = .ok (.invokespecial 131, 3) := by decide +kernel
theorem dX5_step_39 : decode cX5_step 39 = .ok (.athrow, 1) := by decide +kernel
theorem dX5_step_40 : decode cX5_step 40 = .ok (.aload_n 0, 1) := by decide +kernel
theorem dX5_step_41 : decode cX5_step 41 = .ok (.getfield 25, 3) := by decide +kernel
theorem dX5_step_44 : decode cX5_step 44 = .ok (.aload_n 0, 1) := by decide +kernel
theorem dX5_step_45 : decode cX5_step 45 = .ok (.getfield 12, 3) := by decide +kernel
theorem dX5_step_48 : decode cX5_step 48 = .ok (.invokevirtual 134, 3) := by decide +kernel
theorem dX5_step_51 : decode cX5_step 51 = .ok (.aload_n 0, 1) := by decide +kernel
theorem dX5_step_52 : decode cX5_step 52 = .ok (.getfield 12, 3) := by decide +kernel
theorem dX5_step_55 : decode cX5_step 55 = .ok (.dup, 1) := by decide +kernel
theorem dX5_step_56 : decode cX5_step 56 = .ok (.getfield 137, 3) := by decide +kernel
theorem dX5_step_59 : decode cX5_step 59 = .ok (.iconst 1, 1) := by decide +kernel
theorem dX5_step_60 : decode cX5_step 60 = .ok (.iadd, 1) := by decide +kernel
theorem dX5_step_61 : decode cX5_step 61 = .ok (.putfield 137, 3) := by decide +kernel
theorem dX5_step_64 : decode cX5_step 64 = .ok (.aload_n 0, 1) := by decide +kernel
theorem dX5_step_65 : decode cX5_step 65 = .ok (.getfield 12, 3) := by decide +kernel
theorem dX5_step_68 : decode cX5_step 68 = .ok (.iload_n 1, 1) := by decide +kernel
theorem dX5_step_69 : decode cX5_step 69 = .ok (.invokevirtual 140, 3) := by decide +kernel
theorem dX5_step_72 : decode cX5_step 72 = .ok (.iload_n 1, 1) := by decide +kernel
theorem dX5_step_73 : decode cX5_step 73 = .ok (.ireturn, 1) := by decide +kernel
theorem dX5_letter_0 : decode cX5_letter 0 = .ok (.aload_n 0, 1) := by decide +kernel
theorem dX5_letter_1 : decode cX5_letter 1 = .ok (.getfield 12, 3) := by decide +kernel
theorem dX5_letter_4 : decode cX5_letter 4 = .ok (.iload_n 1, 1) := by decide +kernel
theorem dX5_letter_5 : decode cX5_letter 5 = .ok (.invokevirtual 143, 3) := by decide +kernel
theorem dX5_letter_8 : decode cX5_letter 8 = .ok (.invokestatic 146, 3) := by decide +kernel
theorem dX5_letter_11 : decode cX5_letter 11 = .ok (.aload_n 0, 1) := by decide +kernel
theorem dX5_letter_12 : decode cX5_letter 12 = .ok (.getfield 12, 3) := by decide +kernel
theorem dX5_letter_15 : decode cX5_letter 15 = .ok (.getfield 83, 3) := by decide +kernel
theorem dX5_letter_18 : decode cX5_letter 18 = .ok (.iload_n 1, 1) := by decide +kernel
theorem dX5_letter_19 : decode cX5_letter 19 = .ok (.invokestatic 91, 3) := by decide +kernel
theorem dX5_letter_22 : decode cX5_letter 22 = .ok (.invokestatic 95, 3) := by decide +kernel
theorem dX5_letter_25 : decode cX5_letter 25 = .ok (.ireturn, 1) := by decide +kernel
theorem dX5_sign_0 : decode cX5_sign 0 = .ok (.aload_n 0, 1) := by decide +kernel
theorem dX5_sign_1 : decode cX5_sign 1 = .ok (.getfield 12, 3) := by decide +kernel
theorem dX5_sign_4 : decode cX5_sign 4 = .ok (.iload_n 1, 1) := by decide +kernel
theorem dX5_sign_5 : decode cX5_sign 5 = .ok (.invokevirtual 143, 3) := by decide +kernel
theorem dX5_sign_8 : decode cX5_sign 8 = .ok (.invokestatic 146, 3) := by decide +kernel
theorem dX5_sign_11 : decode cX5_sign 11 = .ok (.aload_n 0, 1) := by decide +kernel
theorem dX5_sign_12 : decode cX5_sign 12 = .ok (.getfield 12, 3) := by decide +kernel
theorem dX5_sign_15 : decode cX5_sign 15 = .ok (.getfield 99, 3) := by decide +kernel
theorem dX5_sign_18 : decode cX5_sign 18 = .ok (.iload_n 1, 1) := by decide +kernel
theorem dX5_sign_19 : decode cX5_sign 19 = .ok (.invokestatic 91, 3) := by decide +kernel
theorem dX5_sign_22 : decode cX5_sign 22 = .ok (.invokestatic 95, 3) := by decide +kernel
theorem dX5_sign_25 : decode cX5_sign 25 = .ok (.ireturn, 1) := by decide +kernel
theorem dX5_isBarred_0 : decode cX5_isBarred 0 = .ok (.aload_n 0, 1) := by decide +kernel
theorem dX5_isBarred_1 : decode cX5_isBarred 1 = .ok (.getfield 12, 3) := by decide +kernel
theorem dX5_isBarred_4 : decode cX5_isBarred 4 = .ok (.iload_n 1, 1) := by decide +kernel
theorem dX5_isBarred_5 : decode cX5_isBarred 5 = .ok (.invokevirtual 150, 3) := by decide +kernel
theorem dX5_isBarred_8 : decode cX5_isBarred 8 = .ok (.invokestatic 146, 3) := by decide +kernel
theorem dX5_isBarred_11 : decode cX5_isBarred 11 = .ok (.aload_n 0, 1) := by decide +kernel
theorem dX5_isBarred_12 : decode cX5_isBarred 12 = .ok (.getfield 12, 3) := by decide +kernel
theorem dX5_isBarred_15 : decode cX5_isBarred 15 = .ok (.iload_n 1, 1) := by decide +kernel
theorem dX5_isBarred_16 : decode cX5_isBarred 16 = .ok (.invokevirtual 106, 3) := by decide +kernel
theorem dX5_isBarred_19 : decode cX5_isBarred 19 = .ok (.ireturn, 1) := by decide +kernel
theorem dX5_boardOf_0 : decode cX5_boardOf 0 = .ok (.iload_n 1, 1) := by decide +kernel
theorem dX5_boardOf_1 : decode cX5_boardOf 1 = .ok (.tableswitch 118 0 6 #[43, 51, 59, 67, 85, 93, 101], 43) := by decide +kernel
theorem dX5_boardOf_44 : decode cX5_boardOf 44 = .ok (.aload_n 0, 1) := by decide +kernel
theorem dX5_boardOf_45 : decode cX5_boardOf 45 = .ok (.getfield 12, 3) := by decide +kernel
theorem dX5_boardOf_48 : decode cX5_boardOf 48 = .ok (.getfield 153, 3) := by decide +kernel
theorem dX5_boardOf_51 : decode cX5_boardOf 51 = .ok (.ireturn, 1) := by decide +kernel
theorem dX5_boardOf_52 : decode cX5_boardOf 52 = .ok (.aload_n 0, 1) := by decide +kernel
theorem dX5_boardOf_53 : decode cX5_boardOf 53 = .ok (.getfield 12, 3) := by decide +kernel
theorem dX5_boardOf_56 : decode cX5_boardOf 56 = .ok (.getfield 156, 3) := by decide +kernel
theorem dX5_boardOf_59 : decode cX5_boardOf 59 = .ok (.ireturn, 1) := by decide +kernel
theorem dX5_boardOf_60 : decode cX5_boardOf 60 = .ok (.aload_n 0, 1) := by decide +kernel
theorem dX5_boardOf_61 : decode cX5_boardOf 61 = .ok (.getfield 12, 3) := by decide +kernel
theorem dX5_boardOf_64 : decode cX5_boardOf 64 = .ok (.invokevirtual 159, 3) := by decide +kernel
theorem dX5_boardOf_67 : decode cX5_boardOf 67 = .ok (.ireturn, 1) := by decide +kernel
theorem dX5_boardOf_68 : decode cX5_boardOf 68 = .ok (.aload_n 0, 1) := by decide +kernel
theorem dX5_boardOf_69 : decode cX5_boardOf 69 = .ok (.getfield 12, 3) := by decide +kernel
theorem dX5_boardOf_72 : decode cX5_boardOf 72 = .ok (.invokevirtual 159, 3) := by decide +kernel
theorem dX5_boardOf_75 : decode cX5_boardOf 75 = .ok (.iconst 2, 1) := by decide +kernel
theorem dX5_boardOf_76 : decode cX5_boardOf 76 = .ok (.aload_n 0, 1) := by decide +kernel
theorem dX5_boardOf_77 : decode cX5_boardOf 77 = .ok (.getfield 12, 3) := by decide +kernel
theorem dX5_boardOf_80 : decode cX5_boardOf 80 = .ok (.invokevirtual 162, 3) := by decide +kernel
theorem dX5_boardOf_83 : decode cX5_boardOf 83 = .ok (.imul, 1) := by decide +kernel
theorem dX5_boardOf_84 : decode cX5_boardOf 84 = .ok (.isub, 1) := by decide +kernel
theorem dX5_boardOf_85 : decode cX5_boardOf 85 = .ok (.ireturn, 1) := by decide +kernel
theorem dX5_boardOf_86 : decode cX5_boardOf 86 = .ok (.aload_n 0, 1) := by decide +kernel
theorem dX5_boardOf_87 : decode cX5_boardOf 87 = .ok (.getfield 12, 3) := by decide +kernel
theorem dX5_boardOf_90 : decode cX5_boardOf 90 = .ok (.invokevirtual 165, 3) := by decide +kernel
theorem dX5_boardOf_93 : decode cX5_boardOf 93 = .ok (.ireturn, 1) := by decide +kernel
theorem dX5_boardOf_94 : decode cX5_boardOf 94 = .ok (.aload_n 0, 1) := by decide +kernel
theorem dX5_boardOf_95 : decode cX5_boardOf 95 = .ok (.getfield 12, 3) := by decide +kernel
theorem dX5_boardOf_98 : decode cX5_boardOf 98 = .ok (.invokevirtual 168, 3) := by decide +kernel
theorem dX5_boardOf_101 : decode cX5_boardOf 101 = .ok (.ireturn, 1) := by decide +kernel
theorem dX5_boardOf_102 : decode cX5_boardOf 102 = .ok (.aload_n 0, 1) := by decide +kernel
theorem dX5_boardOf_103 : decode cX5_boardOf 103 = .ok (.getfield 12, 3) := by decide +kernel
theorem dX5_boardOf_106 : decode cX5_boardOf 106 = .ok (.aload_n 0, 1) := by decide +kernel
theorem dX5_boardOf_107 : decode cX5_boardOf 107 = .ok (.getfield 12, 3) := by decide +kernel
theorem dX5_boardOf_110 : decode cX5_boardOf 110 = .ok (.getfield 99, 3) := by decide +kernel
theorem dX5_boardOf_113 : decode cX5_boardOf 113 = .ok (.bipush 12, 2) := by decide +kernel
theorem dX5_boardOf_115 : decode cX5_boardOf 115 = .ok (.invokevirtual 171, 3) := by decide +kernel
theorem dX5_boardOf_118 : decode cX5_boardOf 118 = .ok (.ireturn, 1) := by decide +kernel
theorem dX5_boardOf_119 : decode cX5_boardOf 119 = .ok (.new 174, 3) := by decide +kernel
theorem dX5_boardOf_122 : decode cX5_boardOf 122 = .ok (.dup, 1) := by decide +kernel
theorem dX5_boardOf_123 : decode cX5_boardOf 123 = .ok (.ldc 176, 2) := by decide +kernel
theorem dX5_boardOf_125 : decode cX5_boardOf 125 = .ok (.invokespecial 178, 3) := by decide +kernel
theorem dX5_boardOf_128 : decode cX5_boardOf 128 = .ok (.athrow, 1) := by decide +kernel
theorem dX5_away_0 : decode cX5_away 0 = .ok (.iload_n 1, 1) := by decide +kernel
theorem dX5_away_1 : decode cX5_away 1 = .ok (.ifCond .eq 10, 3) := by decide +kernel
theorem dX5_away_4 : decode cX5_away 4 = .ok (.aload_n 0, 1) := by decide +kernel
theorem dX5_away_5 : decode cX5_away 5 = .ok (.invokevirtual 179, 3) := by decide +kernel
theorem dX5_away_8 : decode cX5_away 8 = .ok (.goto 7, 3) := by decide +kernel
theorem dX5_away_11 : decode cX5_away 11 = .ok (.aload_n 0, 1) := by decide +kernel
theorem dX5_away_12 : decode cX5_away 12 = .ok (.invokevirtual 182, 3) := by decide +kernel
theorem dX5_away_15 : decode cX5_away 15 = .ok (.istore_n 2, 1) := by decide +kernel
theorem dX5_away_16 : decode cX5_away 16 = .ok (.iload_n 2, 1) := by decide +kernel
theorem dX5_away_17 : decode cX5_away 17 = .ok (.iconst 3, 1) := by decide +kernel
theorem dX5_away_18 : decode cX5_away 18 = .ok (.if_icmp .le 13, 3) := by decide +kernel
theorem dX5_away_21 : decode cX5_away 21 = .ok (.new 127, 3) := by decide +kernel
theorem dX5_away_24 : decode cX5_away 24 = .ok (.dup, 1) := by decide +kernel
theorem dX5_away_25 : decode cX5_away 25 = .ok (.ldc 129, 2) := by decide +kernel
theorem dX5_away_27 : decode cX5_away 27 = .ok (.invokespecial 131, 3) := by decide +kernel
theorem dX5_away_30 : decode cX5_away 30 = .ok (.athrow, 1) := by decide +kernel
theorem dX5_away_31 : decode cX5_away 31 = .ok (.iload_n 2, 1) := by decide +kernel
theorem dX5_away_32 : decode cX5_away 32 = .ok (.ireturn, 1) := by decide +kernel
theorem dX5_firstTurn_0 : decode cX5_firstTurn 0 = .ok (.aload_n 0, 1) := by decide +kernel
theorem dX5_firstTurn_1 : decode cX5_firstTurn 1 = .ok (.getfield 32, 3) := by decide +kernel
theorem dX5_firstTurn_4 : decode cX5_firstTurn 4 = .ok (.aload_n 0, 1) := by decide +kernel
theorem dX5_firstTurn_5 : decode cX5_firstTurn 5 = .ok (.getfield 12, 3) := by decide +kernel
theorem dX5_firstTurn_8 : decode cX5_firstTurn 8 = .ok (.invokevirtual 120, 3) := by decide +kernel
theorem dX5_firstTurn_11 : decode cX5_firstTurn 11 = .ok (.aload_n 0, 1) := by decide +kernel
theorem dX5_firstTurn_12 : decode cX5_firstTurn 12 = .ok (.getfield 32, 3) := by decide +kernel
theorem dX5_firstTurn_15 : decode cX5_firstTurn 15 = .ok (.getfield 124, 3) := by decide +kernel
theorem dX5_firstTurn_18 : decode cX5_firstTurn 18 = .ok (.ifCond .ge 13, 3) := by decide +kernel
theorem dX5_firstTurn_21 : decode cX5_firstTurn 21 = .ok (.new 127, 3) := by decide +kernel
theorem dX5_firstTurn_24 : decode cX5_firstTurn 24 = .ok (.dup, 1) := by decide +kernel
theorem dX5_firstTurn_25 : decode cX5_firstTurn 25 = .ok (.ldc 185, 2) := by decide +kernel
theorem dX5_firstTurn_27 : decode cX5_firstTurn 27 = .ok (.invokespecial 131, 3) := by decide +kernel
theorem dX5_firstTurn_30 : decode cX5_firstTurn 30 = .ok (.athrow, 1) := by decide +kernel
theorem dX5_firstTurn_31 : decode cX5_firstTurn 31 = .ok (.aload_n 0, 1) := by decide +kernel
theorem dX5_firstTurn_32 : decode cX5_firstTurn 32 = .ok (.getfield 32, 3) := by decide +kernel
theorem dX5_firstTurn_35 : decode cX5_firstTurn 35 = .ok (.getfield 124, 3) := by decide +kernel
theorem dX5_firstTurn_38 : decode cX5_firstTurn 38 = .ok (.ireturn, 1) := by decide +kernel
theorem dX5_isOut_0 : decode cX5_isOut 0 = .ok (.aload_n 0, 1) := by decide +kernel
theorem dX5_isOut_1 : decode cX5_isOut 1 = .ok (.getfield 12, 3) := by decide +kernel
theorem dX5_isOut_4 : decode cX5_isOut 4 = .ok (.invokevirtual 187, 3) := by decide +kernel
theorem dX5_isOut_7 : decode cX5_isOut 7 = .ok (.ireturn, 1) := by decide +kernel
theorem dX5_isOdd_0 : decode cX5_isOdd 0 = .ok (.aload_n 0, 1) := by decide +kernel
theorem dX5_isOdd_1 : decode cX5_isOdd 1 = .ok (.getfield 12, 3) := by decide +kernel
theorem dX5_isOdd_4 : decode cX5_isOdd 4 = .ok (.invokevirtual 191, 3) := by decide +kernel
theorem dX5_isOdd_7 : decode cX5_isOdd 7 = .ok (.ifCond .ne 13, 3) := by decide +kernel
theorem dX5_isOdd_10 : decode cX5_isOdd 10 = .ok (.new 127, 3) := by decide +kernel
theorem dX5_isOdd_13 : decode cX5_isOdd 13 = .ok (.dup, 1) := by decide +kernel
theorem dX5_isOdd_14 : decode cX5_isOdd 14 = .ok (.ldc 194, 2) := by decide +kernel
theorem dX5_isOdd_16 : decode cX5_isOdd 16 = .ok (.invokespecial 131, 3) := by decide +kernel
theorem dX5_isOdd_19 : decode cX5_isOdd 19 = .ok (.athrow, 1) := by decide +kernel
theorem dX5_isOdd_20 : decode cX5_isOdd 20 = .ok (.iload_n 1, 1) := by decide +kernel
theorem dX5_isOdd_21 : decode cX5_isOdd 21 = .ok (.ifCond .eq 20, 3) := by decide +kernel
theorem dX5_isOdd_24 : decode cX5_isOdd 24 = .ok (.aload_n 0, 1) := by decide +kernel
theorem dX5_isOdd_25 : decode cX5_isOdd 25 = .ok (.getfield 12, 3) := by decide +kernel
theorem dX5_isOdd_28 : decode cX5_isOdd 28 = .ok (.aload_n 0, 1) := by decide +kernel
theorem dX5_isOdd_29 : decode cX5_isOdd 29 = .ok (.getfield 12, 3) := by decide +kernel
theorem dX5_isOdd_32 : decode cX5_isOdd 32 = .ok (.getfield 99, 3) := by decide +kernel
theorem dX5_isOdd_35 : decode cX5_isOdd 35 = .ok (.invokevirtual 196, 3) := by decide +kernel
theorem dX5_isOdd_38 : decode cX5_isOdd 38 = .ok (.goto 17, 3) := by decide +kernel
theorem dX5_isOdd_41 : decode cX5_isOdd 41 = .ok (.aload_n 0, 1) := by decide +kernel
theorem dX5_isOdd_42 : decode cX5_isOdd 42 = .ok (.getfield 12, 3) := by decide +kernel
theorem dX5_isOdd_45 : decode cX5_isOdd 45 = .ok (.aload_n 0, 1) := by decide +kernel
theorem dX5_isOdd_46 : decode cX5_isOdd 46 = .ok (.getfield 12, 3) := by decide +kernel
theorem dX5_isOdd_49 : decode cX5_isOdd 49 = .ok (.getfield 99, 3) := by decide +kernel
theorem dX5_isOdd_52 : decode cX5_isOdd 52 = .ok (.invokevirtual 200, 3) := by decide +kernel
theorem dX5_isOdd_55 : decode cX5_isOdd 55 = .ok (.ireturn, 1) := by decide +kernel
theorem dX5_home_0 : decode cX5_home 0 = .ok (.aload_n 0, 1) := by decide +kernel
theorem dX5_home_1 : decode cX5_home 1 = .ok (.getfield 12, 3) := by decide +kernel
theorem dX5_home_4 : decode cX5_home 4 = .ok (.aload_n 0, 1) := by decide +kernel
theorem dX5_home_5 : decode cX5_home 5 = .ok (.getfield 12, 3) := by decide +kernel
theorem dX5_home_8 : decode cX5_home 8 = .ok (.getfield 83, 3) := by decide +kernel
theorem dX5_home_11 : decode cX5_home 11 = .ok (.invokevirtual 102, 3) := by decide +kernel
theorem dX5_home_14 : decode cX5_home 14 = .ok (.ireturn, 1) := by decide +kernel
theorem dX5_would_0 : decode cX5_would 0 = .ok (.aload_n 0, 1) := by decide +kernel
theorem dX5_would_1 : decode cX5_would 1 = .ok (.getfield 12, 3) := by decide +kernel
theorem dX5_would_4 : decode cX5_would 4 = .ok (.iload_n 1, 1) := by decide +kernel
theorem dX5_would_5 : decode cX5_would 5 = .ok (.invokevirtual 203, 3) := by decide +kernel
theorem dX5_would_8 : decode cX5_would 8 = .ok (.invokestatic 146, 3) := by decide +kernel
theorem dX5_would_11 : decode cX5_would 11 = .ok (.aload_n 0, 1) := by decide +kernel
theorem dX5_would_12 : decode cX5_would 12 = .ok (.getfield 12, 3) := by decide +kernel
theorem dX5_would_15 : decode cX5_would 15 = .ok (.aload_n 0, 1) := by decide +kernel
theorem dX5_would_16 : decode cX5_would 16 = .ok (.getfield 12, 3) := by decide +kernel
theorem dX5_would_19 : decode cX5_would 19 = .ok (.aload_n 0, 1) := by decide +kernel
theorem dX5_would_20 : decode cX5_would 20 = .ok (.getfield 12, 3) := by decide +kernel
theorem dX5_would_23 : decode cX5_would 23 = .ok (.getfield 83, 3) := by decide +kernel
theorem dX5_would_26 : decode cX5_would 26 = .ok (.iload_n 1, 1) := by decide +kernel
theorem dX5_would_27 : decode cX5_would 27 = .ok (.invokevirtual 206, 3) := by decide +kernel
theorem dX5_would_30 : decode cX5_would 30 = .ok (.invokevirtual 102, 3) := by decide +kernel
theorem dX5_would_33 : decode cX5_would 33 = .ok (.ireturn, 1) := by decide +kernel
theorem dX5_best_0 : decode cX5_best 0 = .ok (.aload_n 0, 1) := by decide +kernel
theorem dX5_best_1 : decode cX5_best 1 = .ok (.getfield 12, 3) := by decide +kernel
theorem dX5_best_4 : decode cX5_best 4 = .ok (.invokevirtual 210, 3) := by decide +kernel
theorem dX5_best_7 : decode cX5_best 7 = .ok (.istore_n 1, 1) := by decide +kernel
theorem dX5_best_8 : decode cX5_best 8 = .ok (.iload_n 1, 1) := by decide +kernel
theorem dX5_best_9 : decode cX5_best 9 = .ok (.ifCond .ge 13, 3) := by decide +kernel
theorem dX5_best_12 : decode cX5_best 12 = .ok (.new 127, 3) := by decide +kernel
theorem dX5_best_15 : decode cX5_best 15 = .ok (.dup, 1) := by decide +kernel
theorem dX5_best_16 : decode cX5_best 16 = .ok (.ldc 213, 2) := by decide +kernel
theorem dX5_best_18 : decode cX5_best 18 = .ok (.invokespecial 131, 3) := by decide +kernel
theorem dX5_best_21 : decode cX5_best 21 = .ok (.athrow, 1) := by decide +kernel
theorem dX5_best_22 : decode cX5_best 22 = .ok (.iload_n 1, 1) := by decide +kernel
theorem dX5_best_23 : decode cX5_best 23 = .ok (.ireturn, 1) := by decide +kernel
theorem dX5_where_0 : decode cX5_where 0 = .ok (.aload_n 0, 1) := by decide +kernel
theorem dX5_where_1 : decode cX5_where 1 = .ok (.getfield 12, 3) := by decide +kernel
theorem dX5_where_4 : decode cX5_where 4 = .ok (.iload_n 1, 1) := by decide +kernel
theorem dX5_where_5 : decode cX5_where 5 = .ok (.invokevirtual 143, 3) := by decide +kernel
theorem dX5_where_8 : decode cX5_where 8 = .ok (.ifCond .eq 18, 3) := by decide +kernel
theorem dX5_where_11 : decode cX5_where 11 = .ok (.aload_n 0, 1) := by decide +kernel
theorem dX5_where_12 : decode cX5_where 12 = .ok (.getfield 12, 3) := by decide +kernel
theorem dX5_where_15 : decode cX5_where 15 = .ok (.iload_n 2, 1) := by decide +kernel
theorem dX5_where_16 : decode cX5_where 16 = .ok (.invokevirtual 203, 3) := by decide +kernel
theorem dX5_where_19 : decode cX5_where 19 = .ok (.ifCond .eq 7, 3) := by decide +kernel
theorem dX5_where_22 : decode cX5_where 22 = .ok (.iconst 1, 1) := by decide +kernel
theorem dX5_where_23 : decode cX5_where 23 = .ok (.goto 4, 3) := by decide +kernel
theorem dX5_where_26 : decode cX5_where 26 = .ok (.iconst 0, 1) := by decide +kernel
theorem dX5_where_27 : decode cX5_where 27 = .ok (.invokestatic 146, 3) := by decide +kernel
theorem dX5_where_30 : decode cX5_where 30 = .ok (.iload_n 3, 1) := by decide +kernel
theorem dX5_where_31 : decode cX5_where 31 = .ok (.ifCond .lt 9, 3) := by decide +kernel
theorem dX5_where_34 : decode cX5_where 34 = .ok (.iload_n 3, 1) := by decide +kernel
theorem dX5_where_35 : decode cX5_where 35 = .ok (.bipush 99, 2) := by decide +kernel
theorem dX5_where_37 : decode cX5_where 37 = .ok (.if_icmp .le 13, 3) := by decide +kernel
theorem dX5_where_40 : decode cX5_where 40 = .ok (.new 174, 3) := by decide +kernel
theorem dX5_where_43 : decode cX5_where 43 = .ok (.dup, 1) := by decide +kernel
theorem dX5_where_44 : decode cX5_where 44 = .ok (.ldc 215, 2) := by decide +kernel
theorem dX5_where_46 : decode cX5_where 46 = .ok (.invokespecial 178, 3) := by decide +kernel
theorem dX5_where_49 : decode cX5_where 49 = .ok (.athrow, 1) := by decide +kernel
theorem dX5_where_50 : decode cX5_where 50 = .ok (.aload_n 0, 1) := by decide +kernel
theorem dX5_where_51 : decode cX5_where 51 = .ok (.getfield 12, 3) := by decide +kernel
theorem dX5_where_54 : decode cX5_where 54 = .ok (.iload_n 1, 1) := by decide +kernel
theorem dX5_where_55 : decode cX5_where 55 = .ok (.iload_n 2, 1) := by decide +kernel
theorem dX5_where_56 : decode cX5_where 56 = .ok (.iload_n 3, 1) := by decide +kernel
theorem dX5_where_57 : decode cX5_where 57 = .ok (.invokevirtual 217, 3) := by decide +kernel
theorem dX5_where_60 : decode cX5_where 60 = .ok (.ireturn, 1) := by decide +kernel
theorem dX5_far_0 : decode cX5_far 0 = .ok (.aload_n 0, 1) := by decide +kernel
theorem dX5_far_1 : decode cX5_far 1 = .ok (.getfield 12, 3) := by decide +kernel
theorem dX5_far_4 : decode cX5_far 4 = .ok (.iload_n 1, 1) := by decide +kernel
theorem dX5_far_5 : decode cX5_far 5 = .ok (.invokevirtual 143, 3) := by decide +kernel
theorem dX5_far_8 : decode cX5_far 8 = .ok (.ifCond .eq 18, 3) := by decide +kernel
theorem dX5_far_11 : decode cX5_far 11 = .ok (.aload_n 0, 1) := by decide +kernel
theorem dX5_far_12 : decode cX5_far 12 = .ok (.getfield 12, 3) := by decide +kernel
theorem dX5_far_15 : decode cX5_far 15 = .ok (.iload_n 2, 1) := by decide +kernel
theorem dX5_far_16 : decode cX5_far 16 = .ok (.invokevirtual 143, 3) := by decide +kernel
theorem dX5_far_19 : decode cX5_far 19 = .ok (.ifCond .eq 7, 3) := by decide +kernel
theorem dX5_far_22 : decode cX5_far 22 = .ok (.iconst 1, 1) := by decide +kernel
theorem dX5_far_23 : decode cX5_far 23 = .ok (.goto 4, 3) := by decide +kernel
theorem dX5_far_26 : decode cX5_far 26 = .ok (.iconst 0, 1) := by decide +kernel
theorem dX5_far_27 : decode cX5_far 27 = .ok (.invokestatic 146, 3) := by decide +kernel
theorem dX5_far_30 : decode cX5_far 30 = .ok (.aload_n 0, 1) := by decide +kernel
theorem dX5_far_31 : decode cX5_far 31 = .ok (.getfield 12, 3) := by decide +kernel
theorem dX5_far_34 : decode cX5_far 34 = .ok (.iload_n 1, 1) := by decide +kernel
theorem dX5_far_35 : decode cX5_far 35 = .ok (.iload_n 2, 1) := by decide +kernel
theorem dX5_far_36 : decode cX5_far 36 = .ok (.invokevirtual 221, 3) := by decide +kernel
theorem dX5_far_39 : decode cX5_far 39 = .ok (.ireturn, 1) := by decide +kernel
theorem dX5_singing_0 : decode cX5_singing 0 = .ok (.iconst 0, 1) := by decide +kernel
theorem dX5_singing_1 : decode cX5_singing 1 = .ok (.istore_n 1, 1) := by decide +kernel
theorem dX5_singing_2 : decode cX5_singing 2 = .ok (.iconst 0, 1) := by decide +kernel
theorem dX5_singing_3 : decode cX5_singing 3 = .ok (.istore_n 2, 1) := by decide +kernel
theorem dX5_singing_4 : decode cX5_singing 4 = .ok (.iload_n 2, 1) := by decide +kernel
theorem dX5_singing_5 : decode cX5_singing 5 = .ok (.aload_n 0, 1) := by decide +kernel
theorem dX5_singing_6 : decode cX5_singing 6 = .ok (.getfield 12, 3) := by decide +kernel
theorem dX5_singing_9 : decode cX5_singing 9 = .ok (.invokevirtual 228, 3) := by decide +kernel
theorem dX5_singing_12 : decode cX5_singing 12 = .ok (.if_icmp .ge 23, 3) := by decide +kernel
theorem dX5_singing_15 : decode cX5_singing 15 = .ok (.aload_n 0, 1) := by decide +kernel
theorem dX5_singing_16 : decode cX5_singing 16 = .ok (.getfield 12, 3) := by decide +kernel
theorem dX5_singing_19 : decode cX5_singing 19 = .ok (.iload_n 2, 1) := by decide +kernel
theorem dX5_singing_20 : decode cX5_singing 20 = .ok (.invokevirtual 225, 3) := by decide +kernel
theorem dX5_singing_23 : decode cX5_singing 23 = .ok (.ifCond .eq 6, 3) := by decide +kernel
theorem dX5_singing_26 : decode cX5_singing 26 = .ok (.iinc 1 1, 3) := by decide +kernel
theorem dX5_singing_29 : decode cX5_singing 29 = .ok (.iinc 2 1, 3) := by decide +kernel
theorem dX5_singing_32 : decode cX5_singing 32 = .ok (.goto (-28), 3) := by decide +kernel
theorem dX5_singing_35 : decode cX5_singing 35 = .ok (.iload_n 1, 1) := by decide +kernel
theorem dX5_singing_36 : decode cX5_singing 36 = .ok (.ireturn, 1) := by decide +kernel
theorem dX5_ranked_0 : decode cX5_ranked 0 = .ok (.aload_n 0, 1) := by decide +kernel
theorem dX5_ranked_1 : decode cX5_ranked 1 = .ok (.getfield 12, 3) := by decide +kernel
theorem dX5_ranked_4 : decode cX5_ranked 4 = .ok (.iload_n 1, 1) := by decide +kernel
theorem dX5_ranked_5 : decode cX5_ranked 5 = .ok (.invokevirtual 231, 3) := by decide +kernel
theorem dX5_ranked_8 : decode cX5_ranked 8 = .ok (.istore_n 2, 1) := by decide +kernel
theorem dX5_ranked_9 : decode cX5_ranked 9 = .ok (.iload_n 2, 1) := by decide +kernel
theorem dX5_ranked_10 : decode cX5_ranked 10 = .ok (.ifCond .ge 13, 3) := by decide +kernel
theorem dX5_ranked_13 : decode cX5_ranked 13 = .ok (.new 127, 3) := by decide +kernel
theorem dX5_ranked_16 : decode cX5_ranked 16 = .ok (.dup, 1) := by decide +kernel
theorem dX5_ranked_17 : decode cX5_ranked 17 = .ok (.ldc 235, 2) := by decide +kernel
theorem dX5_ranked_19 : decode cX5_ranked 19 = .ok (.invokespecial 131, 3) := by decide +kernel
theorem dX5_ranked_22 : decode cX5_ranked 22 = .ok (.athrow, 1) := by decide +kernel
theorem dX5_ranked_23 : decode cX5_ranked 23 = .ok (.iload_n 2, 1) := by decide +kernel
theorem dX5_ranked_24 : decode cX5_ranked 24 = .ok (.ireturn, 1) := by decide +kernel
theorem dX5_text_0 : decode cX5_text 0 = .ok (.aload_n 0, 1) := by decide +kernel
theorem dX5_text_1 : decode cX5_text 1 = .ok (.aload_n 0, 1) := by decide +kernel
theorem dX5_text_2 : decode cX5_text 2 = .ok (.getfield 12, 3) := by decide +kernel
theorem dX5_text_5 : decode cX5_text 5 = .ok (.getfield 83, 3) := by decide +kernel
theorem dX5_text_8 : decode cX5_text 8 = .ok (.invokevirtual 237, 3) := by decide +kernel
theorem dX5_text_11 : decode cX5_text 11 = .ok (.ireturn, 1) := by decide +kernel
theorem dX5_goalText_0 : decode cX5_goalText 0 = .ok (.aload_n 0, 1) := by decide +kernel
theorem dX5_goalText_1 : decode cX5_goalText 1 = .ok (.aload_n 0, 1) := by decide +kernel
theorem dX5_goalText_2 : decode cX5_goalText 2 = .ok (.getfield 12, 3) := by decide +kernel
theorem dX5_goalText_5 : decode cX5_goalText 5 = .ok (.getfield 99, 3) := by decide +kernel
theorem dX5_goalText_8 : decode cX5_goalText 8 = .ok (.invokevirtual 237, 3) := by decide +kernel
theorem dX5_goalText_11 : decode cX5_goalText 11 = .ok (.ireturn, 1) := by decide +kernel
theorem dX5_lineText_0 : decode cX5_lineText 0 = .ok (.aload_n 0, 1) := by decide +kernel
theorem dX5_lineText_1 : decode cX5_lineText 1 = .ok (.getfield 12, 3) := by decide +kernel
theorem dX5_lineText_4 : decode cX5_lineText 4 = .ok (.iload_n 1, 1) := by decide +kernel
theorem dX5_lineText_5 : decode cX5_lineText 5 = .ok (.invokevirtual 150, 3) := by decide +kernel
theorem dX5_lineText_8 : decode cX5_lineText 8 = .ok (.invokestatic 146, 3) := by decide +kernel
theorem dX5_lineText_11 : decode cX5_lineText 11 = .ok (.aload_n 0, 1) := by decide +kernel
theorem dX5_lineText_12 : decode cX5_lineText 12 = .ok (.getfield 39, 3) := by decide +kernel
theorem dX5_lineText_15 : decode cX5_lineText 15 = .ok (.invokevirtual 240, 3) := by decide +kernel
theorem dX5_lineText_18 : decode cX5_lineText 18 = .ok (.aload_n 0, 1) := by decide +kernel
theorem dX5_lineText_19 : decode cX5_lineText 19 = .ok (.getfield 12, 3) := by decide +kernel
theorem dX5_lineText_22 : decode cX5_lineText 22 = .ok (.iload_n 1, 1) := by decide +kernel
theorem dX5_lineText_23 : decode cX5_lineText 23 = .ok (.invokevirtual 106, 3) := by decide +kernel
theorem dX5_lineText_26 : decode cX5_lineText 26 = .ok (.ifCond .eq 12, 3) := by decide +kernel
theorem dX5_lineText_29 : decode cX5_lineText 29 = .ok (.aload_n 0, 1) := by decide +kernel
theorem dX5_lineText_30 : decode cX5_lineText 30 = .ok (.getfield 39, 3) := by decide +kernel
theorem dX5_lineText_33 : decode cX5_lineText 33 = .ok (.bipush 35, 2) := by decide +kernel
theorem dX5_lineText_35 : decode cX5_lineText 35 = .ok (.invokevirtual 243, 3) := by decide +kernel
theorem dX5_lineText_38 : decode cX5_lineText 38 = .ok (.iconst 0, 1) := by decide +kernel
theorem dX5_lineText_39 : decode cX5_lineText 39 = .ok (.istore_n 2, 1) := by decide +kernel
theorem dX5_lineText_40 : decode cX5_lineText 40 = .ok (.iload_n 2, 1) := by decide +kernel
theorem dX5_lineText_41 : decode cX5_lineText 41 = .ok (.aload_n 0, 1) := by decide +kernel
theorem dX5_lineText_42 : decode cX5_lineText 42 = .ok (.getfield 12, 3) := by decide +kernel
theorem dX5_lineText_45 : decode cX5_lineText 45 = .ok (.iload_n 1, 1) := by decide +kernel
theorem dX5_lineText_46 : decode cX5_lineText 46 = .ok (.invokevirtual 247, 3) := by decide +kernel
theorem dX5_lineText_49 : decode cX5_lineText 49 = .ok (.if_icmp .ge 38, 3) := by decide +kernel
theorem dX5_lineText_52 : decode cX5_lineText 52 = .ok (.aload_n 0, 1) := by decide +kernel
theorem dX5_lineText_53 : decode cX5_lineText 53 = .ok (.getfield 39, 3) := by decide +kernel
theorem dX5_lineText_56 : decode cX5_lineText 56 = .ok (.aload_n 0, 1) := by decide +kernel
theorem dX5_lineText_57 : decode cX5_lineText 57 = .ok (.getfield 12, 3) := by decide +kernel
theorem dX5_lineText_60 : decode cX5_lineText 60 = .ok (.getfield 83, 3) := by decide +kernel
theorem dX5_lineText_63 : decode cX5_lineText 63 = .ok (.aload_n 0, 1) := by decide +kernel
theorem dX5_lineText_64 : decode cX5_lineText 64 = .ok (.getfield 12, 3) := by decide +kernel
theorem dX5_lineText_67 : decode cX5_lineText 67 = .ok (.iload_n 1, 1) := by decide +kernel
theorem dX5_lineText_68 : decode cX5_lineText 68 = .ok (.iload_n 2, 1) := by decide +kernel
theorem dX5_lineText_69 : decode cX5_lineText 69 = .ok (.invokevirtual 250, 3) := by decide +kernel
theorem dX5_lineText_72 : decode cX5_lineText 72 = .ok (.invokestatic 91, 3) := by decide +kernel
theorem dX5_lineText_75 : decode cX5_lineText 75 = .ok (.invokestatic 95, 3) := by decide +kernel
theorem dX5_lineText_78 : decode cX5_lineText 78 = .ok (.invokevirtual 243, 3) := by decide +kernel
theorem dX5_lineText_81 : decode cX5_lineText 81 = .ok (.iinc 2 1, 3) := by decide +kernel
theorem dX5_lineText_84 : decode cX5_lineText 84 = .ok (.goto (-44), 3) := by decide +kernel
theorem dX5_lineText_87 : decode cX5_lineText 87 = .ok (.aload_n 0, 1) := by decide +kernel
theorem dX5_lineText_88 : decode cX5_lineText 88 = .ok (.getfield 12, 3) := by decide +kernel
theorem dX5_lineText_91 : decode cX5_lineText 91 = .ok (.iload_n 1, 1) := by decide +kernel
theorem dX5_lineText_92 : decode cX5_lineText 92 = .ok (.invokevirtual 225, 3) := by decide +kernel
theorem dX5_lineText_95 : decode cX5_lineText 95 = .ok (.ifCond .eq 12, 3) := by decide +kernel
theorem dX5_lineText_98 : decode cX5_lineText 98 = .ok (.aload_n 0, 1) := by decide +kernel
theorem dX5_lineText_99 : decode cX5_lineText 99 = .ok (.getfield 39, 3) := by decide +kernel
theorem dX5_lineText_102 : decode cX5_lineText 102 = .ok (.bipush 33, 2) := by decide +kernel
theorem dX5_lineText_104 : decode cX5_lineText 104 = .ok (.invokevirtual 243, 3) := by decide +kernel
theorem dX5_lineText_107 : decode cX5_lineText 107 = .ok (.aload_n 0, 1) := by decide +kernel
theorem dX5_lineText_108 : decode cX5_lineText 108 = .ok (.getfield 39, 3) := by decide +kernel
theorem dX5_lineText_111 : decode cX5_lineText 111 = .ok (.getfield 253, 3) := by decide +kernel
theorem dX5_lineText_114 : decode cX5_lineText 114 = .ok (.ireturn, 1) := by decide +kernel
theorem dX5_character_0 : decode cX5_character 0 = .ok (.iload_n 1, 1) := by decide +kernel
theorem dX5_character_1 : decode cX5_character 1 = .ok (.ifCond .lt 18, 3) := by decide +kernel
theorem dX5_character_4 : decode cX5_character 4 = .ok (.iload_n 1, 1) := by decide +kernel
theorem dX5_character_5 : decode cX5_character 5 = .ok (.aload_n 0, 1) := by decide +kernel
theorem dX5_character_6 : decode cX5_character 6 = .ok (.getfield 39, 3) := by decide +kernel
theorem dX5_character_9 : decode cX5_character 9 = .ok (.getfield 253, 3) := by decide +kernel
theorem dX5_character_12 : decode cX5_character 12 = .ok (.if_icmp .ge 7, 3) := by decide +kernel
theorem dX5_character_15 : decode cX5_character 15 = .ok (.iconst 1, 1) := by decide +kernel
theorem dX5_character_16 : decode cX5_character 16 = .ok (.goto 4, 3) := by decide +kernel
theorem dX5_character_19 : decode cX5_character 19 = .ok (.iconst 0, 1) := by decide +kernel
theorem dX5_character_20 : decode cX5_character 20 = .ok (.invokestatic 146, 3) := by decide +kernel
theorem dX5_character_23 : decode cX5_character 23 = .ok (.aload_n 0, 1) := by decide +kernel
theorem dX5_character_24 : decode cX5_character 24 = .ok (.getfield 39, 3) := by decide +kernel
theorem dX5_character_27 : decode cX5_character 27 = .ok (.iload_n 1, 1) := by decide +kernel
theorem dX5_character_28 : decode cX5_character 28 = .ok (.invokevirtual 256, 3) := by decide +kernel
theorem dX5_character_31 : decode cX5_character 31 = .ok (.ireturn, 1) := by decide +kernel
theorem dX5_append_0 : decode cX5_append 0 = .ok (.aload_n 0, 1) := by decide +kernel
theorem dX5_append_1 : decode cX5_append 1 = .ok (.getfield 54, 3) := by decide +kernel
theorem dX5_append_4 : decode cX5_append 4 = .ok (.ifCond .lt 15, 3) := by decide +kernel
theorem dX5_append_7 : decode cX5_append 7 = .ok (.aload_n 0, 1) := by decide +kernel
theorem dX5_append_8 : decode cX5_append 8 = .ok (.getfield 54, 3) := by decide +kernel
theorem dX5_append_11 : decode cX5_append 11 = .ok (.aload_n 0, 1) := by decide +kernel
theorem dX5_append_12 : decode cX5_append 12 = .ok (.getfield 50, 3) := by decide +kernel
theorem dX5_append_15 : decode cX5_append 15 = .ok (.arraylength, 1) := by decide +kernel
theorem dX5_append_16 : decode cX5_append 16 = .ok (.if_icmp .lt 14, 3) := by decide +kernel
theorem dX5_append_19 : decode cX5_append 19 = .ok (.new 259, 3) := by decide +kernel
theorem dX5_append_22 : decode cX5_append 22 = .ok (.dup, 1) := by decide +kernel
theorem dX5_append_23 : decode cX5_append 23 = .ok (.ldc_w 261, 3) := by decide +kernel
theorem dX5_append_26 : decode cX5_append 26 = .ok (.invokespecial 263, 3) := by decide +kernel
theorem dX5_append_29 : decode cX5_append 29 = .ok (.athrow, 1) := by decide +kernel
theorem dX5_append_30 : decode cX5_append 30 = .ok (.aload_n 0, 1) := by decide +kernel
theorem dX5_append_31 : decode cX5_append 31 = .ok (.getfield 50, 3) := by decide +kernel
theorem dX5_append_34 : decode cX5_append 34 = .ok (.aload_n 0, 1) := by decide +kernel
theorem dX5_append_35 : decode cX5_append 35 = .ok (.getfield 54, 3) := by decide +kernel
theorem dX5_append_38 : decode cX5_append 38 = .ok (.iload_n 1, 1) := by decide +kernel
theorem dX5_append_39 : decode cX5_append 39 = .ok (.castore, 1) := by decide +kernel
theorem dX5_append_40 : decode cX5_append 40 = .ok (.aload_n 0, 1) := by decide +kernel
theorem dX5_append_41 : decode cX5_append 41 = .ok (.dup, 1) := by decide +kernel
theorem dX5_append_42 : decode cX5_append 42 = .ok (.getfield 54, 3) := by decide +kernel
theorem dX5_append_45 : decode cX5_append 45 = .ok (.iconst 1, 1) := by decide +kernel
theorem dX5_append_46 : decode cX5_append 46 = .ok (.iadd, 1) := by decide +kernel
theorem dX5_append_47 : decode cX5_append 47 = .ok (.putfield 54, 3) := by decide +kernel
theorem dX5_append_50 : decode cX5_append 50 = .ok (.aload_n 0, 1) := by decide +kernel
theorem dX5_append_51 : decode cX5_append 51 = .ok (.getfield 54, 3) := by decide +kernel
theorem dX5_append_54 : decode cX5_append 54 = .ok (.ireturn, 1) := by decide +kernel
theorem dX5_run_0 : decode cX5_run 0 = .ok (.aload_n 0, 1) := by decide +kernel
theorem dX5_run_1 : decode cX5_run 1 = .ok (.aload_n 0, 1) := by decide +kernel
theorem dX5_run_2 : decode cX5_run 2 = .ok (.getfield 46, 3) := by decide +kernel
theorem dX5_run_5 : decode cX5_run 5 = .ok (.aload_n 0, 1) := by decide +kernel
theorem dX5_run_6 : decode cX5_run 6 = .ok (.getfield 50, 3) := by decide +kernel
theorem dX5_run_9 : decode cX5_run 9 = .ok (.aload_n 0, 1) := by decide +kernel
theorem dX5_run_10 : decode cX5_run 10 = .ok (.getfield 54, 3) := by decide +kernel
theorem dX5_run_13 : decode cX5_run 13 = .ok (.invokevirtual 264, 3) := by decide +kernel
theorem dX5_run_16 : decode cX5_run 16 = .ok (.putfield 58, 3) := by decide +kernel
theorem dX5_run_19 : decode cX5_run 19 = .ok (.aload_n 0, 1) := by decide +kernel
theorem dX5_run_20 : decode cX5_run 20 = .ok (.iconst 0, 1) := by decide +kernel
theorem dX5_run_21 : decode cX5_run 21 = .ok (.putfield 54, 3) := by decide +kernel
theorem dX5_run_24 : decode cX5_run 24 = .ok (.aload_n 0, 1) := by decide +kernel
theorem dX5_run_25 : decode cX5_run 25 = .ok (.getfield 58, 3) := by decide +kernel
theorem dX5_run_28 : decode cX5_run 28 = .ok (.ifCond .ge 10, 3) := by decide +kernel
theorem dX5_run_31 : decode cX5_run 31 = .ok (.aload_n 0, 1) := by decide +kernel
theorem dX5_run_32 : decode cX5_run 32 = .ok (.invokevirtual 268, 3) := by decide +kernel
theorem dX5_run_35 : decode cX5_run 35 = .ok (.goto 4, 3) := by decide +kernel
theorem dX5_run_38 : decode cX5_run 38 = .ok (.iconst 2, 1) := by decide +kernel
theorem dX5_run_39 : decode cX5_run 39 = .ok (.istore_n 1, 1) := by decide +kernel
theorem dX5_run_40 : decode cX5_run 40 = .ok (.iload_n 1, 1) := by decide +kernel
theorem dX5_run_41 : decode cX5_run 41 = .ok (.iconst 1, 1) := by decide +kernel
theorem dX5_run_42 : decode cX5_run 42 = .ok (.if_icmp .ne 7, 3) := by decide +kernel
theorem dX5_run_45 : decode cX5_run 45 = .ok (.iconst 2, 1) := by decide +kernel
theorem dX5_run_46 : decode cX5_run 46 = .ok (.goto 4, 3) := by decide +kernel
theorem dX5_run_49 : decode cX5_run 49 = .ok (.iload_n 1, 1) := by decide +kernel
theorem dX5_run_50 : decode cX5_run 50 = .ok (.invokestatic 116, 3) := by decide +kernel
theorem dX5_run_53 : decode cX5_run 53 = .ok (.aload_n 0, 1) := by decide +kernel
theorem dX5_run_54 : decode cX5_run 54 = .ok (.getfield 46, 3) := by decide +kernel
theorem dX5_run_57 : decode cX5_run 57 = .ok (.getfield 271, 3) := by decide +kernel
theorem dX5_run_60 : decode cX5_run 60 = .ok (.ireturn, 1) := by decide +kernel
theorem dX5_errorPosition_0 : decode cX5_errorPosition 0 = .ok (.aload_n 0, 1) := by decide +kernel
theorem dX5_errorPosition_1 : decode cX5_errorPosition 1 = .ok (.getfield 58, 3) := by decide +kernel
theorem dX5_errorPosition_4 : decode cX5_errorPosition 4 = .ok (.ireturn, 1) := by decide +kernel
theorem dX5_refusal_0 : decode cX5_refusal 0 = .ok (.aload_n 0, 1) := by decide +kernel
theorem dX5_refusal_1 : decode cX5_refusal 1 = .ok (.getfield 61, 3) := by decide +kernel
theorem dX5_refusal_4 : decode cX5_refusal 4 = .ok (.ifCond .ge 14, 3) := by decide +kernel
theorem dX5_refusal_7 : decode cX5_refusal 7 = .ok (.new 127, 3) := by decide +kernel
theorem dX5_refusal_10 : decode cX5_refusal 10 = .ok (.dup, 1) := by decide +kernel
theorem dX5_refusal_11 : decode cX5_refusal 11 = .ok (.ldc_w 273, 3) := by decide +kernel
theorem dX5_refusal_14 : decode cX5_refusal 14 = .ok (.invokespecial 131, 3) := by decide +kernel
theorem dX5_refusal_17 : decode cX5_refusal 17 = .ok (.athrow, 1) := by decide +kernel
theorem dX5_refusal_18 : decode cX5_refusal 18 = .ok (.iload_n 1, 1) := by decide +kernel
theorem dX5_refusal_19 : decode cX5_refusal 19 = .ok (.ifCond .eq 10, 3) := by decide +kernel
theorem dX5_refusal_22 : decode cX5_refusal 22 = .ok (.aload_n 0, 1) := by decide +kernel
theorem dX5_refusal_23 : decode cX5_refusal 23 = .ok (.getfield 64, 3) := by decide +kernel
theorem dX5_refusal_26 : decode cX5_refusal 26 = .ok (.goto 7, 3) := by decide +kernel
theorem dX5_refusal_29 : decode cX5_refusal 29 = .ok (.aload_n 0, 1) := by decide +kernel
theorem dX5_refusal_30 : decode cX5_refusal 30 = .ok (.getfield 61, 3) := by decide +kernel
theorem dX5_refusal_33 : decode cX5_refusal 33 = .ok (.ireturn, 1) := by decide +kernel
theorem dX5_account_0 : decode cX5_account 0 = .ok (.iload_n 1, 1) := by decide +kernel
theorem dX5_account_1 : decode cX5_account 1 = .ok (.tableswitch 132 0 9 #[55, 63, 71, 79, 87, 95, 103, 111, 119, 124], 55) := by decide +kernel
theorem dX5_account_56 : decode cX5_account 56 = .ok (.aload_n 0, 1) := by decide +kernel
theorem dX5_account_57 : decode cX5_account 57 = .ok (.getfield 12, 3) := by decide +kernel
theorem dX5_account_60 : decode cX5_account 60 = .ok (.invokevirtual 79, 3) := by decide +kernel
theorem dX5_account_63 : decode cX5_account 63 = .ok (.ireturn, 1) := by decide +kernel
theorem dX5_account_64 : decode cX5_account 64 = .ok (.aload_n 0, 1) := by decide +kernel
theorem dX5_account_65 : decode cX5_account 65 = .ok (.getfield 12, 3) := by decide +kernel
theorem dX5_account_68 : decode cX5_account 68 = .ok (.invokevirtual 162, 3) := by decide +kernel
theorem dX5_account_71 : decode cX5_account 71 = .ok (.ireturn, 1) := by decide +kernel
theorem dX5_account_72 : decode cX5_account 72 = .ok (.aload_n 0, 1) := by decide +kernel
theorem dX5_account_73 : decode cX5_account 73 = .ok (.getfield 12, 3) := by decide +kernel
theorem dX5_account_76 : decode cX5_account 76 = .ok (.getfield 110, 3) := by decide +kernel
theorem dX5_account_79 : decode cX5_account 79 = .ok (.ireturn, 1) := by decide +kernel
theorem dX5_account_80 : decode cX5_account 80 = .ok (.aload_n 0, 1) := by decide +kernel
theorem dX5_account_81 : decode cX5_account 81 = .ok (.getfield 12, 3) := by decide +kernel
theorem dX5_account_84 : decode cX5_account 84 = .ok (.getfield 275, 3) := by decide +kernel
theorem dX5_account_87 : decode cX5_account 87 = .ok (.ireturn, 1) := by decide +kernel
theorem dX5_account_88 : decode cX5_account 88 = .ok (.aload_n 0, 1) := by decide +kernel
theorem dX5_account_89 : decode cX5_account 89 = .ok (.getfield 12, 3) := by decide +kernel
theorem dX5_account_92 : decode cX5_account 92 = .ok (.getfield 278, 3) := by decide +kernel
theorem dX5_account_95 : decode cX5_account 95 = .ok (.ireturn, 1) := by decide +kernel
theorem dX5_account_96 : decode cX5_account 96 = .ok (.aload_n 0, 1) := by decide +kernel
theorem dX5_account_97 : decode cX5_account 97 = .ok (.getfield 12, 3) := by decide +kernel
theorem dX5_account_100 : decode cX5_account 100 = .ok (.getfield 137, 3) := by decide +kernel
theorem dX5_account_103 : decode cX5_account 103 = .ok (.ireturn, 1) := by decide +kernel
theorem dX5_account_104 : decode cX5_account 104 = .ok (.aload_n 0, 1) := by decide +kernel
theorem dX5_account_105 : decode cX5_account 105 = .ok (.getfield 12, 3) := by decide +kernel
theorem dX5_account_108 : decode cX5_account 108 = .ok (.getfield 281, 3) := by decide +kernel
theorem dX5_account_111 : decode cX5_account 111 = .ok (.ireturn, 1) := by decide +kernel
theorem dX5_account_112 : decode cX5_account 112 = .ok (.aload_n 0, 1) := by decide +kernel
theorem dX5_account_113 : decode cX5_account 113 = .ok (.getfield 12, 3) := by decide +kernel
theorem dX5_account_116 : decode cX5_account 116 = .ok (.getfield 284, 3) := by decide +kernel
theorem dX5_account_119 : decode cX5_account 119 = .ok (.ireturn, 1) := by decide +kernel
theorem dX5_account_120 : decode cX5_account 120 = .ok (.aload_n 0, 1) := by decide +kernel
theorem dX5_account_121 : decode cX5_account 121 = .ok (.getfield 54, 3) := by decide +kernel
theorem dX5_account_124 : decode cX5_account 124 = .ok (.ireturn, 1) := by decide +kernel
theorem dX5_account_125 : decode cX5_account 125 = .ok (.aload_n 0, 1) := by decide +kernel
theorem dX5_account_126 : decode cX5_account 126 = .ok (.getfield 25, 3) := by decide +kernel
theorem dX5_account_129 : decode cX5_account 129 = .ok (.getfield 287, 3) := by decide +kernel
theorem dX5_account_132 : decode cX5_account 132 = .ok (.ireturn, 1) := by decide +kernel
theorem dX5_account_133 : decode cX5_account 133 = .ok (.new 174, 3) := by decide +kernel
theorem dX5_account_136 : decode cX5_account 136 = .ok (.dup, 1) := by decide +kernel
theorem dX5_account_137 : decode cX5_account 137 = .ok (.ldc_w 288, 3) := by decide +kernel
theorem dX5_account_140 : decode cX5_account 140 = .ok (.invokespecial 178, 3) := by decide +kernel
theorem dX5_account_143 : decode cX5_account 143 = .ok (.athrow, 1) := by decide +kernel
theorem dX5_isWell_0 : decode cX5_isWell 0 = .ok (.aload_n 0, 1) := by decide +kernel
theorem dX5_isWell_1 : decode cX5_isWell 1 = .ok (.invokevirtual 182, 3) := by decide +kernel
theorem dX5_isWell_4 : decode cX5_isWell 4 = .ok (.istore_n 1, 1) := by decide +kernel
theorem dX5_isWell_5 : decode cX5_isWell 5 = .ok (.iload_n 1, 1) := by decide +kernel
theorem dX5_isWell_6 : decode cX5_isWell 6 = .ok (.aload_n 0, 1) := by decide +kernel
theorem dX5_isWell_7 : decode cX5_isWell 7 = .ok (.invokevirtual 179, 3) := by decide +kernel
theorem dX5_isWell_10 : decode cX5_isWell 10 = .ok (.if_icmp .ne 18, 3) := by decide +kernel
theorem dX5_isWell_13 : decode cX5_isWell 13 = .ok (.iload_n 1, 1) := by decide +kernel
theorem dX5_isWell_14 : decode cX5_isWell 14 = .ok (.iconst 3, 1) := by decide +kernel
theorem dX5_isWell_15 : decode cX5_isWell 15 = .ok (.if_icmp .gt 15, 3) := by decide +kernel
theorem dX5_isWell_18 : decode cX5_isWell 18 = .ok (.aload_n 0, 1) := by decide +kernel
theorem dX5_isWell_19 : decode cX5_isWell 19 = .ok (.getfield 12, 3) := by decide +kernel
theorem dX5_isWell_22 : decode cX5_isWell 22 = .ok (.invokevirtual 187, 3) := by decide +kernel
theorem dX5_isWell_25 : decode cX5_isWell 25 = .ok (.ifCond .eq 5, 3) := by decide +kernel
theorem dX5_isWell_28 : decode cX5_isWell 28 = .ok (.iconst 0, 1) := by decide +kernel
theorem dX5_isWell_29 : decode cX5_isWell 29 = .ok (.ireturn, 1) := by decide +kernel
theorem dX5_isWell_30 : decode cX5_isWell 30 = .ok (.aload_n 0, 1) := by decide +kernel
theorem dX5_isWell_31 : decode cX5_isWell 31 = .ok (.getfield 12, 3) := by decide +kernel
theorem dX5_isWell_34 : decode cX5_isWell 34 = .ok (.invokevirtual 191, 3) := by decide +kernel
theorem dX5_isWell_37 : decode cX5_isWell 37 = .ok (.ifCond .eq 36, 3) := by decide +kernel
theorem dX5_isWell_40 : decode cX5_isWell 40 = .ok (.aload_n 0, 1) := by decide +kernel
theorem dX5_isWell_41 : decode cX5_isWell 41 = .ok (.getfield 12, 3) := by decide +kernel
theorem dX5_isWell_44 : decode cX5_isWell 44 = .ok (.aload_n 0, 1) := by decide +kernel
theorem dX5_isWell_45 : decode cX5_isWell 45 = .ok (.getfield 12, 3) := by decide +kernel
theorem dX5_isWell_48 : decode cX5_isWell 48 = .ok (.getfield 99, 3) := by decide +kernel
theorem dX5_isWell_51 : decode cX5_isWell 51 = .ok (.invokevirtual 200, 3) := by decide +kernel
theorem dX5_isWell_54 : decode cX5_isWell 54 = .ok (.aload_n 0, 1) := by decide +kernel
theorem dX5_isWell_55 : decode cX5_isWell 55 = .ok (.getfield 12, 3) := by decide +kernel
theorem dX5_isWell_58 : decode cX5_isWell 58 = .ok (.aload_n 0, 1) := by decide +kernel
theorem dX5_isWell_59 : decode cX5_isWell 59 = .ok (.getfield 12, 3) := by decide +kernel
theorem dX5_isWell_62 : decode cX5_isWell 62 = .ok (.getfield 99, 3) := by decide +kernel
theorem dX5_isWell_65 : decode cX5_isWell 65 = .ok (.invokevirtual 196, 3) := by decide +kernel
theorem dX5_isWell_68 : decode cX5_isWell 68 = .ok (.if_icmp .eq 5, 3) := by decide +kernel
theorem dX5_isWell_71 : decode cX5_isWell 71 = .ok (.iconst 0, 1) := by decide +kernel
theorem dX5_isWell_72 : decode cX5_isWell 72 = .ok (.ireturn, 1) := by decide +kernel
theorem dX5_isWell_73 : decode cX5_isWell 73 = .ok (.aload_n 0, 1) := by decide +kernel
theorem dX5_isWell_74 : decode cX5_isWell 74 = .ok (.getfield 12, 3) := by decide +kernel
theorem dX5_isWell_77 : decode cX5_isWell 77 = .ok (.invokevirtual 290, 3) := by decide +kernel
theorem dX5_isWell_80 : decode cX5_isWell 80 = .ok (.ireturn, 1) := by decide +kernel
theorem dX5_meanFar_0 : decode cX5_meanFar 0 = .ok (.iconst 0, 1) := by decide +kernel
theorem dX5_meanFar_1 : decode cX5_meanFar 1 = .ok (.istore_n 1, 1) := by decide +kernel
theorem dX5_meanFar_2 : decode cX5_meanFar 2 = .ok (.iconst 0, 1) := by decide +kernel
theorem dX5_meanFar_3 : decode cX5_meanFar 3 = .ok (.istore_n 2, 1) := by decide +kernel
theorem dX5_meanFar_4 : decode cX5_meanFar 4 = .ok (.iconst 0, 1) := by decide +kernel
theorem dX5_meanFar_5 : decode cX5_meanFar 5 = .ok (.istore_n 3, 1) := by decide +kernel
theorem dX5_meanFar_6 : decode cX5_meanFar 6 = .ok (.iload_n 3, 1) := by decide +kernel
theorem dX5_meanFar_7 : decode cX5_meanFar 7 = .ok (.aload_n 0, 1) := by decide +kernel
theorem dX5_meanFar_8 : decode cX5_meanFar 8 = .ok (.getfield 12, 3) := by decide +kernel
theorem dX5_meanFar_11 : decode cX5_meanFar 11 = .ok (.invokevirtual 79, 3) := by decide +kernel
theorem dX5_meanFar_14 : decode cX5_meanFar 14 = .ok (.if_icmp .ge 72, 3) := by decide +kernel
theorem dX5_meanFar_17 : decode cX5_meanFar 17 = .ok (.aload_n 0, 1) := by decide +kernel
theorem dX5_meanFar_18 : decode cX5_meanFar 18 = .ok (.getfield 12, 3) := by decide +kernel
theorem dX5_meanFar_21 : decode cX5_meanFar 21 = .ok (.getfield 99, 3) := by decide +kernel
theorem dX5_meanFar_24 : decode cX5_meanFar 24 = .ok (.iload_n 3, 1) := by decide +kernel
theorem dX5_meanFar_25 : decode cX5_meanFar 25 = .ok (.invokestatic 91, 3) := by decide +kernel
theorem dX5_meanFar_28 : decode cX5_meanFar 28 = .ok (.istore 4, 2) := by decide +kernel
theorem dX5_meanFar_30 : decode cX5_meanFar 30 = .ok (.aload_n 0, 1) := by decide +kernel
theorem dX5_meanFar_31 : decode cX5_meanFar 31 = .ok (.getfield 12, 3) := by decide +kernel
theorem dX5_meanFar_34 : decode cX5_meanFar 34 = .ok (.aload_n 0, 1) := by decide +kernel
theorem dX5_meanFar_35 : decode cX5_meanFar 35 = .ok (.getfield 12, 3) := by decide +kernel
theorem dX5_meanFar_38 : decode cX5_meanFar 38 = .ok (.getfield 83, 3) := by decide +kernel
theorem dX5_meanFar_41 : decode cX5_meanFar 41 = .ok (.iload 4, 2) := by decide +kernel
theorem dX5_meanFar_43 : decode cX5_meanFar 43 = .ok (.invokevirtual 171, 3) := by decide +kernel
theorem dX5_meanFar_46 : decode cX5_meanFar 46 = .ok (.iconst 1, 1) := by decide +kernel
theorem dX5_meanFar_47 : decode cX5_meanFar 47 = .ok (.if_icmp .ne 33, 3) := by decide +kernel
theorem dX5_meanFar_50 : decode cX5_meanFar 50 = .ok (.iinc 1 1, 3) := by decide +kernel
theorem dX5_meanFar_53 : decode cX5_meanFar 53 = .ok (.iload_n 2, 1) := by decide +kernel
theorem dX5_meanFar_54 : decode cX5_meanFar 54 = .ok (.aload_n 0, 1) := by decide +kernel
theorem dX5_meanFar_55 : decode cX5_meanFar 55 = .ok (.getfield 12, 3) := by decide +kernel
theorem dX5_meanFar_58 : decode cX5_meanFar 58 = .ok (.iload_n 3, 1) := by decide +kernel
theorem dX5_meanFar_59 : decode cX5_meanFar 59 = .ok (.aload_n 0, 1) := by decide +kernel
theorem dX5_meanFar_60 : decode cX5_meanFar 60 = .ok (.getfield 12, 3) := by decide +kernel
theorem dX5_meanFar_63 : decode cX5_meanFar 63 = .ok (.aload_n 0, 1) := by decide +kernel
theorem dX5_meanFar_64 : decode cX5_meanFar 64 = .ok (.getfield 12, 3) := by decide +kernel
theorem dX5_meanFar_67 : decode cX5_meanFar 67 = .ok (.getfield 83, 3) := by decide +kernel
theorem dX5_meanFar_70 : decode cX5_meanFar 70 = .ok (.iload 4, 2) := by decide +kernel
theorem dX5_meanFar_72 : decode cX5_meanFar 72 = .ok (.invokevirtual 293, 3) := by decide +kernel
theorem dX5_meanFar_75 : decode cX5_meanFar 75 = .ok (.invokevirtual 221, 3) := by decide +kernel
theorem dX5_meanFar_78 : decode cX5_meanFar 78 = .ok (.iadd, 1) := by decide +kernel
theorem dX5_meanFar_79 : decode cX5_meanFar 79 = .ok (.istore_n 2, 1) := by decide +kernel
theorem dX5_meanFar_80 : decode cX5_meanFar 80 = .ok (.iinc 3 1, 3) := by decide +kernel
theorem dX5_meanFar_83 : decode cX5_meanFar 83 = .ok (.goto (-77), 3) := by decide +kernel
theorem dX5_meanFar_86 : decode cX5_meanFar 86 = .ok (.iload_n 1, 1) := by decide +kernel
theorem dX5_meanFar_87 : decode cX5_meanFar 87 = .ok (.ifCond .ne 14, 3) := by decide +kernel
theorem dX5_meanFar_90 : decode cX5_meanFar 90 = .ok (.new 296, 3) := by decide +kernel
theorem dX5_meanFar_93 : decode cX5_meanFar 93 = .ok (.dup, 1) := by decide +kernel
theorem dX5_meanFar_94 : decode cX5_meanFar 94 = .ok (.ldc_w 298, 3) := by decide +kernel
theorem dX5_meanFar_97 : decode cX5_meanFar 97 = .ok (.invokespecial 300, 3) := by decide +kernel
theorem dX5_meanFar_100 : decode cX5_meanFar 100 = .ok (.athrow, 1) := by decide +kernel
theorem dX5_meanFar_101 : decode cX5_meanFar 101 = .ok (.iload_n 2, 1) := by decide +kernel
theorem dX5_meanFar_102 : decode cX5_meanFar 102 = .ok (.i2d, 1) := by decide +kernel
theorem dX5_meanFar_103 : decode cX5_meanFar 103 = .ok (.iload_n 1, 1) := by decide +kernel
theorem dX5_meanFar_104 : decode cX5_meanFar 104 = .ok (.i2d, 1) := by decide +kernel
theorem dX5_meanFar_105 : decode cX5_meanFar 105 = .ok (.ddiv, 1) := by decide +kernel
theorem dX5_meanFar_106 : decode cX5_meanFar 106 = .ok (.dreturn, 1) := by decide +kernel
theorem dX5_homeShare_0 : decode cX5_homeShare 0 = .ok (.aload_n 0, 1) := by decide +kernel
theorem dX5_homeShare_1 : decode cX5_homeShare 1 = .ok (.getfield 12, 3) := by decide +kernel
theorem dX5_homeShare_4 : decode cX5_homeShare 4 = .ok (.invokevirtual 79, 3) := by decide +kernel
theorem dX5_homeShare_7 : decode cX5_homeShare 7 = .ok (.istore_n 1, 1) := by decide +kernel
theorem dX5_homeShare_8 : decode cX5_homeShare 8 = .ok (.iload_n 1, 1) := by decide +kernel
theorem dX5_homeShare_9 : decode cX5_homeShare 9 = .ok (.ifCond .ne 7, 3) := by decide +kernel
theorem dX5_homeShare_12 : decode cX5_homeShare 12 = .ok (.fconst 0, 1) := by decide +kernel
theorem dX5_homeShare_13 : decode cX5_homeShare 13 = .ok (.goto 21, 3) := by decide +kernel
theorem dX5_homeShare_16 : decode cX5_homeShare 16 = .ok (.aload_n 0, 1) := by decide +kernel
theorem dX5_homeShare_17 : decode cX5_homeShare 17 = .ok (.getfield 12, 3) := by decide +kernel
theorem dX5_homeShare_20 : decode cX5_homeShare 20 = .ok (.aload_n 0, 1) := by decide +kernel
theorem dX5_homeShare_21 : decode cX5_homeShare 21 = .ok (.getfield 12, 3) := by decide +kernel
theorem dX5_homeShare_24 : decode cX5_homeShare 24 = .ok (.getfield 83, 3) := by decide +kernel
theorem dX5_homeShare_27 : decode cX5_homeShare 27 = .ok (.invokevirtual 102, 3) := by decide +kernel
theorem dX5_homeShare_30 : decode cX5_homeShare 30 = .ok (.i2f, 1) := by decide +kernel
theorem dX5_homeShare_31 : decode cX5_homeShare 31 = .ok (.iload_n 1, 1) := by decide +kernel
theorem dX5_homeShare_32 : decode cX5_homeShare 32 = .ok (.i2f, 1) := by decide +kernel
theorem dX5_homeShare_33 : decode cX5_homeShare 33 = .ok (.fdiv, 1) := by decide +kernel
theorem dX5_homeShare_34 : decode cX5_homeShare 34 = .ok (.freturn, 1) := by decide +kernel
theorem dX5_undo_0 : decode cX5_undo 0 = .ok (.aload_n 0, 1) := by decide +kernel
theorem dX5_undo_1 : decode cX5_undo 1 = .ok (.getfield 25, 3) := by decide +kernel
theorem dX5_undo_4 : decode cX5_undo 4 = .ok (.getfield 287, 3) := by decide +kernel
theorem dX5_undo_7 : decode cX5_undo 7 = .ok (.ifCond .gt 14, 3) := by decide +kernel
theorem dX5_undo_10 : decode cX5_undo 10 = .ok (.new 259, 3) := by decide +kernel
theorem dX5_undo_13 : decode cX5_undo 13 = .ok (.dup, 1) := by decide +kernel
theorem dX5_undo_14 : decode cX5_undo 14 = .ok (.ldc_w 301, 3) := by decide +kernel
theorem dX5_undo_17 : decode cX5_undo 17 = .ok (.invokespecial 263, 3) := by decide +kernel
theorem dX5_undo_20 : decode cX5_undo 20 = .ok (.athrow, 1) := by decide +kernel
theorem dX5_undo_21 : decode cX5_undo 21 = .ok (.aload_n 0, 1) := by decide +kernel
theorem dX5_undo_22 : decode cX5_undo 22 = .ok (.getfield 25, 3) := by decide +kernel
theorem dX5_undo_25 : decode cX5_undo 25 = .ok (.aload_n 0, 1) := by decide +kernel
theorem dX5_undo_26 : decode cX5_undo 26 = .ok (.getfield 12, 3) := by decide +kernel
theorem dX5_undo_29 : decode cX5_undo 29 = .ok (.invokevirtual 303, 3) := by decide +kernel
theorem dX5_undo_32 : decode cX5_undo 32 = .ok (.aload_n 0, 1) := by decide +kernel
theorem dX5_undo_33 : decode cX5_undo 33 = .ok (.getfield 25, 3) := by decide +kernel
theorem dX5_undo_36 : decode cX5_undo 36 = .ok (.getfield 287, 3) := by decide +kernel
theorem dX5_undo_39 : decode cX5_undo 39 = .ok (.ireturn, 1) := by decide +kernel
theorem dX5_save_0 : decode cX5_save 0 = .ok (.aload_n 0, 1) := by decide +kernel
theorem dX5_save_1 : decode cX5_save 1 = .ok (.getfield 19, 3) := by decide +kernel
theorem dX5_save_4 : decode cX5_save 4 = .ok (.aload_n 0, 1) := by decide +kernel
theorem dX5_save_5 : decode cX5_save 5 = .ok (.getfield 12, 3) := by decide +kernel
theorem dX5_save_8 : decode cX5_save 8 = .ok (.invokevirtual 306, 3) := by decide +kernel
theorem dX5_save_11 : decode cX5_save 11 = .ok (.aload_n 0, 1) := by decide +kernel
theorem dX5_save_12 : decode cX5_save 12 = .ok (.iconst 1, 1) := by decide +kernel
theorem dX5_save_13 : decode cX5_save 13 = .ok (.putfield 67, 3) := by decide +kernel
theorem dX5_save_16 : decode cX5_save 16 = .ok (.aload_n 0, 1) := by decide +kernel
theorem dX5_save_17 : decode cX5_save 17 = .ok (.getfield 12, 3) := by decide +kernel
theorem dX5_save_20 : decode cX5_save 20 = .ok (.aload_n 0, 1) := by decide +kernel
theorem dX5_save_21 : decode cX5_save 21 = .ok (.getfield 12, 3) := by decide +kernel
theorem dX5_save_24 : decode cX5_save 24 = .ok (.getfield 83, 3) := by decide +kernel
theorem dX5_save_27 : decode cX5_save 27 = .ok (.invokevirtual 102, 3) := by decide +kernel
theorem dX5_save_30 : decode cX5_save 30 = .ok (.ireturn, 1) := by decide +kernel
theorem dX5_restore_0 : decode cX5_restore 0 = .ok (.aload_n 0, 1) := by decide +kernel
theorem dX5_restore_1 : decode cX5_restore 1 = .ok (.getfield 67, 3) := by decide +kernel
theorem dX5_restore_4 : decode cX5_restore 4 = .ok (.ifCond .ne 14, 3) := by decide +kernel
theorem dX5_restore_7 : decode cX5_restore 7 = .ok (.new 259, 3) := by decide +kernel
theorem dX5_restore_10 : decode cX5_restore 10 = .ok (.dup, 1) := by decide +kernel
theorem dX5_restore_11 : decode cX5_restore 11 = .ok (.ldc_w 309, 3) := by decide +kernel
theorem dX5_restore_14 : decode cX5_restore 14 = .ok (.invokespecial 263, 3) := by decide +kernel
theorem dX5_restore_17 : decode cX5_restore 17 = .ok (.athrow, 1) := by decide +kernel
theorem dX5_restore_18 : decode cX5_restore 18 = .ok (.aload_n 0, 1) := by decide +kernel
theorem dX5_restore_19 : decode cX5_restore 19 = .ok (.getfield 12, 3) := by decide +kernel
theorem dX5_restore_22 : decode cX5_restore 22 = .ok (.aload_n 0, 1) := by decide +kernel
theorem dX5_restore_23 : decode cX5_restore 23 = .ok (.getfield 19, 3) := by decide +kernel
theorem dX5_restore_26 : decode cX5_restore 26 = .ok (.invokevirtual 306, 3) := by decide +kernel
theorem dX5_restore_29 : decode cX5_restore 29 = .ok (.aload_n 0, 1) := by decide +kernel
theorem dX5_restore_30 : decode cX5_restore 30 = .ok (.getfield 25, 3) := by decide +kernel
theorem dX5_restore_33 : decode cX5_restore 33 = .ok (.invokevirtual 311, 3) := by decide +kernel
theorem dX5_restore_36 : decode cX5_restore 36 = .ok (.aload_n 0, 1) := by decide +kernel
theorem dX5_restore_37 : decode cX5_restore 37 = .ok (.getfield 12, 3) := by decide +kernel
theorem dX5_restore_40 : decode cX5_restore 40 = .ok (.aload_n 0, 1) := by decide +kernel
theorem dX5_restore_41 : decode cX5_restore 41 = .ok (.getfield 12, 3) := by decide +kernel
theorem dX5_restore_44 : decode cX5_restore 44 = .ok (.getfield 83, 3) := by decide +kernel
theorem dX5_restore_47 : decode cX5_restore 47 = .ok (.invokevirtual 102, 3) := by decide +kernel
theorem dX5_restore_50 : decode cX5_restore 50 = .ok (.ireturn, 1) := by decide +kernel
theorem dX5_needIndex_0 : decode cX5_needIndex 0 = .ok (.iload_n 0, 1) := by decide +kernel
theorem dX5_needIndex_1 : decode cX5_needIndex 1 = .ok (.ifCond .ne 14, 3) := by decide +kernel
theorem dX5_needIndex_4 : decode cX5_needIndex 4 = .ok (.new 314, 3) := by decide +kernel
theorem dX5_needIndex_7 : decode cX5_needIndex 7 = .ok (.dup, 1) := by decide +kernel
theorem dX5_needIndex_8 : decode cX5_needIndex 8 = .ok (.ldc_w 316, 3) := by decide +kernel
theorem dX5_needIndex_11 : decode cX5_needIndex 11 = .ok (.invokespecial 318, 3) := by decide +kernel
theorem dX5_needIndex_14 : decode cX5_needIndex 14 = .ok (.athrow, 1) := by decide +kernel
theorem dX5_needIndex_15 : decode cX5_needIndex 15 = .ok (.return_, 1) := by decide +kernel
theorem dX5_raise_0 : decode cX5_raise 0 = .ok (.iload_n 0, 1) := by decide +kernel
theorem dX5_raise_1 : decode cX5_raise 1 = .ok (.iconst 1, 1) := by decide +kernel
theorem dX5_raise_2 : decode cX5_raise 2 = .ok (.if_icmp .ne 14, 3) := by decide +kernel
theorem dX5_raise_5 : decode cX5_raise 5 = .ok (.new 314, 3) := by decide +kernel
theorem dX5_raise_8 : decode cX5_raise 8 = .ok (.dup, 1) := by decide +kernel
theorem dX5_raise_9 : decode cX5_raise 9 = .ok (.ldc_w 319, 3) := by decide +kernel
theorem dX5_raise_12 : decode cX5_raise 12 = .ok (.invokespecial 318, 3) := by decide +kernel
theorem dX5_raise_15 : decode cX5_raise 15 = .ok (.athrow, 1) := by decide +kernel
theorem dX5_raise_16 : decode cX5_raise 16 = .ok (.iload_n 0, 1) := by decide +kernel
theorem dX5_raise_17 : decode cX5_raise 17 = .ok (.iconst 2, 1) := by decide +kernel
theorem dX5_raise_18 : decode cX5_raise 18 = .ok (.if_icmp .ne 14, 3) := by decide +kernel
theorem dX5_raise_21 : decode cX5_raise 21 = .ok (.new 174, 3) := by decide +kernel
theorem dX5_raise_24 : decode cX5_raise 24 = .ok (.dup, 1) := by decide +kernel
theorem dX5_raise_25 : decode cX5_raise 25 = .ok (.ldc_w 321, 3) := by decide +kernel
theorem dX5_raise_28 : decode cX5_raise 28 = .ok (.invokespecial 178, 3) := by decide +kernel
theorem dX5_raise_31 : decode cX5_raise 31 = .ok (.athrow, 1) := by decide +kernel
theorem dX5_raise_32 : decode cX5_raise 32 = .ok (.iload_n 0, 1) := by decide +kernel
theorem dX5_raise_33 : decode cX5_raise 33 = .ok (.iconst 3, 1) := by decide +kernel
theorem dX5_raise_34 : decode cX5_raise 34 = .ok (.if_icmp .ne 14, 3) := by decide +kernel
theorem dX5_raise_37 : decode cX5_raise 37 = .ok (.new 323, 3) := by decide +kernel
theorem dX5_raise_40 : decode cX5_raise 40 = .ok (.dup, 1) := by decide +kernel
theorem dX5_raise_41 : decode cX5_raise 41 = .ok (.ldc_w 325, 3) := by decide +kernel
theorem dX5_raise_44 : decode cX5_raise 44 = .ok (.invokespecial 327, 3) := by decide +kernel
theorem dX5_raise_47 : decode cX5_raise 47 = .ok (.athrow, 1) := by decide +kernel
theorem dX5_raise_48 : decode cX5_raise 48 = .ok (.return_, 1) := by decide +kernel
theorem dX5_change_0 : decode cX5_change 0 = .ok (.aload_n 0, 1) := by decide +kernel
theorem dX5_change_1 : decode cX5_change 1 = .ok (.iload_n 1, 1) := by decide +kernel
theorem dX5_change_2 : decode cX5_change 2 = .ok (.iload_n 2, 1) := by decide +kernel
theorem dX5_change_3 : decode cX5_change 3 = .ok (.iload_n 3, 1) := by decide +kernel
theorem dX5_change_4 : decode cX5_change 4 = .ok (.invokevirtual 328, 3) := by decide +kernel
theorem dX5_change_7 : decode cX5_change 7 = .ok (.invokestatic 116, 3) := by decide +kernel
theorem dX5_change_10 : decode cX5_change 10 = .ok (.aload_n 0, 1) := by decide +kernel
theorem dX5_change_11 : decode cX5_change 11 = .ok (.getfield 25, 3) := by decide +kernel
theorem dX5_change_14 : decode cX5_change 14 = .ok (.aload_n 0, 1) := by decide +kernel
theorem dX5_change_15 : decode cX5_change 15 = .ok (.getfield 12, 3) := by decide +kernel
theorem dX5_change_18 : decode cX5_change 18 = .ok (.invokevirtual 134, 3) := by decide +kernel
theorem dX5_change_21 : decode cX5_change 21 = .ok (.aload_n 0, 1) := by decide +kernel
theorem dX5_change_22 : decode cX5_change 22 = .ok (.iload_n 1, 1) := by decide +kernel
theorem dX5_change_23 : decode cX5_change 23 = .ok (.iload_n 2, 1) := by decide +kernel
theorem dX5_change_24 : decode cX5_change 24 = .ok (.iload_n 3, 1) := by decide +kernel
theorem dX5_change_25 : decode cX5_change 25 = .ok (.invokevirtual 331, 3) := by decide +kernel
theorem dX5_change_28 : decode cX5_change 28 = .ok (.return_, 1) := by decide +kernel
theorem dX5_judge_0 : decode cX5_judge 0 = .ok (.iload_n 1, 1) := by decide +kernel
theorem dX5_judge_1 : decode cX5_judge 1 = .ok (.tableswitch 196 98 120 #[107, 196, 196, 196, 196, 143, 196, 196, 196, 196, 196, 196, 196, 196, 127, 196, 189, 165, 159, 196, 196, 196, 172], 107) := by decide +kernel
theorem dX5_judge_108 : decode cX5_judge 108 = .ok (.iload_n 2, 1) := by decide +kernel
theorem dX5_judge_109 : decode cX5_judge 109 = .ok (.invokestatic 334, 3) := by decide +kernel
theorem dX5_judge_112 : decode cX5_judge 112 = .ok (.ifCond .eq 14, 3) := by decide +kernel
theorem dX5_judge_115 : decode cX5_judge 115 = .ok (.iload_n 3, 1) := by decide +kernel
theorem dX5_judge_116 : decode cX5_judge 116 = .ok (.invokestatic 334, 3) := by decide +kernel
theorem dX5_judge_119 : decode cX5_judge 119 = .ok (.ifCond .eq 7, 3) := by decide +kernel
theorem dX5_judge_122 : decode cX5_judge 122 = .ok (.iconst 0, 1) := by decide +kernel
theorem dX5_judge_123 : decode cX5_judge 123 = .ok (.goto 4, 3) := by decide +kernel
theorem dX5_judge_126 : decode cX5_judge 126 = .ok (.iconst 2, 1) := by decide +kernel
theorem dX5_judge_127 : decode cX5_judge 127 = .ok (.ireturn, 1) := by decide +kernel
theorem dX5_judge_128 : decode cX5_judge 128 = .ok (.aload_n 0, 1) := by decide +kernel
theorem dX5_judge_129 : decode cX5_judge 129 = .ok (.iload_n 2, 1) := by decide +kernel
theorem dX5_judge_130 : decode cX5_judge 130 = .ok (.iload_n 3, 1) := by decide +kernel
theorem dX5_judge_131 : decode cX5_judge 131 = .ok (.aload_n 0, 1) := by decide +kernel
theorem dX5_judge_132 : decode cX5_judge 132 = .ok (.getfield 12, 3) := by decide +kernel
theorem dX5_judge_135 : decode cX5_judge 135 = .ok (.getfield 83, 3) := by decide +kernel
theorem dX5_judge_138 : decode cX5_judge 138 = .ok (.bipush 11, 2) := by decide +kernel
theorem dX5_judge_140 : decode cX5_judge 140 = .ok (.invokevirtual 337, 3) := by decide +kernel
theorem dX5_judge_143 : decode cX5_judge 143 = .ok (.ireturn, 1) := by decide +kernel
theorem dX5_judge_144 : decode cX5_judge 144 = .ok (.aload_n 0, 1) := by decide +kernel
theorem dX5_judge_145 : decode cX5_judge 145 = .ok (.iload_n 2, 1) := by decide +kernel
theorem dX5_judge_146 : decode cX5_judge 146 = .ok (.iload_n 3, 1) := by decide +kernel
theorem dX5_judge_147 : decode cX5_judge 147 = .ok (.aload_n 0, 1) := by decide +kernel
theorem dX5_judge_148 : decode cX5_judge 148 = .ok (.getfield 12, 3) := by decide +kernel
theorem dX5_judge_151 : decode cX5_judge 151 = .ok (.getfield 99, 3) := by decide +kernel
theorem dX5_judge_154 : decode cX5_judge 154 = .ok (.bipush 12, 2) := by decide +kernel
theorem dX5_judge_156 : decode cX5_judge 156 = .ok (.invokevirtual 337, 3) := by decide +kernel
theorem dX5_judge_159 : decode cX5_judge 159 = .ok (.ireturn, 1) := by decide +kernel
theorem dX5_judge_160 : decode cX5_judge 160 = .ok (.aload_n 0, 1) := by decide +kernel
theorem dX5_judge_161 : decode cX5_judge 161 = .ok (.iload_n 2, 1) := by decide +kernel
theorem dX5_judge_162 : decode cX5_judge 162 = .ok (.invokevirtual 341, 3) := by decide +kernel
theorem dX5_judge_165 : decode cX5_judge 165 = .ok (.ireturn, 1) := by decide +kernel
theorem dX5_judge_166 : decode cX5_judge 166 = .ok (.aload_n 0, 1) := by decide +kernel
theorem dX5_judge_167 : decode cX5_judge 167 = .ok (.iload_n 2, 1) := by decide +kernel
theorem dX5_judge_168 : decode cX5_judge 168 = .ok (.iload_n 3, 1) := by decide +kernel
theorem dX5_judge_169 : decode cX5_judge 169 = .ok (.invokevirtual 344, 3) := by decide +kernel
theorem dX5_judge_172 : decode cX5_judge 172 = .ok (.ireturn, 1) := by decide +kernel
theorem dX5_judge_173 : decode cX5_judge 173 = .ok (.aload_n 0, 1) := by decide +kernel
theorem dX5_judge_174 : decode cX5_judge 174 = .ok (.getfield 12, 3) := by decide +kernel
theorem dX5_judge_177 : decode cX5_judge 177 = .ok (.iload_n 2, 1) := by decide +kernel
theorem dX5_judge_178 : decode cX5_judge 178 = .ok (.invokevirtual 150, 3) := by decide +kernel
theorem dX5_judge_181 : decode cX5_judge 181 = .ok (.ifCond .eq 7, 3) := by decide +kernel
theorem dX5_judge_184 : decode cX5_judge 184 = .ok (.iconst 0, 1) := by decide +kernel
theorem dX5_judge_185 : decode cX5_judge 185 = .ok (.goto 4, 3) := by decide +kernel
theorem dX5_judge_188 : decode cX5_judge 188 = .ok (.iconst 1, 1) := by decide +kernel
theorem dX5_judge_189 : decode cX5_judge 189 = .ok (.ireturn, 1) := by decide +kernel
theorem dX5_judge_190 : decode cX5_judge 190 = .ok (.aload_n 0, 1) := by decide +kernel
theorem dX5_judge_191 : decode cX5_judge 191 = .ok (.iload_n 2, 1) := by decide +kernel
theorem dX5_judge_192 : decode cX5_judge 192 = .ok (.iload_n 3, 1) := by decide +kernel
theorem dX5_judge_193 : decode cX5_judge 193 = .ok (.invokevirtual 347, 3) := by decide +kernel
theorem dX5_judge_196 : decode cX5_judge 196 = .ok (.ireturn, 1) := by decide +kernel
theorem dX5_judge_197 : decode cX5_judge 197 = .ok (.iconst 2, 1) := by decide +kernel
theorem dX5_judge_198 : decode cX5_judge 198 = .ok (.ireturn, 1) := by decide +kernel
theorem dX5_judgeSign_0 : decode cX5_judgeSign 0 = .ok (.aload_n 0, 1) := by decide +kernel
theorem dX5_judgeSign_1 : decode cX5_judgeSign 1 = .ok (.getfield 12, 3) := by decide +kernel
theorem dX5_judgeSign_4 : decode cX5_judgeSign 4 = .ok (.iload_n 1, 1) := by decide +kernel
theorem dX5_judgeSign_5 : decode cX5_judgeSign 5 = .ok (.invokevirtual 143, 3) := by decide +kernel
theorem dX5_judgeSign_8 : decode cX5_judgeSign 8 = .ok (.ifCond .ne 5, 3) := by decide +kernel
theorem dX5_judgeSign_11 : decode cX5_judgeSign 11 = .ok (.iconst 1, 1) := by decide +kernel
theorem dX5_judgeSign_12 : decode cX5_judgeSign 12 = .ok (.ireturn, 1) := by decide +kernel
theorem dX5_judgeSign_13 : decode cX5_judgeSign 13 = .ok (.iload_n 2, 1) := by decide +kernel
theorem dX5_judgeSign_14 : decode cX5_judgeSign 14 = .ok (.ifCond .lt 9, 3) := by decide +kernel
theorem dX5_judgeSign_17 : decode cX5_judgeSign 17 = .ok (.iload_n 2, 1) := by decide +kernel
theorem dX5_judgeSign_18 : decode cX5_judgeSign 18 = .ok (.iload 5, 2) := by decide +kernel
theorem dX5_judgeSign_20 : decode cX5_judgeSign 20 = .ok (.if_icmp .le 5, 3) := by decide +kernel
theorem dX5_judgeSign_23 : decode cX5_judgeSign 23 = .ok (.iconst 2, 1) := by decide +kernel
theorem dX5_judgeSign_24 : decode cX5_judgeSign 24 = .ok (.ireturn, 1) := by decide +kernel
theorem dX5_judgeSign_25 : decode cX5_judgeSign 25 = .ok (.lload_n 3, 1) := by decide +kernel
theorem dX5_judgeSign_26 : decode cX5_judgeSign 26 = .ok (.iload_n 1, 1) := by decide +kernel
theorem dX5_judgeSign_27 : decode cX5_judgeSign 27 = .ok (.invokestatic 91, 3) := by decide +kernel
theorem dX5_judgeSign_30 : decode cX5_judgeSign 30 = .ok (.iload_n 2, 1) := by decide +kernel
theorem dX5_judgeSign_31 : decode cX5_judgeSign 31 = .ok (.if_icmp .ne 12, 3) := by decide +kernel
theorem dX5_judgeSign_34 : decode cX5_judgeSign 34 = .ok (.aload_n 0, 1) := by decide +kernel
theorem dX5_judgeSign_35 : decode cX5_judgeSign 35 = .ok (.iconst 2, 1) := by decide +kernel
theorem dX5_judgeSign_36 : decode cX5_judgeSign 36 = .ok (.iload_n 1, 1) := by decide +kernel
theorem dX5_judgeSign_37 : decode cX5_judgeSign 37 = .ok (.invokevirtual 350, 3) := by decide +kernel
theorem dX5_judgeSign_40 : decode cX5_judgeSign 40 = .ok (.goto 4, 3) := by decide +kernel
theorem dX5_judgeSign_43 : decode cX5_judgeSign 43 = .ok (.iconst 0, 1) := by decide +kernel
theorem dX5_judgeSign_44 : decode cX5_judgeSign 44 = .ok (.ireturn, 1) := by decide +kernel
theorem dX5_judgeTurn_0 : decode cX5_judgeTurn 0 = .ok (.aload_n 0, 1) := by decide +kernel
theorem dX5_judgeTurn_1 : decode cX5_judgeTurn 1 = .ok (.getfield 12, 3) := by decide +kernel
theorem dX5_judgeTurn_4 : decode cX5_judgeTurn 4 = .ok (.iload_n 1, 1) := by decide +kernel
theorem dX5_judgeTurn_5 : decode cX5_judgeTurn 5 = .ok (.invokevirtual 203, 3) := by decide +kernel
theorem dX5_judgeTurn_8 : decode cX5_judgeTurn 8 = .ok (.ifCond .ne 5, 3) := by decide +kernel
theorem dX5_judgeTurn_11 : decode cX5_judgeTurn 11 = .ok (.iconst 1, 1) := by decide +kernel
theorem dX5_judgeTurn_12 : decode cX5_judgeTurn 12 = .ok (.ireturn, 1) := by decide +kernel
theorem dX5_judgeTurn_13 : decode cX5_judgeTurn 13 = .ok (.aload_n 0, 1) := by decide +kernel
theorem dX5_judgeTurn_14 : decode cX5_judgeTurn 14 = .ok (.getfield 12, 3) := by decide +kernel
theorem dX5_judgeTurn_17 : decode cX5_judgeTurn 17 = .ok (.iload_n 1, 1) := by decide +kernel
theorem dX5_judgeTurn_18 : decode cX5_judgeTurn 18 = .ok (.invokevirtual 353, 3) := by decide +kernel
theorem dX5_judgeTurn_21 : decode cX5_judgeTurn 21 = .ok (.ifCond .eq 7, 3) := by decide +kernel
theorem dX5_judgeTurn_24 : decode cX5_judgeTurn 24 = .ok (.iconst 0, 1) := by decide +kernel
theorem dX5_judgeTurn_25 : decode cX5_judgeTurn 25 = .ok (.goto 11, 3) := by decide +kernel
theorem dX5_judgeTurn_28 : decode cX5_judgeTurn 28 = .ok (.aload_n 0, 1) := by decide +kernel
theorem dX5_judgeTurn_29 : decode cX5_judgeTurn 29 = .ok (.iconst 1, 1) := by decide +kernel
theorem dX5_judgeTurn_30 : decode cX5_judgeTurn 30 = .ok (.iload_n 1, 1) := by decide +kernel
theorem dX5_judgeTurn_31 : decode cX5_judgeTurn 31 = .ok (.iconst 2, 1) := by decide +kernel
theorem dX5_judgeTurn_32 : decode cX5_judgeTurn 32 = .ok (.idiv, 1) := by decide +kernel
theorem dX5_judgeTurn_33 : decode cX5_judgeTurn 33 = .ok (.invokevirtual 350, 3) := by decide +kernel
theorem dX5_judgeTurn_36 : decode cX5_judgeTurn 36 = .ok (.ireturn, 1) := by decide +kernel
theorem dX5_judgeSwap_0 : decode cX5_judgeSwap 0 = .ok (.aload_n 0, 1) := by decide +kernel
theorem dX5_judgeSwap_1 : decode cX5_judgeSwap 1 = .ok (.getfield 12, 3) := by decide +kernel
theorem dX5_judgeSwap_4 : decode cX5_judgeSwap 4 = .ok (.iload_n 1, 1) := by decide +kernel
theorem dX5_judgeSwap_5 : decode cX5_judgeSwap 5 = .ok (.invokevirtual 143, 3) := by decide +kernel
theorem dX5_judgeSwap_8 : decode cX5_judgeSwap 8 = .ok (.ifCond .eq 14, 3) := by decide +kernel
theorem dX5_judgeSwap_11 : decode cX5_judgeSwap 11 = .ok (.aload_n 0, 1) := by decide +kernel
theorem dX5_judgeSwap_12 : decode cX5_judgeSwap 12 = .ok (.getfield 12, 3) := by decide +kernel
theorem dX5_judgeSwap_15 : decode cX5_judgeSwap 15 = .ok (.iload_n 2, 1) := by decide +kernel
theorem dX5_judgeSwap_16 : decode cX5_judgeSwap 16 = .ok (.invokevirtual 143, 3) := by decide +kernel
theorem dX5_judgeSwap_19 : decode cX5_judgeSwap 19 = .ok (.ifCond .ne 5, 3) := by decide +kernel
theorem dX5_judgeSwap_22 : decode cX5_judgeSwap 22 = .ok (.iconst 1, 1) := by decide +kernel
theorem dX5_judgeSwap_23 : decode cX5_judgeSwap 23 = .ok (.ireturn, 1) := by decide +kernel
theorem dX5_judgeSwap_24 : decode cX5_judgeSwap 24 = .ok (.iload_n 1, 1) := by decide +kernel
theorem dX5_judgeSwap_25 : decode cX5_judgeSwap 25 = .ok (.iload_n 2, 1) := by decide +kernel
theorem dX5_judgeSwap_26 : decode cX5_judgeSwap 26 = .ok (.if_icmp .ne 12, 3) := by decide +kernel
theorem dX5_judgeSwap_29 : decode cX5_judgeSwap 29 = .ok (.aload_n 0, 1) := by decide +kernel
theorem dX5_judgeSwap_30 : decode cX5_judgeSwap 30 = .ok (.iconst 3, 1) := by decide +kernel
theorem dX5_judgeSwap_31 : decode cX5_judgeSwap 31 = .ok (.iload_n 1, 1) := by decide +kernel
theorem dX5_judgeSwap_32 : decode cX5_judgeSwap 32 = .ok (.invokevirtual 350, 3) := by decide +kernel
theorem dX5_judgeSwap_35 : decode cX5_judgeSwap 35 = .ok (.goto 4, 3) := by decide +kernel
theorem dX5_judgeSwap_38 : decode cX5_judgeSwap 38 = .ok (.iconst 0, 1) := by decide +kernel
theorem dX5_judgeSwap_39 : decode cX5_judgeSwap 39 = .ok (.ireturn, 1) := by decide +kernel
theorem dX5_judgeScramble_0 : decode cX5_judgeScramble 0 = .ok (.iload_n 1, 1) := by decide +kernel
theorem dX5_judgeScramble_1 : decode cX5_judgeScramble 1 = .ok (.ifCond .lt 14, 3) := by decide +kernel
theorem dX5_judgeScramble_4 : decode cX5_judgeScramble 4 = .ok (.iload_n 1, 1) := by decide +kernel
theorem dX5_judgeScramble_5 : decode cX5_judgeScramble 5 = .ok (.sipush 999, 3) := by decide +kernel
theorem dX5_judgeScramble_8 : decode cX5_judgeScramble 8 = .ok (.if_icmp .gt 7, 3) := by decide +kernel
theorem dX5_judgeScramble_11 : decode cX5_judgeScramble 11 = .ok (.iconst 1, 1) := by decide +kernel
theorem dX5_judgeScramble_12 : decode cX5_judgeScramble 12 = .ok (.goto 4, 3) := by decide +kernel
theorem dX5_judgeScramble_15 : decode cX5_judgeScramble 15 = .ok (.iconst 0, 1) := by decide +kernel
theorem dX5_judgeScramble_16 : decode cX5_judgeScramble 16 = .ok (.istore_n 3, 1) := by decide +kernel
theorem dX5_judgeScramble_17 : decode cX5_judgeScramble 17 = .ok (.iload_n 3, 1) := by decide +kernel
theorem dX5_judgeScramble_18 : decode cX5_judgeScramble 18 = .ok (.ifCond .eq 18, 3) := by decide +kernel
theorem dX5_judgeScramble_21 : decode cX5_judgeScramble 21 = .ok (.iload_n 2, 1) := by decide +kernel
theorem dX5_judgeScramble_22 : decode cX5_judgeScramble 22 = .ok (.iconst 1, 1) := by decide +kernel
theorem dX5_judgeScramble_23 : decode cX5_judgeScramble 23 = .ok (.if_icmp .lt 13, 3) := by decide +kernel
theorem dX5_judgeScramble_26 : decode cX5_judgeScramble 26 = .ok (.iload_n 2, 1) := by decide +kernel
theorem dX5_judgeScramble_27 : decode cX5_judgeScramble 27 = .ok (.bipush 9, 2) := by decide +kernel
theorem dX5_judgeScramble_29 : decode cX5_judgeScramble 29 = .ok (.if_icmp .gt 7, 3) := by decide +kernel
theorem dX5_judgeScramble_32 : decode cX5_judgeScramble 32 = .ok (.iconst 0, 1) := by decide +kernel
theorem dX5_judgeScramble_33 : decode cX5_judgeScramble 33 = .ok (.goto 4, 3) := by decide +kernel
theorem dX5_judgeScramble_36 : decode cX5_judgeScramble 36 = .ok (.iconst 2, 1) := by decide +kernel
theorem dX5_judgeScramble_37 : decode cX5_judgeScramble 37 = .ok (.ireturn, 1) := by decide +kernel
theorem dX5_judgeStep_0 : decode cX5_judgeStep 0 = .ok (.aload_n 0, 1) := by decide +kernel
theorem dX5_judgeStep_1 : decode cX5_judgeStep 1 = .ok (.getfield 12, 3) := by decide +kernel
theorem dX5_judgeStep_4 : decode cX5_judgeStep 4 = .ok (.invokevirtual 356, 3) := by decide +kernel
theorem dX5_judgeStep_7 : decode cX5_judgeStep 7 = .ok (.ifCond .eq 16, 3) := by decide +kernel
theorem dX5_judgeStep_10 : decode cX5_judgeStep 10 = .ok (.aload_n 0, 1) := by decide +kernel
theorem dX5_judgeStep_11 : decode cX5_judgeStep 11 = .ok (.iconst 5, 1) := by decide +kernel
theorem dX5_judgeStep_12 : decode cX5_judgeStep 12 = .ok (.aload_n 0, 1) := by decide +kernel
theorem dX5_judgeStep_13 : decode cX5_judgeStep 13 = .ok (.getfield 12, 3) := by decide +kernel
theorem dX5_judgeStep_16 : decode cX5_judgeStep 16 = .ok (.invokevirtual 79, 3) := by decide +kernel
theorem dX5_judgeStep_19 : decode cX5_judgeStep 19 = .ok (.invokevirtual 350, 3) := by decide +kernel
theorem dX5_judgeStep_22 : decode cX5_judgeStep 22 = .ok (.ireturn, 1) := by decide +kernel
theorem dX5_judgeStep_23 : decode cX5_judgeStep 23 = .ok (.aload_n 0, 1) := by decide +kernel
theorem dX5_judgeStep_24 : decode cX5_judgeStep 24 = .ok (.getfield 12, 3) := by decide +kernel
theorem dX5_judgeStep_27 : decode cX5_judgeStep 27 = .ok (.invokevirtual 187, 3) := by decide +kernel
theorem dX5_judgeStep_30 : decode cX5_judgeStep 30 = .ok (.ifCond .eq 31, 3) := by decide +kernel
theorem dX5_judgeStep_33 : decode cX5_judgeStep 33 = .ok (.aload_n 0, 1) := by decide +kernel
theorem dX5_judgeStep_34 : decode cX5_judgeStep 34 = .ok (.iconst 4, 1) := by decide +kernel
theorem dX5_judgeStep_35 : decode cX5_judgeStep 35 = .ok (.aload_n 0, 1) := by decide +kernel
theorem dX5_judgeStep_36 : decode cX5_judgeStep 36 = .ok (.getfield 12, 3) := by decide +kernel
theorem dX5_judgeStep_39 : decode cX5_judgeStep 39 = .ok (.invokevirtual 79, 3) := by decide +kernel
theorem dX5_judgeStep_42 : decode cX5_judgeStep 42 = .ok (.aload_n 0, 1) := by decide +kernel
theorem dX5_judgeStep_43 : decode cX5_judgeStep 43 = .ok (.getfield 12, 3) := by decide +kernel
theorem dX5_judgeStep_46 : decode cX5_judgeStep 46 = .ok (.aload_n 0, 1) := by decide +kernel
theorem dX5_judgeStep_47 : decode cX5_judgeStep 47 = .ok (.getfield 12, 3) := by decide +kernel
theorem dX5_judgeStep_50 : decode cX5_judgeStep 50 = .ok (.getfield 83, 3) := by decide +kernel
theorem dX5_judgeStep_53 : decode cX5_judgeStep 53 = .ok (.invokevirtual 102, 3) := by decide +kernel
theorem dX5_judgeStep_56 : decode cX5_judgeStep 56 = .ok (.isub, 1) := by decide +kernel
theorem dX5_judgeStep_57 : decode cX5_judgeStep 57 = .ok (.invokevirtual 350, 3) := by decide +kernel
theorem dX5_judgeStep_60 : decode cX5_judgeStep 60 = .ok (.ireturn, 1) := by decide +kernel
theorem dX5_judgeStep_61 : decode cX5_judgeStep 61 = .ok (.iconst 0, 1) := by decide +kernel
theorem dX5_judgeStep_62 : decode cX5_judgeStep 62 = .ok (.ireturn, 1) := by decide +kernel
theorem dX5_refuse_0 : decode cX5_refuse 0 = .ok (.aload_n 0, 1) := by decide +kernel
theorem dX5_refuse_1 : decode cX5_refuse 1 = .ok (.iload_n 1, 1) := by decide +kernel
theorem dX5_refuse_2 : decode cX5_refuse 2 = .ok (.putfield 61, 3) := by decide +kernel
theorem dX5_refuse_5 : decode cX5_refuse 5 = .ok (.aload_n 0, 1) := by decide +kernel
theorem dX5_refuse_6 : decode cX5_refuse 6 = .ok (.iload_n 2, 1) := by decide +kernel
theorem dX5_refuse_7 : decode cX5_refuse 7 = .ok (.putfield 64, 3) := by decide +kernel
theorem dX5_refuse_10 : decode cX5_refuse 10 = .ok (.iconst 3, 1) := by decide +kernel
theorem dX5_refuse_11 : decode cX5_refuse 11 = .ok (.ireturn, 1) := by decide +kernel
theorem dX5_carryOut_0 : decode cX5_carryOut 0 = .ok (.iload_n 1, 1) := by decide +kernel
theorem dX5_carryOut_1 : decode cX5_carryOut 1 = .ok (.tableswitch 229 98 120 #[107, 229, 229, 229, 229, 154, 229, 229, 229, 229, 229, 229, 229, 229, 132, 229, 217, 187, 176, 229, 229, 229, 199], 107) := by decide +kernel
theorem dX5_carryOut_108 : decode cX5_carryOut 108 = .ok (.aload_n 0, 1) := by decide +kernel
theorem dX5_carryOut_109 : decode cX5_carryOut 109 = .ok (.getfield 12, 3) := by decide +kernel
theorem dX5_carryOut_112 : decode cX5_carryOut 112 = .ok (.iload_n 2, 1) := by decide +kernel
theorem dX5_carryOut_113 : decode cX5_carryOut 113 = .ok (.iload_n 3, 1) := by decide +kernel
theorem dX5_carryOut_114 : decode cX5_carryOut 114 = .ok (.invokevirtual 71, 3) := by decide +kernel
theorem dX5_carryOut_117 : decode cX5_carryOut 117 = .ok (.aload_n 0, 1) := by decide +kernel
theorem dX5_carryOut_118 : decode cX5_carryOut 118 = .ok (.getfield 12, 3) := by decide +kernel
theorem dX5_carryOut_121 : decode cX5_carryOut 121 = .ok (.dup, 1) := by decide +kernel
theorem dX5_carryOut_122 : decode cX5_carryOut 122 = .ok (.getfield 281, 3) := by decide +kernel
theorem dX5_carryOut_125 : decode cX5_carryOut 125 = .ok (.iconst 1, 1) := by decide +kernel
theorem dX5_carryOut_126 : decode cX5_carryOut 126 = .ok (.iadd, 1) := by decide +kernel
theorem dX5_carryOut_127 : decode cX5_carryOut 127 = .ok (.putfield 281, 3) := by decide +kernel
theorem dX5_carryOut_130 : decode cX5_carryOut 130 = .ok (.goto 100, 3) := by decide +kernel
theorem dX5_carryOut_133 : decode cX5_carryOut 133 = .ok (.aload_n 0, 1) := by decide +kernel
theorem dX5_carryOut_134 : decode cX5_carryOut 134 = .ok (.getfield 12, 3) := by decide +kernel
theorem dX5_carryOut_137 : decode cX5_carryOut 137 = .ok (.aload_n 0, 1) := by decide +kernel
theorem dX5_carryOut_138 : decode cX5_carryOut 138 = .ok (.getfield 12, 3) := by decide +kernel
theorem dX5_carryOut_141 : decode cX5_carryOut 141 = .ok (.getfield 83, 3) := by decide +kernel
theorem dX5_carryOut_144 : decode cX5_carryOut 144 = .ok (.iload_n 2, 1) := by decide +kernel
theorem dX5_carryOut_145 : decode cX5_carryOut 145 = .ok (.iload_n 3, 1) := by decide +kernel
theorem dX5_carryOut_146 : decode cX5_carryOut 146 = .ok (.invokestatic 359, 3) := by decide +kernel
theorem dX5_carryOut_149 : decode cX5_carryOut 149 = .ok (.putfield 83, 3) := by decide +kernel
theorem dX5_carryOut_152 : decode cX5_carryOut 152 = .ok (.goto 78, 3) := by decide +kernel
theorem dX5_carryOut_155 : decode cX5_carryOut 155 = .ok (.aload_n 0, 1) := by decide +kernel
theorem dX5_carryOut_156 : decode cX5_carryOut 156 = .ok (.getfield 12, 3) := by decide +kernel
theorem dX5_carryOut_159 : decode cX5_carryOut 159 = .ok (.aload_n 0, 1) := by decide +kernel
theorem dX5_carryOut_160 : decode cX5_carryOut 160 = .ok (.getfield 12, 3) := by decide +kernel
theorem dX5_carryOut_163 : decode cX5_carryOut 163 = .ok (.getfield 99, 3) := by decide +kernel
theorem dX5_carryOut_166 : decode cX5_carryOut 166 = .ok (.iload_n 2, 1) := by decide +kernel
theorem dX5_carryOut_167 : decode cX5_carryOut 167 = .ok (.iload_n 3, 1) := by decide +kernel
theorem dX5_carryOut_168 : decode cX5_carryOut 168 = .ok (.invokestatic 359, 3) := by decide +kernel
theorem dX5_carryOut_171 : decode cX5_carryOut 171 = .ok (.putfield 99, 3) := by decide +kernel
theorem dX5_carryOut_174 : decode cX5_carryOut 174 = .ok (.goto 56, 3) := by decide +kernel
theorem dX5_carryOut_177 : decode cX5_carryOut 177 = .ok (.aload_n 0, 1) := by decide +kernel
theorem dX5_carryOut_178 : decode cX5_carryOut 178 = .ok (.getfield 12, 3) := by decide +kernel
theorem dX5_carryOut_181 : decode cX5_carryOut 181 = .ok (.iload_n 2, 1) := by decide +kernel
theorem dX5_carryOut_182 : decode cX5_carryOut 182 = .ok (.invokevirtual 140, 3) := by decide +kernel
theorem dX5_carryOut_185 : decode cX5_carryOut 185 = .ok (.goto 45, 3) := by decide +kernel
theorem dX5_carryOut_188 : decode cX5_carryOut 188 = .ok (.aload_n 0, 1) := by decide +kernel
theorem dX5_carryOut_189 : decode cX5_carryOut 189 = .ok (.getfield 12, 3) := by decide +kernel
theorem dX5_carryOut_192 : decode cX5_carryOut 192 = .ok (.iload_n 2, 1) := by decide +kernel
theorem dX5_carryOut_193 : decode cX5_carryOut 193 = .ok (.iload_n 3, 1) := by decide +kernel
theorem dX5_carryOut_194 : decode cX5_carryOut 194 = .ok (.invokevirtual 363, 3) := by decide +kernel
theorem dX5_carryOut_197 : decode cX5_carryOut 197 = .ok (.goto 33, 3) := by decide +kernel
theorem dX5_carryOut_200 : decode cX5_carryOut 200 = .ok (.aload_n 0, 1) := by decide +kernel
theorem dX5_carryOut_201 : decode cX5_carryOut 201 = .ok (.getfield 12, 3) := by decide +kernel
theorem dX5_carryOut_204 : decode cX5_carryOut 204 = .ok (.dup, 1) := by decide +kernel
theorem dX5_carryOut_205 : decode cX5_carryOut 205 = .ok (.getfield 366, 3) := by decide +kernel
theorem dX5_carryOut_208 : decode cX5_carryOut 208 = .ok (.iconst 1, 1) := by decide +kernel
theorem dX5_carryOut_209 : decode cX5_carryOut 209 = .ok (.iload_n 2, 1) := by decide +kernel
theorem dX5_carryOut_210 : decode cX5_carryOut 210 = .ok (.ishl, 1) := by decide +kernel
theorem dX5_carryOut_211 : decode cX5_carryOut 211 = .ok (.ixor, 1) := by decide +kernel
theorem dX5_carryOut_212 : decode cX5_carryOut 212 = .ok (.putfield 366, 3) := by decide +kernel
theorem dX5_carryOut_215 : decode cX5_carryOut 215 = .ok (.goto 15, 3) := by decide +kernel
theorem dX5_carryOut_218 : decode cX5_carryOut 218 = .ok (.aload_n 0, 1) := by decide +kernel
theorem dX5_carryOut_219 : decode cX5_carryOut 219 = .ok (.getfield 12, 3) := by decide +kernel
theorem dX5_carryOut_222 : decode cX5_carryOut 222 = .ok (.iload_n 2, 1) := by decide +kernel
theorem dX5_carryOut_223 : decode cX5_carryOut 223 = .ok (.iload_n 3, 1) := by decide +kernel
theorem dX5_carryOut_224 : decode cX5_carryOut 224 = .ok (.invokevirtual 369, 3) := by decide +kernel
theorem dX5_carryOut_227 : decode cX5_carryOut 227 = .ok (.goto 3, 3) := by decide +kernel
theorem dX5_carryOut_230 : decode cX5_carryOut 230 = .ok (.return_, 1) := by decide +kernel
theorem dX5_carryOutAll_0 : decode cX5_carryOutAll 0 = .ok (.aload_n 0, 1) := by decide +kernel
theorem dX5_carryOutAll_1 : decode cX5_carryOutAll 1 = .ok (.getfield 16, 3) := by decide +kernel
theorem dX5_carryOutAll_4 : decode cX5_carryOutAll 4 = .ok (.aload_n 0, 1) := by decide +kernel
theorem dX5_carryOutAll_5 : decode cX5_carryOutAll 5 = .ok (.getfield 12, 3) := by decide +kernel
theorem dX5_carryOutAll_8 : decode cX5_carryOutAll 8 = .ok (.invokevirtual 306, 3) := by decide +kernel
theorem dX5_carryOutAll_11 : decode cX5_carryOutAll 11 = .ok (.iconst 0, 1) := by decide +kernel
theorem dX5_carryOutAll_12 : decode cX5_carryOutAll 12 = .ok (.istore_n 1, 1) := by decide +kernel
theorem dX5_carryOutAll_13 : decode cX5_carryOutAll 13 = .ok (.iload_n 1, 1) := by decide +kernel
theorem dX5_carryOutAll_14 : decode cX5_carryOutAll 14 = .ok (.aload_n 0, 1) := by decide +kernel
theorem dX5_carryOutAll_15 : decode cX5_carryOutAll 15 = .ok (.getfield 46, 3) := by decide +kernel
theorem dX5_carryOutAll_18 : decode cX5_carryOutAll 18 = .ok (.getfield 271, 3) := by decide +kernel
theorem dX5_carryOutAll_21 : decode cX5_carryOutAll 21 = .ok (.if_icmp .ge 83, 3) := by decide +kernel
theorem dX5_carryOutAll_24 : decode cX5_carryOutAll 24 = .ok (.aload_n 0, 1) := by decide +kernel
theorem dX5_carryOutAll_25 : decode cX5_carryOutAll 25 = .ok (.aload_n 0, 1) := by decide +kernel
theorem dX5_carryOutAll_26 : decode cX5_carryOutAll 26 = .ok (.getfield 46, 3) := by decide +kernel
theorem dX5_carryOutAll_29 : decode cX5_carryOutAll 29 = .ok (.iload_n 1, 1) := by decide +kernel
theorem dX5_carryOutAll_30 : decode cX5_carryOutAll 30 = .ok (.invokevirtual 372, 3) := by decide +kernel
theorem dX5_carryOutAll_33 : decode cX5_carryOutAll 33 = .ok (.aload_n 0, 1) := by decide +kernel
theorem dX5_carryOutAll_34 : decode cX5_carryOutAll 34 = .ok (.getfield 46, 3) := by decide +kernel
theorem dX5_carryOutAll_37 : decode cX5_carryOutAll 37 = .ok (.iload_n 1, 1) := by decide +kernel
theorem dX5_carryOutAll_38 : decode cX5_carryOutAll 38 = .ok (.invokevirtual 375, 3) := by decide +kernel
theorem dX5_carryOutAll_41 : decode cX5_carryOutAll 41 = .ok (.aload_n 0, 1) := by decide +kernel
theorem dX5_carryOutAll_42 : decode cX5_carryOutAll 42 = .ok (.getfield 46, 3) := by decide +kernel
theorem dX5_carryOutAll_45 : decode cX5_carryOutAll 45 = .ok (.iload_n 1, 1) := by decide +kernel
theorem dX5_carryOutAll_46 : decode cX5_carryOutAll 46 = .ok (.invokevirtual 378, 3) := by decide +kernel
theorem dX5_carryOutAll_49 : decode cX5_carryOutAll 49 = .ok (.invokevirtual 328, 3) := by decide +kernel
theorem dX5_carryOutAll_52 : decode cX5_carryOutAll 52 = .ok (.istore_n 2, 1) := by decide +kernel
theorem dX5_carryOutAll_53 : decode cX5_carryOutAll 53 = .ok (.iload_n 2, 1) := by decide +kernel
theorem dX5_carryOutAll_54 : decode cX5_carryOutAll 54 = .ok (.ifCond .eq 16, 3) := by decide +kernel
theorem dX5_carryOutAll_57 : decode cX5_carryOutAll 57 = .ok (.aload_n 0, 1) := by decide +kernel
theorem dX5_carryOutAll_58 : decode cX5_carryOutAll 58 = .ok (.getfield 12, 3) := by decide +kernel
theorem dX5_carryOutAll_61 : decode cX5_carryOutAll 61 = .ok (.aload_n 0, 1) := by decide +kernel
theorem dX5_carryOutAll_62 : decode cX5_carryOutAll 62 = .ok (.getfield 16, 3) := by decide +kernel
theorem dX5_carryOutAll_65 : decode cX5_carryOutAll 65 = .ok (.invokevirtual 306, 3) := by decide +kernel
theorem dX5_carryOutAll_68 : decode cX5_carryOutAll 68 = .ok (.iload_n 2, 1) := by decide +kernel
theorem dX5_carryOutAll_69 : decode cX5_carryOutAll 69 = .ok (.ireturn, 1) := by decide +kernel
theorem dX5_carryOutAll_70 : decode cX5_carryOutAll 70 = .ok (.aload_n 0, 1) := by decide +kernel
theorem dX5_carryOutAll_71 : decode cX5_carryOutAll 71 = .ok (.aload_n 0, 1) := by decide +kernel
theorem dX5_carryOutAll_72 : decode cX5_carryOutAll 72 = .ok (.getfield 46, 3) := by decide +kernel
theorem dX5_carryOutAll_75 : decode cX5_carryOutAll 75 = .ok (.iload_n 1, 1) := by decide +kernel
theorem dX5_carryOutAll_76 : decode cX5_carryOutAll 76 = .ok (.invokevirtual 372, 3) := by decide +kernel
theorem dX5_carryOutAll_79 : decode cX5_carryOutAll 79 = .ok (.aload_n 0, 1) := by decide +kernel
theorem dX5_carryOutAll_80 : decode cX5_carryOutAll 80 = .ok (.getfield 46, 3) := by decide +kernel
theorem dX5_carryOutAll_83 : decode cX5_carryOutAll 83 = .ok (.iload_n 1, 1) := by decide +kernel
theorem dX5_carryOutAll_84 : decode cX5_carryOutAll 84 = .ok (.invokevirtual 375, 3) := by decide +kernel
theorem dX5_carryOutAll_87 : decode cX5_carryOutAll 87 = .ok (.aload_n 0, 1) := by decide +kernel
theorem dX5_carryOutAll_88 : decode cX5_carryOutAll 88 = .ok (.getfield 46, 3) := by decide +kernel
theorem dX5_carryOutAll_91 : decode cX5_carryOutAll 91 = .ok (.iload_n 1, 1) := by decide +kernel
theorem dX5_carryOutAll_92 : decode cX5_carryOutAll 92 = .ok (.invokevirtual 378, 3) := by decide +kernel
theorem dX5_carryOutAll_95 : decode cX5_carryOutAll 95 = .ok (.invokevirtual 331, 3) := by decide +kernel
theorem dX5_carryOutAll_98 : decode cX5_carryOutAll 98 = .ok (.iinc 1 1, 3) := by decide +kernel
theorem dX5_carryOutAll_101 : decode cX5_carryOutAll 101 = .ok (.goto (-88), 3) := by decide +kernel
theorem dX5_carryOutAll_104 : decode cX5_carryOutAll 104 = .ok (.aload_n 0, 1) := by decide +kernel
theorem dX5_carryOutAll_105 : decode cX5_carryOutAll 105 = .ok (.getfield 25, 3) := by decide +kernel
theorem dX5_carryOutAll_108 : decode cX5_carryOutAll 108 = .ok (.aload_n 0, 1) := by decide +kernel
theorem dX5_carryOutAll_109 : decode cX5_carryOutAll 109 = .ok (.getfield 16, 3) := by decide +kernel
theorem dX5_carryOutAll_112 : decode cX5_carryOutAll 112 = .ok (.invokevirtual 134, 3) := by decide +kernel
theorem dX5_carryOutAll_115 : decode cX5_carryOutAll 115 = .ok (.iconst 0, 1) := by decide +kernel
theorem dX5_carryOutAll_116 : decode cX5_carryOutAll 116 = .ok (.ireturn, 1) := by decide +kernel
theorem dX5_fewestByHalves_0 : decode cX5_fewestByHalves 0 = .ok (.aload_n 0, 1) := by decide +kernel
theorem dX5_fewestByHalves_1 : decode cX5_fewestByHalves 1 = .ok (.getfield 32, 3) := by decide +kernel
theorem dX5_fewestByHalves_4 : decode cX5_fewestByHalves 4 = .ok (.aload_n 0, 1) := by decide +kernel
theorem dX5_fewestByHalves_5 : decode cX5_fewestByHalves 5 = .ok (.getfield 12, 3) := by decide +kernel
theorem dX5_fewestByHalves_8 : decode cX5_fewestByHalves 8 = .ok (.invokevirtual 120, 3) := by decide +kernel
theorem dX5_fewestByHalves_11 : decode cX5_fewestByHalves 11 = .ok (.aload_n 0, 1) := by decide +kernel
theorem dX5_fewestByHalves_12 : decode cX5_fewestByHalves 12 = .ok (.getfield 32, 3) := by decide +kernel
theorem dX5_fewestByHalves_15 : decode cX5_fewestByHalves 15 = .ok (.getfield 381, 3) := by decide +kernel
theorem dX5_fewestByHalves_18 : decode cX5_fewestByHalves 18 = .ok (.ireturn, 1) := by decide +kernel
theorem dX5_fewestByAll_0 : decode cX5_fewestByAll 0 = .ok (.aload_n 0, 1) := by decide +kernel
theorem dX5_fewestByAll_1 : decode cX5_fewestByAll 1 = .ok (.getfield 12, 3) := by decide +kernel
theorem dX5_fewestByAll_4 : decode cX5_fewestByAll 4 = .ok (.aload_n 0, 1) := by decide +kernel
theorem dX5_fewestByAll_5 : decode cX5_fewestByAll 5 = .ok (.getfield 12, 3) := by decide +kernel
theorem dX5_fewestByAll_8 : decode cX5_fewestByAll 8 = .ok (.getfield 83, 3) := by decide +kernel
theorem dX5_fewestByAll_11 : decode cX5_fewestByAll 11 = .ok (.iconst 0, 1) := by decide +kernel
theorem dX5_fewestByAll_12 : decode cX5_fewestByAll 12 = .ok (.invokestatic 384, 3) := by decide +kernel
theorem dX5_fewestByAll_15 : decode cX5_fewestByAll 15 = .ok (.ireturn, 1) := by decide +kernel
theorem dX5_fewestFrom_0 : decode cX5_fewestFrom 0 = .ok (.aload_n 0, 1) := by decide +kernel
theorem dX5_fewestFrom_1 : decode cX5_fewestFrom 1 = .ok (.lload_n 1, 1) := by decide +kernel
theorem dX5_fewestFrom_2 : decode cX5_fewestFrom 2 = .ok (.invokevirtual 388, 3) := by decide +kernel
theorem dX5_fewestFrom_5 : decode cX5_fewestFrom 5 = .ok (.ifCond .eq 5, 3) := by decide +kernel
theorem dX5_fewestFrom_8 : decode cX5_fewestFrom 8 = .ok (.iload_n 3, 1) := by decide +kernel
theorem dX5_fewestFrom_9 : decode cX5_fewestFrom 9 = .ok (.ireturn, 1) := by decide +kernel
theorem dX5_fewestFrom_10 : decode cX5_fewestFrom 10 = .ok (.iconst 4, 1) := by decide +kernel
theorem dX5_fewestFrom_11 : decode cX5_fewestFrom 11 = .ok (.istore 4, 2) := by decide +kernel
theorem dX5_fewestFrom_13 : decode cX5_fewestFrom 13 = .ok (.iload_n 3, 1) := by decide +kernel
theorem dX5_fewestFrom_14 : decode cX5_fewestFrom 14 = .ok (.iconst 3, 1) := by decide +kernel
theorem dX5_fewestFrom_15 : decode cX5_fewestFrom 15 = .ok (.if_icmp .lt 6, 3) := by decide +kernel
theorem dX5_fewestFrom_18 : decode cX5_fewestFrom 18 = .ok (.iload 4, 2) := by decide +kernel
theorem dX5_fewestFrom_20 : decode cX5_fewestFrom 20 = .ok (.ireturn, 1) := by decide +kernel
theorem dX5_fewestFrom_21 : decode cX5_fewestFrom 21 = .ok (.iconst 0, 1) := by decide +kernel
theorem dX5_fewestFrom_22 : decode cX5_fewestFrom 22 = .ok (.istore 5, 2) := by decide +kernel
theorem dX5_fewestFrom_24 : decode cX5_fewestFrom 24 = .ok (.iload 5, 2) := by decide +kernel
theorem dX5_fewestFrom_26 : decode cX5_fewestFrom 26 = .ok (.aload_n 0, 1) := by decide +kernel
theorem dX5_fewestFrom_27 : decode cX5_fewestFrom 27 = .ok (.invokevirtual 159, 3) := by decide +kernel
theorem dX5_fewestFrom_30 : decode cX5_fewestFrom 30 = .ok (.if_icmp .ge 39, 3) := by decide +kernel
theorem dX5_fewestFrom_33 : decode cX5_fewestFrom 33 = .ok (.aload_n 0, 1) := by decide +kernel
theorem dX5_fewestFrom_34 : decode cX5_fewestFrom 34 = .ok (.iload 5, 2) := by decide +kernel
theorem dX5_fewestFrom_36 : decode cX5_fewestFrom 36 = .ok (.invokevirtual 353, 3) := by decide +kernel
theorem dX5_fewestFrom_39 : decode cX5_fewestFrom 39 = .ok (.ifCond .eq 24, 3) := by decide +kernel
theorem dX5_fewestFrom_42 : decode cX5_fewestFrom 42 = .ok (.iload 4, 2) := by decide +kernel
theorem dX5_fewestFrom_44 : decode cX5_fewestFrom 44 = .ok (.aload_n 0, 1) := by decide +kernel
theorem dX5_fewestFrom_45 : decode cX5_fewestFrom 45 = .ok (.aload_n 0, 1) := by decide +kernel
theorem dX5_fewestFrom_46 : decode cX5_fewestFrom 46 = .ok (.lload_n 1, 1) := by decide +kernel
theorem dX5_fewestFrom_47 : decode cX5_fewestFrom 47 = .ok (.iload 5, 2) := by decide +kernel
theorem dX5_fewestFrom_49 : decode cX5_fewestFrom 49 = .ok (.invokevirtual 206, 3) := by decide +kernel
theorem dX5_fewestFrom_52 : decode cX5_fewestFrom 52 = .ok (.iload_n 3, 1) := by decide +kernel
theorem dX5_fewestFrom_53 : decode cX5_fewestFrom 53 = .ok (.iconst 1, 1) := by decide +kernel
theorem dX5_fewestFrom_54 : decode cX5_fewestFrom 54 = .ok (.iadd, 1) := by decide +kernel
theorem dX5_fewestFrom_55 : decode cX5_fewestFrom 55 = .ok (.invokestatic 384, 3) := by decide +kernel
theorem dX5_fewestFrom_58 : decode cX5_fewestFrom 58 = .ok (.invokestatic 391, 3) := by decide +kernel
theorem dX5_fewestFrom_61 : decode cX5_fewestFrom 61 = .ok (.istore 4, 2) := by decide +kernel
theorem dX5_fewestFrom_63 : decode cX5_fewestFrom 63 = .ok (.iinc 5 1, 3) := by decide +kernel
theorem dX5_fewestFrom_66 : decode cX5_fewestFrom 66 = .ok (.goto (-42), 3) := by decide +kernel
theorem dX5_fewestFrom_69 : decode cX5_fewestFrom 69 = .ok (.iload 4, 2) := by decide +kernel
theorem dX5_fewestFrom_71 : decode cX5_fewestFrom 71 = .ok (.ireturn, 1) := by decide +kernel
theorem dX5_writeAll_0 : decode cX5_writeAll 0 = .ok (.aload_n 0, 1) := by decide +kernel
theorem dX5_writeAll_1 : decode cX5_writeAll 1 = .ok (.getfield 39, 3) := by decide +kernel
theorem dX5_writeAll_4 : decode cX5_writeAll 4 = .ok (.invokevirtual 240, 3) := by decide +kernel
theorem dX5_writeAll_7 : decode cX5_writeAll 7 = .ok (.iconst 0, 1) := by decide +kernel
theorem dX5_writeAll_8 : decode cX5_writeAll 8 = .ok (.istore_n 3, 1) := by decide +kernel
theorem dX5_writeAll_9 : decode cX5_writeAll 9 = .ok (.iload_n 3, 1) := by decide +kernel
theorem dX5_writeAll_10 : decode cX5_writeAll 10 = .ok (.aload_n 0, 1) := by decide +kernel
theorem dX5_writeAll_11 : decode cX5_writeAll 11 = .ok (.getfield 12, 3) := by decide +kernel
theorem dX5_writeAll_14 : decode cX5_writeAll 14 = .ok (.invokevirtual 79, 3) := by decide +kernel
theorem dX5_writeAll_17 : decode cX5_writeAll 17 = .ok (.if_icmp .ge 48, 3) := by decide +kernel
theorem dX5_writeAll_20 : decode cX5_writeAll 20 = .ok (.iload_n 3, 1) := by decide +kernel
theorem dX5_writeAll_21 : decode cX5_writeAll 21 = .ok (.ifCond .le 23, 3) := by decide +kernel
theorem dX5_writeAll_24 : decode cX5_writeAll 24 = .ok (.aload_n 0, 1) := by decide +kernel
theorem dX5_writeAll_25 : decode cX5_writeAll 25 = .ok (.getfield 12, 3) := by decide +kernel
theorem dX5_writeAll_28 : decode cX5_writeAll 28 = .ok (.iload_n 3, 1) := by decide +kernel
theorem dX5_writeAll_29 : decode cX5_writeAll 29 = .ok (.invokevirtual 396, 3) := by decide +kernel
theorem dX5_writeAll_32 : decode cX5_writeAll 32 = .ok (.ifCond .ne 12, 3) := by decide +kernel
theorem dX5_writeAll_35 : decode cX5_writeAll 35 = .ok (.aload_n 0, 1) := by decide +kernel
theorem dX5_writeAll_36 : decode cX5_writeAll 36 = .ok (.getfield 39, 3) := by decide +kernel
theorem dX5_writeAll_39 : decode cX5_writeAll 39 = .ok (.bipush 47, 2) := by decide +kernel
theorem dX5_writeAll_41 : decode cX5_writeAll 41 = .ok (.invokevirtual 243, 3) := by decide +kernel
theorem dX5_writeAll_44 : decode cX5_writeAll 44 = .ok (.aload_n 0, 1) := by decide +kernel
theorem dX5_writeAll_45 : decode cX5_writeAll 45 = .ok (.getfield 39, 3) := by decide +kernel
theorem dX5_writeAll_48 : decode cX5_writeAll 48 = .ok (.lload_n 1, 1) := by decide +kernel
theorem dX5_writeAll_49 : decode cX5_writeAll 49 = .ok (.iload_n 3, 1) := by decide +kernel
theorem dX5_writeAll_50 : decode cX5_writeAll 50 = .ok (.invokestatic 91, 3) := by decide +kernel
theorem dX5_writeAll_53 : decode cX5_writeAll 53 = .ok (.invokestatic 95, 3) := by decide +kernel
theorem dX5_writeAll_56 : decode cX5_writeAll 56 = .ok (.invokevirtual 243, 3) := by decide +kernel
theorem dX5_writeAll_59 : decode cX5_writeAll 59 = .ok (.iinc 3 1, 3) := by decide +kernel
theorem dX5_writeAll_62 : decode cX5_writeAll 62 = .ok (.goto (-53), 3) := by decide +kernel
theorem dX5_writeAll_65 : decode cX5_writeAll 65 = .ok (.aload_n 0, 1) := by decide +kernel
theorem dX5_writeAll_66 : decode cX5_writeAll 66 = .ok (.getfield 39, 3) := by decide +kernel
theorem dX5_writeAll_69 : decode cX5_writeAll 69 = .ok (.getfield 253, 3) := by decide +kernel
theorem dX5_writeAll_72 : decode cX5_writeAll 72 = .ok (.ireturn, 1) := by decide +kernel
theorem dX5_isSide_0 : decode cX5_isSide 0 = .ok (.iload_n 0, 1) := by decide +kernel
theorem dX5_isSide_1 : decode cX5_isSide 1 = .ok (.iconst 2, 1) := by decide +kernel
theorem dX5_isSide_2 : decode cX5_isSide 2 = .ok (.if_icmp .lt 12, 3) := by decide +kernel
theorem dX5_isSide_5 : decode cX5_isSide 5 = .ok (.iload_n 0, 1) := by decide +kernel
theorem dX5_isSide_6 : decode cX5_isSide 6 = .ok (.iconst 3, 1) := by decide +kernel
theorem dX5_isSide_7 : decode cX5_isSide 7 = .ok (.if_icmp .gt 7, 3) := by decide +kernel
theorem dX5_isSide_10 : decode cX5_isSide 10 = .ok (.iconst 1, 1) := by decide +kernel
theorem dX5_isSide_11 : decode cX5_isSide 11 = .ok (.goto 4, 3) := by decide +kernel
theorem dX5_isSide_14 : decode cX5_isSide 14 = .ok (.iconst 0, 1) := by decide +kernel
theorem dX5_isSide_15 : decode cX5_isSide 15 = .ok (.ireturn, 1) := by decide +kernel
theorem dX5_codeOf_0 : decode cX5_codeOf 0 = .ok (.iload_n 0, 1) := by decide +kernel
theorem dX5_codeOf_1 : decode cX5_codeOf 1 = .ok (.bipush 46, 2) := by decide +kernel
theorem dX5_codeOf_3 : decode cX5_codeOf 3 = .ok (.if_icmp .ne 6, 3) := by decide +kernel
theorem dX5_codeOf_6 : decode cX5_codeOf 6 = .ok (.bipush 12, 2) := by decide +kernel
theorem dX5_codeOf_8 : decode cX5_codeOf 8 = .ok (.ireturn, 1) := by decide +kernel
theorem dX5_codeOf_9 : decode cX5_codeOf 9 = .ok (.iload_n 0, 1) := by decide +kernel
theorem dX5_codeOf_10 : decode cX5_codeOf 10 = .ok (.bipush 97, 2) := by decide +kernel
theorem dX5_codeOf_12 : decode cX5_codeOf 12 = .ok (.if_icmp .lt 16, 3) := by decide +kernel
theorem dX5_codeOf_15 : decode cX5_codeOf 15 = .ok (.iload_n 0, 1) := by decide +kernel
theorem dX5_codeOf_16 : decode cX5_codeOf 16 = .ok (.bipush 108, 2) := by decide +kernel
theorem dX5_codeOf_18 : decode cX5_codeOf 18 = .ok (.if_icmp .gt 10, 3) := by decide +kernel
theorem dX5_codeOf_21 : decode cX5_codeOf 21 = .ok (.iload_n 0, 1) := by decide +kernel
theorem dX5_codeOf_22 : decode cX5_codeOf 22 = .ok (.bipush 97, 2) := by decide +kernel
theorem dX5_codeOf_24 : decode cX5_codeOf 24 = .ok (.isub, 1) := by decide +kernel
theorem dX5_codeOf_25 : decode cX5_codeOf 25 = .ok (.goto 4, 3) := by decide +kernel
theorem dX5_codeOf_28 : decode cX5_codeOf 28 = .ok (.iconst (-1), 1) := by decide +kernel
theorem dX5_codeOf_29 : decode cX5_codeOf 29 = .ok (.ireturn, 1) := by decide +kernel
theorem dX5_signOf_0 : decode cX5_signOf 0 = .ok (.iload_n 0, 1) := by decide +kernel
theorem dX5_signOf_1 : decode cX5_signOf 1 = .ok (.bipush 12, 2) := by decide +kernel
theorem dX5_signOf_3 : decode cX5_signOf 3 = .ok (.if_icmp .ne 8, 3) := by decide +kernel
theorem dX5_signOf_6 : decode cX5_signOf 6 = .ok (.bipush 46, 2) := by decide +kernel
theorem dX5_signOf_8 : decode cX5_signOf 8 = .ok (.goto 8, 3) := by decide +kernel
theorem dX5_signOf_11 : decode cX5_signOf 11 = .ok (.bipush 97, 2) := by decide +kernel
theorem dX5_signOf_13 : decode cX5_signOf 13 = .ok (.iload_n 0, 1) := by decide +kernel
theorem dX5_signOf_14 : decode cX5_signOf 14 = .ok (.iadd, 1) := by decide +kernel
theorem dX5_signOf_15 : decode cX5_signOf 15 = .ok (.i2c, 1) := by decide +kernel
theorem dX5_signOf_16 : decode cX5_signOf 16 = .ok (.ireturn, 1) := by decide +kernel
theorem dX5_isVowel_0 : decode cX5_isVowel 0 = .ok (.iload_n 0, 1) := by decide +kernel
theorem dX5_isVowel_1 : decode cX5_isVowel 1 = .ok (.bipush 97, 2) := by decide +kernel
theorem dX5_isVowel_3 : decode cX5_isVowel 3 = .ok (.if_icmp .eq 27, 3) := by decide +kernel
theorem dX5_isVowel_6 : decode cX5_isVowel 6 = .ok (.iload_n 0, 1) := by decide +kernel
theorem dX5_isVowel_7 : decode cX5_isVowel 7 = .ok (.bipush 101, 2) := by decide +kernel
theorem dX5_isVowel_9 : decode cX5_isVowel 9 = .ok (.if_icmp .eq 21, 3) := by decide +kernel
theorem dX5_isVowel_12 : decode cX5_isVowel 12 = .ok (.iload_n 0, 1) := by decide +kernel
theorem dX5_isVowel_13 : decode cX5_isVowel 13 = .ok (.bipush 105, 2) := by decide +kernel
theorem dX5_isVowel_15 : decode cX5_isVowel 15 = .ok (.if_icmp .eq 15, 3) := by decide +kernel
theorem dX5_isVowel_18 : decode cX5_isVowel 18 = .ok (.iload_n 0, 1) := by decide +kernel
theorem dX5_isVowel_19 : decode cX5_isVowel 19 = .ok (.bipush 111, 2) := by decide +kernel
theorem dX5_isVowel_21 : decode cX5_isVowel 21 = .ok (.if_icmp .eq 9, 3) := by decide +kernel
theorem dX5_isVowel_24 : decode cX5_isVowel 24 = .ok (.iload_n 0, 1) := by decide +kernel
theorem dX5_isVowel_25 : decode cX5_isVowel 25 = .ok (.bipush 117, 2) := by decide +kernel
theorem dX5_isVowel_27 : decode cX5_isVowel 27 = .ok (.if_icmp .ne 7, 3) := by decide +kernel
theorem dX5_isVowel_30 : decode cX5_isVowel 30 = .ok (.iconst 1, 1) := by decide +kernel
theorem dX5_isVowel_31 : decode cX5_isVowel 31 = .ok (.goto 4, 3) := by decide +kernel
theorem dX5_isVowel_34 : decode cX5_isVowel 34 = .ok (.iconst 0, 1) := by decide +kernel
theorem dX5_isVowel_35 : decode cX5_isVowel 35 = .ok (.ireturn, 1) := by decide +kernel
theorem dX5_codeAt_0 : decode cX5_codeAt 0 = .ok (.lload_n 0, 1) := by decide +kernel
theorem dX5_codeAt_1 : decode cX5_codeAt 1 = .ok (.iconst 4, 1) := by decide +kernel
theorem dX5_codeAt_2 : decode cX5_codeAt 2 = .ok (.iload_n 2, 1) := by decide +kernel
theorem dX5_codeAt_3 : decode cX5_codeAt 3 = .ok (.imul, 1) := by decide +kernel
theorem dX5_codeAt_4 : decode cX5_codeAt 4 = .ok (.lushr, 1) := by decide +kernel
theorem dX5_codeAt_5 : decode cX5_codeAt 5 = .ok (.ldc2_w 399, 3) := by decide +kernel
theorem dX5_codeAt_8 : decode cX5_codeAt 8 = .ok (.land, 1) := by decide +kernel
theorem dX5_codeAt_9 : decode cX5_codeAt 9 = .ok (.l2i, 1) := by decide +kernel
theorem dX5_codeAt_10 : decode cX5_codeAt 10 = .ok (.ireturn, 1) := by decide +kernel
theorem dX5_withCode_0 : decode cX5_withCode 0 = .ok (.lload_n 0, 1) := by decide +kernel
theorem dX5_withCode_1 : decode cX5_withCode 1 = .ok (.ldc2_w 399, 3) := by decide +kernel
theorem dX5_withCode_4 : decode cX5_withCode 4 = .ok (.iconst 4, 1) := by decide +kernel
theorem dX5_withCode_5 : decode cX5_withCode 5 = .ok (.iload_n 2, 1) := by decide +kernel
theorem dX5_withCode_6 : decode cX5_withCode 6 = .ok (.imul, 1) := by decide +kernel
theorem dX5_withCode_7 : decode cX5_withCode 7 = .ok (.lshl, 1) := by decide +kernel
theorem dX5_withCode_8 : decode cX5_withCode 8 = .ok (.ldc2_w 401, 3) := by decide +kernel
theorem dX5_withCode_11 : decode cX5_withCode 11 = .ok (.lxor, 1) := by decide +kernel
theorem dX5_withCode_12 : decode cX5_withCode 12 = .ok (.land, 1) := by decide +kernel
theorem dX5_withCode_13 : decode cX5_withCode 13 = .ok (.lstore 4, 2) := by decide +kernel
theorem dX5_withCode_15 : decode cX5_withCode 15 = .ok (.lload 4, 2) := by decide +kernel
theorem dX5_withCode_17 : decode cX5_withCode 17 = .ok (.iload_n 3, 1) := by decide +kernel
theorem dX5_withCode_18 : decode cX5_withCode 18 = .ok (.i2l, 1) := by decide +kernel
theorem dX5_withCode_19 : decode cX5_withCode 19 = .ok (.iconst 4, 1) := by decide +kernel
theorem dX5_withCode_20 : decode cX5_withCode 20 = .ok (.iload_n 2, 1) := by decide +kernel
theorem dX5_withCode_21 : decode cX5_withCode 21 = .ok (.imul, 1) := by decide +kernel
theorem dX5_withCode_22 : decode cX5_withCode 22 = .ok (.lshl, 1) := by decide +kernel
theorem dX5_withCode_23 : decode cX5_withCode 23 = .ok (.lor, 1) := by decide +kernel
theorem dX5_withCode_24 : decode cX5_withCode 24 = .ok (.lreturn, 1) := by decide +kernel
