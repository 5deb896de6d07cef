theorem dX6_init_0 : decode cX6_init 0 = .ok (.aload_n 0, 1) := by decide +kernel
theorem dX6_init_1 : decode cX6_init 1 = .ok (.invokespecial 1, 3) := by decide +kernel
theorem dX6_init_4 : decode cX6_init 4 = .ok (.aload_n 0, 1) := by decide +kernel
theorem dX6_init_5 : decode cX6_init 5 = .ok (.bipush 32, 2) := by decide +kernel
theorem dX6_init_7 : decode cX6_init 7 = .ok (.newarray .int, 2) := by decide +kernel
theorem dX6_init_9 : decode cX6_init 9 = .ok (.putfield 7, 3) := by decide +kernel
theorem dX6_init_12 : decode cX6_init 12 = .ok (.aload_n 0, 1) := by decide +kernel
theorem dX6_init_13 : decode cX6_init 13 = .ok (.bipush 32, 2) := by decide +kernel
theorem dX6_init_15 : decode cX6_init 15 = .ok (.newarray .int, 2) := by decide +kernel
theorem dX6_init_17 : decode cX6_init 17 = .ok (.putfield 13, 3) := by decide +kernel
theorem dX6_init_20 : decode cX6_init 20 = .ok (.aload_n 0, 1) := by decide +kernel
theorem dX6_init_21 : decode cX6_init 21 = .ok (.sipush 256, 3) := by decide +kernel
theorem dX6_init_24 : decode cX6_init 24 = .ok (.newarray .int, 2) := by decide +kernel
theorem dX6_init_26 : decode cX6_init 26 = .ok (.putfield 16, 3) := by decide +kernel
theorem dX6_init_29 : decode cX6_init 29 = .ok (.aload_n 0, 1) := by decide +kernel
theorem dX6_init_30 : decode cX6_init 30 = .ok (.bipush 32, 2) := by decide +kernel
theorem dX6_init_32 : decode cX6_init 32 = .ok (.newarray .int, 2) := by decide +kernel
theorem dX6_init_34 : decode cX6_init 34 = .ok (.putfield 19, 3) := by decide +kernel
theorem dX6_init_37 : decode cX6_init 37 = .ok (.aload_n 0, 1) := by decide +kernel
theorem dX6_init_38 : decode cX6_init 38 = .ok (.bipush 60, 2) := by decide +kernel
theorem dX6_init_40 : decode cX6_init 40 = .ok (.newarray .char, 2) := by decide +kernel
theorem dX6_init_42 : decode cX6_init 42 = .ok (.putfield 22, 3) := by decide +kernel
theorem dX6_init_45 : decode cX6_init 45 = .ok (.aload_n 0, 1) := by decide +kernel
theorem dX6_init_46 : decode cX6_init 46 = .ok (.iconst (-1), 1) := by decide +kernel
theorem dX6_init_47 : decode cX6_init 47 = .ok (.putfield 26, 3) := by decide +kernel
theorem dX6_init_50 : decode cX6_init 50 = .ok (.aload_n 0, 1) := by decide +kernel
theorem dX6_init_51 : decode cX6_init 51 = .ok (.bipush 20, 2) := by decide +kernel
theorem dX6_init_53 : decode cX6_init 53 = .ok (.newarray .char, 2) := by decide +kernel
theorem dX6_init_55 : decode cX6_init 55 = .ok (.putfield 30, 3) := by decide +kernel
theorem dX6_init_58 : decode cX6_init 58 = .ok (.aload_n 0, 1) := by decide +kernel
theorem dX6_init_59 : decode cX6_init 59 = .ok (.bipush 9, 2) := by decide +kernel
theorem dX6_init_61 : decode cX6_init 61 = .ok (.newarray .int, 2) := by decide +kernel
theorem dX6_init_63 : decode cX6_init 63 = .ok (.putfield 33, 3) := by decide +kernel
theorem dX6_init_66 : decode cX6_init 66 = .ok (.aload_n 0, 1) := by decide +kernel
theorem dX6_init_67 : decode cX6_init 67 = .ok (.bipush 9, 2) := by decide +kernel
theorem dX6_init_69 : decode cX6_init 69 = .ok (.newarray .int, 2) := by decide +kernel
theorem dX6_init_71 : decode cX6_init 71 = .ok (.putfield 36, 3) := by decide +kernel
theorem dX6_init_74 : decode cX6_init 74 = .ok (.aload_n 0, 1) := by decide +kernel
theorem dX6_init_75 : decode cX6_init 75 = .ok (.sipush 180, 3) := by decide +kernel
theorem dX6_init_78 : decode cX6_init 78 = .ok (.newarray .int, 2) := by decide +kernel
theorem dX6_init_80 : decode cX6_init 80 = .ok (.putfield 39, 3) := by decide +kernel
theorem dX6_init_83 : decode cX6_init 83 = .ok (.aload_n 0, 1) := by decide +kernel
theorem dX6_init_84 : decode cX6_init 84 = .ok (.iconst 3, 1) := by decide +kernel
theorem dX6_init_85 : decode cX6_init 85 = .ok (.iconst 3, 1) := by decide +kernel
theorem dX6_init_86 : decode cX6_init 86 = .ok (.invokevirtual 42, 3) := by decide +kernel
theorem dX6_init_89 : decode cX6_init 89 = .ok (.return_, 1) := by decide +kernel
theorem dX6_thrown_0 : decode cX6_thrown 0 = .ok (.aload_n 0, 1) := by decide +kernel
theorem dX6_thrown_1 : decode cX6_thrown 1 = .ok (.getfield 46, 3) := by decide +kernel
theorem dX6_thrown_4 : decode cX6_thrown 4 = .ok (.ireturn, 1) := by decide +kernel
theorem dX6_in_0 : decode cX6_in 0 = .ok (.iload_n 0, 1) := by decide +kernel
theorem dX6_in_1 : decode cX6_in 1 = .ok (.iload_n 1, 1) := by decide +kernel
theorem dX6_in_2 : decode cX6_in 2 = .ok (.if_icmp .lt 12, 3) := by decide +kernel
theorem dX6_in_5 : decode cX6_in 5 = .ok (.iload_n 0, 1) := by decide +kernel
theorem dX6_in_6 : decode cX6_in 6 = .ok (.iload_n 2, 1) := by decide +kernel
theorem dX6_in_7 : decode cX6_in 7 = .ok (.if_icmp .gt 7, 3) := by decide +kernel
theorem dX6_in_10 : decode cX6_in 10 = .ok (.iconst 1, 1) := by decide +kernel
theorem dX6_in_11 : decode cX6_in 11 = .ok (.goto 4, 3) := by decide +kernel
theorem dX6_in_14 : decode cX6_in 14 = .ok (.iconst 0, 1) := by decide +kernel
theorem dX6_in_15 : decode cX6_in 15 = .ok (.ireturn, 1) := by decide +kernel
theorem dX6_done_0 : decode cX6_done 0 = .ok (.aload_n 0, 1) := by decide +kernel
theorem dX6_done_1 : decode cX6_done 1 = .ok (.iconst 0, 1) := by decide +kernel
theorem dX6_done_2 : decode cX6_done 2 = .ok (.putfield 46, 3) := by decide +kernel
theorem dX6_done_5 : decode cX6_done 5 = .ok (.iload_n 1, 1) := by decide +kernel
theorem dX6_done_6 : decode cX6_done 6 = .ok (.ireturn, 1) := by decide +kernel
theorem dX6_fails_0 : decode cX6_fails 0 = .ok (.aload_n 0, 1) := by decide +kernel
theorem dX6_fails_1 : decode cX6_fails 1 = .ok (.iload_n 1, 1) := by decide +kernel
theorem dX6_fails_2 : decode cX6_fails 2 = .ok (.putfield 46, 3) := by decide +kernel
theorem dX6_fails_5 : decode cX6_fails 5 = .ok (.aload_n 0, 1) := by decide +kernel
theorem dX6_fails_6 : decode cX6_fails 6 = .ok (.iconst 0, 1) := by decide +kernel
theorem dX6_fails_7 : decode cX6_fails 7 = .ok (.putfield 49, 3) := by decide +kernel
theorem dX6_fails_10 : decode cX6_fails 10 = .ok (.iconst 0, 1) := by decide +kernel
theorem dX6_fails_11 : decode cX6_fails 11 = .ok (.ireturn, 1) := by decide +kernel
theorem dX6_refused_0 : decode cX6_refused 0 = .ok (.aload_n 0, 1) := by decide +kernel
theorem dX6_refused_1 : decode cX6_refused 1 = .ok (.iload_n 1, 1) := by decide +kernel
theorem dX6_refused_2 : decode cX6_refused 2 = .ok (.putfield 53, 3) := by decide +kernel
theorem dX6_refused_5 : decode cX6_refused 5 = .ok (.aload_n 0, 1) := by decide +kernel
theorem dX6_refused_6 : decode cX6_refused 6 = .ok (.iload_n 2, 1) := by decide +kernel
theorem dX6_refused_7 : decode cX6_refused 7 = .ok (.putfield 56, 3) := by decide +kernel
theorem dX6_refused_10 : decode cX6_refused 10 = .ok (.aload_n 0, 1) := by decide +kernel
theorem dX6_refused_11 : decode cX6_refused 11 = .ok (.iload_n 3, 1) := by decide +kernel
theorem dX6_refused_12 : decode cX6_refused 12 = .ok (.putfield 46, 3) := by decide +kernel
theorem dX6_refused_15 : decode cX6_refused 15 = .ok (.aload_n 0, 1) := by decide +kernel
theorem dX6_refused_16 : decode cX6_refused 16 = .ok (.iconst 1, 1) := by decide +kernel
theorem dX6_refused_17 : decode cX6_refused 17 = .ok (.putfield 49, 3) := by decide +kernel
theorem dX6_refused_20 : decode cX6_refused 20 = .ok (.iconst 0, 1) := by decide +kernel
theorem dX6_refused_21 : decode cX6_refused 21 = .ok (.ireturn, 1) := by decide +kernel
theorem dX6_copy_0 : decode cX6_copy 0 = .ok (.iconst 0, 1) := by decide +kernel
theorem dX6_copy_1 : decode cX6_copy 1 = .ok (.istore 4, 2) := by decide +kernel
theorem dX6_copy_3 : decode cX6_copy 3 = .ok (.iload 4, 2) := by decide +kernel
theorem dX6_copy_5 : decode cX6_copy 5 = .ok (.bipush 32, 2) := by decide +kernel
theorem dX6_copy_7 : decode cX6_copy 7 = .ok (.if_icmp .ge 21, 3) := by decide +kernel
theorem dX6_copy_10 : decode cX6_copy 10 = .ok (.aload_n 2, 1) := by decide +kernel
theorem dX6_copy_11 : decode cX6_copy 11 = .ok (.iload_n 3, 1) := by decide +kernel
theorem dX6_copy_12 : decode cX6_copy 12 = .ok (.iload 4, 2) := by decide +kernel
theorem dX6_copy_14 : decode cX6_copy 14 = .ok (.iadd, 1) := by decide +kernel
theorem dX6_copy_15 : decode cX6_copy 15 = .ok (.aload_n 0, 1) := by decide +kernel
theorem dX6_copy_16 : decode cX6_copy 16 = .ok (.iload_n 1, 1) := by decide +kernel
theorem dX6_copy_17 : decode cX6_copy 17 = .ok (.iload 4, 2) := by decide +kernel
theorem dX6_copy_19 : decode cX6_copy 19 = .ok (.iadd, 1) := by decide +kernel
theorem dX6_copy_20 : decode cX6_copy 20 = .ok (.iaload, 1) := by decide +kernel
theorem dX6_copy_21 : decode cX6_copy 21 = .ok (.iastore, 1) := by decide +kernel
theorem dX6_copy_22 : decode cX6_copy 22 = .ok (.iinc 4 1, 3) := by decide +kernel
theorem dX6_copy_25 : decode cX6_copy 25 = .ok (.goto (-22), 3) := by decide +kernel
theorem dX6_copy_28 : decode cX6_copy 28 = .ok (.return_, 1) := by decide +kernel
theorem dX6_looksBack_0 : decode cX6_looksBack 0 = .ok (.aload_n 0, 1) := by decide +kernel
theorem dX6_looksBack_1 : decode cX6_looksBack 1 = .ok (.getfield 7, 3) := by decide +kernel
theorem dX6_looksBack_4 : decode cX6_looksBack 4 = .ok (.iconst 0, 1) := by decide +kernel
theorem dX6_looksBack_5 : decode cX6_looksBack 5 = .ok (.aload_n 0, 1) := by decide +kernel
theorem dX6_looksBack_6 : decode cX6_looksBack 6 = .ok (.getfield 13, 3) := by decide +kernel
theorem dX6_looksBack_9 : decode cX6_looksBack 9 = .ok (.iconst 0, 1) := by decide +kernel
theorem dX6_looksBack_10 : decode cX6_looksBack 10 = .ok (.invokestatic 59, 3) := by decide +kernel
theorem dX6_looksBack_13 : decode cX6_looksBack 13 = .ok (.return_, 1) := by decide +kernel
theorem dX6_kept_0 : decode cX6_kept 0 = .ok (.aload_n 0, 1) := by decide +kernel
theorem dX6_kept_1 : decode cX6_kept 1 = .ok (.getfield 46, 3) := by decide +kernel
theorem dX6_kept_4 : decode cX6_kept 4 = .ok (.ifCond .eq 18, 3) := by decide +kernel
theorem dX6_kept_7 : decode cX6_kept 7 = .ok (.aload_n 0, 1) := by decide +kernel
theorem dX6_kept_8 : decode cX6_kept 8 = .ok (.getfield 13, 3) := by decide +kernel
theorem dX6_kept_11 : decode cX6_kept 11 = .ok (.iconst 0, 1) := by decide +kernel
theorem dX6_kept_12 : decode cX6_kept 12 = .ok (.aload_n 0, 1) := by decide +kernel
theorem dX6_kept_13 : decode cX6_kept 13 = .ok (.getfield 7, 3) := by decide +kernel
theorem dX6_kept_16 : decode cX6_kept 16 = .ok (.iconst 0, 1) := by decide +kernel
theorem dX6_kept_17 : decode cX6_kept 17 = .ok (.invokestatic 59, 3) := by decide +kernel
theorem dX6_kept_20 : decode cX6_kept 20 = .ok (.iconst 0, 1) := by decide +kernel
theorem dX6_kept_21 : decode cX6_kept 21 = .ok (.ireturn, 1) := by decide +kernel
theorem dX6_kept_22 : decode cX6_kept 22 = .ok (.aload_n 0, 1) := by decide +kernel
theorem dX6_kept_23 : decode cX6_kept 23 = .ok (.getfield 63, 3) := by decide +kernel
theorem dX6_kept_26 : decode cX6_kept 26 = .ok (.bipush 8, 2) := by decide +kernel
theorem dX6_kept_28 : decode cX6_kept 28 = .ok (.if_icmp .ne 43, 3) := by decide +kernel
theorem dX6_kept_31 : decode cX6_kept 31 = .ok (.iconst 0, 1) := by decide +kernel
theorem dX6_kept_32 : decode cX6_kept 32 = .ok (.istore_n 2, 1) := by decide +kernel
theorem dX6_kept_33 : decode cX6_kept 33 = .ok (.iload_n 2, 1) := by decide +kernel
theorem dX6_kept_34 : decode cX6_kept 34 = .ok (.sipush 224, 3) := by decide +kernel
theorem dX6_kept_37 : decode cX6_kept 37 = .ok (.if_icmp .ge 24, 3) := by decide +kernel
theorem dX6_kept_40 : decode cX6_kept 40 = .ok (.aload_n 0, 1) := by decide +kernel
theorem dX6_kept_41 : decode cX6_kept 41 = .ok (.getfield 16, 3) := by decide +kernel
theorem dX6_kept_44 : decode cX6_kept 44 = .ok (.iload_n 2, 1) := by decide +kernel
theorem dX6_kept_45 : decode cX6_kept 45 = .ok (.aload_n 0, 1) := by decide +kernel
theorem dX6_kept_46 : decode cX6_kept 46 = .ok (.getfield 16, 3) := by decide +kernel
theorem dX6_kept_49 : decode cX6_kept 49 = .ok (.iload_n 2, 1) := by decide +kernel
theorem dX6_kept_50 : decode cX6_kept 50 = .ok (.bipush 32, 2) := by decide +kernel
theorem dX6_kept_52 : decode cX6_kept 52 = .ok (.iadd, 1) := by decide +kernel
theorem dX6_kept_53 : decode cX6_kept 53 = .ok (.iaload, 1) := by decide +kernel
theorem dX6_kept_54 : decode cX6_kept 54 = .ok (.iastore, 1) := by decide +kernel
theorem dX6_kept_55 : decode cX6_kept 55 = .ok (.iinc 2 1, 3) := by decide +kernel
theorem dX6_kept_58 : decode cX6_kept 58 = .ok (.goto (-25), 3) := by decide +kernel
theorem dX6_kept_61 : decode cX6_kept 61 = .ok (.aload_n 0, 1) := by decide +kernel
theorem dX6_kept_62 : decode cX6_kept 62 = .ok (.dup, 1) := by decide +kernel
theorem dX6_kept_63 : decode cX6_kept 63 = .ok (.getfield 63, 3) := by decide +kernel
theorem dX6_kept_66 : decode cX6_kept 66 = .ok (.iconst 1, 1) := by decide +kernel
theorem dX6_kept_67 : decode cX6_kept 67 = .ok (.isub, 1) := by decide +kernel
theorem dX6_kept_68 : decode cX6_kept 68 = .ok (.putfield 63, 3) := by decide +kernel
theorem dX6_kept_71 : decode cX6_kept 71 = .ok (.aload_n 0, 1) := by decide +kernel
theorem dX6_kept_72 : decode cX6_kept 72 = .ok (.getfield 13, 3) := by decide +kernel
theorem dX6_kept_75 : decode cX6_kept 75 = .ok (.iconst 0, 1) := by decide +kernel
theorem dX6_kept_76 : decode cX6_kept 76 = .ok (.aload_n 0, 1) := by decide +kernel
theorem dX6_kept_77 : decode cX6_kept 77 = .ok (.getfield 16, 3) := by decide +kernel
theorem dX6_kept_80 : decode cX6_kept 80 = .ok (.aload_n 0, 1) := by decide +kernel
theorem dX6_kept_81 : decode cX6_kept 81 = .ok (.getfield 63, 3) := by decide +kernel
theorem dX6_kept_84 : decode cX6_kept 84 = .ok (.bipush 32, 2) := by decide +kernel
theorem dX6_kept_86 : decode cX6_kept 86 = .ok (.imul, 1) := by decide +kernel
theorem dX6_kept_87 : decode cX6_kept 87 = .ok (.invokestatic 59, 3) := by decide +kernel
theorem dX6_kept_90 : decode cX6_kept 90 = .ok (.aload_n 0, 1) := by decide +kernel
theorem dX6_kept_91 : decode cX6_kept 91 = .ok (.dup, 1) := by decide +kernel
theorem dX6_kept_92 : decode cX6_kept 92 = .ok (.getfield 63, 3) := by decide +kernel
theorem dX6_kept_95 : decode cX6_kept 95 = .ok (.iconst 1, 1) := by decide +kernel
theorem dX6_kept_96 : decode cX6_kept 96 = .ok (.iadd, 1) := by decide +kernel
theorem dX6_kept_97 : decode cX6_kept 97 = .ok (.putfield 63, 3) := by decide +kernel
theorem dX6_kept_100 : decode cX6_kept 100 = .ok (.iload_n 1, 1) := by decide +kernel
theorem dX6_kept_101 : decode cX6_kept 101 = .ok (.ireturn, 1) := by decide +kernel
theorem dX6_places_0 : decode cX6_places 0 = .ok (.aload_n 0, 1) := by decide +kernel
theorem dX6_places_1 : decode cX6_places 1 = .ok (.getfield 7, 3) := by decide +kernel
theorem dX6_places_4 : decode cX6_places 4 = .ok (.iconst 0, 1) := by decide +kernel
theorem dX6_places_5 : decode cX6_places 5 = .ok (.iaload, 1) := by decide +kernel
theorem dX6_places_6 : decode cX6_places 6 = .ok (.aload_n 0, 1) := by decide +kernel
theorem dX6_places_7 : decode cX6_places 7 = .ok (.getfield 7, 3) := by decide +kernel
theorem dX6_places_10 : decode cX6_places 10 = .ok (.iconst 1, 1) := by decide +kernel
theorem dX6_places_11 : decode cX6_places 11 = .ok (.iaload, 1) := by decide +kernel
theorem dX6_places_12 : decode cX6_places 12 = .ok (.imul, 1) := by decide +kernel
theorem dX6_places_13 : decode cX6_places 13 = .ok (.ireturn, 1) := by decide +kernel
theorem dX6_lines_0 : decode cX6_lines 0 = .ok (.aload_n 0, 1) := by decide +kernel
theorem dX6_lines_1 : decode cX6_lines 1 = .ok (.getfield 7, 3) := by decide +kernel
theorem dX6_lines_4 : decode cX6_lines 4 = .ok (.iconst 0, 1) := by decide +kernel
theorem dX6_lines_5 : decode cX6_lines 5 = .ok (.iaload, 1) := by decide +kernel
theorem dX6_lines_6 : decode cX6_lines 6 = .ok (.aload_n 0, 1) := by decide +kernel
theorem dX6_lines_7 : decode cX6_lines 7 = .ok (.getfield 7, 3) := by decide +kernel
theorem dX6_lines_10 : decode cX6_lines 10 = .ok (.iconst 1, 1) := by decide +kernel
theorem dX6_lines_11 : decode cX6_lines 11 = .ok (.iaload, 1) := by decide +kernel
theorem dX6_lines_12 : decode cX6_lines 12 = .ok (.iadd, 1) := by decide +kernel
theorem dX6_lines_13 : decode cX6_lines 13 = .ok (.ireturn, 1) := by decide +kernel
theorem dX6_isPlace_0 : decode cX6_isPlace 0 = .ok (.iload_n 1, 1) := by decide +kernel
theorem dX6_isPlace_1 : decode cX6_isPlace 1 = .ok (.iconst 0, 1) := by decide +kernel
theorem dX6_isPlace_2 : decode cX6_isPlace 2 = .ok (.aload_n 0, 1) := by decide +kernel
theorem dX6_isPlace_3 : decode cX6_isPlace 3 = .ok (.invokevirtual 66, 3) := by decide +kernel
theorem dX6_isPlace_6 : decode cX6_isPlace 6 = .ok (.iconst 1, 1) := by decide +kernel
theorem dX6_isPlace_7 : decode cX6_isPlace 7 = .ok (.isub, 1) := by decide +kernel
theorem dX6_isPlace_8 : decode cX6_isPlace 8 = .ok (.invokestatic 70, 3) := by decide +kernel
theorem dX6_isPlace_11 : decode cX6_isPlace 11 = .ok (.ireturn, 1) := by decide +kernel
theorem dX6_isLine_0 : decode cX6_isLine 0 = .ok (.iload_n 1, 1) := by decide +kernel
theorem dX6_isLine_1 : decode cX6_isLine 1 = .ok (.iconst 0, 1) := by decide +kernel
theorem dX6_isLine_2 : decode cX6_isLine 2 = .ok (.aload_n 0, 1) := by decide +kernel
theorem dX6_isLine_3 : decode cX6_isLine 3 = .ok (.invokevirtual 74, 3) := by decide +kernel
theorem dX6_isLine_6 : decode cX6_isLine 6 = .ok (.iconst 1, 1) := by decide +kernel
theorem dX6_isLine_7 : decode cX6_isLine 7 = .ok (.isub, 1) := by decide +kernel
theorem dX6_isLine_8 : decode cX6_isLine 8 = .ok (.invokestatic 70, 3) := by decide +kernel
theorem dX6_isLine_11 : decode cX6_isLine 11 = .ok (.ireturn, 1) := by decide +kernel
theorem dX6_isTurn_0 : decode cX6_isTurn 0 = .ok (.iload_n 1, 1) := by decide +kernel
theorem dX6_isTurn_1 : decode cX6_isTurn 1 = .ok (.iconst 0, 1) := by decide +kernel
theorem dX6_isTurn_2 : decode cX6_isTurn 2 = .ok (.iconst 2, 1) := by decide +kernel
theorem dX6_isTurn_3 : decode cX6_isTurn 3 = .ok (.aload_n 0, 1) := by decide +kernel
theorem dX6_isTurn_4 : decode cX6_isTurn 4 = .ok (.invokevirtual 74, 3) := by decide +kernel
theorem dX6_isTurn_7 : decode cX6_isTurn 7 = .ok (.imul, 1) := by decide +kernel
theorem dX6_isTurn_8 : decode cX6_isTurn 8 = .ok (.iconst 1, 1) := by decide +kernel
theorem dX6_isTurn_9 : decode cX6_isTurn 9 = .ok (.isub, 1) := by decide +kernel
theorem dX6_isTurn_10 : decode cX6_isTurn 10 = .ok (.invokestatic 70, 3) := by decide +kernel
theorem dX6_isTurn_13 : decode cX6_isTurn 13 = .ok (.ireturn, 1) := by decide +kernel
theorem dX6_lays_0 : decode cX6_lays 0 = .ok (.aload_n 0, 1) := by decide +kernel
theorem dX6_lays_1 : decode cX6_lays 1 = .ok (.getfield 7, 3) := by decide +kernel
theorem dX6_lays_4 : decode cX6_lays 4 = .ok (.iconst 0, 1) := by decide +kernel
theorem dX6_lays_5 : decode cX6_lays 5 = .ok (.iload_n 1, 1) := by decide +kernel
theorem dX6_lays_6 : decode cX6_lays 6 = .ok (.iastore, 1) := by decide +kernel
theorem dX6_lays_7 : decode cX6_lays 7 = .ok (.aload_n 0, 1) := by decide +kernel
theorem dX6_lays_8 : decode cX6_lays 8 = .ok (.getfield 7, 3) := by decide +kernel
theorem dX6_lays_11 : decode cX6_lays 11 = .ok (.iconst 1, 1) := by decide +kernel
theorem dX6_lays_12 : decode cX6_lays 12 = .ok (.iload_n 2, 1) := by decide +kernel
theorem dX6_lays_13 : decode cX6_lays 13 = .ok (.iastore, 1) := by decide +kernel
theorem dX6_lays_14 : decode cX6_lays 14 = .ok (.iconst 0, 1) := by decide +kernel
theorem dX6_lays_15 : decode cX6_lays 15 = .ok (.istore_n 3, 1) := by decide +kernel
theorem dX6_lays_16 : decode cX6_lays 16 = .ok (.iload_n 3, 1) := by decide +kernel
theorem dX6_lays_17 : decode cX6_lays 17 = .ok (.bipush 9, 2) := by decide +kernel
theorem dX6_lays_19 : decode cX6_lays 19 = .ok (.if_icmp .ge 51, 3) := by decide +kernel
theorem dX6_lays_22 : decode cX6_lays 22 = .ok (.aload_n 0, 1) := by decide +kernel
theorem dX6_lays_23 : decode cX6_lays 23 = .ok (.getfield 7, 3) := by decide +kernel
theorem dX6_lays_26 : decode cX6_lays 26 = .ok (.bipush 14, 2) := by decide +kernel
theorem dX6_lays_28 : decode cX6_lays 28 = .ok (.iload_n 3, 1) := by decide +kernel
theorem dX6_lays_29 : decode cX6_lays 29 = .ok (.iadd, 1) := by decide +kernel
theorem dX6_lays_30 : decode cX6_lays 30 = .ok (.iload_n 3, 1) := by decide +kernel
theorem dX6_lays_31 : decode cX6_lays 31 = .ok (.iload_n 1, 1) := by decide +kernel
theorem dX6_lays_32 : decode cX6_lays 32 = .ok (.iload_n 2, 1) := by decide +kernel
theorem dX6_lays_33 : decode cX6_lays 33 = .ok (.imul, 1) := by decide +kernel
theorem dX6_lays_34 : decode cX6_lays 34 = .ok (.if_icmp .ge 7, 3) := by decide +kernel
theorem dX6_lays_37 : decode cX6_lays 37 = .ok (.iload_n 3, 1) := by decide +kernel
theorem dX6_lays_38 : decode cX6_lays 38 = .ok (.goto 4, 3) := by decide +kernel
theorem dX6_lays_41 : decode cX6_lays 41 = .ok (.iconst 0, 1) := by decide +kernel
theorem dX6_lays_42 : decode cX6_lays 42 = .ok (.iastore, 1) := by decide +kernel
theorem dX6_lays_43 : decode cX6_lays 43 = .ok (.aload_n 0, 1) := by decide +kernel
theorem dX6_lays_44 : decode cX6_lays 44 = .ok (.getfield 7, 3) := by decide +kernel
theorem dX6_lays_47 : decode cX6_lays 47 = .ok (.bipush 23, 2) := by decide +kernel
theorem dX6_lays_49 : decode cX6_lays 49 = .ok (.iload_n 3, 1) := by decide +kernel
theorem dX6_lays_50 : decode cX6_lays 50 = .ok (.iadd, 1) := by decide +kernel
theorem dX6_lays_51 : decode cX6_lays 51 = .ok (.iload_n 3, 1) := by decide +kernel
theorem dX6_lays_52 : decode cX6_lays 52 = .ok (.iload_n 1, 1) := by decide +kernel
theorem dX6_lays_53 : decode cX6_lays 53 = .ok (.iload_n 2, 1) := by decide +kernel
theorem dX6_lays_54 : decode cX6_lays 54 = .ok (.imul, 1) := by decide +kernel
theorem dX6_lays_55 : decode cX6_lays 55 = .ok (.if_icmp .ge 7, 3) := by decide +kernel
theorem dX6_lays_58 : decode cX6_lays 58 = .ok (.iload_n 3, 1) := by decide +kernel
theorem dX6_lays_59 : decode cX6_lays 59 = .ok (.goto 4, 3) := by decide +kernel
theorem dX6_lays_62 : decode cX6_lays 62 = .ok (.iconst 0, 1) := by decide +kernel
theorem dX6_lays_63 : decode cX6_lays 63 = .ok (.iastore, 1) := by decide +kernel
theorem dX6_lays_64 : decode cX6_lays 64 = .ok (.iinc 3 1, 3) := by decide +kernel
theorem dX6_lays_67 : decode cX6_lays 67 = .ok (.goto (-51), 3) := by decide +kernel
theorem dX6_lays_70 : decode cX6_lays 70 = .ok (.iconst 0, 1) := by decide +kernel
theorem dX6_lays_71 : decode cX6_lays 71 = .ok (.istore_n 3, 1) := by decide +kernel
theorem dX6_lays_72 : decode cX6_lays 72 = .ok (.iload_n 3, 1) := by decide +kernel
theorem dX6_lays_73 : decode cX6_lays 73 = .ok (.bipush 6, 2) := by decide +kernel
theorem dX6_lays_75 : decode cX6_lays 75 = .ok (.if_icmp .ge 19, 3) := by decide +kernel
theorem dX6_lays_78 : decode cX6_lays 78 = .ok (.aload_n 0, 1) := by decide +kernel
theorem dX6_lays_79 : decode cX6_lays 79 = .ok (.getfield 7, 3) := by decide +kernel
theorem dX6_lays_82 : decode cX6_lays 82 = .ok (.bipush 8, 2) := by decide +kernel
theorem dX6_lays_84 : decode cX6_lays 84 = .ok (.iload_n 3, 1) := by decide +kernel
theorem dX6_lays_85 : decode cX6_lays 85 = .ok (.iadd, 1) := by decide +kernel
theorem dX6_lays_86 : decode cX6_lays 86 = .ok (.iconst 0, 1) := by decide +kernel
theorem dX6_lays_87 : decode cX6_lays 87 = .ok (.iastore, 1) := by decide +kernel
theorem dX6_lays_88 : decode cX6_lays 88 = .ok (.iinc 3 1, 3) := by decide +kernel
theorem dX6_lays_91 : decode cX6_lays 91 = .ok (.goto (-19), 3) := by decide +kernel
theorem dX6_lays_94 : decode cX6_lays 94 = .ok (.return_, 1) := by decide +kernel
theorem dX6_boards_0 : decode cX6_boards 0 = .ok (.iload_n 1, 1) := by decide +kernel
theorem dX6_boards_1 : decode cX6_boards 1 = .ok (.iconst 2, 1) := by decide +kernel
theorem dX6_boards_2 : decode cX6_boards 2 = .ok (.iconst 3, 1) := by decide +kernel
theorem dX6_boards_3 : decode cX6_boards 3 = .ok (.invokestatic 70, 3) := by decide +kernel
theorem dX6_boards_6 : decode cX6_boards 6 = .ok (.ifCond .eq 12, 3) := by decide +kernel
theorem dX6_boards_9 : decode cX6_boards 9 = .ok (.iload_n 2, 1) := by decide +kernel
theorem dX6_boards_10 : decode cX6_boards 10 = .ok (.iconst 2, 1) := by decide +kernel
theorem dX6_boards_11 : decode cX6_boards 11 = .ok (.iconst 3, 1) := by decide +kernel
theorem dX6_boards_12 : decode cX6_boards 12 = .ok (.invokestatic 70, 3) := by decide +kernel
theorem dX6_boards_15 : decode cX6_boards 15 = .ok (.ifCond .ne 9, 3) := by decide +kernel
theorem dX6_boards_18 : decode cX6_boards 18 = .ok (.aload_n 0, 1) := by decide +kernel
theorem dX6_boards_19 : decode cX6_boards 19 = .ok (.iconst 1, 1) := by decide +kernel
theorem dX6_boards_20 : decode cX6_boards 20 = .ok (.invokevirtual 77, 3) := by decide +kernel
theorem dX6_boards_23 : decode cX6_boards 23 = .ok (.ireturn, 1) := by decide +kernel
theorem dX6_boards_24 : decode cX6_boards 24 = .ok (.aload_n 0, 1) := by decide +kernel
theorem dX6_boards_25 : decode cX6_boards 25 = .ok (.iload_n 1, 1) := by decide +kernel
theorem dX6_boards_26 : decode cX6_boards 26 = .ok (.iload_n 2, 1) := by decide +kernel
theorem dX6_boards_27 : decode cX6_boards 27 = .ok (.invokevirtual 42, 3) := by decide +kernel
theorem dX6_boards_30 : decode cX6_boards 30 = .ok (.aload_n 0, 1) := by decide +kernel
theorem dX6_boards_31 : decode cX6_boards 31 = .ok (.getfield 7, 3) := by decide +kernel
theorem dX6_boards_34 : decode cX6_boards 34 = .ok (.bipush 6, 2) := by decide +kernel
theorem dX6_boards_36 : decode cX6_boards 36 = .ok (.dup2, 1) := by decide +kernel
theorem dX6_boards_37 : decode cX6_boards 37 = .ok (.iaload, 1) := by decide +kernel
theorem dX6_boards_38 : decode cX6_boards 38 = .ok (.iconst 1, 1) := by decide +kernel
theorem dX6_boards_39 : decode cX6_boards 39 = .ok (.iadd, 1) := by decide +kernel
theorem dX6_boards_40 : decode cX6_boards 40 = .ok (.iastore, 1) := by decide +kernel
theorem dX6_boards_41 : decode cX6_boards 41 = .ok (.aload_n 0, 1) := by decide +kernel
theorem dX6_boards_42 : decode cX6_boards 42 = .ok (.aload_n 0, 1) := by decide +kernel
theorem dX6_boards_43 : decode cX6_boards 43 = .ok (.invokevirtual 66, 3) := by decide +kernel
theorem dX6_boards_46 : decode cX6_boards 46 = .ok (.invokevirtual 81, 3) := by decide +kernel
theorem dX6_boards_49 : decode cX6_boards 49 = .ok (.ireturn, 1) := by decide +kernel
theorem dX6_board_0 : decode cX6_board 0 = .ok (.aload_n 0, 1) := by decide +kernel
theorem dX6_board_1 : decode cX6_board 1 = .ok (.invokevirtual 84, 3) := by decide +kernel
theorem dX6_board_4 : decode cX6_board 4 = .ok (.aload_n 0, 1) := by decide +kernel
theorem dX6_board_5 : decode cX6_board 5 = .ok (.aload_n 0, 1) := by decide +kernel
theorem dX6_board_6 : decode cX6_board 6 = .ok (.iload_n 1, 1) := by decide +kernel
theorem dX6_board_7 : decode cX6_board 7 = .ok (.iload_n 2, 1) := by decide +kernel
theorem dX6_board_8 : decode cX6_board 8 = .ok (.invokevirtual 87, 3) := by decide +kernel
theorem dX6_board_11 : decode cX6_board 11 = .ok (.invokevirtual 91, 3) := by decide +kernel
theorem dX6_board_14 : decode cX6_board 14 = .ok (.ireturn, 1) := by decide +kernel
theorem dX6_isLetter_0 : decode cX6_isLetter 0 = .ok (.iload_n 0, 1) := by decide +kernel
theorem dX6_isLetter_1 : decode cX6_isLetter 1 = .ok (.bipush 97, 2) := by decide +kernel
theorem dX6_isLetter_3 : decode cX6_isLetter 3 = .ok (.bipush 108, 2) := by decide +kernel
theorem dX6_isLetter_5 : decode cX6_isLetter 5 = .ok (.invokestatic 70, 3) := by decide +kernel
theorem dX6_isLetter_8 : decode cX6_isLetter 8 = .ok (.ireturn, 1) := by decide +kernel
theorem dX6_signOf_0 : decode cX6_signOf 0 = .ok (.iload_n 0, 1) := by decide +kernel
theorem dX6_signOf_1 : decode cX6_signOf 1 = .ok (.iconst (-1), 1) := by decide +kernel
theorem dX6_signOf_2 : decode cX6_signOf 2 = .ok (.if_icmp .ne 8, 3) := by decide +kernel
theorem dX6_signOf_5 : decode cX6_signOf 5 = .ok (.bipush 46, 2) := by decide +kernel
theorem dX6_signOf_7 : decode cX6_signOf 7 = .ok (.goto 8, 3) := by decide +kernel
theorem dX6_signOf_10 : decode cX6_signOf 10 = .ok (.bipush 97, 2) := by decide +kernel
theorem dX6_signOf_12 : decode cX6_signOf 12 = .ok (.iload_n 0, 1) := by decide +kernel
theorem dX6_signOf_13 : decode cX6_signOf 13 = .ok (.iadd, 1) := by decide +kernel
theorem dX6_signOf_14 : decode cX6_signOf 14 = .ok (.i2c, 1) := by decide +kernel
theorem dX6_signOf_15 : decode cX6_signOf 15 = .ok (.ireturn, 1) := by decide +kernel
theorem dX6_tells_0 : decode cX6_tells 0 = .ok (.aload_n 0, 1) := by decide +kernel
theorem dX6_tells_1 : decode cX6_tells 1 = .ok (.getfield 7, 3) := by decide +kernel
theorem dX6_tells_4 : decode cX6_tells 4 = .ok (.iload_n 1, 1) := by decide +kernel
theorem dX6_tells_5 : decode cX6_tells 5 = .ok (.iload_n 2, 1) := by decide +kernel
theorem dX6_tells_6 : decode cX6_tells 6 = .ok (.iadd, 1) := by decide +kernel
theorem dX6_tells_7 : decode cX6_tells 7 = .ok (.iaload, 1) := by decide +kernel
theorem dX6_tells_8 : decode cX6_tells 8 = .ok (.istore 4, 2) := by decide +kernel
theorem dX6_tells_10 : decode cX6_tells 10 = .ok (.iload 4, 2) := by decide +kernel
theorem dX6_tells_12 : decode cX6_tells 12 = .ok (.iload_n 3, 1) := by decide +kernel
theorem dX6_tells_13 : decode cX6_tells 13 = .ok (.if_icmp .ne 11, 3) := by decide +kernel
theorem dX6_tells_16 : decode cX6_tells 16 = .ok (.aload_n 0, 1) := by decide +kernel
theorem dX6_tells_17 : decode cX6_tells 17 = .ok (.iconst 2, 1) := by decide +kernel
theorem dX6_tells_18 : decode cX6_tells 18 = .ok (.iload_n 2, 1) := by decide +kernel
theorem dX6_tells_19 : decode cX6_tells 19 = .ok (.iconst 3, 1) := by decide +kernel
theorem dX6_tells_20 : decode cX6_tells 20 = .ok (.invokevirtual 94, 3) := by decide +kernel
theorem dX6_tells_23 : decode cX6_tells 23 = .ok (.ireturn, 1) := by decide +kernel
theorem dX6_tells_24 : decode cX6_tells 24 = .ok (.aload_n 0, 1) := by decide +kernel
theorem dX6_tells_25 : decode cX6_tells 25 = .ok (.getfield 7, 3) := by decide +kernel
theorem dX6_tells_28 : decode cX6_tells 28 = .ok (.iload_n 1, 1) := by decide +kernel
theorem dX6_tells_29 : decode cX6_tells 29 = .ok (.iload_n 2, 1) := by decide +kernel
theorem dX6_tells_30 : decode cX6_tells 30 = .ok (.iadd, 1) := by decide +kernel
theorem dX6_tells_31 : decode cX6_tells 31 = .ok (.iload_n 3, 1) := by decide +kernel
theorem dX6_tells_32 : decode cX6_tells 32 = .ok (.iastore, 1) := by decide +kernel
theorem dX6_tells_33 : decode cX6_tells 33 = .ok (.aload_n 0, 1) := by decide +kernel
theorem dX6_tells_34 : decode cX6_tells 34 = .ok (.iload 4, 2) := by decide +kernel
theorem dX6_tells_36 : decode cX6_tells 36 = .ok (.invokestatic 98, 3) := by decide +kernel
theorem dX6_tells_39 : decode cX6_tells 39 = .ok (.invokevirtual 81, 3) := by decide +kernel
theorem dX6_tells_42 : decode cX6_tells 42 = .ok (.ireturn, 1) := by decide +kernel
theorem dX6_puts_0 : decode cX6_puts 0 = .ok (.aload_n 0, 1) := by decide +kernel
theorem dX6_puts_1 : decode cX6_puts 1 = .ok (.iload_n 1, 1) := by decide +kernel
theorem dX6_puts_2 : decode cX6_puts 2 = .ok (.invokevirtual 102, 3) := by decide +kernel
theorem dX6_puts_5 : decode cX6_puts 5 = .ok (.ifCond .ne 9, 3) := by decide +kernel
theorem dX6_puts_8 : decode cX6_puts 8 = .ok (.aload_n 0, 1) := by decide +kernel
theorem dX6_puts_9 : decode cX6_puts 9 = .ok (.iconst 1, 1) := by decide +kernel
theorem dX6_puts_10 : decode cX6_puts 10 = .ok (.invokevirtual 77, 3) := by decide +kernel
theorem dX6_puts_13 : decode cX6_puts 13 = .ok (.ireturn, 1) := by decide +kernel
theorem dX6_puts_14 : decode cX6_puts 14 = .ok (.iload_n 2, 1) := by decide +kernel
theorem dX6_puts_15 : decode cX6_puts 15 = .ok (.invokestatic 106, 3) := by decide +kernel
theorem dX6_puts_18 : decode cX6_puts 18 = .ok (.ifCond .eq 17, 3) := by decide +kernel
theorem dX6_puts_21 : decode cX6_puts 21 = .ok (.aload_n 0, 1) := by decide +kernel
theorem dX6_puts_22 : decode cX6_puts 22 = .ok (.bipush 14, 2) := by decide +kernel
theorem dX6_puts_24 : decode cX6_puts 24 = .ok (.iload_n 1, 1) := by decide +kernel
theorem dX6_puts_25 : decode cX6_puts 25 = .ok (.iload_n 2, 1) := by decide +kernel
theorem dX6_puts_26 : decode cX6_puts 26 = .ok (.bipush 97, 2) := by decide +kernel
theorem dX6_puts_28 : decode cX6_puts 28 = .ok (.isub, 1) := by decide +kernel
theorem dX6_puts_29 : decode cX6_puts 29 = .ok (.invokevirtual 109, 3) := by decide +kernel
theorem dX6_puts_32 : decode cX6_puts 32 = .ok (.goto 8, 3) := by decide +kernel
theorem dX6_puts_35 : decode cX6_puts 35 = .ok (.aload_n 0, 1) := by decide +kernel
theorem dX6_puts_36 : decode cX6_puts 36 = .ok (.iconst 2, 1) := by decide +kernel
theorem dX6_puts_37 : decode cX6_puts 37 = .ok (.invokevirtual 77, 3) := by decide +kernel
theorem dX6_puts_40 : decode cX6_puts 40 = .ok (.ireturn, 1) := by decide +kernel
theorem dX6_put_0 : decode cX6_put 0 = .ok (.aload_n 0, 1) := by decide +kernel
theorem dX6_put_1 : decode cX6_put 1 = .ok (.invokevirtual 84, 3) := by decide +kernel
theorem dX6_put_4 : decode cX6_put 4 = .ok (.aload_n 0, 1) := by decide +kernel
theorem dX6_put_5 : decode cX6_put 5 = .ok (.aload_n 0, 1) := by decide +kernel
theorem dX6_put_6 : decode cX6_put 6 = .ok (.iload_n 1, 1) := by decide +kernel
theorem dX6_put_7 : decode cX6_put 7 = .ok (.iload_n 2, 1) := by decide +kernel
theorem dX6_put_8 : decode cX6_put 8 = .ok (.invokevirtual 112, 3) := by decide +kernel
theorem dX6_put_11 : decode cX6_put 11 = .ok (.invokevirtual 91, 3) := by decide +kernel
theorem dX6_put_14 : decode cX6_put 14 = .ok (.i2c, 1) := by decide +kernel
theorem dX6_put_15 : decode cX6_put 15 = .ok (.ireturn, 1) := by decide +kernel
theorem dX6_goals_0 : decode cX6_goals 0 = .ok (.aload_n 0, 1) := by decide +kernel
theorem dX6_goals_1 : decode cX6_goals 1 = .ok (.iload_n 1, 1) := by decide +kernel
theorem dX6_goals_2 : decode cX6_goals 2 = .ok (.invokevirtual 102, 3) := by decide +kernel
theorem dX6_goals_5 : decode cX6_goals 5 = .ok (.ifCond .ne 9, 3) := by decide +kernel
theorem dX6_goals_8 : decode cX6_goals 8 = .ok (.aload_n 0, 1) := by decide +kernel
theorem dX6_goals_9 : decode cX6_goals 9 = .ok (.iconst 1, 1) := by decide +kernel
theorem dX6_goals_10 : decode cX6_goals 10 = .ok (.invokevirtual 77, 3) := by decide +kernel
theorem dX6_goals_13 : decode cX6_goals 13 = .ok (.ireturn, 1) := by decide +kernel
theorem dX6_goals_14 : decode cX6_goals 14 = .ok (.iload_n 2, 1) := by decide +kernel
theorem dX6_goals_15 : decode cX6_goals 15 = .ok (.invokestatic 106, 3) := by decide +kernel
theorem dX6_goals_18 : decode cX6_goals 18 = .ok (.ifCond .ne 9, 3) := by decide +kernel
theorem dX6_goals_21 : decode cX6_goals 21 = .ok (.iload_n 2, 1) := by decide +kernel
theorem dX6_goals_22 : decode cX6_goals 22 = .ok (.bipush 46, 2) := by decide +kernel
theorem dX6_goals_24 : decode cX6_goals 24 = .ok (.if_icmp .ne 27, 3) := by decide +kernel
theorem dX6_goals_27 : decode cX6_goals 27 = .ok (.aload_n 0, 1) := by decide +kernel
theorem dX6_goals_28 : decode cX6_goals 28 = .ok (.bipush 23, 2) := by decide +kernel
theorem dX6_goals_30 : decode cX6_goals 30 = .ok (.iload_n 1, 1) := by decide +kernel
theorem dX6_goals_31 : decode cX6_goals 31 = .ok (.iload_n 2, 1) := by decide +kernel
theorem dX6_goals_32 : decode cX6_goals 32 = .ok (.bipush 46, 2) := by decide +kernel
theorem dX6_goals_34 : decode cX6_goals 34 = .ok (.if_icmp .ne 7, 3) := by decide +kernel
theorem dX6_goals_37 : decode cX6_goals 37 = .ok (.iconst (-1), 1) := by decide +kernel
theorem dX6_goals_38 : decode cX6_goals 38 = .ok (.goto 7, 3) := by decide +kernel
theorem dX6_goals_41 : decode cX6_goals 41 = .ok (.iload_n 2, 1) := by decide +kernel
theorem dX6_goals_42 : decode cX6_goals 42 = .ok (.bipush 97, 2) := by decide +kernel
theorem dX6_goals_44 : decode cX6_goals 44 = .ok (.isub, 1) := by decide +kernel
theorem dX6_goals_45 : decode cX6_goals 45 = .ok (.invokevirtual 109, 3) := by decide +kernel
theorem dX6_goals_48 : decode cX6_goals 48 = .ok (.goto 8, 3) := by decide +kernel
theorem dX6_goals_51 : decode cX6_goals 51 = .ok (.aload_n 0, 1) := by decide +kernel
theorem dX6_goals_52 : decode cX6_goals 52 = .ok (.iconst 2, 1) := by decide +kernel
theorem dX6_goals_53 : decode cX6_goals 53 = .ok (.invokevirtual 77, 3) := by decide +kernel
theorem dX6_goals_56 : decode cX6_goals 56 = .ok (.ireturn, 1) := by decide +kernel
theorem dX6_goal_0 : decode cX6_goal 0 = .ok (.aload_n 0, 1) := by decide +kernel
theorem dX6_goal_1 : decode cX6_goal 1 = .ok (.invokevirtual 84, 3) := by decide +kernel
theorem dX6_goal_4 : decode cX6_goal 4 = .ok (.aload_n 0, 1) := by decide +kernel
theorem dX6_goal_5 : decode cX6_goal 5 = .ok (.aload_n 0, 1) := by decide +kernel
theorem dX6_goal_6 : decode cX6_goal 6 = .ok (.iload_n 1, 1) := by decide +kernel
theorem dX6_goal_7 : decode cX6_goal 7 = .ok (.iload_n 2, 1) := by decide +kernel
theorem dX6_goal_8 : decode cX6_goal 8 = .ok (.invokevirtual 115, 3) := by decide +kernel
theorem dX6_goal_11 : decode cX6_goal 11 = .ok (.invokevirtual 91, 3) := by decide +kernel
theorem dX6_goal_14 : decode cX6_goal 14 = .ok (.i2c, 1) := by decide +kernel
theorem dX6_goal_15 : decode cX6_goal 15 = .ok (.ireturn, 1) := by decide +kernel
theorem dX6_goes_0 : decode cX6_goes 0 = .ok (.iload_n 1, 1) := by decide +kernel
theorem dX6_goes_1 : decode cX6_goes 1 = .ok (.aload_n 0, 1) := by decide +kernel
theorem dX6_goes_2 : decode cX6_goes 2 = .ok (.getfield 7, 3) := by decide +kernel
theorem dX6_goes_5 : decode cX6_goes 5 = .ok (.iconst 1, 1) := by decide +kernel
theorem dX6_goes_6 : decode cX6_goes 6 = .ok (.iaload, 1) := by decide +kernel
theorem dX6_goes_7 : decode cX6_goes 7 = .ok (.idiv, 1) := by decide +kernel
theorem dX6_goes_8 : decode cX6_goes 8 = .ok (.istore_n 3, 1) := by decide +kernel
theorem dX6_goes_9 : decode cX6_goes 9 = .ok (.iload_n 1, 1) := by decide +kernel
theorem dX6_goes_10 : decode cX6_goes 10 = .ok (.aload_n 0, 1) := by decide +kernel
theorem dX6_goes_11 : decode cX6_goes 11 = .ok (.getfield 7, 3) := by decide +kernel
theorem dX6_goes_14 : decode cX6_goes 14 = .ok (.iconst 1, 1) := by decide +kernel
theorem dX6_goes_15 : decode cX6_goes 15 = .ok (.iaload, 1) := by decide +kernel
theorem dX6_goes_16 : decode cX6_goes 16 = .ok (.irem, 1) := by decide +kernel
theorem dX6_goes_17 : decode cX6_goes 17 = .ok (.istore 4, 2) := by decide +kernel
theorem dX6_goes_19 : decode cX6_goes 19 = .ok (.iload_n 2, 1) := by decide +kernel
theorem dX6_goes_20 : decode cX6_goes 20 = .ok (.iconst 2, 1) := by decide +kernel
theorem dX6_goes_21 : decode cX6_goes 21 = .ok (.idiv, 1) := by decide +kernel
theorem dX6_goes_22 : decode cX6_goes 22 = .ok (.istore 5, 2) := by decide +kernel
theorem dX6_goes_24 : decode cX6_goes 24 = .ok (.iload_n 2, 1) := by decide +kernel
theorem dX6_goes_25 : decode cX6_goes 25 = .ok (.iconst 2, 1) := by decide +kernel
theorem dX6_goes_26 : decode cX6_goes 26 = .ok (.irem, 1) := by decide +kernel
theorem dX6_goes_27 : decode cX6_goes 27 = .ok (.ifCond .ne 7, 3) := by decide +kernel
theorem dX6_goes_30 : decode cX6_goes 30 = .ok (.iconst 1, 1) := by decide +kernel
theorem dX6_goes_31 : decode cX6_goes 31 = .ok (.goto 4, 3) := by decide +kernel
theorem dX6_goes_34 : decode cX6_goes 34 = .ok (.iconst (-1), 1) := by decide +kernel
theorem dX6_goes_35 : decode cX6_goes 35 = .ok (.istore 6, 2) := by decide +kernel
theorem dX6_goes_37 : decode cX6_goes 37 = .ok (.iload 5, 2) := by decide +kernel
theorem dX6_goes_39 : decode cX6_goes 39 = .ok (.aload_n 0, 1) := by decide +kernel
theorem dX6_goes_40 : decode cX6_goes 40 = .ok (.getfield 7, 3) := by decide +kernel
theorem dX6_goes_43 : decode cX6_goes 43 = .ok (.iconst 0, 1) := by decide +kernel
theorem dX6_goes_44 : decode cX6_goes 44 = .ok (.iaload, 1) := by decide +kernel
theorem dX6_goes_45 : decode cX6_goes 45 = .ok (.if_icmp .ge 38, 3) := by decide +kernel
theorem dX6_goes_48 : decode cX6_goes 48 = .ok (.iload_n 3, 1) := by decide +kernel
theorem dX6_goes_49 : decode cX6_goes 49 = .ok (.iload 5, 2) := by decide +kernel
theorem dX6_goes_51 : decode cX6_goes 51 = .ok (.if_icmp .ne 25, 3) := by decide +kernel
theorem dX6_goes_54 : decode cX6_goes 54 = .ok (.iload 4, 2) := by decide +kernel
theorem dX6_goes_56 : decode cX6_goes 56 = .ok (.iload 6, 2) := by decide +kernel
theorem dX6_goes_58 : decode cX6_goes 58 = .ok (.iadd, 1) := by decide +kernel
theorem dX6_goes_59 : decode cX6_goes 59 = .ok (.aload_n 0, 1) := by decide +kernel
theorem dX6_goes_60 : decode cX6_goes 60 = .ok (.getfield 7, 3) := by decide +kernel
theorem dX6_goes_63 : decode cX6_goes 63 = .ok (.iconst 1, 1) := by decide +kernel
theorem dX6_goes_64 : decode cX6_goes 64 = .ok (.iaload, 1) := by decide +kernel
theorem dX6_goes_65 : decode cX6_goes 65 = .ok (.iadd, 1) := by decide +kernel
theorem dX6_goes_66 : decode cX6_goes 66 = .ok (.aload_n 0, 1) := by decide +kernel
theorem dX6_goes_67 : decode cX6_goes 67 = .ok (.getfield 7, 3) := by decide +kernel
theorem dX6_goes_70 : decode cX6_goes 70 = .ok (.iconst 1, 1) := by decide +kernel
theorem dX6_goes_71 : decode cX6_goes 71 = .ok (.iaload, 1) := by decide +kernel
theorem dX6_goes_72 : decode cX6_goes 72 = .ok (.irem, 1) := by decide +kernel
theorem dX6_goes_73 : decode cX6_goes 73 = .ok (.goto 5, 3) := by decide +kernel
theorem dX6_goes_76 : decode cX6_goes 76 = .ok (.iload 4, 2) := by decide +kernel
theorem dX6_goes_78 : decode cX6_goes 78 = .ok (.istore 4, 2) := by decide +kernel
theorem dX6_goes_80 : decode cX6_goes 80 = .ok (.goto 40, 3) := by decide +kernel
theorem dX6_goes_83 : decode cX6_goes 83 = .ok (.iload 4, 2) := by decide +kernel
theorem dX6_goes_85 : decode cX6_goes 85 = .ok (.iload 5, 2) := by decide +kernel
theorem dX6_goes_87 : decode cX6_goes 87 = .ok (.aload_n 0, 1) := by decide +kernel
theorem dX6_goes_88 : decode cX6_goes 88 = .ok (.getfield 7, 3) := by decide +kernel
theorem dX6_goes_91 : decode cX6_goes 91 = .ok (.iconst 0, 1) := by decide +kernel
theorem dX6_goes_92 : decode cX6_goes 92 = .ok (.iaload, 1) := by decide +kernel
theorem dX6_goes_93 : decode cX6_goes 93 = .ok (.isub, 1) := by decide +kernel
theorem dX6_goes_94 : decode cX6_goes 94 = .ok (.if_icmp .ne 24, 3) := by decide +kernel
theorem dX6_goes_97 : decode cX6_goes 97 = .ok (.iload_n 3, 1) := by decide +kernel
theorem dX6_goes_98 : decode cX6_goes 98 = .ok (.iload 6, 2) := by decide +kernel
theorem dX6_goes_100 : decode cX6_goes 100 = .ok (.iadd, 1) := by decide +kernel
theorem dX6_goes_101 : decode cX6_goes 101 = .ok (.aload_n 0, 1) := by decide +kernel
theorem dX6_goes_102 : decode cX6_goes 102 = .ok (.getfield 7, 3) := by decide +kernel
theorem dX6_goes_105 : decode cX6_goes 105 = .ok (.iconst 0, 1) := by decide +kernel
theorem dX6_goes_106 : decode cX6_goes 106 = .ok (.iaload, 1) := by decide +kernel
theorem dX6_goes_107 : decode cX6_goes 107 = .ok (.iadd, 1) := by decide +kernel
theorem dX6_goes_108 : decode cX6_goes 108 = .ok (.aload_n 0, 1) := by decide +kernel
theorem dX6_goes_109 : decode cX6_goes 109 = .ok (.getfield 7, 3) := by decide +kernel
theorem dX6_goes_112 : decode cX6_goes 112 = .ok (.iconst 0, 1) := by decide +kernel
theorem dX6_goes_113 : decode cX6_goes 113 = .ok (.iaload, 1) := by decide +kernel
theorem dX6_goes_114 : decode cX6_goes 114 = .ok (.irem, 1) := by decide +kernel
theorem dX6_goes_115 : decode cX6_goes 115 = .ok (.goto 4, 3) := by decide +kernel
theorem dX6_goes_118 : decode cX6_goes 118 = .ok (.iload_n 3, 1) := by decide +kernel
theorem dX6_goes_119 : decode cX6_goes 119 = .ok (.istore_n 3, 1) := by decide +kernel
theorem dX6_goes_120 : decode cX6_goes 120 = .ok (.iload_n 3, 1) := by decide +kernel
theorem dX6_goes_121 : decode cX6_goes 121 = .ok (.aload_n 0, 1) := by decide +kernel
theorem dX6_goes_122 : decode cX6_goes 122 = .ok (.getfield 7, 3) := by decide +kernel
theorem dX6_goes_125 : decode cX6_goes 125 = .ok (.iconst 1, 1) := by decide +kernel
theorem dX6_goes_126 : decode cX6_goes 126 = .ok (.iaload, 1) := by decide +kernel
theorem dX6_goes_127 : decode cX6_goes 127 = .ok (.imul, 1) := by decide +kernel
theorem dX6_goes_128 : decode cX6_goes 128 = .ok (.iload 4, 2) := by decide +kernel
theorem dX6_goes_130 : decode cX6_goes 130 = .ok (.iadd, 1) := by decide +kernel
theorem dX6_goes_131 : decode cX6_goes 131 = .ok (.ireturn, 1) := by decide +kernel
theorem dX6_tries_0 : decode cX6_tries 0 = .ok (.iconst 0, 1) := by decide +kernel
theorem dX6_tries_1 : decode cX6_tries 1 = .ok (.istore_n 1, 1) := by decide +kernel
theorem dX6_tries_2 : decode cX6_tries 2 = .ok (.iload_n 1, 1) := by decide +kernel
theorem dX6_tries_3 : decode cX6_tries 3 = .ok (.aload_n 0, 1) := by decide +kernel
theorem dX6_tries_4 : decode cX6_tries 4 = .ok (.invokevirtual 66, 3) := by decide +kernel
theorem dX6_tries_7 : decode cX6_tries 7 = .ok (.if_icmp .ge 24, 3) := by decide +kernel
theorem dX6_tries_10 : decode cX6_tries 10 = .ok (.aload_n 0, 1) := by decide +kernel
theorem dX6_tries_11 : decode cX6_tries 11 = .ok (.getfield 33, 3) := by decide +kernel
theorem dX6_tries_14 : decode cX6_tries 14 = .ok (.iload_n 1, 1) := by decide +kernel
theorem dX6_tries_15 : decode cX6_tries 15 = .ok (.aload_n 0, 1) := by decide +kernel
theorem dX6_tries_16 : decode cX6_tries 16 = .ok (.getfield 7, 3) := by decide +kernel
theorem dX6_tries_19 : decode cX6_tries 19 = .ok (.bipush 14, 2) := by decide +kernel
theorem dX6_tries_21 : decode cX6_tries 21 = .ok (.iload_n 1, 1) := by decide +kernel
theorem dX6_tries_22 : decode cX6_tries 22 = .ok (.iadd, 1) := by decide +kernel
theorem dX6_tries_23 : decode cX6_tries 23 = .ok (.iaload, 1) := by decide +kernel
theorem dX6_tries_24 : decode cX6_tries 24 = .ok (.iastore, 1) := by decide +kernel
theorem dX6_tries_25 : decode cX6_tries 25 = .ok (.iinc 1 1, 3) := by decide +kernel
theorem dX6_tries_28 : decode cX6_tries 28 = .ok (.goto (-26), 3) := by decide +kernel
theorem dX6_tries_31 : decode cX6_tries 31 = .ok (.return_, 1) := by decide +kernel
theorem dX6_turnsTried_0 : decode cX6_turnsTried 0 = .ok (.iconst 0, 1) := by decide +kernel
theorem dX6_turnsTried_1 : decode cX6_turnsTried 1 = .ok (.istore_n 2, 1) := by decide +kernel
theorem dX6_turnsTried_2 : decode cX6_turnsTried 2 = .ok (.iload_n 2, 1) := by decide +kernel
theorem dX6_turnsTried_3 : decode cX6_turnsTried 3 = .ok (.aload_n 0, 1) := by decide +kernel
theorem dX6_turnsTried_4 : decode cX6_turnsTried 4 = .ok (.invokevirtual 66, 3) := by decide +kernel
theorem dX6_turnsTried_7 : decode cX6_turnsTried 7 = .ok (.if_icmp .ge 26, 3) := by decide +kernel
theorem dX6_turnsTried_10 : decode cX6_turnsTried 10 = .ok (.aload_n 0, 1) := by decide +kernel
theorem dX6_turnsTried_11 : decode cX6_turnsTried 11 = .ok (.getfield 36, 3) := by decide +kernel
theorem dX6_turnsTried_14 : decode cX6_turnsTried 14 = .ok (.aload_n 0, 1) := by decide +kernel
theorem dX6_turnsTried_15 : decode cX6_turnsTried 15 = .ok (.iload_n 2, 1) := by decide +kernel
theorem dX6_turnsTried_16 : decode cX6_turnsTried 16 = .ok (.iload_n 1, 1) := by decide +kernel
theorem dX6_turnsTried_17 : decode cX6_turnsTried 17 = .ok (.invokevirtual 118, 3) := by decide +kernel
theorem dX6_turnsTried_20 : decode cX6_turnsTried 20 = .ok (.aload_n 0, 1) := by decide +kernel
theorem dX6_turnsTried_21 : decode cX6_turnsTried 21 = .ok (.getfield 33, 3) := by decide +kernel
theorem dX6_turnsTried_24 : decode cX6_turnsTried 24 = .ok (.iload_n 2, 1) := by decide +kernel
theorem dX6_turnsTried_25 : decode cX6_turnsTried 25 = .ok (.iaload, 1) := by decide +kernel
theorem dX6_turnsTried_26 : decode cX6_turnsTried 26 = .ok (.iastore, 1) := by decide +kernel
theorem dX6_turnsTried_27 : decode cX6_turnsTried 27 = .ok (.iinc 2 1, 3) := by decide +kernel
theorem dX6_turnsTried_30 : decode cX6_turnsTried 30 = .ok (.goto (-28), 3) := by decide +kernel
theorem dX6_turnsTried_33 : decode cX6_turnsTried 33 = .ok (.iconst 0, 1) := by decide +kernel
theorem dX6_turnsTried_34 : decode cX6_turnsTried 34 = .ok (.istore_n 2, 1) := by decide +kernel
theorem dX6_turnsTried_35 : decode cX6_turnsTried 35 = .ok (.iload_n 2, 1) := by decide +kernel
theorem dX6_turnsTried_36 : decode cX6_turnsTried 36 = .ok (.aload_n 0, 1) := by decide +kernel
theorem dX6_turnsTried_37 : decode cX6_turnsTried 37 = .ok (.invokevirtual 66, 3) := by decide +kernel
theorem dX6_turnsTried_40 : decode cX6_turnsTried 40 = .ok (.if_icmp .ge 21, 3) := by decide +kernel
theorem dX6_turnsTried_43 : decode cX6_turnsTried 43 = .ok (.aload_n 0, 1) := by decide +kernel
theorem dX6_turnsTried_44 : decode cX6_turnsTried 44 = .ok (.getfield 33, 3) := by decide +kernel
theorem dX6_turnsTried_47 : decode cX6_turnsTried 47 = .ok (.iload_n 2, 1) := by decide +kernel
theorem dX6_turnsTried_48 : decode cX6_turnsTried 48 = .ok (.aload_n 0, 1) := by decide +kernel
theorem dX6_turnsTried_49 : decode cX6_turnsTried 49 = .ok (.getfield 36, 3) := by decide +kernel
theorem dX6_turnsTried_52 : decode cX6_turnsTried 52 = .ok (.iload_n 2, 1) := by decide +kernel
theorem dX6_turnsTried_53 : decode cX6_turnsTried 53 = .ok (.iaload, 1) := by decide +kernel
theorem dX6_turnsTried_54 : decode cX6_turnsTried 54 = .ok (.iastore, 1) := by decide +kernel
theorem dX6_turnsTried_55 : decode cX6_turnsTried 55 = .ok (.iinc 2 1, 3) := by decide +kernel
theorem dX6_turnsTried_58 : decode cX6_turnsTried 58 = .ok (.goto (-23), 3) := by decide +kernel
theorem dX6_turnsTried_61 : decode cX6_turnsTried 61 = .ok (.return_, 1) := by decide +kernel
theorem dX6_takesTried_0 : decode cX6_takesTried 0 = .ok (.iconst 0, 1) := by decide +kernel
theorem dX6_takesTried_1 : decode cX6_takesTried 1 = .ok (.istore_n 1, 1) := by decide +kernel
theorem dX6_takesTried_2 : decode cX6_takesTried 2 = .ok (.iload_n 1, 1) := by decide +kernel
theorem dX6_takesTried_3 : decode cX6_takesTried 3 = .ok (.aload_n 0, 1) := by decide +kernel
theorem dX6_takesTried_4 : decode cX6_takesTried 4 = .ok (.invokevirtual 66, 3) := by decide +kernel
theorem dX6_takesTried_7 : decode cX6_takesTried 7 = .ok (.if_icmp .ge 24, 3) := by decide +kernel
theorem dX6_takesTried_10 : decode cX6_takesTried 10 = .ok (.aload_n 0, 1) := by decide +kernel
theorem dX6_takesTried_11 : decode cX6_takesTried 11 = .ok (.getfield 7, 3) := by decide +kernel
theorem dX6_takesTried_14 : decode cX6_takesTried 14 = .ok (.bipush 14, 2) := by decide +kernel
theorem dX6_takesTried_16 : decode cX6_takesTried 16 = .ok (.iload_n 1, 1) := by decide +kernel
theorem dX6_takesTried_17 : decode cX6_takesTried 17 = .ok (.iadd, 1) := by decide +kernel
theorem dX6_takesTried_18 : decode cX6_takesTried 18 = .ok (.aload_n 0, 1) := by decide +kernel
theorem dX6_takesTried_19 : decode cX6_takesTried 19 = .ok (.getfield 33, 3) := by decide +kernel
theorem dX6_takesTried_22 : decode cX6_takesTried 22 = .ok (.iload_n 1, 1) := by decide +kernel
theorem dX6_takesTried_23 : decode cX6_takesTried 23 = .ok (.iaload, 1) := by decide +kernel
theorem dX6_takesTried_24 : decode cX6_takesTried 24 = .ok (.iastore, 1) := by decide +kernel
theorem dX6_takesTried_25 : decode cX6_takesTried 25 = .ok (.iinc 1 1, 3) := by decide +kernel
theorem dX6_takesTried_28 : decode cX6_takesTried 28 = .ok (.goto (-26), 3) := by decide +kernel
theorem dX6_takesTried_31 : decode cX6_takesTried 31 = .ok (.return_, 1) := by decide +kernel
theorem dX6_homeTried_0 : decode cX6_homeTried 0 = .ok (.iconst 0, 1) := by decide +kernel
theorem dX6_homeTried_1 : decode cX6_homeTried 1 = .ok (.istore_n 1, 1) := by decide +kernel
theorem dX6_homeTried_2 : decode cX6_homeTried 2 = .ok (.iconst 0, 1) := by decide +kernel
theorem dX6_homeTried_3 : decode cX6_homeTried 3 = .ok (.istore_n 2, 1) := by decide +kernel
theorem dX6_homeTried_4 : decode cX6_homeTried 4 = .ok (.iload_n 2, 1) := by decide +kernel
theorem dX6_homeTried_5 : decode cX6_homeTried 5 = .ok (.aload_n 0, 1) := by decide +kernel
theorem dX6_homeTried_6 : decode cX6_homeTried 6 = .ok (.invokevirtual 66, 3) := by decide +kernel
theorem dX6_homeTried_9 : decode cX6_homeTried 9 = .ok (.if_icmp .ge 48, 3) := by decide +kernel
theorem dX6_homeTried_12 : decode cX6_homeTried 12 = .ok (.iload_n 1, 1) := by decide +kernel
theorem dX6_homeTried_13 : decode cX6_homeTried 13 = .ok (.aload_n 0, 1) := by decide +kernel
theorem dX6_homeTried_14 : decode cX6_homeTried 14 = .ok (.getfield 7, 3) := by decide +kernel
theorem dX6_homeTried_17 : decode cX6_homeTried 17 = .ok (.bipush 23, 2) := by decide +kernel
theorem dX6_homeTried_19 : decode cX6_homeTried 19 = .ok (.iload_n 2, 1) := by decide +kernel
theorem dX6_homeTried_20 : decode cX6_homeTried 20 = .ok (.iadd, 1) := by decide +kernel
theorem dX6_homeTried_21 : decode cX6_homeTried 21 = .ok (.iaload, 1) := by decide +kernel
theorem dX6_homeTried_22 : decode cX6_homeTried 22 = .ok (.iconst (-1), 1) := by decide +kernel
theorem dX6_homeTried_23 : decode cX6_homeTried 23 = .ok (.if_icmp .eq 21, 3) := by decide +kernel
theorem dX6_homeTried_26 : decode cX6_homeTried 26 = .ok (.aload_n 0, 1) := by decide +kernel
theorem dX6_homeTried_27 : decode cX6_homeTried 27 = .ok (.getfield 7, 3) := by decide +kernel
theorem dX6_homeTried_30 : decode cX6_homeTried 30 = .ok (.bipush 23, 2) := by decide +kernel
theorem dX6_homeTried_32 : decode cX6_homeTried 32 = .ok (.iload_n 2, 1) := by decide +kernel
theorem dX6_homeTried_33 : decode cX6_homeTried 33 = .ok (.iadd, 1) := by decide +kernel
theorem dX6_homeTried_34 : decode cX6_homeTried 34 = .ok (.iaload, 1) := by decide +kernel
theorem dX6_homeTried_35 : decode cX6_homeTried 35 = .ok (.aload_n 0, 1) := by decide +kernel
theorem dX6_homeTried_36 : decode cX6_homeTried 36 = .ok (.getfield 33, 3) := by decide +kernel
theorem dX6_homeTried_39 : decode cX6_homeTried 39 = .ok (.iload_n 2, 1) := by decide +kernel
theorem dX6_homeTried_40 : decode cX6_homeTried 40 = .ok (.iaload, 1) := by decide +kernel
theorem dX6_homeTried_41 : decode cX6_homeTried 41 = .ok (.if_icmp .ne 7, 3) := by decide +kernel
theorem dX6_homeTried_44 : decode cX6_homeTried 44 = .ok (.iconst 1, 1) := by decide +kernel
theorem dX6_homeTried_45 : decode cX6_homeTried 45 = .ok (.goto 4, 3) := by decide +kernel
theorem dX6_homeTried_48 : decode cX6_homeTried 48 = .ok (.iconst 0, 1) := by decide +kernel
theorem dX6_homeTried_49 : decode cX6_homeTried 49 = .ok (.iadd, 1) := by decide +kernel
theorem dX6_homeTried_50 : decode cX6_homeTried 50 = .ok (.istore_n 1, 1) := by decide +kernel
theorem dX6_homeTried_51 : decode cX6_homeTried 51 = .ok (.iinc 2 1, 3) := by decide +kernel
theorem dX6_homeTried_54 : decode cX6_homeTried 54 = .ok (.goto (-50), 3) := by decide +kernel
theorem dX6_homeTried_57 : decode cX6_homeTried 57 = .ok (.iload_n 1, 1) := by decide +kernel
theorem dX6_homeTried_58 : decode cX6_homeTried 58 = .ok (.ireturn, 1) := by decide +kernel
theorem dX6_homes_0 : decode cX6_homes 0 = .ok (.aload_n 0, 1) := by decide +kernel
theorem dX6_homes_1 : decode cX6_homes 1 = .ok (.invokevirtual 121, 3) := by decide +kernel
theorem dX6_homes_4 : decode cX6_homes 4 = .ok (.aload_n 0, 1) := by decide +kernel
theorem dX6_homes_5 : decode cX6_homes 5 = .ok (.invokevirtual 124, 3) := by decide +kernel
theorem dX6_homes_8 : decode cX6_homes 8 = .ok (.ireturn, 1) := by decide +kernel
theorem dX6_isOpen_0 : decode cX6_isOpen 0 = .ok (.aload_n 0, 1) := by decide +kernel
theorem dX6_isOpen_1 : decode cX6_isOpen 1 = .ok (.getfield 7, 3) := by decide +kernel
theorem dX6_isOpen_4 : decode cX6_isOpen 4 = .ok (.bipush 8, 2) := by decide +kernel
theorem dX6_isOpen_6 : decode cX6_isOpen 6 = .ok (.iload_n 1, 1) := by decide +kernel
theorem dX6_isOpen_7 : decode cX6_isOpen 7 = .ok (.iconst 2, 1) := by decide +kernel
theorem dX6_isOpen_8 : decode cX6_isOpen 8 = .ok (.idiv, 1) := by decide +kernel
theorem dX6_isOpen_9 : decode cX6_isOpen 9 = .ok (.iadd, 1) := by decide +kernel
theorem dX6_isOpen_10 : decode cX6_isOpen 10 = .ok (.iaload, 1) := by decide +kernel
theorem dX6_isOpen_11 : decode cX6_isOpen 11 = .ok (.ifCond .ne 7, 3) := by decide +kernel
theorem dX6_isOpen_14 : decode cX6_isOpen 14 = .ok (.iconst 1, 1) := by decide +kernel
theorem dX6_isOpen_15 : decode cX6_isOpen 15 = .ok (.goto 4, 3) := by decide +kernel
theorem dX6_isOpen_18 : decode cX6_isOpen 18 = .ok (.iconst 0, 1) := by decide +kernel
theorem dX6_isOpen_19 : decode cX6_isOpen 19 = .ok (.ireturn, 1) := by decide +kernel
theorem dX6_makes_0 : decode cX6_makes 0 = .ok (.aload_n 0, 1) := by decide +kernel
theorem dX6_makes_1 : decode cX6_makes 1 = .ok (.invokevirtual 121, 3) := by decide +kernel
theorem dX6_makes_4 : decode cX6_makes 4 = .ok (.aload_n 0, 1) := by decide +kernel
theorem dX6_makes_5 : decode cX6_makes 5 = .ok (.iload_n 1, 1) := by decide +kernel
theorem dX6_makes_6 : decode cX6_makes 6 = .ok (.invokevirtual 127, 3) := by decide +kernel
theorem dX6_makes_9 : decode cX6_makes 9 = .ok (.aload_n 0, 1) := by decide +kernel
theorem dX6_makes_10 : decode cX6_makes 10 = .ok (.invokevirtual 131, 3) := by decide +kernel
theorem dX6_makes_13 : decode cX6_makes 13 = .ok (.aload_n 0, 1) := by decide +kernel
theorem dX6_makes_14 : decode cX6_makes 14 = .ok (.getfield 7, 3) := by decide +kernel
theorem dX6_makes_17 : decode cX6_makes 17 = .ok (.iconst 2, 1) := by decide +kernel
theorem dX6_makes_18 : decode cX6_makes 18 = .ok (.dup2, 1) := by decide +kernel
theorem dX6_makes_19 : decode cX6_makes 19 = .ok (.iaload, 1) := by decide +kernel
theorem dX6_makes_20 : decode cX6_makes 20 = .ok (.iconst 1, 1) := by decide +kernel
theorem dX6_makes_21 : decode cX6_makes 21 = .ok (.iadd, 1) := by decide +kernel
theorem dX6_makes_22 : decode cX6_makes 22 = .ok (.iastore, 1) := by decide +kernel
theorem dX6_makes_23 : decode cX6_makes 23 = .ok (.aload_n 0, 1) := by decide +kernel
theorem dX6_makes_24 : decode cX6_makes 24 = .ok (.invokevirtual 124, 3) := by decide +kernel
theorem dX6_makes_27 : decode cX6_makes 27 = .ok (.ireturn, 1) := by decide +kernel
theorem dX6_makesByHand_0 : decode cX6_makesByHand 0 = .ok (.aload_n 0, 1) := by decide +kernel
theorem dX6_makesByHand_1 : decode cX6_makesByHand 1 = .ok (.invokevirtual 134, 3) := by decide +kernel
theorem dX6_makesByHand_4 : decode cX6_makesByHand 4 = .ok (.istore_n 2, 1) := by decide +kernel
theorem dX6_makesByHand_5 : decode cX6_makesByHand 5 = .ok (.aload_n 0, 1) := by decide +kernel
theorem dX6_makesByHand_6 : decode cX6_makesByHand 6 = .ok (.iload_n 1, 1) := by decide +kernel
theorem dX6_makesByHand_7 : decode cX6_makesByHand 7 = .ok (.invokevirtual 137, 3) := by decide +kernel
theorem dX6_makesByHand_10 : decode cX6_makesByHand 10 = .ok (.istore_n 3, 1) := by decide +kernel
theorem dX6_makesByHand_11 : decode cX6_makesByHand 11 = .ok (.aload_n 0, 1) := by decide +kernel
theorem dX6_makesByHand_12 : decode cX6_makesByHand 12 = .ok (.getfield 7, 3) := by decide +kernel
theorem dX6_makesByHand_15 : decode cX6_makesByHand 15 = .ok (.bipush 7, 2) := by decide +kernel
theorem dX6_makesByHand_17 : decode cX6_makesByHand 17 = .ok (.dup2, 1) := by decide +kernel
theorem dX6_makesByHand_18 : decode cX6_makesByHand 18 = .ok (.iaload, 1) := by decide +kernel
theorem dX6_makesByHand_19 : decode cX6_makesByHand 19 = .ok (.iload_n 3, 1) := by decide +kernel
theorem dX6_makesByHand_20 : decode cX6_makesByHand 20 = .ok (.aload_n 0, 1) := by decide +kernel
theorem dX6_makesByHand_21 : decode cX6_makesByHand 21 = .ok (.invokevirtual 66, 3) := by decide +kernel
theorem dX6_makesByHand_24 : decode cX6_makesByHand 24 = .ok (.if_icmp .ne 12, 3) := by decide +kernel
theorem dX6_makesByHand_27 : decode cX6_makesByHand 27 = .ok (.iload_n 2, 1) := by decide +kernel
theorem dX6_makesByHand_28 : decode cX6_makesByHand 28 = .ok (.iload_n 3, 1) := by decide +kernel
theorem dX6_makesByHand_29 : decode cX6_makesByHand 29 = .ok (.if_icmp .ge 7, 3) := by decide +kernel
theorem dX6_makesByHand_32 : decode cX6_makesByHand 32 = .ok (.iconst 1, 1) := by decide +kernel
theorem dX6_makesByHand_33 : decode cX6_makesByHand 33 = .ok (.goto 4, 3) := by decide +kernel
theorem dX6_makesByHand_36 : decode cX6_makesByHand 36 = .ok (.iconst 0, 1) := by decide +kernel
theorem dX6_makesByHand_37 : decode cX6_makesByHand 37 = .ok (.iadd, 1) := by decide +kernel
theorem dX6_makesByHand_38 : decode cX6_makesByHand 38 = .ok (.iastore, 1) := by decide +kernel
theorem dX6_makesByHand_39 : decode cX6_makesByHand 39 = .ok (.iload_n 3, 1) := by decide +kernel
theorem dX6_makesByHand_40 : decode cX6_makesByHand 40 = .ok (.ireturn, 1) := by decide +kernel
theorem dX6_turnsOne_0 : decode cX6_turnsOne 0 = .ok (.aload_n 0, 1) := by decide +kernel
theorem dX6_turnsOne_1 : decode cX6_turnsOne 1 = .ok (.iload_n 1, 1) := by decide +kernel
theorem dX6_turnsOne_2 : decode cX6_turnsOne 2 = .ok (.invokevirtual 140, 3) := by decide +kernel
theorem dX6_turnsOne_5 : decode cX6_turnsOne 5 = .ok (.ifCond .ne 9, 3) := by decide +kernel
theorem dX6_turnsOne_8 : decode cX6_turnsOne 8 = .ok (.aload_n 0, 1) := by decide +kernel
theorem dX6_turnsOne_9 : decode cX6_turnsOne 9 = .ok (.iconst 1, 1) := by decide +kernel
theorem dX6_turnsOne_10 : decode cX6_turnsOne 10 = .ok (.invokevirtual 77, 3) := by decide +kernel
theorem dX6_turnsOne_13 : decode cX6_turnsOne 13 = .ok (.ireturn, 1) := by decide +kernel
theorem dX6_turnsOne_14 : decode cX6_turnsOne 14 = .ok (.aload_n 0, 1) := by decide +kernel
theorem dX6_turnsOne_15 : decode cX6_turnsOne 15 = .ok (.iload_n 1, 1) := by decide +kernel
theorem dX6_turnsOne_16 : decode cX6_turnsOne 16 = .ok (.invokevirtual 143, 3) := by decide +kernel
theorem dX6_turnsOne_19 : decode cX6_turnsOne 19 = .ok (.ifCond .eq 15, 3) := by decide +kernel
theorem dX6_turnsOne_22 : decode cX6_turnsOne 22 = .ok (.aload_n 0, 1) := by decide +kernel
theorem dX6_turnsOne_23 : decode cX6_turnsOne 23 = .ok (.aload_n 0, 1) := by decide +kernel
theorem dX6_turnsOne_24 : decode cX6_turnsOne 24 = .ok (.iload_n 1, 1) := by decide +kernel
theorem dX6_turnsOne_25 : decode cX6_turnsOne 25 = .ok (.invokevirtual 146, 3) := by decide +kernel
theorem dX6_turnsOne_28 : decode cX6_turnsOne 28 = .ok (.invokevirtual 81, 3) := by decide +kernel
theorem dX6_turnsOne_31 : decode cX6_turnsOne 31 = .ok (.goto 12, 3) := by decide +kernel
theorem dX6_turnsOne_34 : decode cX6_turnsOne 34 = .ok (.aload_n 0, 1) := by decide +kernel
theorem dX6_turnsOne_35 : decode cX6_turnsOne 35 = .ok (.iconst 1, 1) := by decide +kernel
theorem dX6_turnsOne_36 : decode cX6_turnsOne 36 = .ok (.iload_n 1, 1) := by decide +kernel
theorem dX6_turnsOne_37 : decode cX6_turnsOne 37 = .ok (.iconst 2, 1) := by decide +kernel
theorem dX6_turnsOne_38 : decode cX6_turnsOne 38 = .ok (.idiv, 1) := by decide +kernel
theorem dX6_turnsOne_39 : decode cX6_turnsOne 39 = .ok (.iconst 2, 1) := by decide +kernel
theorem dX6_turnsOne_40 : decode cX6_turnsOne 40 = .ok (.invokevirtual 94, 3) := by decide +kernel
theorem dX6_turnsOne_43 : decode cX6_turnsOne 43 = .ok (.ireturn, 1) := by decide +kernel
theorem dX6_turn_0 : decode cX6_turn 0 = .ok (.aload_n 0, 1) := by decide +kernel
theorem dX6_turn_1 : decode cX6_turn 1 = .ok (.invokevirtual 84, 3) := by decide +kernel
theorem dX6_turn_4 : decode cX6_turn 4 = .ok (.aload_n 0, 1) := by decide +kernel
theorem dX6_turn_5 : decode cX6_turn 5 = .ok (.aload_n 0, 1) := by decide +kernel
theorem dX6_turn_6 : decode cX6_turn 6 = .ok (.iload_n 1, 1) := by decide +kernel
theorem dX6_turn_7 : decode cX6_turn 7 = .ok (.invokevirtual 149, 3) := by decide +kernel
theorem dX6_turn_10 : decode cX6_turn 10 = .ok (.invokevirtual 91, 3) := by decide +kernel
theorem dX6_turn_13 : decode cX6_turn 13 = .ok (.ireturn, 1) := by decide +kernel
theorem dX6_swaps_0 : decode cX6_swaps 0 = .ok (.aload_n 0, 1) := by decide +kernel
theorem dX6_swaps_1 : decode cX6_swaps 1 = .ok (.iload_n 1, 1) := by decide +kernel
theorem dX6_swaps_2 : decode cX6_swaps 2 = .ok (.invokevirtual 102, 3) := by decide +kernel
theorem dX6_swaps_5 : decode cX6_swaps 5 = .ok (.ifCond .eq 11, 3) := by decide +kernel
theorem dX6_swaps_8 : decode cX6_swaps 8 = .ok (.aload_n 0, 1) := by decide +kernel
theorem dX6_swaps_9 : decode cX6_swaps 9 = .ok (.iload_n 2, 1) := by decide +kernel
theorem dX6_swaps_10 : decode cX6_swaps 10 = .ok (.invokevirtual 102, 3) := by decide +kernel
theorem dX6_swaps_13 : decode cX6_swaps 13 = .ok (.ifCond .ne 9, 3) := by decide +kernel
theorem dX6_swaps_16 : decode cX6_swaps 16 = .ok (.aload_n 0, 1) := by decide +kernel
theorem dX6_swaps_17 : decode cX6_swaps 17 = .ok (.iconst 1, 1) := by decide +kernel
theorem dX6_swaps_18 : decode cX6_swaps 18 = .ok (.invokevirtual 77, 3) := by decide +kernel
theorem dX6_swaps_21 : decode cX6_swaps 21 = .ok (.ireturn, 1) := by decide +kernel
theorem dX6_swaps_22 : decode cX6_swaps 22 = .ok (.iload_n 1, 1) := by decide +kernel
theorem dX6_swaps_23 : decode cX6_swaps 23 = .ok (.iload_n 2, 1) := by decide +kernel
theorem dX6_swaps_24 : decode cX6_swaps 24 = .ok (.if_icmp .ne 11, 3) := by decide +kernel
theorem dX6_swaps_27 : decode cX6_swaps 27 = .ok (.aload_n 0, 1) := by decide +kernel
theorem dX6_swaps_28 : decode cX6_swaps 28 = .ok (.iconst 3, 1) := by decide +kernel
theorem dX6_swaps_29 : decode cX6_swaps 29 = .ok (.iload_n 1, 1) := by decide +kernel
theorem dX6_swaps_30 : decode cX6_swaps 30 = .ok (.iconst 2, 1) := by decide +kernel
theorem dX6_swaps_31 : decode cX6_swaps 31 = .ok (.invokevirtual 94, 3) := by decide +kernel
theorem dX6_swaps_34 : decode cX6_swaps 34 = .ok (.ireturn, 1) := by decide +kernel
theorem dX6_swaps_35 : decode cX6_swaps 35 = .ok (.aload_n 0, 1) := by decide +kernel
theorem dX6_swaps_36 : decode cX6_swaps 36 = .ok (.getfield 7, 3) := by decide +kernel
theorem dX6_swaps_39 : decode cX6_swaps 39 = .ok (.bipush 14, 2) := by decide +kernel
theorem dX6_swaps_41 : decode cX6_swaps 41 = .ok (.iload_n 1, 1) := by decide +kernel
theorem dX6_swaps_42 : decode cX6_swaps 42 = .ok (.iadd, 1) := by decide +kernel
theorem dX6_swaps_43 : decode cX6_swaps 43 = .ok (.iaload, 1) := by decide +kernel
theorem dX6_swaps_44 : decode cX6_swaps 44 = .ok (.istore_n 3, 1) := by decide +kernel
theorem dX6_swaps_45 : decode cX6_swaps 45 = .ok (.aload_n 0, 1) := by decide +kernel
theorem dX6_swaps_46 : decode cX6_swaps 46 = .ok (.getfield 7, 3) := by decide +kernel
theorem dX6_swaps_49 : decode cX6_swaps 49 = .ok (.bipush 14, 2) := by decide +kernel
theorem dX6_swaps_51 : decode cX6_swaps 51 = .ok (.iload_n 1, 1) := by decide +kernel
theorem dX6_swaps_52 : decode cX6_swaps 52 = .ok (.iadd, 1) := by decide +kernel
theorem dX6_swaps_53 : decode cX6_swaps 53 = .ok (.aload_n 0, 1) := by decide +kernel
theorem dX6_swaps_54 : decode cX6_swaps 54 = .ok (.getfield 7, 3) := by decide +kernel
theorem dX6_swaps_57 : decode cX6_swaps 57 = .ok (.bipush 14, 2) := by decide +kernel
theorem dX6_swaps_59 : decode cX6_swaps 59 = .ok (.iload_n 2, 1) := by decide +kernel
theorem dX6_swaps_60 : decode cX6_swaps 60 = .ok (.iadd, 1) := by decide +kernel
theorem dX6_swaps_61 : decode cX6_swaps 61 = .ok (.iaload, 1) := by decide +kernel
theorem dX6_swaps_62 : decode cX6_swaps 62 = .ok (.iastore, 1) := by decide +kernel
theorem dX6_swaps_63 : decode cX6_swaps 63 = .ok (.aload_n 0, 1) := by decide +kernel
theorem dX6_swaps_64 : decode cX6_swaps 64 = .ok (.getfield 7, 3) := by decide +kernel
theorem dX6_swaps_67 : decode cX6_swaps 67 = .ok (.bipush 14, 2) := by decide +kernel
theorem dX6_swaps_69 : decode cX6_swaps 69 = .ok (.iload_n 2, 1) := by decide +kernel
theorem dX6_swaps_70 : decode cX6_swaps 70 = .ok (.iadd, 1) := by decide +kernel
theorem dX6_swaps_71 : decode cX6_swaps 71 = .ok (.iload_n 3, 1) := by decide +kernel
theorem dX6_swaps_72 : decode cX6_swaps 72 = .ok (.iastore, 1) := by decide +kernel
theorem dX6_swaps_73 : decode cX6_swaps 73 = .ok (.aload_n 0, 1) := by decide +kernel
theorem dX6_swaps_74 : decode cX6_swaps 74 = .ok (.getfield 7, 3) := by decide +kernel
theorem dX6_swaps_77 : decode cX6_swaps 77 = .ok (.iconst 3, 1) := by decide +kernel
theorem dX6_swaps_78 : decode cX6_swaps 78 = .ok (.dup2, 1) := by decide +kernel
theorem dX6_swaps_79 : decode cX6_swaps 79 = .ok (.iaload, 1) := by decide +kernel
theorem dX6_swaps_80 : decode cX6_swaps 80 = .ok (.iconst 1, 1) := by decide +kernel
theorem dX6_swaps_81 : decode cX6_swaps 81 = .ok (.iadd, 1) := by decide +kernel
theorem dX6_swaps_82 : decode cX6_swaps 82 = .ok (.iastore, 1) := by decide +kernel
theorem dX6_swaps_83 : decode cX6_swaps 83 = .ok (.aload_n 0, 1) := by decide +kernel
theorem dX6_swaps_84 : decode cX6_swaps 84 = .ok (.aload_n 0, 1) := by decide +kernel
theorem dX6_swaps_85 : decode cX6_swaps 85 = .ok (.invokevirtual 134, 3) := by decide +kernel
theorem dX6_swaps_88 : decode cX6_swaps 88 = .ok (.invokevirtual 81, 3) := by decide +kernel
theorem dX6_swaps_91 : decode cX6_swaps 91 = .ok (.ireturn, 1) := by decide +kernel
theorem dX6_swap_0 : decode cX6_swap 0 = .ok (.aload_n 0, 1) := by decide +kernel
theorem dX6_swap_1 : decode cX6_swap 1 = .ok (.invokevirtual 84, 3) := by decide +kernel
theorem dX6_swap_4 : decode cX6_swap 4 = .ok (.aload_n 0, 1) := by decide +kernel
theorem dX6_swap_5 : decode cX6_swap 5 = .ok (.aload_n 0, 1) := by decide +kernel
theorem dX6_swap_6 : decode cX6_swap 6 = .ok (.iload_n 1, 1) := by decide +kernel
theorem dX6_swap_7 : decode cX6_swap 7 = .ok (.iload_n 2, 1) := by decide +kernel
theorem dX6_swap_8 : decode cX6_swap 8 = .ok (.invokevirtual 152, 3) := by decide +kernel
theorem dX6_swap_11 : decode cX6_swap 11 = .ok (.invokevirtual 91, 3) := by decide +kernel
theorem dX6_swap_14 : decode cX6_swap 14 = .ok (.ireturn, 1) := by decide +kernel
theorem dX6_bars_0 : decode cX6_bars 0 = .ok (.aload_n 0, 1) := by decide +kernel
theorem dX6_bars_1 : decode cX6_bars 1 = .ok (.iload_n 1, 1) := by decide +kernel
theorem dX6_bars_2 : decode cX6_bars 2 = .ok (.invokevirtual 155, 3) := by decide +kernel
theorem dX6_bars_5 : decode cX6_bars 5 = .ok (.ifCond .ne 9, 3) := by decide +kernel
theorem dX6_bars_8 : decode cX6_bars 8 = .ok (.aload_n 0, 1) := by decide +kernel
theorem dX6_bars_9 : decode cX6_bars 9 = .ok (.iconst 1, 1) := by decide +kernel
theorem dX6_bars_10 : decode cX6_bars 10 = .ok (.invokevirtual 77, 3) := by decide +kernel
theorem dX6_bars_13 : decode cX6_bars 13 = .ok (.ireturn, 1) := by decide +kernel
theorem dX6_bars_14 : decode cX6_bars 14 = .ok (.aload_n 0, 1) := by decide +kernel
theorem dX6_bars_15 : decode cX6_bars 15 = .ok (.getfield 7, 3) := by decide +kernel
theorem dX6_bars_18 : decode cX6_bars 18 = .ok (.bipush 8, 2) := by decide +kernel
theorem dX6_bars_20 : decode cX6_bars 20 = .ok (.iload_n 1, 1) := by decide +kernel
theorem dX6_bars_21 : decode cX6_bars 21 = .ok (.iadd, 1) := by decide +kernel
theorem dX6_bars_22 : decode cX6_bars 22 = .ok (.iconst 1, 1) := by decide +kernel
theorem dX6_bars_23 : decode cX6_bars 23 = .ok (.aload_n 0, 1) := by decide +kernel
theorem dX6_bars_24 : decode cX6_bars 24 = .ok (.getfield 7, 3) := by decide +kernel
theorem dX6_bars_27 : decode cX6_bars 27 = .ok (.bipush 8, 2) := by decide +kernel
theorem dX6_bars_29 : decode cX6_bars 29 = .ok (.iload_n 1, 1) := by decide +kernel
theorem dX6_bars_30 : decode cX6_bars 30 = .ok (.iadd, 1) := by decide +kernel
theorem dX6_bars_31 : decode cX6_bars 31 = .ok (.iaload, 1) := by decide +kernel
theorem dX6_bars_32 : decode cX6_bars 32 = .ok (.isub, 1) := by decide +kernel
theorem dX6_bars_33 : decode cX6_bars 33 = .ok (.iastore, 1) := by decide +kernel
theorem dX6_bars_34 : decode cX6_bars 34 = .ok (.aload_n 0, 1) := by decide +kernel
theorem dX6_bars_35 : decode cX6_bars 35 = .ok (.aload_n 0, 1) := by decide +kernel
theorem dX6_bars_36 : decode cX6_bars 36 = .ok (.getfield 7, 3) := by decide +kernel
theorem dX6_bars_39 : decode cX6_bars 39 = .ok (.bipush 8, 2) := by decide +kernel
theorem dX6_bars_41 : decode cX6_bars 41 = .ok (.iload_n 1, 1) := by decide +kernel
theorem dX6_bars_42 : decode cX6_bars 42 = .ok (.iadd, 1) := by decide +kernel
theorem dX6_bars_43 : decode cX6_bars 43 = .ok (.iaload, 1) := by decide +kernel
theorem dX6_bars_44 : decode cX6_bars 44 = .ok (.invokevirtual 81, 3) := by decide +kernel
theorem dX6_bars_47 : decode cX6_bars 47 = .ok (.ireturn, 1) := by decide +kernel
theorem dX6_bar_0 : decode cX6_bar 0 = .ok (.aload_n 0, 1) := by decide +kernel
theorem dX6_bar_1 : decode cX6_bar 1 = .ok (.invokevirtual 84, 3) := by decide +kernel
theorem dX6_bar_4 : decode cX6_bar 4 = .ok (.aload_n 0, 1) := by decide +kernel
theorem dX6_bar_5 : decode cX6_bar 5 = .ok (.aload_n 0, 1) := by decide +kernel
theorem dX6_bar_6 : decode cX6_bar 6 = .ok (.iload_n 1, 1) := by decide +kernel
theorem dX6_bar_7 : decode cX6_bar 7 = .ok (.invokevirtual 158, 3) := by decide +kernel
theorem dX6_bar_10 : decode cX6_bar 10 = .ok (.invokevirtual 91, 3) := by decide +kernel
theorem dX6_bar_13 : decode cX6_bar 13 = .ok (.iconst 1, 1) := by decide +kernel
theorem dX6_bar_14 : decode cX6_bar 14 = .ok (.if_icmp .ne 7, 3) := by decide +kernel
theorem dX6_bar_17 : decode cX6_bar 17 = .ok (.iconst 1, 1) := by decide +kernel
theorem dX6_bar_18 : decode cX6_bar 18 = .ok (.goto 4, 3) := by decide +kernel
theorem dX6_bar_21 : decode cX6_bar 21 = .ok (.iconst 0, 1) := by decide +kernel
theorem dX6_bar_22 : decode cX6_bar 22 = .ok (.ireturn, 1) := by decide +kernel
theorem dX6_scrambles_0 : decode cX6_scrambles 0 = .ok (.iload_n 1, 1) := by decide +kernel
theorem dX6_scrambles_1 : decode cX6_scrambles 1 = .ok (.iconst 0, 1) := by decide +kernel
theorem dX6_scrambles_2 : decode cX6_scrambles 2 = .ok (.sipush 999, 3) := by decide +kernel
theorem dX6_scrambles_5 : decode cX6_scrambles 5 = .ok (.invokestatic 70, 3) := by decide +kernel
theorem dX6_scrambles_8 : decode cX6_scrambles 8 = .ok (.ifCond .eq 13, 3) := by decide +kernel
theorem dX6_scrambles_11 : decode cX6_scrambles 11 = .ok (.iload_n 2, 1) := by decide +kernel
theorem dX6_scrambles_12 : decode cX6_scrambles 12 = .ok (.iconst 1, 1) := by decide +kernel
theorem dX6_scrambles_13 : decode cX6_scrambles 13 = .ok (.bipush 9, 2) := by decide +kernel
theorem dX6_scrambles_15 : decode cX6_scrambles 15 = .ok (.invokestatic 70, 3) := by decide +kernel
theorem dX6_scrambles_18 : decode cX6_scrambles 18 = .ok (.ifCond .ne 9, 3) := by decide +kernel
theorem dX6_scrambles_21 : decode cX6_scrambles 21 = .ok (.aload_n 0, 1) := by decide +kernel
theorem dX6_scrambles_22 : decode cX6_scrambles 22 = .ok (.iconst 1, 1) := by decide +kernel
theorem dX6_scrambles_23 : decode cX6_scrambles 23 = .ok (.invokevirtual 77, 3) := by decide +kernel
theorem dX6_scrambles_26 : decode cX6_scrambles 26 = .ok (.ireturn, 1) := by decide +kernel
theorem dX6_scrambles_27 : decode cX6_scrambles 27 = .ok (.iload_n 1, 1) := by decide +kernel
theorem dX6_scrambles_28 : decode cX6_scrambles 28 = .ok (.istore_n 3, 1) := by decide +kernel
theorem dX6_scrambles_29 : decode cX6_scrambles 29 = .ok (.iconst 0, 1) := by decide +kernel
theorem dX6_scrambles_30 : decode cX6_scrambles 30 = .ok (.istore 4, 2) := by decide +kernel
theorem dX6_scrambles_32 : decode cX6_scrambles 32 = .ok (.iconst 0, 1) := by decide +kernel
theorem dX6_scrambles_33 : decode cX6_scrambles 33 = .ok (.istore 5, 2) := by decide +kernel
theorem dX6_scrambles_35 : decode cX6_scrambles 35 = .ok (.iload 5, 2) := by decide +kernel
theorem dX6_scrambles_37 : decode cX6_scrambles 37 = .ok (.iload_n 2, 1) := by decide +kernel
theorem dX6_scrambles_38 : decode cX6_scrambles 38 = .ok (.if_icmp .ge 51, 3) := by decide +kernel
theorem dX6_scrambles_41 : decode cX6_scrambles 41 = .ok (.bipush 73, 2) := by decide +kernel
theorem dX6_scrambles_43 : decode cX6_scrambles 43 = .ok (.iload_n 3, 1) := by decide +kernel
theorem dX6_scrambles_44 : decode cX6_scrambles 44 = .ok (.imul, 1) := by decide +kernel
theorem dX6_scrambles_45 : decode cX6_scrambles 45 = .ok (.bipush 41, 2) := by decide +kernel
theorem dX6_scrambles_47 : decode cX6_scrambles 47 = .ok (.iadd, 1) := by decide +kernel
theorem dX6_scrambles_48 : decode cX6_scrambles 48 = .ok (.sipush 1000, 3) := by decide +kernel
theorem dX6_scrambles_51 : decode cX6_scrambles 51 = .ok (.irem, 1) := by decide +kernel
theorem dX6_scrambles_52 : decode cX6_scrambles 52 = .ok (.istore_n 3, 1) := by decide +kernel
theorem dX6_scrambles_53 : decode cX6_scrambles 53 = .ok (.iload_n 3, 1) := by decide +kernel
theorem dX6_scrambles_54 : decode cX6_scrambles 54 = .ok (.iconst 2, 1) := by decide +kernel
theorem dX6_scrambles_55 : decode cX6_scrambles 55 = .ok (.aload_n 0, 1) := by decide +kernel
theorem dX6_scrambles_56 : decode cX6_scrambles 56 = .ok (.invokevirtual 74, 3) := by decide +kernel
theorem dX6_scrambles_59 : decode cX6_scrambles 59 = .ok (.imul, 1) := by decide +kernel
theorem dX6_scrambles_60 : decode cX6_scrambles 60 = .ok (.irem, 1) := by decide +kernel
theorem dX6_scrambles_61 : decode cX6_scrambles 61 = .ok (.istore 6, 2) := by decide +kernel
theorem dX6_scrambles_63 : decode cX6_scrambles 63 = .ok (.aload_n 0, 1) := by decide +kernel
theorem dX6_scrambles_64 : decode cX6_scrambles 64 = .ok (.iload 6, 2) := by decide +kernel
theorem dX6_scrambles_66 : decode cX6_scrambles 66 = .ok (.invokevirtual 143, 3) := by decide +kernel
theorem dX6_scrambles_69 : decode cX6_scrambles 69 = .ok (.ifCond .eq 14, 3) := by decide +kernel
theorem dX6_scrambles_72 : decode cX6_scrambles 72 = .ok (.aload_n 0, 1) := by decide +kernel
theorem dX6_scrambles_73 : decode cX6_scrambles 73 = .ok (.iload 6, 2) := by decide +kernel
theorem dX6_scrambles_75 : decode cX6_scrambles 75 = .ok (.invokevirtual 137, 3) := by decide +kernel
theorem dX6_scrambles_78 : decode cX6_scrambles 78 = .ok (.istore 7, 2) := by decide +kernel
theorem dX6_scrambles_80 : decode cX6_scrambles 80 = .ok (.iinc 4 1, 3) := by decide +kernel
theorem dX6_scrambles_83 : decode cX6_scrambles 83 = .ok (.iinc 5 1, 3) := by decide +kernel
theorem dX6_scrambles_86 : decode cX6_scrambles 86 = .ok (.goto (-51), 3) := by decide +kernel
theorem dX6_scrambles_89 : decode cX6_scrambles 89 = .ok (.aload_n 0, 1) := by decide +kernel
theorem dX6_scrambles_90 : decode cX6_scrambles 90 = .ok (.getfield 7, 3) := by decide +kernel
theorem dX6_scrambles_93 : decode cX6_scrambles 93 = .ok (.iconst 4, 1) := by decide +kernel
theorem dX6_scrambles_94 : decode cX6_scrambles 94 = .ok (.dup2, 1) := by decide +kernel
theorem dX6_scrambles_95 : decode cX6_scrambles 95 = .ok (.iaload, 1) := by decide +kernel
theorem dX6_scrambles_96 : decode cX6_scrambles 96 = .ok (.iconst 1, 1) := by decide +kernel
theorem dX6_scrambles_97 : decode cX6_scrambles 97 = .ok (.iadd, 1) := by decide +kernel
theorem dX6_scrambles_98 : decode cX6_scrambles 98 = .ok (.iastore, 1) := by decide +kernel
theorem dX6_scrambles_99 : decode cX6_scrambles 99 = .ok (.aload_n 0, 1) := by decide +kernel
theorem dX6_scrambles_100 : decode cX6_scrambles 100 = .ok (.iload 4, 2) := by decide +kernel
theorem dX6_scrambles_102 : decode cX6_scrambles 102 = .ok (.invokevirtual 81, 3) := by decide +kernel
theorem dX6_scrambles_105 : decode cX6_scrambles 105 = .ok (.ireturn, 1) := by decide +kernel
theorem dX6_scramble_0 : decode cX6_scramble 0 = .ok (.aload_n 0, 1) := by decide +kernel
theorem dX6_scramble_1 : decode cX6_scramble 1 = .ok (.invokevirtual 84, 3) := by decide +kernel
theorem dX6_scramble_4 : decode cX6_scramble 4 = .ok (.aload_n 0, 1) := by decide +kernel
theorem dX6_scramble_5 : decode cX6_scramble 5 = .ok (.aload_n 0, 1) := by decide +kernel
theorem dX6_scramble_6 : decode cX6_scramble 6 = .ok (.iload_n 1, 1) := by decide +kernel
theorem dX6_scramble_7 : decode cX6_scramble 7 = .ok (.iload_n 2, 1) := by decide +kernel
theorem dX6_scramble_8 : decode cX6_scramble 8 = .ok (.invokevirtual 161, 3) := by decide +kernel
theorem dX6_scramble_11 : decode cX6_scramble 11 = .ok (.invokevirtual 91, 3) := by decide +kernel
theorem dX6_scramble_14 : decode cX6_scramble 14 = .ok (.ireturn, 1) := by decide +kernel
theorem dX6_leads_0 : decode cX6_leads 0 = .ok (.iconst 2, 1) := by decide +kernel
theorem dX6_leads_1 : decode cX6_leads 1 = .ok (.aload_n 0, 1) := by decide +kernel
theorem dX6_leads_2 : decode cX6_leads 2 = .ok (.invokevirtual 74, 3) := by decide +kernel
theorem dX6_leads_5 : decode cX6_leads 5 = .ok (.imul, 1) := by decide +kernel
theorem dX6_leads_6 : decode cX6_leads 6 = .ok (.istore_n 3, 1) := by decide +kernel
theorem dX6_leads_7 : decode cX6_leads 7 = .ok (.iconst 1, 1) := by decide +kernel
theorem dX6_leads_8 : decode cX6_leads 8 = .ok (.istore 4, 2) := by decide +kernel
theorem dX6_leads_10 : decode cX6_leads 10 = .ok (.iconst 1, 1) := by decide +kernel
theorem dX6_leads_11 : decode cX6_leads 11 = .ok (.istore 5, 2) := by decide +kernel
theorem dX6_leads_13 : decode cX6_leads 13 = .ok (.iload 5, 2) := by decide +kernel
theorem dX6_leads_15 : decode cX6_leads 15 = .ok (.iload_n 2, 1) := by decide +kernel
theorem dX6_leads_16 : decode cX6_leads 16 = .ok (.if_icmp .ge 15, 3) := by decide +kernel
theorem dX6_leads_19 : decode cX6_leads 19 = .ok (.iload 4, 2) := by decide +kernel
theorem dX6_leads_21 : decode cX6_leads 21 = .ok (.iload_n 3, 1) := by decide +kernel
theorem dX6_leads_22 : decode cX6_leads 22 = .ok (.imul, 1) := by decide +kernel
theorem dX6_leads_23 : decode cX6_leads 23 = .ok (.istore 4, 2) := by decide +kernel
theorem dX6_leads_25 : decode cX6_leads 25 = .ok (.iinc 5 1, 3) := by decide +kernel
theorem dX6_leads_28 : decode cX6_leads 28 = .ok (.goto (-15), 3) := by decide +kernel
theorem dX6_leads_31 : decode cX6_leads 31 = .ok (.aload_n 0, 1) := by decide +kernel
theorem dX6_leads_32 : decode cX6_leads 32 = .ok (.iload_n 2, 1) := by decide +kernel
theorem dX6_leads_33 : decode cX6_leads 33 = .ok (.ifCond .ne 7, 3) := by decide +kernel
theorem dX6_leads_36 : decode cX6_leads 36 = .ok (.iconst (-1), 1) := by decide +kernel
theorem dX6_leads_37 : decode cX6_leads 37 = .ok (.goto 7, 3) := by decide +kernel
theorem dX6_leads_40 : decode cX6_leads 40 = .ok (.iload_n 1, 1) := by decide +kernel
theorem dX6_leads_41 : decode cX6_leads 41 = .ok (.iload 4, 2) := by decide +kernel
theorem dX6_leads_43 : decode cX6_leads 43 = .ok (.idiv, 1) := by decide +kernel
theorem dX6_leads_44 : decode cX6_leads 44 = .ok (.putfield 164, 3) := by decide +kernel
theorem dX6_leads_47 : decode cX6_leads 47 = .ok (.aload_n 0, 1) := by decide +kernel
theorem dX6_leads_48 : decode cX6_leads 48 = .ok (.invokevirtual 121, 3) := by decide +kernel
theorem dX6_leads_51 : decode cX6_leads 51 = .ok (.iconst 1, 1) := by decide +kernel
theorem dX6_leads_52 : decode cX6_leads 52 = .ok (.istore 5, 2) := by decide +kernel
theorem dX6_leads_54 : decode cX6_leads 54 = .ok (.iconst 0, 1) := by decide +kernel
theorem dX6_leads_55 : decode cX6_leads 55 = .ok (.istore 6, 2) := by decide +kernel
theorem dX6_leads_57 : decode cX6_leads 57 = .ok (.iload 6, 2) := by decide +kernel
theorem dX6_leads_59 : decode cX6_leads 59 = .ok (.iload_n 2, 1) := by decide +kernel
theorem dX6_leads_60 : decode cX6_leads 60 = .ok (.if_icmp .ge 42, 3) := by decide +kernel
theorem dX6_leads_63 : decode cX6_leads 63 = .ok (.iload 5, 2) := by decide +kernel
theorem dX6_leads_65 : decode cX6_leads 65 = .ok (.ifCond .eq 37, 3) := by decide +kernel
theorem dX6_leads_68 : decode cX6_leads 68 = .ok (.iload_n 1, 1) := by decide +kernel
theorem dX6_leads_69 : decode cX6_leads 69 = .ok (.iload 4, 2) := by decide +kernel
theorem dX6_leads_71 : decode cX6_leads 71 = .ok (.idiv, 1) := by decide +kernel
theorem dX6_leads_72 : decode cX6_leads 72 = .ok (.iload_n 3, 1) := by decide +kernel
theorem dX6_leads_73 : decode cX6_leads 73 = .ok (.irem, 1) := by decide +kernel
theorem dX6_leads_74 : decode cX6_leads 74 = .ok (.istore 7, 2) := by decide +kernel
theorem dX6_leads_76 : decode cX6_leads 76 = .ok (.aload_n 0, 1) := by decide +kernel
theorem dX6_leads_77 : decode cX6_leads 77 = .ok (.iload 7, 2) := by decide +kernel
theorem dX6_leads_79 : decode cX6_leads 79 = .ok (.invokevirtual 143, 3) := by decide +kernel
theorem dX6_leads_82 : decode cX6_leads 82 = .ok (.istore 5, 2) := by decide +kernel
theorem dX6_leads_84 : decode cX6_leads 84 = .ok (.aload_n 0, 1) := by decide +kernel
theorem dX6_leads_85 : decode cX6_leads 85 = .ok (.iload 7, 2) := by decide +kernel
theorem dX6_leads_87 : decode cX6_leads 87 = .ok (.invokevirtual 127, 3) := by decide +kernel
theorem dX6_leads_90 : decode cX6_leads 90 = .ok (.iload 4, 2) := by decide +kernel
theorem dX6_leads_92 : decode cX6_leads 92 = .ok (.iload_n 3, 1) := by decide +kernel
theorem dX6_leads_93 : decode cX6_leads 93 = .ok (.idiv, 1) := by decide +kernel
theorem dX6_leads_94 : decode cX6_leads 94 = .ok (.istore 4, 2) := by decide +kernel
theorem dX6_leads_96 : decode cX6_leads 96 = .ok (.iinc 6 1, 3) := by decide +kernel
theorem dX6_leads_99 : decode cX6_leads 99 = .ok (.goto (-42), 3) := by decide +kernel
theorem dX6_leads_102 : decode cX6_leads 102 = .ok (.iload 5, 2) := by decide +kernel
theorem dX6_leads_104 : decode cX6_leads 104 = .ok (.ifCond .eq 18, 3) := by decide +kernel
theorem dX6_leads_107 : decode cX6_leads 107 = .ok (.aload_n 0, 1) := by decide +kernel
theorem dX6_leads_108 : decode cX6_leads 108 = .ok (.invokevirtual 124, 3) := by decide +kernel
theorem dX6_leads_111 : decode cX6_leads 111 = .ok (.aload_n 0, 1) := by decide +kernel
theorem dX6_leads_112 : decode cX6_leads 112 = .ok (.invokevirtual 66, 3) := by decide +kernel
theorem dX6_leads_115 : decode cX6_leads 115 = .ok (.if_icmp .ne 7, 3) := by decide +kernel
theorem dX6_leads_118 : decode cX6_leads 118 = .ok (.iconst 1, 1) := by decide +kernel
theorem dX6_leads_119 : decode cX6_leads 119 = .ok (.goto 4, 3) := by decide +kernel
theorem dX6_leads_122 : decode cX6_leads 122 = .ok (.iconst 0, 1) := by decide +kernel
theorem dX6_leads_123 : decode cX6_leads 123 = .ok (.ireturn, 1) := by decide +kernel
theorem dX6_shortest_0 : decode cX6_shortest 0 = .ok (.iconst 1, 1) := by decide +kernel
theorem dX6_shortest_1 : decode cX6_shortest 1 = .ok (.istore_n 1, 1) := by decide +kernel
theorem dX6_shortest_2 : decode cX6_shortest 2 = .ok (.iconst 0, 1) := by decide +kernel
theorem dX6_shortest_3 : decode cX6_shortest 3 = .ok (.istore_n 2, 1) := by decide +kernel
theorem dX6_shortest_4 : decode cX6_shortest 4 = .ok (.iload_n 2, 1) := by decide +kernel
theorem dX6_shortest_5 : decode cX6_shortest 5 = .ok (.iconst 4, 1) := by decide +kernel
theorem dX6_shortest_6 : decode cX6_shortest 6 = .ok (.if_icmp .ge 42, 3) := by decide +kernel
theorem dX6_shortest_9 : decode cX6_shortest 9 = .ok (.iconst 0, 1) := by decide +kernel
theorem dX6_shortest_10 : decode cX6_shortest 10 = .ok (.istore_n 3, 1) := by decide +kernel
theorem dX6_shortest_11 : decode cX6_shortest 11 = .ok (.iload_n 3, 1) := by decide +kernel
theorem dX6_shortest_12 : decode cX6_shortest 12 = .ok (.iload_n 1, 1) := by decide +kernel
theorem dX6_shortest_13 : decode cX6_shortest 13 = .ok (.if_icmp .ge 20, 3) := by decide +kernel
theorem dX6_shortest_16 : decode cX6_shortest 16 = .ok (.aload_n 0, 1) := by decide +kernel
theorem dX6_shortest_17 : decode cX6_shortest 17 = .ok (.iload_n 3, 1) := by decide +kernel
theorem dX6_shortest_18 : decode cX6_shortest 18 = .ok (.iload_n 2, 1) := by decide +kernel
theorem dX6_shortest_19 : decode cX6_shortest 19 = .ok (.invokevirtual 167, 3) := by decide +kernel
theorem dX6_shortest_22 : decode cX6_shortest 22 = .ok (.ifCond .eq 5, 3) := by decide +kernel
theorem dX6_shortest_25 : decode cX6_shortest 25 = .ok (.iload_n 2, 1) := by decide +kernel
theorem dX6_shortest_26 : decode cX6_shortest 26 = .ok (.ireturn, 1) := by decide +kernel
theorem dX6_shortest_27 : decode cX6_shortest 27 = .ok (.iinc 3 1, 3) := by decide +kernel
theorem dX6_shortest_30 : decode cX6_shortest 30 = .ok (.goto (-19), 3) := by decide +kernel
theorem dX6_shortest_33 : decode cX6_shortest 33 = .ok (.iload_n 1, 1) := by decide +kernel
theorem dX6_shortest_34 : decode cX6_shortest 34 = .ok (.iconst 2, 1) := by decide +kernel
theorem dX6_shortest_35 : decode cX6_shortest 35 = .ok (.aload_n 0, 1) := by decide +kernel
theorem dX6_shortest_36 : decode cX6_shortest 36 = .ok (.invokevirtual 74, 3) := by decide +kernel
theorem dX6_shortest_39 : decode cX6_shortest 39 = .ok (.imul, 1) := by decide +kernel
theorem dX6_shortest_40 : decode cX6_shortest 40 = .ok (.imul, 1) := by decide +kernel
theorem dX6_shortest_41 : decode cX6_shortest 41 = .ok (.istore_n 1, 1) := by decide +kernel
theorem dX6_shortest_42 : decode cX6_shortest 42 = .ok (.iinc 2 1, 3) := by decide +kernel
theorem dX6_shortest_45 : decode cX6_shortest 45 = .ok (.goto (-41), 3) := by decide +kernel
theorem dX6_shortest_48 : decode cX6_shortest 48 = .ok (.iconst (-1), 1) := by decide +kernel
theorem dX6_shortest_49 : decode cX6_shortest 49 = .ok (.ireturn, 1) := by decide +kernel
theorem dX6_away_0 : decode cX6_away 0 = .ok (.aload_n 0, 1) := by decide +kernel
theorem dX6_away_1 : decode cX6_away 1 = .ok (.invokevirtual 171, 3) := by decide +kernel
theorem dX6_away_4 : decode cX6_away 4 = .ok (.istore_n 2, 1) := by decide +kernel
theorem dX6_away_5 : decode cX6_away 5 = .ok (.iload_n 2, 1) := by decide +kernel
theorem dX6_away_6 : decode cX6_away 6 = .ok (.iconst (-1), 1) := by decide +kernel
theorem dX6_away_7 : decode cX6_away 7 = .ok (.if_icmp .ne 11, 3) := by decide +kernel
theorem dX6_away_10 : decode cX6_away 10 = .ok (.aload_n 0, 1) := by decide +kernel
theorem dX6_away_11 : decode cX6_away 11 = .ok (.iconst 1, 1) := by decide +kernel
theorem dX6_away_12 : decode cX6_away 12 = .ok (.invokevirtual 77, 3) := by decide +kernel
theorem dX6_away_15 : decode cX6_away 15 = .ok (.goto 8, 3) := by decide +kernel
theorem dX6_away_18 : decode cX6_away 18 = .ok (.aload_n 0, 1) := by decide +kernel
theorem dX6_away_19 : decode cX6_away 19 = .ok (.iload_n 2, 1) := by decide +kernel
theorem dX6_away_20 : decode cX6_away 20 = .ok (.invokevirtual 81, 3) := by decide +kernel
theorem dX6_away_23 : decode cX6_away 23 = .ok (.ireturn, 1) := by decide +kernel
theorem dX6_firstTurn_0 : decode cX6_firstTurn 0 = .ok (.aload_n 0, 1) := by decide +kernel
theorem dX6_firstTurn_1 : decode cX6_firstTurn 1 = .ok (.invokevirtual 171, 3) := by decide +kernel
theorem dX6_firstTurn_4 : decode cX6_firstTurn 4 = .ok (.istore_n 1, 1) := by decide +kernel
theorem dX6_firstTurn_5 : decode cX6_firstTurn 5 = .ok (.iload_n 1, 1) := by decide +kernel
theorem dX6_firstTurn_6 : decode cX6_firstTurn 6 = .ok (.iconst 1, 1) := by decide +kernel
theorem dX6_firstTurn_7 : decode cX6_firstTurn 7 = .ok (.if_icmp .ge 11, 3) := by decide +kernel
theorem dX6_firstTurn_10 : decode cX6_firstTurn 10 = .ok (.aload_n 0, 1) := by decide +kernel
theorem dX6_firstTurn_11 : decode cX6_firstTurn 11 = .ok (.iconst 1, 1) := by decide +kernel
theorem dX6_firstTurn_12 : decode cX6_firstTurn 12 = .ok (.invokevirtual 77, 3) := by decide +kernel
theorem dX6_firstTurn_15 : decode cX6_firstTurn 15 = .ok (.goto 11, 3) := by decide +kernel
theorem dX6_firstTurn_18 : decode cX6_firstTurn 18 = .ok (.aload_n 0, 1) := by decide +kernel
theorem dX6_firstTurn_19 : decode cX6_firstTurn 19 = .ok (.aload_n 0, 1) := by decide +kernel
theorem dX6_firstTurn_20 : decode cX6_firstTurn 20 = .ok (.getfield 164, 3) := by decide +kernel
theorem dX6_firstTurn_23 : decode cX6_firstTurn 23 = .ok (.invokevirtual 81, 3) := by decide +kernel
theorem dX6_firstTurn_26 : decode cX6_firstTurn 26 = .ok (.ireturn, 1) := by decide +kernel
theorem dX6_timesOf_0 : decode cX6_timesOf 0 = .ok (.iconst 0, 1) := by decide +kernel
theorem dX6_timesOf_1 : decode cX6_timesOf 1 = .ok (.istore_n 3, 1) := by decide +kernel
theorem dX6_timesOf_2 : decode cX6_timesOf 2 = .ok (.iconst 0, 1) := by decide +kernel
theorem dX6_timesOf_3 : decode cX6_timesOf 3 = .ok (.istore 4, 2) := by decide +kernel
theorem dX6_timesOf_5 : decode cX6_timesOf 5 = .ok (.iload 4, 2) := by decide +kernel
theorem dX6_timesOf_7 : decode cX6_timesOf 7 = .ok (.aload_n 0, 1) := by decide +kernel
theorem dX6_timesOf_8 : decode cX6_timesOf 8 = .ok (.invokevirtual 66, 3) := by decide +kernel
theorem dX6_timesOf_11 : decode cX6_timesOf 11 = .ok (.if_icmp .ge 30, 3) := by decide +kernel
theorem dX6_timesOf_14 : decode cX6_timesOf 14 = .ok (.iload_n 3, 1) := by decide +kernel
theorem dX6_timesOf_15 : decode cX6_timesOf 15 = .ok (.aload_n 0, 1) := by decide +kernel
theorem dX6_timesOf_16 : decode cX6_timesOf 16 = .ok (.getfield 7, 3) := by decide +kernel
theorem dX6_timesOf_19 : decode cX6_timesOf 19 = .ok (.iload_n 1, 1) := by decide +kernel
theorem dX6_timesOf_20 : decode cX6_timesOf 20 = .ok (.iload 4, 2) := by decide +kernel
theorem dX6_timesOf_22 : decode cX6_timesOf 22 = .ok (.iadd, 1) := by decide +kernel
theorem dX6_timesOf_23 : decode cX6_timesOf 23 = .ok (.iaload, 1) := by decide +kernel
theorem dX6_timesOf_24 : decode cX6_timesOf 24 = .ok (.iload_n 2, 1) := by decide +kernel
theorem dX6_timesOf_25 : decode cX6_timesOf 25 = .ok (.if_icmp .ne 7, 3) := by decide +kernel
theorem dX6_timesOf_28 : decode cX6_timesOf 28 = .ok (.iconst 1, 1) := by decide +kernel
theorem dX6_timesOf_29 : decode cX6_timesOf 29 = .ok (.goto 4, 3) := by decide +kernel
theorem dX6_timesOf_32 : decode cX6_timesOf 32 = .ok (.iconst 0, 1) := by decide +kernel
theorem dX6_timesOf_33 : decode cX6_timesOf 33 = .ok (.iadd, 1) := by decide +kernel
theorem dX6_timesOf_34 : decode cX6_timesOf 34 = .ok (.istore_n 3, 1) := by decide +kernel
theorem dX6_timesOf_35 : decode cX6_timesOf 35 = .ok (.iinc 4 1, 3) := by decide +kernel
theorem dX6_timesOf_38 : decode cX6_timesOf 38 = .ok (.goto (-33), 3) := by decide +kernel
theorem dX6_timesOf_41 : decode cX6_timesOf 41 = .ok (.iload_n 3, 1) := by decide +kernel
theorem dX6_timesOf_42 : decode cX6_timesOf 42 = .ok (.ireturn, 1) := by decide +kernel
theorem dX6_lacksLetters_0 : decode cX6_lacksLetters 0 = .ok (.iconst 0, 1) := by decide +kernel
theorem dX6_lacksLetters_1 : decode cX6_lacksLetters 1 = .ok (.istore_n 1, 1) := by decide +kernel
theorem dX6_lacksLetters_2 : decode cX6_lacksLetters 2 = .ok (.iconst 0, 1) := by decide +kernel
theorem dX6_lacksLetters_3 : decode cX6_lacksLetters 3 = .ok (.istore_n 2, 1) := by decide +kernel
theorem dX6_lacksLetters_4 : decode cX6_lacksLetters 4 = .ok (.iload_n 2, 1) := by decide +kernel
theorem dX6_lacksLetters_5 : decode cX6_lacksLetters 5 = .ok (.bipush 12, 2) := by decide +kernel
theorem dX6_lacksLetters_7 : decode cX6_lacksLetters 7 = .ok (.if_icmp .ge 36, 3) := by decide +kernel
theorem dX6_lacksLetters_10 : decode cX6_lacksLetters 10 = .ok (.iload_n 1, 1) := by decide +kernel
theorem dX6_lacksLetters_11 : decode cX6_lacksLetters 11 = .ok (.ifCond .ne 20, 3) := by decide +kernel
theorem dX6_lacksLetters_14 : decode cX6_lacksLetters 14 = .ok (.aload_n 0, 1) := by decide +kernel
theorem dX6_lacksLetters_15 : decode cX6_lacksLetters 15 = .ok (.bipush 23, 2) := by decide +kernel
theorem dX6_lacksLetters_17 : decode cX6_lacksLetters 17 = .ok (.iload_n 2, 1) := by decide +kernel
theorem dX6_lacksLetters_18 : decode cX6_lacksLetters 18 = .ok (.invokevirtual 174, 3) := by decide +kernel
theorem dX6_lacksLetters_21 : decode cX6_lacksLetters 21 = .ok (.aload_n 0, 1) := by decide +kernel
theorem dX6_lacksLetters_22 : decode cX6_lacksLetters 22 = .ok (.bipush 14, 2) := by decide +kernel
theorem dX6_lacksLetters_24 : decode cX6_lacksLetters 24 = .ok (.iload_n 2, 1) := by decide +kernel
theorem dX6_lacksLetters_25 : decode cX6_lacksLetters 25 = .ok (.invokevirtual 174, 3) := by decide +kernel
theorem dX6_lacksLetters_28 : decode cX6_lacksLetters 28 = .ok (.if_icmp .le 7, 3) := by decide +kernel
theorem dX6_lacksLetters_31 : decode cX6_lacksLetters 31 = .ok (.iconst 1, 1) := by decide +kernel
theorem dX6_lacksLetters_32 : decode cX6_lacksLetters 32 = .ok (.goto 4, 3) := by decide +kernel
theorem dX6_lacksLetters_35 : decode cX6_lacksLetters 35 = .ok (.iconst 0, 1) := by decide +kernel
theorem dX6_lacksLetters_36 : decode cX6_lacksLetters 36 = .ok (.istore_n 1, 1) := by decide +kernel
theorem dX6_lacksLetters_37 : decode cX6_lacksLetters 37 = .ok (.iinc 2 1, 3) := by decide +kernel
theorem dX6_lacksLetters_40 : decode cX6_lacksLetters 40 = .ok (.goto (-36), 3) := by decide +kernel
theorem dX6_lacksLetters_43 : decode cX6_lacksLetters 43 = .ok (.iload_n 1, 1) := by decide +kernel
theorem dX6_lacksLetters_44 : decode cX6_lacksLetters 44 = .ok (.ireturn, 1) := by decide +kernel
theorem dX6_unlike_0 : decode cX6_unlike 0 = .ok (.iconst 0, 1) := by decide +kernel
theorem dX6_unlike_1 : decode cX6_unlike 1 = .ok (.istore_n 1, 1) := by decide +kernel
theorem dX6_unlike_2 : decode cX6_unlike 2 = .ok (.iconst 0, 1) := by decide +kernel
theorem dX6_unlike_3 : decode cX6_unlike 3 = .ok (.istore_n 2, 1) := by decide +kernel
theorem dX6_unlike_4 : decode cX6_unlike 4 = .ok (.iload_n 2, 1) := by decide +kernel
theorem dX6_unlike_5 : decode cX6_unlike 5 = .ok (.bipush 12, 2) := by decide +kernel
theorem dX6_unlike_7 : decode cX6_unlike 7 = .ok (.if_icmp .ge 27, 3) := by decide +kernel
theorem dX6_unlike_10 : decode cX6_unlike 10 = .ok (.iload_n 1, 1) := by decide +kernel
theorem dX6_unlike_11 : decode cX6_unlike 11 = .ok (.aload_n 0, 1) := by decide +kernel
theorem dX6_unlike_12 : decode cX6_unlike 12 = .ok (.bipush 14, 2) := by decide +kernel
theorem dX6_unlike_14 : decode cX6_unlike 14 = .ok (.iload_n 2, 1) := by decide +kernel
theorem dX6_unlike_15 : decode cX6_unlike 15 = .ok (.invokevirtual 174, 3) := by decide +kernel
theorem dX6_unlike_18 : decode cX6_unlike 18 = .ok (.ifCond .le 7, 3) := by decide +kernel
theorem dX6_unlike_21 : decode cX6_unlike 21 = .ok (.iconst 1, 1) := by decide +kernel
theorem dX6_unlike_22 : decode cX6_unlike 22 = .ok (.goto 4, 3) := by decide +kernel
theorem dX6_unlike_25 : decode cX6_unlike 25 = .ok (.iconst 0, 1) := by decide +kernel
theorem dX6_unlike_26 : decode cX6_unlike 26 = .ok (.iadd, 1) := by decide +kernel
theorem dX6_unlike_27 : decode cX6_unlike 27 = .ok (.istore_n 1, 1) := by decide +kernel
theorem dX6_unlike_28 : decode cX6_unlike 28 = .ok (.iinc 2 1, 3) := by decide +kernel
theorem dX6_unlike_31 : decode cX6_unlike 31 = .ok (.goto (-27), 3) := by decide +kernel
theorem dX6_unlike_34 : decode cX6_unlike 34 = .ok (.iload_n 1, 1) := by decide +kernel
theorem dX6_unlike_35 : decode cX6_unlike 35 = .ok (.ireturn, 1) := by decide +kernel
theorem dX6_swapsAreOdd_0 : decode cX6_swapsAreOdd 0 = .ok (.iconst 0, 1) := by decide +kernel
theorem dX6_swapsAreOdd_1 : decode cX6_swapsAreOdd 1 = .ok (.istore_n 1, 1) := by decide +kernel
theorem dX6_swapsAreOdd_2 : decode cX6_swapsAreOdd 2 = .ok (.iload_n 1, 1) := by decide +kernel
theorem dX6_swapsAreOdd_3 : decode cX6_swapsAreOdd 3 = .ok (.aload_n 0, 1) := by decide +kernel
theorem dX6_swapsAreOdd_4 : decode cX6_swapsAreOdd 4 = .ok (.invokevirtual 66, 3) := by decide +kernel
theorem dX6_swapsAreOdd_7 : decode cX6_swapsAreOdd 7 = .ok (.if_icmp .ge 110, 3) := by decide +kernel
theorem dX6_swapsAreOdd_10 : decode cX6_swapsAreOdd 10 = .ok (.aload_n 0, 1) := by decide +kernel
theorem dX6_swapsAreOdd_11 : decode cX6_swapsAreOdd 11 = .ok (.getfield 7, 3) := by decide +kernel
theorem dX6_swapsAreOdd_14 : decode cX6_swapsAreOdd 14 = .ok (.bipush 23, 2) := by decide +kernel
theorem dX6_swapsAreOdd_16 : decode cX6_swapsAreOdd 16 = .ok (.iload_n 1, 1) := by decide +kernel
theorem dX6_swapsAreOdd_17 : decode cX6_swapsAreOdd 17 = .ok (.iadd, 1) := by decide +kernel
theorem dX6_swapsAreOdd_18 : decode cX6_swapsAreOdd 18 = .ok (.iaload, 1) := by decide +kernel
theorem dX6_swapsAreOdd_19 : decode cX6_swapsAreOdd 19 = .ok (.istore_n 2, 1) := by decide +kernel
theorem dX6_swapsAreOdd_20 : decode cX6_swapsAreOdd 20 = .ok (.iconst 0, 1) := by decide +kernel
theorem dX6_swapsAreOdd_21 : decode cX6_swapsAreOdd 21 = .ok (.istore_n 3, 1) := by decide +kernel
theorem dX6_swapsAreOdd_22 : decode cX6_swapsAreOdd 22 = .ok (.iload_n 3, 1) := by decide +kernel
theorem dX6_swapsAreOdd_23 : decode cX6_swapsAreOdd 23 = .ok (.bipush 12, 2) := by decide +kernel
theorem dX6_swapsAreOdd_25 : decode cX6_swapsAreOdd 25 = .ok (.if_icmp .ge 41, 3) := by decide +kernel
theorem dX6_swapsAreOdd_28 : decode cX6_swapsAreOdd 28 = .ok (.iload_n 2, 1) := by decide +kernel
theorem dX6_swapsAreOdd_29 : decode cX6_swapsAreOdd 29 = .ok (.iconst (-1), 1) := by decide +kernel
theorem dX6_swapsAreOdd_30 : decode cX6_swapsAreOdd 30 = .ok (.if_icmp .ne 36, 3) := by decide +kernel
theorem dX6_swapsAreOdd_33 : decode cX6_swapsAreOdd 33 = .ok (.aload_n 0, 1) := by decide +kernel
theorem dX6_swapsAreOdd_34 : decode cX6_swapsAreOdd 34 = .ok (.bipush 14, 2) := by decide +kernel
theorem dX6_swapsAreOdd_36 : decode cX6_swapsAreOdd 36 = .ok (.iload_n 3, 1) := by decide +kernel
theorem dX6_swapsAreOdd_37 : decode cX6_swapsAreOdd 37 = .ok (.invokevirtual 174, 3) := by decide +kernel
theorem dX6_swapsAreOdd_40 : decode cX6_swapsAreOdd 40 = .ok (.iconst 1, 1) := by decide +kernel
theorem dX6_swapsAreOdd_41 : decode cX6_swapsAreOdd 41 = .ok (.if_icmp .ne 17, 3) := by decide +kernel
theorem dX6_swapsAreOdd_44 : decode cX6_swapsAreOdd 44 = .ok (.aload_n 0, 1) := by decide +kernel
theorem dX6_swapsAreOdd_45 : decode cX6_swapsAreOdd 45 = .ok (.bipush 23, 2) := by decide +kernel
theorem dX6_swapsAreOdd_47 : decode cX6_swapsAreOdd 47 = .ok (.iload_n 3, 1) := by decide +kernel
theorem dX6_swapsAreOdd_48 : decode cX6_swapsAreOdd 48 = .ok (.invokevirtual 174, 3) := by decide +kernel
theorem dX6_swapsAreOdd_51 : decode cX6_swapsAreOdd 51 = .ok (.ifCond .ne 7, 3) := by decide +kernel
theorem dX6_swapsAreOdd_54 : decode cX6_swapsAreOdd 54 = .ok (.iload_n 3, 1) := by decide +kernel
theorem dX6_swapsAreOdd_55 : decode cX6_swapsAreOdd 55 = .ok (.goto 4, 3) := by decide +kernel
theorem dX6_swapsAreOdd_58 : decode cX6_swapsAreOdd 58 = .ok (.iconst (-1), 1) := by decide +kernel
theorem dX6_swapsAreOdd_59 : decode cX6_swapsAreOdd 59 = .ok (.istore_n 2, 1) := by decide +kernel
theorem dX6_swapsAreOdd_60 : decode cX6_swapsAreOdd 60 = .ok (.iinc 3 1, 3) := by decide +kernel
theorem dX6_swapsAreOdd_63 : decode cX6_swapsAreOdd 63 = .ok (.goto (-41), 3) := by decide +kernel
theorem dX6_swapsAreOdd_66 : decode cX6_swapsAreOdd 66 = .ok (.iconst 0, 1) := by decide +kernel
theorem dX6_swapsAreOdd_67 : decode cX6_swapsAreOdd 67 = .ok (.istore_n 3, 1) := by decide +kernel
theorem dX6_swapsAreOdd_68 : decode cX6_swapsAreOdd 68 = .ok (.iload_n 3, 1) := by decide +kernel
theorem dX6_swapsAreOdd_69 : decode cX6_swapsAreOdd 69 = .ok (.aload_n 0, 1) := by decide +kernel
theorem dX6_swapsAreOdd_70 : decode cX6_swapsAreOdd 70 = .ok (.invokevirtual 66, 3) := by decide +kernel
theorem dX6_swapsAreOdd_73 : decode cX6_swapsAreOdd 73 = .ok (.if_icmp .ge 38, 3) := by decide +kernel
theorem dX6_swapsAreOdd_76 : decode cX6_swapsAreOdd 76 = .ok (.aload_n 0, 1) := by decide +kernel
theorem dX6_swapsAreOdd_77 : decode cX6_swapsAreOdd 77 = .ok (.getfield 36, 3) := by decide +kernel
theorem dX6_swapsAreOdd_80 : decode cX6_swapsAreOdd 80 = .ok (.iload_n 1, 1) := by decide +kernel
theorem dX6_swapsAreOdd_81 : decode cX6_swapsAreOdd 81 = .ok (.aload_n 0, 1) := by decide +kernel
theorem dX6_swapsAreOdd_82 : decode cX6_swapsAreOdd 82 = .ok (.getfield 7, 3) := by decide +kernel
theorem dX6_swapsAreOdd_85 : decode cX6_swapsAreOdd 85 = .ok (.bipush 14, 2) := by decide +kernel
theorem dX6_swapsAreOdd_87 : decode cX6_swapsAreOdd 87 = .ok (.iload_n 3, 1) := by decide +kernel
theorem dX6_swapsAreOdd_88 : decode cX6_swapsAreOdd 88 = .ok (.iadd, 1) := by decide +kernel
theorem dX6_swapsAreOdd_89 : decode cX6_swapsAreOdd 89 = .ok (.iaload, 1) := by decide +kernel
theorem dX6_swapsAreOdd_90 : decode cX6_swapsAreOdd 90 = .ok (.iload_n 2, 1) := by decide +kernel
theorem dX6_swapsAreOdd_91 : decode cX6_swapsAreOdd 91 = .ok (.if_icmp .ne 7, 3) := by decide +kernel
theorem dX6_swapsAreOdd_94 : decode cX6_swapsAreOdd 94 = .ok (.iload_n 3, 1) := by decide +kernel
theorem dX6_swapsAreOdd_95 : decode cX6_swapsAreOdd 95 = .ok (.goto 9, 3) := by decide +kernel
theorem dX6_swapsAreOdd_98 : decode cX6_swapsAreOdd 98 = .ok (.aload_n 0, 1) := by decide +kernel
theorem dX6_swapsAreOdd_99 : decode cX6_swapsAreOdd 99 = .ok (.getfield 36, 3) := by decide +kernel
theorem dX6_swapsAreOdd_102 : decode cX6_swapsAreOdd 102 = .ok (.iload_n 1, 1) := by decide +kernel
theorem dX6_swapsAreOdd_103 : decode cX6_swapsAreOdd 103 = .ok (.iaload, 1) := by decide +kernel
theorem dX6_swapsAreOdd_104 : decode cX6_swapsAreOdd 104 = .ok (.iastore, 1) := by decide +kernel
theorem dX6_swapsAreOdd_105 : decode cX6_swapsAreOdd 105 = .ok (.iinc 3 1, 3) := by decide +kernel
theorem dX6_swapsAreOdd_108 : decode cX6_swapsAreOdd 108 = .ok (.goto (-40), 3) := by decide +kernel
theorem dX6_swapsAreOdd_111 : decode cX6_swapsAreOdd 111 = .ok (.iinc 1 1, 3) := by decide +kernel
theorem dX6_swapsAreOdd_114 : decode cX6_swapsAreOdd 114 = .ok (.goto (-112), 3) := by decide +kernel
theorem dX6_swapsAreOdd_117 : decode cX6_swapsAreOdd 117 = .ok (.iconst 0, 1) := by decide +kernel
theorem dX6_swapsAreOdd_118 : decode cX6_swapsAreOdd 118 = .ok (.istore_n 1, 1) := by decide +kernel
theorem dX6_swapsAreOdd_119 : decode cX6_swapsAreOdd 119 = .ok (.iconst 0, 1) := by decide +kernel
theorem dX6_swapsAreOdd_120 : decode cX6_swapsAreOdd 120 = .ok (.istore_n 2, 1) := by decide +kernel
theorem dX6_swapsAreOdd_121 : decode cX6_swapsAreOdd 121 = .ok (.iload_n 2, 1) := by decide +kernel
theorem dX6_swapsAreOdd_122 : decode cX6_swapsAreOdd 122 = .ok (.aload_n 0, 1) := by decide +kernel
theorem dX6_swapsAreOdd_123 : decode cX6_swapsAreOdd 123 = .ok (.invokevirtual 66, 3) := by decide +kernel
theorem dX6_swapsAreOdd_126 : decode cX6_swapsAreOdd 126 = .ok (.if_icmp .ge 51, 3) := by decide +kernel
theorem dX6_swapsAreOdd_129 : decode cX6_swapsAreOdd 129 = .ok (.iconst 0, 1) := by decide +kernel
theorem dX6_swapsAreOdd_130 : decode cX6_swapsAreOdd 130 = .ok (.istore_n 3, 1) := by decide +kernel
theorem dX6_swapsAreOdd_131 : decode cX6_swapsAreOdd 131 = .ok (.iload_n 3, 1) := by decide +kernel
theorem dX6_swapsAreOdd_132 : decode cX6_swapsAreOdd 132 = .ok (.iload_n 2, 1) := by decide +kernel
theorem dX6_swapsAreOdd_133 : decode cX6_swapsAreOdd 133 = .ok (.if_icmp .ge 38, 3) := by decide +kernel
theorem dX6_swapsAreOdd_136 : decode cX6_swapsAreOdd 136 = .ok (.aload_n 0, 1) := by decide +kernel
theorem dX6_swapsAreOdd_137 : decode cX6_swapsAreOdd 137 = .ok (.getfield 36, 3) := by decide +kernel
theorem dX6_swapsAreOdd_140 : decode cX6_swapsAreOdd 140 = .ok (.iload_n 3, 1) := by decide +kernel
theorem dX6_swapsAreOdd_141 : decode cX6_swapsAreOdd 141 = .ok (.iaload, 1) := by decide +kernel
theorem dX6_swapsAreOdd_142 : decode cX6_swapsAreOdd 142 = .ok (.aload_n 0, 1) := by decide +kernel
theorem dX6_swapsAreOdd_143 : decode cX6_swapsAreOdd 143 = .ok (.getfield 36, 3) := by decide +kernel
theorem dX6_swapsAreOdd_146 : decode cX6_swapsAreOdd 146 = .ok (.iload_n 2, 1) := by decide +kernel
theorem dX6_swapsAreOdd_147 : decode cX6_swapsAreOdd 147 = .ok (.iaload, 1) := by decide +kernel
theorem dX6_swapsAreOdd_148 : decode cX6_swapsAreOdd 148 = .ok (.if_icmp .le 15, 3) := by decide +kernel
theorem dX6_swapsAreOdd_151 : decode cX6_swapsAreOdd 151 = .ok (.iload_n 1, 1) := by decide +kernel
theorem dX6_swapsAreOdd_152 : decode cX6_swapsAreOdd 152 = .ok (.ifCond .ne 7, 3) := by decide +kernel
theorem dX6_swapsAreOdd_155 : decode cX6_swapsAreOdd 155 = .ok (.iconst 1, 1) := by decide +kernel
theorem dX6_swapsAreOdd_156 : decode cX6_swapsAreOdd 156 = .ok (.goto 8, 3) := by decide +kernel
theorem dX6_swapsAreOdd_159 : decode cX6_swapsAreOdd 159 = .ok (.iconst 0, 1) := by decide +kernel
theorem dX6_swapsAreOdd_160 : decode cX6_swapsAreOdd 160 = .ok (.goto 4, 3) := by decide +kernel
theorem dX6_swapsAreOdd_163 : decode cX6_swapsAreOdd 163 = .ok (.iload_n 1, 1) := by decide +kernel
theorem dX6_swapsAreOdd_164 : decode cX6_swapsAreOdd 164 = .ok (.istore_n 1, 1) := by decide +kernel
theorem dX6_swapsAreOdd_165 : decode cX6_swapsAreOdd 165 = .ok (.iinc 3 1, 3) := by decide +kernel
theorem dX6_swapsAreOdd_168 : decode cX6_swapsAreOdd 168 = .ok (.goto (-37), 3) := by decide +kernel
theorem dX6_swapsAreOdd_171 : decode cX6_swapsAreOdd 171 = .ok (.iinc 2 1, 3) := by decide +kernel
theorem dX6_swapsAreOdd_174 : decode cX6_swapsAreOdd 174 = .ok (.goto (-53), 3) := by decide +kernel
theorem dX6_swapsAreOdd_177 : decode cX6_swapsAreOdd 177 = .ok (.iload_n 1, 1) := by decide +kernel
theorem dX6_swapsAreOdd_178 : decode cX6_swapsAreOdd 178 = .ok (.ireturn, 1) := by decide +kernel
theorem dX6_isOutOfReach_0 : decode cX6_isOutOfReach 0 = .ok (.aload_n 0, 1) := by decide +kernel
theorem dX6_isOutOfReach_1 : decode cX6_isOutOfReach 1 = .ok (.invokevirtual 177, 3) := by decide +kernel
theorem dX6_isOutOfReach_4 : decode cX6_isOutOfReach 4 = .ok (.ifCond .eq 5, 3) := by decide +kernel
theorem dX6_isOutOfReach_7 : decode cX6_isOutOfReach 7 = .ok (.iconst 1, 1) := by decide +kernel
theorem dX6_isOutOfReach_8 : decode cX6_isOutOfReach 8 = .ok (.ireturn, 1) := by decide +kernel
theorem dX6_isOutOfReach_9 : decode cX6_isOutOfReach 9 = .ok (.aload_n 0, 1) := by decide +kernel
theorem dX6_isOutOfReach_10 : decode cX6_isOutOfReach 10 = .ok (.invokevirtual 66, 3) := by decide +kernel
theorem dX6_isOutOfReach_13 : decode cX6_isOutOfReach 13 = .ok (.bipush 9, 2) := by decide +kernel
theorem dX6_isOutOfReach_15 : decode cX6_isOutOfReach 15 = .ok (.if_icmp .ne 27, 3) := by decide +kernel
theorem dX6_isOutOfReach_18 : decode cX6_isOutOfReach 18 = .ok (.aload_n 0, 1) := by decide +kernel
theorem dX6_isOutOfReach_19 : decode cX6_isOutOfReach 19 = .ok (.invokevirtual 181, 3) := by decide +kernel
theorem dX6_isOutOfReach_22 : decode cX6_isOutOfReach 22 = .ok (.bipush 9, 2) := by decide +kernel
theorem dX6_isOutOfReach_24 : decode cX6_isOutOfReach 24 = .ok (.if_icmp .ne 18, 3) := by decide +kernel
theorem dX6_isOutOfReach_27 : decode cX6_isOutOfReach 27 = .ok (.aload_n 0, 1) := by decide +kernel
theorem dX6_isOutOfReach_28 : decode cX6_isOutOfReach 28 = .ok (.bipush 23, 2) := by decide +kernel
theorem dX6_isOutOfReach_30 : decode cX6_isOutOfReach 30 = .ok (.iconst (-1), 1) := by decide +kernel
theorem dX6_isOutOfReach_31 : decode cX6_isOutOfReach 31 = .ok (.invokevirtual 174, 3) := by decide +kernel
theorem dX6_isOutOfReach_34 : decode cX6_isOutOfReach 34 = .ok (.iconst 2, 1) := by decide +kernel
theorem dX6_isOutOfReach_35 : decode cX6_isOutOfReach 35 = .ok (.if_icmp .ge 7, 3) := by decide +kernel
theorem dX6_isOutOfReach_38 : decode cX6_isOutOfReach 38 = .ok (.iconst 1, 1) := by decide +kernel
theorem dX6_isOutOfReach_39 : decode cX6_isOutOfReach 39 = .ok (.goto 4, 3) := by decide +kernel
theorem dX6_isOutOfReach_42 : decode cX6_isOutOfReach 42 = .ok (.iconst 0, 1) := by decide +kernel
theorem dX6_isOutOfReach_43 : decode cX6_isOutOfReach 43 = .ok (.istore_n 1, 1) := by decide +kernel
theorem dX6_isOutOfReach_44 : decode cX6_isOutOfReach 44 = .ok (.iload_n 1, 1) := by decide +kernel
theorem dX6_isOutOfReach_45 : decode cX6_isOutOfReach 45 = .ok (.ifCond .eq 14, 3) := by decide +kernel
theorem dX6_isOutOfReach_48 : decode cX6_isOutOfReach 48 = .ok (.aload_n 0, 1) := by decide +kernel
theorem dX6_isOutOfReach_49 : decode cX6_isOutOfReach 49 = .ok (.invokevirtual 184, 3) := by decide +kernel
theorem dX6_isOutOfReach_52 : decode cX6_isOutOfReach 52 = .ok (.ifCond .eq 7, 3) := by decide +kernel
theorem dX6_isOutOfReach_55 : decode cX6_isOutOfReach 55 = .ok (.iconst 1, 1) := by decide +kernel
theorem dX6_isOutOfReach_56 : decode cX6_isOutOfReach 56 = .ok (.goto 4, 3) := by decide +kernel
theorem dX6_isOutOfReach_59 : decode cX6_isOutOfReach 59 = .ok (.iconst 0, 1) := by decide +kernel
theorem dX6_isOutOfReach_60 : decode cX6_isOutOfReach 60 = .ok (.ireturn, 1) := by decide +kernel
theorem dX6_isOut_0 : decode cX6_isOut 0 = .ok (.aload_n 0, 1) := by decide +kernel
theorem dX6_isOut_1 : decode cX6_isOut 1 = .ok (.iconst 0, 1) := by decide +kernel
theorem dX6_isOut_2 : decode cX6_isOut 2 = .ok (.putfield 46, 3) := by decide +kernel
theorem dX6_isOut_5 : decode cX6_isOut 5 = .ok (.aload_n 0, 1) := by decide +kernel
theorem dX6_isOut_6 : decode cX6_isOut 6 = .ok (.invokevirtual 187, 3) := by decide +kernel
theorem dX6_isOut_9 : decode cX6_isOut 9 = .ok (.ireturn, 1) := by decide +kernel
theorem dX6_isOdd_0 : decode cX6_isOdd 0 = .ok (.aload_n 0, 1) := by decide +kernel
theorem dX6_isOdd_1 : decode cX6_isOdd 1 = .ok (.invokevirtual 181, 3) := by decide +kernel
theorem dX6_isOdd_4 : decode cX6_isOdd 4 = .ok (.aload_n 0, 1) := by decide +kernel
theorem dX6_isOdd_5 : decode cX6_isOdd 5 = .ok (.invokevirtual 66, 3) := by decide +kernel
theorem dX6_isOdd_8 : decode cX6_isOdd 8 = .ok (.if_icmp .ne 24, 3) := by decide +kernel
theorem dX6_isOdd_11 : decode cX6_isOdd 11 = .ok (.aload_n 0, 1) := by decide +kernel
theorem dX6_isOdd_12 : decode cX6_isOdd 12 = .ok (.invokevirtual 177, 3) := by decide +kernel
theorem dX6_isOdd_15 : decode cX6_isOdd 15 = .ok (.ifCond .ne 17, 3) := by decide +kernel
theorem dX6_isOdd_18 : decode cX6_isOdd 18 = .ok (.aload_n 0, 1) := by decide +kernel
theorem dX6_isOdd_19 : decode cX6_isOdd 19 = .ok (.bipush 23, 2) := by decide +kernel
theorem dX6_isOdd_21 : decode cX6_isOdd 21 = .ok (.iconst (-1), 1) := by decide +kernel
theorem dX6_isOdd_22 : decode cX6_isOdd 22 = .ok (.invokevirtual 174, 3) := by decide +kernel
theorem dX6_isOdd_25 : decode cX6_isOdd 25 = .ok (.ifCond .ne 7, 3) := by decide +kernel
theorem dX6_isOdd_28 : decode cX6_isOdd 28 = .ok (.iconst 1, 1) := by decide +kernel
theorem dX6_isOdd_29 : decode cX6_isOdd 29 = .ok (.goto 4, 3) := by decide +kernel
theorem dX6_isOdd_32 : decode cX6_isOdd 32 = .ok (.iconst 0, 1) := by decide +kernel
theorem dX6_isOdd_33 : decode cX6_isOdd 33 = .ok (.istore_n 2, 1) := by decide +kernel
theorem dX6_isOdd_34 : decode cX6_isOdd 34 = .ok (.aload_n 0, 1) := by decide +kernel
theorem dX6_isOdd_35 : decode cX6_isOdd 35 = .ok (.iload_n 2, 1) := by decide +kernel
theorem dX6_isOdd_36 : decode cX6_isOdd 36 = .ok (.ifCond .eq 7, 3) := by decide +kernel
theorem dX6_isOdd_39 : decode cX6_isOdd 39 = .ok (.iconst 0, 1) := by decide +kernel
theorem dX6_isOdd_40 : decode cX6_isOdd 40 = .ok (.goto 4, 3) := by decide +kernel
theorem dX6_isOdd_43 : decode cX6_isOdd 43 = .ok (.iconst 1, 1) := by decide +kernel
theorem dX6_isOdd_44 : decode cX6_isOdd 44 = .ok (.putfield 46, 3) := by decide +kernel
theorem dX6_isOdd_47 : decode cX6_isOdd 47 = .ok (.iload_n 2, 1) := by decide +kernel
theorem dX6_isOdd_48 : decode cX6_isOdd 48 = .ok (.ifCond .eq 14, 3) := by decide +kernel
theorem dX6_isOdd_51 : decode cX6_isOdd 51 = .ok (.aload_n 0, 1) := by decide +kernel
theorem dX6_isOdd_52 : decode cX6_isOdd 52 = .ok (.invokevirtual 184, 3) := by decide +kernel
theorem dX6_isOdd_55 : decode cX6_isOdd 55 = .ok (.ifCond .eq 7, 3) := by decide +kernel
theorem dX6_isOdd_58 : decode cX6_isOdd 58 = .ok (.iconst 1, 1) := by decide +kernel
theorem dX6_isOdd_59 : decode cX6_isOdd 59 = .ok (.goto 4, 3) := by decide +kernel
theorem dX6_isOdd_62 : decode cX6_isOdd 62 = .ok (.iconst 0, 1) := by decide +kernel
theorem dX6_isOdd_63 : decode cX6_isOdd 63 = .ok (.ireturn, 1) := by decide +kernel
theorem dX6_steps_0 : decode cX6_steps 0 = .ok (.aload_n 0, 1) := by decide +kernel
theorem dX6_steps_1 : decode cX6_steps 1 = .ok (.invokevirtual 134, 3) := by decide +kernel
theorem dX6_steps_4 : decode cX6_steps 4 = .ok (.istore_n 1, 1) := by decide +kernel
theorem dX6_steps_5 : decode cX6_steps 5 = .ok (.iload_n 1, 1) := by decide +kernel
theorem dX6_steps_6 : decode cX6_steps 6 = .ok (.aload_n 0, 1) := by decide +kernel
theorem dX6_steps_7 : decode cX6_steps 7 = .ok (.invokevirtual 66, 3) := by decide +kernel
theorem dX6_steps_10 : decode cX6_steps 10 = .ok (.if_icmp .ne 14, 3) := by decide +kernel
theorem dX6_steps_13 : decode cX6_steps 13 = .ok (.aload_n 0, 1) := by decide +kernel
theorem dX6_steps_14 : decode cX6_steps 14 = .ok (.iconst 5, 1) := by decide +kernel
theorem dX6_steps_15 : decode cX6_steps 15 = .ok (.aload_n 0, 1) := by decide +kernel
theorem dX6_steps_16 : decode cX6_steps 16 = .ok (.invokevirtual 66, 3) := by decide +kernel
theorem dX6_steps_19 : decode cX6_steps 19 = .ok (.iconst 1, 1) := by decide +kernel
theorem dX6_steps_20 : decode cX6_steps 20 = .ok (.invokevirtual 94, 3) := by decide +kernel
theorem dX6_steps_23 : decode cX6_steps 23 = .ok (.ireturn, 1) := by decide +kernel
theorem dX6_steps_24 : decode cX6_steps 24 = .ok (.aload_n 0, 1) := by decide +kernel
theorem dX6_steps_25 : decode cX6_steps 25 = .ok (.invokevirtual 187, 3) := by decide +kernel
theorem dX6_steps_28 : decode cX6_steps 28 = .ok (.ifCond .eq 16, 3) := by decide +kernel
theorem dX6_steps_31 : decode cX6_steps 31 = .ok (.aload_n 0, 1) := by decide +kernel
theorem dX6_steps_32 : decode cX6_steps 32 = .ok (.iconst 4, 1) := by decide +kernel
theorem dX6_steps_33 : decode cX6_steps 33 = .ok (.aload_n 0, 1) := by decide +kernel
theorem dX6_steps_34 : decode cX6_steps 34 = .ok (.invokevirtual 66, 3) := by decide +kernel
theorem dX6_steps_37 : decode cX6_steps 37 = .ok (.iload_n 1, 1) := by decide +kernel
theorem dX6_steps_38 : decode cX6_steps 38 = .ok (.isub, 1) := by decide +kernel
theorem dX6_steps_39 : decode cX6_steps 39 = .ok (.iconst 1, 1) := by decide +kernel
theorem dX6_steps_40 : decode cX6_steps 40 = .ok (.invokevirtual 94, 3) := by decide +kernel
theorem dX6_steps_43 : decode cX6_steps 43 = .ok (.ireturn, 1) := by decide +kernel
theorem dX6_steps_44 : decode cX6_steps 44 = .ok (.aload_n 0, 1) := by decide +kernel
theorem dX6_steps_45 : decode cX6_steps 45 = .ok (.invokevirtual 171, 3) := by decide +kernel
theorem dX6_steps_48 : decode cX6_steps 48 = .ok (.iconst (-1), 1) := by decide +kernel
theorem dX6_steps_49 : decode cX6_steps 49 = .ok (.if_icmp .ne 9, 3) := by decide +kernel
theorem dX6_steps_52 : decode cX6_steps 52 = .ok (.aload_n 0, 1) := by decide +kernel
theorem dX6_steps_53 : decode cX6_steps 53 = .ok (.iconst 2, 1) := by decide +kernel
theorem dX6_steps_54 : decode cX6_steps 54 = .ok (.invokevirtual 77, 3) := by decide +kernel
theorem dX6_steps_57 : decode cX6_steps 57 = .ok (.ireturn, 1) := by decide +kernel
theorem dX6_steps_58 : decode cX6_steps 58 = .ok (.aload_n 0, 1) := by decide +kernel
theorem dX6_steps_59 : decode cX6_steps 59 = .ok (.getfield 164, 3) := by decide +kernel
theorem dX6_steps_62 : decode cX6_steps 62 = .ok (.istore_n 2, 1) := by decide +kernel
theorem dX6_steps_63 : decode cX6_steps 63 = .ok (.aload_n 0, 1) := by decide +kernel
theorem dX6_steps_64 : decode cX6_steps 64 = .ok (.iload_n 2, 1) := by decide +kernel
theorem dX6_steps_65 : decode cX6_steps 65 = .ok (.invokevirtual 146, 3) := by decide +kernel
theorem dX6_steps_68 : decode cX6_steps 68 = .ok (.istore_n 1, 1) := by decide +kernel
theorem dX6_steps_69 : decode cX6_steps 69 = .ok (.aload_n 0, 1) := by decide +kernel
theorem dX6_steps_70 : decode cX6_steps 70 = .ok (.getfield 7, 3) := by decide +kernel
theorem dX6_steps_73 : decode cX6_steps 73 = .ok (.iconst 5, 1) := by decide +kernel
theorem dX6_steps_74 : decode cX6_steps 74 = .ok (.dup2, 1) := by decide +kernel
theorem dX6_steps_75 : decode cX6_steps 75 = .ok (.iaload, 1) := by decide +kernel
theorem dX6_steps_76 : decode cX6_steps 76 = .ok (.iconst 1, 1) := by decide +kernel
theorem dX6_steps_77 : decode cX6_steps 77 = .ok (.iadd, 1) := by decide +kernel
theorem dX6_steps_78 : decode cX6_steps 78 = .ok (.iastore, 1) := by decide +kernel
theorem dX6_steps_79 : decode cX6_steps 79 = .ok (.aload_n 0, 1) := by decide +kernel
theorem dX6_steps_80 : decode cX6_steps 80 = .ok (.iload_n 2, 1) := by decide +kernel
theorem dX6_steps_81 : decode cX6_steps 81 = .ok (.invokevirtual 81, 3) := by decide +kernel
theorem dX6_steps_84 : decode cX6_steps 84 = .ok (.ireturn, 1) := by decide +kernel
theorem dX6_step_0 : decode cX6_step 0 = .ok (.aload_n 0, 1) := by decide +kernel
theorem dX6_step_1 : decode cX6_step 1 = .ok (.invokevirtual 84, 3) := by decide +kernel
theorem dX6_step_4 : decode cX6_step 4 = .ok (.aload_n 0, 1) := by decide +kernel
theorem dX6_step_5 : decode cX6_step 5 = .ok (.aload_n 0, 1) := by decide +kernel
theorem dX6_step_6 : decode cX6_step 6 = .ok (.invokevirtual 190, 3) := by decide +kernel
theorem dX6_step_9 : decode cX6_step 9 = .ok (.invokevirtual 91, 3) := by decide +kernel
theorem dX6_step_12 : decode cX6_step 12 = .ok (.ireturn, 1) := by decide +kernel
theorem dX6_letter_0 : decode cX6_letter 0 = .ok (.aload_n 0, 1) := by decide +kernel
theorem dX6_letter_1 : decode cX6_letter 1 = .ok (.aload_n 0, 1) := by decide +kernel
theorem dX6_letter_2 : decode cX6_letter 2 = .ok (.iload_n 1, 1) := by decide +kernel
theorem dX6_letter_3 : decode cX6_letter 3 = .ok (.invokevirtual 102, 3) := by decide +kernel
theorem dX6_letter_6 : decode cX6_letter 6 = .ok (.ifCond .eq 7, 3) := by decide +kernel
theorem dX6_letter_9 : decode cX6_letter 9 = .ok (.iconst 0, 1) := by decide +kernel
theorem dX6_letter_10 : decode cX6_letter 10 = .ok (.goto 4, 3) := by decide +kernel
theorem dX6_letter_13 : decode cX6_letter 13 = .ok (.iconst 1, 1) := by decide +kernel
theorem dX6_letter_14 : decode cX6_letter 14 = .ok (.putfield 46, 3) := by decide +kernel
theorem dX6_letter_17 : decode cX6_letter 17 = .ok (.aload_n 0, 1) := by decide +kernel
theorem dX6_letter_18 : decode cX6_letter 18 = .ok (.getfield 46, 3) := by decide +kernel
theorem dX6_letter_21 : decode cX6_letter 21 = .ok (.ifCond .ne 18, 3) := by decide +kernel
theorem dX6_letter_24 : decode cX6_letter 24 = .ok (.aload_n 0, 1) := by decide +kernel
theorem dX6_letter_25 : decode cX6_letter 25 = .ok (.getfield 7, 3) := by decide +kernel
theorem dX6_letter_28 : decode cX6_letter 28 = .ok (.bipush 14, 2) := by decide +kernel
theorem dX6_letter_30 : decode cX6_letter 30 = .ok (.iload_n 1, 1) := by decide +kernel
theorem dX6_letter_31 : decode cX6_letter 31 = .ok (.iadd, 1) := by decide +kernel
theorem dX6_letter_32 : decode cX6_letter 32 = .ok (.iaload, 1) := by decide +kernel
theorem dX6_letter_33 : decode cX6_letter 33 = .ok (.invokestatic 98, 3) := by decide +kernel
theorem dX6_letter_36 : decode cX6_letter 36 = .ok (.goto 4, 3) := by decide +kernel
theorem dX6_letter_39 : decode cX6_letter 39 = .ok (.iconst 0, 1) := by decide +kernel
theorem dX6_letter_40 : decode cX6_letter 40 = .ok (.ireturn, 1) := by decide +kernel
theorem dX6_sign_0 : decode cX6_sign 0 = .ok (.aload_n 0, 1) := by decide +kernel
theorem dX6_sign_1 : decode cX6_sign 1 = .ok (.aload_n 0, 1) := by decide +kernel
theorem dX6_sign_2 : decode cX6_sign 2 = .ok (.iload_n 1, 1) := by decide +kernel
theorem dX6_sign_3 : decode cX6_sign 3 = .ok (.invokevirtual 102, 3) := by decide +kernel
theorem dX6_sign_6 : decode cX6_sign 6 = .ok (.ifCond .eq 7, 3) := by decide +kernel
theorem dX6_sign_9 : decode cX6_sign 9 = .ok (.iconst 0, 1) := by decide +kernel
theorem dX6_sign_10 : decode cX6_sign 10 = .ok (.goto 4, 3) := by decide +kernel
theorem dX6_sign_13 : decode cX6_sign 13 = .ok (.iconst 1, 1) := by decide +kernel
theorem dX6_sign_14 : decode cX6_sign 14 = .ok (.putfield 46, 3) := by decide +kernel
theorem dX6_sign_17 : decode cX6_sign 17 = .ok (.aload_n 0, 1) := by decide +kernel
theorem dX6_sign_18 : decode cX6_sign 18 = .ok (.getfield 46, 3) := by decide +kernel
theorem dX6_sign_21 : decode cX6_sign 21 = .ok (.ifCond .ne 18, 3) := by decide +kernel
theorem dX6_sign_24 : decode cX6_sign 24 = .ok (.aload_n 0, 1) := by decide +kernel
theorem dX6_sign_25 : decode cX6_sign 25 = .ok (.getfield 7, 3) := by decide +kernel
theorem dX6_sign_28 : decode cX6_sign 28 = .ok (.bipush 23, 2) := by decide +kernel
theorem dX6_sign_30 : decode cX6_sign 30 = .ok (.iload_n 1, 1) := by decide +kernel
theorem dX6_sign_31 : decode cX6_sign 31 = .ok (.iadd, 1) := by decide +kernel
theorem dX6_sign_32 : decode cX6_sign 32 = .ok (.iaload, 1) := by decide +kernel
theorem dX6_sign_33 : decode cX6_sign 33 = .ok (.invokestatic 98, 3) := by decide +kernel
theorem dX6_sign_36 : decode cX6_sign 36 = .ok (.goto 4, 3) := by decide +kernel
theorem dX6_sign_39 : decode cX6_sign 39 = .ok (.iconst 0, 1) := by decide +kernel
theorem dX6_sign_40 : decode cX6_sign 40 = .ok (.ireturn, 1) := by decide +kernel
theorem dX6_isBarred_0 : decode cX6_isBarred 0 = .ok (.aload_n 0, 1) := by decide +kernel
theorem dX6_isBarred_1 : decode cX6_isBarred 1 = .ok (.aload_n 0, 1) := by decide +kernel
theorem dX6_isBarred_2 : decode cX6_isBarred 2 = .ok (.iload_n 1, 1) := by decide +kernel
theorem dX6_isBarred_3 : decode cX6_isBarred 3 = .ok (.invokevirtual 155, 3) := by decide +kernel
theorem dX6_isBarred_6 : decode cX6_isBarred 6 = .ok (.ifCond .eq 7, 3) := by decide +kernel
theorem dX6_isBarred_9 : decode cX6_isBarred 9 = .ok (.iconst 0, 1) := by decide +kernel
theorem dX6_isBarred_10 : decode cX6_isBarred 10 = .ok (.goto 4, 3) := by decide +kernel
theorem dX6_isBarred_13 : decode cX6_isBarred 13 = .ok (.iconst 1, 1) := by decide +kernel
theorem dX6_isBarred_14 : decode cX6_isBarred 14 = .ok (.putfield 46, 3) := by decide +kernel
theorem dX6_isBarred_17 : decode cX6_isBarred 17 = .ok (.aload_n 0, 1) := by decide +kernel
theorem dX6_isBarred_18 : decode cX6_isBarred 18 = .ok (.getfield 46, 3) := by decide +kernel
theorem dX6_isBarred_21 : decode cX6_isBarred 21 = .ok (.ifCond .ne 20, 3) := by decide +kernel
theorem dX6_isBarred_24 : decode cX6_isBarred 24 = .ok (.aload_n 0, 1) := by decide +kernel
theorem dX6_isBarred_25 : decode cX6_isBarred 25 = .ok (.getfield 7, 3) := by decide +kernel
theorem dX6_isBarred_28 : decode cX6_isBarred 28 = .ok (.bipush 8, 2) := by decide +kernel
theorem dX6_isBarred_30 : decode cX6_isBarred 30 = .ok (.iload_n 1, 1) := by decide +kernel
theorem dX6_isBarred_31 : decode cX6_isBarred 31 = .ok (.iadd, 1) := by decide +kernel
theorem dX6_isBarred_32 : decode cX6_isBarred 32 = .ok (.iaload, 1) := by decide +kernel
theorem dX6_isBarred_33 : decode cX6_isBarred 33 = .ok (.iconst 1, 1) := by decide +kernel
theorem dX6_isBarred_34 : decode cX6_isBarred 34 = .ok (.if_icmp .ne 7, 3) := by decide +kernel
theorem dX6_isBarred_37 : decode cX6_isBarred 37 = .ok (.iconst 1, 1) := by decide +kernel
theorem dX6_isBarred_38 : decode cX6_isBarred 38 = .ok (.goto 4, 3) := by decide +kernel
theorem dX6_isBarred_41 : decode cX6_isBarred 41 = .ok (.iconst 0, 1) := by decide +kernel
theorem dX6_isBarred_42 : decode cX6_isBarred 42 = .ok (.ireturn, 1) := by decide +kernel
theorem dX6_barredLines_0 : decode cX6_barredLines 0 = .ok (.iconst 0, 1) := by decide +kernel
theorem dX6_barredLines_1 : decode cX6_barredLines 1 = .ok (.istore_n 1, 1) := by decide +kernel
theorem dX6_barredLines_2 : decode cX6_barredLines 2 = .ok (.iconst 0, 1) := by decide +kernel
theorem dX6_barredLines_3 : decode cX6_barredLines 3 = .ok (.istore_n 2, 1) := by decide +kernel
theorem dX6_barredLines_4 : decode cX6_barredLines 4 = .ok (.iload_n 2, 1) := by decide +kernel
theorem dX6_barredLines_5 : decode cX6_barredLines 5 = .ok (.aload_n 0, 1) := by decide +kernel
theorem dX6_barredLines_6 : decode cX6_barredLines 6 = .ok (.invokevirtual 74, 3) := by decide +kernel
theorem dX6_barredLines_9 : decode cX6_barredLines 9 = .ok (.if_icmp .ge 21, 3) := by decide +kernel
theorem dX6_barredLines_12 : decode cX6_barredLines 12 = .ok (.iload_n 1, 1) := by decide +kernel
theorem dX6_barredLines_13 : decode cX6_barredLines 13 = .ok (.aload_n 0, 1) := by decide +kernel
theorem dX6_barredLines_14 : decode cX6_barredLines 14 = .ok (.getfield 7, 3) := by decide +kernel
theorem dX6_barredLines_17 : decode cX6_barredLines 17 = .ok (.bipush 8, 2) := by decide +kernel
theorem dX6_barredLines_19 : decode cX6_barredLines 19 = .ok (.iload_n 2, 1) := by decide +kernel
theorem dX6_barredLines_20 : decode cX6_barredLines 20 = .ok (.iadd, 1) := by decide +kernel
theorem dX6_barredLines_21 : decode cX6_barredLines 21 = .ok (.iaload, 1) := by decide +kernel
theorem dX6_barredLines_22 : decode cX6_barredLines 22 = .ok (.iadd, 1) := by decide +kernel
theorem dX6_barredLines_23 : decode cX6_barredLines 23 = .ok (.istore_n 1, 1) := by decide +kernel
theorem dX6_barredLines_24 : decode cX6_barredLines 24 = .ok (.iinc 2 1, 3) := by decide +kernel
theorem dX6_barredLines_27 : decode cX6_barredLines 27 = .ok (.goto (-23), 3) := by decide +kernel
theorem dX6_barredLines_30 : decode cX6_barredLines 30 = .ok (.iload_n 1, 1) := by decide +kernel
theorem dX6_barredLines_31 : decode cX6_barredLines 31 = .ok (.ireturn, 1) := by decide +kernel
theorem dX6_isVowel_0 : decode cX6_isVowel 0 = .ok (.iload_n 0, 1) := by decide +kernel
theorem dX6_isVowel_1 : decode cX6_isVowel 1 = .ok (.ifCond .eq 14, 3) := by decide +kernel
theorem dX6_isVowel_4 : decode cX6_isVowel 4 = .ok (.iload_n 0, 1) := by decide +kernel
theorem dX6_isVowel_5 : decode cX6_isVowel 5 = .ok (.iconst 4, 1) := by decide +kernel
theorem dX6_isVowel_6 : decode cX6_isVowel 6 = .ok (.if_icmp .eq 9, 3) := by decide +kernel
theorem dX6_isVowel_9 : decode cX6_isVowel 9 = .ok (.iload_n 0, 1) := by decide +kernel
theorem dX6_isVowel_10 : decode cX6_isVowel 10 = .ok (.bipush 8, 2) := by decide +kernel
theorem dX6_isVowel_12 : decode cX6_isVowel 12 = .ok (.if_icmp .ne 7, 3) := by decide +kernel
theorem dX6_isVowel_15 : decode cX6_isVowel 15 = .ok (.iconst 1, 1) := by decide +kernel
theorem dX6_isVowel_16 : decode cX6_isVowel 16 = .ok (.goto 4, 3) := by decide +kernel
theorem dX6_isVowel_19 : decode cX6_isVowel 19 = .ok (.iconst 0, 1) := by decide +kernel
theorem dX6_isVowel_20 : decode cX6_isVowel 20 = .ok (.ireturn, 1) := by decide +kernel
theorem dX6_boardOf_0 : decode cX6_boardOf 0 = .ok (.iload_n 1, 1) := by decide +kernel
theorem dX6_boardOf_1 : decode cX6_boardOf 1 = .ok (.tableswitch 131 0 6 #[43, 43, 54, 65, 81, 90, 119], 43) := by decide +kernel
theorem dX6_boardOf_44 : decode cX6_boardOf 44 = .ok (.aload_n 0, 1) := by decide +kernel
theorem dX6_boardOf_45 : decode cX6_boardOf 45 = .ok (.aload_n 0, 1) := by decide +kernel
theorem dX6_boardOf_46 : decode cX6_boardOf 46 = .ok (.getfield 7, 3) := by decide +kernel
theorem dX6_boardOf_49 : decode cX6_boardOf 49 = .ok (.iload_n 1, 1) := by decide +kernel
theorem dX6_boardOf_50 : decode cX6_boardOf 50 = .ok (.iaload, 1) := by decide +kernel
theorem dX6_boardOf_51 : decode cX6_boardOf 51 = .ok (.invokevirtual 81, 3) := by decide +kernel
theorem dX6_boardOf_54 : decode cX6_boardOf 54 = .ok (.ireturn, 1) := by decide +kernel
theorem dX6_boardOf_55 : decode cX6_boardOf 55 = .ok (.aload_n 0, 1) := by decide +kernel
theorem dX6_boardOf_56 : decode cX6_boardOf 56 = .ok (.iconst 2, 1) := by decide +kernel
theorem dX6_boardOf_57 : decode cX6_boardOf 57 = .ok (.aload_n 0, 1) := by decide +kernel
theorem dX6_boardOf_58 : decode cX6_boardOf 58 = .ok (.invokevirtual 74, 3) := by decide +kernel
theorem dX6_boardOf_61 : decode cX6_boardOf 61 = .ok (.imul, 1) := by decide +kernel
theorem dX6_boardOf_62 : decode cX6_boardOf 62 = .ok (.invokevirtual 81, 3) := by decide +kernel
theorem dX6_boardOf_65 : decode cX6_boardOf 65 = .ok (.ireturn, 1) := by decide +kernel
theorem dX6_boardOf_66 : decode cX6_boardOf 66 = .ok (.aload_n 0, 1) := by decide +kernel
theorem dX6_boardOf_67 : decode cX6_boardOf 67 = .ok (.iconst 2, 1) := by decide +kernel
theorem dX6_boardOf_68 : decode cX6_boardOf 68 = .ok (.aload_n 0, 1) := by decide +kernel
theorem dX6_boardOf_69 : decode cX6_boardOf 69 = .ok (.invokevirtual 74, 3) := by decide +kernel
theorem dX6_boardOf_72 : decode cX6_boardOf 72 = .ok (.aload_n 0, 1) := by decide +kernel
theorem dX6_boardOf_73 : decode cX6_boardOf 73 = .ok (.invokevirtual 193, 3) := by decide +kernel
theorem dX6_boardOf_76 : decode cX6_boardOf 76 = .ok (.isub, 1) := by decide +kernel
theorem dX6_boardOf_77 : decode cX6_boardOf 77 = .ok (.imul, 1) := by decide +kernel
theorem dX6_boardOf_78 : decode cX6_boardOf 78 = .ok (.invokevirtual 81, 3) := by decide +kernel
theorem dX6_boardOf_81 : decode cX6_boardOf 81 = .ok (.ireturn, 1) := by decide +kernel
theorem dX6_boardOf_82 : decode cX6_boardOf 82 = .ok (.aload_n 0, 1) := by decide +kernel
theorem dX6_boardOf_83 : decode cX6_boardOf 83 = .ok (.aload_n 0, 1) := by decide +kernel
theorem dX6_boardOf_84 : decode cX6_boardOf 84 = .ok (.invokevirtual 181, 3) := by decide +kernel
theorem dX6_boardOf_87 : decode cX6_boardOf 87 = .ok (.invokevirtual 81, 3) := by decide +kernel
theorem dX6_boardOf_90 : decode cX6_boardOf 90 = .ok (.ireturn, 1) := by decide +kernel
theorem dX6_boardOf_91 : decode cX6_boardOf 91 = .ok (.aload_n 0, 1) := by decide +kernel
theorem dX6_boardOf_92 : decode cX6_boardOf 92 = .ok (.aload_n 0, 1) := by decide +kernel
theorem dX6_boardOf_93 : decode cX6_boardOf 93 = .ok (.bipush 14, 2) := by decide +kernel
theorem dX6_boardOf_95 : decode cX6_boardOf 95 = .ok (.iconst 0, 1) := by decide +kernel
theorem dX6_boardOf_96 : decode cX6_boardOf 96 = .ok (.invokevirtual 174, 3) := by decide +kernel
theorem dX6_boardOf_99 : decode cX6_boardOf 99 = .ok (.aload_n 0, 1) := by decide +kernel
theorem dX6_boardOf_100 : decode cX6_boardOf 100 = .ok (.bipush 14, 2) := by decide +kernel
theorem dX6_boardOf_102 : decode cX6_boardOf 102 = .ok (.iconst 4, 1) := by decide +kernel
theorem dX6_boardOf_103 : decode cX6_boardOf 103 = .ok (.invokevirtual 174, 3) := by decide +kernel
theorem dX6_boardOf_106 : decode cX6_boardOf 106 = .ok (.iadd, 1) := by decide +kernel
theorem dX6_boardOf_107 : decode cX6_boardOf 107 = .ok (.aload_n 0, 1) := by decide +kernel
theorem dX6_boardOf_108 : decode cX6_boardOf 108 = .ok (.bipush 14, 2) := by decide +kernel
theorem dX6_boardOf_110 : decode cX6_boardOf 110 = .ok (.bipush 8, 2) := by decide +kernel
theorem dX6_boardOf_112 : decode cX6_boardOf 112 = .ok (.invokevirtual 174, 3) := by decide +kernel
theorem dX6_boardOf_115 : decode cX6_boardOf 115 = .ok (.iadd, 1) := by decide +kernel
theorem dX6_boardOf_116 : decode cX6_boardOf 116 = .ok (.invokevirtual 81, 3) := by decide +kernel
theorem dX6_boardOf_119 : decode cX6_boardOf 119 = .ok (.ireturn, 1) := by decide +kernel
theorem dX6_boardOf_120 : decode cX6_boardOf 120 = .ok (.aload_n 0, 1) := by decide +kernel
theorem dX6_boardOf_121 : decode cX6_boardOf 121 = .ok (.aload_n 0, 1) := by decide +kernel
theorem dX6_boardOf_122 : decode cX6_boardOf 122 = .ok (.bipush 23, 2) := by decide +kernel
theorem dX6_boardOf_124 : decode cX6_boardOf 124 = .ok (.iconst (-1), 1) := by decide +kernel
theorem dX6_boardOf_125 : decode cX6_boardOf 125 = .ok (.invokevirtual 174, 3) := by decide +kernel
theorem dX6_boardOf_128 : decode cX6_boardOf 128 = .ok (.invokevirtual 81, 3) := by decide +kernel
theorem dX6_boardOf_131 : decode cX6_boardOf 131 = .ok (.ireturn, 1) := by decide +kernel
theorem dX6_boardOf_132 : decode cX6_boardOf 132 = .ok (.aload_n 0, 1) := by decide +kernel
theorem dX6_boardOf_133 : decode cX6_boardOf 133 = .ok (.iconst 1, 1) := by decide +kernel
theorem dX6_boardOf_134 : decode cX6_boardOf 134 = .ok (.invokevirtual 77, 3) := by decide +kernel
theorem dX6_boardOf_137 : decode cX6_boardOf 137 = .ok (.ireturn, 1) := by decide +kernel
theorem dX6_home_0 : decode cX6_home 0 = .ok (.aload_n 0, 1) := by decide +kernel
theorem dX6_home_1 : decode cX6_home 1 = .ok (.aload_n 0, 1) := by decide +kernel
theorem dX6_home_2 : decode cX6_home 2 = .ok (.invokevirtual 134, 3) := by decide +kernel
theorem dX6_home_5 : decode cX6_home 5 = .ok (.invokevirtual 81, 3) := by decide +kernel
theorem dX6_home_8 : decode cX6_home 8 = .ok (.ireturn, 1) := by decide +kernel
theorem dX6_homeBehind_0 : decode cX6_homeBehind 0 = .ok (.aload_n 0, 1) := by decide +kernel
theorem dX6_homeBehind_1 : decode cX6_homeBehind 1 = .ok (.invokevirtual 121, 3) := by decide +kernel
theorem dX6_homeBehind_4 : decode cX6_homeBehind 4 = .ok (.aload_n 0, 1) := by decide +kernel
theorem dX6_homeBehind_5 : decode cX6_homeBehind 5 = .ok (.iload_n 1, 1) := by decide +kernel
theorem dX6_homeBehind_6 : decode cX6_homeBehind 6 = .ok (.invokevirtual 127, 3) := by decide +kernel
theorem dX6_homeBehind_9 : decode cX6_homeBehind 9 = .ok (.aload_n 0, 1) := by decide +kernel
theorem dX6_homeBehind_10 : decode cX6_homeBehind 10 = .ok (.invokevirtual 124, 3) := by decide +kernel
theorem dX6_homeBehind_13 : decode cX6_homeBehind 13 = .ok (.ireturn, 1) := by decide +kernel
theorem dX6_would_0 : decode cX6_would 0 = .ok (.aload_n 0, 1) := by decide +kernel
theorem dX6_would_1 : decode cX6_would 1 = .ok (.iload_n 1, 1) := by decide +kernel
theorem dX6_would_2 : decode cX6_would 2 = .ok (.invokevirtual 140, 3) := by decide +kernel
theorem dX6_would_5 : decode cX6_would 5 = .ok (.ifCond .eq 15, 3) := by decide +kernel
theorem dX6_would_8 : decode cX6_would 8 = .ok (.aload_n 0, 1) := by decide +kernel
theorem dX6_would_9 : decode cX6_would 9 = .ok (.aload_n 0, 1) := by decide +kernel
theorem dX6_would_10 : decode cX6_would 10 = .ok (.iload_n 1, 1) := by decide +kernel
theorem dX6_would_11 : decode cX6_would 11 = .ok (.invokevirtual 196, 3) := by decide +kernel
theorem dX6_would_14 : decode cX6_would 14 = .ok (.invokevirtual 81, 3) := by decide +kernel
theorem dX6_would_17 : decode cX6_would 17 = .ok (.goto 8, 3) := by decide +kernel
theorem dX6_would_20 : decode cX6_would 20 = .ok (.aload_n 0, 1) := by decide +kernel
theorem dX6_would_21 : decode cX6_would 21 = .ok (.iconst 1, 1) := by decide +kernel
theorem dX6_would_22 : decode cX6_would 22 = .ok (.invokevirtual 77, 3) := by decide +kernel
theorem dX6_would_25 : decode cX6_would 25 = .ok (.ireturn, 1) := by decide +kernel
theorem dX6_best_0 : decode cX6_best 0 = .ok (.iconst (-1), 1) := by decide +kernel
theorem dX6_best_1 : decode cX6_best 1 = .ok (.istore_n 1, 1) := by decide +kernel
theorem dX6_best_2 : decode cX6_best 2 = .ok (.iconst (-1), 1) := by decide +kernel
theorem dX6_best_3 : decode cX6_best 3 = .ok (.istore_n 2, 1) := by decide +kernel
theorem dX6_best_4 : decode cX6_best 4 = .ok (.iconst 0, 1) := by decide +kernel
theorem dX6_best_5 : decode cX6_best 5 = .ok (.istore_n 3, 1) := by decide +kernel
theorem dX6_best_6 : decode cX6_best 6 = .ok (.iload_n 3, 1) := by decide +kernel
theorem dX6_best_7 : decode cX6_best 7 = .ok (.iconst 2, 1) := by decide +kernel
theorem dX6_best_8 : decode cX6_best 8 = .ok (.aload_n 0, 1) := by decide +kernel
theorem dX6_best_9 : decode cX6_best 9 = .ok (.invokevirtual 74, 3) := by decide +kernel
theorem dX6_best_12 : decode cX6_best 12 = .ok (.imul, 1) := by decide +kernel
theorem dX6_best_13 : decode cX6_best 13 = .ok (.if_icmp .ge 53, 3) := by decide +kernel
theorem dX6_best_16 : decode cX6_best 16 = .ok (.aload_n 0, 1) := by decide +kernel
theorem dX6_best_17 : decode cX6_best 17 = .ok (.iload_n 3, 1) := by decide +kernel
theorem dX6_best_18 : decode cX6_best 18 = .ok (.invokevirtual 143, 3) := by decide +kernel
theorem dX6_best_21 : decode cX6_best 21 = .ok (.ifCond .eq 11, 3) := by decide +kernel
theorem dX6_best_24 : decode cX6_best 24 = .ok (.aload_n 0, 1) := by decide +kernel
theorem dX6_best_25 : decode cX6_best 25 = .ok (.iload_n 3, 1) := by decide +kernel
theorem dX6_best_26 : decode cX6_best 26 = .ok (.invokevirtual 196, 3) := by decide +kernel
theorem dX6_best_29 : decode cX6_best 29 = .ok (.goto 4, 3) := by decide +kernel
theorem dX6_best_32 : decode cX6_best 32 = .ok (.iconst (-1), 1) := by decide +kernel
theorem dX6_best_33 : decode cX6_best 33 = .ok (.istore 4, 2) := by decide +kernel
theorem dX6_best_35 : decode cX6_best 35 = .ok (.iload 4, 2) := by decide +kernel
theorem dX6_best_37 : decode cX6_best 37 = .ok (.iload_n 2, 1) := by decide +kernel
theorem dX6_best_38 : decode cX6_best 38 = .ok (.if_icmp .le 7, 3) := by decide +kernel
theorem dX6_best_41 : decode cX6_best 41 = .ok (.iload_n 3, 1) := by decide +kernel
theorem dX6_best_42 : decode cX6_best 42 = .ok (.goto 4, 3) := by decide +kernel
theorem dX6_best_45 : decode cX6_best 45 = .ok (.iload_n 1, 1) := by decide +kernel
theorem dX6_best_46 : decode cX6_best 46 = .ok (.istore_n 1, 1) := by decide +kernel
theorem dX6_best_47 : decode cX6_best 47 = .ok (.iload 4, 2) := by decide +kernel
theorem dX6_best_49 : decode cX6_best 49 = .ok (.iload_n 2, 1) := by decide +kernel
theorem dX6_best_50 : decode cX6_best 50 = .ok (.if_icmp .le 8, 3) := by decide +kernel
theorem dX6_best_53 : decode cX6_best 53 = .ok (.iload 4, 2) := by decide +kernel
theorem dX6_best_55 : decode cX6_best 55 = .ok (.goto 4, 3) := by decide +kernel
theorem dX6_best_58 : decode cX6_best 58 = .ok (.iload_n 2, 1) := by decide +kernel
theorem dX6_best_59 : decode cX6_best 59 = .ok (.istore_n 2, 1) := by decide +kernel
theorem dX6_best_60 : decode cX6_best 60 = .ok (.iinc 3 1, 3) := by decide +kernel
theorem dX6_best_63 : decode cX6_best 63 = .ok (.goto (-57), 3) := by decide +kernel
theorem dX6_best_66 : decode cX6_best 66 = .ok (.iload_n 1, 1) := by decide +kernel
theorem dX6_best_67 : decode cX6_best 67 = .ok (.iconst (-1), 1) := by decide +kernel
theorem dX6_best_68 : decode cX6_best 68 = .ok (.if_icmp .ne 11, 3) := by decide +kernel
theorem dX6_best_71 : decode cX6_best 71 = .ok (.aload_n 0, 1) := by decide +kernel
theorem dX6_best_72 : decode cX6_best 72 = .ok (.iconst 1, 1) := by decide +kernel
theorem dX6_best_73 : decode cX6_best 73 = .ok (.invokevirtual 77, 3) := by decide +kernel
theorem dX6_best_76 : decode cX6_best 76 = .ok (.goto 8, 3) := by decide +kernel
theorem dX6_best_79 : decode cX6_best 79 = .ok (.aload_n 0, 1) := by decide +kernel
theorem dX6_best_80 : decode cX6_best 80 = .ok (.iload_n 1, 1) := by decide +kernel
theorem dX6_best_81 : decode cX6_best 81 = .ok (.invokevirtual 81, 3) := by decide +kernel
theorem dX6_best_84 : decode cX6_best 84 = .ok (.ireturn, 1) := by decide +kernel
theorem dX6_where_0 : decode cX6_where 0 = .ok (.aload_n 0, 1) := by decide +kernel
theorem dX6_where_1 : decode cX6_where 1 = .ok (.iload_n 1, 1) := by decide +kernel
theorem dX6_where_2 : decode cX6_where 2 = .ok (.invokevirtual 102, 3) := by decide +kernel
theorem dX6_where_5 : decode cX6_where 5 = .ok (.ifCond .eq 11, 3) := by decide +kernel
theorem dX6_where_8 : decode cX6_where 8 = .ok (.aload_n 0, 1) := by decide +kernel
theorem dX6_where_9 : decode cX6_where 9 = .ok (.iload_n 2, 1) := by decide +kernel
theorem dX6_where_10 : decode cX6_where 10 = .ok (.invokevirtual 140, 3) := by decide +kernel
theorem dX6_where_13 : decode cX6_where 13 = .ok (.ifCond .ne 9, 3) := by decide +kernel
theorem dX6_where_16 : decode cX6_where 16 = .ok (.aload_n 0, 1) := by decide +kernel
theorem dX6_where_17 : decode cX6_where 17 = .ok (.iconst 1, 1) := by decide +kernel
theorem dX6_where_18 : decode cX6_where 18 = .ok (.invokevirtual 77, 3) := by decide +kernel
theorem dX6_where_21 : decode cX6_where 21 = .ok (.ireturn, 1) := by decide +kernel
theorem dX6_where_22 : decode cX6_where 22 = .ok (.iload_n 3, 1) := by decide +kernel
theorem dX6_where_23 : decode cX6_where 23 = .ok (.iconst 0, 1) := by decide +kernel
theorem dX6_where_24 : decode cX6_where 24 = .ok (.bipush 99, 2) := by decide +kernel
theorem dX6_where_26 : decode cX6_where 26 = .ok (.invokestatic 70, 3) := by decide +kernel
theorem dX6_where_29 : decode cX6_where 29 = .ok (.ifCond .ne 9, 3) := by decide +kernel
theorem dX6_where_32 : decode cX6_where 32 = .ok (.aload_n 0, 1) := by decide +kernel
theorem dX6_where_33 : decode cX6_where 33 = .ok (.iconst 2, 1) := by decide +kernel
theorem dX6_where_34 : decode cX6_where 34 = .ok (.invokevirtual 77, 3) := by decide +kernel
theorem dX6_where_37 : decode cX6_where 37 = .ok (.ireturn, 1) := by decide +kernel
theorem dX6_where_38 : decode cX6_where 38 = .ok (.iload_n 1, 1) := by decide +kernel
theorem dX6_where_39 : decode cX6_where 39 = .ok (.istore 4, 2) := by decide +kernel
theorem dX6_where_41 : decode cX6_where 41 = .ok (.iconst 0, 1) := by decide +kernel
theorem dX6_where_42 : decode cX6_where 42 = .ok (.istore 5, 2) := by decide +kernel
theorem dX6_where_44 : decode cX6_where 44 = .ok (.iload 5, 2) := by decide +kernel
theorem dX6_where_46 : decode cX6_where 46 = .ok (.iload_n 3, 1) := by decide +kernel
theorem dX6_where_47 : decode cX6_where 47 = .ok (.if_icmp .ge 18, 3) := by decide +kernel
theorem dX6_where_50 : decode cX6_where 50 = .ok (.aload_n 0, 1) := by decide +kernel
theorem dX6_where_51 : decode cX6_where 51 = .ok (.iload 4, 2) := by decide +kernel
theorem dX6_where_53 : decode cX6_where 53 = .ok (.iload_n 2, 1) := by decide +kernel
theorem dX6_where_54 : decode cX6_where 54 = .ok (.invokevirtual 118, 3) := by decide +kernel
theorem dX6_where_57 : decode cX6_where 57 = .ok (.istore 4, 2) := by decide +kernel
theorem dX6_where_59 : decode cX6_where 59 = .ok (.iinc 5 1, 3) := by decide +kernel
theorem dX6_where_62 : decode cX6_where 62 = .ok (.goto (-18), 3) := by decide +kernel
theorem dX6_where_65 : decode cX6_where 65 = .ok (.aload_n 0, 1) := by decide +kernel
theorem dX6_where_66 : decode cX6_where 66 = .ok (.iload 4, 2) := by decide +kernel
theorem dX6_where_68 : decode cX6_where 68 = .ok (.invokevirtual 81, 3) := by decide +kernel
theorem dX6_where_71 : decode cX6_where 71 = .ok (.ireturn, 1) := by decide +kernel
theorem dX6_round_0 : decode cX6_round 0 = .ok (.iload_n 0, 1) := by decide +kernel
theorem dX6_round_1 : decode cX6_round 1 = .ok (.iload_n 1, 1) := by decide +kernel
theorem dX6_round_2 : decode cX6_round 2 = .ok (.if_icmp .ge 9, 3) := by decide +kernel
theorem dX6_round_5 : decode cX6_round 5 = .ok (.iload_n 1, 1) := by decide +kernel
theorem dX6_round_6 : decode cX6_round 6 = .ok (.iload_n 0, 1) := by decide +kernel
theorem dX6_round_7 : decode cX6_round 7 = .ok (.isub, 1) := by decide +kernel
theorem dX6_round_8 : decode cX6_round 8 = .ok (.goto 6, 3) := by decide +kernel
theorem dX6_round_11 : decode cX6_round 11 = .ok (.iload_n 0, 1) := by decide +kernel
theorem dX6_round_12 : decode cX6_round 12 = .ok (.iload_n 1, 1) := by decide +kernel
theorem dX6_round_13 : decode cX6_round 13 = .ok (.isub, 1) := by decide +kernel
theorem dX6_round_14 : decode cX6_round 14 = .ok (.istore_n 3, 1) := by decide +kernel
theorem dX6_round_15 : decode cX6_round 15 = .ok (.iload_n 3, 1) := by decide +kernel
theorem dX6_round_16 : decode cX6_round 16 = .ok (.iload_n 2, 1) := by decide +kernel
theorem dX6_round_17 : decode cX6_round 17 = .ok (.iload_n 3, 1) := by decide +kernel
theorem dX6_round_18 : decode cX6_round 18 = .ok (.isub, 1) := by decide +kernel
theorem dX6_round_19 : decode cX6_round 19 = .ok (.if_icmp .ge 7, 3) := by decide +kernel
theorem dX6_round_22 : decode cX6_round 22 = .ok (.iload_n 3, 1) := by decide +kernel
theorem dX6_round_23 : decode cX6_round 23 = .ok (.goto 6, 3) := by decide +kernel
theorem dX6_round_26 : decode cX6_round 26 = .ok (.iload_n 2, 1) := by decide +kernel
theorem dX6_round_27 : decode cX6_round 27 = .ok (.iload_n 3, 1) := by decide +kernel
theorem dX6_round_28 : decode cX6_round 28 = .ok (.isub, 1) := by decide +kernel
theorem dX6_round_29 : decode cX6_round 29 = .ok (.ireturn, 1) := by decide +kernel
theorem dX6_stepsBetween_0 : decode cX6_stepsBetween 0 = .ok (.iload_n 1, 1) := by decide +kernel
theorem dX6_stepsBetween_1 : decode cX6_stepsBetween 1 = .ok (.iload_n 3, 1) := by decide +kernel
theorem dX6_stepsBetween_2 : decode cX6_stepsBetween 2 = .ok (.idiv, 1) := by decide +kernel
theorem dX6_stepsBetween_3 : decode cX6_stepsBetween 3 = .ok (.iload_n 2, 1) := by decide +kernel
theorem dX6_stepsBetween_4 : decode cX6_stepsBetween 4 = .ok (.iload_n 3, 1) := by decide +kernel
theorem dX6_stepsBetween_5 : decode cX6_stepsBetween 5 = .ok (.idiv, 1) := by decide +kernel
theorem dX6_stepsBetween_6 : decode cX6_stepsBetween 6 = .ok (.aload_n 0, 1) := by decide +kernel
theorem dX6_stepsBetween_7 : decode cX6_stepsBetween 7 = .ok (.getfield 7, 3) := by decide +kernel
theorem dX6_stepsBetween_10 : decode cX6_stepsBetween 10 = .ok (.iconst 0, 1) := by decide +kernel
theorem dX6_stepsBetween_11 : decode cX6_stepsBetween 11 = .ok (.iaload, 1) := by decide +kernel
theorem dX6_stepsBetween_12 : decode cX6_stepsBetween 12 = .ok (.invokestatic 199, 3) := by decide +kernel
theorem dX6_stepsBetween_15 : decode cX6_stepsBetween 15 = .ok (.iload_n 1, 1) := by decide +kernel
theorem dX6_stepsBetween_16 : decode cX6_stepsBetween 16 = .ok (.iload_n 3, 1) := by decide +kernel
theorem dX6_stepsBetween_17 : decode cX6_stepsBetween 17 = .ok (.irem, 1) := by decide +kernel
theorem dX6_stepsBetween_18 : decode cX6_stepsBetween 18 = .ok (.iload_n 2, 1) := by decide +kernel
theorem dX6_stepsBetween_19 : decode cX6_stepsBetween 19 = .ok (.iload_n 3, 1) := by decide +kernel
theorem dX6_stepsBetween_20 : decode cX6_stepsBetween 20 = .ok (.irem, 1) := by decide +kernel
theorem dX6_stepsBetween_21 : decode cX6_stepsBetween 21 = .ok (.iload_n 3, 1) := by decide +kernel
theorem dX6_stepsBetween_22 : decode cX6_stepsBetween 22 = .ok (.invokestatic 199, 3) := by decide +kernel
theorem dX6_stepsBetween_25 : decode cX6_stepsBetween 25 = .ok (.iadd, 1) := by decide +kernel
theorem dX6_stepsBetween_26 : decode cX6_stepsBetween 26 = .ok (.ireturn, 1) := by decide +kernel
theorem dX6_far_0 : decode cX6_far 0 = .ok (.aload_n 0, 1) := by decide +kernel
theorem dX6_far_1 : decode cX6_far 1 = .ok (.iload_n 1, 1) := by decide +kernel
theorem dX6_far_2 : decode cX6_far 2 = .ok (.invokevirtual 102, 3) := by decide +kernel
theorem dX6_far_5 : decode cX6_far 5 = .ok (.ifCond .eq 30, 3) := by decide +kernel
theorem dX6_far_8 : decode cX6_far 8 = .ok (.aload_n 0, 1) := by decide +kernel
theorem dX6_far_9 : decode cX6_far 9 = .ok (.iload_n 2, 1) := by decide +kernel
theorem dX6_far_10 : decode cX6_far 10 = .ok (.invokevirtual 102, 3) := by decide +kernel
theorem dX6_far_13 : decode cX6_far 13 = .ok (.ifCond .eq 22, 3) := by decide +kernel
theorem dX6_far_16 : decode cX6_far 16 = .ok (.aload_n 0, 1) := by decide +kernel
theorem dX6_far_17 : decode cX6_far 17 = .ok (.aload_n 0, 1) := by decide +kernel
theorem dX6_far_18 : decode cX6_far 18 = .ok (.iload_n 1, 1) := by decide +kernel
theorem dX6_far_19 : decode cX6_far 19 = .ok (.iload_n 2, 1) := by decide +kernel
theorem dX6_far_20 : decode cX6_far 20 = .ok (.aload_n 0, 1) := by decide +kernel
theorem dX6_far_21 : decode cX6_far 21 = .ok (.getfield 7, 3) := by decide +kernel
theorem dX6_far_24 : decode cX6_far 24 = .ok (.iconst 1, 1) := by decide +kernel
theorem dX6_far_25 : decode cX6_far 25 = .ok (.iaload, 1) := by decide +kernel
theorem dX6_far_26 : decode cX6_far 26 = .ok (.invokevirtual 202, 3) := by decide +kernel
theorem dX6_far_29 : decode cX6_far 29 = .ok (.invokevirtual 81, 3) := by decide +kernel
theorem dX6_far_32 : decode cX6_far 32 = .ok (.goto 8, 3) := by decide +kernel
theorem dX6_far_35 : decode cX6_far 35 = .ok (.aload_n 0, 1) := by decide +kernel
theorem dX6_far_36 : decode cX6_far 36 = .ok (.iconst 1, 1) := by decide +kernel
theorem dX6_far_37 : decode cX6_far 37 = .ok (.invokevirtual 77, 3) := by decide +kernel
theorem dX6_far_40 : decode cX6_far 40 = .ok (.ireturn, 1) := by decide +kernel
theorem dX6_lengthOf_0 : decode cX6_lengthOf 0 = .ok (.iload_n 1, 1) := by decide +kernel
theorem dX6_lengthOf_1 : decode cX6_lengthOf 1 = .ok (.aload_n 0, 1) := by decide +kernel
theorem dX6_lengthOf_2 : decode cX6_lengthOf 2 = .ok (.getfield 7, 3) := by decide +kernel
theorem dX6_lengthOf_5 : decode cX6_lengthOf 5 = .ok (.iconst 0, 1) := by decide +kernel
theorem dX6_lengthOf_6 : decode cX6_lengthOf 6 = .ok (.iaload, 1) := by decide +kernel
theorem dX6_lengthOf_7 : decode cX6_lengthOf 7 = .ok (.if_icmp .ge 12, 3) := by decide +kernel
theorem dX6_lengthOf_10 : decode cX6_lengthOf 10 = .ok (.aload_n 0, 1) := by decide +kernel
theorem dX6_lengthOf_11 : decode cX6_lengthOf 11 = .ok (.getfield 7, 3) := by decide +kernel
theorem dX6_lengthOf_14 : decode cX6_lengthOf 14 = .ok (.iconst 1, 1) := by decide +kernel
theorem dX6_lengthOf_15 : decode cX6_lengthOf 15 = .ok (.iaload, 1) := by decide +kernel
theorem dX6_lengthOf_16 : decode cX6_lengthOf 16 = .ok (.goto 9, 3) := by decide +kernel
theorem dX6_lengthOf_19 : decode cX6_lengthOf 19 = .ok (.aload_n 0, 1) := by decide +kernel
theorem dX6_lengthOf_20 : decode cX6_lengthOf 20 = .ok (.getfield 7, 3) := by decide +kernel
theorem dX6_lengthOf_23 : decode cX6_lengthOf 23 = .ok (.iconst 0, 1) := by decide +kernel
theorem dX6_lengthOf_24 : decode cX6_lengthOf 24 = .ok (.iaload, 1) := by decide +kernel
theorem dX6_lengthOf_25 : decode cX6_lengthOf 25 = .ok (.ireturn, 1) := by decide +kernel
theorem dX6_placeOn_0 : decode cX6_placeOn 0 = .ok (.iload_n 1, 1) := by decide +kernel
theorem dX6_placeOn_1 : decode cX6_placeOn 1 = .ok (.aload_n 0, 1) := by decide +kernel
theorem dX6_placeOn_2 : decode cX6_placeOn 2 = .ok (.getfield 7, 3) := by decide +kernel
theorem dX6_placeOn_5 : decode cX6_placeOn 5 = .ok (.iconst 0, 1) := by decide +kernel
theorem dX6_placeOn_6 : decode cX6_placeOn 6 = .ok (.iaload, 1) := by decide +kernel
theorem dX6_placeOn_7 : decode cX6_placeOn 7 = .ok (.if_icmp .ge 16, 3) := by decide +kernel
theorem dX6_placeOn_10 : decode cX6_placeOn 10 = .ok (.aload_n 0, 1) := by decide +kernel
theorem dX6_placeOn_11 : decode cX6_placeOn 11 = .ok (.getfield 7, 3) := by decide +kernel
theorem dX6_placeOn_14 : decode cX6_placeOn 14 = .ok (.iconst 1, 1) := by decide +kernel
theorem dX6_placeOn_15 : decode cX6_placeOn 15 = .ok (.iaload, 1) := by decide +kernel
theorem dX6_placeOn_16 : decode cX6_placeOn 16 = .ok (.iload_n 1, 1) := by decide +kernel
theorem dX6_placeOn_17 : decode cX6_placeOn 17 = .ok (.imul, 1) := by decide +kernel
theorem dX6_placeOn_18 : decode cX6_placeOn 18 = .ok (.iload_n 2, 1) := by decide +kernel
theorem dX6_placeOn_19 : decode cX6_placeOn 19 = .ok (.iadd, 1) := by decide +kernel
theorem dX6_placeOn_20 : decode cX6_placeOn 20 = .ok (.goto 20, 3) := by decide +kernel
theorem dX6_placeOn_23 : decode cX6_placeOn 23 = .ok (.aload_n 0, 1) := by decide +kernel
theorem dX6_placeOn_24 : decode cX6_placeOn 24 = .ok (.getfield 7, 3) := by decide +kernel
theorem dX6_placeOn_27 : decode cX6_placeOn 27 = .ok (.iconst 1, 1) := by decide +kernel
theorem dX6_placeOn_28 : decode cX6_placeOn 28 = .ok (.iaload, 1) := by decide +kernel
theorem dX6_placeOn_29 : decode cX6_placeOn 29 = .ok (.iload_n 2, 1) := by decide +kernel
theorem dX6_placeOn_30 : decode cX6_placeOn 30 = .ok (.imul, 1) := by decide +kernel
theorem dX6_placeOn_31 : decode cX6_placeOn 31 = .ok (.iload_n 1, 1) := by decide +kernel
theorem dX6_placeOn_32 : decode cX6_placeOn 32 = .ok (.iadd, 1) := by decide +kernel
theorem dX6_placeOn_33 : decode cX6_placeOn 33 = .ok (.aload_n 0, 1) := by decide +kernel
theorem dX6_placeOn_34 : decode cX6_placeOn 34 = .ok (.getfield 7, 3) := by decide +kernel
theorem dX6_placeOn_37 : decode cX6_placeOn 37 = .ok (.iconst 0, 1) := by decide +kernel
theorem dX6_placeOn_38 : decode cX6_placeOn 38 = .ok (.iaload, 1) := by decide +kernel
theorem dX6_placeOn_39 : decode cX6_placeOn 39 = .ok (.isub, 1) := by decide +kernel
theorem dX6_placeOn_40 : decode cX6_placeOn 40 = .ok (.ireturn, 1) := by decide +kernel
theorem dX6_isVowelOn_0 : decode cX6_isVowelOn 0 = .ok (.aload_n 0, 1) := by decide +kernel
theorem dX6_isVowelOn_1 : decode cX6_isVowelOn 1 = .ok (.getfield 7, 3) := by decide +kernel
theorem dX6_isVowelOn_4 : decode cX6_isVowelOn 4 = .ok (.bipush 14, 2) := by decide +kernel
theorem dX6_isVowelOn_6 : decode cX6_isVowelOn 6 = .ok (.aload_n 0, 1) := by decide +kernel
theorem dX6_isVowelOn_7 : decode cX6_isVowelOn 7 = .ok (.iload_n 1, 1) := by decide +kernel
theorem dX6_isVowelOn_8 : decode cX6_isVowelOn 8 = .ok (.iload_n 2, 1) := by decide +kernel
theorem dX6_isVowelOn_9 : decode cX6_isVowelOn 9 = .ok (.aload_n 0, 1) := by decide +kernel
theorem dX6_isVowelOn_10 : decode cX6_isVowelOn 10 = .ok (.iload_n 1, 1) := by decide +kernel
theorem dX6_isVowelOn_11 : decode cX6_isVowelOn 11 = .ok (.invokevirtual 205, 3) := by decide +kernel
theorem dX6_isVowelOn_14 : decode cX6_isVowelOn 14 = .ok (.irem, 1) := by decide +kernel
theorem dX6_isVowelOn_15 : decode cX6_isVowelOn 15 = .ok (.invokevirtual 208, 3) := by decide +kernel
theorem dX6_isVowelOn_18 : decode cX6_isVowelOn 18 = .ok (.iadd, 1) := by decide +kernel
theorem dX6_isVowelOn_19 : decode cX6_isVowelOn 19 = .ok (.iaload, 1) := by decide +kernel
theorem dX6_isVowelOn_20 : decode cX6_isVowelOn 20 = .ok (.invokestatic 211, 3) := by decide +kernel
theorem dX6_isVowelOn_23 : decode cX6_isVowelOn 23 = .ok (.ireturn, 1) := by decide +kernel
theorem dX6_vowels_0 : decode cX6_vowels 0 = .ok (.iconst 0, 1) := by decide +kernel
theorem dX6_vowels_1 : decode cX6_vowels 1 = .ok (.istore_n 2, 1) := by decide +kernel
theorem dX6_vowels_2 : decode cX6_vowels 2 = .ok (.iconst 0, 1) := by decide +kernel
theorem dX6_vowels_3 : decode cX6_vowels 3 = .ok (.istore_n 3, 1) := by decide +kernel
theorem dX6_vowels_4 : decode cX6_vowels 4 = .ok (.iload_n 3, 1) := by decide +kernel
theorem dX6_vowels_5 : decode cX6_vowels 5 = .ok (.aload_n 0, 1) := by decide +kernel
theorem dX6_vowels_6 : decode cX6_vowels 6 = .ok (.iload_n 1, 1) := by decide +kernel
theorem dX6_vowels_7 : decode cX6_vowels 7 = .ok (.invokevirtual 205, 3) := by decide +kernel
theorem dX6_vowels_10 : decode cX6_vowels 10 = .ok (.if_icmp .ge 26, 3) := by decide +kernel
theorem dX6_vowels_13 : decode cX6_vowels 13 = .ok (.iload_n 2, 1) := by decide +kernel
theorem dX6_vowels_14 : decode cX6_vowels 14 = .ok (.aload_n 0, 1) := by decide +kernel
theorem dX6_vowels_15 : decode cX6_vowels 15 = .ok (.iload_n 1, 1) := by decide +kernel
theorem dX6_vowels_16 : decode cX6_vowels 16 = .ok (.iload_n 3, 1) := by decide +kernel
theorem dX6_vowels_17 : decode cX6_vowels 17 = .ok (.invokevirtual 214, 3) := by decide +kernel
theorem dX6_vowels_20 : decode cX6_vowels 20 = .ok (.ifCond .eq 7, 3) := by decide +kernel
theorem dX6_vowels_23 : decode cX6_vowels 23 = .ok (.iconst 1, 1) := by decide +kernel
theorem dX6_vowels_24 : decode cX6_vowels 24 = .ok (.goto 4, 3) := by decide +kernel
theorem dX6_vowels_27 : decode cX6_vowels 27 = .ok (.iconst 0, 1) := by decide +kernel
theorem dX6_vowels_28 : decode cX6_vowels 28 = .ok (.iadd, 1) := by decide +kernel
theorem dX6_vowels_29 : decode cX6_vowels 29 = .ok (.istore_n 2, 1) := by decide +kernel
theorem dX6_vowels_30 : decode cX6_vowels 30 = .ok (.iinc 3 1, 3) := by decide +kernel
theorem dX6_vowels_33 : decode cX6_vowels 33 = .ok (.goto (-29), 3) := by decide +kernel
theorem dX6_vowels_36 : decode cX6_vowels 36 = .ok (.iload_n 2, 1) := by decide +kernel
theorem dX6_vowels_37 : decode cX6_vowels 37 = .ok (.ireturn, 1) := by decide +kernel
theorem dX6_isSinging_0 : decode cX6_isSinging 0 = .ok (.aload_n 0, 1) := by decide +kernel
theorem dX6_isSinging_1 : decode cX6_isSinging 1 = .ok (.iload_n 1, 1) := by decide +kernel
theorem dX6_isSinging_2 : decode cX6_isSinging 2 = .ok (.invokevirtual 217, 3) := by decide +kernel
theorem dX6_isSinging_5 : decode cX6_isSinging 5 = .ok (.ifCond .le 7, 3) := by decide +kernel
theorem dX6_isSinging_8 : decode cX6_isSinging 8 = .ok (.iconst 1, 1) := by decide +kernel
theorem dX6_isSinging_9 : decode cX6_isSinging 9 = .ok (.goto 4, 3) := by decide +kernel
theorem dX6_isSinging_12 : decode cX6_isSinging 12 = .ok (.iconst 0, 1) := by decide +kernel
theorem dX6_isSinging_13 : decode cX6_isSinging 13 = .ok (.istore_n 2, 1) := by decide +kernel
theorem dX6_isSinging_14 : decode cX6_isSinging 14 = .ok (.iconst 0, 1) := by decide +kernel
theorem dX6_isSinging_15 : decode cX6_isSinging 15 = .ok (.istore_n 3, 1) := by decide +kernel
theorem dX6_isSinging_16 : decode cX6_isSinging 16 = .ok (.iload_n 3, 1) := by decide +kernel
theorem dX6_isSinging_17 : decode cX6_isSinging 17 = .ok (.aload_n 0, 1) := by decide +kernel
theorem dX6_isSinging_18 : decode cX6_isSinging 18 = .ok (.iload_n 1, 1) := by decide +kernel
theorem dX6_isSinging_19 : decode cX6_isSinging 19 = .ok (.invokevirtual 205, 3) := by decide +kernel
theorem dX6_isSinging_22 : decode cX6_isSinging 22 = .ok (.if_icmp .ge 39, 3) := by decide +kernel
theorem dX6_isSinging_25 : decode cX6_isSinging 25 = .ok (.iload_n 2, 1) := by decide +kernel
theorem dX6_isSinging_26 : decode cX6_isSinging 26 = .ok (.ifCond .eq 27, 3) := by decide +kernel
theorem dX6_isSinging_29 : decode cX6_isSinging 29 = .ok (.aload_n 0, 1) := by decide +kernel
theorem dX6_isSinging_30 : decode cX6_isSinging 30 = .ok (.iload_n 1, 1) := by decide +kernel
theorem dX6_isSinging_31 : decode cX6_isSinging 31 = .ok (.iload_n 3, 1) := by decide +kernel
theorem dX6_isSinging_32 : decode cX6_isSinging 32 = .ok (.invokevirtual 214, 3) := by decide +kernel
theorem dX6_isSinging_35 : decode cX6_isSinging 35 = .ok (.ifCond .eq 14, 3) := by decide +kernel
theorem dX6_isSinging_38 : decode cX6_isSinging 38 = .ok (.aload_n 0, 1) := by decide +kernel
theorem dX6_isSinging_39 : decode cX6_isSinging 39 = .ok (.iload_n 1, 1) := by decide +kernel
theorem dX6_isSinging_40 : decode cX6_isSinging 40 = .ok (.iload_n 3, 1) := by decide +kernel
theorem dX6_isSinging_41 : decode cX6_isSinging 41 = .ok (.iconst 1, 1) := by decide +kernel
theorem dX6_isSinging_42 : decode cX6_isSinging 42 = .ok (.iadd, 1) := by decide +kernel
theorem dX6_isSinging_43 : decode cX6_isSinging 43 = .ok (.invokevirtual 214, 3) := by decide +kernel
theorem dX6_isSinging_46 : decode cX6_isSinging 46 = .ok (.ifCond .ne 7, 3) := by decide +kernel
theorem dX6_isSinging_49 : decode cX6_isSinging 49 = .ok (.iconst 1, 1) := by decide +kernel
theorem dX6_isSinging_50 : decode cX6_isSinging 50 = .ok (.goto 4, 3) := by decide +kernel
theorem dX6_isSinging_53 : decode cX6_isSinging 53 = .ok (.iconst 0, 1) := by decide +kernel
theorem dX6_isSinging_54 : decode cX6_isSinging 54 = .ok (.istore_n 2, 1) := by decide +kernel
theorem dX6_isSinging_55 : decode cX6_isSinging 55 = .ok (.iinc 3 1, 3) := by decide +kernel
theorem dX6_isSinging_58 : decode cX6_isSinging 58 = .ok (.goto (-42), 3) := by decide +kernel
theorem dX6_isSinging_61 : decode cX6_isSinging 61 = .ok (.iload_n 2, 1) := by decide +kernel
theorem dX6_isSinging_62 : decode cX6_isSinging 62 = .ok (.ireturn, 1) := by decide +kernel
theorem dX6_sings_0 : decode cX6_sings 0 = .ok (.aload_n 0, 1) := by decide +kernel
theorem dX6_sings_1 : decode cX6_sings 1 = .ok (.aload_n 0, 1) := by decide +kernel
theorem dX6_sings_2 : decode cX6_sings 2 = .ok (.iload_n 1, 1) := by decide +kernel
theorem dX6_sings_3 : decode cX6_sings 3 = .ok (.invokevirtual 155, 3) := by decide +kernel
theorem dX6_sings_6 : decode cX6_sings 6 = .ok (.ifCond .eq 7, 3) := by decide +kernel
theorem dX6_sings_9 : decode cX6_sings 9 = .ok (.iconst 0, 1) := by decide +kernel
theorem dX6_sings_10 : decode cX6_sings 10 = .ok (.goto 4, 3) := by decide +kernel
theorem dX6_sings_13 : decode cX6_sings 13 = .ok (.iconst 1, 1) := by decide +kernel
theorem dX6_sings_14 : decode cX6_sings 14 = .ok (.putfield 46, 3) := by decide +kernel
theorem dX6_sings_17 : decode cX6_sings 17 = .ok (.aload_n 0, 1) := by decide +kernel
theorem dX6_sings_18 : decode cX6_sings 18 = .ok (.getfield 46, 3) := by decide +kernel
theorem dX6_sings_21 : decode cX6_sings 21 = .ok (.ifCond .ne 15, 3) := by decide +kernel
theorem dX6_sings_24 : decode cX6_sings 24 = .ok (.aload_n 0, 1) := by decide +kernel
theorem dX6_sings_25 : decode cX6_sings 25 = .ok (.iload_n 1, 1) := by decide +kernel
theorem dX6_sings_26 : decode cX6_sings 26 = .ok (.invokevirtual 220, 3) := by decide +kernel
theorem dX6_sings_29 : decode cX6_sings 29 = .ok (.ifCond .eq 7, 3) := by decide +kernel
theorem dX6_sings_32 : decode cX6_sings 32 = .ok (.iconst 1, 1) := by decide +kernel
theorem dX6_sings_33 : decode cX6_sings 33 = .ok (.goto 4, 3) := by decide +kernel
theorem dX6_sings_36 : decode cX6_sings 36 = .ok (.iconst 0, 1) := by decide +kernel
theorem dX6_sings_37 : decode cX6_sings 37 = .ok (.ireturn, 1) := by decide +kernel
theorem dX6_singing_0 : decode cX6_singing 0 = .ok (.iconst 0, 1) := by decide +kernel
theorem dX6_singing_1 : decode cX6_singing 1 = .ok (.istore_n 1, 1) := by decide +kernel
theorem dX6_singing_2 : decode cX6_singing 2 = .ok (.iconst 0, 1) := by decide +kernel
theorem dX6_singing_3 : decode cX6_singing 3 = .ok (.istore_n 2, 1) := by decide +kernel
theorem dX6_singing_4 : decode cX6_singing 4 = .ok (.iload_n 2, 1) := by decide +kernel
theorem dX6_singing_5 : decode cX6_singing 5 = .ok (.aload_n 0, 1) := by decide +kernel
theorem dX6_singing_6 : decode cX6_singing 6 = .ok (.invokevirtual 74, 3) := by decide +kernel
theorem dX6_singing_9 : decode cX6_singing 9 = .ok (.if_icmp .ge 25, 3) := by decide +kernel
theorem dX6_singing_12 : decode cX6_singing 12 = .ok (.iload_n 1, 1) := by decide +kernel
theorem dX6_singing_13 : decode cX6_singing 13 = .ok (.aload_n 0, 1) := by decide +kernel
theorem dX6_singing_14 : decode cX6_singing 14 = .ok (.iload_n 2, 1) := by decide +kernel
theorem dX6_singing_15 : decode cX6_singing 15 = .ok (.invokevirtual 220, 3) := by decide +kernel
theorem dX6_singing_18 : decode cX6_singing 18 = .ok (.ifCond .eq 7, 3) := by decide +kernel
theorem dX6_singing_21 : decode cX6_singing 21 = .ok (.iconst 1, 1) := by decide +kernel
theorem dX6_singing_22 : decode cX6_singing 22 = .ok (.goto 4, 3) := by decide +kernel
theorem dX6_singing_25 : decode cX6_singing 25 = .ok (.iconst 0, 1) := by decide +kernel
theorem dX6_singing_26 : decode cX6_singing 26 = .ok (.iadd, 1) := by decide +kernel
theorem dX6_singing_27 : decode cX6_singing 27 = .ok (.istore_n 1, 1) := by decide +kernel
theorem dX6_singing_28 : decode cX6_singing 28 = .ok (.iinc 2 1, 3) := by decide +kernel
theorem dX6_singing_31 : decode cX6_singing 31 = .ok (.goto (-27), 3) := by decide +kernel
theorem dX6_singing_34 : decode cX6_singing 34 = .ok (.aload_n 0, 1) := by decide +kernel
theorem dX6_singing_35 : decode cX6_singing 35 = .ok (.iload_n 1, 1) := by decide +kernel
theorem dX6_singing_36 : decode cX6_singing 36 = .ok (.invokevirtual 81, 3) := by decide +kernel
theorem dX6_singing_39 : decode cX6_singing 39 = .ok (.ireturn, 1) := by decide +kernel
theorem dX6_ranked_0 : decode cX6_ranked 0 = .ok (.iconst 0, 1) := by decide +kernel
theorem dX6_ranked_1 : decode cX6_ranked 1 = .ok (.istore_n 2, 1) := by decide +kernel
theorem dX6_ranked_2 : decode cX6_ranked 2 = .ok (.iload_n 2, 1) := by decide +kernel
theorem dX6_ranked_3 : decode cX6_ranked 3 = .ok (.aload_n 0, 1) := by decide +kernel
theorem dX6_ranked_4 : decode cX6_ranked 4 = .ok (.invokevirtual 74, 3) := by decide +kernel
theorem dX6_ranked_7 : decode cX6_ranked 7 = .ok (.if_icmp .ge 82, 3) := by decide +kernel
theorem dX6_ranked_10 : decode cX6_ranked 10 = .ok (.iconst 0, 1) := by decide +kernel
theorem dX6_ranked_11 : decode cX6_ranked 11 = .ok (.istore_n 3, 1) := by decide +kernel
theorem dX6_ranked_12 : decode cX6_ranked 12 = .ok (.iconst 0, 1) := by decide +kernel
theorem dX6_ranked_13 : decode cX6_ranked 13 = .ok (.istore 4, 2) := by decide +kernel
theorem dX6_ranked_15 : decode cX6_ranked 15 = .ok (.iload 4, 2) := by decide +kernel
theorem dX6_ranked_17 : decode cX6_ranked 17 = .ok (.aload_n 0, 1) := by decide +kernel
theorem dX6_ranked_18 : decode cX6_ranked 18 = .ok (.invokevirtual 74, 3) := by decide +kernel
theorem dX6_ranked_21 : decode cX6_ranked 21 = .ok (.if_icmp .ge 51, 3) := by decide +kernel
theorem dX6_ranked_24 : decode cX6_ranked 24 = .ok (.iload_n 3, 1) := by decide +kernel
theorem dX6_ranked_25 : decode cX6_ranked 25 = .ok (.aload_n 0, 1) := by decide +kernel
theorem dX6_ranked_26 : decode cX6_ranked 26 = .ok (.iload 4, 2) := by decide +kernel
theorem dX6_ranked_28 : decode cX6_ranked 28 = .ok (.invokevirtual 217, 3) := by decide +kernel
theorem dX6_ranked_31 : decode cX6_ranked 31 = .ok (.aload_n 0, 1) := by decide +kernel
theorem dX6_ranked_32 : decode cX6_ranked 32 = .ok (.iload_n 2, 1) := by decide +kernel
theorem dX6_ranked_33 : decode cX6_ranked 33 = .ok (.invokevirtual 217, 3) := by decide +kernel
theorem dX6_ranked_36 : decode cX6_ranked 36 = .ok (.if_icmp .gt 23, 3) := by decide +kernel
theorem dX6_ranked_39 : decode cX6_ranked 39 = .ok (.aload_n 0, 1) := by decide +kernel
theorem dX6_ranked_40 : decode cX6_ranked 40 = .ok (.iload 4, 2) := by decide +kernel
theorem dX6_ranked_42 : decode cX6_ranked 42 = .ok (.invokevirtual 217, 3) := by decide +kernel
theorem dX6_ranked_45 : decode cX6_ranked 45 = .ok (.aload_n 0, 1) := by decide +kernel
theorem dX6_ranked_46 : decode cX6_ranked 46 = .ok (.iload_n 2, 1) := by decide +kernel
theorem dX6_ranked_47 : decode cX6_ranked 47 = .ok (.invokevirtual 217, 3) := by decide +kernel
theorem dX6_ranked_50 : decode cX6_ranked 50 = .ok (.if_icmp .ne 13, 3) := by decide +kernel
theorem dX6_ranked_53 : decode cX6_ranked 53 = .ok (.iload 4, 2) := by decide +kernel
theorem dX6_ranked_55 : decode cX6_ranked 55 = .ok (.iload_n 2, 1) := by decide +kernel
theorem dX6_ranked_56 : decode cX6_ranked 56 = .ok (.if_icmp .ge 7, 3) := by decide +kernel
theorem dX6_ranked_59 : decode cX6_ranked 59 = .ok (.iconst 1, 1) := by decide +kernel
theorem dX6_ranked_60 : decode cX6_ranked 60 = .ok (.goto 4, 3) := by decide +kernel
theorem dX6_ranked_63 : decode cX6_ranked 63 = .ok (.iconst 0, 1) := by decide +kernel
theorem dX6_ranked_64 : decode cX6_ranked 64 = .ok (.iadd, 1) := by decide +kernel
theorem dX6_ranked_65 : decode cX6_ranked 65 = .ok (.istore_n 3, 1) := by decide +kernel
theorem dX6_ranked_66 : decode cX6_ranked 66 = .ok (.iinc 4 1, 3) := by decide +kernel
theorem dX6_ranked_69 : decode cX6_ranked 69 = .ok (.goto (-54), 3) := by decide +kernel
theorem dX6_ranked_72 : decode cX6_ranked 72 = .ok (.iload_n 3, 1) := by decide +kernel
theorem dX6_ranked_73 : decode cX6_ranked 73 = .ok (.iload_n 1, 1) := by decide +kernel
theorem dX6_ranked_74 : decode cX6_ranked 74 = .ok (.if_icmp .ne 9, 3) := by decide +kernel
theorem dX6_ranked_77 : decode cX6_ranked 77 = .ok (.aload_n 0, 1) := by decide +kernel
theorem dX6_ranked_78 : decode cX6_ranked 78 = .ok (.iload_n 2, 1) := by decide +kernel
theorem dX6_ranked_79 : decode cX6_ranked 79 = .ok (.invokevirtual 81, 3) := by decide +kernel
theorem dX6_ranked_82 : decode cX6_ranked 82 = .ok (.ireturn, 1) := by decide +kernel
theorem dX6_ranked_83 : decode cX6_ranked 83 = .ok (.iinc 2 1, 3) := by decide +kernel
theorem dX6_ranked_86 : decode cX6_ranked 86 = .ok (.goto (-84), 3) := by decide +kernel
theorem dX6_ranked_89 : decode cX6_ranked 89 = .ok (.aload_n 0, 1) := by decide +kernel
theorem dX6_ranked_90 : decode cX6_ranked 90 = .ok (.iconst 1, 1) := by decide +kernel
theorem dX6_ranked_91 : decode cX6_ranked 91 = .ok (.invokevirtual 77, 3) := by decide +kernel
theorem dX6_ranked_94 : decode cX6_ranked 94 = .ok (.ireturn, 1) := by decide +kernel
theorem dX6_writes_0 : decode cX6_writes 0 = .ok (.aload_n 0, 1) := by decide +kernel
theorem dX6_writes_1 : decode cX6_writes 1 = .ok (.getfield 30, 3) := by decide +kernel
theorem dX6_writes_4 : decode cX6_writes 4 = .ok (.aload_n 0, 1) := by decide +kernel
theorem dX6_writes_5 : decode cX6_writes 5 = .ok (.getfield 223, 3) := by decide +kernel
theorem dX6_writes_8 : decode cX6_writes 8 = .ok (.iload_n 1, 1) := by decide +kernel
theorem dX6_writes_9 : decode cX6_writes 9 = .ok (.i2c, 1) := by decide +kernel
theorem dX6_writes_10 : decode cX6_writes 10 = .ok (.castore, 1) := by decide +kernel
theorem dX6_writes_11 : decode cX6_writes 11 = .ok (.aload_n 0, 1) := by decide +kernel
theorem dX6_writes_12 : decode cX6_writes 12 = .ok (.dup, 1) := by decide +kernel
theorem dX6_writes_13 : decode cX6_writes 13 = .ok (.getfield 223, 3) := by decide +kernel
theorem dX6_writes_16 : decode cX6_writes 16 = .ok (.iconst 1, 1) := by decide +kernel
theorem dX6_writes_17 : decode cX6_writes 17 = .ok (.iadd, 1) := by decide +kernel
theorem dX6_writes_18 : decode cX6_writes 18 = .ok (.putfield 223, 3) := by decide +kernel
theorem dX6_writes_21 : decode cX6_writes 21 = .ok (.return_, 1) := by decide +kernel
theorem dX6_writesAll_0 : decode cX6_writesAll 0 = .ok (.aload_n 0, 1) := by decide +kernel
theorem dX6_writesAll_1 : decode cX6_writesAll 1 = .ok (.iconst 0, 1) := by decide +kernel
theorem dX6_writesAll_2 : decode cX6_writesAll 2 = .ok (.putfield 223, 3) := by decide +kernel
theorem dX6_writesAll_5 : decode cX6_writesAll 5 = .ok (.iconst 0, 1) := by decide +kernel
theorem dX6_writesAll_6 : decode cX6_writesAll 6 = .ok (.istore_n 2, 1) := by decide +kernel
theorem dX6_writesAll_7 : decode cX6_writesAll 7 = .ok (.iload_n 2, 1) := by decide +kernel
theorem dX6_writesAll_8 : decode cX6_writesAll 8 = .ok (.aload_n 0, 1) := by decide +kernel
theorem dX6_writesAll_9 : decode cX6_writesAll 9 = .ok (.invokevirtual 66, 3) := by decide +kernel
theorem dX6_writesAll_12 : decode cX6_writesAll 12 = .ok (.if_icmp .ge 45, 3) := by decide +kernel
theorem dX6_writesAll_15 : decode cX6_writesAll 15 = .ok (.iload_n 2, 1) := by decide +kernel
theorem dX6_writesAll_16 : decode cX6_writesAll 16 = .ok (.ifCond .le 20, 3) := by decide +kernel
theorem dX6_writesAll_19 : decode cX6_writesAll 19 = .ok (.iload_n 2, 1) := by decide +kernel
theorem dX6_writesAll_20 : decode cX6_writesAll 20 = .ok (.aload_n 0, 1) := by decide +kernel
theorem dX6_writesAll_21 : decode cX6_writesAll 21 = .ok (.getfield 7, 3) := by decide +kernel
theorem dX6_writesAll_24 : decode cX6_writesAll 24 = .ok (.iconst 1, 1) := by decide +kernel
theorem dX6_writesAll_25 : decode cX6_writesAll 25 = .ok (.iaload, 1) := by decide +kernel
theorem dX6_writesAll_26 : decode cX6_writesAll 26 = .ok (.irem, 1) := by decide +kernel
theorem dX6_writesAll_27 : decode cX6_writesAll 27 = .ok (.ifCond .ne 9, 3) := by decide +kernel
theorem dX6_writesAll_30 : decode cX6_writesAll 30 = .ok (.aload_n 0, 1) := by decide +kernel
theorem dX6_writesAll_31 : decode cX6_writesAll 31 = .ok (.bipush 47, 2) := by decide +kernel
theorem dX6_writesAll_33 : decode cX6_writesAll 33 = .ok (.invokevirtual 226, 3) := by decide +kernel
theorem dX6_writesAll_36 : decode cX6_writesAll 36 = .ok (.aload_n 0, 1) := by decide +kernel
theorem dX6_writesAll_37 : decode cX6_writesAll 37 = .ok (.aload_n 0, 1) := by decide +kernel
theorem dX6_writesAll_38 : decode cX6_writesAll 38 = .ok (.getfield 7, 3) := by decide +kernel
theorem dX6_writesAll_41 : decode cX6_writesAll 41 = .ok (.iload_n 1, 1) := by decide +kernel
theorem dX6_writesAll_42 : decode cX6_writesAll 42 = .ok (.iload_n 2, 1) := by decide +kernel
theorem dX6_writesAll_43 : decode cX6_writesAll 43 = .ok (.iadd, 1) := by decide +kernel
theorem dX6_writesAll_44 : decode cX6_writesAll 44 = .ok (.iaload, 1) := by decide +kernel
theorem dX6_writesAll_45 : decode cX6_writesAll 45 = .ok (.invokestatic 98, 3) := by decide +kernel
theorem dX6_writesAll_48 : decode cX6_writesAll 48 = .ok (.invokevirtual 226, 3) := by decide +kernel
theorem dX6_writesAll_51 : decode cX6_writesAll 51 = .ok (.iinc 2 1, 3) := by decide +kernel
theorem dX6_writesAll_54 : decode cX6_writesAll 54 = .ok (.goto (-47), 3) := by decide +kernel
theorem dX6_writesAll_57 : decode cX6_writesAll 57 = .ok (.aload_n 0, 1) := by decide +kernel
theorem dX6_writesAll_58 : decode cX6_writesAll 58 = .ok (.aload_n 0, 1) := by decide +kernel
theorem dX6_writesAll_59 : decode cX6_writesAll 59 = .ok (.getfield 223, 3) := by decide +kernel
theorem dX6_writesAll_62 : decode cX6_writesAll 62 = .ok (.invokevirtual 81, 3) := by decide +kernel
theorem dX6_writesAll_65 : decode cX6_writesAll 65 = .ok (.ireturn, 1) := by decide +kernel
theorem dX6_text_0 : decode cX6_text 0 = .ok (.aload_n 0, 1) := by decide +kernel
theorem dX6_text_1 : decode cX6_text 1 = .ok (.bipush 14, 2) := by decide +kernel
theorem dX6_text_3 : decode cX6_text 3 = .ok (.invokevirtual 229, 3) := by decide +kernel
theorem dX6_text_6 : decode cX6_text 6 = .ok (.ireturn, 1) := by decide +kernel
theorem dX6_goalText_0 : decode cX6_goalText 0 = .ok (.aload_n 0, 1) := by decide +kernel
theorem dX6_goalText_1 : decode cX6_goalText 1 = .ok (.bipush 23, 2) := by decide +kernel
theorem dX6_goalText_3 : decode cX6_goalText 3 = .ok (.invokevirtual 229, 3) := by decide +kernel
theorem dX6_goalText_6 : decode cX6_goalText 6 = .ok (.ireturn, 1) := by decide +kernel
theorem dX6_lineText_0 : decode cX6_lineText 0 = .ok (.aload_n 0, 1) := by decide +kernel
theorem dX6_lineText_1 : decode cX6_lineText 1 = .ok (.iload_n 1, 1) := by decide +kernel
theorem dX6_lineText_2 : decode cX6_lineText 2 = .ok (.invokevirtual 155, 3) := by decide +kernel
theorem dX6_lineText_5 : decode cX6_lineText 5 = .ok (.ifCond .ne 9, 3) := by decide +kernel
theorem dX6_lineText_8 : decode cX6_lineText 8 = .ok (.aload_n 0, 1) := by decide +kernel
theorem dX6_lineText_9 : decode cX6_lineText 9 = .ok (.iconst 1, 1) := by decide +kernel
theorem dX6_lineText_10 : decode cX6_lineText 10 = .ok (.invokevirtual 77, 3) := by decide +kernel
theorem dX6_lineText_13 : decode cX6_lineText 13 = .ok (.ireturn, 1) := by decide +kernel
theorem dX6_lineText_14 : decode cX6_lineText 14 = .ok (.aload_n 0, 1) := by decide +kernel
theorem dX6_lineText_15 : decode cX6_lineText 15 = .ok (.iconst 0, 1) := by decide +kernel
theorem dX6_lineText_16 : decode cX6_lineText 16 = .ok (.putfield 223, 3) := by decide +kernel
theorem dX6_lineText_19 : decode cX6_lineText 19 = .ok (.aload_n 0, 1) := by decide +kernel
theorem dX6_lineText_20 : decode cX6_lineText 20 = .ok (.getfield 7, 3) := by decide +kernel
theorem dX6_lineText_23 : decode cX6_lineText 23 = .ok (.bipush 8, 2) := by decide +kernel
theorem dX6_lineText_25 : decode cX6_lineText 25 = .ok (.iload_n 1, 1) := by decide +kernel
theorem dX6_lineText_26 : decode cX6_lineText 26 = .ok (.iadd, 1) := by decide +kernel
theorem dX6_lineText_27 : decode cX6_lineText 27 = .ok (.iaload, 1) := by decide +kernel
theorem dX6_lineText_28 : decode cX6_lineText 28 = .ok (.iconst 1, 1) := by decide +kernel
theorem dX6_lineText_29 : decode cX6_lineText 29 = .ok (.if_icmp .ne 9, 3) := by decide +kernel
theorem dX6_lineText_32 : decode cX6_lineText 32 = .ok (.aload_n 0, 1) := by decide +kernel
theorem dX6_lineText_33 : decode cX6_lineText 33 = .ok (.bipush 35, 2) := by decide +kernel
theorem dX6_lineText_35 : decode cX6_lineText 35 = .ok (.invokevirtual 226, 3) := by decide +kernel
theorem dX6_lineText_38 : decode cX6_lineText 38 = .ok (.iconst 0, 1) := by decide +kernel
theorem dX6_lineText_39 : decode cX6_lineText 39 = .ok (.istore_n 2, 1) := by decide +kernel
theorem dX6_lineText_40 : decode cX6_lineText 40 = .ok (.iload_n 2, 1) := by decide +kernel
theorem dX6_lineText_41 : decode cX6_lineText 41 = .ok (.aload_n 0, 1) := by decide +kernel
theorem dX6_lineText_42 : decode cX6_lineText 42 = .ok (.iload_n 1, 1) := by decide +kernel
theorem dX6_lineText_43 : decode cX6_lineText 43 = .ok (.invokevirtual 205, 3) := by decide +kernel
theorem dX6_lineText_46 : decode cX6_lineText 46 = .ok (.if_icmp .ge 30, 3) := by decide +kernel
theorem dX6_lineText_49 : decode cX6_lineText 49 = .ok (.aload_n 0, 1) := by decide +kernel
theorem dX6_lineText_50 : decode cX6_lineText 50 = .ok (.aload_n 0, 1) := by decide +kernel
theorem dX6_lineText_51 : decode cX6_lineText 51 = .ok (.getfield 7, 3) := by decide +kernel
theorem dX6_lineText_54 : decode cX6_lineText 54 = .ok (.bipush 14, 2) := by decide +kernel
theorem dX6_lineText_56 : decode cX6_lineText 56 = .ok (.aload_n 0, 1) := by decide +kernel
theorem dX6_lineText_57 : decode cX6_lineText 57 = .ok (.iload_n 1, 1) := by decide +kernel
theorem dX6_lineText_58 : decode cX6_lineText 58 = .ok (.iload_n 2, 1) := by decide +kernel
theorem dX6_lineText_59 : decode cX6_lineText 59 = .ok (.invokevirtual 208, 3) := by decide +kernel
theorem dX6_lineText_62 : decode cX6_lineText 62 = .ok (.iadd, 1) := by decide +kernel
theorem dX6_lineText_63 : decode cX6_lineText 63 = .ok (.iaload, 1) := by decide +kernel
theorem dX6_lineText_64 : decode cX6_lineText 64 = .ok (.invokestatic 98, 3) := by decide +kernel
theorem dX6_lineText_67 : decode cX6_lineText 67 = .ok (.invokevirtual 226, 3) := by decide +kernel
theorem dX6_lineText_70 : decode cX6_lineText 70 = .ok (.iinc 2 1, 3) := by decide +kernel
theorem dX6_lineText_73 : decode cX6_lineText 73 = .ok (.goto (-33), 3) := by decide +kernel
theorem dX6_lineText_76 : decode cX6_lineText 76 = .ok (.aload_n 0, 1) := by decide +kernel
theorem dX6_lineText_77 : decode cX6_lineText 77 = .ok (.iload_n 1, 1) := by decide +kernel
theorem dX6_lineText_78 : decode cX6_lineText 78 = .ok (.invokevirtual 220, 3) := by decide +kernel
theorem dX6_lineText_81 : decode cX6_lineText 81 = .ok (.ifCond .eq 9, 3) := by decide +kernel
theorem dX6_lineText_84 : decode cX6_lineText 84 = .ok (.aload_n 0, 1) := by decide +kernel
theorem dX6_lineText_85 : decode cX6_lineText 85 = .ok (.bipush 33, 2) := by decide +kernel
theorem dX6_lineText_87 : decode cX6_lineText 87 = .ok (.invokevirtual 226, 3) := by decide +kernel
theorem dX6_lineText_90 : decode cX6_lineText 90 = .ok (.aload_n 0, 1) := by decide +kernel
theorem dX6_lineText_91 : decode cX6_lineText 91 = .ok (.aload_n 0, 1) := by decide +kernel
theorem dX6_lineText_92 : decode cX6_lineText 92 = .ok (.getfield 223, 3) := by decide +kernel
theorem dX6_lineText_95 : decode cX6_lineText 95 = .ok (.invokevirtual 81, 3) := by decide +kernel
theorem dX6_lineText_98 : decode cX6_lineText 98 = .ok (.ireturn, 1) := by decide +kernel
theorem dX6_character_0 : decode cX6_character 0 = .ok (.aload_n 0, 1) := by decide +kernel
theorem dX6_character_1 : decode cX6_character 1 = .ok (.iload_n 1, 1) := by decide +kernel
theorem dX6_character_2 : decode cX6_character 2 = .ok (.iconst 0, 1) := by decide +kernel
theorem dX6_character_3 : decode cX6_character 3 = .ok (.aload_n 0, 1) := by decide +kernel
theorem dX6_character_4 : decode cX6_character 4 = .ok (.getfield 223, 3) := by decide +kernel
theorem dX6_character_7 : decode cX6_character 7 = .ok (.iconst 1, 1) := by decide +kernel
theorem dX6_character_8 : decode cX6_character 8 = .ok (.isub, 1) := by decide +kernel
theorem dX6_character_9 : decode cX6_character 9 = .ok (.invokestatic 70, 3) := by decide +kernel
theorem dX6_character_12 : decode cX6_character 12 = .ok (.ifCond .eq 7, 3) := by decide +kernel
theorem dX6_character_15 : decode cX6_character 15 = .ok (.iconst 0, 1) := by decide +kernel
theorem dX6_character_16 : decode cX6_character 16 = .ok (.goto 4, 3) := by decide +kernel
theorem dX6_character_19 : decode cX6_character 19 = .ok (.iconst 1, 1) := by decide +kernel
theorem dX6_character_20 : decode cX6_character 20 = .ok (.putfield 46, 3) := by decide +kernel
theorem dX6_character_23 : decode cX6_character 23 = .ok (.aload_n 0, 1) := by decide +kernel
theorem dX6_character_24 : decode cX6_character 24 = .ok (.getfield 46, 3) := by decide +kernel
theorem dX6_character_27 : decode cX6_character 27 = .ok (.ifCond .ne 12, 3) := by decide +kernel
theorem dX6_character_30 : decode cX6_character 30 = .ok (.aload_n 0, 1) := by decide +kernel
theorem dX6_character_31 : decode cX6_character 31 = .ok (.getfield 30, 3) := by decide +kernel
theorem dX6_character_34 : decode cX6_character 34 = .ok (.iload_n 1, 1) := by decide +kernel
theorem dX6_character_35 : decode cX6_character 35 = .ok (.caload, 1) := by decide +kernel
theorem dX6_character_36 : decode cX6_character 36 = .ok (.goto 4, 3) := by decide +kernel
theorem dX6_character_39 : decode cX6_character 39 = .ok (.iconst 0, 1) := by decide +kernel
theorem dX6_character_40 : decode cX6_character 40 = .ok (.ireturn, 1) := by decide +kernel
theorem dX6_append_0 : decode cX6_append 0 = .ok (.aload_n 0, 1) := by decide +kernel
theorem dX6_append_1 : decode cX6_append 1 = .ok (.getfield 232, 3) := by decide +kernel
theorem dX6_append_4 : decode cX6_append 4 = .ok (.bipush 60, 2) := by decide +kernel
theorem dX6_append_6 : decode cX6_append 6 = .ok (.if_icmp .ne 9, 3) := by decide +kernel
theorem dX6_append_9 : decode cX6_append 9 = .ok (.aload_n 0, 1) := by decide +kernel
theorem dX6_append_10 : decode cX6_append 10 = .ok (.iconst 1, 1) := by decide +kernel
theorem dX6_append_11 : decode cX6_append 11 = .ok (.invokevirtual 77, 3) := by decide +kernel
theorem dX6_append_14 : decode cX6_append 14 = .ok (.ireturn, 1) := by decide +kernel
theorem dX6_append_15 : decode cX6_append 15 = .ok (.aload_n 0, 1) := by decide +kernel
theorem dX6_append_16 : decode cX6_append 16 = .ok (.getfield 22, 3) := by decide +kernel
theorem dX6_append_19 : decode cX6_append 19 = .ok (.aload_n 0, 1) := by decide +kernel
theorem dX6_append_20 : decode cX6_append 20 = .ok (.getfield 232, 3) := by decide +kernel
theorem dX6_append_23 : decode cX6_append 23 = .ok (.iload_n 1, 1) := by decide +kernel
theorem dX6_append_24 : decode cX6_append 24 = .ok (.castore, 1) := by decide +kernel
theorem dX6_append_25 : decode cX6_append 25 = .ok (.aload_n 0, 1) := by decide +kernel
theorem dX6_append_26 : decode cX6_append 26 = .ok (.dup, 1) := by decide +kernel
theorem dX6_append_27 : decode cX6_append 27 = .ok (.getfield 232, 3) := by decide +kernel
theorem dX6_append_30 : decode cX6_append 30 = .ok (.iconst 1, 1) := by decide +kernel
theorem dX6_append_31 : decode cX6_append 31 = .ok (.iadd, 1) := by decide +kernel
theorem dX6_append_32 : decode cX6_append 32 = .ok (.putfield 232, 3) := by decide +kernel
theorem dX6_append_35 : decode cX6_append 35 = .ok (.aload_n 0, 1) := by decide +kernel
theorem dX6_append_36 : decode cX6_append 36 = .ok (.aload_n 0, 1) := by decide +kernel
theorem dX6_append_37 : decode cX6_append 37 = .ok (.getfield 232, 3) := by decide +kernel
theorem dX6_append_40 : decode cX6_append 40 = .ok (.invokevirtual 81, 3) := by decide +kernel
theorem dX6_append_43 : decode cX6_append 43 = .ok (.ireturn, 1) := by decide +kernel
theorem dX6_here_0 : decode cX6_here 0 = .ok (.aload_n 0, 1) := by decide +kernel
theorem dX6_here_1 : decode cX6_here 1 = .ok (.getfield 235, 3) := by decide +kernel
theorem dX6_here_4 : decode cX6_here 4 = .ok (.aload_n 0, 1) := by decide +kernel
theorem dX6_here_5 : decode cX6_here 5 = .ok (.getfield 232, 3) := by decide +kernel
theorem dX6_here_8 : decode cX6_here 8 = .ok (.if_icmp .ge 15, 3) := by decide +kernel
theorem dX6_here_11 : decode cX6_here 11 = .ok (.aload_n 0, 1) := by decide +kernel
theorem dX6_here_12 : decode cX6_here 12 = .ok (.getfield 22, 3) := by decide +kernel
theorem dX6_here_15 : decode cX6_here 15 = .ok (.aload_n 0, 1) := by decide +kernel
theorem dX6_here_16 : decode cX6_here 16 = .ok (.getfield 235, 3) := by decide +kernel
theorem dX6_here_19 : decode cX6_here 19 = .ok (.caload, 1) := by decide +kernel
theorem dX6_here_20 : decode cX6_here 20 = .ok (.goto 4, 3) := by decide +kernel
theorem dX6_here_23 : decode cX6_here 23 = .ok (.iconst (-1), 1) := by decide +kernel
theorem dX6_here_24 : decode cX6_here 24 = .ok (.ireturn, 1) := by decide +kernel
theorem dX6_needs_0 : decode cX6_needs 0 = .ok (.aload_n 0, 1) := by decide +kernel
theorem dX6_needs_1 : decode cX6_needs 1 = .ok (.aload_n 0, 1) := by decide +kernel
theorem dX6_needs_2 : decode cX6_needs 2 = .ok (.getfield 238, 3) := by decide +kernel
theorem dX6_needs_5 : decode cX6_needs 5 = .ok (.ifCond .ne 11, 3) := by decide +kernel
theorem dX6_needs_8 : decode cX6_needs 8 = .ok (.aload_n 0, 1) := by decide +kernel
theorem dX6_needs_9 : decode cX6_needs 9 = .ok (.invokevirtual 241, 3) := by decide +kernel
theorem dX6_needs_12 : decode cX6_needs 12 = .ok (.iload_n 1, 1) := by decide +kernel
theorem dX6_needs_13 : decode cX6_needs 13 = .ok (.if_icmp .eq 7, 3) := by decide +kernel
theorem dX6_needs_16 : decode cX6_needs 16 = .ok (.iconst 1, 1) := by decide +kernel
theorem dX6_needs_17 : decode cX6_needs 17 = .ok (.goto 4, 3) := by decide +kernel
theorem dX6_needs_20 : decode cX6_needs 20 = .ok (.iconst 0, 1) := by decide +kernel
theorem dX6_needs_21 : decode cX6_needs 21 = .ok (.putfield 238, 3) := by decide +kernel
theorem dX6_needs_24 : decode cX6_needs 24 = .ok (.aload_n 0, 1) := by decide +kernel
theorem dX6_needs_25 : decode cX6_needs 25 = .ok (.dup, 1) := by decide +kernel
theorem dX6_needs_26 : decode cX6_needs 26 = .ok (.getfield 235, 3) := by decide +kernel
theorem dX6_needs_29 : decode cX6_needs 29 = .ok (.aload_n 0, 1) := by decide +kernel
theorem dX6_needs_30 : decode cX6_needs 30 = .ok (.getfield 238, 3) := by decide +kernel
theorem dX6_needs_33 : decode cX6_needs 33 = .ok (.ifCond .eq 7, 3) := by decide +kernel
theorem dX6_needs_36 : decode cX6_needs 36 = .ok (.iconst 0, 1) := by decide +kernel
theorem dX6_needs_37 : decode cX6_needs 37 = .ok (.goto 4, 3) := by decide +kernel
theorem dX6_needs_40 : decode cX6_needs 40 = .ok (.iconst 1, 1) := by decide +kernel
theorem dX6_needs_41 : decode cX6_needs 41 = .ok (.iadd, 1) := by decide +kernel
theorem dX6_needs_42 : decode cX6_needs 42 = .ok (.putfield 235, 3) := by decide +kernel
theorem dX6_needs_45 : decode cX6_needs 45 = .ok (.return_, 1) := by decide +kernel
theorem dX6_figures_0 : decode cX6_figures 0 = .ok (.aload_n 0, 1) := by decide +kernel
theorem dX6_figures_1 : decode cX6_figures 1 = .ok (.aload_n 0, 1) := by decide +kernel
theorem dX6_figures_2 : decode cX6_figures 2 = .ok (.getfield 238, 3) := by decide +kernel
theorem dX6_figures_5 : decode cX6_figures 5 = .ok (.ifCond .ne 17, 3) := by decide +kernel
theorem dX6_figures_8 : decode cX6_figures 8 = .ok (.aload_n 0, 1) := by decide +kernel
theorem dX6_figures_9 : decode cX6_figures 9 = .ok (.invokevirtual 241, 3) := by decide +kernel
theorem dX6_figures_12 : decode cX6_figures 12 = .ok (.bipush 48, 2) := by decide +kernel
theorem dX6_figures_14 : decode cX6_figures 14 = .ok (.bipush 57, 2) := by decide +kernel
theorem dX6_figures_16 : decode cX6_figures 16 = .ok (.invokestatic 70, 3) := by decide +kernel
theorem dX6_figures_19 : decode cX6_figures 19 = .ok (.ifCond .ne 7, 3) := by decide +kernel
theorem dX6_figures_22 : decode cX6_figures 22 = .ok (.iconst 1, 1) := by decide +kernel
theorem dX6_figures_23 : decode cX6_figures 23 = .ok (.goto 4, 3) := by decide +kernel
theorem dX6_figures_26 : decode cX6_figures 26 = .ok (.iconst 0, 1) := by decide +kernel
theorem dX6_figures_27 : decode cX6_figures 27 = .ok (.putfield 238, 3) := by decide +kernel
theorem dX6_figures_30 : decode cX6_figures 30 = .ok (.iconst 0, 1) := by decide +kernel
theorem dX6_figures_31 : decode cX6_figures 31 = .ok (.istore_n 2, 1) := by decide +kernel
theorem dX6_figures_32 : decode cX6_figures 32 = .ok (.iconst 0, 1) := by decide +kernel
theorem dX6_figures_33 : decode cX6_figures 33 = .ok (.istore_n 3, 1) := by decide +kernel
theorem dX6_figures_34 : decode cX6_figures 34 = .ok (.aload_n 0, 1) := by decide +kernel
theorem dX6_figures_35 : decode cX6_figures 35 = .ok (.getfield 238, 3) := by decide +kernel
theorem dX6_figures_38 : decode cX6_figures 38 = .ok (.ifCond .ne 51, 3) := by decide +kernel
theorem dX6_figures_41 : decode cX6_figures 41 = .ok (.iload_n 3, 1) := by decide +kernel
theorem dX6_figures_42 : decode cX6_figures 42 = .ok (.iload_n 1, 1) := by decide +kernel
theorem dX6_figures_43 : decode cX6_figures 43 = .ok (.if_icmp .ge 46, 3) := by decide +kernel
theorem dX6_figures_46 : decode cX6_figures 46 = .ok (.aload_n 0, 1) := by decide +kernel
theorem dX6_figures_47 : decode cX6_figures 47 = .ok (.invokevirtual 241, 3) := by decide +kernel
theorem dX6_figures_50 : decode cX6_figures 50 = .ok (.bipush 48, 2) := by decide +kernel
theorem dX6_figures_52 : decode cX6_figures 52 = .ok (.bipush 57, 2) := by decide +kernel
theorem dX6_figures_54 : decode cX6_figures 54 = .ok (.invokestatic 70, 3) := by decide +kernel
theorem dX6_figures_57 : decode cX6_figures 57 = .ok (.ifCond .eq 32, 3) := by decide +kernel
theorem dX6_figures_60 : decode cX6_figures 60 = .ok (.bipush 10, 2) := by decide +kernel
theorem dX6_figures_62 : decode cX6_figures 62 = .ok (.iload_n 2, 1) := by decide +kernel
theorem dX6_figures_63 : decode cX6_figures 63 = .ok (.imul, 1) := by decide +kernel
theorem dX6_figures_64 : decode cX6_figures 64 = .ok (.aload_n 0, 1) := by decide +kernel
theorem dX6_figures_65 : decode cX6_figures 65 = .ok (.invokevirtual 241, 3) := by decide +kernel
theorem dX6_figures_68 : decode cX6_figures 68 = .ok (.iadd, 1) := by decide +kernel
theorem dX6_figures_69 : decode cX6_figures 69 = .ok (.bipush 48, 2) := by decide +kernel
theorem dX6_figures_71 : decode cX6_figures 71 = .ok (.isub, 1) := by decide +kernel
theorem dX6_figures_72 : decode cX6_figures 72 = .ok (.istore_n 2, 1) := by decide +kernel
theorem dX6_figures_73 : decode cX6_figures 73 = .ok (.aload_n 0, 1) := by decide +kernel
theorem dX6_figures_74 : decode cX6_figures 74 = .ok (.dup, 1) := by decide +kernel
theorem dX6_figures_75 : decode cX6_figures 75 = .ok (.getfield 235, 3) := by decide +kernel
theorem dX6_figures_78 : decode cX6_figures 78 = .ok (.iconst 1, 1) := by decide +kernel
theorem dX6_figures_79 : decode cX6_figures 79 = .ok (.iadd, 1) := by decide +kernel
theorem dX6_figures_80 : decode cX6_figures 80 = .ok (.putfield 235, 3) := by decide +kernel
theorem dX6_figures_83 : decode cX6_figures 83 = .ok (.iinc 3 1, 3) := by decide +kernel
theorem dX6_figures_86 : decode cX6_figures 86 = .ok (.goto (-52), 3) := by decide +kernel
theorem dX6_figures_89 : decode cX6_figures 89 = .ok (.iload_n 2, 1) := by decide +kernel
theorem dX6_figures_90 : decode cX6_figures 90 = .ok (.ireturn, 1) := by decide +kernel
theorem dX6_readsSign_0 : decode cX6_readsSign 0 = .ok (.aload_n 0, 1) := by decide +kernel
theorem dX6_readsSign_1 : decode cX6_readsSign 1 = .ok (.invokevirtual 241, 3) := by decide +kernel
theorem dX6_readsSign_4 : decode cX6_readsSign 4 = .ok (.istore_n 2, 1) := by decide +kernel
theorem dX6_readsSign_5 : decode cX6_readsSign 5 = .ok (.aload_n 0, 1) := by decide +kernel
theorem dX6_readsSign_6 : decode cX6_readsSign 6 = .ok (.aload_n 0, 1) := by decide +kernel
theorem dX6_readsSign_7 : decode cX6_readsSign 7 = .ok (.getfield 238, 3) := by decide +kernel
theorem dX6_readsSign_10 : decode cX6_readsSign 10 = .ok (.ifCond .ne 20, 3) := by decide +kernel
theorem dX6_readsSign_13 : decode cX6_readsSign 13 = .ok (.iload_n 2, 1) := by decide +kernel
theorem dX6_readsSign_14 : decode cX6_readsSign 14 = .ok (.invokestatic 106, 3) := by decide +kernel
theorem dX6_readsSign_17 : decode cX6_readsSign 17 = .ok (.ifCond .ne 17, 3) := by decide +kernel
theorem dX6_readsSign_20 : decode cX6_readsSign 20 = .ok (.iload_n 1, 1) := by decide +kernel
theorem dX6_readsSign_21 : decode cX6_readsSign 21 = .ok (.ifCond .eq 9, 3) := by decide +kernel
theorem dX6_readsSign_24 : decode cX6_readsSign 24 = .ok (.iload_n 2, 1) := by decide +kernel
theorem dX6_readsSign_25 : decode cX6_readsSign 25 = .ok (.bipush 46, 2) := by decide +kernel
theorem dX6_readsSign_27 : decode cX6_readsSign 27 = .ok (.if_icmp .eq 7, 3) := by decide +kernel
theorem dX6_readsSign_30 : decode cX6_readsSign 30 = .ok (.iconst 1, 1) := by decide +kernel
theorem dX6_readsSign_31 : decode cX6_readsSign 31 = .ok (.goto 4, 3) := by decide +kernel
theorem dX6_readsSign_34 : decode cX6_readsSign 34 = .ok (.iconst 0, 1) := by decide +kernel
theorem dX6_readsSign_35 : decode cX6_readsSign 35 = .ok (.putfield 238, 3) := by decide +kernel
theorem dX6_readsSign_38 : decode cX6_readsSign 38 = .ok (.aload_n 0, 1) := by decide +kernel
theorem dX6_readsSign_39 : decode cX6_readsSign 39 = .ok (.dup, 1) := by decide +kernel
theorem dX6_readsSign_40 : decode cX6_readsSign 40 = .ok (.getfield 235, 3) := by decide +kernel
theorem dX6_readsSign_43 : decode cX6_readsSign 43 = .ok (.aload_n 0, 1) := by decide +kernel
theorem dX6_readsSign_44 : decode cX6_readsSign 44 = .ok (.getfield 238, 3) := by decide +kernel
theorem dX6_readsSign_47 : decode cX6_readsSign 47 = .ok (.ifCond .eq 7, 3) := by decide +kernel
theorem dX6_readsSign_50 : decode cX6_readsSign 50 = .ok (.iconst 0, 1) := by decide +kernel
theorem dX6_readsSign_51 : decode cX6_readsSign 51 = .ok (.goto 4, 3) := by decide +kernel
theorem dX6_readsSign_54 : decode cX6_readsSign 54 = .ok (.iconst 1, 1) := by decide +kernel
theorem dX6_readsSign_55 : decode cX6_readsSign 55 = .ok (.iadd, 1) := by decide +kernel
theorem dX6_readsSign_56 : decode cX6_readsSign 56 = .ok (.putfield 235, 3) := by decide +kernel
theorem dX6_readsSign_59 : decode cX6_readsSign 59 = .ok (.iload_n 2, 1) := by decide +kernel
theorem dX6_readsSign_60 : decode cX6_readsSign 60 = .ok (.ireturn, 1) := by decide +kernel
theorem dX6_readsOrder_0 : decode cX6_readsOrder 0 = .ok (.aload_n 0, 1) := by decide +kernel
theorem dX6_readsOrder_1 : decode cX6_readsOrder 1 = .ok (.invokevirtual 241, 3) := by decide +kernel
theorem dX6_readsOrder_4 : decode cX6_readsOrder 4 = .ok (.istore_n 2, 1) := by decide +kernel
theorem dX6_readsOrder_5 : decode cX6_readsOrder 5 = .ok (.aload_n 0, 1) := by decide +kernel
theorem dX6_readsOrder_6 : decode cX6_readsOrder 6 = .ok (.dup, 1) := by decide +kernel
theorem dX6_readsOrder_7 : decode cX6_readsOrder 7 = .ok (.getfield 235, 3) := by decide +kernel
theorem dX6_readsOrder_10 : decode cX6_readsOrder 10 = .ok (.iconst 1, 1) := by decide +kernel
theorem dX6_readsOrder_11 : decode cX6_readsOrder 11 = .ok (.iadd, 1) := by decide +kernel
theorem dX6_readsOrder_12 : decode cX6_readsOrder 12 = .ok (.putfield 235, 3) := by decide +kernel
theorem dX6_readsOrder_15 : decode cX6_readsOrder 15 = .ok (.aload_n 0, 1) := by decide +kernel
theorem dX6_readsOrder_16 : decode cX6_readsOrder 16 = .ok (.getfield 39, 3) := by decide +kernel
theorem dX6_readsOrder_19 : decode cX6_readsOrder 19 = .ok (.iload_n 1, 1) := by decide +kernel
theorem dX6_readsOrder_20 : decode cX6_readsOrder 20 = .ok (.iload_n 2, 1) := by decide +kernel
theorem dX6_readsOrder_21 : decode cX6_readsOrder 21 = .ok (.iastore, 1) := by decide +kernel
theorem dX6_readsOrder_22 : decode cX6_readsOrder 22 = .ok (.iload_n 2, 1) := by decide +kernel
theorem dX6_readsOrder_23 : decode cX6_readsOrder 23 = .ok (.tableswitch 240 98 120 #[105, 240, 240, 240, 240, 134, 240, 240, 240, 240, 240, 240, 240, 240, 134, 240, 205, 105, 173, 240, 240, 240, 189], 105) := by decide +kernel
theorem dX6_readsOrder_128 : decode cX6_readsOrder 128 = .ok (.aload_n 0, 1) := by decide +kernel
theorem dX6_readsOrder_129 : decode cX6_readsOrder 129 = .ok (.getfield 39, 3) := by decide +kernel
theorem dX6_readsOrder_132 : decode cX6_readsOrder 132 = .ok (.iload_n 1, 1) := by decide +kernel
theorem dX6_readsOrder_133 : decode cX6_readsOrder 133 = .ok (.iconst 1, 1) := by decide +kernel
theorem dX6_readsOrder_134 : decode cX6_readsOrder 134 = .ok (.iadd, 1) := by decide +kernel
theorem dX6_readsOrder_135 : decode cX6_readsOrder 135 = .ok (.aload_n 0, 1) := by decide +kernel
theorem dX6_readsOrder_136 : decode cX6_readsOrder 136 = .ok (.iconst 1, 1) := by decide +kernel
theorem dX6_readsOrder_137 : decode cX6_readsOrder 137 = .ok (.invokevirtual 244, 3) := by decide +kernel
theorem dX6_readsOrder_140 : decode cX6_readsOrder 140 = .ok (.iastore, 1) := by decide +kernel
theorem dX6_readsOrder_141 : decode cX6_readsOrder 141 = .ok (.aload_n 0, 1) := by decide +kernel
theorem dX6_readsOrder_142 : decode cX6_readsOrder 142 = .ok (.getfield 39, 3) := by decide +kernel
theorem dX6_readsOrder_145 : decode cX6_readsOrder 145 = .ok (.iload_n 1, 1) := by decide +kernel
theorem dX6_readsOrder_146 : decode cX6_readsOrder 146 = .ok (.iconst 2, 1) := by decide +kernel
theorem dX6_readsOrder_147 : decode cX6_readsOrder 147 = .ok (.iadd, 1) := by decide +kernel
theorem dX6_readsOrder_148 : decode cX6_readsOrder 148 = .ok (.aload_n 0, 1) := by decide +kernel
theorem dX6_readsOrder_149 : decode cX6_readsOrder 149 = .ok (.iconst 1, 1) := by decide +kernel
theorem dX6_readsOrder_150 : decode cX6_readsOrder 150 = .ok (.invokevirtual 244, 3) := by decide +kernel
theorem dX6_readsOrder_153 : decode cX6_readsOrder 153 = .ok (.iastore, 1) := by decide +kernel
theorem dX6_readsOrder_154 : decode cX6_readsOrder 154 = .ok (.goto 124, 3) := by decide +kernel
theorem dX6_readsOrder_157 : decode cX6_readsOrder 157 = .ok (.aload_n 0, 1) := by decide +kernel
theorem dX6_readsOrder_158 : decode cX6_readsOrder 158 = .ok (.getfield 39, 3) := by decide +kernel
theorem dX6_readsOrder_161 : decode cX6_readsOrder 161 = .ok (.iload_n 1, 1) := by decide +kernel
theorem dX6_readsOrder_162 : decode cX6_readsOrder 162 = .ok (.iconst 1, 1) := by decide +kernel
theorem dX6_readsOrder_163 : decode cX6_readsOrder 163 = .ok (.iadd, 1) := by decide +kernel
theorem dX6_readsOrder_164 : decode cX6_readsOrder 164 = .ok (.aload_n 0, 1) := by decide +kernel
theorem dX6_readsOrder_165 : decode cX6_readsOrder 165 = .ok (.iconst 1, 1) := by decide +kernel
theorem dX6_readsOrder_166 : decode cX6_readsOrder 166 = .ok (.invokevirtual 244, 3) := by decide +kernel
theorem dX6_readsOrder_169 : decode cX6_readsOrder 169 = .ok (.iastore, 1) := by decide +kernel
theorem dX6_readsOrder_170 : decode cX6_readsOrder 170 = .ok (.aload_n 0, 1) := by decide +kernel
theorem dX6_readsOrder_171 : decode cX6_readsOrder 171 = .ok (.getfield 39, 3) := by decide +kernel
theorem dX6_readsOrder_174 : decode cX6_readsOrder 174 = .ok (.iload_n 1, 1) := by decide +kernel
theorem dX6_readsOrder_175 : decode cX6_readsOrder 175 = .ok (.iconst 2, 1) := by decide +kernel
theorem dX6_readsOrder_176 : decode cX6_readsOrder 176 = .ok (.iadd, 1) := by decide +kernel
theorem dX6_readsOrder_177 : decode cX6_readsOrder 177 = .ok (.aload_n 0, 1) := by decide +kernel
theorem dX6_readsOrder_178 : decode cX6_readsOrder 178 = .ok (.iload_n 2, 1) := by decide +kernel
theorem dX6_readsOrder_179 : decode cX6_readsOrder 179 = .ok (.bipush 103, 2) := by decide +kernel
theorem dX6_readsOrder_181 : decode cX6_readsOrder 181 = .ok (.if_icmp .ne 7, 3) := by decide +kernel
theorem dX6_readsOrder_184 : decode cX6_readsOrder 184 = .ok (.iconst 1, 1) := by decide +kernel
theorem dX6_readsOrder_185 : decode cX6_readsOrder 185 = .ok (.goto 4, 3) := by decide +kernel
theorem dX6_readsOrder_188 : decode cX6_readsOrder 188 = .ok (.iconst 0, 1) := by decide +kernel
theorem dX6_readsOrder_189 : decode cX6_readsOrder 189 = .ok (.invokevirtual 247, 3) := by decide +kernel
theorem dX6_readsOrder_192 : decode cX6_readsOrder 192 = .ok (.iastore, 1) := by decide +kernel
theorem dX6_readsOrder_193 : decode cX6_readsOrder 193 = .ok (.goto 85, 3) := by decide +kernel
theorem dX6_readsOrder_196 : decode cX6_readsOrder 196 = .ok (.aload_n 0, 1) := by decide +kernel
theorem dX6_readsOrder_197 : decode cX6_readsOrder 197 = .ok (.getfield 39, 3) := by decide +kernel
theorem dX6_readsOrder_200 : decode cX6_readsOrder 200 = .ok (.iload_n 1, 1) := by decide +kernel
theorem dX6_readsOrder_201 : decode cX6_readsOrder 201 = .ok (.iconst 1, 1) := by decide +kernel
theorem dX6_readsOrder_202 : decode cX6_readsOrder 202 = .ok (.iadd, 1) := by decide +kernel
theorem dX6_readsOrder_203 : decode cX6_readsOrder 203 = .ok (.aload_n 0, 1) := by decide +kernel
theorem dX6_readsOrder_204 : decode cX6_readsOrder 204 = .ok (.iconst 3, 1) := by decide +kernel
theorem dX6_readsOrder_205 : decode cX6_readsOrder 205 = .ok (.invokevirtual 244, 3) := by decide +kernel
theorem dX6_readsOrder_208 : decode cX6_readsOrder 208 = .ok (.iastore, 1) := by decide +kernel
theorem dX6_readsOrder_209 : decode cX6_readsOrder 209 = .ok (.goto 69, 3) := by decide +kernel
theorem dX6_readsOrder_212 : decode cX6_readsOrder 212 = .ok (.aload_n 0, 1) := by decide +kernel
theorem dX6_readsOrder_213 : decode cX6_readsOrder 213 = .ok (.getfield 39, 3) := by decide +kernel
theorem dX6_readsOrder_216 : decode cX6_readsOrder 216 = .ok (.iload_n 1, 1) := by decide +kernel
theorem dX6_readsOrder_217 : decode cX6_readsOrder 217 = .ok (.iconst 1, 1) := by decide +kernel
theorem dX6_readsOrder_218 : decode cX6_readsOrder 218 = .ok (.iadd, 1) := by decide +kernel
theorem dX6_readsOrder_219 : decode cX6_readsOrder 219 = .ok (.aload_n 0, 1) := by decide +kernel
theorem dX6_readsOrder_220 : decode cX6_readsOrder 220 = .ok (.iconst 1, 1) := by decide +kernel
theorem dX6_readsOrder_221 : decode cX6_readsOrder 221 = .ok (.invokevirtual 244, 3) := by decide +kernel
theorem dX6_readsOrder_224 : decode cX6_readsOrder 224 = .ok (.iastore, 1) := by decide +kernel
theorem dX6_readsOrder_225 : decode cX6_readsOrder 225 = .ok (.goto 53, 3) := by decide +kernel
theorem dX6_readsOrder_228 : decode cX6_readsOrder 228 = .ok (.aload_n 0, 1) := by decide +kernel
theorem dX6_readsOrder_229 : decode cX6_readsOrder 229 = .ok (.getfield 39, 3) := by decide +kernel
theorem dX6_readsOrder_232 : decode cX6_readsOrder 232 = .ok (.iload_n 1, 1) := by decide +kernel
theorem dX6_readsOrder_233 : decode cX6_readsOrder 233 = .ok (.iconst 1, 1) := by decide +kernel
theorem dX6_readsOrder_234 : decode cX6_readsOrder 234 = .ok (.iadd, 1) := by decide +kernel
theorem dX6_readsOrder_235 : decode cX6_readsOrder 235 = .ok (.aload_n 0, 1) := by decide +kernel
theorem dX6_readsOrder_236 : decode cX6_readsOrder 236 = .ok (.iconst 3, 1) := by decide +kernel
theorem dX6_readsOrder_237 : decode cX6_readsOrder 237 = .ok (.invokevirtual 244, 3) := by decide +kernel
theorem dX6_readsOrder_240 : decode cX6_readsOrder 240 = .ok (.iastore, 1) := by decide +kernel
theorem dX6_readsOrder_241 : decode cX6_readsOrder 241 = .ok (.aload_n 0, 1) := by decide +kernel
theorem dX6_readsOrder_242 : decode cX6_readsOrder 242 = .ok (.bipush 47, 2) := by decide +kernel
theorem dX6_readsOrder_244 : decode cX6_readsOrder 244 = .ok (.invokevirtual 251, 3) := by decide +kernel
theorem dX6_readsOrder_247 : decode cX6_readsOrder 247 = .ok (.aload_n 0, 1) := by decide +kernel
theorem dX6_readsOrder_248 : decode cX6_readsOrder 248 = .ok (.getfield 39, 3) := by decide +kernel
theorem dX6_readsOrder_251 : decode cX6_readsOrder 251 = .ok (.iload_n 1, 1) := by decide +kernel
theorem dX6_readsOrder_252 : decode cX6_readsOrder 252 = .ok (.iconst 2, 1) := by decide +kernel
theorem dX6_readsOrder_253 : decode cX6_readsOrder 253 = .ok (.iadd, 1) := by decide +kernel
theorem dX6_readsOrder_254 : decode cX6_readsOrder 254 = .ok (.aload_n 0, 1) := by decide +kernel
theorem dX6_readsOrder_255 : decode cX6_readsOrder 255 = .ok (.iconst 1, 1) := by decide +kernel
theorem dX6_readsOrder_256 : decode cX6_readsOrder 256 = .ok (.invokevirtual 244, 3) := by decide +kernel
theorem dX6_readsOrder_259 : decode cX6_readsOrder 259 = .ok (.iastore, 1) := by decide +kernel
theorem dX6_readsOrder_260 : decode cX6_readsOrder 260 = .ok (.goto 18, 3) := by decide +kernel
theorem dX6_readsOrder_263 : decode cX6_readsOrder 263 = .ok (.aload_n 0, 1) := by decide +kernel
theorem dX6_readsOrder_264 : decode cX6_readsOrder 264 = .ok (.iconst 1, 1) := by decide +kernel
theorem dX6_readsOrder_265 : decode cX6_readsOrder 265 = .ok (.putfield 238, 3) := by decide +kernel
theorem dX6_readsOrder_268 : decode cX6_readsOrder 268 = .ok (.aload_n 0, 1) := by decide +kernel
theorem dX6_readsOrder_269 : decode cX6_readsOrder 269 = .ok (.dup, 1) := by decide +kernel
theorem dX6_readsOrder_270 : decode cX6_readsOrder 270 = .ok (.getfield 235, 3) := by decide +kernel
theorem dX6_readsOrder_273 : decode cX6_readsOrder 273 = .ok (.iconst 1, 1) := by decide +kernel
theorem dX6_readsOrder_274 : decode cX6_readsOrder 274 = .ok (.isub, 1) := by decide +kernel
theorem dX6_readsOrder_275 : decode cX6_readsOrder 275 = .ok (.putfield 235, 3) := by decide +kernel
theorem dX6_readsOrder_278 : decode cX6_readsOrder 278 = .ok (.return_, 1) := by decide +kernel
theorem dX6_does_0 : decode cX6_does 0 = .ok (.aload_n 0, 1) := by decide +kernel
theorem dX6_does_1 : decode cX6_does 1 = .ok (.getfield 39, 3) := by decide +kernel
theorem dX6_does_4 : decode cX6_does 4 = .ok (.iload_n 1, 1) := by decide +kernel
theorem dX6_does_5 : decode cX6_does 5 = .ok (.iconst 1, 1) := by decide +kernel
theorem dX6_does_6 : decode cX6_does 6 = .ok (.iadd, 1) := by decide +kernel
theorem dX6_does_7 : decode cX6_does 7 = .ok (.iaload, 1) := by decide +kernel
theorem dX6_does_8 : decode cX6_does 8 = .ok (.istore_n 2, 1) := by decide +kernel
theorem dX6_does_9 : decode cX6_does 9 = .ok (.aload_n 0, 1) := by decide +kernel
theorem dX6_does_10 : decode cX6_does 10 = .ok (.getfield 39, 3) := by decide +kernel
theorem dX6_does_13 : decode cX6_does 13 = .ok (.iload_n 1, 1) := by decide +kernel
theorem dX6_does_14 : decode cX6_does 14 = .ok (.iconst 2, 1) := by decide +kernel
theorem dX6_does_15 : decode cX6_does 15 = .ok (.iadd, 1) := by decide +kernel
theorem dX6_does_16 : decode cX6_does 16 = .ok (.iaload, 1) := by decide +kernel
theorem dX6_does_17 : decode cX6_does 17 = .ok (.istore_n 3, 1) := by decide +kernel
theorem dX6_does_18 : decode cX6_does 18 = .ok (.aload_n 0, 1) := by decide +kernel
theorem dX6_does_19 : decode cX6_does 19 = .ok (.getfield 39, 3) := by decide +kernel
theorem dX6_does_22 : decode cX6_does 22 = .ok (.iload_n 1, 1) := by decide +kernel
theorem dX6_does_23 : decode cX6_does 23 = .ok (.iaload, 1) := by decide +kernel
theorem dX6_does_24 : decode cX6_does 24 = .ok (.lookupswitch 100 #[(98, 60), (103, 81), (112, 74), (115, 67), (116, 88), (120, 94)], 60) := by decide +kernel
theorem dX6_does_84 : decode cX6_does 84 = .ok (.aload_n 0, 1) := by decide +kernel
theorem dX6_does_85 : decode cX6_does 85 = .ok (.iload_n 2, 1) := by decide +kernel
theorem dX6_does_86 : decode cX6_does 86 = .ok (.iload_n 3, 1) := by decide +kernel
theorem dX6_does_87 : decode cX6_does 87 = .ok (.invokevirtual 87, 3) := by decide +kernel
theorem dX6_does_90 : decode cX6_does 90 = .ok (.ireturn, 1) := by decide +kernel
theorem dX6_does_91 : decode cX6_does 91 = .ok (.aload_n 0, 1) := by decide +kernel
theorem dX6_does_92 : decode cX6_does 92 = .ok (.iload_n 2, 1) := by decide +kernel
theorem dX6_does_93 : decode cX6_does 93 = .ok (.iload_n 3, 1) := by decide +kernel
theorem dX6_does_94 : decode cX6_does 94 = .ok (.invokevirtual 152, 3) := by decide +kernel
theorem dX6_does_97 : decode cX6_does 97 = .ok (.ireturn, 1) := by decide +kernel
theorem dX6_does_98 : decode cX6_does 98 = .ok (.aload_n 0, 1) := by decide +kernel
theorem dX6_does_99 : decode cX6_does 99 = .ok (.iload_n 2, 1) := by decide +kernel
theorem dX6_does_100 : decode cX6_does 100 = .ok (.iload_n 3, 1) := by decide +kernel
theorem dX6_does_101 : decode cX6_does 101 = .ok (.invokevirtual 112, 3) := by decide +kernel
theorem dX6_does_104 : decode cX6_does 104 = .ok (.ireturn, 1) := by decide +kernel
theorem dX6_does_105 : decode cX6_does 105 = .ok (.aload_n 0, 1) := by decide +kernel
theorem dX6_does_106 : decode cX6_does 106 = .ok (.iload_n 2, 1) := by decide +kernel
theorem dX6_does_107 : decode cX6_does 107 = .ok (.iload_n 3, 1) := by decide +kernel
theorem dX6_does_108 : decode cX6_does 108 = .ok (.invokevirtual 115, 3) := by decide +kernel
theorem dX6_does_111 : decode cX6_does 111 = .ok (.ireturn, 1) := by decide +kernel
theorem dX6_does_112 : decode cX6_does 112 = .ok (.aload_n 0, 1) := by decide +kernel
theorem dX6_does_113 : decode cX6_does 113 = .ok (.iload_n 2, 1) := by decide +kernel
theorem dX6_does_114 : decode cX6_does 114 = .ok (.invokevirtual 149, 3) := by decide +kernel
theorem dX6_does_117 : decode cX6_does 117 = .ok (.ireturn, 1) := by decide +kernel
theorem dX6_does_118 : decode cX6_does 118 = .ok (.aload_n 0, 1) := by decide +kernel
theorem dX6_does_119 : decode cX6_does 119 = .ok (.iload_n 2, 1) := by decide +kernel
theorem dX6_does_120 : decode cX6_does 120 = .ok (.invokevirtual 158, 3) := by decide +kernel
theorem dX6_does_123 : decode cX6_does 123 = .ok (.ireturn, 1) := by decide +kernel
theorem dX6_does_124 : decode cX6_does 124 = .ok (.aload_n 0, 1) := by decide +kernel
theorem dX6_does_125 : decode cX6_does 125 = .ok (.iload_n 2, 1) := by decide +kernel
theorem dX6_does_126 : decode cX6_does 126 = .ok (.iload_n 3, 1) := by decide +kernel
theorem dX6_does_127 : decode cX6_does 127 = .ok (.invokevirtual 161, 3) := by decide +kernel
theorem dX6_does_130 : decode cX6_does 130 = .ok (.ireturn, 1) := by decide +kernel
theorem dX6_run_0 : decode cX6_run 0 = .ok (.aload_n 0, 1) := by decide +kernel
theorem dX6_run_1 : decode cX6_run 1 = .ok (.iconst 0, 1) := by decide +kernel
theorem dX6_run_2 : decode cX6_run 2 = .ok (.putfield 235, 3) := by decide +kernel
theorem dX6_run_5 : decode cX6_run 5 = .ok (.aload_n 0, 1) := by decide +kernel
theorem dX6_run_6 : decode cX6_run 6 = .ok (.iconst 0, 1) := by decide +kernel
theorem dX6_run_7 : decode cX6_run 7 = .ok (.putfield 238, 3) := by decide +kernel
theorem dX6_run_10 : decode cX6_run 10 = .ok (.iconst 0, 1) := by decide +kernel
theorem dX6_run_11 : decode cX6_run 11 = .ok (.istore_n 1, 1) := by decide +kernel
theorem dX6_run_12 : decode cX6_run 12 = .ok (.iconst 1, 1) := by decide +kernel
theorem dX6_run_13 : decode cX6_run 13 = .ok (.istore_n 2, 1) := by decide +kernel
theorem dX6_run_14 : decode cX6_run 14 = .ok (.iload_n 2, 1) := by decide +kernel
theorem dX6_run_15 : decode cX6_run 15 = .ok (.ifCond .eq 56, 3) := by decide +kernel
theorem dX6_run_18 : decode cX6_run 18 = .ok (.aload_n 0, 1) := by decide +kernel
theorem dX6_run_19 : decode cX6_run 19 = .ok (.iconst 3, 1) := by decide +kernel
theorem dX6_run_20 : decode cX6_run 20 = .ok (.iload_n 1, 1) := by decide +kernel
theorem dX6_run_21 : decode cX6_run 21 = .ok (.imul, 1) := by decide +kernel
theorem dX6_run_22 : decode cX6_run 22 = .ok (.invokevirtual 254, 3) := by decide +kernel
theorem dX6_run_25 : decode cX6_run 25 = .ok (.iinc 1 1, 3) := by decide +kernel
theorem dX6_run_28 : decode cX6_run 28 = .ok (.aload_n 0, 1) := by decide +kernel
theorem dX6_run_29 : decode cX6_run 29 = .ok (.getfield 238, 3) := by decide +kernel
theorem dX6_run_32 : decode cX6_run 32 = .ok (.ifCond .ne 16, 3) := by decide +kernel
theorem dX6_run_35 : decode cX6_run 35 = .ok (.aload_n 0, 1) := by decide +kernel
theorem dX6_run_36 : decode cX6_run 36 = .ok (.invokevirtual 241, 3) := by decide +kernel
theorem dX6_run_39 : decode cX6_run 39 = .ok (.bipush 59, 2) := by decide +kernel
theorem dX6_run_41 : decode cX6_run 41 = .ok (.if_icmp .ne 7, 3) := by decide +kernel
theorem dX6_run_44 : decode cX6_run 44 = .ok (.iconst 1, 1) := by decide +kernel
theorem dX6_run_45 : decode cX6_run 45 = .ok (.goto 4, 3) := by decide +kernel
theorem dX6_run_48 : decode cX6_run 48 = .ok (.iconst 0, 1) := by decide +kernel
theorem dX6_run_49 : decode cX6_run 49 = .ok (.istore_n 2, 1) := by decide +kernel
theorem dX6_run_50 : decode cX6_run 50 = .ok (.aload_n 0, 1) := by decide +kernel
theorem dX6_run_51 : decode cX6_run 51 = .ok (.dup, 1) := by decide +kernel
theorem dX6_run_52 : decode cX6_run 52 = .ok (.getfield 235, 3) := by decide +kernel
theorem dX6_run_55 : decode cX6_run 55 = .ok (.iload_n 2, 1) := by decide +kernel
theorem dX6_run_56 : decode cX6_run 56 = .ok (.ifCond .eq 7, 3) := by decide +kernel
theorem dX6_run_59 : decode cX6_run 59 = .ok (.iconst 1, 1) := by decide +kernel
theorem dX6_run_60 : decode cX6_run 60 = .ok (.goto 4, 3) := by decide +kernel
theorem dX6_run_63 : decode cX6_run 63 = .ok (.iconst 0, 1) := by decide +kernel
theorem dX6_run_64 : decode cX6_run 64 = .ok (.iadd, 1) := by decide +kernel
theorem dX6_run_65 : decode cX6_run 65 = .ok (.putfield 235, 3) := by decide +kernel
theorem dX6_run_68 : decode cX6_run 68 = .ok (.goto (-54), 3) := by decide +kernel
theorem dX6_run_71 : decode cX6_run 71 = .ok (.aload_n 0, 1) := by decide +kernel
theorem dX6_run_72 : decode cX6_run 72 = .ok (.aload_n 0, 1) := by decide +kernel
theorem dX6_run_73 : decode cX6_run 73 = .ok (.getfield 238, 3) := by decide +kernel
theorem dX6_run_76 : decode cX6_run 76 = .ok (.ifCond .ne 14, 3) := by decide +kernel
theorem dX6_run_79 : decode cX6_run 79 = .ok (.aload_n 0, 1) := by decide +kernel
theorem dX6_run_80 : decode cX6_run 80 = .ok (.getfield 235, 3) := by decide +kernel
theorem dX6_run_83 : decode cX6_run 83 = .ok (.aload_n 0, 1) := by decide +kernel
theorem dX6_run_84 : decode cX6_run 84 = .ok (.getfield 232, 3) := by decide +kernel
theorem dX6_run_87 : decode cX6_run 87 = .ok (.if_icmp .ge 7, 3) := by decide +kernel
theorem dX6_run_90 : decode cX6_run 90 = .ok (.iconst 1, 1) := by decide +kernel
theorem dX6_run_91 : decode cX6_run 91 = .ok (.goto 4, 3) := by decide +kernel
theorem dX6_run_94 : decode cX6_run 94 = .ok (.iconst 0, 1) := by decide +kernel
theorem dX6_run_95 : decode cX6_run 95 = .ok (.putfield 238, 3) := by decide +kernel
theorem dX6_run_98 : decode cX6_run 98 = .ok (.aload_n 0, 1) := by decide +kernel
theorem dX6_run_99 : decode cX6_run 99 = .ok (.iconst 0, 1) := by decide +kernel
theorem dX6_run_100 : decode cX6_run 100 = .ok (.putfield 232, 3) := by decide +kernel
theorem dX6_run_103 : decode cX6_run 103 = .ok (.aload_n 0, 1) := by decide +kernel
theorem dX6_run_104 : decode cX6_run 104 = .ok (.aload_n 0, 1) := by decide +kernel
theorem dX6_run_105 : decode cX6_run 105 = .ok (.getfield 238, 3) := by decide +kernel
theorem dX6_run_108 : decode cX6_run 108 = .ok (.ifCond .eq 10, 3) := by decide +kernel
theorem dX6_run_111 : decode cX6_run 111 = .ok (.aload_n 0, 1) := by decide +kernel
theorem dX6_run_112 : decode cX6_run 112 = .ok (.getfield 235, 3) := by decide +kernel
theorem dX6_run_115 : decode cX6_run 115 = .ok (.goto 4, 3) := by decide +kernel
theorem dX6_run_118 : decode cX6_run 118 = .ok (.iconst (-1), 1) := by decide +kernel
theorem dX6_run_119 : decode cX6_run 119 = .ok (.putfield 26, 3) := by decide +kernel
theorem dX6_run_122 : decode cX6_run 122 = .ok (.aload_n 0, 1) := by decide +kernel
theorem dX6_run_123 : decode cX6_run 123 = .ok (.getfield 238, 3) := by decide +kernel
theorem dX6_run_126 : decode cX6_run 126 = .ok (.ifCond .eq 9, 3) := by decide +kernel
theorem dX6_run_129 : decode cX6_run 129 = .ok (.aload_n 0, 1) := by decide +kernel
theorem dX6_run_130 : decode cX6_run 130 = .ok (.iconst 1, 1) := by decide +kernel
theorem dX6_run_131 : decode cX6_run 131 = .ok (.invokevirtual 77, 3) := by decide +kernel
theorem dX6_run_134 : decode cX6_run 134 = .ok (.ireturn, 1) := by decide +kernel
theorem dX6_run_135 : decode cX6_run 135 = .ok (.aload_n 0, 1) := by decide +kernel
theorem dX6_run_136 : decode cX6_run 136 = .ok (.invokevirtual 84, 3) := by decide +kernel
theorem dX6_run_139 : decode cX6_run 139 = .ok (.iconst 0, 1) := by decide +kernel
theorem dX6_run_140 : decode cX6_run 140 = .ok (.istore_n 3, 1) := by decide +kernel
theorem dX6_run_141 : decode cX6_run 141 = .ok (.iload_n 3, 1) := by decide +kernel
theorem dX6_run_142 : decode cX6_run 142 = .ok (.iload_n 1, 1) := by decide +kernel
theorem dX6_run_143 : decode cX6_run 143 = .ok (.if_icmp .ge 48, 3) := by decide +kernel
theorem dX6_run_146 : decode cX6_run 146 = .ok (.aload_n 0, 1) := by decide +kernel
theorem dX6_run_147 : decode cX6_run 147 = .ok (.iconst 3, 1) := by decide +kernel
theorem dX6_run_148 : decode cX6_run 148 = .ok (.iload_n 3, 1) := by decide +kernel
theorem dX6_run_149 : decode cX6_run 149 = .ok (.imul, 1) := by decide +kernel
theorem dX6_run_150 : decode cX6_run 150 = .ok (.invokevirtual 257, 3) := by decide +kernel
theorem dX6_run_153 : decode cX6_run 153 = .ok (.istore 4, 2) := by decide +kernel
theorem dX6_run_155 : decode cX6_run 155 = .ok (.aload_n 0, 1) := by decide +kernel
theorem dX6_run_156 : decode cX6_run 156 = .ok (.getfield 46, 3) := by decide +kernel
theorem dX6_run_159 : decode cX6_run 159 = .ok (.ifCond .eq 26, 3) := by decide +kernel
theorem dX6_run_162 : decode cX6_run 162 = .ok (.aload_n 0, 1) := by decide +kernel
theorem dX6_run_163 : decode cX6_run 163 = .ok (.aload_n 0, 1) := by decide +kernel
theorem dX6_run_164 : decode cX6_run 164 = .ok (.getfield 49, 3) := by decide +kernel
theorem dX6_run_167 : decode cX6_run 167 = .ok (.ifCond .eq 7, 3) := by decide +kernel
theorem dX6_run_170 : decode cX6_run 170 = .ok (.iconst 2, 1) := by decide +kernel
theorem dX6_run_171 : decode cX6_run 171 = .ok (.goto 4, 3) := by decide +kernel
theorem dX6_run_174 : decode cX6_run 174 = .ok (.iconst 1, 1) := by decide +kernel
theorem dX6_run_175 : decode cX6_run 175 = .ok (.putfield 46, 3) := by decide +kernel
theorem dX6_run_178 : decode cX6_run 178 = .ok (.aload_n 0, 1) := by decide +kernel
theorem dX6_run_179 : decode cX6_run 179 = .ok (.iload 4, 2) := by decide +kernel
theorem dX6_run_181 : decode cX6_run 181 = .ok (.invokevirtual 91, 3) := by decide +kernel
theorem dX6_run_184 : decode cX6_run 184 = .ok (.ireturn, 1) := by decide +kernel
theorem dX6_run_185 : decode cX6_run 185 = .ok (.iinc 3 1, 3) := by decide +kernel
theorem dX6_run_188 : decode cX6_run 188 = .ok (.goto (-47), 3) := by decide +kernel
theorem dX6_run_191 : decode cX6_run 191 = .ok (.aload_n 0, 1) := by decide +kernel
theorem dX6_run_192 : decode cX6_run 192 = .ok (.aload_n 0, 1) := by decide +kernel
theorem dX6_run_193 : decode cX6_run 193 = .ok (.iload_n 1, 1) := by decide +kernel
theorem dX6_run_194 : decode cX6_run 194 = .ok (.invokevirtual 81, 3) := by decide +kernel
theorem dX6_run_197 : decode cX6_run 197 = .ok (.invokevirtual 91, 3) := by decide +kernel
theorem dX6_run_200 : decode cX6_run 200 = .ok (.ireturn, 1) := by decide +kernel
theorem dX6_errorPosition_0 : decode cX6_errorPosition 0 = .ok (.aload_n 0, 1) := by decide +kernel
theorem dX6_errorPosition_1 : decode cX6_errorPosition 1 = .ok (.aload_n 0, 1) := by decide +kernel
theorem dX6_errorPosition_2 : decode cX6_errorPosition 2 = .ok (.getfield 26, 3) := by decide +kernel
theorem dX6_errorPosition_5 : decode cX6_errorPosition 5 = .ok (.invokevirtual 81, 3) := by decide +kernel
theorem dX6_errorPosition_8 : decode cX6_errorPosition 8 = .ok (.ireturn, 1) := by decide +kernel
theorem dX6_refusal_0 : decode cX6_refusal 0 = .ok (.aload_n 0, 1) := by decide +kernel
theorem dX6_refusal_1 : decode cX6_refusal 1 = .ok (.getfield 53, 3) := by decide +kernel
theorem dX6_refusal_4 : decode cX6_refusal 4 = .ok (.ifCond .ne 11, 3) := by decide +kernel
theorem dX6_refusal_7 : decode cX6_refusal 7 = .ok (.aload_n 0, 1) := by decide +kernel
theorem dX6_refusal_8 : decode cX6_refusal 8 = .ok (.iconst 1, 1) := by decide +kernel
theorem dX6_refusal_9 : decode cX6_refusal 9 = .ok (.invokevirtual 77, 3) := by decide +kernel
theorem dX6_refusal_12 : decode cX6_refusal 12 = .ok (.goto 22, 3) := by decide +kernel
theorem dX6_refusal_15 : decode cX6_refusal 15 = .ok (.aload_n 0, 1) := by decide +kernel
theorem dX6_refusal_16 : decode cX6_refusal 16 = .ok (.iload_n 1, 1) := by decide +kernel
theorem dX6_refusal_17 : decode cX6_refusal 17 = .ok (.ifCond .eq 10, 3) := by decide +kernel
theorem dX6_refusal_20 : decode cX6_refusal 20 = .ok (.aload_n 0, 1) := by decide +kernel
theorem dX6_refusal_21 : decode cX6_refusal 21 = .ok (.getfield 56, 3) := by decide +kernel
theorem dX6_refusal_24 : decode cX6_refusal 24 = .ok (.goto 7, 3) := by decide +kernel
theorem dX6_refusal_27 : decode cX6_refusal 27 = .ok (.aload_n 0, 1) := by decide +kernel
theorem dX6_refusal_28 : decode cX6_refusal 28 = .ok (.getfield 53, 3) := by decide +kernel
theorem dX6_refusal_31 : decode cX6_refusal 31 = .ok (.invokevirtual 81, 3) := by decide +kernel
theorem dX6_refusal_34 : decode cX6_refusal 34 = .ok (.ireturn, 1) := by decide +kernel
theorem dX6_account_0 : decode cX6_account 0 = .ok (.iload_n 1, 1) := by decide +kernel
theorem dX6_account_1 : decode cX6_account 1 = .ok (.tableswitch 102 0 9 #[55, 64, 73, 73, 73, 73, 73, 73, 84, 93], 55) := by decide +kernel
theorem dX6_account_56 : decode cX6_account 56 = .ok (.aload_n 0, 1) := by decide +kernel
theorem dX6_account_57 : decode cX6_account 57 = .ok (.aload_n 0, 1) := by decide +kernel
theorem dX6_account_58 : decode cX6_account 58 = .ok (.invokevirtual 66, 3) := by decide +kernel
theorem dX6_account_61 : decode cX6_account 61 = .ok (.invokevirtual 81, 3) := by decide +kernel
theorem dX6_account_64 : decode cX6_account 64 = .ok (.ireturn, 1) := by decide +kernel
theorem dX6_account_65 : decode cX6_account 65 = .ok (.aload_n 0, 1) := by decide +kernel
theorem dX6_account_66 : decode cX6_account 66 = .ok (.aload_n 0, 1) := by decide +kernel
theorem dX6_account_67 : decode cX6_account 67 = .ok (.invokevirtual 193, 3) := by decide +kernel
theorem dX6_account_70 : decode cX6_account 70 = .ok (.invokevirtual 81, 3) := by decide +kernel
theorem dX6_account_73 : decode cX6_account 73 = .ok (.ireturn, 1) := by decide +kernel
theorem dX6_account_74 : decode cX6_account 74 = .ok (.aload_n 0, 1) := by decide +kernel
theorem dX6_account_75 : decode cX6_account 75 = .ok (.aload_n 0, 1) := by decide +kernel
theorem dX6_account_76 : decode cX6_account 76 = .ok (.getfield 7, 3) := by decide +kernel
theorem dX6_account_79 : decode cX6_account 79 = .ok (.iload_n 1, 1) := by decide +kernel
theorem dX6_account_80 : decode cX6_account 80 = .ok (.iaload, 1) := by decide +kernel
theorem dX6_account_81 : decode cX6_account 81 = .ok (.invokevirtual 81, 3) := by decide +kernel
theorem dX6_account_84 : decode cX6_account 84 = .ok (.ireturn, 1) := by decide +kernel
theorem dX6_account_85 : decode cX6_account 85 = .ok (.aload_n 0, 1) := by decide +kernel
theorem dX6_account_86 : decode cX6_account 86 = .ok (.aload_n 0, 1) := by decide +kernel
theorem dX6_account_87 : decode cX6_account 87 = .ok (.getfield 232, 3) := by decide +kernel
theorem dX6_account_90 : decode cX6_account 90 = .ok (.invokevirtual 81, 3) := by decide +kernel
theorem dX6_account_93 : decode cX6_account 93 = .ok (.ireturn, 1) := by decide +kernel
theorem dX6_account_94 : decode cX6_account 94 = .ok (.aload_n 0, 1) := by decide +kernel
theorem dX6_account_95 : decode cX6_account 95 = .ok (.aload_n 0, 1) := by decide +kernel
theorem dX6_account_96 : decode cX6_account 96 = .ok (.getfield 63, 3) := by decide +kernel
theorem dX6_account_99 : decode cX6_account 99 = .ok (.invokevirtual 81, 3) := by decide +kernel
theorem dX6_account_102 : decode cX6_account 102 = .ok (.ireturn, 1) := by decide +kernel
theorem dX6_account_103 : decode cX6_account 103 = .ok (.aload_n 0, 1) := by decide +kernel
theorem dX6_account_104 : decode cX6_account 104 = .ok (.iconst 1, 1) := by decide +kernel
theorem dX6_account_105 : decode cX6_account 105 = .ok (.invokevirtual 77, 3) := by decide +kernel
theorem dX6_account_108 : decode cX6_account 108 = .ok (.ireturn, 1) := by decide +kernel
theorem dX6_isWell_0 : decode cX6_isWell 0 = .ok (.aload_n 0, 1) := by decide +kernel
theorem dX6_isWell_1 : decode cX6_isWell 1 = .ok (.iconst 0, 1) := by decide +kernel
theorem dX6_isWell_2 : decode cX6_isWell 2 = .ok (.putfield 46, 3) := by decide +kernel
theorem dX6_isWell_5 : decode cX6_isWell 5 = .ok (.iconst 1, 1) := by decide +kernel
theorem dX6_isWell_6 : decode cX6_isWell 6 = .ok (.ireturn, 1) := by decide +kernel
theorem dX6_farFromHome_0 : decode cX6_farFromHome 0 = .ok (.aload_n 0, 1) := by decide +kernel
theorem dX6_farFromHome_1 : decode cX6_farFromHome 1 = .ok (.getfield 7, 3) := by decide +kernel
theorem dX6_farFromHome_4 : decode cX6_farFromHome 4 = .ok (.bipush 23, 2) := by decide +kernel
theorem dX6_farFromHome_6 : decode cX6_farFromHome 6 = .ok (.iload_n 1, 1) := by decide +kernel
theorem dX6_farFromHome_7 : decode cX6_farFromHome 7 = .ok (.iadd, 1) := by decide +kernel
theorem dX6_farFromHome_8 : decode cX6_farFromHome 8 = .ok (.iaload, 1) := by decide +kernel
theorem dX6_farFromHome_9 : decode cX6_farFromHome 9 = .ok (.istore_n 2, 1) := by decide +kernel
theorem dX6_farFromHome_10 : decode cX6_farFromHome 10 = .ok (.iconst (-1), 1) := by decide +kernel
theorem dX6_farFromHome_11 : decode cX6_farFromHome 11 = .ok (.istore_n 3, 1) := by decide +kernel
theorem dX6_farFromHome_12 : decode cX6_farFromHome 12 = .ok (.iconst 0, 1) := by decide +kernel
theorem dX6_farFromHome_13 : decode cX6_farFromHome 13 = .ok (.istore 4, 2) := by decide +kernel
theorem dX6_farFromHome_15 : decode cX6_farFromHome 15 = .ok (.iload 4, 2) := by decide +kernel
theorem dX6_farFromHome_17 : decode cX6_farFromHome 17 = .ok (.aload_n 0, 1) := by decide +kernel
theorem dX6_farFromHome_18 : decode cX6_farFromHome 18 = .ok (.invokevirtual 66, 3) := by decide +kernel
theorem dX6_farFromHome_21 : decode cX6_farFromHome 21 = .ok (.if_icmp .ge 46, 3) := by decide +kernel
theorem dX6_farFromHome_24 : decode cX6_farFromHome 24 = .ok (.iload_n 2, 1) := by decide +kernel
theorem dX6_farFromHome_25 : decode cX6_farFromHome 25 = .ok (.iconst (-1), 1) := by decide +kernel
theorem dX6_farFromHome_26 : decode cX6_farFromHome 26 = .ok (.if_icmp .eq 33, 3) := by decide +kernel
theorem dX6_farFromHome_29 : decode cX6_farFromHome 29 = .ok (.aload_n 0, 1) := by decide +kernel
theorem dX6_farFromHome_30 : decode cX6_farFromHome 30 = .ok (.getfield 7, 3) := by decide +kernel
theorem dX6_farFromHome_33 : decode cX6_farFromHome 33 = .ok (.bipush 14, 2) := by decide +kernel
theorem dX6_farFromHome_35 : decode cX6_farFromHome 35 = .ok (.iload 4, 2) := by decide +kernel
theorem dX6_farFromHome_37 : decode cX6_farFromHome 37 = .ok (.iadd, 1) := by decide +kernel
theorem dX6_farFromHome_38 : decode cX6_farFromHome 38 = .ok (.iaload, 1) := by decide +kernel
theorem dX6_farFromHome_39 : decode cX6_farFromHome 39 = .ok (.iload_n 2, 1) := by decide +kernel
theorem dX6_farFromHome_40 : decode cX6_farFromHome 40 = .ok (.if_icmp .ne 19, 3) := by decide +kernel
theorem dX6_farFromHome_43 : decode cX6_farFromHome 43 = .ok (.aload_n 0, 1) := by decide +kernel
theorem dX6_farFromHome_44 : decode cX6_farFromHome 44 = .ok (.iload 4, 2) := by decide +kernel
theorem dX6_farFromHome_46 : decode cX6_farFromHome 46 = .ok (.iload_n 1, 1) := by decide +kernel
theorem dX6_farFromHome_47 : decode cX6_farFromHome 47 = .ok (.aload_n 0, 1) := by decide +kernel
theorem dX6_farFromHome_48 : decode cX6_farFromHome 48 = .ok (.getfield 7, 3) := by decide +kernel
theorem dX6_farFromHome_51 : decode cX6_farFromHome 51 = .ok (.iconst 1, 1) := by decide +kernel
theorem dX6_farFromHome_52 : decode cX6_farFromHome 52 = .ok (.iaload, 1) := by decide +kernel
theorem dX6_farFromHome_53 : decode cX6_farFromHome 53 = .ok (.invokevirtual 202, 3) := by decide +kernel
theorem dX6_farFromHome_56 : decode cX6_farFromHome 56 = .ok (.goto 4, 3) := by decide +kernel
theorem dX6_farFromHome_59 : decode cX6_farFromHome 59 = .ok (.iload_n 3, 1) := by decide +kernel
theorem dX6_farFromHome_60 : decode cX6_farFromHome 60 = .ok (.istore_n 3, 1) := by decide +kernel
theorem dX6_farFromHome_61 : decode cX6_farFromHome 61 = .ok (.iinc 4 1, 3) := by decide +kernel
theorem dX6_farFromHome_64 : decode cX6_farFromHome 64 = .ok (.goto (-49), 3) := by decide +kernel
theorem dX6_farFromHome_67 : decode cX6_farFromHome 67 = .ok (.iload_n 2, 1) := by decide +kernel
theorem dX6_farFromHome_68 : decode cX6_farFromHome 68 = .ok (.iconst (-1), 1) := by decide +kernel
theorem dX6_farFromHome_69 : decode cX6_farFromHome 69 = .ok (.if_icmp .eq 18, 3) := by decide +kernel
theorem dX6_farFromHome_72 : decode cX6_farFromHome 72 = .ok (.aload_n 0, 1) := by decide +kernel
theorem dX6_farFromHome_73 : decode cX6_farFromHome 73 = .ok (.bipush 14, 2) := by decide +kernel
theorem dX6_farFromHome_75 : decode cX6_farFromHome 75 = .ok (.iload_n 2, 1) := by decide +kernel
theorem dX6_farFromHome_76 : decode cX6_farFromHome 76 = .ok (.invokevirtual 174, 3) := by decide +kernel
theorem dX6_farFromHome_79 : decode cX6_farFromHome 79 = .ok (.iconst 1, 1) := by decide +kernel
theorem dX6_farFromHome_80 : decode cX6_farFromHome 80 = .ok (.if_icmp .ne 7, 3) := by decide +kernel
theorem dX6_farFromHome_83 : decode cX6_farFromHome 83 = .ok (.iload_n 3, 1) := by decide +kernel
theorem dX6_farFromHome_84 : decode cX6_farFromHome 84 = .ok (.goto 4, 3) := by decide +kernel
theorem dX6_farFromHome_87 : decode cX6_farFromHome 87 = .ok (.iconst (-1), 1) := by decide +kernel
theorem dX6_farFromHome_88 : decode cX6_farFromHome 88 = .ok (.ireturn, 1) := by decide +kernel
theorem dX6_meanFar_0 : decode cX6_meanFar 0 = .ok (.iconst 0, 1) := by decide +kernel
theorem dX6_meanFar_1 : decode cX6_meanFar 1 = .ok (.istore_n 1, 1) := by decide +kernel
theorem dX6_meanFar_2 : decode cX6_meanFar 2 = .ok (.iconst 0, 1) := by decide +kernel
theorem dX6_meanFar_3 : decode cX6_meanFar 3 = .ok (.istore_n 2, 1) := by decide +kernel
theorem dX6_meanFar_4 : decode cX6_meanFar 4 = .ok (.iconst 0, 1) := by decide +kernel
theorem dX6_meanFar_5 : decode cX6_meanFar 5 = .ok (.istore_n 3, 1) := by decide +kernel
theorem dX6_meanFar_6 : decode cX6_meanFar 6 = .ok (.iload_n 3, 1) := by decide +kernel
theorem dX6_meanFar_7 : decode cX6_meanFar 7 = .ok (.aload_n 0, 1) := by decide +kernel
theorem dX6_meanFar_8 : decode cX6_meanFar 8 = .ok (.invokevirtual 66, 3) := by decide +kernel
theorem dX6_meanFar_11 : decode cX6_meanFar 11 = .ok (.if_icmp .ge 45, 3) := by decide +kernel
theorem dX6_meanFar_14 : decode cX6_meanFar 14 = .ok (.aload_n 0, 1) := by decide +kernel
theorem dX6_meanFar_15 : decode cX6_meanFar 15 = .ok (.iload_n 3, 1) := by decide +kernel
theorem dX6_meanFar_16 : decode cX6_meanFar 16 = .ok (.invokevirtual 260, 3) := by decide +kernel
theorem dX6_meanFar_19 : decode cX6_meanFar 19 = .ok (.istore 4, 2) := by decide +kernel
theorem dX6_meanFar_21 : decode cX6_meanFar 21 = .ok (.iload_n 1, 1) := by decide +kernel
theorem dX6_meanFar_22 : decode cX6_meanFar 22 = .ok (.iload 4, 2) := by decide +kernel
theorem dX6_meanFar_24 : decode cX6_meanFar 24 = .ok (.iconst (-1), 1) := by decide +kernel
theorem dX6_meanFar_25 : decode cX6_meanFar 25 = .ok (.if_icmp .ne 7, 3) := by decide +kernel
theorem dX6_meanFar_28 : decode cX6_meanFar 28 = .ok (.iconst 0, 1) := by decide +kernel
theorem dX6_meanFar_29 : decode cX6_meanFar 29 = .ok (.goto 4, 3) := by decide +kernel
theorem dX6_meanFar_32 : decode cX6_meanFar 32 = .ok (.iconst 1, 1) := by decide +kernel
theorem dX6_meanFar_33 : decode cX6_meanFar 33 = .ok (.iadd, 1) := by decide +kernel
theorem dX6_meanFar_34 : decode cX6_meanFar 34 = .ok (.istore_n 1, 1) := by decide +kernel
theorem dX6_meanFar_35 : decode cX6_meanFar 35 = .ok (.iload_n 2, 1) := by decide +kernel
theorem dX6_meanFar_36 : decode cX6_meanFar 36 = .ok (.iload 4, 2) := by decide +kernel
theorem dX6_meanFar_38 : decode cX6_meanFar 38 = .ok (.iconst (-1), 1) := by decide +kernel
theorem dX6_meanFar_39 : decode cX6_meanFar 39 = .ok (.if_icmp .ne 7, 3) := by decide +kernel
theorem dX6_meanFar_42 : decode cX6_meanFar 42 = .ok (.iconst 0, 1) := by decide +kernel
theorem dX6_meanFar_43 : decode cX6_meanFar 43 = .ok (.goto 5, 3) := by decide +kernel
theorem dX6_meanFar_46 : decode cX6_meanFar 46 = .ok (.iload 4, 2) := by decide +kernel
theorem dX6_meanFar_48 : decode cX6_meanFar 48 = .ok (.iadd, 1) := by decide +kernel
theorem dX6_meanFar_49 : decode cX6_meanFar 49 = .ok (.istore_n 2, 1) := by decide +kernel
theorem dX6_meanFar_50 : decode cX6_meanFar 50 = .ok (.iinc 3 1, 3) := by decide +kernel
theorem dX6_meanFar_53 : decode cX6_meanFar 53 = .ok (.goto (-47), 3) := by decide +kernel
theorem dX6_meanFar_56 : decode cX6_meanFar 56 = .ok (.aload_n 0, 1) := by decide +kernel
theorem dX6_meanFar_57 : decode cX6_meanFar 57 = .ok (.iload_n 1, 1) := by decide +kernel
theorem dX6_meanFar_58 : decode cX6_meanFar 58 = .ok (.ifCond .ne 7, 3) := by decide +kernel
theorem dX6_meanFar_61 : decode cX6_meanFar 61 = .ok (.iconst 1, 1) := by decide +kernel
theorem dX6_meanFar_62 : decode cX6_meanFar 62 = .ok (.goto 4, 3) := by decide +kernel
theorem dX6_meanFar_65 : decode cX6_meanFar 65 = .ok (.iconst 0, 1) := by decide +kernel
theorem dX6_meanFar_66 : decode cX6_meanFar 66 = .ok (.putfield 46, 3) := by decide +kernel
theorem dX6_meanFar_69 : decode cX6_meanFar 69 = .ok (.aload_n 0, 1) := by decide +kernel
theorem dX6_meanFar_70 : decode cX6_meanFar 70 = .ok (.getfield 46, 3) := by decide +kernel
theorem dX6_meanFar_73 : decode cX6_meanFar 73 = .ok (.ifCond .ne 11, 3) := by decide +kernel
theorem dX6_meanFar_76 : decode cX6_meanFar 76 = .ok (.iload_n 2, 1) := by decide +kernel
theorem dX6_meanFar_77 : decode cX6_meanFar 77 = .ok (.i2d, 1) := by decide +kernel
theorem dX6_meanFar_78 : decode cX6_meanFar 78 = .ok (.iload_n 1, 1) := by decide +kernel
theorem dX6_meanFar_79 : decode cX6_meanFar 79 = .ok (.i2d, 1) := by decide +kernel
theorem dX6_meanFar_80 : decode cX6_meanFar 80 = .ok (.ddiv, 1) := by decide +kernel
theorem dX6_meanFar_81 : decode cX6_meanFar 81 = .ok (.goto 4, 3) := by decide +kernel
theorem dX6_meanFar_84 : decode cX6_meanFar 84 = .ok (.dconst 0, 1) := by decide +kernel
theorem dX6_meanFar_85 : decode cX6_meanFar 85 = .ok (.dreturn, 1) := by decide +kernel
theorem dX6_homeShare_0 : decode cX6_homeShare 0 = .ok (.aload_n 0, 1) := by decide +kernel
theorem dX6_homeShare_1 : decode cX6_homeShare 1 = .ok (.iconst 0, 1) := by decide +kernel
theorem dX6_homeShare_2 : decode cX6_homeShare 2 = .ok (.putfield 46, 3) := by decide +kernel
theorem dX6_homeShare_5 : decode cX6_homeShare 5 = .ok (.aload_n 0, 1) := by decide +kernel
theorem dX6_homeShare_6 : decode cX6_homeShare 6 = .ok (.invokevirtual 134, 3) := by decide +kernel
theorem dX6_homeShare_9 : decode cX6_homeShare 9 = .ok (.i2f, 1) := by decide +kernel
theorem dX6_homeShare_10 : decode cX6_homeShare 10 = .ok (.aload_n 0, 1) := by decide +kernel
theorem dX6_homeShare_11 : decode cX6_homeShare 11 = .ok (.invokevirtual 66, 3) := by decide +kernel
theorem dX6_homeShare_14 : decode cX6_homeShare 14 = .ok (.i2f, 1) := by decide +kernel
theorem dX6_homeShare_15 : decode cX6_homeShare 15 = .ok (.fdiv, 1) := by decide +kernel
theorem dX6_homeShare_16 : decode cX6_homeShare 16 = .ok (.freturn, 1) := by decide +kernel
theorem dX6_undo_0 : decode cX6_undo 0 = .ok (.aload_n 0, 1) := by decide +kernel
theorem dX6_undo_1 : decode cX6_undo 1 = .ok (.getfield 63, 3) := by decide +kernel
theorem dX6_undo_4 : decode cX6_undo 4 = .ok (.ifCond .ne 9, 3) := by decide +kernel
theorem dX6_undo_7 : decode cX6_undo 7 = .ok (.aload_n 0, 1) := by decide +kernel
theorem dX6_undo_8 : decode cX6_undo 8 = .ok (.iconst 1, 1) := by decide +kernel
theorem dX6_undo_9 : decode cX6_undo 9 = .ok (.invokevirtual 77, 3) := by decide +kernel
theorem dX6_undo_12 : decode cX6_undo 12 = .ok (.ireturn, 1) := by decide +kernel
theorem dX6_undo_13 : decode cX6_undo 13 = .ok (.aload_n 0, 1) := by decide +kernel
theorem dX6_undo_14 : decode cX6_undo 14 = .ok (.dup, 1) := by decide +kernel
theorem dX6_undo_15 : decode cX6_undo 15 = .ok (.getfield 63, 3) := by decide +kernel
theorem dX6_undo_18 : decode cX6_undo 18 = .ok (.iconst 1, 1) := by decide +kernel
theorem dX6_undo_19 : decode cX6_undo 19 = .ok (.isub, 1) := by decide +kernel
theorem dX6_undo_20 : decode cX6_undo 20 = .ok (.putfield 63, 3) := by decide +kernel
theorem dX6_undo_23 : decode cX6_undo 23 = .ok (.aload_n 0, 1) := by decide +kernel
theorem dX6_undo_24 : decode cX6_undo 24 = .ok (.getfield 16, 3) := by decide +kernel
theorem dX6_undo_27 : decode cX6_undo 27 = .ok (.aload_n 0, 1) := by decide +kernel
theorem dX6_undo_28 : decode cX6_undo 28 = .ok (.getfield 63, 3) := by decide +kernel
theorem dX6_undo_31 : decode cX6_undo 31 = .ok (.bipush 32, 2) := by decide +kernel
theorem dX6_undo_33 : decode cX6_undo 33 = .ok (.imul, 1) := by decide +kernel
theorem dX6_undo_34 : decode cX6_undo 34 = .ok (.aload_n 0, 1) := by decide +kernel
theorem dX6_undo_35 : decode cX6_undo 35 = .ok (.getfield 7, 3) := by decide +kernel
theorem dX6_undo_38 : decode cX6_undo 38 = .ok (.iconst 0, 1) := by decide +kernel
theorem dX6_undo_39 : decode cX6_undo 39 = .ok (.invokestatic 59, 3) := by decide +kernel
theorem dX6_undo_42 : decode cX6_undo 42 = .ok (.aload_n 0, 1) := by decide +kernel
theorem dX6_undo_43 : decode cX6_undo 43 = .ok (.aload_n 0, 1) := by decide +kernel
theorem dX6_undo_44 : decode cX6_undo 44 = .ok (.getfield 63, 3) := by decide +kernel
theorem dX6_undo_47 : decode cX6_undo 47 = .ok (.invokevirtual 81, 3) := by decide +kernel
theorem dX6_undo_50 : decode cX6_undo 50 = .ok (.ireturn, 1) := by decide +kernel
theorem dX6_save_0 : decode cX6_save 0 = .ok (.aload_n 0, 1) := by decide +kernel
theorem dX6_save_1 : decode cX6_save 1 = .ok (.getfield 7, 3) := by decide +kernel
theorem dX6_save_4 : decode cX6_save 4 = .ok (.iconst 0, 1) := by decide +kernel
theorem dX6_save_5 : decode cX6_save 5 = .ok (.aload_n 0, 1) := by decide +kernel
theorem dX6_save_6 : decode cX6_save 6 = .ok (.getfield 19, 3) := by decide +kernel
theorem dX6_save_9 : decode cX6_save 9 = .ok (.iconst 0, 1) := by decide +kernel
theorem dX6_save_10 : decode cX6_save 10 = .ok (.invokestatic 59, 3) := by decide +kernel
theorem dX6_save_13 : decode cX6_save 13 = .ok (.aload_n 0, 1) := by decide +kernel
theorem dX6_save_14 : decode cX6_save 14 = .ok (.iconst 1, 1) := by decide +kernel
theorem dX6_save_15 : decode cX6_save 15 = .ok (.putfield 263, 3) := by decide +kernel
theorem dX6_save_18 : decode cX6_save 18 = .ok (.aload_n 0, 1) := by decide +kernel
theorem dX6_save_19 : decode cX6_save 19 = .ok (.aload_n 0, 1) := by decide +kernel
theorem dX6_save_20 : decode cX6_save 20 = .ok (.invokevirtual 134, 3) := by decide +kernel
theorem dX6_save_23 : decode cX6_save 23 = .ok (.invokevirtual 81, 3) := by decide +kernel
theorem dX6_save_26 : decode cX6_save 26 = .ok (.ireturn, 1) := by decide +kernel
theorem dX6_restore_0 : decode cX6_restore 0 = .ok (.aload_n 0, 1) := by decide +kernel
theorem dX6_restore_1 : decode cX6_restore 1 = .ok (.getfield 263, 3) := by decide +kernel
theorem dX6_restore_4 : decode cX6_restore 4 = .ok (.ifCond .ne 9, 3) := by decide +kernel
theorem dX6_restore_7 : decode cX6_restore 7 = .ok (.aload_n 0, 1) := by decide +kernel
theorem dX6_restore_8 : decode cX6_restore 8 = .ok (.iconst 1, 1) := by decide +kernel
theorem dX6_restore_9 : decode cX6_restore 9 = .ok (.invokevirtual 77, 3) := by decide +kernel
theorem dX6_restore_12 : decode cX6_restore 12 = .ok (.ireturn, 1) := by decide +kernel
theorem dX6_restore_13 : decode cX6_restore 13 = .ok (.aload_n 0, 1) := by decide +kernel
theorem dX6_restore_14 : decode cX6_restore 14 = .ok (.getfield 19, 3) := by decide +kernel
theorem dX6_restore_17 : decode cX6_restore 17 = .ok (.iconst 0, 1) := by decide +kernel
theorem dX6_restore_18 : decode cX6_restore 18 = .ok (.aload_n 0, 1) := by decide +kernel
theorem dX6_restore_19 : decode cX6_restore 19 = .ok (.getfield 7, 3) := by decide +kernel
theorem dX6_restore_22 : decode cX6_restore 22 = .ok (.iconst 0, 1) := by decide +kernel
theorem dX6_restore_23 : decode cX6_restore 23 = .ok (.invokestatic 59, 3) := by decide +kernel
theorem dX6_restore_26 : decode cX6_restore 26 = .ok (.aload_n 0, 1) := by decide +kernel
theorem dX6_restore_27 : decode cX6_restore 27 = .ok (.iconst 0, 1) := by decide +kernel
theorem dX6_restore_28 : decode cX6_restore 28 = .ok (.putfield 63, 3) := by decide +kernel
theorem dX6_restore_31 : decode cX6_restore 31 = .ok (.aload_n 0, 1) := by decide +kernel
theorem dX6_restore_32 : decode cX6_restore 32 = .ok (.aload_n 0, 1) := by decide +kernel
theorem dX6_restore_33 : decode cX6_restore 33 = .ok (.invokevirtual 134, 3) := by decide +kernel
theorem dX6_restore_36 : decode cX6_restore 36 = .ok (.invokevirtual 81, 3) := by decide +kernel
theorem dX6_restore_39 : decode cX6_restore 39 = .ok (.ireturn, 1) := by decide +kernel
