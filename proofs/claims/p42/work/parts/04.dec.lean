theorem dX0_init_0 : decode cX0_init 0 = .ok (.aload_n 0, 1) := by decide +kernel
theorem dX0_init_1 : decode cX0_init 1 = .ok (.invokespecial 3, 3) := by decide +kernel
theorem dX0_init_4 : decode cX0_init 4 = .ok (.aload_n 0, 1) := by decide +kernel
theorem dX0_init_5 : decode cX0_init 5 = .ok (.iconst 3, 1) := by decide +kernel
theorem dX0_init_6 : decode cX0_init 6 = .ok (.putfield 9, 3) := by decide +kernel
theorem dX0_init_9 : decode cX0_init 9 = .ok (.aload_n 0, 1) := by decide +kernel
theorem dX0_init_10 : decode cX0_init 10 = .ok (.iconst 3, 1) := by decide +kernel
theorem dX0_init_11 : decode cX0_init 11 = .ok (.putfield 15, 3) := by decide +kernel
theorem dX0_init_14 : decode cX0_init 14 = .ok (.aload_n 0, 1) := by decide +kernel
theorem dX0_init_15 : decode cX0_init 15 = .ok (.lconst 0, 1) := by decide +kernel
theorem dX0_init_16 : decode cX0_init 16 = .ok (.putfield 18, 3) := by decide +kernel
theorem dX0_init_19 : decode cX0_init 19 = .ok (.aload_n 0, 1) := by decide +kernel
theorem dX0_init_20 : decode cX0_init 20 = .ok (.lconst 0, 1) := by decide +kernel
theorem dX0_init_21 : decode cX0_init 21 = .ok (.putfield 22, 3) := by decide +kernel
theorem dX0_init_24 : decode cX0_init 24 = .ok (.aload_n 0, 1) := by decide +kernel
theorem dX0_init_25 : decode cX0_init 25 = .ok (.iconst 0, 1) := by decide +kernel
theorem dX0_init_26 : decode cX0_init 26 = .ok (.putfield 25, 3) := by decide +kernel
theorem dX0_init_29 : decode cX0_init 29 = .ok (.aload_n 0, 1) := by decide +kernel
theorem dX0_init_30 : decode cX0_init 30 = .ok (.iconst 0, 1) := by decide +kernel
theorem dX0_init_31 : decode cX0_init 31 = .ok (.putfield 28, 3) := by decide +kernel
theorem dX0_init_34 : decode cX0_init 34 = .ok (.aload_n 0, 1) := by decide +kernel
theorem dX0_init_35 : decode cX0_init 35 = .ok (.iconst 0, 1) := by decide +kernel
theorem dX0_init_36 : decode cX0_init 36 = .ok (.putfield 31, 3) := by decide +kernel
theorem dX0_init_39 : decode cX0_init 39 = .ok (.aload_n 0, 1) := by decide +kernel
theorem dX0_init_40 : decode cX0_init 40 = .ok (.iconst 0, 1) := by decide +kernel
theorem dX0_init_41 : decode cX0_init 41 = .ok (.putfield 34, 3) := by decide +kernel
theorem dX0_init_44 : decode cX0_init 44 = .ok (.aload_n 0, 1) := by decide +kernel
theorem dX0_init_45 : decode cX0_init 45 = .ok (.iconst 0, 1) := by decide +kernel
theorem dX0_init_46 : decode cX0_init 46 = .ok (.putfield 37, 3) := by decide +kernel
theorem dX0_init_49 : decode cX0_init 49 = .ok (.aload_n 0, 1) := by decide +kernel
theorem dX0_init_50 : decode cX0_init 50 = .ok (.iconst 0, 1) := by decide +kernel
theorem dX0_init_51 : decode cX0_init 51 = .ok (.putfield 40, 3) := by decide +kernel
theorem dX0_init_54 : decode cX0_init 54 = .ok (.aload_n 0, 1) := by decide +kernel
theorem dX0_init_55 : decode cX0_init 55 = .ok (.iconst 0, 1) := by decide +kernel
theorem dX0_init_56 : decode cX0_init 56 = .ok (.putfield 43, 3) := by decide +kernel
theorem dX0_init_59 : decode cX0_init 59 = .ok (.return_, 1) := by decide +kernel
theorem dX0_copy_0 : decode cX0_copy 0 = .ok (.aload_n 0, 1) := by decide +kernel
theorem dX0_copy_1 : decode cX0_copy 1 = .ok (.aload_n 1, 1) := by decide +kernel
theorem dX0_copy_2 : decode cX0_copy 2 = .ok (.getfield 9, 3) := by decide +kernel
theorem dX0_copy_5 : decode cX0_copy 5 = .ok (.putfield 9, 3) := by decide +kernel
theorem dX0_copy_8 : decode cX0_copy 8 = .ok (.aload_n 0, 1) := by decide +kernel
theorem dX0_copy_9 : decode cX0_copy 9 = .ok (.aload_n 1, 1) := by decide +kernel
theorem dX0_copy_10 : decode cX0_copy 10 = .ok (.getfield 15, 3) := by decide +kernel
theorem dX0_copy_13 : decode cX0_copy 13 = .ok (.putfield 15, 3) := by decide +kernel
theorem dX0_copy_16 : decode cX0_copy 16 = .ok (.aload_n 0, 1) := by decide +kernel
theorem dX0_copy_17 : decode cX0_copy 17 = .ok (.aload_n 1, 1) := by decide +kernel
theorem dX0_copy_18 : decode cX0_copy 18 = .ok (.getfield 18, 3) := by decide +kernel
theorem dX0_copy_21 : decode cX0_copy 21 = .ok (.putfield 18, 3) := by decide +kernel
theorem dX0_copy_24 : decode cX0_copy 24 = .ok (.aload_n 0, 1) := by decide +kernel
theorem dX0_copy_25 : decode cX0_copy 25 = .ok (.aload_n 1, 1) := by decide +kernel
theorem dX0_copy_26 : decode cX0_copy 26 = .ok (.getfield 22, 3) := by decide +kernel
theorem dX0_copy_29 : decode cX0_copy 29 = .ok (.putfield 22, 3) := by decide +kernel
theorem dX0_copy_32 : decode cX0_copy 32 = .ok (.aload_n 0, 1) := by decide +kernel
theorem dX0_copy_33 : decode cX0_copy 33 = .ok (.aload_n 1, 1) := by decide +kernel
theorem dX0_copy_34 : decode cX0_copy 34 = .ok (.getfield 25, 3) := by decide +kernel
theorem dX0_copy_37 : decode cX0_copy 37 = .ok (.putfield 25, 3) := by decide +kernel
theorem dX0_copy_40 : decode cX0_copy 40 = .ok (.aload_n 0, 1) := by decide +kernel
theorem dX0_copy_41 : decode cX0_copy 41 = .ok (.aload_n 1, 1) := by decide +kernel
theorem dX0_copy_42 : decode cX0_copy 42 = .ok (.getfield 28, 3) := by decide +kernel
theorem dX0_copy_45 : decode cX0_copy 45 = .ok (.putfield 28, 3) := by decide +kernel
theorem dX0_copy_48 : decode cX0_copy 48 = .ok (.aload_n 0, 1) := by decide +kernel
theorem dX0_copy_49 : decode cX0_copy 49 = .ok (.aload_n 1, 1) := by decide +kernel
theorem dX0_copy_50 : decode cX0_copy 50 = .ok (.getfield 31, 3) := by decide +kernel
theorem dX0_copy_53 : decode cX0_copy 53 = .ok (.putfield 31, 3) := by decide +kernel
theorem dX0_copy_56 : decode cX0_copy 56 = .ok (.aload_n 0, 1) := by decide +kernel
theorem dX0_copy_57 : decode cX0_copy 57 = .ok (.aload_n 1, 1) := by decide +kernel
theorem dX0_copy_58 : decode cX0_copy 58 = .ok (.getfield 34, 3) := by decide +kernel
theorem dX0_copy_61 : decode cX0_copy 61 = .ok (.putfield 34, 3) := by decide +kernel
theorem dX0_copy_64 : decode cX0_copy 64 = .ok (.aload_n 0, 1) := by decide +kernel
theorem dX0_copy_65 : decode cX0_copy 65 = .ok (.aload_n 1, 1) := by decide +kernel
theorem dX0_copy_66 : decode cX0_copy 66 = .ok (.getfield 37, 3) := by decide +kernel
theorem dX0_copy_69 : decode cX0_copy 69 = .ok (.putfield 37, 3) := by decide +kernel
theorem dX0_copy_72 : decode cX0_copy 72 = .ok (.aload_n 0, 1) := by decide +kernel
theorem dX0_copy_73 : decode cX0_copy 73 = .ok (.aload_n 1, 1) := by decide +kernel
theorem dX0_copy_74 : decode cX0_copy 74 = .ok (.getfield 40, 3) := by decide +kernel
theorem dX0_copy_77 : decode cX0_copy 77 = .ok (.putfield 40, 3) := by decide +kernel
theorem dX0_copy_80 : decode cX0_copy 80 = .ok (.aload_n 0, 1) := by decide +kernel
theorem dX0_copy_81 : decode cX0_copy 81 = .ok (.aload_n 1, 1) := by decide +kernel
theorem dX0_copy_82 : decode cX0_copy 82 = .ok (.getfield 43, 3) := by decide +kernel
theorem dX0_copy_85 : decode cX0_copy 85 = .ok (.putfield 43, 3) := by decide +kernel
theorem dX0_copy_88 : decode cX0_copy 88 = .ok (.return_, 1) := by decide +kernel
theorem dX0_lay_0 : decode cX0_lay 0 = .ok (.aload_n 0, 1) := by decide +kernel
theorem dX0_lay_1 : decode cX0_lay 1 = .ok (.iload_n 1, 1) := by decide +kernel
theorem dX0_lay_2 : decode cX0_lay 2 = .ok (.putfield 9, 3) := by decide +kernel
theorem dX0_lay_5 : decode cX0_lay 5 = .ok (.aload_n 0, 1) := by decide +kernel
theorem dX0_lay_6 : decode cX0_lay 6 = .ok (.iload_n 2, 1) := by decide +kernel
theorem dX0_lay_7 : decode cX0_lay 7 = .ok (.putfield 15, 3) := by decide +kernel
theorem dX0_lay_10 : decode cX0_lay 10 = .ok (.aload_n 0, 1) := by decide +kernel
theorem dX0_lay_11 : decode cX0_lay 11 = .ok (.lconst 0, 1) := by decide +kernel
theorem dX0_lay_12 : decode cX0_lay 12 = .ok (.putfield 18, 3) := by decide +kernel
theorem dX0_lay_15 : decode cX0_lay 15 = .ok (.iconst 0, 1) := by decide +kernel
theorem dX0_lay_16 : decode cX0_lay 16 = .ok (.istore_n 3, 1) := by decide +kernel
theorem dX0_lay_17 : decode cX0_lay 17 = .ok (.iload_n 3, 1) := by decide +kernel
theorem dX0_lay_18 : decode cX0_lay 18 = .ok (.aload_n 0, 1) := by decide +kernel
theorem dX0_lay_19 : decode cX0_lay 19 = .ok (.invokevirtual 46, 3) := by decide +kernel
theorem dX0_lay_22 : decode cX0_lay 22 = .ok (.if_icmp .ge 22, 3) := by decide +kernel
theorem dX0_lay_25 : decode cX0_lay 25 = .ok (.aload_n 0, 1) := by decide +kernel
theorem dX0_lay_26 : decode cX0_lay 26 = .ok (.aload_n 0, 1) := by decide +kernel
theorem dX0_lay_27 : decode cX0_lay 27 = .ok (.getfield 18, 3) := by decide +kernel
theorem dX0_lay_30 : decode cX0_lay 30 = .ok (.iload_n 3, 1) := by decide +kernel
theorem dX0_lay_31 : decode cX0_lay 31 = .ok (.iload_n 3, 1) := by decide +kernel
theorem dX0_lay_32 : decode cX0_lay 32 = .ok (.invokestatic 50, 3) := by decide +kernel
theorem dX0_lay_35 : decode cX0_lay 35 = .ok (.putfield 18, 3) := by decide +kernel
theorem dX0_lay_38 : decode cX0_lay 38 = .ok (.iinc 3 1, 3) := by decide +kernel
theorem dX0_lay_41 : decode cX0_lay 41 = .ok (.goto (-24), 3) := by decide +kernel
theorem dX0_lay_44 : decode cX0_lay 44 = .ok (.aload_n 0, 1) := by decide +kernel
theorem dX0_lay_45 : decode cX0_lay 45 = .ok (.aload_n 0, 1) := by decide +kernel
theorem dX0_lay_46 : decode cX0_lay 46 = .ok (.getfield 18, 3) := by decide +kernel
theorem dX0_lay_49 : decode cX0_lay 49 = .ok (.putfield 22, 3) := by decide +kernel
theorem dX0_lay_52 : decode cX0_lay 52 = .ok (.aload_n 0, 1) := by decide +kernel
theorem dX0_lay_53 : decode cX0_lay 53 = .ok (.iconst 0, 1) := by decide +kernel
theorem dX0_lay_54 : decode cX0_lay 54 = .ok (.putfield 25, 3) := by decide +kernel
theorem dX0_lay_57 : decode cX0_lay 57 = .ok (.return_, 1) := by decide +kernel
theorem dX0_places_0 : decode cX0_places 0 = .ok (.aload_n 0, 1) := by decide +kernel
theorem dX0_places_1 : decode cX0_places 1 = .ok (.getfield 9, 3) := by decide +kernel
theorem dX0_places_4 : decode cX0_places 4 = .ok (.aload_n 0, 1) := by decide +kernel
theorem dX0_places_5 : decode cX0_places 5 = .ok (.getfield 15, 3) := by decide +kernel
theorem dX0_places_8 : decode cX0_places 8 = .ok (.imul, 1) := by decide +kernel
theorem dX0_places_9 : decode cX0_places 9 = .ok (.ireturn, 1) := by decide +kernel
theorem dX0_lines_0 : decode cX0_lines 0 = .ok (.aload_n 0, 1) := by decide +kernel
theorem dX0_lines_1 : decode cX0_lines 1 = .ok (.getfield 9, 3) := by decide +kernel
theorem dX0_lines_4 : decode cX0_lines 4 = .ok (.aload_n 0, 1) := by decide +kernel
theorem dX0_lines_5 : decode cX0_lines 5 = .ok (.getfield 15, 3) := by decide +kernel
theorem dX0_lines_8 : decode cX0_lines 8 = .ok (.iadd, 1) := by decide +kernel
theorem dX0_lines_9 : decode cX0_lines 9 = .ok (.ireturn, 1) := by decide +kernel
theorem dX0_turns_0 : decode cX0_turns 0 = .ok (.iconst 2, 1) := by decide +kernel
theorem dX0_turns_1 : decode cX0_turns 1 = .ok (.aload_n 0, 1) := by decide +kernel
theorem dX0_turns_2 : decode cX0_turns 2 = .ok (.invokevirtual 54, 3) := by decide +kernel
theorem dX0_turns_5 : decode cX0_turns 5 = .ok (.imul, 1) := by decide +kernel
theorem dX0_turns_6 : decode cX0_turns 6 = .ok (.ireturn, 1) := by decide +kernel
theorem dX0_hasPlace_0 : decode cX0_hasPlace 0 = .ok (.iload_n 1, 1) := by decide +kernel
theorem dX0_hasPlace_1 : decode cX0_hasPlace 1 = .ok (.ifCond .lt 15, 3) := by decide +kernel
theorem dX0_hasPlace_4 : decode cX0_hasPlace 4 = .ok (.iload_n 1, 1) := by decide +kernel
theorem dX0_hasPlace_5 : decode cX0_hasPlace 5 = .ok (.aload_n 0, 1) := by decide +kernel
theorem dX0_hasPlace_6 : decode cX0_hasPlace 6 = .ok (.invokevirtual 46, 3) := by decide +kernel
theorem dX0_hasPlace_9 : decode cX0_hasPlace 9 = .ok (.if_icmp .ge 7, 3) := by decide +kernel
theorem dX0_hasPlace_12 : decode cX0_hasPlace 12 = .ok (.iconst 1, 1) := by decide +kernel
theorem dX0_hasPlace_13 : decode cX0_hasPlace 13 = .ok (.goto 4, 3) := by decide +kernel
theorem dX0_hasPlace_16 : decode cX0_hasPlace 16 = .ok (.iconst 0, 1) := by decide +kernel
theorem dX0_hasPlace_17 : decode cX0_hasPlace 17 = .ok (.ireturn, 1) := by decide +kernel
theorem dX0_hasLine_0 : decode cX0_hasLine 0 = .ok (.iload_n 1, 1) := by decide +kernel
theorem dX0_hasLine_1 : decode cX0_hasLine 1 = .ok (.ifCond .lt 15, 3) := by decide +kernel
theorem dX0_hasLine_4 : decode cX0_hasLine 4 = .ok (.iload_n 1, 1) := by decide +kernel
theorem dX0_hasLine_5 : decode cX0_hasLine 5 = .ok (.aload_n 0, 1) := by decide +kernel
theorem dX0_hasLine_6 : decode cX0_hasLine 6 = .ok (.invokevirtual 54, 3) := by decide +kernel
theorem dX0_hasLine_9 : decode cX0_hasLine 9 = .ok (.if_icmp .ge 7, 3) := by decide +kernel
theorem dX0_hasLine_12 : decode cX0_hasLine 12 = .ok (.iconst 1, 1) := by decide +kernel
theorem dX0_hasLine_13 : decode cX0_hasLine 13 = .ok (.goto 4, 3) := by decide +kernel
theorem dX0_hasLine_16 : decode cX0_hasLine 16 = .ok (.iconst 0, 1) := by decide +kernel
theorem dX0_hasLine_17 : decode cX0_hasLine 17 = .ok (.ireturn, 1) := by decide +kernel
theorem dX0_hasTurn_0 : decode cX0_hasTurn 0 = .ok (.iload_n 1, 1) := by decide +kernel
theorem dX0_hasTurn_1 : decode cX0_hasTurn 1 = .ok (.ifCond .lt 15, 3) := by decide +kernel
theorem dX0_hasTurn_4 : decode cX0_hasTurn 4 = .ok (.iload_n 1, 1) := by decide +kernel
theorem dX0_hasTurn_5 : decode cX0_hasTurn 5 = .ok (.aload_n 0, 1) := by decide +kernel
theorem dX0_hasTurn_6 : decode cX0_hasTurn 6 = .ok (.invokevirtual 57, 3) := by decide +kernel
theorem dX0_hasTurn_9 : decode cX0_hasTurn 9 = .ok (.if_icmp .ge 7, 3) := by decide +kernel
theorem dX0_hasTurn_12 : decode cX0_hasTurn 12 = .ok (.iconst 1, 1) := by decide +kernel
theorem dX0_hasTurn_13 : decode cX0_hasTurn 13 = .ok (.goto 4, 3) := by decide +kernel
theorem dX0_hasTurn_16 : decode cX0_hasTurn 16 = .ok (.iconst 0, 1) := by decide +kernel
theorem dX0_hasTurn_17 : decode cX0_hasTurn 17 = .ok (.ireturn, 1) := by decide +kernel
theorem dX0_hasBar_0 : decode cX0_hasBar 0 = .ok (.aload_n 0, 1) := by decide +kernel
theorem dX0_hasBar_1 : decode cX0_hasBar 1 = .ok (.getfield 25, 3) := by decide +kernel
theorem dX0_hasBar_4 : decode cX0_hasBar 4 = .ok (.iload_n 1, 1) := by decide +kernel
theorem dX0_hasBar_5 : decode cX0_hasBar 5 = .ok (.ishr, 1) := by decide +kernel
theorem dX0_hasBar_6 : decode cX0_hasBar 6 = .ok (.iconst 1, 1) := by decide +kernel
theorem dX0_hasBar_7 : decode cX0_hasBar 7 = .ok (.iand, 1) := by decide +kernel
theorem dX0_hasBar_8 : decode cX0_hasBar 8 = .ok (.iconst 1, 1) := by decide +kernel
theorem dX0_hasBar_9 : decode cX0_hasBar 9 = .ok (.if_icmp .ne 7, 3) := by decide +kernel
theorem dX0_hasBar_12 : decode cX0_hasBar 12 = .ok (.iconst 1, 1) := by decide +kernel
theorem dX0_hasBar_13 : decode cX0_hasBar 13 = .ok (.goto 4, 3) := by decide +kernel
theorem dX0_hasBar_16 : decode cX0_hasBar 16 = .ok (.iconst 0, 1) := by decide +kernel
theorem dX0_hasBar_17 : decode cX0_hasBar 17 = .ok (.ireturn, 1) := by decide +kernel
theorem dX0_canTurn_0 : decode cX0_canTurn 0 = .ok (.aload_n 0, 1) := by decide +kernel
theorem dX0_canTurn_1 : decode cX0_canTurn 1 = .ok (.iload_n 1, 1) := by decide +kernel
theorem dX0_canTurn_2 : decode cX0_canTurn 2 = .ok (.iconst 2, 1) := by decide +kernel
theorem dX0_canTurn_3 : decode cX0_canTurn 3 = .ok (.idiv, 1) := by decide +kernel
theorem dX0_canTurn_4 : decode cX0_canTurn 4 = .ok (.invokevirtual 60, 3) := by decide +kernel
theorem dX0_canTurn_7 : decode cX0_canTurn 7 = .ok (.ifCond .ne 7, 3) := by decide +kernel
theorem dX0_canTurn_10 : decode cX0_canTurn 10 = .ok (.iconst 1, 1) := by decide +kernel
theorem dX0_canTurn_11 : decode cX0_canTurn 11 = .ok (.goto 4, 3) := by decide +kernel
theorem dX0_canTurn_14 : decode cX0_canTurn 14 = .ok (.iconst 0, 1) := by decide +kernel
theorem dX0_canTurn_15 : decode cX0_canTurn 15 = .ok (.ireturn, 1) := by decide +kernel
theorem dX0_barredLines_0 : decode cX0_barredLines 0 = .ok (.aload_n 0, 1) := by decide +kernel
theorem dX0_barredLines_1 : decode cX0_barredLines 1 = .ok (.getfield 25, 3) := by decide +kernel
theorem dX0_barredLines_4 : decode cX0_barredLines 4 = .ok (.invokestatic 64, 3) := by decide +kernel
theorem dX0_barredLines_7 : decode cX0_barredLines 7 = .ok (.ireturn, 1) := by decide +kernel
theorem dX0_rowOf_0 : decode cX0_rowOf 0 = .ok (.aload_n 0, 1) := by decide +kernel
theorem dX0_rowOf_1 : decode cX0_rowOf 1 = .ok (.getfield 15, 3) := by decide +kernel
theorem dX0_rowOf_4 : decode cX0_rowOf 4 = .ok (.ifCond .le 12, 3) := by decide +kernel
theorem dX0_rowOf_7 : decode cX0_rowOf 7 = .ok (.iload_n 1, 1) := by decide +kernel
theorem dX0_rowOf_8 : decode cX0_rowOf 8 = .ok (.aload_n 0, 1) := by decide +kernel
theorem dX0_rowOf_9 : decode cX0_rowOf 9 = .ok (.getfield 15, 3) := by decide +kernel
theorem dX0_rowOf_12 : decode cX0_rowOf 12 = .ok (.idiv, 1) := by decide +kernel
theorem dX0_rowOf_13 : decode cX0_rowOf 13 = .ok (.goto 4, 3) := by decide +kernel
theorem dX0_rowOf_16 : decode cX0_rowOf 16 = .ok (.iconst 0, 1) := by decide +kernel
theorem dX0_rowOf_17 : decode cX0_rowOf 17 = .ok (.ireturn, 1) := by decide +kernel
theorem dX0_columnOf_0 : decode cX0_columnOf 0 = .ok (.iload_n 1, 1) := by decide +kernel
theorem dX0_columnOf_1 : decode cX0_columnOf 1 = .ok (.aload_n 0, 1) := by decide +kernel
theorem dX0_columnOf_2 : decode cX0_columnOf 2 = .ok (.iload_n 1, 1) := by decide +kernel
theorem dX0_columnOf_3 : decode cX0_columnOf 3 = .ok (.invokevirtual 70, 3) := by decide +kernel
theorem dX0_columnOf_6 : decode cX0_columnOf 6 = .ok (.aload_n 0, 1) := by decide +kernel
theorem dX0_columnOf_7 : decode cX0_columnOf 7 = .ok (.getfield 15, 3) := by decide +kernel
theorem dX0_columnOf_10 : decode cX0_columnOf 10 = .ok (.imul, 1) := by decide +kernel
theorem dX0_columnOf_11 : decode cX0_columnOf 11 = .ok (.isub, 1) := by decide +kernel
theorem dX0_columnOf_12 : decode cX0_columnOf 12 = .ok (.ireturn, 1) := by decide +kernel
theorem dX0_lineLength_0 : decode cX0_lineLength 0 = .ok (.iload_n 1, 1) := by decide +kernel
theorem dX0_lineLength_1 : decode cX0_lineLength 1 = .ok (.aload_n 0, 1) := by decide +kernel
theorem dX0_lineLength_2 : decode cX0_lineLength 2 = .ok (.getfield 9, 3) := by decide +kernel
theorem dX0_lineLength_5 : decode cX0_lineLength 5 = .ok (.if_icmp .ge 10, 3) := by decide +kernel
theorem dX0_lineLength_8 : decode cX0_lineLength 8 = .ok (.aload_n 0, 1) := by decide +kernel
theorem dX0_lineLength_9 : decode cX0_lineLength 9 = .ok (.getfield 15, 3) := by decide +kernel
theorem dX0_lineLength_12 : decode cX0_lineLength 12 = .ok (.goto 7, 3) := by decide +kernel
theorem dX0_lineLength_15 : decode cX0_lineLength 15 = .ok (.aload_n 0, 1) := by decide +kernel
theorem dX0_lineLength_16 : decode cX0_lineLength 16 = .ok (.getfield 9, 3) := by decide +kernel
theorem dX0_lineLength_19 : decode cX0_lineLength 19 = .ok (.ireturn, 1) := by decide +kernel
theorem dX0_lineStart_0 : decode cX0_lineStart 0 = .ok (.iload_n 1, 1) := by decide +kernel
theorem dX0_lineStart_1 : decode cX0_lineStart 1 = .ok (.aload_n 0, 1) := by decide +kernel
theorem dX0_lineStart_2 : decode cX0_lineStart 2 = .ok (.getfield 9, 3) := by decide +kernel
theorem dX0_lineStart_5 : decode cX0_lineStart 5 = .ok (.if_icmp .ge 12, 3) := by decide +kernel
theorem dX0_lineStart_8 : decode cX0_lineStart 8 = .ok (.iload_n 1, 1) := by decide +kernel
theorem dX0_lineStart_9 : decode cX0_lineStart 9 = .ok (.aload_n 0, 1) := by decide +kernel
theorem dX0_lineStart_10 : decode cX0_lineStart 10 = .ok (.getfield 15, 3) := by decide +kernel
theorem dX0_lineStart_13 : decode cX0_lineStart 13 = .ok (.imul, 1) := by decide +kernel
theorem dX0_lineStart_14 : decode cX0_lineStart 14 = .ok (.goto 9, 3) := by decide +kernel
theorem dX0_lineStart_17 : decode cX0_lineStart 17 = .ok (.iload_n 1, 1) := by decide +kernel
theorem dX0_lineStart_18 : decode cX0_lineStart 18 = .ok (.aload_n 0, 1) := by decide +kernel
theorem dX0_lineStart_19 : decode cX0_lineStart 19 = .ok (.getfield 9, 3) := by decide +kernel
theorem dX0_lineStart_22 : decode cX0_lineStart 22 = .ok (.isub, 1) := by decide +kernel
theorem dX0_lineStart_23 : decode cX0_lineStart 23 = .ok (.ireturn, 1) := by decide +kernel
theorem dX0_lineStride_0 : decode cX0_lineStride 0 = .ok (.iload_n 1, 1) := by decide +kernel
theorem dX0_lineStride_1 : decode cX0_lineStride 1 = .ok (.aload_n 0, 1) := by decide +kernel
theorem dX0_lineStride_2 : decode cX0_lineStride 2 = .ok (.getfield 9, 3) := by decide +kernel
theorem dX0_lineStride_5 : decode cX0_lineStride 5 = .ok (.if_icmp .ge 7, 3) := by decide +kernel
theorem dX0_lineStride_8 : decode cX0_lineStride 8 = .ok (.iconst 1, 1) := by decide +kernel
theorem dX0_lineStride_9 : decode cX0_lineStride 9 = .ok (.goto 7, 3) := by decide +kernel
theorem dX0_lineStride_12 : decode cX0_lineStride 12 = .ok (.aload_n 0, 1) := by decide +kernel
theorem dX0_lineStride_13 : decode cX0_lineStride 13 = .ok (.getfield 15, 3) := by decide +kernel
theorem dX0_lineStride_16 : decode cX0_lineStride 16 = .ok (.ireturn, 1) := by decide +kernel
theorem dX0_placeOn_0 : decode cX0_placeOn 0 = .ok (.aload_n 0, 1) := by decide +kernel
theorem dX0_placeOn_1 : decode cX0_placeOn 1 = .ok (.iload_n 1, 1) := by decide +kernel
theorem dX0_placeOn_2 : decode cX0_placeOn 2 = .ok (.invokevirtual 73, 3) := by decide +kernel
theorem dX0_placeOn_5 : decode cX0_placeOn 5 = .ok (.iload_n 2, 1) := by decide +kernel
theorem dX0_placeOn_6 : decode cX0_placeOn 6 = .ok (.aload_n 0, 1) := by decide +kernel
theorem dX0_placeOn_7 : decode cX0_placeOn 7 = .ok (.iload_n 1, 1) := by decide +kernel
theorem dX0_placeOn_8 : decode cX0_placeOn 8 = .ok (.invokevirtual 76, 3) := by decide +kernel
theorem dX0_placeOn_11 : decode cX0_placeOn 11 = .ok (.imul, 1) := by decide +kernel
theorem dX0_placeOn_12 : decode cX0_placeOn 12 = .ok (.iadd, 1) := by decide +kernel
theorem dX0_placeOn_13 : decode cX0_placeOn 13 = .ok (.ireturn, 1) := by decide +kernel
theorem dX0_turned_0 : decode cX0_turned 0 = .ok (.iload_n 3, 1) := by decide +kernel
theorem dX0_turned_1 : decode cX0_turned 1 = .ok (.iconst 2, 1) := by decide +kernel
theorem dX0_turned_2 : decode cX0_turned 2 = .ok (.idiv, 1) := by decide +kernel
theorem dX0_turned_3 : decode cX0_turned 3 = .ok (.istore 4, 2) := by decide +kernel
theorem dX0_turned_5 : decode cX0_turned 5 = .ok (.iconst 4, 1) := by decide +kernel
theorem dX0_turned_6 : decode cX0_turned 6 = .ok (.aload_n 0, 1) := by decide +kernel
theorem dX0_turned_7 : decode cX0_turned 7 = .ok (.iload 4, 2) := by decide +kernel
theorem dX0_turned_9 : decode cX0_turned 9 = .ok (.invokevirtual 73, 3) := by decide +kernel
theorem dX0_turned_12 : decode cX0_turned 12 = .ok (.imul, 1) := by decide +kernel
theorem dX0_turned_13 : decode cX0_turned 13 = .ok (.istore 5, 2) := by decide +kernel
theorem dX0_turned_15 : decode cX0_turned 15 = .ok (.iconst 4, 1) := by decide +kernel
theorem dX0_turned_16 : decode cX0_turned 16 = .ok (.aload_n 0, 1) := by decide +kernel
theorem dX0_turned_17 : decode cX0_turned 17 = .ok (.iload 4, 2) := by decide +kernel
theorem dX0_turned_19 : decode cX0_turned 19 = .ok (.invokevirtual 76, 3) := by decide +kernel
theorem dX0_turned_22 : decode cX0_turned 22 = .ok (.imul, 1) := by decide +kernel
theorem dX0_turned_23 : decode cX0_turned 23 = .ok (.istore 6, 2) := by decide +kernel
theorem dX0_turned_25 : decode cX0_turned 25 = .ok (.iload 6, 2) := by decide +kernel
theorem dX0_turned_27 : decode cX0_turned 27 = .ok (.aload_n 0, 1) := by decide +kernel
theorem dX0_turned_28 : decode cX0_turned 28 = .ok (.iload 4, 2) := by decide +kernel
theorem dX0_turned_30 : decode cX0_turned 30 = .ok (.invokevirtual 79, 3) := by decide +kernel
theorem dX0_turned_33 : decode cX0_turned 33 = .ok (.iconst 1, 1) := by decide +kernel
theorem dX0_turned_34 : decode cX0_turned 34 = .ok (.isub, 1) := by decide +kernel
theorem dX0_turned_35 : decode cX0_turned 35 = .ok (.imul, 1) := by decide +kernel
theorem dX0_turned_36 : decode cX0_turned 36 = .ok (.istore 7, 2) := by decide +kernel
theorem dX0_turned_38 : decode cX0_turned 38 = .ok (.ldc2_w 82, 3) := by decide +kernel
theorem dX0_turned_41 : decode cX0_turned 41 = .ok (.ldc2_w 82, 3) := by decide +kernel
theorem dX0_turned_44 : decode cX0_turned 44 = .ok (.iload 6, 2) := by decide +kernel
theorem dX0_turned_46 : decode cX0_turned 46 = .ok (.lshl, 1) := by decide +kernel
theorem dX0_turned_47 : decode cX0_turned 47 = .ok (.lor, 1) := by decide +kernel
theorem dX0_turned_48 : decode cX0_turned 48 = .ok (.ldc2_w 82, 3) := by decide +kernel
theorem dX0_turned_51 : decode cX0_turned 51 = .ok (.iload 7, 2) := by decide +kernel
theorem dX0_turned_53 : decode cX0_turned 53 = .ok (.lshl, 1) := by decide +kernel
theorem dX0_turned_54 : decode cX0_turned 54 = .ok (.lor, 1) := by decide +kernel
theorem dX0_turned_55 : decode cX0_turned 55 = .ok (.lstore 8, 2) := by decide +kernel
theorem dX0_turned_57 : decode cX0_turned 57 = .ok (.lload_n 1, 1) := by decide +kernel
theorem dX0_turned_58 : decode cX0_turned 58 = .ok (.iload 5, 2) := by decide +kernel
theorem dX0_turned_60 : decode cX0_turned 60 = .ok (.lushr, 1) := by decide +kernel
theorem dX0_turned_61 : decode cX0_turned 61 = .ok (.lload 8, 2) := by decide +kernel
theorem dX0_turned_63 : decode cX0_turned 63 = .ok (.land, 1) := by decide +kernel
theorem dX0_turned_64 : decode cX0_turned 64 = .ok (.lstore 10, 2) := by decide +kernel
theorem dX0_turned_66 : decode cX0_turned 66 = .ok (.iload_n 3, 1) := by decide +kernel
theorem dX0_turned_67 : decode cX0_turned 67 = .ok (.iconst 2, 1) := by decide +kernel
theorem dX0_turned_68 : decode cX0_turned 68 = .ok (.irem, 1) := by decide +kernel
theorem dX0_turned_69 : decode cX0_turned 69 = .ok (.ifCond .ne 17, 3) := by decide +kernel
theorem dX0_turned_72 : decode cX0_turned 72 = .ok (.lload 10, 2) := by decide +kernel
theorem dX0_turned_74 : decode cX0_turned 74 = .ok (.iload 6, 2) := by decide +kernel
theorem dX0_turned_76 : decode cX0_turned 76 = .ok (.lshl, 1) := by decide +kernel
theorem dX0_turned_77 : decode cX0_turned 77 = .ok (.lload 10, 2) := by decide +kernel
theorem dX0_turned_79 : decode cX0_turned 79 = .ok (.iload 7, 2) := by decide +kernel
theorem dX0_turned_81 : decode cX0_turned 81 = .ok (.lushr, 1) := by decide +kernel
theorem dX0_turned_82 : decode cX0_turned 82 = .ok (.lor, 1) := by decide +kernel
theorem dX0_turned_83 : decode cX0_turned 83 = .ok (.goto 14, 3) := by decide +kernel
theorem dX0_turned_86 : decode cX0_turned 86 = .ok (.lload 10, 2) := by decide +kernel
theorem dX0_turned_88 : decode cX0_turned 88 = .ok (.iload 6, 2) := by decide +kernel
theorem dX0_turned_90 : decode cX0_turned 90 = .ok (.lushr, 1) := by decide +kernel
theorem dX0_turned_91 : decode cX0_turned 91 = .ok (.lload 10, 2) := by decide +kernel
theorem dX0_turned_93 : decode cX0_turned 93 = .ok (.iload 7, 2) := by decide +kernel
theorem dX0_turned_95 : decode cX0_turned 95 = .ok (.lshl, 1) := by decide +kernel
theorem dX0_turned_96 : decode cX0_turned 96 = .ok (.lor, 1) := by decide +kernel
theorem dX0_turned_97 : decode cX0_turned 97 = .ok (.lstore 12, 2) := by decide +kernel
theorem dX0_turned_99 : decode cX0_turned 99 = .ok (.lload_n 1, 1) := by decide +kernel
theorem dX0_turned_100 : decode cX0_turned 100 = .ok (.lload 8, 2) := by decide +kernel
theorem dX0_turned_102 : decode cX0_turned 102 = .ok (.iload 5, 2) := by decide +kernel
theorem dX0_turned_104 : decode cX0_turned 104 = .ok (.lshl, 1) := by decide +kernel
theorem dX0_turned_105 : decode cX0_turned 105 = .ok (.ldc2_w 84, 3) := by decide +kernel
theorem dX0_turned_108 : decode cX0_turned 108 = .ok (.lxor, 1) := by decide +kernel
theorem dX0_turned_109 : decode cX0_turned 109 = .ok (.land, 1) := by decide +kernel
theorem dX0_turned_110 : decode cX0_turned 110 = .ok (.lload 12, 2) := by decide +kernel
theorem dX0_turned_112 : decode cX0_turned 112 = .ok (.lload 8, 2) := by decide +kernel
theorem dX0_turned_114 : decode cX0_turned 114 = .ok (.land, 1) := by decide +kernel
theorem dX0_turned_115 : decode cX0_turned 115 = .ok (.iload 5, 2) := by decide +kernel
theorem dX0_turned_117 : decode cX0_turned 117 = .ok (.lshl, 1) := by decide +kernel
theorem dX0_turned_118 : decode cX0_turned 118 = .ok (.lor, 1) := by decide +kernel
theorem dX0_turned_119 : decode cX0_turned 119 = .ok (.lreturn, 1) := by decide +kernel
theorem dX0_areTurnsTakenBack_0 : decode cX0_areTurnsTakenBack 0 = .ok (.iconst 0, 1) := by decide +kernel
theorem dX0_areTurnsTakenBack_1 : decode cX0_areTurnsTakenBack 1 = .ok (.istore_n 1, 1) := by decide +kernel
theorem dX0_areTurnsTakenBack_2 : decode cX0_areTurnsTakenBack 2 = .ok (.iload_n 1, 1) := by decide +kernel
theorem dX0_areTurnsTakenBack_3 : decode cX0_areTurnsTakenBack 3 = .ok (.aload_n 0, 1) := by decide +kernel
theorem dX0_areTurnsTakenBack_4 : decode cX0_areTurnsTakenBack 4 = .ok (.invokevirtual 57, 3) := by decide +kernel
theorem dX0_areTurnsTakenBack_7 : decode cX0_areTurnsTakenBack 7 = .ok (.if_icmp .ge 35, 3) := by decide +kernel
theorem dX0_areTurnsTakenBack_10 : decode cX0_areTurnsTakenBack 10 = .ok (.aload_n 0, 1) := by decide +kernel
theorem dX0_areTurnsTakenBack_11 : decode cX0_areTurnsTakenBack 11 = .ok (.aload_n 0, 1) := by decide +kernel
theorem dX0_areTurnsTakenBack_12 : decode cX0_areTurnsTakenBack 12 = .ok (.aload_n 0, 1) := by decide +kernel
theorem dX0_areTurnsTakenBack_13 : decode cX0_areTurnsTakenBack 13 = .ok (.getfield 18, 3) := by decide +kernel
theorem dX0_areTurnsTakenBack_16 : decode cX0_areTurnsTakenBack 16 = .ok (.iload_n 1, 1) := by decide +kernel
theorem dX0_areTurnsTakenBack_17 : decode cX0_areTurnsTakenBack 17 = .ok (.invokevirtual 86, 3) := by decide +kernel
theorem dX0_areTurnsTakenBack_20 : decode cX0_areTurnsTakenBack 20 = .ok (.iload_n 1, 1) := by decide +kernel
theorem dX0_areTurnsTakenBack_21 : decode cX0_areTurnsTakenBack 21 = .ok (.iconst 1, 1) := by decide +kernel
theorem dX0_areTurnsTakenBack_22 : decode cX0_areTurnsTakenBack 22 = .ok (.ixor, 1) := by decide +kernel
theorem dX0_areTurnsTakenBack_23 : decode cX0_areTurnsTakenBack 23 = .ok (.invokevirtual 86, 3) := by decide +kernel
theorem dX0_areTurnsTakenBack_26 : decode cX0_areTurnsTakenBack 26 = .ok (.aload_n 0, 1) := by decide +kernel
theorem dX0_areTurnsTakenBack_27 : decode cX0_areTurnsTakenBack 27 = .ok (.getfield 18, 3) := by decide +kernel
theorem dX0_areTurnsTakenBack_30 : decode cX0_areTurnsTakenBack 30 = .ok (.lcmp, 1) := by decide +kernel
theorem dX0_areTurnsTakenBack_31 : decode cX0_areTurnsTakenBack 31 = .ok (.ifCond .eq 5, 3) := by decide +kernel
theorem dX0_areTurnsTakenBack_34 : decode cX0_areTurnsTakenBack 34 = .ok (.iconst 0, 1) := by decide +kernel
theorem dX0_areTurnsTakenBack_35 : decode cX0_areTurnsTakenBack 35 = .ok (.ireturn, 1) := by decide +kernel
theorem dX0_areTurnsTakenBack_36 : decode cX0_areTurnsTakenBack 36 = .ok (.iinc 1 1, 3) := by decide +kernel
theorem dX0_areTurnsTakenBack_39 : decode cX0_areTurnsTakenBack 39 = .ok (.goto (-37), 3) := by decide +kernel
theorem dX0_areTurnsTakenBack_42 : decode cX0_areTurnsTakenBack 42 = .ok (.iconst 1, 1) := by decide +kernel
theorem dX0_areTurnsTakenBack_43 : decode cX0_areTurnsTakenBack 43 = .ok (.ireturn, 1) := by decide +kernel
theorem dX0_turnToGoal_0 : decode cX0_turnToGoal 0 = .ok (.aload_n 0, 1) := by decide +kernel
theorem dX0_turnToGoal_1 : decode cX0_turnToGoal 1 = .ok (.invokevirtual 90, 3) := by decide +kernel
theorem dX0_turnToGoal_4 : decode cX0_turnToGoal 4 = .ok (.istore_n 2, 1) := by decide +kernel
theorem dX0_turnToGoal_5 : decode cX0_turnToGoal 5 = .ok (.aload_n 0, 1) := by decide +kernel
theorem dX0_turnToGoal_6 : decode cX0_turnToGoal 6 = .ok (.iload_n 1, 1) := by decide +kernel
theorem dX0_turnToGoal_7 : decode cX0_turnToGoal 7 = .ok (.invokevirtual 94, 3) := by decide +kernel
theorem dX0_turnToGoal_10 : decode cX0_turnToGoal 10 = .ok (.iload_n 2, 1) := by decide +kernel
theorem dX0_turnToGoal_11 : decode cX0_turnToGoal 11 = .ok (.ifCond .ne 20, 3) := by decide +kernel
theorem dX0_turnToGoal_14 : decode cX0_turnToGoal 14 = .ok (.aload_n 0, 1) := by decide +kernel
theorem dX0_turnToGoal_15 : decode cX0_turnToGoal 15 = .ok (.invokevirtual 90, 3) := by decide +kernel
theorem dX0_turnToGoal_18 : decode cX0_turnToGoal 18 = .ok (.ifCond .eq 13, 3) := by decide +kernel
theorem dX0_turnToGoal_21 : decode cX0_turnToGoal 21 = .ok (.aload_n 0, 1) := by decide +kernel
theorem dX0_turnToGoal_22 : decode cX0_turnToGoal 22 = .ok (.dup, 1) := by decide +kernel
theorem dX0_turnToGoal_23 : decode cX0_turnToGoal 23 = .ok (.getfield 43, 3) := by decide +kernel
theorem dX0_turnToGoal_26 : decode cX0_turnToGoal 26 = .ok (.iconst 1, 1) := by decide +kernel
theorem dX0_turnToGoal_27 : decode cX0_turnToGoal 27 = .ok (.iadd, 1) := by decide +kernel
theorem dX0_turnToGoal_28 : decode cX0_turnToGoal 28 = .ok (.putfield 43, 3) := by decide +kernel
theorem dX0_turnToGoal_31 : decode cX0_turnToGoal 31 = .ok (.return_, 1) := by decide +kernel
theorem dX0_makeTurn_0 : decode cX0_makeTurn 0 = .ok (.aload_n 0, 1) := by decide +kernel
theorem dX0_makeTurn_1 : decode cX0_makeTurn 1 = .ok (.aload_n 0, 1) := by decide +kernel
theorem dX0_makeTurn_2 : decode cX0_makeTurn 2 = .ok (.aload_n 0, 1) := by decide +kernel
theorem dX0_makeTurn_3 : decode cX0_makeTurn 3 = .ok (.getfield 18, 3) := by decide +kernel
theorem dX0_makeTurn_6 : decode cX0_makeTurn 6 = .ok (.iload_n 1, 1) := by decide +kernel
theorem dX0_makeTurn_7 : decode cX0_makeTurn 7 = .ok (.invokevirtual 86, 3) := by decide +kernel
theorem dX0_makeTurn_10 : decode cX0_makeTurn 10 = .ok (.putfield 18, 3) := by decide +kernel
theorem dX0_makeTurn_13 : decode cX0_makeTurn 13 = .ok (.aload_n 0, 1) := by decide +kernel
theorem dX0_makeTurn_14 : decode cX0_makeTurn 14 = .ok (.dup, 1) := by decide +kernel
theorem dX0_makeTurn_15 : decode cX0_makeTurn 15 = .ok (.getfield 28, 3) := by decide +kernel
theorem dX0_makeTurn_18 : decode cX0_makeTurn 18 = .ok (.iconst 1, 1) := by decide +kernel
theorem dX0_makeTurn_19 : decode cX0_makeTurn 19 = .ok (.iadd, 1) := by decide +kernel
theorem dX0_makeTurn_20 : decode cX0_makeTurn 20 = .ok (.putfield 28, 3) := by decide +kernel
theorem dX0_makeTurn_23 : decode cX0_makeTurn 23 = .ok (.return_, 1) := by decide +kernel
theorem dX0_exchange_0 : decode cX0_exchange 0 = .ok (.aload_n 0, 1) := by decide +kernel
theorem dX0_exchange_1 : decode cX0_exchange 1 = .ok (.getfield 18, 3) := by decide +kernel
theorem dX0_exchange_4 : decode cX0_exchange 4 = .ok (.iload_n 1, 1) := by decide +kernel
theorem dX0_exchange_5 : decode cX0_exchange 5 = .ok (.invokestatic 98, 3) := by decide +kernel
theorem dX0_exchange_8 : decode cX0_exchange 8 = .ok (.istore_n 3, 1) := by decide +kernel
theorem dX0_exchange_9 : decode cX0_exchange 9 = .ok (.aload_n 0, 1) := by decide +kernel
theorem dX0_exchange_10 : decode cX0_exchange 10 = .ok (.aload_n 0, 1) := by decide +kernel
theorem dX0_exchange_11 : decode cX0_exchange 11 = .ok (.getfield 18, 3) := by decide +kernel
theorem dX0_exchange_14 : decode cX0_exchange 14 = .ok (.iload_n 1, 1) := by decide +kernel
theorem dX0_exchange_15 : decode cX0_exchange 15 = .ok (.aload_n 0, 1) := by decide +kernel
theorem dX0_exchange_16 : decode cX0_exchange 16 = .ok (.getfield 18, 3) := by decide +kernel
theorem dX0_exchange_19 : decode cX0_exchange 19 = .ok (.iload_n 2, 1) := by decide +kernel
theorem dX0_exchange_20 : decode cX0_exchange 20 = .ok (.invokestatic 98, 3) := by decide +kernel
theorem dX0_exchange_23 : decode cX0_exchange 23 = .ok (.invokestatic 50, 3) := by decide +kernel
theorem dX0_exchange_26 : decode cX0_exchange 26 = .ok (.putfield 18, 3) := by decide +kernel
theorem dX0_exchange_29 : decode cX0_exchange 29 = .ok (.aload_n 0, 1) := by decide +kernel
theorem dX0_exchange_30 : decode cX0_exchange 30 = .ok (.aload_n 0, 1) := by decide +kernel
theorem dX0_exchange_31 : decode cX0_exchange 31 = .ok (.getfield 18, 3) := by decide +kernel
theorem dX0_exchange_34 : decode cX0_exchange 34 = .ok (.iload_n 2, 1) := by decide +kernel
theorem dX0_exchange_35 : decode cX0_exchange 35 = .ok (.iload_n 3, 1) := by decide +kernel
theorem dX0_exchange_36 : decode cX0_exchange 36 = .ok (.invokestatic 50, 3) := by decide +kernel
theorem dX0_exchange_39 : decode cX0_exchange 39 = .ok (.putfield 18, 3) := by decide +kernel
theorem dX0_exchange_42 : decode cX0_exchange 42 = .ok (.aload_n 0, 1) := by decide +kernel
theorem dX0_exchange_43 : decode cX0_exchange 43 = .ok (.dup, 1) := by decide +kernel
theorem dX0_exchange_44 : decode cX0_exchange 44 = .ok (.getfield 31, 3) := by decide +kernel
theorem dX0_exchange_47 : decode cX0_exchange 47 = .ok (.iconst 1, 1) := by decide +kernel
theorem dX0_exchange_48 : decode cX0_exchange 48 = .ok (.iadd, 1) := by decide +kernel
theorem dX0_exchange_49 : decode cX0_exchange 49 = .ok (.putfield 31, 3) := by decide +kernel
theorem dX0_exchange_52 : decode cX0_exchange 52 = .ok (.return_, 1) := by decide +kernel
theorem dX0_mix_0 : decode cX0_mix 0 = .ok (.iload_n 1, 1) := by decide +kernel
theorem dX0_mix_1 : decode cX0_mix 1 = .ok (.istore_n 3, 1) := by decide +kernel
theorem dX0_mix_2 : decode cX0_mix 2 = .ok (.aload_n 0, 1) := by decide +kernel
theorem dX0_mix_3 : decode cX0_mix 3 = .ok (.invokevirtual 57, 3) := by decide +kernel
theorem dX0_mix_6 : decode cX0_mix 6 = .ok (.istore 4, 2) := by decide +kernel
theorem dX0_mix_8 : decode cX0_mix 8 = .ok (.iconst 0, 1) := by decide +kernel
theorem dX0_mix_9 : decode cX0_mix 9 = .ok (.istore 5, 2) := by decide +kernel
theorem dX0_mix_11 : decode cX0_mix 11 = .ok (.iload 5, 2) := by decide +kernel
theorem dX0_mix_13 : decode cX0_mix 13 = .ok (.iload_n 2, 1) := by decide +kernel
theorem dX0_mix_14 : decode cX0_mix 14 = .ok (.if_icmp .ge 47, 3) := by decide +kernel
theorem dX0_mix_17 : decode cX0_mix 17 = .ok (.iload 4, 2) := by decide +kernel
theorem dX0_mix_19 : decode cX0_mix 19 = .ok (.ifCond .le 42, 3) := by decide +kernel
theorem dX0_mix_22 : decode cX0_mix 22 = .ok (.bipush 73, 2) := by decide +kernel
theorem dX0_mix_24 : decode cX0_mix 24 = .ok (.iload_n 3, 1) := by decide +kernel
theorem dX0_mix_25 : decode cX0_mix 25 = .ok (.imul, 1) := by decide +kernel
theorem dX0_mix_26 : decode cX0_mix 26 = .ok (.bipush 41, 2) := by decide +kernel
theorem dX0_mix_28 : decode cX0_mix 28 = .ok (.iadd, 1) := by decide +kernel
theorem dX0_mix_29 : decode cX0_mix 29 = .ok (.sipush 1000, 3) := by decide +kernel
theorem dX0_mix_32 : decode cX0_mix 32 = .ok (.irem, 1) := by decide +kernel
theorem dX0_mix_33 : decode cX0_mix 33 = .ok (.istore_n 3, 1) := by decide +kernel
theorem dX0_mix_34 : decode cX0_mix 34 = .ok (.iload_n 3, 1) := by decide +kernel
theorem dX0_mix_35 : decode cX0_mix 35 = .ok (.iload 4, 2) := by decide +kernel
theorem dX0_mix_37 : decode cX0_mix 37 = .ok (.irem, 1) := by decide +kernel
theorem dX0_mix_38 : decode cX0_mix 38 = .ok (.istore 6, 2) := by decide +kernel
theorem dX0_mix_40 : decode cX0_mix 40 = .ok (.aload_n 0, 1) := by decide +kernel
theorem dX0_mix_41 : decode cX0_mix 41 = .ok (.iload 6, 2) := by decide +kernel
theorem dX0_mix_43 : decode cX0_mix 43 = .ok (.invokevirtual 102, 3) := by decide +kernel
theorem dX0_mix_46 : decode cX0_mix 46 = .ok (.ifCond .eq 9, 3) := by decide +kernel
theorem dX0_mix_49 : decode cX0_mix 49 = .ok (.aload_n 0, 1) := by decide +kernel
theorem dX0_mix_50 : decode cX0_mix 50 = .ok (.iload 6, 2) := by decide +kernel
theorem dX0_mix_52 : decode cX0_mix 52 = .ok (.invokevirtual 94, 3) := by decide +kernel
theorem dX0_mix_55 : decode cX0_mix 55 = .ok (.iinc 5 1, 3) := by decide +kernel
theorem dX0_mix_58 : decode cX0_mix 58 = .ok (.goto (-47), 3) := by decide +kernel
theorem dX0_mix_61 : decode cX0_mix 61 = .ok (.aload_n 0, 1) := by decide +kernel
theorem dX0_mix_62 : decode cX0_mix 62 = .ok (.dup, 1) := by decide +kernel
theorem dX0_mix_63 : decode cX0_mix 63 = .ok (.getfield 34, 3) := by decide +kernel
theorem dX0_mix_66 : decode cX0_mix 66 = .ok (.iconst 1, 1) := by decide +kernel
theorem dX0_mix_67 : decode cX0_mix 67 = .ok (.iadd, 1) := by decide +kernel
theorem dX0_mix_68 : decode cX0_mix 68 = .ok (.putfield 34, 3) := by decide +kernel
theorem dX0_mix_71 : decode cX0_mix 71 = .ok (.return_, 1) := by decide +kernel
theorem dX0_atHome_0 : decode cX0_atHome 0 = .ok (.iconst 0, 1) := by decide +kernel
theorem dX0_atHome_1 : decode cX0_atHome 1 = .ok (.istore_n 3, 1) := by decide +kernel
theorem dX0_atHome_2 : decode cX0_atHome 2 = .ok (.iconst 0, 1) := by decide +kernel
theorem dX0_atHome_3 : decode cX0_atHome 3 = .ok (.istore 4, 2) := by decide +kernel
theorem dX0_atHome_5 : decode cX0_atHome 5 = .ok (.iload 4, 2) := by decide +kernel
theorem dX0_atHome_7 : decode cX0_atHome 7 = .ok (.aload_n 0, 1) := by decide +kernel
theorem dX0_atHome_8 : decode cX0_atHome 8 = .ok (.invokevirtual 46, 3) := by decide +kernel
theorem dX0_atHome_11 : decode cX0_atHome 11 = .ok (.if_icmp .ge 41, 3) := by decide +kernel
theorem dX0_atHome_14 : decode cX0_atHome 14 = .ok (.aload_n 0, 1) := by decide +kernel
theorem dX0_atHome_15 : decode cX0_atHome 15 = .ok (.getfield 22, 3) := by decide +kernel
theorem dX0_atHome_18 : decode cX0_atHome 18 = .ok (.iload 4, 2) := by decide +kernel
theorem dX0_atHome_20 : decode cX0_atHome 20 = .ok (.invokestatic 98, 3) := by decide +kernel
theorem dX0_atHome_23 : decode cX0_atHome 23 = .ok (.istore 5, 2) := by decide +kernel
theorem dX0_atHome_25 : decode cX0_atHome 25 = .ok (.iload 5, 2) := by decide +kernel
theorem dX0_atHome_27 : decode cX0_atHome 27 = .ok (.bipush 12, 2) := by decide +kernel
theorem dX0_atHome_29 : decode cX0_atHome 29 = .ok (.if_icmp .eq 14, 3) := by decide +kernel
theorem dX0_atHome_32 : decode cX0_atHome 32 = .ok (.iload 5, 2) := by decide +kernel
theorem dX0_atHome_34 : decode cX0_atHome 34 = .ok (.lload_n 1, 1) := by decide +kernel
theorem dX0_atHome_35 : decode cX0_atHome 35 = .ok (.iload 4, 2) := by decide +kernel
theorem dX0_atHome_37 : decode cX0_atHome 37 = .ok (.invokestatic 98, 3) := by decide +kernel
theorem dX0_atHome_40 : decode cX0_atHome 40 = .ok (.if_icmp .ne 6, 3) := by decide +kernel
theorem dX0_atHome_43 : decode cX0_atHome 43 = .ok (.iinc 3 1, 3) := by decide +kernel
theorem dX0_atHome_46 : decode cX0_atHome 46 = .ok (.iinc 4 1, 3) := by decide +kernel
theorem dX0_atHome_49 : decode cX0_atHome 49 = .ok (.goto (-44), 3) := by decide +kernel
theorem dX0_atHome_52 : decode cX0_atHome 52 = .ok (.iload_n 3, 1) := by decide +kernel
theorem dX0_atHome_53 : decode cX0_atHome 53 = .ok (.ireturn, 1) := by decide +kernel
theorem dX0_isReached_0 : decode cX0_isReached 0 = .ok (.aload_n 0, 1) := by decide +kernel
theorem dX0_isReached_1 : decode cX0_isReached 1 = .ok (.aload_n 0, 1) := by decide +kernel
theorem dX0_isReached_2 : decode cX0_isReached 2 = .ok (.getfield 18, 3) := by decide +kernel
theorem dX0_isReached_5 : decode cX0_isReached 5 = .ok (.invokevirtual 105, 3) := by decide +kernel
theorem dX0_isReached_8 : decode cX0_isReached 8 = .ok (.ireturn, 1) := by decide +kernel
theorem dX0_isGoal_0 : decode cX0_isGoal 0 = .ok (.iconst 0, 1) := by decide +kernel
theorem dX0_isGoal_1 : decode cX0_isGoal 1 = .ok (.istore_n 3, 1) := by decide +kernel
theorem dX0_isGoal_2 : decode cX0_isGoal 2 = .ok (.iload_n 3, 1) := by decide +kernel
theorem dX0_isGoal_3 : decode cX0_isGoal 3 = .ok (.aload_n 0, 1) := by decide +kernel
theorem dX0_isGoal_4 : decode cX0_isGoal 4 = .ok (.invokevirtual 46, 3) := by decide +kernel
theorem dX0_isGoal_7 : decode cX0_isGoal 7 = .ok (.if_icmp .ge 38, 3) := by decide +kernel
theorem dX0_isGoal_10 : decode cX0_isGoal 10 = .ok (.aload_n 0, 1) := by decide +kernel
theorem dX0_isGoal_11 : decode cX0_isGoal 11 = .ok (.getfield 22, 3) := by decide +kernel
theorem dX0_isGoal_14 : decode cX0_isGoal 14 = .ok (.iload_n 3, 1) := by decide +kernel
theorem dX0_isGoal_15 : decode cX0_isGoal 15 = .ok (.invokestatic 98, 3) := by decide +kernel
theorem dX0_isGoal_18 : decode cX0_isGoal 18 = .ok (.istore 4, 2) := by decide +kernel
theorem dX0_isGoal_20 : decode cX0_isGoal 20 = .ok (.iload 4, 2) := by decide +kernel
theorem dX0_isGoal_22 : decode cX0_isGoal 22 = .ok (.bipush 12, 2) := by decide +kernel
theorem dX0_isGoal_24 : decode cX0_isGoal 24 = .ok (.if_icmp .eq 15, 3) := by decide +kernel
theorem dX0_isGoal_27 : decode cX0_isGoal 27 = .ok (.iload 4, 2) := by decide +kernel
theorem dX0_isGoal_29 : decode cX0_isGoal 29 = .ok (.lload_n 1, 1) := by decide +kernel
theorem dX0_isGoal_30 : decode cX0_isGoal 30 = .ok (.iload_n 3, 1) := by decide +kernel
theorem dX0_isGoal_31 : decode cX0_isGoal 31 = .ok (.invokestatic 98, 3) := by decide +kernel
theorem dX0_isGoal_34 : decode cX0_isGoal 34 = .ok (.if_icmp .eq 5, 3) := by decide +kernel
theorem dX0_isGoal_37 : decode cX0_isGoal 37 = .ok (.iconst 0, 1) := by decide +kernel
theorem dX0_isGoal_38 : decode cX0_isGoal 38 = .ok (.ireturn, 1) := by decide +kernel
theorem dX0_isGoal_39 : decode cX0_isGoal 39 = .ok (.iinc 3 1, 3) := by decide +kernel
theorem dX0_isGoal_42 : decode cX0_isGoal 42 = .ok (.goto (-40), 3) := by decide +kernel
theorem dX0_isGoal_45 : decode cX0_isGoal 45 = .ok (.iconst 1, 1) := by decide +kernel
theorem dX0_isGoal_46 : decode cX0_isGoal 46 = .ok (.ireturn, 1) := by decide +kernel
theorem dX0_cares_0 : decode cX0_cares 0 = .ok (.lconst 0, 1) := by decide +kernel
theorem dX0_cares_1 : decode cX0_cares 1 = .ok (.lstore_n 1, 1) := by decide +kernel
theorem dX0_cares_2 : decode cX0_cares 2 = .ok (.iconst 0, 1) := by decide +kernel
theorem dX0_cares_3 : decode cX0_cares 3 = .ok (.istore_n 3, 1) := by decide +kernel
theorem dX0_cares_4 : decode cX0_cares 4 = .ok (.iload_n 3, 1) := by decide +kernel
theorem dX0_cares_5 : decode cX0_cares 5 = .ok (.aload_n 0, 1) := by decide +kernel
theorem dX0_cares_6 : decode cX0_cares 6 = .ok (.invokevirtual 46, 3) := by decide +kernel
theorem dX0_cares_9 : decode cX0_cares 9 = .ok (.if_icmp .ge 30, 3) := by decide +kernel
theorem dX0_cares_12 : decode cX0_cares 12 = .ok (.aload_n 0, 1) := by decide +kernel
theorem dX0_cares_13 : decode cX0_cares 13 = .ok (.getfield 22, 3) := by decide +kernel
theorem dX0_cares_16 : decode cX0_cares 16 = .ok (.iload_n 3, 1) := by decide +kernel
theorem dX0_cares_17 : decode cX0_cares 17 = .ok (.invokestatic 98, 3) := by decide +kernel
theorem dX0_cares_20 : decode cX0_cares 20 = .ok (.bipush 12, 2) := by decide +kernel
theorem dX0_cares_22 : decode cX0_cares 22 = .ok (.if_icmp .eq 11, 3) := by decide +kernel
theorem dX0_cares_25 : decode cX0_cares 25 = .ok (.lload_n 1, 1) := by decide +kernel
theorem dX0_cares_26 : decode cX0_cares 26 = .ok (.iload_n 3, 1) := by decide +kernel
theorem dX0_cares_27 : decode cX0_cares 27 = .ok (.bipush 15, 2) := by decide +kernel
theorem dX0_cares_29 : decode cX0_cares 29 = .ok (.invokestatic 50, 3) := by decide +kernel
theorem dX0_cares_32 : decode cX0_cares 32 = .ok (.lstore_n 1, 1) := by decide +kernel
theorem dX0_cares_33 : decode cX0_cares 33 = .ok (.iinc 3 1, 3) := by decide +kernel
theorem dX0_cares_36 : decode cX0_cares 36 = .ok (.goto (-32), 3) := by decide +kernel
theorem dX0_cares_39 : decode cX0_cares 39 = .ok (.lload_n 1, 1) := by decide +kernel
theorem dX0_cares_40 : decode cX0_cares 40 = .ok (.lreturn, 1) := by decide +kernel
theorem dX0_count_0 : decode cX0_count 0 = .ok (.iconst 0, 1) := by decide +kernel
theorem dX0_count_1 : decode cX0_count 1 = .ok (.istore 4, 2) := by decide +kernel
theorem dX0_count_3 : decode cX0_count 3 = .ok (.iconst 0, 1) := by decide +kernel
theorem dX0_count_4 : decode cX0_count 4 = .ok (.istore 5, 2) := by decide +kernel
theorem dX0_count_6 : decode cX0_count 6 = .ok (.iload 5, 2) := by decide +kernel
theorem dX0_count_8 : decode cX0_count 8 = .ok (.aload_n 0, 1) := by decide +kernel
theorem dX0_count_9 : decode cX0_count 9 = .ok (.invokevirtual 46, 3) := by decide +kernel
theorem dX0_count_12 : decode cX0_count 12 = .ok (.if_icmp .ge 22, 3) := by decide +kernel
theorem dX0_count_15 : decode cX0_count 15 = .ok (.lload_n 1, 1) := by decide +kernel
theorem dX0_count_16 : decode cX0_count 16 = .ok (.iload 5, 2) := by decide +kernel
theorem dX0_count_18 : decode cX0_count 18 = .ok (.invokestatic 98, 3) := by decide +kernel
theorem dX0_count_21 : decode cX0_count 21 = .ok (.iload_n 3, 1) := by decide +kernel
theorem dX0_count_22 : decode cX0_count 22 = .ok (.if_icmp .ne 6, 3) := by decide +kernel
theorem dX0_count_25 : decode cX0_count 25 = .ok (.iinc 4 1, 3) := by decide +kernel
theorem dX0_count_28 : decode cX0_count 28 = .ok (.iinc 5 1, 3) := by decide +kernel
theorem dX0_count_31 : decode cX0_count 31 = .ok (.goto (-25), 3) := by decide +kernel
theorem dX0_count_34 : decode cX0_count 34 = .ok (.iload 4, 2) := by decide +kernel
theorem dX0_count_36 : decode cX0_count 36 = .ok (.ireturn, 1) := by decide +kernel
theorem dX0_placeOf_0 : decode cX0_placeOf 0 = .ok (.iconst 0, 1) := by decide +kernel
theorem dX0_placeOf_1 : decode cX0_placeOf 1 = .ok (.istore 4, 2) := by decide +kernel
theorem dX0_placeOf_3 : decode cX0_placeOf 3 = .ok (.iload 4, 2) := by decide +kernel
theorem dX0_placeOf_5 : decode cX0_placeOf 5 = .ok (.aload_n 0, 1) := by decide +kernel
theorem dX0_placeOf_6 : decode cX0_placeOf 6 = .ok (.invokevirtual 46, 3) := by decide +kernel
theorem dX0_placeOf_9 : decode cX0_placeOf 9 = .ok (.if_icmp .ge 22, 3) := by decide +kernel
theorem dX0_placeOf_12 : decode cX0_placeOf 12 = .ok (.lload_n 1, 1) := by decide +kernel
theorem dX0_placeOf_13 : decode cX0_placeOf 13 = .ok (.iload 4, 2) := by decide +kernel
theorem dX0_placeOf_15 : decode cX0_placeOf 15 = .ok (.invokestatic 98, 3) := by decide +kernel
theorem dX0_placeOf_18 : decode cX0_placeOf 18 = .ok (.iload_n 3, 1) := by decide +kernel
theorem dX0_placeOf_19 : decode cX0_placeOf 19 = .ok (.if_icmp .ne 6, 3) := by decide +kernel
theorem dX0_placeOf_22 : decode cX0_placeOf 22 = .ok (.iload 4, 2) := by decide +kernel
theorem dX0_placeOf_24 : decode cX0_placeOf 24 = .ok (.ireturn, 1) := by decide +kernel
theorem dX0_placeOf_25 : decode cX0_placeOf 25 = .ok (.iinc 4 1, 3) := by decide +kernel
theorem dX0_placeOf_28 : decode cX0_placeOf 28 = .ok (.goto (-25), 3) := by decide +kernel
theorem dX0_placeOf_31 : decode cX0_placeOf 31 = .ok (.iconst (-1), 1) := by decide +kernel
theorem dX0_placeOf_32 : decode cX0_placeOf 32 = .ok (.ireturn, 1) := by decide +kernel
theorem dX0_unlikeLetters_0 : decode cX0_unlikeLetters 0 = .ok (.iconst 0, 1) := by decide +kernel
theorem dX0_unlikeLetters_1 : decode cX0_unlikeLetters 1 = .ok (.istore_n 1, 1) := by decide +kernel
theorem dX0_unlikeLetters_2 : decode cX0_unlikeLetters 2 = .ok (.iconst 0, 1) := by decide +kernel
theorem dX0_unlikeLetters_3 : decode cX0_unlikeLetters 3 = .ok (.istore_n 2, 1) := by decide +kernel
theorem dX0_unlikeLetters_4 : decode cX0_unlikeLetters 4 = .ok (.iload_n 2, 1) := by decide +kernel
theorem dX0_unlikeLetters_5 : decode cX0_unlikeLetters 5 = .ok (.bipush 12, 2) := by decide +kernel
theorem dX0_unlikeLetters_7 : decode cX0_unlikeLetters 7 = .ok (.if_icmp .ge 24, 3) := by decide +kernel
theorem dX0_unlikeLetters_10 : decode cX0_unlikeLetters 10 = .ok (.aload_n 0, 1) := by decide +kernel
theorem dX0_unlikeLetters_11 : decode cX0_unlikeLetters 11 = .ok (.aload_n 0, 1) := by decide +kernel
theorem dX0_unlikeLetters_12 : decode cX0_unlikeLetters 12 = .ok (.getfield 18, 3) := by decide +kernel
theorem dX0_unlikeLetters_15 : decode cX0_unlikeLetters 15 = .ok (.iload_n 2, 1) := by decide +kernel
theorem dX0_unlikeLetters_16 : decode cX0_unlikeLetters 16 = .ok (.invokevirtual 109, 3) := by decide +kernel
theorem dX0_unlikeLetters_19 : decode cX0_unlikeLetters 19 = .ok (.ifCond .le 6, 3) := by decide +kernel
theorem dX0_unlikeLetters_22 : decode cX0_unlikeLetters 22 = .ok (.iinc 1 1, 3) := by decide +kernel
theorem dX0_unlikeLetters_25 : decode cX0_unlikeLetters 25 = .ok (.iinc 2 1, 3) := by decide +kernel
theorem dX0_unlikeLetters_28 : decode cX0_unlikeLetters 28 = .ok (.goto (-24), 3) := by decide +kernel
theorem dX0_unlikeLetters_31 : decode cX0_unlikeLetters 31 = .ok (.iload_n 1, 1) := by decide +kernel
theorem dX0_unlikeLetters_32 : decode cX0_unlikeLetters 32 = .ok (.ireturn, 1) := by decide +kernel
theorem dX0_areAllUnlike_0 : decode cX0_areAllUnlike 0 = .ok (.aload_n 0, 1) := by decide +kernel
theorem dX0_areAllUnlike_1 : decode cX0_areAllUnlike 1 = .ok (.invokevirtual 112, 3) := by decide +kernel
theorem dX0_areAllUnlike_4 : decode cX0_areAllUnlike 4 = .ok (.aload_n 0, 1) := by decide +kernel
theorem dX0_areAllUnlike_5 : decode cX0_areAllUnlike 5 = .ok (.invokevirtual 46, 3) := by decide +kernel
theorem dX0_areAllUnlike_8 : decode cX0_areAllUnlike 8 = .ok (.if_icmp .ne 7, 3) := by decide +kernel
theorem dX0_areAllUnlike_11 : decode cX0_areAllUnlike 11 = .ok (.iconst 1, 1) := by decide +kernel
theorem dX0_areAllUnlike_12 : decode cX0_areAllUnlike 12 = .ok (.goto 4, 3) := by decide +kernel
theorem dX0_areAllUnlike_15 : decode cX0_areAllUnlike 15 = .ok (.iconst 0, 1) := by decide +kernel
theorem dX0_areAllUnlike_16 : decode cX0_areAllUnlike 16 = .ok (.ireturn, 1) := by decide +kernel
theorem dX0_hasSameLetters_0 : decode cX0_hasSameLetters 0 = .ok (.aload_n 0, 1) := by decide +kernel
theorem dX0_hasSameLetters_1 : decode cX0_hasSameLetters 1 = .ok (.invokevirtual 115, 3) := by decide +kernel
theorem dX0_hasSameLetters_4 : decode cX0_hasSameLetters 4 = .ok (.istore_n 1, 1) := by decide +kernel
theorem dX0_hasSameLetters_5 : decode cX0_hasSameLetters 5 = .ok (.iconst 0, 1) := by decide +kernel
theorem dX0_hasSameLetters_6 : decode cX0_hasSameLetters 6 = .ok (.istore_n 2, 1) := by decide +kernel
theorem dX0_hasSameLetters_7 : decode cX0_hasSameLetters 7 = .ok (.iload_n 2, 1) := by decide +kernel
theorem dX0_hasSameLetters_8 : decode cX0_hasSameLetters 8 = .ok (.aload_n 0, 1) := by decide +kernel
theorem dX0_hasSameLetters_9 : decode cX0_hasSameLetters 9 = .ok (.invokevirtual 46, 3) := by decide +kernel
theorem dX0_hasSameLetters_12 : decode cX0_hasSameLetters 12 = .ok (.if_icmp .ge 39, 3) := by decide +kernel
theorem dX0_hasSameLetters_15 : decode cX0_hasSameLetters 15 = .ok (.iload_n 1, 1) := by decide +kernel
theorem dX0_hasSameLetters_16 : decode cX0_hasSameLetters 16 = .ok (.ifCond .eq 27, 3) := by decide +kernel
theorem dX0_hasSameLetters_19 : decode cX0_hasSameLetters 19 = .ok (.aload_n 0, 1) := by decide +kernel
theorem dX0_hasSameLetters_20 : decode cX0_hasSameLetters 20 = .ok (.aload_n 0, 1) := by decide +kernel
theorem dX0_hasSameLetters_21 : decode cX0_hasSameLetters 21 = .ok (.getfield 22, 3) := by decide +kernel
theorem dX0_hasSameLetters_24 : decode cX0_hasSameLetters 24 = .ok (.aload_n 0, 1) := by decide +kernel
theorem dX0_hasSameLetters_25 : decode cX0_hasSameLetters 25 = .ok (.getfield 18, 3) := by decide +kernel
theorem dX0_hasSameLetters_28 : decode cX0_hasSameLetters 28 = .ok (.iload_n 2, 1) := by decide +kernel
theorem dX0_hasSameLetters_29 : decode cX0_hasSameLetters 29 = .ok (.invokestatic 98, 3) := by decide +kernel
theorem dX0_hasSameLetters_32 : decode cX0_hasSameLetters 32 = .ok (.invokevirtual 109, 3) := by decide +kernel
theorem dX0_hasSameLetters_35 : decode cX0_hasSameLetters 35 = .ok (.iconst 1, 1) := by decide +kernel
theorem dX0_hasSameLetters_36 : decode cX0_hasSameLetters 36 = .ok (.if_icmp .ne 7, 3) := by decide +kernel
theorem dX0_hasSameLetters_39 : decode cX0_hasSameLetters 39 = .ok (.iconst 1, 1) := by decide +kernel
theorem dX0_hasSameLetters_40 : decode cX0_hasSameLetters 40 = .ok (.goto 4, 3) := by decide +kernel
theorem dX0_hasSameLetters_43 : decode cX0_hasSameLetters 43 = .ok (.iconst 0, 1) := by decide +kernel
theorem dX0_hasSameLetters_44 : decode cX0_hasSameLetters 44 = .ok (.istore_n 1, 1) := by decide +kernel
theorem dX0_hasSameLetters_45 : decode cX0_hasSameLetters 45 = .ok (.iinc 2 1, 3) := by decide +kernel
theorem dX0_hasSameLetters_48 : decode cX0_hasSameLetters 48 = .ok (.goto (-41), 3) := by decide +kernel
theorem dX0_hasSameLetters_51 : decode cX0_hasSameLetters 51 = .ok (.iload_n 1, 1) := by decide +kernel
theorem dX0_hasSameLetters_52 : decode cX0_hasSameLetters 52 = .ok (.ireturn, 1) := by decide +kernel
theorem dX0_isBeyondReach_0 : decode cX0_isBeyondReach 0 = .ok (.iconst 0, 1) := by decide +kernel
theorem dX0_isBeyondReach_1 : decode cX0_isBeyondReach 1 = .ok (.istore_n 1, 1) := by decide +kernel
theorem dX0_isBeyondReach_2 : decode cX0_isBeyondReach 2 = .ok (.iload_n 1, 1) := by decide +kernel
theorem dX0_isBeyondReach_3 : decode cX0_isBeyondReach 3 = .ok (.bipush 12, 2) := by decide +kernel
theorem dX0_isBeyondReach_5 : decode cX0_isBeyondReach 5 = .ok (.if_icmp .ge 32, 3) := by decide +kernel
theorem dX0_isBeyondReach_8 : decode cX0_isBeyondReach 8 = .ok (.aload_n 0, 1) := by decide +kernel
theorem dX0_isBeyondReach_9 : decode cX0_isBeyondReach 9 = .ok (.aload_n 0, 1) := by decide +kernel
theorem dX0_isBeyondReach_10 : decode cX0_isBeyondReach 10 = .ok (.getfield 22, 3) := by decide +kernel
theorem dX0_isBeyondReach_13 : decode cX0_isBeyondReach 13 = .ok (.iload_n 1, 1) := by decide +kernel
theorem dX0_isBeyondReach_14 : decode cX0_isBeyondReach 14 = .ok (.invokevirtual 109, 3) := by decide +kernel
theorem dX0_isBeyondReach_17 : decode cX0_isBeyondReach 17 = .ok (.aload_n 0, 1) := by decide +kernel
theorem dX0_isBeyondReach_18 : decode cX0_isBeyondReach 18 = .ok (.aload_n 0, 1) := by decide +kernel
theorem dX0_isBeyondReach_19 : decode cX0_isBeyondReach 19 = .ok (.getfield 18, 3) := by decide +kernel
theorem dX0_isBeyondReach_22 : decode cX0_isBeyondReach 22 = .ok (.iload_n 1, 1) := by decide +kernel
theorem dX0_isBeyondReach_23 : decode cX0_isBeyondReach 23 = .ok (.invokevirtual 109, 3) := by decide +kernel
theorem dX0_isBeyondReach_26 : decode cX0_isBeyondReach 26 = .ok (.if_icmp .le 5, 3) := by decide +kernel
theorem dX0_isBeyondReach_29 : decode cX0_isBeyondReach 29 = .ok (.iconst 1, 1) := by decide +kernel
theorem dX0_isBeyondReach_30 : decode cX0_isBeyondReach 30 = .ok (.ireturn, 1) := by decide +kernel
theorem dX0_isBeyondReach_31 : decode cX0_isBeyondReach 31 = .ok (.iinc 1 1, 3) := by decide +kernel
theorem dX0_isBeyondReach_34 : decode cX0_isBeyondReach 34 = .ok (.goto (-32), 3) := by decide +kernel
theorem dX0_isBeyondReach_37 : decode cX0_isBeyondReach 37 = .ok (.aload_n 0, 1) := by decide +kernel
theorem dX0_isBeyondReach_38 : decode cX0_isBeyondReach 38 = .ok (.getfield 9, 3) := by decide +kernel
theorem dX0_isBeyondReach_41 : decode cX0_isBeyondReach 41 = .ok (.iconst 3, 1) := by decide +kernel
theorem dX0_isBeyondReach_42 : decode cX0_isBeyondReach 42 = .ok (.if_icmp .ne 15, 3) := by decide +kernel
theorem dX0_isBeyondReach_45 : decode cX0_isBeyondReach 45 = .ok (.aload_n 0, 1) := by decide +kernel
theorem dX0_isBeyondReach_46 : decode cX0_isBeyondReach 46 = .ok (.getfield 15, 3) := by decide +kernel
theorem dX0_isBeyondReach_49 : decode cX0_isBeyondReach 49 = .ok (.iconst 3, 1) := by decide +kernel
theorem dX0_isBeyondReach_50 : decode cX0_isBeyondReach 50 = .ok (.if_icmp .ne 7, 3) := by decide +kernel
theorem dX0_isBeyondReach_53 : decode cX0_isBeyondReach 53 = .ok (.iconst 1, 1) := by decide +kernel
theorem dX0_isBeyondReach_54 : decode cX0_isBeyondReach 54 = .ok (.goto 4, 3) := by decide +kernel
theorem dX0_isBeyondReach_57 : decode cX0_isBeyondReach 57 = .ok (.iconst 0, 1) := by decide +kernel
theorem dX0_isBeyondReach_58 : decode cX0_isBeyondReach 58 = .ok (.istore_n 1, 1) := by decide +kernel
theorem dX0_isBeyondReach_59 : decode cX0_isBeyondReach 59 = .ok (.iload_n 1, 1) := by decide +kernel
theorem dX0_isBeyondReach_60 : decode cX0_isBeyondReach 60 = .ok (.ifCond .eq 24, 3) := by decide +kernel
theorem dX0_isBeyondReach_63 : decode cX0_isBeyondReach 63 = .ok (.aload_n 0, 1) := by decide +kernel
theorem dX0_isBeyondReach_64 : decode cX0_isBeyondReach 64 = .ok (.invokevirtual 115, 3) := by decide +kernel
theorem dX0_isBeyondReach_67 : decode cX0_isBeyondReach 67 = .ok (.ifCond .eq 17, 3) := by decide +kernel
theorem dX0_isBeyondReach_70 : decode cX0_isBeyondReach 70 = .ok (.aload_n 0, 1) := by decide +kernel
theorem dX0_isBeyondReach_71 : decode cX0_isBeyondReach 71 = .ok (.aload_n 0, 1) := by decide +kernel
theorem dX0_isBeyondReach_72 : decode cX0_isBeyondReach 72 = .ok (.getfield 22, 3) := by decide +kernel
theorem dX0_isBeyondReach_75 : decode cX0_isBeyondReach 75 = .ok (.bipush 12, 2) := by decide +kernel
theorem dX0_isBeyondReach_77 : decode cX0_isBeyondReach 77 = .ok (.invokevirtual 109, 3) := by decide +kernel
theorem dX0_isBeyondReach_80 : decode cX0_isBeyondReach 80 = .ok (.iconst 1, 1) := by decide +kernel
theorem dX0_isBeyondReach_81 : decode cX0_isBeyondReach 81 = .ok (.if_icmp .le 5, 3) := by decide +kernel
theorem dX0_isBeyondReach_84 : decode cX0_isBeyondReach 84 = .ok (.iconst 0, 1) := by decide +kernel
theorem dX0_isBeyondReach_85 : decode cX0_isBeyondReach 85 = .ok (.ireturn, 1) := by decide +kernel
theorem dX0_isBeyondReach_86 : decode cX0_isBeyondReach 86 = .ok (.aload_n 0, 1) := by decide +kernel
theorem dX0_isBeyondReach_87 : decode cX0_isBeyondReach 87 = .ok (.aload_n 0, 1) := by decide +kernel
theorem dX0_isBeyondReach_88 : decode cX0_isBeyondReach 88 = .ok (.invokevirtual 118, 3) := by decide +kernel
theorem dX0_isBeyondReach_91 : decode cX0_isBeyondReach 91 = .ok (.invokevirtual 122, 3) := by decide +kernel
theorem dX0_isBeyondReach_94 : decode cX0_isBeyondReach 94 = .ok (.ireturn, 1) := by decide +kernel
theorem dX0_filledAim_0 : decode cX0_filledAim 0 = .ok (.aload_n 0, 1) := by decide +kernel
theorem dX0_filledAim_1 : decode cX0_filledAim 1 = .ok (.aload_n 0, 1) := by decide +kernel
theorem dX0_filledAim_2 : decode cX0_filledAim 2 = .ok (.getfield 22, 3) := by decide +kernel
theorem dX0_filledAim_5 : decode cX0_filledAim 5 = .ok (.bipush 12, 2) := by decide +kernel
theorem dX0_filledAim_7 : decode cX0_filledAim 7 = .ok (.invokevirtual 125, 3) := by decide +kernel
theorem dX0_filledAim_10 : decode cX0_filledAim 10 = .ok (.istore_n 1, 1) := by decide +kernel
theorem dX0_filledAim_11 : decode cX0_filledAim 11 = .ok (.iconst 0, 1) := by decide +kernel
theorem dX0_filledAim_12 : decode cX0_filledAim 12 = .ok (.istore_n 2, 1) := by decide +kernel
theorem dX0_filledAim_13 : decode cX0_filledAim 13 = .ok (.iload_n 2, 1) := by decide +kernel
theorem dX0_filledAim_14 : decode cX0_filledAim 14 = .ok (.bipush 12, 2) := by decide +kernel
theorem dX0_filledAim_16 : decode cX0_filledAim 16 = .ok (.if_icmp .ge 44, 3) := by decide +kernel
theorem dX0_filledAim_19 : decode cX0_filledAim 19 = .ok (.iload_n 1, 1) := by decide +kernel
theorem dX0_filledAim_20 : decode cX0_filledAim 20 = .ok (.ifCond .lt 40, 3) := by decide +kernel
theorem dX0_filledAim_23 : decode cX0_filledAim 23 = .ok (.aload_n 0, 1) := by decide +kernel
theorem dX0_filledAim_24 : decode cX0_filledAim 24 = .ok (.aload_n 0, 1) := by decide +kernel
theorem dX0_filledAim_25 : decode cX0_filledAim 25 = .ok (.getfield 18, 3) := by decide +kernel
theorem dX0_filledAim_28 : decode cX0_filledAim 28 = .ok (.iload_n 2, 1) := by decide +kernel
theorem dX0_filledAim_29 : decode cX0_filledAim 29 = .ok (.invokevirtual 109, 3) := by decide +kernel
theorem dX0_filledAim_32 : decode cX0_filledAim 32 = .ok (.aload_n 0, 1) := by decide +kernel
theorem dX0_filledAim_33 : decode cX0_filledAim 33 = .ok (.aload_n 0, 1) := by decide +kernel
theorem dX0_filledAim_34 : decode cX0_filledAim 34 = .ok (.getfield 22, 3) := by decide +kernel
theorem dX0_filledAim_37 : decode cX0_filledAim 37 = .ok (.iload_n 2, 1) := by decide +kernel
theorem dX0_filledAim_38 : decode cX0_filledAim 38 = .ok (.invokevirtual 109, 3) := by decide +kernel
theorem dX0_filledAim_41 : decode cX0_filledAim 41 = .ok (.if_icmp .le 13, 3) := by decide +kernel
theorem dX0_filledAim_44 : decode cX0_filledAim 44 = .ok (.aload_n 0, 1) := by decide +kernel
theorem dX0_filledAim_45 : decode cX0_filledAim 45 = .ok (.getfield 22, 3) := by decide +kernel
theorem dX0_filledAim_48 : decode cX0_filledAim 48 = .ok (.iload_n 1, 1) := by decide +kernel
theorem dX0_filledAim_49 : decode cX0_filledAim 49 = .ok (.iload_n 2, 1) := by decide +kernel
theorem dX0_filledAim_50 : decode cX0_filledAim 50 = .ok (.invokestatic 50, 3) := by decide +kernel
theorem dX0_filledAim_53 : decode cX0_filledAim 53 = .ok (.lreturn, 1) := by decide +kernel
theorem dX0_filledAim_54 : decode cX0_filledAim 54 = .ok (.iinc 2 1, 3) := by decide +kernel
theorem dX0_filledAim_57 : decode cX0_filledAim 57 = .ok (.goto (-44), 3) := by decide +kernel
theorem dX0_filledAim_60 : decode cX0_filledAim 60 = .ok (.aload_n 0, 1) := by decide +kernel
theorem dX0_filledAim_61 : decode cX0_filledAim 61 = .ok (.getfield 22, 3) := by decide +kernel
theorem dX0_filledAim_64 : decode cX0_filledAim 64 = .ok (.lreturn, 1) := by decide +kernel
theorem dX0_isOddByCycles_0 : decode cX0_isOddByCycles 0 = .ok (.iconst 0, 1) := by decide +kernel
theorem dX0_isOddByCycles_1 : decode cX0_isOddByCycles 1 = .ok (.istore_n 3, 1) := by decide +kernel
theorem dX0_isOddByCycles_2 : decode cX0_isOddByCycles 2 = .ok (.iconst 0, 1) := by decide +kernel
theorem dX0_isOddByCycles_3 : decode cX0_isOddByCycles 3 = .ok (.istore 4, 2) := by decide +kernel
theorem dX0_isOddByCycles_5 : decode cX0_isOddByCycles 5 = .ok (.iconst 0, 1) := by decide +kernel
theorem dX0_isOddByCycles_6 : decode cX0_isOddByCycles 6 = .ok (.istore 5, 2) := by decide +kernel
theorem dX0_isOddByCycles_8 : decode cX0_isOddByCycles 8 = .ok (.iload 5, 2) := by decide +kernel
theorem dX0_isOddByCycles_10 : decode cX0_isOddByCycles 10 = .ok (.aload_n 0, 1) := by decide +kernel
theorem dX0_isOddByCycles_11 : decode cX0_isOddByCycles 11 = .ok (.invokevirtual 46, 3) := by decide +kernel
theorem dX0_isOddByCycles_14 : decode cX0_isOddByCycles 14 = .ok (.if_icmp .ge 80, 3) := by decide +kernel
theorem dX0_isOddByCycles_17 : decode cX0_isOddByCycles 17 = .ok (.iload_n 3, 1) := by decide +kernel
theorem dX0_isOddByCycles_18 : decode cX0_isOddByCycles 18 = .ok (.iload 5, 2) := by decide +kernel
theorem dX0_isOddByCycles_20 : decode cX0_isOddByCycles 20 = .ok (.ishr, 1) := by decide +kernel
theorem dX0_isOddByCycles_21 : decode cX0_isOddByCycles 21 = .ok (.iconst 1, 1) := by decide +kernel
theorem dX0_isOddByCycles_22 : decode cX0_isOddByCycles 22 = .ok (.iand, 1) := by decide +kernel
theorem dX0_isOddByCycles_23 : decode cX0_isOddByCycles 23 = .ok (.ifCond .ne 6, 3) := by decide +kernel
theorem dX0_isOddByCycles_26 : decode cX0_isOddByCycles 26 = .ok (.iinc 4 1, 3) := by decide +kernel
theorem dX0_isOddByCycles_29 : decode cX0_isOddByCycles 29 = .ok (.iload 5, 2) := by decide +kernel
theorem dX0_isOddByCycles_31 : decode cX0_isOddByCycles 31 = .ok (.istore 6, 2) := by decide +kernel
theorem dX0_isOddByCycles_33 : decode cX0_isOddByCycles 33 = .ok (.iconst 0, 1) := by decide +kernel
theorem dX0_isOddByCycles_34 : decode cX0_isOddByCycles 34 = .ok (.istore 7, 2) := by decide +kernel
theorem dX0_isOddByCycles_36 : decode cX0_isOddByCycles 36 = .ok (.iload 7, 2) := by decide +kernel
theorem dX0_isOddByCycles_38 : decode cX0_isOddByCycles 38 = .ok (.aload_n 0, 1) := by decide +kernel
theorem dX0_isOddByCycles_39 : decode cX0_isOddByCycles 39 = .ok (.invokevirtual 46, 3) := by decide +kernel
theorem dX0_isOddByCycles_42 : decode cX0_isOddByCycles 42 = .ok (.if_icmp .ge 46, 3) := by decide +kernel
theorem dX0_isOddByCycles_45 : decode cX0_isOddByCycles 45 = .ok (.iload 6, 2) := by decide +kernel
theorem dX0_isOddByCycles_47 : decode cX0_isOddByCycles 47 = .ok (.ifCond .lt 41, 3) := by decide +kernel
theorem dX0_isOddByCycles_50 : decode cX0_isOddByCycles 50 = .ok (.iload_n 3, 1) := by decide +kernel
theorem dX0_isOddByCycles_51 : decode cX0_isOddByCycles 51 = .ok (.iload 6, 2) := by decide +kernel
theorem dX0_isOddByCycles_53 : decode cX0_isOddByCycles 53 = .ok (.ishr, 1) := by decide +kernel
theorem dX0_isOddByCycles_54 : decode cX0_isOddByCycles 54 = .ok (.iconst 1, 1) := by decide +kernel
theorem dX0_isOddByCycles_55 : decode cX0_isOddByCycles 55 = .ok (.iand, 1) := by decide +kernel
theorem dX0_isOddByCycles_56 : decode cX0_isOddByCycles 56 = .ok (.ifCond .ne 32, 3) := by decide +kernel
theorem dX0_isOddByCycles_59 : decode cX0_isOddByCycles 59 = .ok (.iload_n 3, 1) := by decide +kernel
theorem dX0_isOddByCycles_60 : decode cX0_isOddByCycles 60 = .ok (.iconst 1, 1) := by decide +kernel
theorem dX0_isOddByCycles_61 : decode cX0_isOddByCycles 61 = .ok (.iload 6, 2) := by decide +kernel
theorem dX0_isOddByCycles_63 : decode cX0_isOddByCycles 63 = .ok (.ishl, 1) := by decide +kernel
theorem dX0_isOddByCycles_64 : decode cX0_isOddByCycles 64 = .ok (.ior, 1) := by decide +kernel
theorem dX0_isOddByCycles_65 : decode cX0_isOddByCycles 65 = .ok (.istore_n 3, 1) := by decide +kernel
theorem dX0_isOddByCycles_66 : decode cX0_isOddByCycles 66 = .ok (.aload_n 0, 1) := by decide +kernel
theorem dX0_isOddByCycles_67 : decode cX0_isOddByCycles 67 = .ok (.lload_n 1, 1) := by decide +kernel
theorem dX0_isOddByCycles_68 : decode cX0_isOddByCycles 68 = .ok (.aload_n 0, 1) := by decide +kernel
theorem dX0_isOddByCycles_69 : decode cX0_isOddByCycles 69 = .ok (.getfield 18, 3) := by decide +kernel
theorem dX0_isOddByCycles_72 : decode cX0_isOddByCycles 72 = .ok (.iload 6, 2) := by decide +kernel
theorem dX0_isOddByCycles_74 : decode cX0_isOddByCycles 74 = .ok (.invokestatic 98, 3) := by decide +kernel
theorem dX0_isOddByCycles_77 : decode cX0_isOddByCycles 77 = .ok (.invokevirtual 125, 3) := by decide +kernel
theorem dX0_isOddByCycles_80 : decode cX0_isOddByCycles 80 = .ok (.istore 6, 2) := by decide +kernel
theorem dX0_isOddByCycles_82 : decode cX0_isOddByCycles 82 = .ok (.iinc 7 1, 3) := by decide +kernel
theorem dX0_isOddByCycles_85 : decode cX0_isOddByCycles 85 = .ok (.goto (-49), 3) := by decide +kernel
theorem dX0_isOddByCycles_88 : decode cX0_isOddByCycles 88 = .ok (.iinc 5 1, 3) := by decide +kernel
theorem dX0_isOddByCycles_91 : decode cX0_isOddByCycles 91 = .ok (.goto (-83), 3) := by decide +kernel
theorem dX0_isOddByCycles_94 : decode cX0_isOddByCycles 94 = .ok (.aload_n 0, 1) := by decide +kernel
theorem dX0_isOddByCycles_95 : decode cX0_isOddByCycles 95 = .ok (.invokevirtual 46, 3) := by decide +kernel
theorem dX0_isOddByCycles_98 : decode cX0_isOddByCycles 98 = .ok (.iload 4, 2) := by decide +kernel
theorem dX0_isOddByCycles_100 : decode cX0_isOddByCycles 100 = .ok (.isub, 1) := by decide +kernel
theorem dX0_isOddByCycles_101 : decode cX0_isOddByCycles 101 = .ok (.iconst 2, 1) := by decide +kernel
theorem dX0_isOddByCycles_102 : decode cX0_isOddByCycles 102 = .ok (.irem, 1) := by decide +kernel
theorem dX0_isOddByCycles_103 : decode cX0_isOddByCycles 103 = .ok (.ifCond .eq 7, 3) := by decide +kernel
theorem dX0_isOddByCycles_106 : decode cX0_isOddByCycles 106 = .ok (.iconst 1, 1) := by decide +kernel
theorem dX0_isOddByCycles_107 : decode cX0_isOddByCycles 107 = .ok (.goto 4, 3) := by decide +kernel
theorem dX0_isOddByCycles_110 : decode cX0_isOddByCycles 110 = .ok (.iconst 0, 1) := by decide +kernel
theorem dX0_isOddByCycles_111 : decode cX0_isOddByCycles 111 = .ok (.ireturn, 1) := by decide +kernel
theorem dX0_isOddByPairs_0 : decode cX0_isOddByPairs 0 = .ok (.iconst 0, 1) := by decide +kernel
theorem dX0_isOddByPairs_1 : decode cX0_isOddByPairs 1 = .ok (.istore_n 3, 1) := by decide +kernel
theorem dX0_isOddByPairs_2 : decode cX0_isOddByPairs 2 = .ok (.iconst 0, 1) := by decide +kernel
theorem dX0_isOddByPairs_3 : decode cX0_isOddByPairs 3 = .ok (.istore 4, 2) := by decide +kernel
theorem dX0_isOddByPairs_5 : decode cX0_isOddByPairs 5 = .ok (.iload 4, 2) := by decide +kernel
theorem dX0_isOddByPairs_7 : decode cX0_isOddByPairs 7 = .ok (.aload_n 0, 1) := by decide +kernel
theorem dX0_isOddByPairs_8 : decode cX0_isOddByPairs 8 = .ok (.invokevirtual 46, 3) := by decide +kernel
theorem dX0_isOddByPairs_11 : decode cX0_isOddByPairs 11 = .ok (.if_icmp .ge 75, 3) := by decide +kernel
theorem dX0_isOddByPairs_14 : decode cX0_isOddByPairs 14 = .ok (.aload_n 0, 1) := by decide +kernel
theorem dX0_isOddByPairs_15 : decode cX0_isOddByPairs 15 = .ok (.lload_n 1, 1) := by decide +kernel
theorem dX0_isOddByPairs_16 : decode cX0_isOddByPairs 16 = .ok (.aload_n 0, 1) := by decide +kernel
theorem dX0_isOddByPairs_17 : decode cX0_isOddByPairs 17 = .ok (.getfield 18, 3) := by decide +kernel
theorem dX0_isOddByPairs_20 : decode cX0_isOddByPairs 20 = .ok (.iload 4, 2) := by decide +kernel
theorem dX0_isOddByPairs_22 : decode cX0_isOddByPairs 22 = .ok (.invokestatic 98, 3) := by decide +kernel
theorem dX0_isOddByPairs_25 : decode cX0_isOddByPairs 25 = .ok (.invokevirtual 125, 3) := by decide +kernel
theorem dX0_isOddByPairs_28 : decode cX0_isOddByPairs 28 = .ok (.istore 5, 2) := by decide +kernel
theorem dX0_isOddByPairs_30 : decode cX0_isOddByPairs 30 = .ok (.iload 4, 2) := by decide +kernel
theorem dX0_isOddByPairs_32 : decode cX0_isOddByPairs 32 = .ok (.iconst 1, 1) := by decide +kernel
theorem dX0_isOddByPairs_33 : decode cX0_isOddByPairs 33 = .ok (.iadd, 1) := by decide +kernel
theorem dX0_isOddByPairs_34 : decode cX0_isOddByPairs 34 = .ok (.istore 6, 2) := by decide +kernel
theorem dX0_isOddByPairs_36 : decode cX0_isOddByPairs 36 = .ok (.iload 6, 2) := by decide +kernel
theorem dX0_isOddByPairs_38 : decode cX0_isOddByPairs 38 = .ok (.aload_n 0, 1) := by decide +kernel
theorem dX0_isOddByPairs_39 : decode cX0_isOddByPairs 39 = .ok (.invokevirtual 46, 3) := by decide +kernel
theorem dX0_isOddByPairs_42 : decode cX0_isOddByPairs 42 = .ok (.if_icmp .ge 38, 3) := by decide +kernel
theorem dX0_isOddByPairs_45 : decode cX0_isOddByPairs 45 = .ok (.iload 5, 2) := by decide +kernel
theorem dX0_isOddByPairs_47 : decode cX0_isOddByPairs 47 = .ok (.aload_n 0, 1) := by decide +kernel
theorem dX0_isOddByPairs_48 : decode cX0_isOddByPairs 48 = .ok (.lload_n 1, 1) := by decide +kernel
theorem dX0_isOddByPairs_49 : decode cX0_isOddByPairs 49 = .ok (.aload_n 0, 1) := by decide +kernel
theorem dX0_isOddByPairs_50 : decode cX0_isOddByPairs 50 = .ok (.getfield 18, 3) := by decide +kernel
theorem dX0_isOddByPairs_53 : decode cX0_isOddByPairs 53 = .ok (.iload 6, 2) := by decide +kernel
theorem dX0_isOddByPairs_55 : decode cX0_isOddByPairs 55 = .ok (.invokestatic 98, 3) := by decide +kernel
theorem dX0_isOddByPairs_58 : decode cX0_isOddByPairs 58 = .ok (.invokevirtual 125, 3) := by decide +kernel
theorem dX0_isOddByPairs_61 : decode cX0_isOddByPairs 61 = .ok (.if_icmp .le 13, 3) := by decide +kernel
theorem dX0_isOddByPairs_64 : decode cX0_isOddByPairs 64 = .ok (.iload_n 3, 1) := by decide +kernel
theorem dX0_isOddByPairs_65 : decode cX0_isOddByPairs 65 = .ok (.ifCond .ne 7, 3) := by decide +kernel
theorem dX0_isOddByPairs_68 : decode cX0_isOddByPairs 68 = .ok (.iconst 1, 1) := by decide +kernel
theorem dX0_isOddByPairs_69 : decode cX0_isOddByPairs 69 = .ok (.goto 4, 3) := by decide +kernel
theorem dX0_isOddByPairs_72 : decode cX0_isOddByPairs 72 = .ok (.iconst 0, 1) := by decide +kernel
theorem dX0_isOddByPairs_73 : decode cX0_isOddByPairs 73 = .ok (.istore_n 3, 1) := by decide +kernel
theorem dX0_isOddByPairs_74 : decode cX0_isOddByPairs 74 = .ok (.iinc 6 1, 3) := by decide +kernel
theorem dX0_isOddByPairs_77 : decode cX0_isOddByPairs 77 = .ok (.goto (-41), 3) := by decide +kernel
theorem dX0_isOddByPairs_80 : decode cX0_isOddByPairs 80 = .ok (.iinc 4 1, 3) := by decide +kernel
theorem dX0_isOddByPairs_83 : decode cX0_isOddByPairs 83 = .ok (.goto (-78), 3) := by decide +kernel
theorem dX0_isOddByPairs_86 : decode cX0_isOddByPairs 86 = .ok (.iload_n 3, 1) := by decide +kernel
theorem dX0_isOddByPairs_87 : decode cX0_isOddByPairs 87 = .ok (.ireturn, 1) := by decide +kernel
theorem dX0_bestTurn_0 : decode cX0_bestTurn 0 = .ok (.iconst (-1), 1) := by decide +kernel
theorem dX0_bestTurn_1 : decode cX0_bestTurn 1 = .ok (.istore_n 1, 1) := by decide +kernel
theorem dX0_bestTurn_2 : decode cX0_bestTurn 2 = .ok (.iconst (-1), 1) := by decide +kernel
theorem dX0_bestTurn_3 : decode cX0_bestTurn 3 = .ok (.istore_n 2, 1) := by decide +kernel
theorem dX0_bestTurn_4 : decode cX0_bestTurn 4 = .ok (.iconst 0, 1) := by decide +kernel
theorem dX0_bestTurn_5 : decode cX0_bestTurn 5 = .ok (.istore_n 3, 1) := by decide +kernel
theorem dX0_bestTurn_6 : decode cX0_bestTurn 6 = .ok (.iload_n 3, 1) := by decide +kernel
theorem dX0_bestTurn_7 : decode cX0_bestTurn 7 = .ok (.aload_n 0, 1) := by decide +kernel
theorem dX0_bestTurn_8 : decode cX0_bestTurn 8 = .ok (.invokevirtual 57, 3) := by decide +kernel
theorem dX0_bestTurn_11 : decode cX0_bestTurn 11 = .ok (.if_icmp .ge 47, 3) := by decide +kernel
theorem dX0_bestTurn_14 : decode cX0_bestTurn 14 = .ok (.aload_n 0, 1) := by decide +kernel
theorem dX0_bestTurn_15 : decode cX0_bestTurn 15 = .ok (.iload_n 3, 1) := by decide +kernel
theorem dX0_bestTurn_16 : decode cX0_bestTurn 16 = .ok (.invokevirtual 102, 3) := by decide +kernel
theorem dX0_bestTurn_19 : decode cX0_bestTurn 19 = .ok (.ifCond .eq 19, 3) := by decide +kernel
theorem dX0_bestTurn_22 : decode cX0_bestTurn 22 = .ok (.aload_n 0, 1) := by decide +kernel
theorem dX0_bestTurn_23 : decode cX0_bestTurn 23 = .ok (.aload_n 0, 1) := by decide +kernel
theorem dX0_bestTurn_24 : decode cX0_bestTurn 24 = .ok (.aload_n 0, 1) := by decide +kernel
theorem dX0_bestTurn_25 : decode cX0_bestTurn 25 = .ok (.getfield 18, 3) := by decide +kernel
theorem dX0_bestTurn_28 : decode cX0_bestTurn 28 = .ok (.iload_n 3, 1) := by decide +kernel
theorem dX0_bestTurn_29 : decode cX0_bestTurn 29 = .ok (.invokevirtual 86, 3) := by decide +kernel
theorem dX0_bestTurn_32 : decode cX0_bestTurn 32 = .ok (.invokevirtual 128, 3) := by decide +kernel
theorem dX0_bestTurn_35 : decode cX0_bestTurn 35 = .ok (.goto 4, 3) := by decide +kernel
theorem dX0_bestTurn_38 : decode cX0_bestTurn 38 = .ok (.iconst (-1), 1) := by decide +kernel
theorem dX0_bestTurn_39 : decode cX0_bestTurn 39 = .ok (.istore 4, 2) := by decide +kernel
theorem dX0_bestTurn_41 : decode cX0_bestTurn 41 = .ok (.iload 4, 2) := by decide +kernel
theorem dX0_bestTurn_43 : decode cX0_bestTurn 43 = .ok (.iload_n 2, 1) := by decide +kernel
theorem dX0_bestTurn_44 : decode cX0_bestTurn 44 = .ok (.if_icmp .le 8, 3) := by decide +kernel
theorem dX0_bestTurn_47 : decode cX0_bestTurn 47 = .ok (.iload 4, 2) := by decide +kernel
theorem dX0_bestTurn_49 : decode cX0_bestTurn 49 = .ok (.istore_n 2, 1) := by decide +kernel
theorem dX0_bestTurn_50 : decode cX0_bestTurn 50 = .ok (.iload_n 3, 1) := by decide +kernel
theorem dX0_bestTurn_51 : decode cX0_bestTurn 51 = .ok (.istore_n 1, 1) := by decide +kernel
theorem dX0_bestTurn_52 : decode cX0_bestTurn 52 = .ok (.iinc 3 1, 3) := by decide +kernel
theorem dX0_bestTurn_55 : decode cX0_bestTurn 55 = .ok (.goto (-49), 3) := by decide +kernel
theorem dX0_bestTurn_58 : decode cX0_bestTurn 58 = .ok (.iload_n 1, 1) := by decide +kernel
theorem dX0_bestTurn_59 : decode cX0_bestTurn 59 = .ok (.ireturn, 1) := by decide +kernel
theorem dX0_placeBehind_0 : decode cX0_placeBehind 0 = .ok (.ldc2_w 82, 3) := by decide +kernel
theorem dX0_placeBehind_3 : decode cX0_placeBehind 3 = .ok (.iconst 4, 1) := by decide +kernel
theorem dX0_placeBehind_4 : decode cX0_placeBehind 4 = .ok (.iload_n 1, 1) := by decide +kernel
theorem dX0_placeBehind_5 : decode cX0_placeBehind 5 = .ok (.imul, 1) := by decide +kernel
theorem dX0_placeBehind_6 : decode cX0_placeBehind 6 = .ok (.lshl, 1) := by decide +kernel
theorem dX0_placeBehind_7 : decode cX0_placeBehind 7 = .ok (.lstore 4, 2) := by decide +kernel
theorem dX0_placeBehind_9 : decode cX0_placeBehind 9 = .ok (.iconst 0, 1) := by decide +kernel
theorem dX0_placeBehind_10 : decode cX0_placeBehind 10 = .ok (.istore 6, 2) := by decide +kernel
theorem dX0_placeBehind_12 : decode cX0_placeBehind 12 = .ok (.iload 6, 2) := by decide +kernel
theorem dX0_placeBehind_14 : decode cX0_placeBehind 14 = .ok (.iload_n 3, 1) := by decide +kernel
theorem dX0_placeBehind_15 : decode cX0_placeBehind 15 = .ok (.if_icmp .ge 18, 3) := by decide +kernel
theorem dX0_placeBehind_18 : decode cX0_placeBehind 18 = .ok (.aload_n 0, 1) := by decide +kernel
theorem dX0_placeBehind_19 : decode cX0_placeBehind 19 = .ok (.lload 4, 2) := by decide +kernel
theorem dX0_placeBehind_21 : decode cX0_placeBehind 21 = .ok (.iload_n 2, 1) := by decide +kernel
theorem dX0_placeBehind_22 : decode cX0_placeBehind 22 = .ok (.invokevirtual 86, 3) := by decide +kernel
theorem dX0_placeBehind_25 : decode cX0_placeBehind 25 = .ok (.lstore 4, 2) := by decide +kernel
theorem dX0_placeBehind_27 : decode cX0_placeBehind 27 = .ok (.iinc 6 1, 3) := by decide +kernel
theorem dX0_placeBehind_30 : decode cX0_placeBehind 30 = .ok (.goto (-18), 3) := by decide +kernel
theorem dX0_placeBehind_33 : decode cX0_placeBehind 33 = .ok (.aload_n 0, 1) := by decide +kernel
theorem dX0_placeBehind_34 : decode cX0_placeBehind 34 = .ok (.lload 4, 2) := by decide +kernel
theorem dX0_placeBehind_36 : decode cX0_placeBehind 36 = .ok (.bipush 15, 2) := by decide +kernel
theorem dX0_placeBehind_38 : decode cX0_placeBehind 38 = .ok (.invokevirtual 125, 3) := by decide +kernel
theorem dX0_placeBehind_41 : decode cX0_placeBehind 41 = .ok (.ireturn, 1) := by decide +kernel
theorem dX0_distance_0 : decode cX0_distance 0 = .ok (.aload_n 0, 1) := by decide +kernel
theorem dX0_distance_1 : decode cX0_distance 1 = .ok (.iload_n 1, 1) := by decide +kernel
theorem dX0_distance_2 : decode cX0_distance 2 = .ok (.invokevirtual 70, 3) := by decide +kernel
theorem dX0_distance_5 : decode cX0_distance 5 = .ok (.aload_n 0, 1) := by decide +kernel
theorem dX0_distance_6 : decode cX0_distance 6 = .ok (.iload_n 2, 1) := by decide +kernel
theorem dX0_distance_7 : decode cX0_distance 7 = .ok (.invokevirtual 70, 3) := by decide +kernel
theorem dX0_distance_10 : decode cX0_distance 10 = .ok (.isub, 1) := by decide +kernel
theorem dX0_distance_11 : decode cX0_distance 11 = .ok (.invokestatic 132, 3) := by decide +kernel
theorem dX0_distance_14 : decode cX0_distance 14 = .ok (.istore_n 3, 1) := by decide +kernel
theorem dX0_distance_15 : decode cX0_distance 15 = .ok (.aload_n 0, 1) := by decide +kernel
theorem dX0_distance_16 : decode cX0_distance 16 = .ok (.iload_n 1, 1) := by decide +kernel
theorem dX0_distance_17 : decode cX0_distance 17 = .ok (.invokevirtual 137, 3) := by decide +kernel
theorem dX0_distance_20 : decode cX0_distance 20 = .ok (.aload_n 0, 1) := by decide +kernel
theorem dX0_distance_21 : decode cX0_distance 21 = .ok (.iload_n 2, 1) := by decide +kernel
theorem dX0_distance_22 : decode cX0_distance 22 = .ok (.invokevirtual 137, 3) := by decide +kernel
theorem dX0_distance_25 : decode cX0_distance 25 = .ok (.isub, 1) := by decide +kernel
theorem dX0_distance_26 : decode cX0_distance 26 = .ok (.invokestatic 132, 3) := by decide +kernel
theorem dX0_distance_29 : decode cX0_distance 29 = .ok (.istore 4, 2) := by decide +kernel
theorem dX0_distance_31 : decode cX0_distance 31 = .ok (.iload_n 3, 1) := by decide +kernel
theorem dX0_distance_32 : decode cX0_distance 32 = .ok (.aload_n 0, 1) := by decide +kernel
theorem dX0_distance_33 : decode cX0_distance 33 = .ok (.getfield 9, 3) := by decide +kernel
theorem dX0_distance_36 : decode cX0_distance 36 = .ok (.iload_n 3, 1) := by decide +kernel
theorem dX0_distance_37 : decode cX0_distance 37 = .ok (.isub, 1) := by decide +kernel
theorem dX0_distance_38 : decode cX0_distance 38 = .ok (.invokestatic 140, 3) := by decide +kernel
theorem dX0_distance_41 : decode cX0_distance 41 = .ok (.iload 4, 2) := by decide +kernel
theorem dX0_distance_43 : decode cX0_distance 43 = .ok (.aload_n 0, 1) := by decide +kernel
theorem dX0_distance_44 : decode cX0_distance 44 = .ok (.getfield 15, 3) := by decide +kernel
theorem dX0_distance_47 : decode cX0_distance 47 = .ok (.iload 4, 2) := by decide +kernel
theorem dX0_distance_49 : decode cX0_distance 49 = .ok (.isub, 1) := by decide +kernel
theorem dX0_distance_50 : decode cX0_distance 50 = .ok (.invokestatic 140, 3) := by decide +kernel
theorem dX0_distance_53 : decode cX0_distance 53 = .ok (.iadd, 1) := by decide +kernel
theorem dX0_distance_54 : decode cX0_distance 54 = .ok (.ireturn, 1) := by decide +kernel
theorem dX0_isVowelOn_0 : decode cX0_isVowelOn 0 = .ok (.aload_n 0, 1) := by decide +kernel
theorem dX0_isVowelOn_1 : decode cX0_isVowelOn 1 = .ok (.getfield 18, 3) := by decide +kernel
theorem dX0_isVowelOn_4 : decode cX0_isVowelOn 4 = .ok (.aload_n 0, 1) := by decide +kernel
theorem dX0_isVowelOn_5 : decode cX0_isVowelOn 5 = .ok (.iload_n 1, 1) := by decide +kernel
theorem dX0_isVowelOn_6 : decode cX0_isVowelOn 6 = .ok (.iload_n 2, 1) := by decide +kernel
theorem dX0_isVowelOn_7 : decode cX0_isVowelOn 7 = .ok (.invokevirtual 144, 3) := by decide +kernel
theorem dX0_isVowelOn_10 : decode cX0_isVowelOn 10 = .ok (.invokestatic 98, 3) := by decide +kernel
theorem dX0_isVowelOn_13 : decode cX0_isVowelOn 13 = .ok (.invokestatic 147, 3) := by decide +kernel
theorem dX0_isVowelOn_16 : decode cX0_isVowelOn 16 = .ok (.invokestatic 151, 3) := by decide +kernel
theorem dX0_isVowelOn_19 : decode cX0_isVowelOn 19 = .ok (.ireturn, 1) := by decide +kernel
theorem dX0_vowelsOn_0 : decode cX0_vowelsOn 0 = .ok (.iconst 0, 1) := by decide +kernel
theorem dX0_vowelsOn_1 : decode cX0_vowelsOn 1 = .ok (.istore_n 2, 1) := by decide +kernel
theorem dX0_vowelsOn_2 : decode cX0_vowelsOn 2 = .ok (.iconst 0, 1) := by decide +kernel
theorem dX0_vowelsOn_3 : decode cX0_vowelsOn 3 = .ok (.istore_n 3, 1) := by decide +kernel
theorem dX0_vowelsOn_4 : decode cX0_vowelsOn 4 = .ok (.iload_n 3, 1) := by decide +kernel
theorem dX0_vowelsOn_5 : decode cX0_vowelsOn 5 = .ok (.aload_n 0, 1) := by decide +kernel
theorem dX0_vowelsOn_6 : decode cX0_vowelsOn 6 = .ok (.iload_n 1, 1) := by decide +kernel
theorem dX0_vowelsOn_7 : decode cX0_vowelsOn 7 = .ok (.invokevirtual 79, 3) := by decide +kernel
theorem dX0_vowelsOn_10 : decode cX0_vowelsOn 10 = .ok (.if_icmp .ge 21, 3) := by decide +kernel
theorem dX0_vowelsOn_13 : decode cX0_vowelsOn 13 = .ok (.aload_n 0, 1) := by decide +kernel
theorem dX0_vowelsOn_14 : decode cX0_vowelsOn 14 = .ok (.iload_n 1, 1) := by decide +kernel
theorem dX0_vowelsOn_15 : decode cX0_vowelsOn 15 = .ok (.iload_n 3, 1) := by decide +kernel
theorem dX0_vowelsOn_16 : decode cX0_vowelsOn 16 = .ok (.invokevirtual 155, 3) := by decide +kernel
theorem dX0_vowelsOn_19 : decode cX0_vowelsOn 19 = .ok (.ifCond .eq 6, 3) := by decide +kernel
theorem dX0_vowelsOn_22 : decode cX0_vowelsOn 22 = .ok (.iinc 2 1, 3) := by decide +kernel
theorem dX0_vowelsOn_25 : decode cX0_vowelsOn 25 = .ok (.iinc 3 1, 3) := by decide +kernel
theorem dX0_vowelsOn_28 : decode cX0_vowelsOn 28 = .ok (.goto (-24), 3) := by decide +kernel
theorem dX0_vowelsOn_31 : decode cX0_vowelsOn 31 = .ok (.iload_n 2, 1) := by decide +kernel
theorem dX0_vowelsOn_32 : decode cX0_vowelsOn 32 = .ok (.ireturn, 1) := by decide +kernel
theorem dX0_vowels_0 : decode cX0_vowels 0 = .ok (.iconst 0, 1) := by decide +kernel
theorem dX0_vowels_1 : decode cX0_vowels 1 = .ok (.istore_n 1, 1) := by decide +kernel
theorem dX0_vowels_2 : decode cX0_vowels 2 = .ok (.iconst 0, 1) := by decide +kernel
theorem dX0_vowels_3 : decode cX0_vowels 3 = .ok (.istore_n 2, 1) := by decide +kernel
theorem dX0_vowels_4 : decode cX0_vowels 4 = .ok (.iload_n 2, 1) := by decide +kernel
theorem dX0_vowels_5 : decode cX0_vowels 5 = .ok (.aload_n 0, 1) := by decide +kernel
theorem dX0_vowels_6 : decode cX0_vowels 6 = .ok (.getfield 9, 3) := by decide +kernel
theorem dX0_vowels_9 : decode cX0_vowels 9 = .ok (.if_icmp .ge 17, 3) := by decide +kernel
theorem dX0_vowels_12 : decode cX0_vowels 12 = .ok (.iload_n 1, 1) := by decide +kernel
theorem dX0_vowels_13 : decode cX0_vowels 13 = .ok (.aload_n 0, 1) := by decide +kernel
theorem dX0_vowels_14 : decode cX0_vowels 14 = .ok (.iload_n 2, 1) := by decide +kernel
theorem dX0_vowels_15 : decode cX0_vowels 15 = .ok (.invokevirtual 159, 3) := by decide +kernel
theorem dX0_vowels_18 : decode cX0_vowels 18 = .ok (.iadd, 1) := by decide +kernel
theorem dX0_vowels_19 : decode cX0_vowels 19 = .ok (.istore_n 1, 1) := by decide +kernel
theorem dX0_vowels_20 : decode cX0_vowels 20 = .ok (.iinc 2 1, 3) := by decide +kernel
theorem dX0_vowels_23 : decode cX0_vowels 23 = .ok (.goto (-19), 3) := by decide +kernel
theorem dX0_vowels_26 : decode cX0_vowels 26 = .ok (.iload_n 1, 1) := by decide +kernel
theorem dX0_vowels_27 : decode cX0_vowels 27 = .ok (.ireturn, 1) := by decide +kernel
theorem dX0_hasSong_0 : decode cX0_hasSong 0 = .ok (.aload_n 0, 1) := by decide +kernel
theorem dX0_hasSong_1 : decode cX0_hasSong 1 = .ok (.iload_n 1, 1) := by decide +kernel
theorem dX0_hasSong_2 : decode cX0_hasSong 2 = .ok (.invokevirtual 79, 3) := by decide +kernel
theorem dX0_hasSong_5 : decode cX0_hasSong 5 = .ok (.iconst 1, 1) := by decide +kernel
theorem dX0_hasSong_6 : decode cX0_hasSong 6 = .ok (.isub, 1) := by decide +kernel
theorem dX0_hasSong_7 : decode cX0_hasSong 7 = .ok (.istore_n 2, 1) := by decide +kernel
theorem dX0_hasSong_8 : decode cX0_hasSong 8 = .ok (.iconst 0, 1) := by decide +kernel
theorem dX0_hasSong_9 : decode cX0_hasSong 9 = .ok (.istore_n 3, 1) := by decide +kernel
theorem dX0_hasSong_10 : decode cX0_hasSong 10 = .ok (.iload_n 3, 1) := by decide +kernel
theorem dX0_hasSong_11 : decode cX0_hasSong 11 = .ok (.iload_n 2, 1) := by decide +kernel
theorem dX0_hasSong_12 : decode cX0_hasSong 12 = .ok (.if_icmp .gt 40, 3) := by decide +kernel
theorem dX0_hasSong_15 : decode cX0_hasSong 15 = .ok (.aload_n 0, 1) := by decide +kernel
theorem dX0_hasSong_16 : decode cX0_hasSong 16 = .ok (.iload_n 1, 1) := by decide +kernel
theorem dX0_hasSong_17 : decode cX0_hasSong 17 = .ok (.iload_n 3, 1) := by decide +kernel
theorem dX0_hasSong_18 : decode cX0_hasSong 18 = .ok (.invokevirtual 155, 3) := by decide +kernel
theorem dX0_hasSong_21 : decode cX0_hasSong 21 = .ok (.ifCond .eq 25, 3) := by decide +kernel
theorem dX0_hasSong_24 : decode cX0_hasSong 24 = .ok (.aload_n 0, 1) := by decide +kernel
theorem dX0_hasSong_25 : decode cX0_hasSong 25 = .ok (.iload_n 1, 1) := by decide +kernel
theorem dX0_hasSong_26 : decode cX0_hasSong 26 = .ok (.iload_n 3, 1) := by decide +kernel
theorem dX0_hasSong_27 : decode cX0_hasSong 27 = .ok (.iload_n 2, 1) := by decide +kernel
theorem dX0_hasSong_28 : decode cX0_hasSong 28 = .ok (.if_icmp .ne 7, 3) := by decide +kernel
theorem dX0_hasSong_31 : decode cX0_hasSong 31 = .ok (.iconst 0, 1) := by decide +kernel
theorem dX0_hasSong_32 : decode cX0_hasSong 32 = .ok (.goto 6, 3) := by decide +kernel
theorem dX0_hasSong_35 : decode cX0_hasSong 35 = .ok (.iload_n 3, 1) := by decide +kernel
theorem dX0_hasSong_36 : decode cX0_hasSong 36 = .ok (.iconst 1, 1) := by decide +kernel
theorem dX0_hasSong_37 : decode cX0_hasSong 37 = .ok (.iadd, 1) := by decide +kernel
theorem dX0_hasSong_38 : decode cX0_hasSong 38 = .ok (.invokevirtual 155, 3) := by decide +kernel
theorem dX0_hasSong_41 : decode cX0_hasSong 41 = .ok (.ifCond .eq 5, 3) := by decide +kernel
theorem dX0_hasSong_44 : decode cX0_hasSong 44 = .ok (.iconst 0, 1) := by decide +kernel
theorem dX0_hasSong_45 : decode cX0_hasSong 45 = .ok (.ireturn, 1) := by decide +kernel
theorem dX0_hasSong_46 : decode cX0_hasSong 46 = .ok (.iinc 3 1, 3) := by decide +kernel
theorem dX0_hasSong_49 : decode cX0_hasSong 49 = .ok (.goto (-39), 3) := by decide +kernel
theorem dX0_hasSong_52 : decode cX0_hasSong 52 = .ok (.aload_n 0, 1) := by decide +kernel
theorem dX0_hasSong_53 : decode cX0_hasSong 53 = .ok (.iload_n 1, 1) := by decide +kernel
theorem dX0_hasSong_54 : decode cX0_hasSong 54 = .ok (.invokevirtual 159, 3) := by decide +kernel
theorem dX0_hasSong_57 : decode cX0_hasSong 57 = .ok (.ifCond .le 7, 3) := by decide +kernel
theorem dX0_hasSong_60 : decode cX0_hasSong 60 = .ok (.iconst 1, 1) := by decide +kernel
theorem dX0_hasSong_61 : decode cX0_hasSong 61 = .ok (.goto 4, 3) := by decide +kernel
theorem dX0_hasSong_64 : decode cX0_hasSong 64 = .ok (.iconst 0, 1) := by decide +kernel
theorem dX0_hasSong_65 : decode cX0_hasSong 65 = .ok (.ireturn, 1) := by decide +kernel
theorem dX0_lineByVowels_0 : decode cX0_lineByVowels 0 = .ok (.iconst 0, 1) := by decide +kernel
theorem dX0_lineByVowels_1 : decode cX0_lineByVowels 1 = .ok (.istore_n 2, 1) := by decide +kernel
theorem dX0_lineByVowels_2 : decode cX0_lineByVowels 2 = .ok (.iconst 3, 1) := by decide +kernel
theorem dX0_lineByVowels_3 : decode cX0_lineByVowels 3 = .ok (.istore_n 3, 1) := by decide +kernel
theorem dX0_lineByVowels_4 : decode cX0_lineByVowels 4 = .ok (.iload_n 3, 1) := by decide +kernel
theorem dX0_lineByVowels_5 : decode cX0_lineByVowels 5 = .ok (.ifCond .lt 48, 3) := by decide +kernel
theorem dX0_lineByVowels_8 : decode cX0_lineByVowels 8 = .ok (.iconst 0, 1) := by decide +kernel
theorem dX0_lineByVowels_9 : decode cX0_lineByVowels 9 = .ok (.istore 4, 2) := by decide +kernel
theorem dX0_lineByVowels_11 : decode cX0_lineByVowels 11 = .ok (.iload 4, 2) := by decide +kernel
theorem dX0_lineByVowels_13 : decode cX0_lineByVowels 13 = .ok (.aload_n 0, 1) := by decide +kernel
theorem dX0_lineByVowels_14 : decode cX0_lineByVowels 14 = .ok (.invokevirtual 54, 3) := by decide +kernel
theorem dX0_lineByVowels_17 : decode cX0_lineByVowels 17 = .ok (.if_icmp .ge 30, 3) := by decide +kernel
theorem dX0_lineByVowels_20 : decode cX0_lineByVowels 20 = .ok (.aload_n 0, 1) := by decide +kernel
theorem dX0_lineByVowels_21 : decode cX0_lineByVowels 21 = .ok (.iload 4, 2) := by decide +kernel
theorem dX0_lineByVowels_23 : decode cX0_lineByVowels 23 = .ok (.invokevirtual 159, 3) := by decide +kernel
theorem dX0_lineByVowels_26 : decode cX0_lineByVowels 26 = .ok (.iload_n 3, 1) := by decide +kernel
theorem dX0_lineByVowels_27 : decode cX0_lineByVowels 27 = .ok (.if_icmp .ne 14, 3) := by decide +kernel
theorem dX0_lineByVowels_30 : decode cX0_lineByVowels 30 = .ok (.iload_n 2, 1) := by decide +kernel
theorem dX0_lineByVowels_31 : decode cX0_lineByVowels 31 = .ok (.iload_n 1, 1) := by decide +kernel
theorem dX0_lineByVowels_32 : decode cX0_lineByVowels 32 = .ok (.if_icmp .ne 6, 3) := by decide +kernel
theorem dX0_lineByVowels_35 : decode cX0_lineByVowels 35 = .ok (.iload 4, 2) := by decide +kernel
theorem dX0_lineByVowels_37 : decode cX0_lineByVowels 37 = .ok (.ireturn, 1) := by decide +kernel
theorem dX0_lineByVowels_38 : decode cX0_lineByVowels 38 = .ok (.iinc 2 1, 3) := by decide +kernel
theorem dX0_lineByVowels_41 : decode cX0_lineByVowels 41 = .ok (.iinc 4 1, 3) := by decide +kernel
theorem dX0_lineByVowels_44 : decode cX0_lineByVowels 44 = .ok (.goto (-33), 3) := by decide +kernel
theorem dX0_lineByVowels_47 : decode cX0_lineByVowels 47 = .ok (.iinc 3 (-1), 3) := by decide +kernel
theorem dX0_lineByVowels_50 : decode cX0_lineByVowels 50 = .ok (.goto (-46), 3) := by decide +kernel
theorem dX0_lineByVowels_53 : decode cX0_lineByVowels 53 = .ok (.iconst (-1), 1) := by decide +kernel
theorem dX0_lineByVowels_54 : decode cX0_lineByVowels 54 = .ok (.ireturn, 1) := by decide +kernel
theorem dX1_init_0 : decode cX1_init 0 = .ok (.aload_n 0, 1) := by decide +kernel
theorem dX1_init_1 : decode cX1_init 1 = .ok (.invokespecial 3, 3) := by decide +kernel
theorem dX1_init_4 : decode cX1_init 4 = .ok (.aload_n 0, 1) := by decide +kernel
theorem dX1_init_5 : decode cX1_init 5 = .ok (.sipush 157, 3) := by decide +kernel
theorem dX1_init_8 : decode cX1_init 8 = .ok (.newarray .long, 2) := by decide +kernel
theorem dX1_init_10 : decode cX1_init 10 = .ok (.putfield 9, 3) := by decide +kernel
theorem dX1_init_13 : decode cX1_init 13 = .ok (.aload_n 0, 1) := by decide +kernel
theorem dX1_init_14 : decode cX1_init 14 = .ok (.sipush 157, 3) := by decide +kernel
theorem dX1_init_17 : decode cX1_init 17 = .ok (.newarray .int, 2) := by decide +kernel
theorem dX1_init_19 : decode cX1_init 19 = .ok (.putfield 15, 3) := by decide +kernel
theorem dX1_init_22 : decode cX1_init 22 = .ok (.aload_n 0, 1) := by decide +kernel
theorem dX1_init_23 : decode cX1_init 23 = .ok (.bipush 13, 2) := by decide +kernel
theorem dX1_init_25 : decode cX1_init 25 = .ok (.newarray .long, 2) := by decide +kernel
theorem dX1_init_27 : decode cX1_init 27 = .ok (.putfield 19, 3) := by decide +kernel
theorem dX1_init_30 : decode cX1_init 30 = .ok (.aload_n 0, 1) := by decide +kernel
theorem dX1_init_31 : decode cX1_init 31 = .ok (.bipush 13, 2) := by decide +kernel
theorem dX1_init_33 : decode cX1_init 33 = .ok (.newarray .long, 2) := by decide +kernel
theorem dX1_init_35 : decode cX1_init 35 = .ok (.putfield 22, 3) := by decide +kernel
theorem dX1_init_38 : decode cX1_init 38 = .ok (.aload_n 0, 1) := by decide +kernel
theorem dX1_init_39 : decode cX1_init 39 = .ok (.iconst 0, 1) := by decide +kernel
theorem dX1_init_40 : decode cX1_init 40 = .ok (.putfield 25, 3) := by decide +kernel
theorem dX1_init_43 : decode cX1_init 43 = .ok (.aload_n 0, 1) := by decide +kernel
theorem dX1_init_44 : decode cX1_init 44 = .ok (.iconst 0, 1) := by decide +kernel
theorem dX1_init_45 : decode cX1_init 45 = .ok (.putfield 29, 3) := by decide +kernel
theorem dX1_init_48 : decode cX1_init 48 = .ok (.aload_n 0, 1) := by decide +kernel
theorem dX1_init_49 : decode cX1_init 49 = .ok (.iconst 4, 1) := by decide +kernel
theorem dX1_init_50 : decode cX1_init 50 = .ok (.putfield 32, 3) := by decide +kernel
theorem dX1_init_53 : decode cX1_init 53 = .ok (.aload_n 0, 1) := by decide +kernel
theorem dX1_init_54 : decode cX1_init 54 = .ok (.iconst (-1), 1) := by decide +kernel
theorem dX1_init_55 : decode cX1_init 55 = .ok (.putfield 35, 3) := by decide +kernel
theorem dX1_init_58 : decode cX1_init 58 = .ok (.return_, 1) := by decide +kernel
theorem dX1_search_0 : decode cX1_search 0 = .ok (.aload_n 0, 1) := by decide +kernel
theorem dX1_search_1 : decode cX1_search 1 = .ok (.iconst 4, 1) := by decide +kernel
theorem dX1_search_2 : decode cX1_search 2 = .ok (.putfield 32, 3) := by decide +kernel
theorem dX1_search_5 : decode cX1_search 5 = .ok (.aload_n 0, 1) := by decide +kernel
theorem dX1_search_6 : decode cX1_search 6 = .ok (.iconst (-1), 1) := by decide +kernel
theorem dX1_search_7 : decode cX1_search 7 = .ok (.putfield 35, 3) := by decide +kernel
theorem dX1_search_10 : decode cX1_search 10 = .ok (.aload_n 0, 1) := by decide +kernel
theorem dX1_search_11 : decode cX1_search 11 = .ok (.aload_n 1, 1) := by decide +kernel
theorem dX1_search_12 : decode cX1_search 12 = .ok (.invokevirtual 38, 3) := by decide +kernel
theorem dX1_search_15 : decode cX1_search 15 = .ok (.aload_n 0, 1) := by decide +kernel
theorem dX1_search_16 : decode cX1_search 16 = .ok (.iconst 0, 1) := by decide +kernel
theorem dX1_search_17 : decode cX1_search 17 = .ok (.putfield 25, 3) := by decide +kernel
theorem dX1_search_20 : decode cX1_search 20 = .ok (.aload_n 0, 1) := by decide +kernel
theorem dX1_search_21 : decode cX1_search 21 = .ok (.aload_n 1, 1) := by decide +kernel
theorem dX1_search_22 : decode cX1_search 22 = .ok (.getfield 42, 3) := by decide +kernel
theorem dX1_search_25 : decode cX1_search 25 = .ok (.iconst (-1), 1) := by decide +kernel
theorem dX1_search_26 : decode cX1_search 26 = .ok (.invokevirtual 48, 3) := by decide +kernel
theorem dX1_search_29 : decode cX1_search 29 = .ok (.aload_n 0, 1) := by decide +kernel
theorem dX1_search_30 : decode cX1_search 30 = .ok (.aload_n 1, 1) := by decide +kernel
theorem dX1_search_31 : decode cX1_search 31 = .ok (.iconst 0, 1) := by decide +kernel
theorem dX1_search_32 : decode cX1_search 32 = .ok (.iconst 1, 1) := by decide +kernel
theorem dX1_search_33 : decode cX1_search 33 = .ok (.invokevirtual 52, 3) := by decide +kernel
theorem dX1_search_36 : decode cX1_search 36 = .ok (.aload_n 0, 1) := by decide +kernel
theorem dX1_search_37 : decode cX1_search 37 = .ok (.getfield 25, 3) := by decide +kernel
theorem dX1_search_40 : decode cX1_search 40 = .ok (.istore_n 2, 1) := by decide +kernel
theorem dX1_search_41 : decode cX1_search 41 = .ok (.aload_n 0, 1) := by decide +kernel
theorem dX1_search_42 : decode cX1_search 42 = .ok (.aload_n 1, 1) := by decide +kernel
theorem dX1_search_43 : decode cX1_search 43 = .ok (.iconst 1, 1) := by decide +kernel
theorem dX1_search_44 : decode cX1_search 44 = .ok (.iload_n 2, 1) := by decide +kernel
theorem dX1_search_45 : decode cX1_search 45 = .ok (.invokevirtual 52, 3) := by decide +kernel
theorem dX1_search_48 : decode cX1_search 48 = .ok (.aload_n 0, 1) := by decide +kernel
theorem dX1_search_49 : decode cX1_search 49 = .ok (.iconst 0, 1) := by decide +kernel
theorem dX1_search_50 : decode cX1_search 50 = .ok (.iconst 0, 1) := by decide +kernel
theorem dX1_search_51 : decode cX1_search 51 = .ok (.iconst 1, 1) := by decide +kernel
theorem dX1_search_52 : decode cX1_search 52 = .ok (.iconst 0, 1) := by decide +kernel
theorem dX1_search_53 : decode cX1_search 53 = .ok (.iconst 1, 1) := by decide +kernel
theorem dX1_search_54 : decode cX1_search 54 = .ok (.invokevirtual 56, 3) := by decide +kernel
theorem dX1_search_57 : decode cX1_search 57 = .ok (.ifCond .ne 46, 3) := by decide +kernel
theorem dX1_search_60 : decode cX1_search 60 = .ok (.aload_n 0, 1) := by decide +kernel
theorem dX1_search_61 : decode cX1_search 61 = .ok (.iconst 1, 1) := by decide +kernel
theorem dX1_search_62 : decode cX1_search 62 = .ok (.iconst 1, 1) := by decide +kernel
theorem dX1_search_63 : decode cX1_search 63 = .ok (.iload_n 2, 1) := by decide +kernel
theorem dX1_search_64 : decode cX1_search 64 = .ok (.iconst 0, 1) := by decide +kernel
theorem dX1_search_65 : decode cX1_search 65 = .ok (.iconst 1, 1) := by decide +kernel
theorem dX1_search_66 : decode cX1_search 66 = .ok (.invokevirtual 56, 3) := by decide +kernel
theorem dX1_search_69 : decode cX1_search 69 = .ok (.ifCond .ne 34, 3) := by decide +kernel
theorem dX1_search_72 : decode cX1_search 72 = .ok (.aload_n 0, 1) := by decide +kernel
theorem dX1_search_73 : decode cX1_search 73 = .ok (.iconst 2, 1) := by decide +kernel
theorem dX1_search_74 : decode cX1_search 74 = .ok (.iload_n 2, 1) := by decide +kernel
theorem dX1_search_75 : decode cX1_search 75 = .ok (.aload_n 0, 1) := by decide +kernel
theorem dX1_search_76 : decode cX1_search 76 = .ok (.getfield 25, 3) := by decide +kernel
theorem dX1_search_79 : decode cX1_search 79 = .ok (.iconst 0, 1) := by decide +kernel
theorem dX1_search_80 : decode cX1_search 80 = .ok (.iconst 1, 1) := by decide +kernel
theorem dX1_search_81 : decode cX1_search 81 = .ok (.invokevirtual 56, 3) := by decide +kernel
theorem dX1_search_84 : decode cX1_search 84 = .ok (.ifCond .ne 19, 3) := by decide +kernel
theorem dX1_search_87 : decode cX1_search 87 = .ok (.aload_n 0, 1) := by decide +kernel
theorem dX1_search_88 : decode cX1_search 88 = .ok (.iconst 3, 1) := by decide +kernel
theorem dX1_search_89 : decode cX1_search 89 = .ok (.iload_n 2, 1) := by decide +kernel
theorem dX1_search_90 : decode cX1_search 90 = .ok (.aload_n 0, 1) := by decide +kernel
theorem dX1_search_91 : decode cX1_search 91 = .ok (.getfield 25, 3) := by decide +kernel
theorem dX1_search_94 : decode cX1_search 94 = .ok (.iconst 1, 1) := by decide +kernel
theorem dX1_search_95 : decode cX1_search 95 = .ok (.aload_n 0, 1) := by decide +kernel
theorem dX1_search_96 : decode cX1_search 96 = .ok (.getfield 29, 3) := by decide +kernel
theorem dX1_search_99 : decode cX1_search 99 = .ok (.invokevirtual 56, 3) := by decide +kernel
theorem dX1_search_102 : decode cX1_search 102 = .ok (.pop, 1) := by decide +kernel
theorem dX1_search_103 : decode cX1_search 103 = .ok (.return_, 1) := by decide +kernel
theorem dX1_takeGoalsBack_0 : decode cX1_takeGoalsBack 0 = .ok (.aload_n 1, 1) := by decide +kernel
theorem dX1_takeGoalsBack_1 : decode cX1_takeGoalsBack 1 = .ok (.invokevirtual 60, 3) := by decide +kernel
theorem dX1_takeGoalsBack_4 : decode cX1_takeGoalsBack 4 = .ok (.lstore_n 2, 1) := by decide +kernel
theorem dX1_takeGoalsBack_5 : decode cX1_takeGoalsBack 5 = .ok (.aload_n 0, 1) := by decide +kernel
theorem dX1_takeGoalsBack_6 : decode cX1_takeGoalsBack 6 = .ok (.iconst 0, 1) := by decide +kernel
theorem dX1_takeGoalsBack_7 : decode cX1_takeGoalsBack 7 = .ok (.putfield 29, 3) := by decide +kernel
theorem dX1_takeGoalsBack_10 : decode cX1_takeGoalsBack 10 = .ok (.aload_n 0, 1) := by decide +kernel
theorem dX1_takeGoalsBack_11 : decode cX1_takeGoalsBack 11 = .ok (.aload_n 1, 1) := by decide +kernel
theorem dX1_takeGoalsBack_12 : decode cX1_takeGoalsBack 12 = .ok (.getfield 63, 3) := by decide +kernel
theorem dX1_takeGoalsBack_15 : decode cX1_takeGoalsBack 15 = .ok (.lload_n 2, 1) := by decide +kernel
theorem dX1_takeGoalsBack_16 : decode cX1_takeGoalsBack 16 = .ok (.invokevirtual 66, 3) := by decide +kernel
theorem dX1_takeGoalsBack_19 : decode cX1_takeGoalsBack 19 = .ok (.iconst 0, 1) := by decide +kernel
theorem dX1_takeGoalsBack_20 : decode cX1_takeGoalsBack 20 = .ok (.istore 4, 2) := by decide +kernel
theorem dX1_takeGoalsBack_22 : decode cX1_takeGoalsBack 22 = .ok (.iload 4, 2) := by decide +kernel
theorem dX1_takeGoalsBack_24 : decode cX1_takeGoalsBack 24 = .ok (.aload_n 1, 1) := by decide +kernel
theorem dX1_takeGoalsBack_25 : decode cX1_takeGoalsBack 25 = .ok (.invokevirtual 70, 3) := by decide +kernel
theorem dX1_takeGoalsBack_28 : decode cX1_takeGoalsBack 28 = .ok (.if_icmp .ge 43, 3) := by decide +kernel
theorem dX1_takeGoalsBack_31 : decode cX1_takeGoalsBack 31 = .ok (.aload_n 1, 1) := by decide +kernel
theorem dX1_takeGoalsBack_32 : decode cX1_takeGoalsBack 32 = .ok (.iload 4, 2) := by decide +kernel
theorem dX1_takeGoalsBack_34 : decode cX1_takeGoalsBack 34 = .ok (.invokevirtual 74, 3) := by decide +kernel
theorem dX1_takeGoalsBack_37 : decode cX1_takeGoalsBack 37 = .ok (.ifCond .eq 28, 3) := by decide +kernel
theorem dX1_takeGoalsBack_40 : decode cX1_takeGoalsBack 40 = .ok (.aload_n 0, 1) := by decide +kernel
theorem dX1_takeGoalsBack_41 : decode cX1_takeGoalsBack 41 = .ok (.aload_n 1, 1) := by decide +kernel
theorem dX1_takeGoalsBack_42 : decode cX1_takeGoalsBack 42 = .ok (.aload_n 1, 1) := by decide +kernel
theorem dX1_takeGoalsBack_43 : decode cX1_takeGoalsBack 43 = .ok (.getfield 63, 3) := by decide +kernel
theorem dX1_takeGoalsBack_46 : decode cX1_takeGoalsBack 46 = .ok (.iload 4, 2) := by decide +kernel
theorem dX1_takeGoalsBack_48 : decode cX1_takeGoalsBack 48 = .ok (.iconst 1, 1) := by decide +kernel
theorem dX1_takeGoalsBack_49 : decode cX1_takeGoalsBack 49 = .ok (.ixor, 1) := by decide +kernel
theorem dX1_takeGoalsBack_50 : decode cX1_takeGoalsBack 50 = .ok (.invokevirtual 78, 3) := by decide +kernel
theorem dX1_takeGoalsBack_53 : decode cX1_takeGoalsBack 53 = .ok (.aload_n 1, 1) := by decide +kernel
theorem dX1_takeGoalsBack_54 : decode cX1_takeGoalsBack 54 = .ok (.lload_n 2, 1) := by decide +kernel
theorem dX1_takeGoalsBack_55 : decode cX1_takeGoalsBack 55 = .ok (.iload 4, 2) := by decide +kernel
theorem dX1_takeGoalsBack_57 : decode cX1_takeGoalsBack 57 = .ok (.iconst 1, 1) := by decide +kernel
theorem dX1_takeGoalsBack_58 : decode cX1_takeGoalsBack 58 = .ok (.ixor, 1) := by decide +kernel
theorem dX1_takeGoalsBack_59 : decode cX1_takeGoalsBack 59 = .ok (.invokevirtual 78, 3) := by decide +kernel
theorem dX1_takeGoalsBack_62 : decode cX1_takeGoalsBack 62 = .ok (.invokevirtual 66, 3) := by decide +kernel
theorem dX1_takeGoalsBack_65 : decode cX1_takeGoalsBack 65 = .ok (.iinc 4 1, 3) := by decide +kernel
theorem dX1_takeGoalsBack_68 : decode cX1_takeGoalsBack 68 = .ok (.goto (-46), 3) := by decide +kernel
theorem dX1_takeGoalsBack_71 : decode cX1_takeGoalsBack 71 = .ok (.return_, 1) := by decide +kernel
theorem dX1_addGoal_0 : decode cX1_addGoal 0 = .ok (.aload_n 0, 1) := by decide +kernel
theorem dX1_addGoal_1 : decode cX1_addGoal 1 = .ok (.getfield 29, 3) := by decide +kernel
theorem dX1_addGoal_4 : decode cX1_addGoal 4 = .ok (.ifCond .lt 57, 3) := by decide +kernel
theorem dX1_addGoal_7 : decode cX1_addGoal 7 = .ok (.aload_n 0, 1) := by decide +kernel
theorem dX1_addGoal_8 : decode cX1_addGoal 8 = .ok (.getfield 29, 3) := by decide +kernel
theorem dX1_addGoal_11 : decode cX1_addGoal 11 = .ok (.aload_n 0, 1) := by decide +kernel
theorem dX1_addGoal_12 : decode cX1_addGoal 12 = .ok (.getfield 19, 3) := by decide +kernel
theorem dX1_addGoal_15 : decode cX1_addGoal 15 = .ok (.arraylength, 1) := by decide +kernel
theorem dX1_addGoal_16 : decode cX1_addGoal 16 = .ok (.if_icmp .ge 45, 3) := by decide +kernel
theorem dX1_addGoal_19 : decode cX1_addGoal 19 = .ok (.aload_n 0, 1) := by decide +kernel
theorem dX1_addGoal_20 : decode cX1_addGoal 20 = .ok (.getfield 29, 3) := by decide +kernel
theorem dX1_addGoal_23 : decode cX1_addGoal 23 = .ok (.aload_n 0, 1) := by decide +kernel
theorem dX1_addGoal_24 : decode cX1_addGoal 24 = .ok (.getfield 22, 3) := by decide +kernel
theorem dX1_addGoal_27 : decode cX1_addGoal 27 = .ok (.arraylength, 1) := by decide +kernel
theorem dX1_addGoal_28 : decode cX1_addGoal 28 = .ok (.if_icmp .ge 33, 3) := by decide +kernel
theorem dX1_addGoal_31 : decode cX1_addGoal 31 = .ok (.aload_n 0, 1) := by decide +kernel
theorem dX1_addGoal_32 : decode cX1_addGoal 32 = .ok (.getfield 19, 3) := by decide +kernel
theorem dX1_addGoal_35 : decode cX1_addGoal 35 = .ok (.aload_n 0, 1) := by decide +kernel
theorem dX1_addGoal_36 : decode cX1_addGoal 36 = .ok (.getfield 29, 3) := by decide +kernel
theorem dX1_addGoal_39 : decode cX1_addGoal 39 = .ok (.lload_n 1, 1) := by decide +kernel
theorem dX1_addGoal_40 : decode cX1_addGoal 40 = .ok (.lastore, 1) := by decide +kernel
theorem dX1_addGoal_41 : decode cX1_addGoal 41 = .ok (.aload_n 0, 1) := by decide +kernel
theorem dX1_addGoal_42 : decode cX1_addGoal 42 = .ok (.getfield 22, 3) := by decide +kernel
theorem dX1_addGoal_45 : decode cX1_addGoal 45 = .ok (.aload_n 0, 1) := by decide +kernel
theorem dX1_addGoal_46 : decode cX1_addGoal 46 = .ok (.getfield 29, 3) := by decide +kernel
theorem dX1_addGoal_49 : decode cX1_addGoal 49 = .ok (.lload_n 3, 1) := by decide +kernel
theorem dX1_addGoal_50 : decode cX1_addGoal 50 = .ok (.lastore, 1) := by decide +kernel
theorem dX1_addGoal_51 : decode cX1_addGoal 51 = .ok (.aload_n 0, 1) := by decide +kernel
theorem dX1_addGoal_52 : decode cX1_addGoal 52 = .ok (.dup, 1) := by decide +kernel
theorem dX1_addGoal_53 : decode cX1_addGoal 53 = .ok (.getfield 29, 3) := by decide +kernel
theorem dX1_addGoal_56 : decode cX1_addGoal 56 = .ok (.iconst 1, 1) := by decide +kernel
theorem dX1_addGoal_57 : decode cX1_addGoal 57 = .ok (.iadd, 1) := by decide +kernel
theorem dX1_addGoal_58 : decode cX1_addGoal 58 = .ok (.putfield 29, 3) := by decide +kernel
theorem dX1_addGoal_61 : decode cX1_addGoal 61 = .ok (.return_, 1) := by decide +kernel
theorem dX1_addBoard_0 : decode cX1_addBoard 0 = .ok (.aload_n 0, 1) := by decide +kernel
theorem dX1_addBoard_1 : decode cX1_addBoard 1 = .ok (.getfield 25, 3) := by decide +kernel
theorem dX1_addBoard_4 : decode cX1_addBoard 4 = .ok (.ifCond .lt 57, 3) := by decide +kernel
theorem dX1_addBoard_7 : decode cX1_addBoard 7 = .ok (.aload_n 0, 1) := by decide +kernel
theorem dX1_addBoard_8 : decode cX1_addBoard 8 = .ok (.getfield 25, 3) := by decide +kernel
theorem dX1_addBoard_11 : decode cX1_addBoard 11 = .ok (.aload_n 0, 1) := by decide +kernel
theorem dX1_addBoard_12 : decode cX1_addBoard 12 = .ok (.getfield 9, 3) := by decide +kernel
theorem dX1_addBoard_15 : decode cX1_addBoard 15 = .ok (.arraylength, 1) := by decide +kernel
theorem dX1_addBoard_16 : decode cX1_addBoard 16 = .ok (.if_icmp .ge 45, 3) := by decide +kernel
theorem dX1_addBoard_19 : decode cX1_addBoard 19 = .ok (.aload_n 0, 1) := by decide +kernel
theorem dX1_addBoard_20 : decode cX1_addBoard 20 = .ok (.getfield 25, 3) := by decide +kernel
theorem dX1_addBoard_23 : decode cX1_addBoard 23 = .ok (.aload_n 0, 1) := by decide +kernel
theorem dX1_addBoard_24 : decode cX1_addBoard 24 = .ok (.getfield 15, 3) := by decide +kernel
theorem dX1_addBoard_27 : decode cX1_addBoard 27 = .ok (.arraylength, 1) := by decide +kernel
theorem dX1_addBoard_28 : decode cX1_addBoard 28 = .ok (.if_icmp .ge 33, 3) := by decide +kernel
theorem dX1_addBoard_31 : decode cX1_addBoard 31 = .ok (.aload_n 0, 1) := by decide +kernel
theorem dX1_addBoard_32 : decode cX1_addBoard 32 = .ok (.getfield 9, 3) := by decide +kernel
theorem dX1_addBoard_35 : decode cX1_addBoard 35 = .ok (.aload_n 0, 1) := by decide +kernel
theorem dX1_addBoard_36 : decode cX1_addBoard 36 = .ok (.getfield 25, 3) := by decide +kernel
theorem dX1_addBoard_39 : decode cX1_addBoard 39 = .ok (.lload_n 1, 1) := by decide +kernel
theorem dX1_addBoard_40 : decode cX1_addBoard 40 = .ok (.lastore, 1) := by decide +kernel
theorem dX1_addBoard_41 : decode cX1_addBoard 41 = .ok (.aload_n 0, 1) := by decide +kernel
theorem dX1_addBoard_42 : decode cX1_addBoard 42 = .ok (.getfield 15, 3) := by decide +kernel
theorem dX1_addBoard_45 : decode cX1_addBoard 45 = .ok (.aload_n 0, 1) := by decide +kernel
theorem dX1_addBoard_46 : decode cX1_addBoard 46 = .ok (.getfield 25, 3) := by decide +kernel
theorem dX1_addBoard_49 : decode cX1_addBoard 49 = .ok (.iload_n 3, 1) := by decide +kernel
theorem dX1_addBoard_50 : decode cX1_addBoard 50 = .ok (.iastore, 1) := by decide +kernel
theorem dX1_addBoard_51 : decode cX1_addBoard 51 = .ok (.aload_n 0, 1) := by decide +kernel
theorem dX1_addBoard_52 : decode cX1_addBoard 52 = .ok (.dup, 1) := by decide +kernel
theorem dX1_addBoard_53 : decode cX1_addBoard 53 = .ok (.getfield 25, 3) := by decide +kernel
theorem dX1_addBoard_56 : decode cX1_addBoard 56 = .ok (.iconst 1, 1) := by decide +kernel
theorem dX1_addBoard_57 : decode cX1_addBoard 57 = .ok (.iadd, 1) := by decide +kernel
theorem dX1_addBoard_58 : decode cX1_addBoard 58 = .ok (.putfield 25, 3) := by decide +kernel
theorem dX1_addBoard_61 : decode cX1_addBoard 61 = .ok (.return_, 1) := by decide +kernel
theorem dX1_spread_0 : decode cX1_spread 0 = .ok (.iload_n 2, 1) := by decide +kernel
theorem dX1_spread_1 : decode cX1_spread 1 = .ok (.istore 4, 2) := by decide +kernel
theorem dX1_spread_3 : decode cX1_spread 3 = .ok (.iload 4, 2) := by decide +kernel
theorem dX1_spread_5 : decode cX1_spread 5 = .ok (.iload_n 3, 1) := by decide +kernel
theorem dX1_spread_6 : decode cX1_spread 6 = .ok (.if_icmp .ge 100, 3) := by decide +kernel
theorem dX1_spread_9 : decode cX1_spread 9 = .ok (.iload 4, 2) := by decide +kernel
theorem dX1_spread_11 : decode cX1_spread 11 = .ok (.ifCond .lt 95, 3) := by decide +kernel
theorem dX1_spread_14 : decode cX1_spread 14 = .ok (.iload 4, 2) := by decide +kernel
theorem dX1_spread_16 : decode cX1_spread 16 = .ok (.aload_n 0, 1) := by decide +kernel
theorem dX1_spread_17 : decode cX1_spread 17 = .ok (.getfield 9, 3) := by decide +kernel
theorem dX1_spread_20 : decode cX1_spread 20 = .ok (.arraylength, 1) := by decide +kernel
theorem dX1_spread_21 : decode cX1_spread 21 = .ok (.if_icmp .ge 85, 3) := by decide +kernel
theorem dX1_spread_24 : decode cX1_spread 24 = .ok (.iload 4, 2) := by decide +kernel
theorem dX1_spread_26 : decode cX1_spread 26 = .ok (.aload_n 0, 1) := by decide +kernel
theorem dX1_spread_27 : decode cX1_spread 27 = .ok (.getfield 15, 3) := by decide +kernel
theorem dX1_spread_30 : decode cX1_spread 30 = .ok (.arraylength, 1) := by decide +kernel
theorem dX1_spread_31 : decode cX1_spread 31 = .ok (.if_icmp .ge 75, 3) := by decide +kernel
theorem dX1_spread_34 : decode cX1_spread 34 = .ok (.iconst 0, 1) := by decide +kernel
theorem dX1_spread_35 : decode cX1_spread 35 = .ok (.istore 5, 2) := by decide +kernel
theorem dX1_spread_37 : decode cX1_spread 37 = .ok (.iload 5, 2) := by decide +kernel
theorem dX1_spread_39 : decode cX1_spread 39 = .ok (.aload_n 1, 1) := by decide +kernel
theorem dX1_spread_40 : decode cX1_spread 40 = .ok (.invokevirtual 70, 3) := by decide +kernel
theorem dX1_spread_43 : decode cX1_spread 43 = .ok (.if_icmp .ge 57, 3) := by decide +kernel
theorem dX1_spread_46 : decode cX1_spread 46 = .ok (.aload_n 1, 1) := by decide +kernel
theorem dX1_spread_47 : decode cX1_spread 47 = .ok (.iload 5, 2) := by decide +kernel
theorem dX1_spread_49 : decode cX1_spread 49 = .ok (.invokevirtual 74, 3) := by decide +kernel
theorem dX1_spread_52 : decode cX1_spread 52 = .ok (.ifCond .eq 42, 3) := by decide +kernel
theorem dX1_spread_55 : decode cX1_spread 55 = .ok (.aload_n 0, 1) := by decide +kernel
theorem dX1_spread_56 : decode cX1_spread 56 = .ok (.aload_n 1, 1) := by decide +kernel
theorem dX1_spread_57 : decode cX1_spread 57 = .ok (.aload_n 0, 1) := by decide +kernel
theorem dX1_spread_58 : decode cX1_spread 58 = .ok (.getfield 9, 3) := by decide +kernel
theorem dX1_spread_61 : decode cX1_spread 61 = .ok (.iload 4, 2) := by decide +kernel
theorem dX1_spread_63 : decode cX1_spread 63 = .ok (.laload, 1) := by decide +kernel
theorem dX1_spread_64 : decode cX1_spread 64 = .ok (.iload 5, 2) := by decide +kernel
theorem dX1_spread_66 : decode cX1_spread 66 = .ok (.invokevirtual 78, 3) := by decide +kernel
theorem dX1_spread_69 : decode cX1_spread 69 = .ok (.aload_n 0, 1) := by decide +kernel
theorem dX1_spread_70 : decode cX1_spread 70 = .ok (.getfield 15, 3) := by decide +kernel
theorem dX1_spread_73 : decode cX1_spread 73 = .ok (.iload 4, 2) := by decide +kernel
theorem dX1_spread_75 : decode cX1_spread 75 = .ok (.iaload, 1) := by decide +kernel
theorem dX1_spread_76 : decode cX1_spread 76 = .ok (.ifCond .ge 8, 3) := by decide +kernel
theorem dX1_spread_79 : decode cX1_spread 79 = .ok (.iload 5, 2) := by decide +kernel
theorem dX1_spread_81 : decode cX1_spread 81 = .ok (.goto 10, 3) := by decide +kernel
theorem dX1_spread_84 : decode cX1_spread 84 = .ok (.aload_n 0, 1) := by decide +kernel
theorem dX1_spread_85 : decode cX1_spread 85 = .ok (.getfield 15, 3) := by decide +kernel
theorem dX1_spread_88 : decode cX1_spread 88 = .ok (.iload 4, 2) := by decide +kernel
theorem dX1_spread_90 : decode cX1_spread 90 = .ok (.iaload, 1) := by decide +kernel
theorem dX1_spread_91 : decode cX1_spread 91 = .ok (.invokevirtual 48, 3) := by decide +kernel
theorem dX1_spread_94 : decode cX1_spread 94 = .ok (.iinc 5 1, 3) := by decide +kernel
theorem dX1_spread_97 : decode cX1_spread 97 = .ok (.goto (-60), 3) := by decide +kernel
theorem dX1_spread_100 : decode cX1_spread 100 = .ok (.iinc 4 1, 3) := by decide +kernel
theorem dX1_spread_103 : decode cX1_spread 103 = .ok (.goto (-100), 3) := by decide +kernel
theorem dX1_spread_106 : decode cX1_spread 106 = .ok (.return_, 1) := by decide +kernel
theorem dX1_meet_0 : decode cX1_meet 0 = .ok (.iload_n 2, 1) := by decide +kernel
theorem dX1_meet_1 : decode cX1_meet 1 = .ok (.istore 6, 2) := by decide +kernel
theorem dX1_meet_3 : decode cX1_meet 3 = .ok (.iload 6, 2) := by decide +kernel
theorem dX1_meet_5 : decode cX1_meet 5 = .ok (.iload_n 3, 1) := by decide +kernel
theorem dX1_meet_6 : decode cX1_meet 6 = .ok (.if_icmp .ge 70, 3) := by decide +kernel
theorem dX1_meet_9 : decode cX1_meet 9 = .ok (.iload 6, 2) := by decide +kernel
theorem dX1_meet_11 : decode cX1_meet 11 = .ok (.ifCond .lt 65, 3) := by decide +kernel
theorem dX1_meet_14 : decode cX1_meet 14 = .ok (.iload 6, 2) := by decide +kernel
theorem dX1_meet_16 : decode cX1_meet 16 = .ok (.aload_n 0, 1) := by decide +kernel
theorem dX1_meet_17 : decode cX1_meet 17 = .ok (.getfield 9, 3) := by decide +kernel
theorem dX1_meet_20 : decode cX1_meet 20 = .ok (.arraylength, 1) := by decide +kernel
theorem dX1_meet_21 : decode cX1_meet 21 = .ok (.if_icmp .ge 55, 3) := by decide +kernel
theorem dX1_meet_24 : decode cX1_meet 24 = .ok (.iload 6, 2) := by decide +kernel
theorem dX1_meet_26 : decode cX1_meet 26 = .ok (.aload_n 0, 1) := by decide +kernel
theorem dX1_meet_27 : decode cX1_meet 27 = .ok (.getfield 15, 3) := by decide +kernel
theorem dX1_meet_30 : decode cX1_meet 30 = .ok (.arraylength, 1) := by decide +kernel
theorem dX1_meet_31 : decode cX1_meet 31 = .ok (.if_icmp .ge 45, 3) := by decide +kernel
theorem dX1_meet_34 : decode cX1_meet 34 = .ok (.aload_n 0, 1) := by decide +kernel
theorem dX1_meet_35 : decode cX1_meet 35 = .ok (.aload_n 0, 1) := by decide +kernel
theorem dX1_meet_36 : decode cX1_meet 36 = .ok (.getfield 9, 3) := by decide +kernel
theorem dX1_meet_39 : decode cX1_meet 39 = .ok (.iload 6, 2) := by decide +kernel
theorem dX1_meet_41 : decode cX1_meet 41 = .ok (.laload, 1) := by decide +kernel
theorem dX1_meet_42 : decode cX1_meet 42 = .ok (.iload 4, 2) := by decide +kernel
theorem dX1_meet_44 : decode cX1_meet 44 = .ok (.iload 5, 2) := by decide +kernel
theorem dX1_meet_46 : decode cX1_meet 46 = .ok (.invokevirtual 82, 3) := by decide +kernel
theorem dX1_meet_49 : decode cX1_meet 49 = .ok (.ifCond .eq 21, 3) := by decide +kernel
theorem dX1_meet_52 : decode cX1_meet 52 = .ok (.aload_n 0, 1) := by decide +kernel
theorem dX1_meet_53 : decode cX1_meet 53 = .ok (.iload_n 1, 1) := by decide +kernel
theorem dX1_meet_54 : decode cX1_meet 54 = .ok (.putfield 32, 3) := by decide +kernel
theorem dX1_meet_57 : decode cX1_meet 57 = .ok (.aload_n 0, 1) := by decide +kernel
theorem dX1_meet_58 : decode cX1_meet 58 = .ok (.aload_n 0, 1) := by decide +kernel
theorem dX1_meet_59 : decode cX1_meet 59 = .ok (.getfield 15, 3) := by decide +kernel
theorem dX1_meet_62 : decode cX1_meet 62 = .ok (.iload 6, 2) := by decide +kernel
theorem dX1_meet_64 : decode cX1_meet 64 = .ok (.iaload, 1) := by decide +kernel
theorem dX1_meet_65 : decode cX1_meet 65 = .ok (.putfield 35, 3) := by decide +kernel
theorem dX1_meet_68 : decode cX1_meet 68 = .ok (.iconst 1, 1) := by decide +kernel
theorem dX1_meet_69 : decode cX1_meet 69 = .ok (.ireturn, 1) := by decide +kernel
theorem dX1_meet_70 : decode cX1_meet 70 = .ok (.iinc 6 1, 3) := by decide +kernel
theorem dX1_meet_73 : decode cX1_meet 73 = .ok (.goto (-70), 3) := by decide +kernel
theorem dX1_meet_76 : decode cX1_meet 76 = .ok (.iconst 0, 1) := by decide +kernel
theorem dX1_meet_77 : decode cX1_meet 77 = .ok (.ireturn, 1) := by decide +kernel
theorem dX1_isMet_0 : decode cX1_isMet 0 = .ok (.iload_n 3, 1) := by decide +kernel
theorem dX1_isMet_1 : decode cX1_isMet 1 = .ok (.istore 5, 2) := by decide +kernel
theorem dX1_isMet_3 : decode cX1_isMet 3 = .ok (.iload 5, 2) := by decide +kernel
theorem dX1_isMet_5 : decode cX1_isMet 5 = .ok (.iload 4, 2) := by decide +kernel
theorem dX1_isMet_7 : decode cX1_isMet 7 = .ok (.if_icmp .ge 58, 3) := by decide +kernel
theorem dX1_isMet_10 : decode cX1_isMet 10 = .ok (.iload 5, 2) := by decide +kernel
theorem dX1_isMet_12 : decode cX1_isMet 12 = .ok (.ifCond .lt 53, 3) := by decide +kernel
theorem dX1_isMet_15 : decode cX1_isMet 15 = .ok (.iload 5, 2) := by decide +kernel
theorem dX1_isMet_17 : decode cX1_isMet 17 = .ok (.aload_n 0, 1) := by decide +kernel
theorem dX1_isMet_18 : decode cX1_isMet 18 = .ok (.getfield 19, 3) := by decide +kernel
theorem dX1_isMet_21 : decode cX1_isMet 21 = .ok (.arraylength, 1) := by decide +kernel
theorem dX1_isMet_22 : decode cX1_isMet 22 = .ok (.if_icmp .ge 43, 3) := by decide +kernel
theorem dX1_isMet_25 : decode cX1_isMet 25 = .ok (.iload 5, 2) := by decide +kernel
theorem dX1_isMet_27 : decode cX1_isMet 27 = .ok (.aload_n 0, 1) := by decide +kernel
theorem dX1_isMet_28 : decode cX1_isMet 28 = .ok (.getfield 22, 3) := by decide +kernel
theorem dX1_isMet_31 : decode cX1_isMet 31 = .ok (.arraylength, 1) := by decide +kernel
theorem dX1_isMet_32 : decode cX1_isMet 32 = .ok (.if_icmp .ge 33, 3) := by decide +kernel
theorem dX1_isMet_35 : decode cX1_isMet 35 = .ok (.lload_n 1, 1) := by decide +kernel
theorem dX1_isMet_36 : decode cX1_isMet 36 = .ok (.aload_n 0, 1) := by decide +kernel
theorem dX1_isMet_37 : decode cX1_isMet 37 = .ok (.getfield 19, 3) := by decide +kernel
theorem dX1_isMet_40 : decode cX1_isMet 40 = .ok (.iload 5, 2) := by decide +kernel
theorem dX1_isMet_42 : decode cX1_isMet 42 = .ok (.laload, 1) := by decide +kernel
theorem dX1_isMet_43 : decode cX1_isMet 43 = .ok (.lxor, 1) := by decide +kernel
theorem dX1_isMet_44 : decode cX1_isMet 44 = .ok (.aload_n 0, 1) := by decide +kernel
theorem dX1_isMet_45 : decode cX1_isMet 45 = .ok (.getfield 22, 3) := by decide +kernel
theorem dX1_isMet_48 : decode cX1_isMet 48 = .ok (.iload 5, 2) := by decide +kernel
theorem dX1_isMet_50 : decode cX1_isMet 50 = .ok (.laload, 1) := by decide +kernel
theorem dX1_isMet_51 : decode cX1_isMet 51 = .ok (.land, 1) := by decide +kernel
theorem dX1_isMet_52 : decode cX1_isMet 52 = .ok (.lconst 0, 1) := by decide +kernel
theorem dX1_isMet_53 : decode cX1_isMet 53 = .ok (.lcmp, 1) := by decide +kernel
theorem dX1_isMet_54 : decode cX1_isMet 54 = .ok (.ifCond .ne 5, 3) := by decide +kernel
theorem dX1_isMet_57 : decode cX1_isMet 57 = .ok (.iconst 1, 1) := by decide +kernel
theorem dX1_isMet_58 : decode cX1_isMet 58 = .ok (.ireturn, 1) := by decide +kernel
theorem dX1_isMet_59 : decode cX1_isMet 59 = .ok (.iinc 5 1, 3) := by decide +kernel
theorem dX1_isMet_62 : decode cX1_isMet 62 = .ok (.goto (-59), 3) := by decide +kernel
theorem dX1_isMet_65 : decode cX1_isMet 65 = .ok (.iconst 0, 1) := by decide +kernel
theorem dX1_isMet_66 : decode cX1_isMet 66 = .ok (.ireturn, 1) := by decide +kernel
theorem dX2_init_0 : decode cX2_init 0 = .ok (.aload_n 0, 1) := by decide +kernel
theorem dX2_init_1 : decode cX2_init 1 = .ok (.invokespecial 3, 3) := by decide +kernel
theorem dX2_init_4 : decode cX2_init 4 = .ok (.aload_n 0, 1) := by decide +kernel
theorem dX2_init_5 : decode cX2_init 5 = .ok (.bipush 8, 2) := by decide +kernel
theorem dX2_init_7 : decode cX2_init 7 = .ok (.anewarray 9, 3) := by decide +kernel
theorem dX2_init_10 : decode cX2_init 10 = .ok (.putfield 11, 3) := by decide +kernel
theorem dX2_init_13 : decode cX2_init 13 = .ok (.aload_n 0, 1) := by decide +kernel
theorem dX2_init_14 : decode cX2_init 14 = .ok (.iconst 0, 1) := by decide +kernel
theorem dX2_init_15 : decode cX2_init 15 = .ok (.putfield 17, 3) := by decide +kernel
theorem dX2_init_18 : decode cX2_init 18 = .ok (.aload_n 0, 1) := by decide +kernel
theorem dX2_init_19 : decode cX2_init 19 = .ok (.iconst 0, 1) := by decide +kernel
theorem dX2_init_20 : decode cX2_init 20 = .ok (.putfield 21, 3) := by decide +kernel
theorem dX2_init_23 : decode cX2_init 23 = .ok (.iconst 0, 1) := by decide +kernel
theorem dX2_init_24 : decode cX2_init 24 = .ok (.istore_n 1, 1) := by decide +kernel
theorem dX2_init_25 : decode cX2_init 25 = .ok (.iload_n 1, 1) := by decide +kernel
theorem dX2_init_26 : decode cX2_init 26 = .ok (.aload_n 0, 1) := by decide +kernel
theorem dX2_init_27 : decode cX2_init 27 = .ok (.getfield 11, 3) := by decide +kernel
theorem dX2_init_30 : decode cX2_init 30 = .ok (.arraylength, 1) := by decide +kernel
theorem dX2_init_31 : decode cX2_init 31 = .ok (.if_icmp .ge 22, 3) := by decide +kernel
theorem dX2_init_34 : decode cX2_init 34 = .ok (.aload_n 0, 1) := by decide +kernel
theorem dX2_init_35 : decode cX2_init 35 = .ok (.getfield 11, 3) := by decide +kernel
theorem dX2_init_38 : decode cX2_init 38 = .ok (.iload_n 1, 1) := by decide +kernel
theorem dX2_init_39 : decode cX2_init 39 = .ok (.new 9, 3) := by decide +kernel
theorem dX2_init_42 : decode cX2_init 42 = .ok (.dup, 1) := by decide +kernel
theorem dX2_init_43 : decode cX2_init 43 = .ok (.invokespecial 24, 3) := by decide +kernel
theorem dX2_init_46 : decode cX2_init 46 = .ok (.aastore, 1) := by decide +kernel
theorem dX2_init_47 : decode cX2_init 47 = .ok (.iinc 1 1, 3) := by decide +kernel
theorem dX2_init_50 : decode cX2_init 50 = .ok (.goto (-25), 3) := by decide +kernel
theorem dX2_init_53 : decode cX2_init 53 = .ok (.return_, 1) := by decide +kernel
theorem dX2_keep_0 : decode cX2_keep 0 = .ok (.aload_n 1, 1) := by decide +kernel
theorem dX2_keep_1 : decode cX2_keep 1 = .ok (.aload_n 0, 1) := by decide +kernel
theorem dX2_keep_2 : decode cX2_keep 2 = .ok (.aload_n 0, 1) := by decide +kernel
theorem dX2_keep_3 : decode cX2_keep 3 = .ok (.getfield 17, 3) := by decide +kernel
theorem dX2_keep_6 : decode cX2_keep 6 = .ok (.invokevirtual 25, 3) := by decide +kernel
theorem dX2_keep_9 : decode cX2_keep 9 = .ok (.invokestatic 29, 3) := by decide +kernel
theorem dX2_keep_12 : decode cX2_keep 12 = .ok (.aload_n 0, 1) := by decide +kernel
theorem dX2_keep_13 : decode cX2_keep 13 = .ok (.aload_n 0, 1) := by decide +kernel
theorem dX2_keep_14 : decode cX2_keep 14 = .ok (.getfield 17, 3) := by decide +kernel
theorem dX2_keep_17 : decode cX2_keep 17 = .ok (.iconst 1, 1) := by decide +kernel
theorem dX2_keep_18 : decode cX2_keep 18 = .ok (.iadd, 1) := by decide +kernel
theorem dX2_keep_19 : decode cX2_keep 19 = .ok (.bipush 8, 2) := by decide +kernel
theorem dX2_keep_21 : decode cX2_keep 21 = .ok (.if_icmp .lt 7, 3) := by decide +kernel
theorem dX2_keep_24 : decode cX2_keep 24 = .ok (.iconst 0, 1) := by decide +kernel
theorem dX2_keep_25 : decode cX2_keep 25 = .ok (.goto 9, 3) := by decide +kernel
theorem dX2_keep_28 : decode cX2_keep 28 = .ok (.aload_n 0, 1) := by decide +kernel
theorem dX2_keep_29 : decode cX2_keep 29 = .ok (.getfield 17, 3) := by decide +kernel
theorem dX2_keep_32 : decode cX2_keep 32 = .ok (.iconst 1, 1) := by decide +kernel
theorem dX2_keep_33 : decode cX2_keep 33 = .ok (.iadd, 1) := by decide +kernel
theorem dX2_keep_34 : decode cX2_keep 34 = .ok (.putfield 17, 3) := by decide +kernel
theorem dX2_keep_37 : decode cX2_keep 37 = .ok (.aload_n 0, 1) := by decide +kernel
theorem dX2_keep_38 : decode cX2_keep 38 = .ok (.aload_n 0, 1) := by decide +kernel
theorem dX2_keep_39 : decode cX2_keep 39 = .ok (.getfield 21, 3) := by decide +kernel
theorem dX2_keep_42 : decode cX2_keep 42 = .ok (.iconst 1, 1) := by decide +kernel
theorem dX2_keep_43 : decode cX2_keep 43 = .ok (.iadd, 1) := by decide +kernel
theorem dX2_keep_44 : decode cX2_keep 44 = .ok (.bipush 8, 2) := by decide +kernel
theorem dX2_keep_46 : decode cX2_keep 46 = .ok (.invokestatic 33, 3) := by decide +kernel
theorem dX2_keep_49 : decode cX2_keep 49 = .ok (.putfield 21, 3) := by decide +kernel
theorem dX2_keep_52 : decode cX2_keep 52 = .ok (.return_, 1) := by decide +kernel
theorem dX2_takeBack_0 : decode cX2_takeBack 0 = .ok (.aload_n 0, 1) := by decide +kernel
theorem dX2_takeBack_1 : decode cX2_takeBack 1 = .ok (.aload_n 0, 1) := by decide +kernel
theorem dX2_takeBack_2 : decode cX2_takeBack 2 = .ok (.getfield 17, 3) := by decide +kernel
theorem dX2_takeBack_5 : decode cX2_takeBack 5 = .ok (.ifCond .gt 8, 3) := by decide +kernel
theorem dX2_takeBack_8 : decode cX2_takeBack 8 = .ok (.bipush 7, 2) := by decide +kernel
theorem dX2_takeBack_10 : decode cX2_takeBack 10 = .ok (.goto 9, 3) := by decide +kernel
theorem dX2_takeBack_13 : decode cX2_takeBack 13 = .ok (.aload_n 0, 1) := by decide +kernel
theorem dX2_takeBack_14 : decode cX2_takeBack 14 = .ok (.getfield 17, 3) := by decide +kernel
theorem dX2_takeBack_17 : decode cX2_takeBack 17 = .ok (.iconst 1, 1) := by decide +kernel
theorem dX2_takeBack_18 : decode cX2_takeBack 18 = .ok (.isub, 1) := by decide +kernel
theorem dX2_takeBack_19 : decode cX2_takeBack 19 = .ok (.putfield 17, 3) := by decide +kernel
theorem dX2_takeBack_22 : decode cX2_takeBack 22 = .ok (.aload_n 0, 1) := by decide +kernel
theorem dX2_takeBack_23 : decode cX2_takeBack 23 = .ok (.aload_n 0, 1) := by decide +kernel
theorem dX2_takeBack_24 : decode cX2_takeBack 24 = .ok (.getfield 21, 3) := by decide +kernel
theorem dX2_takeBack_27 : decode cX2_takeBack 27 = .ok (.iconst 1, 1) := by decide +kernel
theorem dX2_takeBack_28 : decode cX2_takeBack 28 = .ok (.isub, 1) := by decide +kernel
theorem dX2_takeBack_29 : decode cX2_takeBack 29 = .ok (.iconst 0, 1) := by decide +kernel
theorem dX2_takeBack_30 : decode cX2_takeBack 30 = .ok (.invokestatic 39, 3) := by decide +kernel
theorem dX2_takeBack_33 : decode cX2_takeBack 33 = .ok (.putfield 21, 3) := by decide +kernel
theorem dX2_takeBack_36 : decode cX2_takeBack 36 = .ok (.aload_n 0, 1) := by decide +kernel
theorem dX2_takeBack_37 : decode cX2_takeBack 37 = .ok (.aload_n 0, 1) := by decide +kernel
theorem dX2_takeBack_38 : decode cX2_takeBack 38 = .ok (.getfield 17, 3) := by decide +kernel
theorem dX2_takeBack_41 : decode cX2_takeBack 41 = .ok (.invokevirtual 25, 3) := by decide +kernel
theorem dX2_takeBack_44 : decode cX2_takeBack 44 = .ok (.aload_n 1, 1) := by decide +kernel
theorem dX2_takeBack_45 : decode cX2_takeBack 45 = .ok (.invokestatic 29, 3) := by decide +kernel
theorem dX2_takeBack_48 : decode cX2_takeBack 48 = .ok (.return_, 1) := by decide +kernel
theorem dX2_forget_0 : decode cX2_forget 0 = .ok (.aload_n 0, 1) := by decide +kernel
theorem dX2_forget_1 : decode cX2_forget 1 = .ok (.iconst 0, 1) := by decide +kernel
theorem dX2_forget_2 : decode cX2_forget 2 = .ok (.putfield 21, 3) := by decide +kernel
theorem dX2_forget_5 : decode cX2_forget 5 = .ok (.return_, 1) := by decide +kernel
theorem dX2_at_0 : decode cX2_at 0 = .ok (.iload_n 1, 1) := by decide +kernel
theorem dX2_at_1 : decode cX2_at 1 = .ok (.ifCond .lt 21, 3) := by decide +kernel
theorem dX2_at_4 : decode cX2_at 4 = .ok (.iload_n 1, 1) := by decide +kernel
theorem dX2_at_5 : decode cX2_at 5 = .ok (.aload_n 0, 1) := by decide +kernel
theorem dX2_at_6 : decode cX2_at 6 = .ok (.getfield 11, 3) := by decide +kernel
theorem dX2_at_9 : decode cX2_at 9 = .ok (.arraylength, 1) := by decide +kernel
theorem dX2_at_10 : decode cX2_at 10 = .ok (.if_icmp .ge 12, 3) := by decide +kernel
theorem dX2_at_13 : decode cX2_at 13 = .ok (.aload_n 0, 1) := by decide +kernel
theorem dX2_at_14 : decode cX2_at 14 = .ok (.getfield 11, 3) := by decide +kernel
theorem dX2_at_17 : decode cX2_at 17 = .ok (.iload_n 1, 1) := by decide +kernel
theorem dX2_at_18 : decode cX2_at 18 = .ok (.aaload, 1) := by decide +kernel
theorem dX2_at_19 : decode cX2_at 19 = .ok (.goto 4, 3) := by decide +kernel
theorem dX2_at_22 : decode cX2_at 22 = .ok (.aconst_null, 1) := by decide +kernel
theorem dX2_at_23 : decode cX2_at 23 = .ok (.areturn, 1) := by decide +kernel
theorem dX2_copyBoard_0 : decode cX2_copyBoard 0 = .ok (.aload_n 0, 1) := by decide +kernel
theorem dX2_copyBoard_1 : decode cX2_copyBoard 1 = .ok (.ifnull 12, 3) := by decide +kernel
theorem dX2_copyBoard_4 : decode cX2_copyBoard 4 = .ok (.aload_n 1, 1) := by decide +kernel
theorem dX2_copyBoard_5 : decode cX2_copyBoard 5 = .ok (.ifnull 8, 3) := by decide +kernel
theorem dX2_copyBoard_8 : decode cX2_copyBoard 8 = .ok (.aload_n 1, 1) := by decide +kernel
theorem dX2_copyBoard_9 : decode cX2_copyBoard 9 = .ok (.aload_n 0, 1) := by decide +kernel
theorem dX2_copyBoard_10 : decode cX2_copyBoard 10 = .ok (.invokevirtual 42, 3) := by decide +kernel
theorem dX2_copyBoard_13 : decode cX2_copyBoard 13 = .ok (.return_, 1) := by decide +kernel
theorem dX3_init_0 : decode cX3_init 0 = .ok (.aload_n 0, 1) := by decide +kernel
theorem dX3_init_1 : decode cX3_init 1 = .ok (.invokespecial 3, 3) := by decide +kernel
theorem dX3_init_4 : decode cX3_init 4 = .ok (.aload_n 0, 1) := by decide +kernel
theorem dX3_init_5 : decode cX3_init 5 = .ok (.bipush 11, 2) := by decide +kernel
theorem dX3_init_7 : decode cX3_init 7 = .ok (.newarray .char, 2) := by decide +kernel
theorem dX3_init_9 : decode cX3_init 9 = .ok (.putfield 9, 3) := by decide +kernel
theorem dX3_init_12 : decode cX3_init 12 = .ok (.aload_n 0, 1) := by decide +kernel
theorem dX3_init_13 : decode cX3_init 13 = .ok (.iconst 0, 1) := by decide +kernel
theorem dX3_init_14 : decode cX3_init 14 = .ok (.putfield 15, 3) := by decide +kernel
theorem dX3_init_17 : decode cX3_init 17 = .ok (.return_, 1) := by decide +kernel
theorem dX3_clear_0 : decode cX3_clear 0 = .ok (.aload_n 0, 1) := by decide +kernel
theorem dX3_clear_1 : decode cX3_clear 1 = .ok (.iconst 0, 1) := by decide +kernel
theorem dX3_clear_2 : decode cX3_clear 2 = .ok (.putfield 15, 3) := by decide +kernel
theorem dX3_clear_5 : decode cX3_clear 5 = .ok (.return_, 1) := by decide +kernel
theorem dX3_add_0 : decode cX3_add 0 = .ok (.aload_n 0, 1) := by decide +kernel
theorem dX3_add_1 : decode cX3_add 1 = .ok (.getfield 15, 3) := by decide +kernel
theorem dX3_add_4 : decode cX3_add 4 = .ok (.ifCond .lt 35, 3) := by decide +kernel
theorem dX3_add_7 : decode cX3_add 7 = .ok (.aload_n 0, 1) := by decide +kernel
theorem dX3_add_8 : decode cX3_add 8 = .ok (.getfield 15, 3) := by decide +kernel
theorem dX3_add_11 : decode cX3_add 11 = .ok (.aload_n 0, 1) := by decide +kernel
theorem dX3_add_12 : decode cX3_add 12 = .ok (.getfield 9, 3) := by decide +kernel
theorem dX3_add_15 : decode cX3_add 15 = .ok (.arraylength, 1) := by decide +kernel
theorem dX3_add_16 : decode cX3_add 16 = .ok (.if_icmp .ge 23, 3) := by decide +kernel
theorem dX3_add_19 : decode cX3_add 19 = .ok (.aload_n 0, 1) := by decide +kernel
theorem dX3_add_20 : decode cX3_add 20 = .ok (.getfield 9, 3) := by decide +kernel
theorem dX3_add_23 : decode cX3_add 23 = .ok (.aload_n 0, 1) := by decide +kernel
theorem dX3_add_24 : decode cX3_add 24 = .ok (.getfield 15, 3) := by decide +kernel
theorem dX3_add_27 : decode cX3_add 27 = .ok (.iload_n 1, 1) := by decide +kernel
theorem dX3_add_28 : decode cX3_add 28 = .ok (.castore, 1) := by decide +kernel
theorem dX3_add_29 : decode cX3_add 29 = .ok (.aload_n 0, 1) := by decide +kernel
theorem dX3_add_30 : decode cX3_add 30 = .ok (.dup, 1) := by decide +kernel
theorem dX3_add_31 : decode cX3_add 31 = .ok (.getfield 15, 3) := by decide +kernel
theorem dX3_add_34 : decode cX3_add 34 = .ok (.iconst 1, 1) := by decide +kernel
theorem dX3_add_35 : decode cX3_add 35 = .ok (.iadd, 1) := by decide +kernel
theorem dX3_add_36 : decode cX3_add 36 = .ok (.putfield 15, 3) := by decide +kernel
theorem dX3_add_39 : decode cX3_add 39 = .ok (.return_, 1) := by decide +kernel
theorem dX3_signAt_0 : decode cX3_signAt 0 = .ok (.iload_n 1, 1) := by decide +kernel
theorem dX3_signAt_1 : decode cX3_signAt 1 = .ok (.ifCond .lt 21, 3) := by decide +kernel
theorem dX3_signAt_4 : decode cX3_signAt 4 = .ok (.iload_n 1, 1) := by decide +kernel
theorem dX3_signAt_5 : decode cX3_signAt 5 = .ok (.aload_n 0, 1) := by decide +kernel
theorem dX3_signAt_6 : decode cX3_signAt 6 = .ok (.getfield 9, 3) := by decide +kernel
theorem dX3_signAt_9 : decode cX3_signAt 9 = .ok (.arraylength, 1) := by decide +kernel
theorem dX3_signAt_10 : decode cX3_signAt 10 = .ok (.if_icmp .ge 12, 3) := by decide +kernel
theorem dX3_signAt_13 : decode cX3_signAt 13 = .ok (.aload_n 0, 1) := by decide +kernel
theorem dX3_signAt_14 : decode cX3_signAt 14 = .ok (.getfield 9, 3) := by decide +kernel
theorem dX3_signAt_17 : decode cX3_signAt 17 = .ok (.iload_n 1, 1) := by decide +kernel
theorem dX3_signAt_18 : decode cX3_signAt 18 = .ok (.caload, 1) := by decide +kernel
theorem dX3_signAt_19 : decode cX3_signAt 19 = .ok (.goto 5, 3) := by decide +kernel
theorem dX3_signAt_22 : decode cX3_signAt 22 = .ok (.bipush 32, 2) := by decide +kernel
theorem dX3_signAt_24 : decode cX3_signAt 24 = .ok (.ireturn, 1) := by decide +kernel
theorem dX4_init_0 : decode cX4_init 0 = .ok (.aload_n 0, 1) := by decide +kernel
theorem dX4_init_1 : decode cX4_init 1 = .ok (.invokespecial 3, 3) := by decide +kernel
theorem dX4_init_4 : decode cX4_init 4 = .ok (.aload_n 0, 1) := by decide +kernel
theorem dX4_init_5 : decode cX4_init 5 = .ok (.bipush 60, 2) := by decide +kernel
theorem dX4_init_7 : decode cX4_init 7 = .ok (.newarray .int, 2) := by decide +kernel
theorem dX4_init_9 : decode cX4_init 9 = .ok (.putfield 9, 3) := by decide +kernel
theorem dX4_init_12 : decode cX4_init 12 = .ok (.aload_n 0, 1) := by decide +kernel
theorem dX4_init_13 : decode cX4_init 13 = .ok (.bipush 60, 2) := by decide +kernel
theorem dX4_init_15 : decode cX4_init 15 = .ok (.newarray .int, 2) := by decide +kernel
theorem dX4_init_17 : decode cX4_init 17 = .ok (.putfield 15, 3) := by decide +kernel
theorem dX4_init_20 : decode cX4_init 20 = .ok (.aload_n 0, 1) := by decide +kernel
theorem dX4_init_21 : decode cX4_init 21 = .ok (.bipush 60, 2) := by decide +kernel
theorem dX4_init_23 : decode cX4_init 23 = .ok (.newarray .int, 2) := by decide +kernel
theorem dX4_init_25 : decode cX4_init 25 = .ok (.putfield 18, 3) := by decide +kernel
theorem dX4_init_28 : decode cX4_init 28 = .ok (.aload_n 0, 1) := by decide +kernel
theorem dX4_init_29 : decode cX4_init 29 = .ok (.aconst_null, 1) := by decide +kernel
theorem dX4_init_30 : decode cX4_init 30 = .ok (.putfield 21, 3) := by decide +kernel
theorem dX4_init_33 : decode cX4_init 33 = .ok (.aload_n 0, 1) := by decide +kernel
theorem dX4_init_34 : decode cX4_init 34 = .ok (.iconst 0, 1) := by decide +kernel
theorem dX4_init_35 : decode cX4_init 35 = .ok (.putfield 25, 3) := by decide +kernel
theorem dX4_init_38 : decode cX4_init 38 = .ok (.aload_n 0, 1) := by decide +kernel
theorem dX4_init_39 : decode cX4_init 39 = .ok (.iconst 0, 1) := by decide +kernel
theorem dX4_init_40 : decode cX4_init 40 = .ok (.putfield 29, 3) := by decide +kernel
theorem dX4_init_43 : decode cX4_init 43 = .ok (.aload_n 0, 1) := by decide +kernel
theorem dX4_init_44 : decode cX4_init 44 = .ok (.iconst 0, 1) := by decide +kernel
theorem dX4_init_45 : decode cX4_init 45 = .ok (.putfield 32, 3) := by decide +kernel
theorem dX4_init_48 : decode cX4_init 48 = .ok (.return_, 1) := by decide +kernel
theorem dX4_kindOf_0 : decode cX4_kindOf 0 = .ok (.iload_n 1, 1) := by decide +kernel
theorem dX4_kindOf_1 : decode cX4_kindOf 1 = .ok (.ifCond .lt 21, 3) := by decide +kernel
theorem dX4_kindOf_4 : decode cX4_kindOf 4 = .ok (.iload_n 1, 1) := by decide +kernel
theorem dX4_kindOf_5 : decode cX4_kindOf 5 = .ok (.aload_n 0, 1) := by decide +kernel
theorem dX4_kindOf_6 : decode cX4_kindOf 6 = .ok (.getfield 9, 3) := by decide +kernel
theorem dX4_kindOf_9 : decode cX4_kindOf 9 = .ok (.arraylength, 1) := by decide +kernel
theorem dX4_kindOf_10 : decode cX4_kindOf 10 = .ok (.if_icmp .ge 12, 3) := by decide +kernel
theorem dX4_kindOf_13 : decode cX4_kindOf 13 = .ok (.aload_n 0, 1) := by decide +kernel
theorem dX4_kindOf_14 : decode cX4_kindOf 14 = .ok (.getfield 9, 3) := by decide +kernel
theorem dX4_kindOf_17 : decode cX4_kindOf 17 = .ok (.iload_n 1, 1) := by decide +kernel
theorem dX4_kindOf_18 : decode cX4_kindOf 18 = .ok (.iaload, 1) := by decide +kernel
theorem dX4_kindOf_19 : decode cX4_kindOf 19 = .ok (.goto 4, 3) := by decide +kernel
theorem dX4_kindOf_22 : decode cX4_kindOf 22 = .ok (.iconst (-1), 1) := by decide +kernel
theorem dX4_kindOf_23 : decode cX4_kindOf 23 = .ok (.ireturn, 1) := by decide +kernel
theorem dX4_oneOf_0 : decode cX4_oneOf 0 = .ok (.iload_n 1, 1) := by decide +kernel
theorem dX4_oneOf_1 : decode cX4_oneOf 1 = .ok (.ifCond .lt 21, 3) := by decide +kernel
theorem dX4_oneOf_4 : decode cX4_oneOf 4 = .ok (.iload_n 1, 1) := by decide +kernel
theorem dX4_oneOf_5 : decode cX4_oneOf 5 = .ok (.aload_n 0, 1) := by decide +kernel
theorem dX4_oneOf_6 : decode cX4_oneOf 6 = .ok (.getfield 15, 3) := by decide +kernel
theorem dX4_oneOf_9 : decode cX4_oneOf 9 = .ok (.arraylength, 1) := by decide +kernel
theorem dX4_oneOf_10 : decode cX4_oneOf 10 = .ok (.if_icmp .ge 12, 3) := by decide +kernel
theorem dX4_oneOf_13 : decode cX4_oneOf 13 = .ok (.aload_n 0, 1) := by decide +kernel
theorem dX4_oneOf_14 : decode cX4_oneOf 14 = .ok (.getfield 15, 3) := by decide +kernel
theorem dX4_oneOf_17 : decode cX4_oneOf 17 = .ok (.iload_n 1, 1) := by decide +kernel
theorem dX4_oneOf_18 : decode cX4_oneOf 18 = .ok (.iaload, 1) := by decide +kernel
theorem dX4_oneOf_19 : decode cX4_oneOf 19 = .ok (.goto 4, 3) := by decide +kernel
theorem dX4_oneOf_22 : decode cX4_oneOf 22 = .ok (.iconst (-1), 1) := by decide +kernel
theorem dX4_oneOf_23 : decode cX4_oneOf 23 = .ok (.ireturn, 1) := by decide +kernel
theorem dX4_otherOf_0 : decode cX4_otherOf 0 = .ok (.iload_n 1, 1) := by decide +kernel
theorem dX4_otherOf_1 : decode cX4_otherOf 1 = .ok (.ifCond .lt 21, 3) := by decide +kernel
theorem dX4_otherOf_4 : decode cX4_otherOf 4 = .ok (.iload_n 1, 1) := by decide +kernel
theorem dX4_otherOf_5 : decode cX4_otherOf 5 = .ok (.aload_n 0, 1) := by decide +kernel
theorem dX4_otherOf_6 : decode cX4_otherOf 6 = .ok (.getfield 18, 3) := by decide +kernel
theorem dX4_otherOf_9 : decode cX4_otherOf 9 = .ok (.arraylength, 1) := by decide +kernel
theorem dX4_otherOf_10 : decode cX4_otherOf 10 = .ok (.if_icmp .ge 12, 3) := by decide +kernel
theorem dX4_otherOf_13 : decode cX4_otherOf 13 = .ok (.aload_n 0, 1) := by decide +kernel
theorem dX4_otherOf_14 : decode cX4_otherOf 14 = .ok (.getfield 18, 3) := by decide +kernel
theorem dX4_otherOf_17 : decode cX4_otherOf 17 = .ok (.iload_n 1, 1) := by decide +kernel
theorem dX4_otherOf_18 : decode cX4_otherOf 18 = .ok (.iaload, 1) := by decide +kernel
theorem dX4_otherOf_19 : decode cX4_otherOf 19 = .ok (.goto 4, 3) := by decide +kernel
theorem dX4_otherOf_22 : decode cX4_otherOf 22 = .ok (.iconst (-1), 1) := by decide +kernel
theorem dX4_otherOf_23 : decode cX4_otherOf 23 = .ok (.ireturn, 1) := by decide +kernel
theorem dX4_read_0 : decode cX4_read 0 = .ok (.aload_n 0, 1) := by decide +kernel
theorem dX4_read_1 : decode cX4_read 1 = .ok (.aload_n 1, 1) := by decide +kernel
theorem dX4_read_2 : decode cX4_read 2 = .ok (.putfield 21, 3) := by decide +kernel
theorem dX4_read_5 : decode cX4_read 5 = .ok (.aload_n 0, 1) := by decide +kernel
theorem dX4_read_6 : decode cX4_read 6 = .ok (.iload_n 2, 1) := by decide +kernel
theorem dX4_read_7 : decode cX4_read 7 = .ok (.putfield 25, 3) := by decide +kernel
theorem dX4_read_10 : decode cX4_read 10 = .ok (.aload_n 0, 1) := by decide +kernel
theorem dX4_read_11 : decode cX4_read 11 = .ok (.iconst 0, 1) := by decide +kernel
theorem dX4_read_12 : decode cX4_read 12 = .ok (.putfield 29, 3) := by decide +kernel
theorem dX4_read_15 : decode cX4_read 15 = .ok (.aload_n 0, 1) := by decide +kernel
theorem dX4_read_16 : decode cX4_read 16 = .ok (.iconst 0, 1) := by decide +kernel
theorem dX4_read_17 : decode cX4_read 17 = .ok (.putfield 32, 3) := by decide +kernel
theorem dX4_read_20 : decode cX4_read 20 = .ok (.iconst 0, 1) := by decide +kernel
theorem dX4_read_21 : decode cX4_read 21 = .ok (.istore_n 3, 1) := by decide +kernel
theorem dX4_read_22 : decode cX4_read 22 = .ok (.iload_n 3, 1) := by decide +kernel
theorem dX4_read_23 : decode cX4_read 23 = .ok (.bipush 60, 2) := by decide +kernel
theorem dX4_read_25 : decode cX4_read 25 = .ok (.if_icmp .ge 43, 3) := by decide +kernel
theorem dX4_read_28 : decode cX4_read 28 = .ok (.aload_n 0, 1) := by decide +kernel
theorem dX4_read_29 : decode cX4_read 29 = .ok (.invokevirtual 35, 3) := by decide +kernel
theorem dX4_read_32 : decode cX4_read 32 = .ok (.ifCond .eq 36, 3) := by decide +kernel
theorem dX4_read_35 : decode cX4_read 35 = .ok (.aload_n 0, 1) := by decide +kernel
theorem dX4_read_36 : decode cX4_read 36 = .ok (.getfield 29, 3) := by decide +kernel
theorem dX4_read_39 : decode cX4_read 39 = .ok (.aload_n 0, 1) := by decide +kernel
theorem dX4_read_40 : decode cX4_read 40 = .ok (.getfield 25, 3) := by decide +kernel
theorem dX4_read_43 : decode cX4_read 43 = .ok (.if_icmp .lt 5, 3) := by decide +kernel
theorem dX4_read_46 : decode cX4_read 46 = .ok (.iconst (-1), 1) := by decide +kernel
theorem dX4_read_47 : decode cX4_read 47 = .ok (.ireturn, 1) := by decide +kernel
theorem dX4_read_48 : decode cX4_read 48 = .ok (.aload_n 0, 1) := by decide +kernel
theorem dX4_read_49 : decode cX4_read 49 = .ok (.bipush 59, 2) := by decide +kernel
theorem dX4_read_51 : decode cX4_read 51 = .ok (.invokevirtual 39, 3) := by decide +kernel
theorem dX4_read_54 : decode cX4_read 54 = .ok (.ifCond .ne 8, 3) := by decide +kernel
theorem dX4_read_57 : decode cX4_read 57 = .ok (.aload_n 0, 1) := by decide +kernel
theorem dX4_read_58 : decode cX4_read 58 = .ok (.getfield 29, 3) := by decide +kernel
theorem dX4_read_61 : decode cX4_read 61 = .ok (.ireturn, 1) := by decide +kernel
theorem dX4_read_62 : decode cX4_read 62 = .ok (.iinc 3 1, 3) := by decide +kernel
theorem dX4_read_65 : decode cX4_read 65 = .ok (.goto (-43), 3) := by decide +kernel
theorem dX4_read_68 : decode cX4_read 68 = .ok (.aload_n 0, 1) := by decide +kernel
theorem dX4_read_69 : decode cX4_read 69 = .ok (.getfield 29, 3) := by decide +kernel
theorem dX4_read_72 : decode cX4_read 72 = .ok (.ireturn, 1) := by decide +kernel
theorem dX4_readOrder_0 : decode cX4_readOrder 0 = .ok (.aload_n 0, 1) := by decide +kernel
theorem dX4_readOrder_1 : decode cX4_readOrder 1 = .ok (.invokevirtual 43, 3) := by decide +kernel
theorem dX4_readOrder_4 : decode cX4_readOrder 4 = .ok (.istore_n 1, 1) := by decide +kernel
theorem dX4_readOrder_5 : decode cX4_readOrder 5 = .ok (.iload_n 1, 1) := by decide +kernel
theorem dX4_readOrder_6 : decode cX4_readOrder 6 = .ok (.invokestatic 47, 3) := by decide +kernel
theorem dX4_readOrder_9 : decode cX4_readOrder 9 = .ok (.ifCond .ne 5, 3) := by decide +kernel
theorem dX4_readOrder_12 : decode cX4_readOrder 12 = .ok (.iconst 0, 1) := by decide +kernel
theorem dX4_readOrder_13 : decode cX4_readOrder 13 = .ok (.ireturn, 1) := by decide +kernel
theorem dX4_readOrder_14 : decode cX4_readOrder 14 = .ok (.aload_n 0, 1) := by decide +kernel
theorem dX4_readOrder_15 : decode cX4_readOrder 15 = .ok (.dup, 1) := by decide +kernel
theorem dX4_readOrder_16 : decode cX4_readOrder 16 = .ok (.getfield 29, 3) := by decide +kernel
theorem dX4_readOrder_19 : decode cX4_readOrder 19 = .ok (.iconst 1, 1) := by decide +kernel
theorem dX4_readOrder_20 : decode cX4_readOrder 20 = .ok (.iadd, 1) := by decide +kernel
theorem dX4_readOrder_21 : decode cX4_readOrder 21 = .ok (.putfield 29, 3) := by decide +kernel
theorem dX4_readOrder_24 : decode cX4_readOrder 24 = .ok (.iload_n 1, 1) := by decide +kernel
theorem dX4_readOrder_25 : decode cX4_readOrder 25 = .ok (.bipush 116, 2) := by decide +kernel
theorem dX4_readOrder_27 : decode cX4_readOrder 27 = .ok (.if_icmp .eq 9, 3) := by decide +kernel
theorem dX4_readOrder_30 : decode cX4_readOrder 30 = .ok (.iload_n 1, 1) := by decide +kernel
theorem dX4_readOrder_31 : decode cX4_readOrder 31 = .ok (.bipush 114, 2) := by decide +kernel
theorem dX4_readOrder_33 : decode cX4_readOrder 33 = .ok (.if_icmp .ne 10, 3) := by decide +kernel
theorem dX4_readOrder_36 : decode cX4_readOrder 36 = .ok (.aload_n 0, 1) := by decide +kernel
theorem dX4_readOrder_37 : decode cX4_readOrder 37 = .ok (.invokevirtual 51, 3) := by decide +kernel
theorem dX4_readOrder_40 : decode cX4_readOrder 40 = .ok (.goto 7, 3) := by decide +kernel
theorem dX4_readOrder_43 : decode cX4_readOrder 43 = .ok (.aload_n 0, 1) := by decide +kernel
theorem dX4_readOrder_44 : decode cX4_readOrder 44 = .ok (.invokevirtual 55, 3) := by decide +kernel
theorem dX4_readOrder_47 : decode cX4_readOrder 47 = .ok (.istore_n 2, 1) := by decide +kernel
theorem dX4_readOrder_48 : decode cX4_readOrder 48 = .ok (.iload_n 2, 1) := by decide +kernel
theorem dX4_readOrder_49 : decode cX4_readOrder 49 = .ok (.ifCond .lt 18, 3) := by decide +kernel
theorem dX4_readOrder_52 : decode cX4_readOrder 52 = .ok (.iload_n 1, 1) := by decide +kernel
theorem dX4_readOrder_53 : decode cX4_readOrder 53 = .ok (.bipush 114, 2) := by decide +kernel
theorem dX4_readOrder_55 : decode cX4_readOrder 55 = .ok (.if_icmp .ne 14, 3) := by decide +kernel
theorem dX4_readOrder_58 : decode cX4_readOrder 58 = .ok (.aload_n 0, 1) := by decide +kernel
theorem dX4_readOrder_59 : decode cX4_readOrder 59 = .ok (.bipush 47, 2) := by decide +kernel
theorem dX4_readOrder_61 : decode cX4_readOrder 61 = .ok (.invokevirtual 39, 3) := by decide +kernel
theorem dX4_readOrder_64 : decode cX4_readOrder 64 = .ok (.ifCond .ne 5, 3) := by decide +kernel
theorem dX4_readOrder_67 : decode cX4_readOrder 67 = .ok (.iconst 0, 1) := by decide +kernel
theorem dX4_readOrder_68 : decode cX4_readOrder 68 = .ok (.ireturn, 1) := by decide +kernel
theorem dX4_readOrder_69 : decode cX4_readOrder 69 = .ok (.aload_n 0, 1) := by decide +kernel
theorem dX4_readOrder_70 : decode cX4_readOrder 70 = .ok (.iload_n 1, 1) := by decide +kernel
theorem dX4_readOrder_71 : decode cX4_readOrder 71 = .ok (.invokevirtual 58, 3) := by decide +kernel
theorem dX4_readOrder_74 : decode cX4_readOrder 74 = .ok (.istore_n 3, 1) := by decide +kernel
theorem dX4_readOrder_75 : decode cX4_readOrder 75 = .ok (.iload_n 3, 1) := by decide +kernel
theorem dX4_readOrder_76 : decode cX4_readOrder 76 = .ok (.ifCond .ge 5, 3) := by decide +kernel
theorem dX4_readOrder_79 : decode cX4_readOrder 79 = .ok (.iconst 0, 1) := by decide +kernel
theorem dX4_readOrder_80 : decode cX4_readOrder 80 = .ok (.ireturn, 1) := by decide +kernel
theorem dX4_readOrder_81 : decode cX4_readOrder 81 = .ok (.aload_n 0, 1) := by decide +kernel
theorem dX4_readOrder_82 : decode cX4_readOrder 82 = .ok (.iload_n 1, 1) := by decide +kernel
theorem dX4_readOrder_83 : decode cX4_readOrder 83 = .ok (.iload_n 2, 1) := by decide +kernel
theorem dX4_readOrder_84 : decode cX4_readOrder 84 = .ok (.iload_n 3, 1) := by decide +kernel
theorem dX4_readOrder_85 : decode cX4_readOrder 85 = .ok (.invokevirtual 62, 3) := by decide +kernel
theorem dX4_readOrder_88 : decode cX4_readOrder 88 = .ok (.iconst 1, 1) := by decide +kernel
theorem dX4_readOrder_89 : decode cX4_readOrder 89 = .ok (.ireturn, 1) := by decide +kernel
theorem dX4_takeOther_0 : decode cX4_takeOther 0 = .ok (.iload_n 1, 1) := by decide +kernel
theorem dX4_takeOther_1 : decode cX4_takeOther 1 = .ok (.lookupswitch 59 #[(103, 50), (112, 43), (116, 57), (120, 57)], 43) := by decide +kernel
theorem dX4_takeOther_44 : decode cX4_takeOther 44 = .ok (.aload_n 0, 1) := by decide +kernel
theorem dX4_takeOther_45 : decode cX4_takeOther 45 = .ok (.bipush 11, 2) := by decide +kernel
theorem dX4_takeOther_47 : decode cX4_takeOther 47 = .ok (.invokevirtual 66, 3) := by decide +kernel
theorem dX4_takeOther_50 : decode cX4_takeOther 50 = .ok (.ireturn, 1) := by decide +kernel
theorem dX4_takeOther_51 : decode cX4_takeOther 51 = .ok (.aload_n 0, 1) := by decide +kernel
theorem dX4_takeOther_52 : decode cX4_takeOther 52 = .ok (.bipush 12, 2) := by decide +kernel
theorem dX4_takeOther_54 : decode cX4_takeOther 54 = .ok (.invokevirtual 66, 3) := by decide +kernel
theorem dX4_takeOther_57 : decode cX4_takeOther 57 = .ok (.ireturn, 1) := by decide +kernel
theorem dX4_takeOther_58 : decode cX4_takeOther 58 = .ok (.iconst 0, 1) := by decide +kernel
theorem dX4_takeOther_59 : decode cX4_takeOther 59 = .ok (.ireturn, 1) := by decide +kernel
theorem dX4_takeOther_60 : decode cX4_takeOther 60 = .ok (.aload_n 0, 1) := by decide +kernel
theorem dX4_takeOther_61 : decode cX4_takeOther 61 = .ok (.invokevirtual 55, 3) := by decide +kernel
theorem dX4_takeOther_64 : decode cX4_takeOther 64 = .ok (.ireturn, 1) := by decide +kernel
theorem dX4_add_0 : decode cX4_add 0 = .ok (.aload_n 0, 1) := by decide +kernel
theorem dX4_add_1 : decode cX4_add 1 = .ok (.getfield 32, 3) := by decide +kernel
theorem dX4_add_4 : decode cX4_add 4 = .ok (.ifCond .lt 79, 3) := by decide +kernel
theorem dX4_add_7 : decode cX4_add 7 = .ok (.aload_n 0, 1) := by decide +kernel
theorem dX4_add_8 : decode cX4_add 8 = .ok (.getfield 32, 3) := by decide +kernel
theorem dX4_add_11 : decode cX4_add 11 = .ok (.aload_n 0, 1) := by decide +kernel
theorem dX4_add_12 : decode cX4_add 12 = .ok (.getfield 9, 3) := by decide +kernel
theorem dX4_add_15 : decode cX4_add 15 = .ok (.arraylength, 1) := by decide +kernel
theorem dX4_add_16 : decode cX4_add 16 = .ok (.if_icmp .ge 67, 3) := by decide +kernel
theorem dX4_add_19 : decode cX4_add 19 = .ok (.aload_n 0, 1) := by decide +kernel
theorem dX4_add_20 : decode cX4_add 20 = .ok (.getfield 32, 3) := by decide +kernel
theorem dX4_add_23 : decode cX4_add 23 = .ok (.aload_n 0, 1) := by decide +kernel
theorem dX4_add_24 : decode cX4_add 24 = .ok (.getfield 15, 3) := by decide +kernel
theorem dX4_add_27 : decode cX4_add 27 = .ok (.arraylength, 1) := by decide +kernel
theorem dX4_add_28 : decode cX4_add 28 = .ok (.if_icmp .ge 55, 3) := by decide +kernel
theorem dX4_add_31 : decode cX4_add 31 = .ok (.aload_n 0, 1) := by decide +kernel
theorem dX4_add_32 : decode cX4_add 32 = .ok (.getfield 32, 3) := by decide +kernel
theorem dX4_add_35 : decode cX4_add 35 = .ok (.aload_n 0, 1) := by decide +kernel
theorem dX4_add_36 : decode cX4_add 36 = .ok (.getfield 18, 3) := by decide +kernel
theorem dX4_add_39 : decode cX4_add 39 = .ok (.arraylength, 1) := by decide +kernel
theorem dX4_add_40 : decode cX4_add 40 = .ok (.if_icmp .ge 43, 3) := by decide +kernel
theorem dX4_add_43 : decode cX4_add 43 = .ok (.aload_n 0, 1) := by decide +kernel
theorem dX4_add_44 : decode cX4_add 44 = .ok (.getfield 9, 3) := by decide +kernel
theorem dX4_add_47 : decode cX4_add 47 = .ok (.aload_n 0, 1) := by decide +kernel
theorem dX4_add_48 : decode cX4_add 48 = .ok (.getfield 32, 3) := by decide +kernel
theorem dX4_add_51 : decode cX4_add 51 = .ok (.iload_n 1, 1) := by decide +kernel
theorem dX4_add_52 : decode cX4_add 52 = .ok (.iastore, 1) := by decide +kernel
theorem dX4_add_53 : decode cX4_add 53 = .ok (.aload_n 0, 1) := by decide +kernel
theorem dX4_add_54 : decode cX4_add 54 = .ok (.getfield 15, 3) := by decide +kernel
theorem dX4_add_57 : decode cX4_add 57 = .ok (.aload_n 0, 1) := by decide +kernel
theorem dX4_add_58 : decode cX4_add 58 = .ok (.getfield 32, 3) := by decide +kernel
theorem dX4_add_61 : decode cX4_add 61 = .ok (.iload_n 2, 1) := by decide +kernel
theorem dX4_add_62 : decode cX4_add 62 = .ok (.iastore, 1) := by decide +kernel
theorem dX4_add_63 : decode cX4_add 63 = .ok (.aload_n 0, 1) := by decide +kernel
theorem dX4_add_64 : decode cX4_add 64 = .ok (.getfield 18, 3) := by decide +kernel
theorem dX4_add_67 : decode cX4_add 67 = .ok (.aload_n 0, 1) := by decide +kernel
theorem dX4_add_68 : decode cX4_add 68 = .ok (.getfield 32, 3) := by decide +kernel
theorem dX4_add_71 : decode cX4_add 71 = .ok (.iload_n 3, 1) := by decide +kernel
theorem dX4_add_72 : decode cX4_add 72 = .ok (.iastore, 1) := by decide +kernel
theorem dX4_add_73 : decode cX4_add 73 = .ok (.aload_n 0, 1) := by decide +kernel
theorem dX4_add_74 : decode cX4_add 74 = .ok (.dup, 1) := by decide +kernel
theorem dX4_add_75 : decode cX4_add 75 = .ok (.getfield 32, 3) := by decide +kernel
theorem dX4_add_78 : decode cX4_add 78 = .ok (.iconst 1, 1) := by decide +kernel
theorem dX4_add_79 : decode cX4_add 79 = .ok (.iadd, 1) := by decide +kernel
theorem dX4_add_80 : decode cX4_add 80 = .ok (.putfield 32, 3) := by decide +kernel
theorem dX4_add_83 : decode cX4_add 83 = .ok (.return_, 1) := by decide +kernel
theorem dX4_isKind_0 : decode cX4_isKind 0 = .ok (.iload_n 0, 1) := by decide +kernel
theorem dX4_isKind_1 : decode cX4_isKind 1 = .ok (.bipush 98, 2) := by decide +kernel
theorem dX4_isKind_3 : decode cX4_isKind 3 = .ok (.if_icmp .eq 39, 3) := by decide +kernel
theorem dX4_isKind_6 : decode cX4_isKind 6 = .ok (.iload_n 0, 1) := by decide +kernel
theorem dX4_isKind_7 : decode cX4_isKind 7 = .ok (.bipush 112, 2) := by decide +kernel
theorem dX4_isKind_9 : decode cX4_isKind 9 = .ok (.if_icmp .eq 33, 3) := by decide +kernel
theorem dX4_isKind_12 : decode cX4_isKind 12 = .ok (.iload_n 0, 1) := by decide +kernel
theorem dX4_isKind_13 : decode cX4_isKind 13 = .ok (.bipush 103, 2) := by decide +kernel
theorem dX4_isKind_15 : decode cX4_isKind 15 = .ok (.if_icmp .eq 27, 3) := by decide +kernel
theorem dX4_isKind_18 : decode cX4_isKind 18 = .ok (.iload_n 0, 1) := by decide +kernel
theorem dX4_isKind_19 : decode cX4_isKind 19 = .ok (.bipush 116, 2) := by decide +kernel
theorem dX4_isKind_21 : decode cX4_isKind 21 = .ok (.if_icmp .eq 21, 3) := by decide +kernel
theorem dX4_isKind_24 : decode cX4_isKind 24 = .ok (.iload_n 0, 1) := by decide +kernel
theorem dX4_isKind_25 : decode cX4_isKind 25 = .ok (.bipush 115, 2) := by decide +kernel
theorem dX4_isKind_27 : decode cX4_isKind 27 = .ok (.if_icmp .eq 15, 3) := by decide +kernel
theorem dX4_isKind_30 : decode cX4_isKind 30 = .ok (.iload_n 0, 1) := by decide +kernel
theorem dX4_isKind_31 : decode cX4_isKind 31 = .ok (.bipush 120, 2) := by decide +kernel
theorem dX4_isKind_33 : decode cX4_isKind 33 = .ok (.if_icmp .eq 9, 3) := by decide +kernel
theorem dX4_isKind_36 : decode cX4_isKind 36 = .ok (.iload_n 0, 1) := by decide +kernel
theorem dX4_isKind_37 : decode cX4_isKind 37 = .ok (.bipush 114, 2) := by decide +kernel
theorem dX4_isKind_39 : decode cX4_isKind 39 = .ok (.if_icmp .ne 7, 3) := by decide +kernel
theorem dX4_isKind_42 : decode cX4_isKind 42 = .ok (.iconst 1, 1) := by decide +kernel
theorem dX4_isKind_43 : decode cX4_isKind 43 = .ok (.goto 4, 3) := by decide +kernel
theorem dX4_isKind_46 : decode cX4_isKind 46 = .ok (.iconst 0, 1) := by decide +kernel
theorem dX4_isKind_47 : decode cX4_isKind 47 = .ok (.ireturn, 1) := by decide +kernel
theorem dX4_peek_0 : decode cX4_peek 0 = .ok (.aload_n 0, 1) := by decide +kernel
theorem dX4_peek_1 : decode cX4_peek 1 = .ok (.getfield 21, 3) := by decide +kernel
theorem dX4_peek_4 : decode cX4_peek 4 = .ok (.ifnull 37, 3) := by decide +kernel
theorem dX4_peek_7 : decode cX4_peek 7 = .ok (.aload_n 0, 1) := by decide +kernel
theorem dX4_peek_8 : decode cX4_peek 8 = .ok (.getfield 29, 3) := by decide +kernel
theorem dX4_peek_11 : decode cX4_peek 11 = .ok (.ifCond .lt 30, 3) := by decide +kernel
theorem dX4_peek_14 : decode cX4_peek 14 = .ok (.aload_n 0, 1) := by decide +kernel
theorem dX4_peek_15 : decode cX4_peek 15 = .ok (.getfield 29, 3) := by decide +kernel
theorem dX4_peek_18 : decode cX4_peek 18 = .ok (.aload_n 0, 1) := by decide +kernel
theorem dX4_peek_19 : decode cX4_peek 19 = .ok (.getfield 25, 3) := by decide +kernel
theorem dX4_peek_22 : decode cX4_peek 22 = .ok (.if_icmp .ge 19, 3) := by decide +kernel
theorem dX4_peek_25 : decode cX4_peek 25 = .ok (.aload_n 0, 1) := by decide +kernel
theorem dX4_peek_26 : decode cX4_peek 26 = .ok (.getfield 29, 3) := by decide +kernel
theorem dX4_peek_29 : decode cX4_peek 29 = .ok (.aload_n 0, 1) := by decide +kernel
theorem dX4_peek_30 : decode cX4_peek 30 = .ok (.getfield 21, 3) := by decide +kernel
theorem dX4_peek_33 : decode cX4_peek 33 = .ok (.arraylength, 1) := by decide +kernel
theorem dX4_peek_34 : decode cX4_peek 34 = .ok (.if_icmp .ge 7, 3) := by decide +kernel
theorem dX4_peek_37 : decode cX4_peek 37 = .ok (.iconst 1, 1) := by decide +kernel
theorem dX4_peek_38 : decode cX4_peek 38 = .ok (.goto 4, 3) := by decide +kernel
theorem dX4_peek_41 : decode cX4_peek 41 = .ok (.iconst 0, 1) := by decide +kernel
theorem dX4_peek_42 : decode cX4_peek 42 = .ok (.istore_n 1, 1) := by decide +kernel
theorem dX4_peek_43 : decode cX4_peek 43 = .ok (.iload_n 1, 1) := by decide +kernel
theorem dX4_peek_44 : decode cX4_peek 44 = .ok (.ifCond .eq 15, 3) := by decide +kernel
theorem dX4_peek_47 : decode cX4_peek 47 = .ok (.aload_n 0, 1) := by decide +kernel
theorem dX4_peek_48 : decode cX4_peek 48 = .ok (.getfield 21, 3) := by decide +kernel
theorem dX4_peek_51 : decode cX4_peek 51 = .ok (.aload_n 0, 1) := by decide +kernel
theorem dX4_peek_52 : decode cX4_peek 52 = .ok (.getfield 29, 3) := by decide +kernel
theorem dX4_peek_55 : decode cX4_peek 55 = .ok (.caload, 1) := by decide +kernel
theorem dX4_peek_56 : decode cX4_peek 56 = .ok (.goto 4, 3) := by decide +kernel
theorem dX4_peek_59 : decode cX4_peek 59 = .ok (.iconst 0, 1) := by decide +kernel
theorem dX4_peek_60 : decode cX4_peek 60 = .ok (.ireturn, 1) := by decide +kernel
theorem dX4_take_0 : decode cX4_take 0 = .ok (.aload_n 0, 1) := by decide +kernel
theorem dX4_take_1 : decode cX4_take 1 = .ok (.invokevirtual 43, 3) := by decide +kernel
theorem dX4_take_4 : decode cX4_take 4 = .ok (.iload_n 1, 1) := by decide +kernel
theorem dX4_take_5 : decode cX4_take 5 = .ok (.if_icmp .ne 7, 3) := by decide +kernel
theorem dX4_take_8 : decode cX4_take 8 = .ok (.iconst 1, 1) := by decide +kernel
theorem dX4_take_9 : decode cX4_take 9 = .ok (.goto 4, 3) := by decide +kernel
theorem dX4_take_12 : decode cX4_take 12 = .ok (.iconst 0, 1) := by decide +kernel
theorem dX4_take_13 : decode cX4_take 13 = .ok (.istore_n 2, 1) := by decide +kernel
theorem dX4_take_14 : decode cX4_take 14 = .ok (.iload_n 2, 1) := by decide +kernel
theorem dX4_take_15 : decode cX4_take 15 = .ok (.ifCond .eq 13, 3) := by decide +kernel
theorem dX4_take_18 : decode cX4_take 18 = .ok (.aload_n 0, 1) := by decide +kernel
theorem dX4_take_19 : decode cX4_take 19 = .ok (.dup, 1) := by decide +kernel
theorem dX4_take_20 : decode cX4_take 20 = .ok (.getfield 29, 3) := by decide +kernel
theorem dX4_take_23 : decode cX4_take 23 = .ok (.iconst 1, 1) := by decide +kernel
theorem dX4_take_24 : decode cX4_take 24 = .ok (.iadd, 1) := by decide +kernel
theorem dX4_take_25 : decode cX4_take 25 = .ok (.putfield 29, 3) := by decide +kernel
theorem dX4_take_28 : decode cX4_take 28 = .ok (.iload_n 2, 1) := by decide +kernel
theorem dX4_take_29 : decode cX4_take 29 = .ok (.ireturn, 1) := by decide +kernel
theorem dX4_takeDigit_0 : decode cX4_takeDigit 0 = .ok (.aload_n 0, 1) := by decide +kernel
theorem dX4_takeDigit_1 : decode cX4_takeDigit 1 = .ok (.invokevirtual 43, 3) := by decide +kernel
theorem dX4_takeDigit_4 : decode cX4_takeDigit 4 = .ok (.istore_n 1, 1) := by decide +kernel
theorem dX4_takeDigit_5 : decode cX4_takeDigit 5 = .ok (.iload_n 1, 1) := by decide +kernel
theorem dX4_takeDigit_6 : decode cX4_takeDigit 6 = .ok (.bipush 48, 2) := by decide +kernel
theorem dX4_takeDigit_8 : decode cX4_takeDigit 8 = .ok (.if_icmp .lt 9, 3) := by decide +kernel
theorem dX4_takeDigit_11 : decode cX4_takeDigit 11 = .ok (.iload_n 1, 1) := by decide +kernel
theorem dX4_takeDigit_12 : decode cX4_takeDigit 12 = .ok (.bipush 57, 2) := by decide +kernel
theorem dX4_takeDigit_14 : decode cX4_takeDigit 14 = .ok (.if_icmp .le 5, 3) := by decide +kernel
theorem dX4_takeDigit_17 : decode cX4_takeDigit 17 = .ok (.iconst (-1), 1) := by decide +kernel
theorem dX4_takeDigit_18 : decode cX4_takeDigit 18 = .ok (.ireturn, 1) := by decide +kernel
theorem dX4_takeDigit_19 : decode cX4_takeDigit 19 = .ok (.aload_n 0, 1) := by decide +kernel
theorem dX4_takeDigit_20 : decode cX4_takeDigit 20 = .ok (.dup, 1) := by decide +kernel
theorem dX4_takeDigit_21 : decode cX4_takeDigit 21 = .ok (.getfield 29, 3) := by decide +kernel
theorem dX4_takeDigit_24 : decode cX4_takeDigit 24 = .ok (.iconst 1, 1) := by decide +kernel
theorem dX4_takeDigit_25 : decode cX4_takeDigit 25 = .ok (.iadd, 1) := by decide +kernel
theorem dX4_takeDigit_26 : decode cX4_takeDigit 26 = .ok (.putfield 29, 3) := by decide +kernel
theorem dX4_takeDigit_29 : decode cX4_takeDigit 29 = .ok (.iload_n 1, 1) := by decide +kernel
theorem dX4_takeDigit_30 : decode cX4_takeDigit 30 = .ok (.bipush 48, 2) := by decide +kernel
theorem dX4_takeDigit_32 : decode cX4_takeDigit 32 = .ok (.isub, 1) := by decide +kernel
theorem dX4_takeDigit_33 : decode cX4_takeDigit 33 = .ok (.ireturn, 1) := by decide +kernel
theorem dX4_takeNumber_0 : decode cX4_takeNumber 0 = .ok (.aload_n 0, 1) := by decide +kernel
theorem dX4_takeNumber_1 : decode cX4_takeNumber 1 = .ok (.invokevirtual 55, 3) := by decide +kernel
theorem dX4_takeNumber_4 : decode cX4_takeNumber 4 = .ok (.istore_n 1, 1) := by decide +kernel
theorem dX4_takeNumber_5 : decode cX4_takeNumber 5 = .ok (.iload_n 1, 1) := by decide +kernel
theorem dX4_takeNumber_6 : decode cX4_takeNumber 6 = .ok (.istore_n 2, 1) := by decide +kernel
theorem dX4_takeNumber_7 : decode cX4_takeNumber 7 = .ok (.iconst 1, 1) := by decide +kernel
theorem dX4_takeNumber_8 : decode cX4_takeNumber 8 = .ok (.istore_n 3, 1) := by decide +kernel
theorem dX4_takeNumber_9 : decode cX4_takeNumber 9 = .ok (.iload_n 3, 1) := by decide +kernel
theorem dX4_takeNumber_10 : decode cX4_takeNumber 10 = .ok (.iconst 3, 1) := by decide +kernel
theorem dX4_takeNumber_11 : decode cX4_takeNumber 11 = .ok (.if_icmp .ge 29, 3) := by decide +kernel
theorem dX4_takeNumber_14 : decode cX4_takeNumber 14 = .ok (.iload_n 2, 1) := by decide +kernel
theorem dX4_takeNumber_15 : decode cX4_takeNumber 15 = .ok (.ifCond .lt 25, 3) := by decide +kernel
theorem dX4_takeNumber_18 : decode cX4_takeNumber 18 = .ok (.aload_n 0, 1) := by decide +kernel
theorem dX4_takeNumber_19 : decode cX4_takeNumber 19 = .ok (.invokevirtual 55, 3) := by decide +kernel
theorem dX4_takeNumber_22 : decode cX4_takeNumber 22 = .ok (.istore_n 2, 1) := by decide +kernel
theorem dX4_takeNumber_23 : decode cX4_takeNumber 23 = .ok (.iload_n 2, 1) := by decide +kernel
theorem dX4_takeNumber_24 : decode cX4_takeNumber 24 = .ok (.ifCond .lt 10, 3) := by decide +kernel
theorem dX4_takeNumber_27 : decode cX4_takeNumber 27 = .ok (.bipush 10, 2) := by decide +kernel
theorem dX4_takeNumber_29 : decode cX4_takeNumber 29 = .ok (.iload_n 1, 1) := by decide +kernel
theorem dX4_takeNumber_30 : decode cX4_takeNumber 30 = .ok (.imul, 1) := by decide +kernel
theorem dX4_takeNumber_31 : decode cX4_takeNumber 31 = .ok (.iload_n 2, 1) := by decide +kernel
theorem dX4_takeNumber_32 : decode cX4_takeNumber 32 = .ok (.iadd, 1) := by decide +kernel
theorem dX4_takeNumber_33 : decode cX4_takeNumber 33 = .ok (.istore_n 1, 1) := by decide +kernel
theorem dX4_takeNumber_34 : decode cX4_takeNumber 34 = .ok (.iinc 3 1, 3) := by decide +kernel
theorem dX4_takeNumber_37 : decode cX4_takeNumber 37 = .ok (.goto (-28), 3) := by decide +kernel
theorem dX4_takeNumber_40 : decode cX4_takeNumber 40 = .ok (.iload_n 1, 1) := by decide +kernel
theorem dX4_takeNumber_41 : decode cX4_takeNumber 41 = .ok (.ireturn, 1) := by decide +kernel
theorem dX4_takeCode_0 : decode cX4_takeCode 0 = .ok (.aload_n 0, 1) := by decide +kernel
theorem dX4_takeCode_1 : decode cX4_takeCode 1 = .ok (.invokevirtual 43, 3) := by decide +kernel
theorem dX4_takeCode_4 : decode cX4_takeCode 4 = .ok (.invokestatic 69, 3) := by decide +kernel
theorem dX4_takeCode_7 : decode cX4_takeCode 7 = .ok (.istore_n 2, 1) := by decide +kernel
theorem dX4_takeCode_8 : decode cX4_takeCode 8 = .ok (.iload_n 2, 1) := by decide +kernel
theorem dX4_takeCode_9 : decode cX4_takeCode 9 = .ok (.ifCond .lt 8, 3) := by decide +kernel
theorem dX4_takeCode_12 : decode cX4_takeCode 12 = .ok (.iload_n 2, 1) := by decide +kernel
theorem dX4_takeCode_13 : decode cX4_takeCode 13 = .ok (.iload_n 1, 1) := by decide +kernel
theorem dX4_takeCode_14 : decode cX4_takeCode 14 = .ok (.if_icmp .le 5, 3) := by decide +kernel
theorem dX4_takeCode_17 : decode cX4_takeCode 17 = .ok (.iconst (-1), 1) := by decide +kernel
theorem dX4_takeCode_18 : decode cX4_takeCode 18 = .ok (.ireturn, 1) := by decide +kernel
theorem dX4_takeCode_19 : decode cX4_takeCode 19 = .ok (.aload_n 0, 1) := by decide +kernel
theorem dX4_takeCode_20 : decode cX4_takeCode 20 = .ok (.dup, 1) := by decide +kernel
theorem dX4_takeCode_21 : decode cX4_takeCode 21 = .ok (.getfield 29, 3) := by decide +kernel
theorem dX4_takeCode_24 : decode cX4_takeCode 24 = .ok (.iconst 1, 1) := by decide +kernel
theorem dX4_takeCode_25 : decode cX4_takeCode 25 = .ok (.iadd, 1) := by decide +kernel
theorem dX4_takeCode_26 : decode cX4_takeCode 26 = .ok (.putfield 29, 3) := by decide +kernel
theorem dX4_takeCode_29 : decode cX4_takeCode 29 = .ok (.iload_n 2, 1) := by decide +kernel
theorem dX4_takeCode_30 : decode cX4_takeCode 30 = .ok (.ireturn, 1) := by decide +kernel
