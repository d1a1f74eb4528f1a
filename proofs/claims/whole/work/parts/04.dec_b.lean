theorem dX10_init_0 : decode cX10_init 0 = .ok (.aload_n 0, 1) := by decide +kernel
theorem dX10_init_1 : decode cX10_init 1 = .ok (.invokespecial 3, 3) := by decide +kernel
theorem dX10_init_4 : decode cX10_init 4 = .ok (.aload_n 0, 1) := by decide +kernel
theorem dX10_init_5 : decode cX10_init 5 = .ok (.new 9, 3) := by decide +kernel
theorem dX10_init_8 : decode cX10_init 8 = .ok (.dup, 1) := by decide +kernel
theorem dX10_init_9 : decode cX10_init 9 = .ok (.invokespecial 11, 3) := by decide +kernel
theorem dX10_init_12 : decode cX10_init 12 = .ok (.putfield 12, 3) := by decide +kernel
theorem dX10_init_15 : decode cX10_init 15 = .ok (.aload_n 0, 1) := by decide +kernel
theorem dX10_init_16 : decode cX10_init 16 = .ok (.new 16, 3) := by decide +kernel
theorem dX10_init_19 : decode cX10_init 19 = .ok (.dup, 1) := by decide +kernel
theorem dX10_init_20 : decode cX10_init 20 = .ok (.invokespecial 18, 3) := by decide +kernel
theorem dX10_init_23 : decode cX10_init 23 = .ok (.putfield 19, 3) := by decide +kernel
theorem dX10_init_26 : decode cX10_init 26 = .ok (.aload_n 0, 1) := by decide +kernel
theorem dX10_init_27 : decode cX10_init 27 = .ok (.bipush 20, 2) := by decide +kernel
theorem dX10_init_29 : decode cX10_init 29 = .ok (.anewarray 23, 3) := by decide +kernel
theorem dX10_init_32 : decode cX10_init 32 = .ok (.putfield 25, 3) := by decide +kernel
theorem dX10_init_35 : decode cX10_init 35 = .ok (.aload_n 0, 1) := by decide +kernel
theorem dX10_init_36 : decode cX10_init 36 = .ok (.sipush 200, 3) := by decide +kernel
theorem dX10_init_39 : decode cX10_init 39 = .ok (.anewarray 29, 3) := by decide +kernel
theorem dX10_init_42 : decode cX10_init 42 = .ok (.putfield 31, 3) := by decide +kernel
theorem dX10_init_45 : decode cX10_init 45 = .ok (.aload_n 0, 1) := by decide +kernel
theorem dX10_init_46 : decode cX10_init 46 = .ok (.bipush 8, 2) := by decide +kernel
theorem dX10_init_48 : decode cX10_init 48 = .ok (.newarray .int, 2) := by decide +kernel
theorem dX10_init_50 : decode cX10_init 50 = .ok (.putfield 35, 3) := by decide +kernel
theorem dX10_init_53 : decode cX10_init 53 = .ok (.aload_n 0, 1) := by decide +kernel
theorem dX10_init_54 : decode cX10_init 54 = .ok (.new 39, 3) := by decide +kernel
theorem dX10_init_57 : decode cX10_init 57 = .ok (.dup, 1) := by decide +kernel
theorem dX10_init_58 : decode cX10_init 58 = .ok (.aload_n 0, 1) := by decide +kernel
theorem dX10_init_59 : decode cX10_init 59 = .ok (.getfield 12, 3) := by decide +kernel
theorem dX10_init_62 : decode cX10_init 62 = .ok (.invokespecial 41, 3) := by decide +kernel
theorem dX10_init_65 : decode cX10_init 65 = .ok (.putfield 44, 3) := by decide +kernel
theorem dX10_init_68 : decode cX10_init 68 = .ok (.aload_n 0, 1) := by decide +kernel
theorem dX10_init_69 : decode cX10_init 69 = .ok (.new 48, 3) := by decide +kernel
theorem dX10_init_72 : decode cX10_init 72 = .ok (.dup, 1) := by decide +kernel
theorem dX10_init_73 : decode cX10_init 73 = .ok (.invokespecial 50, 3) := by decide +kernel
theorem dX10_init_76 : decode cX10_init 76 = .ok (.putfield 51, 3) := by decide +kernel
theorem dX10_init_79 : decode cX10_init 79 = .ok (.aload_n 0, 1) := by decide +kernel
theorem dX10_init_80 : decode cX10_init 80 = .ok (.new 55, 3) := by decide +kernel
theorem dX10_init_83 : decode cX10_init 83 = .ok (.dup, 1) := by decide +kernel
theorem dX10_init_84 : decode cX10_init 84 = .ok (.iconst 0, 1) := by decide +kernel
theorem dX10_init_85 : decode cX10_init 85 = .ok (.iconst 0, 1) := by decide +kernel
theorem dX10_init_86 : decode cX10_init 86 = .ok (.invokespecial 57, 3) := by decide +kernel
theorem dX10_init_89 : decode cX10_init 89 = .ok (.putfield 60, 3) := by decide +kernel
theorem dX10_init_92 : decode cX10_init 92 = .ok (.aload_n 0, 1) := by decide +kernel
theorem dX10_init_93 : decode cX10_init 93 = .ok (.new 64, 3) := by decide +kernel
theorem dX10_init_96 : decode cX10_init 96 = .ok (.dup, 1) := by decide +kernel
theorem dX10_init_97 : decode cX10_init 97 = .ok (.iconst 0, 1) := by decide +kernel
theorem dX10_init_98 : decode cX10_init 98 = .ok (.iconst 0, 1) := by decide +kernel
theorem dX10_init_99 : decode cX10_init 99 = .ok (.invokespecial 66, 3) := by decide +kernel
theorem dX10_init_102 : decode cX10_init 102 = .ok (.putfield 67, 3) := by decide +kernel
theorem dX10_init_105 : decode cX10_init 105 = .ok (.aload_n 0, 1) := by decide +kernel
theorem dX10_init_106 : decode cX10_init 106 = .ok (.iconst 0, 1) := by decide +kernel
theorem dX10_init_107 : decode cX10_init 107 = .ok (.putfield 71, 3) := by decide +kernel
theorem dX10_init_110 : decode cX10_init 110 = .ok (.aload_n 0, 1) := by decide +kernel
theorem dX10_init_111 : decode cX10_init 111 = .ok (.iconst 0, 1) := by decide +kernel
theorem dX10_init_112 : decode cX10_init 112 = .ok (.putfield 75, 3) := by decide +kernel
theorem dX10_init_115 : decode cX10_init 115 = .ok (.aload_n 0, 1) := by decide +kernel
theorem dX10_init_116 : decode cX10_init 116 = .ok (.iconst 0, 1) := by decide +kernel
theorem dX10_init_117 : decode cX10_init 117 = .ok (.putfield 78, 3) := by decide +kernel
theorem dX10_init_120 : decode cX10_init 120 = .ok (.return_, 1) := by decide +kernel
theorem dX10_board_0 : decode cX10_board 0 = .ok (.iload_n 1, 1) := by decide +kernel
theorem dX10_board_1 : decode cX10_board 1 = .ok (.iconst 1, 1) := by decide +kernel
theorem dX10_board_2 : decode cX10_board 2 = .ok (.bipush 8, 2) := by decide +kernel
theorem dX10_board_4 : decode cX10_board 4 = .ok (.invokestatic 81, 3) := by decide +kernel
theorem dX10_board_7 : decode cX10_board 7 = .ok (.ifCond .eq 13, 3) := by decide +kernel
theorem dX10_board_10 : decode cX10_board 10 = .ok (.iload_n 2, 1) := by decide +kernel
theorem dX10_board_11 : decode cX10_board 11 = .ok (.iconst 1, 1) := by decide +kernel
theorem dX10_board_12 : decode cX10_board 12 = .ok (.bipush 8, 2) := by decide +kernel
theorem dX10_board_14 : decode cX10_board 14 = .ok (.invokestatic 81, 3) := by decide +kernel
theorem dX10_board_17 : decode cX10_board 17 = .ok (.ifCond .ne 5, 3) := by decide +kernel
theorem dX10_board_20 : decode cX10_board 20 = .ok (.iconst (-1), 1) := by decide +kernel
theorem dX10_board_21 : decode cX10_board 21 = .ok (.ireturn, 1) := by decide +kernel
theorem dX10_board_22 : decode cX10_board 22 = .ok (.aload_n 0, 1) := by decide +kernel
theorem dX10_board_23 : decode cX10_board 23 = .ok (.getfield 60, 3) := by decide +kernel
theorem dX10_board_26 : decode cX10_board 26 = .ok (.invokevirtual 85, 3) := by decide +kernel
theorem dX10_board_29 : decode cX10_board 29 = .ok (.ifCond .eq 6, 3) := by decide +kernel
theorem dX10_board_32 : decode cX10_board 32 = .ok (.bipush (-3), 2) := by decide +kernel
theorem dX10_board_34 : decode cX10_board 34 = .ok (.ireturn, 1) := by decide +kernel
theorem dX10_board_35 : decode cX10_board 35 = .ok (.aload_n 0, 1) := by decide +kernel
theorem dX10_board_36 : decode cX10_board 36 = .ok (.new 55, 3) := by decide +kernel
theorem dX10_board_39 : decode cX10_board 39 = .ok (.dup, 1) := by decide +kernel
theorem dX10_board_40 : decode cX10_board 40 = .ok (.iload_n 1, 1) := by decide +kernel
theorem dX10_board_41 : decode cX10_board 41 = .ok (.iload_n 2, 1) := by decide +kernel
theorem dX10_board_42 : decode cX10_board 42 = .ok (.invokespecial 57, 3) := by decide +kernel
theorem dX10_board_45 : decode cX10_board 45 = .ok (.putfield 60, 3) := by decide +kernel
theorem dX10_board_48 : decode cX10_board 48 = .ok (.iconst 1, 1) := by decide +kernel
theorem dX10_board_49 : decode cX10_board 49 = .ok (.ireturn, 1) := by decide +kernel
theorem dX10_table_0 : decode cX10_table 0 = .ok (.iload_n 1, 1) := by decide +kernel
theorem dX10_table_1 : decode cX10_table 1 = .ok (.invokestatic 89, 3) := by decide +kernel
theorem dX10_table_4 : decode cX10_table 4 = .ok (.ifCond .eq 17, 3) := by decide +kernel
theorem dX10_table_7 : decode cX10_table 7 = .ok (.iload_n 2, 1) := by decide +kernel
theorem dX10_table_8 : decode cX10_table 8 = .ok (.invokestatic 93, 3) := by decide +kernel
theorem dX10_table_11 : decode cX10_table 11 = .ok (.ifCond .eq 10, 3) := by decide +kernel
theorem dX10_table_14 : decode cX10_table 14 = .ok (.iload_n 3, 1) := by decide +kernel
theorem dX10_table_15 : decode cX10_table 15 = .ok (.invokestatic 93, 3) := by decide +kernel
theorem dX10_table_18 : decode cX10_table 18 = .ok (.ifCond .ne 5, 3) := by decide +kernel
theorem dX10_table_21 : decode cX10_table 21 = .ok (.iconst (-1), 1) := by decide +kernel
theorem dX10_table_22 : decode cX10_table 22 = .ok (.ireturn, 1) := by decide +kernel
theorem dX10_table_23 : decode cX10_table 23 = .ok (.aload_n 0, 1) := by decide +kernel
theorem dX10_table_24 : decode cX10_table 24 = .ok (.getfield 12, 3) := by decide +kernel
theorem dX10_table_27 : decode cX10_table 27 = .ok (.getfield 96, 3) := by decide +kernel
theorem dX10_table_30 : decode cX10_table 30 = .ok (.iload_n 1, 1) := by decide +kernel
theorem dX10_table_31 : decode cX10_table 31 = .ok (.aaload, 1) := by decide +kernel
theorem dX10_table_32 : decode cX10_table 32 = .ok (.iload_n 2, 1) := by decide +kernel
theorem dX10_table_33 : decode cX10_table 33 = .ok (.iload_n 3, 1) := by decide +kernel
theorem dX10_table_34 : decode cX10_table 34 = .ok (.invokestatic 100, 3) := by decide +kernel
theorem dX10_table_37 : decode cX10_table 37 = .ok (.ireturn, 1) := by decide +kernel
theorem dX10_drying_0 : decode cX10_drying 0 = .ok (.iload_n 1, 1) := by decide +kernel
theorem dX10_drying_1 : decode cX10_drying 1 = .ok (.invokestatic 89, 3) := by decide +kernel
theorem dX10_drying_4 : decode cX10_drying 4 = .ok (.ifCond .eq 14, 3) := by decide +kernel
theorem dX10_drying_7 : decode cX10_drying 7 = .ok (.iload_n 2, 1) := by decide +kernel
theorem dX10_drying_8 : decode cX10_drying 8 = .ok (.iconst 0, 1) := by decide +kernel
theorem dX10_drying_9 : decode cX10_drying 9 = .ok (.sipush 999, 3) := by decide +kernel
theorem dX10_drying_12 : decode cX10_drying 12 = .ok (.invokestatic 81, 3) := by decide +kernel
theorem dX10_drying_15 : decode cX10_drying 15 = .ok (.ifCond .ne 5, 3) := by decide +kernel
theorem dX10_drying_18 : decode cX10_drying 18 = .ok (.iconst (-1), 1) := by decide +kernel
theorem dX10_drying_19 : decode cX10_drying 19 = .ok (.ireturn, 1) := by decide +kernel
theorem dX10_drying_20 : decode cX10_drying 20 = .ok (.aload_n 0, 1) := by decide +kernel
theorem dX10_drying_21 : decode cX10_drying 21 = .ok (.getfield 12, 3) := by decide +kernel
theorem dX10_drying_24 : decode cX10_drying 24 = .ok (.getfield 104, 3) := by decide +kernel
theorem dX10_drying_27 : decode cX10_drying 27 = .ok (.iload_n 1, 1) := by decide +kernel
theorem dX10_drying_28 : decode cX10_drying 28 = .ok (.iload_n 2, 1) := by decide +kernel
theorem dX10_drying_29 : decode cX10_drying 29 = .ok (.invokestatic 100, 3) := by decide +kernel
theorem dX10_drying_32 : decode cX10_drying 32 = .ok (.ireturn, 1) := by decide +kernel
theorem dX10_against_0 : decode cX10_against 0 = .ok (.iload_n 1, 1) := by decide +kernel
theorem dX10_against_1 : decode cX10_against 1 = .ok (.invokestatic 89, 3) := by decide +kernel
theorem dX10_against_4 : decode cX10_against 4 = .ok (.ifCond .eq 19, 3) := by decide +kernel
theorem dX10_against_7 : decode cX10_against 7 = .ok (.iload_n 2, 1) := by decide +kernel
theorem dX10_against_8 : decode cX10_against 8 = .ok (.invokestatic 89, 3) := by decide +kernel
theorem dX10_against_11 : decode cX10_against 11 = .ok (.ifCond .eq 12, 3) := by decide +kernel
theorem dX10_against_14 : decode cX10_against 14 = .ok (.iload_n 3, 1) := by decide +kernel
theorem dX10_against_15 : decode cX10_against 15 = .ok (.iconst 0, 1) := by decide +kernel
theorem dX10_against_16 : decode cX10_against 16 = .ok (.iconst 1, 1) := by decide +kernel
theorem dX10_against_17 : decode cX10_against 17 = .ok (.invokestatic 81, 3) := by decide +kernel
theorem dX10_against_20 : decode cX10_against 20 = .ok (.ifCond .ne 5, 3) := by decide +kernel
theorem dX10_against_23 : decode cX10_against 23 = .ok (.iconst (-1), 1) := by decide +kernel
theorem dX10_against_24 : decode cX10_against 24 = .ok (.ireturn, 1) := by decide +kernel
theorem dX10_against_25 : decode cX10_against 25 = .ok (.aload_n 0, 1) := by decide +kernel
theorem dX10_against_26 : decode cX10_against 26 = .ok (.getfield 12, 3) := by decide +kernel
theorem dX10_against_29 : decode cX10_against 29 = .ok (.getfield 107, 3) := by decide +kernel
theorem dX10_against_32 : decode cX10_against 32 = .ok (.iload_n 1, 1) := by decide +kernel
theorem dX10_against_33 : decode cX10_against 33 = .ok (.aaload, 1) := by decide +kernel
theorem dX10_against_34 : decode cX10_against 34 = .ok (.iload_n 2, 1) := by decide +kernel
theorem dX10_against_35 : decode cX10_against 35 = .ok (.iload_n 3, 1) := by decide +kernel
theorem dX10_against_36 : decode cX10_against 36 = .ok (.invokestatic 100, 3) := by decide +kernel
theorem dX10_against_39 : decode cX10_against 39 = .ok (.ireturn, 1) := by decide +kernel
theorem dX10_mixed_0 : decode cX10_mixed 0 = .ok (.iload_n 1, 1) := by decide +kernel
theorem dX10_mixed_1 : decode cX10_mixed 1 = .ok (.invokestatic 89, 3) := by decide +kernel
theorem dX10_mixed_4 : decode cX10_mixed 4 = .ok (.ifCond .eq 22, 3) := by decide +kernel
theorem dX10_mixed_7 : decode cX10_mixed 7 = .ok (.iload_n 2, 1) := by decide +kernel
theorem dX10_mixed_8 : decode cX10_mixed 8 = .ok (.invokestatic 89, 3) := by decide +kernel
theorem dX10_mixed_11 : decode cX10_mixed 11 = .ok (.ifCond .eq 15, 3) := by decide +kernel
theorem dX10_mixed_14 : decode cX10_mixed 14 = .ok (.iload_n 1, 1) := by decide +kernel
theorem dX10_mixed_15 : decode cX10_mixed 15 = .ok (.iload_n 2, 1) := by decide +kernel
theorem dX10_mixed_16 : decode cX10_mixed 16 = .ok (.if_icmp .eq 10, 3) := by decide +kernel
theorem dX10_mixed_19 : decode cX10_mixed 19 = .ok (.iload_n 3, 1) := by decide +kernel
theorem dX10_mixed_20 : decode cX10_mixed 20 = .ok (.invokestatic 89, 3) := by decide +kernel
theorem dX10_mixed_23 : decode cX10_mixed 23 = .ok (.ifCond .ne 5, 3) := by decide +kernel
theorem dX10_mixed_26 : decode cX10_mixed 26 = .ok (.iconst (-1), 1) := by decide +kernel
theorem dX10_mixed_27 : decode cX10_mixed 27 = .ok (.ireturn, 1) := by decide +kernel
theorem dX10_mixed_28 : decode cX10_mixed 28 = .ok (.aload_n 0, 1) := by decide +kernel
theorem dX10_mixed_29 : decode cX10_mixed 29 = .ok (.getfield 12, 3) := by decide +kernel
theorem dX10_mixed_32 : decode cX10_mixed 32 = .ok (.getfield 110, 3) := by decide +kernel
theorem dX10_mixed_35 : decode cX10_mixed 35 = .ok (.iload_n 2, 1) := by decide +kernel
theorem dX10_mixed_36 : decode cX10_mixed 36 = .ok (.aaload, 1) := by decide +kernel
theorem dX10_mixed_37 : decode cX10_mixed 37 = .ok (.iload_n 1, 1) := by decide +kernel
theorem dX10_mixed_38 : decode cX10_mixed 38 = .ok (.iload_n 3, 1) := by decide +kernel
theorem dX10_mixed_39 : decode cX10_mixed 39 = .ok (.iastore, 1) := by decide +kernel
theorem dX10_mixed_40 : decode cX10_mixed 40 = .ok (.aload_n 0, 1) := by decide +kernel
theorem dX10_mixed_41 : decode cX10_mixed 41 = .ok (.getfield 12, 3) := by decide +kernel
theorem dX10_mixed_44 : decode cX10_mixed 44 = .ok (.getfield 110, 3) := by decide +kernel
theorem dX10_mixed_47 : decode cX10_mixed 47 = .ok (.iload_n 1, 1) := by decide +kernel
theorem dX10_mixed_48 : decode cX10_mixed 48 = .ok (.aaload, 1) := by decide +kernel
theorem dX10_mixed_49 : decode cX10_mixed 49 = .ok (.iload_n 2, 1) := by decide +kernel
theorem dX10_mixed_50 : decode cX10_mixed 50 = .ok (.iload_n 3, 1) := by decide +kernel
theorem dX10_mixed_51 : decode cX10_mixed 51 = .ok (.invokestatic 100, 3) := by decide +kernel
theorem dX10_mixed_54 : decode cX10_mixed 54 = .ok (.ireturn, 1) := by decide +kernel
theorem dX10_lots_0 : decode cX10_lots 0 = .ok (.iload_n 1, 1) := by decide +kernel
theorem dX10_lots_1 : decode cX10_lots 1 = .ok (.ifCond .ne 24, 3) := by decide +kernel
theorem dX10_lots_4 : decode cX10_lots 4 = .ok (.iload_n 2, 1) := by decide +kernel
theorem dX10_lots_5 : decode cX10_lots 5 = .ok (.iconst 0, 1) := by decide +kernel
theorem dX10_lots_6 : decode cX10_lots 6 = .ok (.sipush 999, 3) := by decide +kernel
theorem dX10_lots_9 : decode cX10_lots 9 = .ok (.invokestatic 81, 3) := by decide +kernel
theorem dX10_lots_12 : decode cX10_lots 12 = .ok (.ifCond .eq 13, 3) := by decide +kernel
theorem dX10_lots_15 : decode cX10_lots 15 = .ok (.aload_n 0, 1) := by decide +kernel
theorem dX10_lots_16 : decode cX10_lots 16 = .ok (.getfield 19, 3) := by decide +kernel
theorem dX10_lots_19 : decode cX10_lots 19 = .ok (.iload_n 2, 1) := by decide +kernel
theorem dX10_lots_20 : decode cX10_lots 20 = .ok (.putfield 113, 3) := by decide +kernel
theorem dX10_lots_23 : decode cX10_lots 23 = .ok (.iconst 1, 1) := by decide +kernel
theorem dX10_lots_24 : decode cX10_lots 24 = .ok (.ireturn, 1) := by decide +kernel
theorem dX10_lots_25 : decode cX10_lots 25 = .ok (.iload_n 1, 1) := by decide +kernel
theorem dX10_lots_26 : decode cX10_lots 26 = .ok (.iconst 1, 1) := by decide +kernel
theorem dX10_lots_27 : decode cX10_lots 27 = .ok (.if_icmp .ne 13, 3) := by decide +kernel
theorem dX10_lots_30 : decode cX10_lots 30 = .ok (.aload_n 0, 1) := by decide +kernel
theorem dX10_lots_31 : decode cX10_lots 31 = .ok (.getfield 19, 3) := by decide +kernel
theorem dX10_lots_34 : decode cX10_lots 34 = .ok (.iload_n 2, 1) := by decide +kernel
theorem dX10_lots_35 : decode cX10_lots 35 = .ok (.putfield 116, 3) := by decide +kernel
theorem dX10_lots_38 : decode cX10_lots 38 = .ok (.iconst 1, 1) := by decide +kernel
theorem dX10_lots_39 : decode cX10_lots 39 = .ok (.ireturn, 1) := by decide +kernel
theorem dX10_lots_40 : decode cX10_lots 40 = .ok (.iconst (-1), 1) := by decide +kernel
theorem dX10_lots_41 : decode cX10_lots 41 = .ok (.ireturn, 1) := by decide +kernel
theorem dX10_minutes_0 : decode cX10_minutes 0 = .ok (.iload_n 1, 1) := by decide +kernel
theorem dX10_minutes_1 : decode cX10_minutes 1 = .ok (.iconst 1, 1) := by decide +kernel
theorem dX10_minutes_2 : decode cX10_minutes 2 = .ok (.sipush 1000, 3) := by decide +kernel
theorem dX10_minutes_5 : decode cX10_minutes 5 = .ok (.invokestatic 81, 3) := by decide +kernel
theorem dX10_minutes_8 : decode cX10_minutes 8 = .ok (.ifCond .eq 14, 3) := by decide +kernel
theorem dX10_minutes_11 : decode cX10_minutes 11 = .ok (.aload_n 0, 1) := by decide +kernel
theorem dX10_minutes_12 : decode cX10_minutes 12 = .ok (.getfield 78, 3) := by decide +kernel
theorem dX10_minutes_15 : decode cX10_minutes 15 = .ok (.iload_n 1, 1) := by decide +kernel
theorem dX10_minutes_16 : decode cX10_minutes 16 = .ok (.iadd, 1) := by decide +kernel
theorem dX10_minutes_17 : decode cX10_minutes 17 = .ok (.ldc 119, 2) := by decide +kernel
theorem dX10_minutes_19 : decode cX10_minutes 19 = .ok (.if_icmp .le 5, 3) := by decide +kernel
theorem dX10_minutes_22 : decode cX10_minutes 22 = .ok (.iconst (-1), 1) := by decide +kernel
theorem dX10_minutes_23 : decode cX10_minutes 23 = .ok (.ireturn, 1) := by decide +kernel
theorem dX10_minutes_24 : decode cX10_minutes 24 = .ok (.aload_n 0, 1) := by decide +kernel
theorem dX10_minutes_25 : decode cX10_minutes 25 = .ok (.dup, 1) := by decide +kernel
theorem dX10_minutes_26 : decode cX10_minutes 26 = .ok (.getfield 78, 3) := by decide +kernel
theorem dX10_minutes_29 : decode cX10_minutes 29 = .ok (.iload_n 1, 1) := by decide +kernel
theorem dX10_minutes_30 : decode cX10_minutes 30 = .ok (.iadd, 1) := by decide +kernel
theorem dX10_minutes_31 : decode cX10_minutes 31 = .ok (.putfield 78, 3) := by decide +kernel
theorem dX10_minutes_34 : decode cX10_minutes 34 = .ok (.aload_n 0, 1) := by decide +kernel
theorem dX10_minutes_35 : decode cX10_minutes 35 = .ok (.getfield 78, 3) := by decide +kernel
theorem dX10_minutes_38 : decode cX10_minutes 38 = .ok (.ireturn, 1) := by decide +kernel
theorem dX10_cut_0 : decode cX10_cut 0 = .ok (.new 120, 3) := by decide +kernel
theorem dX10_cut_3 : decode cX10_cut 3 = .ok (.dup, 1) := by decide +kernel
theorem dX10_cut_4 : decode cX10_cut 4 = .ok (.iload_n 1, 1) := by decide +kernel
theorem dX10_cut_5 : decode cX10_cut 5 = .ok (.invokespecial 122, 3) := by decide +kernel
theorem dX10_cut_8 : decode cX10_cut 8 = .ok (.astore_n 2, 1) := by decide +kernel
theorem dX10_cut_9 : decode cX10_cut 9 = .ok (.aload_n 2, 1) := by decide +kernel
theorem dX10_cut_10 : decode cX10_cut 10 = .ok (.aload_n 0, 1) := by decide +kernel
theorem dX10_cut_11 : decode cX10_cut 11 = .ok (.getfield 60, 3) := by decide +kernel
theorem dX10_cut_14 : decode cX10_cut 14 = .ok (.getfield 125, 3) := by decide +kernel
theorem dX10_cut_17 : decode cX10_cut 17 = .ok (.aload_n 0, 1) := by decide +kernel
theorem dX10_cut_18 : decode cX10_cut 18 = .ok (.getfield 60, 3) := by decide +kernel
theorem dX10_cut_21 : decode cX10_cut 21 = .ok (.getfield 128, 3) := by decide +kernel
theorem dX10_cut_24 : decode cX10_cut 24 = .ok (.invokevirtual 131, 3) := by decide +kernel
theorem dX10_cut_27 : decode cX10_cut 27 = .ok (.ifCond .ne 5, 3) := by decide +kernel
theorem dX10_cut_30 : decode cX10_cut 30 = .ok (.iconst (-1), 1) := by decide +kernel
theorem dX10_cut_31 : decode cX10_cut 31 = .ok (.ireturn, 1) := by decide +kernel
theorem dX10_cut_32 : decode cX10_cut 32 = .ok (.aload_n 0, 1) := by decide +kernel
theorem dX10_cut_33 : decode cX10_cut 33 = .ok (.getfield 60, 3) := by decide +kernel
theorem dX10_cut_36 : decode cX10_cut 36 = .ok (.aload_n 2, 1) := by decide +kernel
theorem dX10_cut_37 : decode cX10_cut 37 = .ok (.invokevirtual 135, 3) := by decide +kernel
theorem dX10_cut_40 : decode cX10_cut 40 = .ok (.ifCond .eq 6, 3) := by decide +kernel
theorem dX10_cut_43 : decode cX10_cut 43 = .ok (.bipush (-3), 2) := by decide +kernel
theorem dX10_cut_45 : decode cX10_cut 45 = .ok (.ireturn, 1) := by decide +kernel
theorem dX10_cut_46 : decode cX10_cut 46 = .ok (.aload_n 0, 1) := by decide +kernel
theorem dX10_cut_47 : decode cX10_cut 47 = .ok (.getfield 60, 3) := by decide +kernel
theorem dX10_cut_50 : decode cX10_cut 50 = .ok (.aload_n 2, 1) := by decide +kernel
theorem dX10_cut_51 : decode cX10_cut 51 = .ok (.invokevirtual 139, 3) := by decide +kernel
theorem dX10_cut_54 : decode cX10_cut 54 = .ok (.ireturn, 1) := by decide +kernel
theorem dX10_saw_0 : decode cX10_saw 0 = .ok (.new 120, 3) := by decide +kernel
theorem dX10_saw_3 : decode cX10_saw 3 = .ok (.dup, 1) := by decide +kernel
theorem dX10_saw_4 : decode cX10_saw 4 = .ok (.iload_n 2, 1) := by decide +kernel
theorem dX10_saw_5 : decode cX10_saw 5 = .ok (.invokespecial 122, 3) := by decide +kernel
theorem dX10_saw_8 : decode cX10_saw 8 = .ok (.astore_n 3, 1) := by decide +kernel
theorem dX10_saw_9 : decode cX10_saw 9 = .ok (.aload_n 0, 1) := by decide +kernel
theorem dX10_saw_10 : decode cX10_saw 10 = .ok (.getfield 60, 3) := by decide +kernel
theorem dX10_saw_13 : decode cX10_saw 13 = .ok (.iload_n 1, 1) := by decide +kernel
theorem dX10_saw_14 : decode cX10_saw 14 = .ok (.invokevirtual 143, 3) := by decide +kernel
theorem dX10_saw_17 : decode cX10_saw 17 = .ok (.ifCond .eq 24, 3) := by decide +kernel
theorem dX10_saw_20 : decode cX10_saw 20 = .ok (.aload_n 3, 1) := by decide +kernel
theorem dX10_saw_21 : decode cX10_saw 21 = .ok (.aload_n 0, 1) := by decide +kernel
theorem dX10_saw_22 : decode cX10_saw 22 = .ok (.getfield 60, 3) := by decide +kernel
theorem dX10_saw_25 : decode cX10_saw 25 = .ok (.getfield 125, 3) := by decide +kernel
theorem dX10_saw_28 : decode cX10_saw 28 = .ok (.aload_n 0, 1) := by decide +kernel
theorem dX10_saw_29 : decode cX10_saw 29 = .ok (.getfield 60, 3) := by decide +kernel
theorem dX10_saw_32 : decode cX10_saw 32 = .ok (.getfield 128, 3) := by decide +kernel
theorem dX10_saw_35 : decode cX10_saw 35 = .ok (.invokevirtual 131, 3) := by decide +kernel
theorem dX10_saw_38 : decode cX10_saw 38 = .ok (.ifCond .ne 5, 3) := by decide +kernel
theorem dX10_saw_41 : decode cX10_saw 41 = .ok (.iconst (-1), 1) := by decide +kernel
theorem dX10_saw_42 : decode cX10_saw 42 = .ok (.ireturn, 1) := by decide +kernel
theorem dX10_saw_43 : decode cX10_saw 43 = .ok (.aload_n 0, 1) := by decide +kernel
theorem dX10_saw_44 : decode cX10_saw 44 = .ok (.getfield 60, 3) := by decide +kernel
theorem dX10_saw_47 : decode cX10_saw 47 = .ok (.aload_n 3, 1) := by decide +kernel
theorem dX10_saw_48 : decode cX10_saw 48 = .ok (.iload_n 1, 1) := by decide +kernel
theorem dX10_saw_49 : decode cX10_saw 49 = .ok (.invokevirtual 146, 3) := by decide +kernel
theorem dX10_saw_52 : decode cX10_saw 52 = .ok (.ifCond .ne 6, 3) := by decide +kernel
theorem dX10_saw_55 : decode cX10_saw 55 = .ok (.bipush (-4), 2) := by decide +kernel
theorem dX10_saw_57 : decode cX10_saw 57 = .ok (.ireturn, 1) := by decide +kernel
theorem dX10_saw_58 : decode cX10_saw 58 = .ok (.aload_n 0, 1) := by decide +kernel
theorem dX10_saw_59 : decode cX10_saw 59 = .ok (.getfield 60, 3) := by decide +kernel
theorem dX10_saw_62 : decode cX10_saw 62 = .ok (.getfield 150, 3) := by decide +kernel
theorem dX10_saw_65 : decode cX10_saw 65 = .ok (.bipush 8, 2) := by decide +kernel
theorem dX10_saw_67 : decode cX10_saw 67 = .ok (.if_icmp .ne 6, 3) := by decide +kernel
theorem dX10_saw_70 : decode cX10_saw 70 = .ok (.bipush (-2), 2) := by decide +kernel
theorem dX10_saw_72 : decode cX10_saw 72 = .ok (.ireturn, 1) := by decide +kernel
theorem dX10_saw_73 : decode cX10_saw 73 = .ok (.aload_n 0, 1) := by decide +kernel
theorem dX10_saw_74 : decode cX10_saw 74 = .ok (.getfield 60, 3) := by decide +kernel
theorem dX10_saw_77 : decode cX10_saw 77 = .ok (.aload_n 3, 1) := by decide +kernel
theorem dX10_saw_78 : decode cX10_saw 78 = .ok (.iload_n 1, 1) := by decide +kernel
theorem dX10_saw_79 : decode cX10_saw 79 = .ok (.invokevirtual 153, 3) := by decide +kernel
theorem dX10_saw_82 : decode cX10_saw 82 = .ok (.ireturn, 1) := by decide +kernel
theorem dX10_piece_0 : decode cX10_piece 0 = .ok (.aload_n 0, 1) := by decide +kernel
theorem dX10_piece_1 : decode cX10_piece 1 = .ok (.getfield 60, 3) := by decide +kernel
theorem dX10_piece_4 : decode cX10_piece 4 = .ok (.iload_n 1, 1) := by decide +kernel
theorem dX10_piece_5 : decode cX10_piece 5 = .ok (.invokevirtual 143, 3) := by decide +kernel
theorem dX10_piece_8 : decode cX10_piece 8 = .ok (.ifCond .eq 12, 3) := by decide +kernel
theorem dX10_piece_11 : decode cX10_piece 11 = .ok (.iload_n 2, 1) := by decide +kernel
theorem dX10_piece_12 : decode cX10_piece 12 = .ok (.iconst 0, 1) := by decide +kernel
theorem dX10_piece_13 : decode cX10_piece 13 = .ok (.iconst 1, 1) := by decide +kernel
theorem dX10_piece_14 : decode cX10_piece 14 = .ok (.invokestatic 81, 3) := by decide +kernel
theorem dX10_piece_17 : decode cX10_piece 17 = .ok (.ifCond .ne 5, 3) := by decide +kernel
theorem dX10_piece_20 : decode cX10_piece 20 = .ok (.iconst (-1), 1) := by decide +kernel
theorem dX10_piece_21 : decode cX10_piece 21 = .ok (.ireturn, 1) := by decide +kernel
theorem dX10_piece_22 : decode cX10_piece 22 = .ok (.aload_n 0, 1) := by decide +kernel
theorem dX10_piece_23 : decode cX10_piece 23 = .ok (.getfield 60, 3) := by decide +kernel
theorem dX10_piece_26 : decode cX10_piece 26 = .ok (.getfield 157, 3) := by decide +kernel
theorem dX10_piece_29 : decode cX10_piece 29 = .ok (.iload_n 1, 1) := by decide +kernel
theorem dX10_piece_30 : decode cX10_piece 30 = .ok (.iload_n 2, 1) := by decide +kernel
theorem dX10_piece_31 : decode cX10_piece 31 = .ok (.invokestatic 100, 3) := by decide +kernel
theorem dX10_piece_34 : decode cX10_piece 34 = .ok (.ireturn, 1) := by decide +kernel
theorem dX10_cell_0 : decode cX10_cell 0 = .ok (.aload_n 0, 1) := by decide +kernel
theorem dX10_cell_1 : decode cX10_cell 1 = .ok (.getfield 60, 3) := by decide +kernel
theorem dX10_cell_4 : decode cX10_cell 4 = .ok (.iload_n 1, 1) := by decide +kernel
theorem dX10_cell_5 : decode cX10_cell 5 = .ok (.invokevirtual 160, 3) := by decide +kernel
theorem dX10_cell_8 : decode cX10_cell 8 = .ok (.ifCond .ne 5, 3) := by decide +kernel
theorem dX10_cell_11 : decode cX10_cell 11 = .ok (.iconst (-1), 1) := by decide +kernel
theorem dX10_cell_12 : decode cX10_cell 12 = .ok (.ireturn, 1) := by decide +kernel
theorem dX10_cell_13 : decode cX10_cell 13 = .ok (.iload_n 2, 1) := by decide +kernel
theorem dX10_cell_14 : decode cX10_cell 14 = .ok (.lookupswitch 46 #[(0, 26), (1, 36)], 26) := by decide +kernel
theorem dX10_cell_40 : decode cX10_cell 40 = .ok (.aload_n 0, 1) := by decide +kernel
theorem dX10_cell_41 : decode cX10_cell 41 = .ok (.getfield 60, 3) := by decide +kernel
theorem dX10_cell_44 : decode cX10_cell 44 = .ok (.getfield 163, 3) := by decide +kernel
theorem dX10_cell_47 : decode cX10_cell 47 = .ok (.iload_n 1, 1) := by decide +kernel
theorem dX10_cell_48 : decode cX10_cell 48 = .ok (.iaload, 1) := by decide +kernel
theorem dX10_cell_49 : decode cX10_cell 49 = .ok (.ireturn, 1) := by decide +kernel
theorem dX10_cell_50 : decode cX10_cell 50 = .ok (.aload_n 0, 1) := by decide +kernel
theorem dX10_cell_51 : decode cX10_cell 51 = .ok (.getfield 60, 3) := by decide +kernel
theorem dX10_cell_54 : decode cX10_cell 54 = .ok (.getfield 166, 3) := by decide +kernel
theorem dX10_cell_57 : decode cX10_cell 57 = .ok (.iload_n 1, 1) := by decide +kernel
theorem dX10_cell_58 : decode cX10_cell 58 = .ok (.iaload, 1) := by decide +kernel
theorem dX10_cell_59 : decode cX10_cell 59 = .ok (.ireturn, 1) := by decide +kernel
theorem dX10_cell_60 : decode cX10_cell 60 = .ok (.iconst (-1), 1) := by decide +kernel
theorem dX10_cell_61 : decode cX10_cell 61 = .ok (.ireturn, 1) := by decide +kernel
theorem dX10_islands_0 : decode cX10_islands 0 = .ok (.iload_n 1, 1) := by decide +kernel
theorem dX10_islands_1 : decode cX10_islands 1 = .ok (.iconst 0, 1) := by decide +kernel
theorem dX10_islands_2 : decode cX10_islands 2 = .ok (.iconst 2, 1) := by decide +kernel
theorem dX10_islands_3 : decode cX10_islands 3 = .ok (.invokestatic 81, 3) := by decide +kernel
theorem dX10_islands_6 : decode cX10_islands 6 = .ok (.ifCond .ne 5, 3) := by decide +kernel
theorem dX10_islands_9 : decode cX10_islands 9 = .ok (.iconst (-1), 1) := by decide +kernel
theorem dX10_islands_10 : decode cX10_islands 10 = .ok (.ireturn, 1) := by decide +kernel
theorem dX10_islands_11 : decode cX10_islands 11 = .ok (.iload_n 1, 1) := by decide +kernel
theorem dX10_islands_12 : decode cX10_islands 12 = .ok (.iconst 2, 1) := by decide +kernel
theorem dX10_islands_13 : decode cX10_islands 13 = .ok (.if_icmp .ne 11, 3) := by decide +kernel
theorem dX10_islands_16 : decode cX10_islands 16 = .ok (.aload_n 0, 1) := by decide +kernel
theorem dX10_islands_17 : decode cX10_islands 17 = .ok (.getfield 60, 3) := by decide +kernel
theorem dX10_islands_20 : decode cX10_islands 20 = .ok (.invokevirtual 169, 3) := by decide +kernel
theorem dX10_islands_23 : decode cX10_islands 23 = .ok (.ireturn, 1) := by decide +kernel
theorem dX10_islands_24 : decode cX10_islands 24 = .ok (.aload_n 0, 1) := by decide +kernel
theorem dX10_islands_25 : decode cX10_islands 25 = .ok (.getfield 60, 3) := by decide +kernel
theorem dX10_islands_28 : decode cX10_islands 28 = .ok (.invokevirtual 173, 3) := by decide +kernel
theorem dX10_islands_31 : decode cX10_islands 31 = .ok (.iload_n 1, 1) := by decide +kernel
theorem dX10_islands_32 : decode cX10_islands 32 = .ok (.ifCond .ne 13, 3) := by decide +kernel
theorem dX10_islands_35 : decode cX10_islands 35 = .ok (.aload_n 0, 1) := by decide +kernel
theorem dX10_islands_36 : decode cX10_islands 36 = .ok (.getfield 60, 3) := by decide +kernel
theorem dX10_islands_39 : decode cX10_islands 39 = .ok (.getfield 176, 3) := by decide +kernel
theorem dX10_islands_42 : decode cX10_islands 42 = .ok (.goto 10, 3) := by decide +kernel
theorem dX10_islands_45 : decode cX10_islands 45 = .ok (.aload_n 0, 1) := by decide +kernel
theorem dX10_islands_46 : decode cX10_islands 46 = .ok (.getfield 60, 3) := by decide +kernel
theorem dX10_islands_49 : decode cX10_islands 49 = .ok (.getfield 179, 3) := by decide +kernel
theorem dX10_islands_52 : decode cX10_islands 52 = .ok (.ireturn, 1) := by decide +kernel
theorem dX10_joined_0 : decode cX10_joined 0 = .ok (.aload_n 0, 1) := by decide +kernel
theorem dX10_joined_1 : decode cX10_joined 1 = .ok (.getfield 60, 3) := by decide +kernel
theorem dX10_joined_4 : decode cX10_joined 4 = .ok (.iload_n 1, 1) := by decide +kernel
theorem dX10_joined_5 : decode cX10_joined 5 = .ok (.invokevirtual 160, 3) := by decide +kernel
theorem dX10_joined_8 : decode cX10_joined 8 = .ok (.ifCond .eq 14, 3) := by decide +kernel
theorem dX10_joined_11 : decode cX10_joined 11 = .ok (.aload_n 0, 1) := by decide +kernel
theorem dX10_joined_12 : decode cX10_joined 12 = .ok (.getfield 60, 3) := by decide +kernel
theorem dX10_joined_15 : decode cX10_joined 15 = .ok (.iload_n 2, 1) := by decide +kernel
theorem dX10_joined_16 : decode cX10_joined 16 = .ok (.invokevirtual 160, 3) := by decide +kernel
theorem dX10_joined_19 : decode cX10_joined 19 = .ok (.ifCond .ne 5, 3) := by decide +kernel
theorem dX10_joined_22 : decode cX10_joined 22 = .ok (.iconst (-1), 1) := by decide +kernel
theorem dX10_joined_23 : decode cX10_joined 23 = .ok (.ireturn, 1) := by decide +kernel
theorem dX10_joined_24 : decode cX10_joined 24 = .ok (.aload_n 0, 1) := by decide +kernel
theorem dX10_joined_25 : decode cX10_joined 25 = .ok (.getfield 60, 3) := by decide +kernel
theorem dX10_joined_28 : decode cX10_joined 28 = .ok (.invokevirtual 173, 3) := by decide +kernel
theorem dX10_joined_31 : decode cX10_joined 31 = .ok (.aload_n 0, 1) := by decide +kernel
theorem dX10_joined_32 : decode cX10_joined 32 = .ok (.getfield 60, 3) := by decide +kernel
theorem dX10_joined_35 : decode cX10_joined 35 = .ok (.getfield 182, 3) := by decide +kernel
theorem dX10_joined_38 : decode cX10_joined 38 = .ok (.iload_n 1, 1) := by decide +kernel
theorem dX10_joined_39 : decode cX10_joined 39 = .ok (.iaload, 1) := by decide +kernel
theorem dX10_joined_40 : decode cX10_joined 40 = .ok (.iconst (-1), 1) := by decide +kernel
theorem dX10_joined_41 : decode cX10_joined 41 = .ok (.if_icmp .eq 28, 3) := by decide +kernel
theorem dX10_joined_44 : decode cX10_joined 44 = .ok (.aload_n 0, 1) := by decide +kernel
theorem dX10_joined_45 : decode cX10_joined 45 = .ok (.getfield 60, 3) := by decide +kernel
theorem dX10_joined_48 : decode cX10_joined 48 = .ok (.getfield 182, 3) := by decide +kernel
theorem dX10_joined_51 : decode cX10_joined 51 = .ok (.iload_n 1, 1) := by decide +kernel
theorem dX10_joined_52 : decode cX10_joined 52 = .ok (.iaload, 1) := by decide +kernel
theorem dX10_joined_53 : decode cX10_joined 53 = .ok (.aload_n 0, 1) := by decide +kernel
theorem dX10_joined_54 : decode cX10_joined 54 = .ok (.getfield 60, 3) := by decide +kernel
theorem dX10_joined_57 : decode cX10_joined 57 = .ok (.getfield 182, 3) := by decide +kernel
theorem dX10_joined_60 : decode cX10_joined 60 = .ok (.iload_n 2, 1) := by decide +kernel
theorem dX10_joined_61 : decode cX10_joined 61 = .ok (.iaload, 1) := by decide +kernel
theorem dX10_joined_62 : decode cX10_joined 62 = .ok (.if_icmp .ne 7, 3) := by decide +kernel
theorem dX10_joined_65 : decode cX10_joined 65 = .ok (.iconst 1, 1) := by decide +kernel
theorem dX10_joined_66 : decode cX10_joined 66 = .ok (.goto 4, 3) := by decide +kernel
theorem dX10_joined_69 : decode cX10_joined 69 = .ok (.iconst 0, 1) := by decide +kernel
theorem dX10_joined_70 : decode cX10_joined 70 = .ok (.invokestatic 185, 3) := by decide +kernel
theorem dX10_joined_73 : decode cX10_joined 73 = .ok (.ireturn, 1) := by decide +kernel
theorem dX10_sheets_0 : decode cX10_sheets 0 = .ok (.iload_n 1, 1) := by decide +kernel
theorem dX10_sheets_1 : decode cX10_sheets 1 = .ok (.iconst 1, 1) := by decide +kernel
theorem dX10_sheets_2 : decode cX10_sheets 2 = .ok (.bipush 20, 2) := by decide +kernel
theorem dX10_sheets_4 : decode cX10_sheets 4 = .ok (.invokestatic 81, 3) := by decide +kernel
theorem dX10_sheets_7 : decode cX10_sheets 7 = .ok (.ifCond .eq 13, 3) := by decide +kernel
theorem dX10_sheets_10 : decode cX10_sheets 10 = .ok (.aload_n 0, 1) := by decide +kernel
theorem dX10_sheets_11 : decode cX10_sheets 11 = .ok (.getfield 60, 3) := by decide +kernel
theorem dX10_sheets_14 : decode cX10_sheets 14 = .ok (.invokevirtual 85, 3) := by decide +kernel
theorem dX10_sheets_17 : decode cX10_sheets 17 = .ok (.ifCond .ne 5, 3) := by decide +kernel
theorem dX10_sheets_20 : decode cX10_sheets 20 = .ok (.iconst (-1), 1) := by decide +kernel
theorem dX10_sheets_21 : decode cX10_sheets 21 = .ok (.ireturn, 1) := by decide +kernel
theorem dX10_sheets_22 : decode cX10_sheets 22 = .ok (.aload_n 0, 1) := by decide +kernel
theorem dX10_sheets_23 : decode cX10_sheets 23 = .ok (.getfield 71, 3) := by decide +kernel
theorem dX10_sheets_26 : decode cX10_sheets 26 = .ok (.iload_n 1, 1) := by decide +kernel
theorem dX10_sheets_27 : decode cX10_sheets 27 = .ok (.iadd, 1) := by decide +kernel
theorem dX10_sheets_28 : decode cX10_sheets 28 = .ok (.bipush 20, 2) := by decide +kernel
theorem dX10_sheets_30 : decode cX10_sheets 30 = .ok (.if_icmp .le 6, 3) := by decide +kernel
theorem dX10_sheets_33 : decode cX10_sheets 33 = .ok (.bipush (-2), 2) := by decide +kernel
theorem dX10_sheets_35 : decode cX10_sheets 35 = .ok (.ireturn, 1) := by decide +kernel
theorem dX10_sheets_36 : decode cX10_sheets 36 = .ok (.iconst 0, 1) := by decide +kernel
theorem dX10_sheets_37 : decode cX10_sheets 37 = .ok (.istore_n 2, 1) := by decide +kernel
theorem dX10_sheets_38 : decode cX10_sheets 38 = .ok (.iload_n 2, 1) := by decide +kernel
theorem dX10_sheets_39 : decode cX10_sheets 39 = .ok (.iload_n 1, 1) := by decide +kernel
theorem dX10_sheets_40 : decode cX10_sheets 40 = .ok (.if_icmp .ge 27, 3) := by decide +kernel
theorem dX10_sheets_43 : decode cX10_sheets 43 = .ok (.aload_n 0, 1) := by decide +kernel
theorem dX10_sheets_44 : decode cX10_sheets 44 = .ok (.getfield 25, 3) := by decide +kernel
theorem dX10_sheets_47 : decode cX10_sheets 47 = .ok (.aload_n 0, 1) := by decide +kernel
theorem dX10_sheets_48 : decode cX10_sheets 48 = .ok (.getfield 71, 3) := by decide +kernel
theorem dX10_sheets_51 : decode cX10_sheets 51 = .ok (.iload_n 2, 1) := by decide +kernel
theorem dX10_sheets_52 : decode cX10_sheets 52 = .ok (.iadd, 1) := by decide +kernel
theorem dX10_sheets_53 : decode cX10_sheets 53 = .ok (.new 23, 3) := by decide +kernel
theorem dX10_sheets_56 : decode cX10_sheets 56 = .ok (.dup, 1) := by decide +kernel
theorem dX10_sheets_57 : decode cX10_sheets 57 = .ok (.invokespecial 189, 3) := by decide +kernel
theorem dX10_sheets_60 : decode cX10_sheets 60 = .ok (.aastore, 1) := by decide +kernel
theorem dX10_sheets_61 : decode cX10_sheets 61 = .ok (.iinc 2 1, 3) := by decide +kernel
theorem dX10_sheets_64 : decode cX10_sheets 64 = .ok (.goto (-26), 3) := by decide +kernel
theorem dX10_sheets_67 : decode cX10_sheets 67 = .ok (.aload_n 0, 1) := by decide +kernel
theorem dX10_sheets_68 : decode cX10_sheets 68 = .ok (.dup, 1) := by decide +kernel
theorem dX10_sheets_69 : decode cX10_sheets 69 = .ok (.getfield 71, 3) := by decide +kernel
theorem dX10_sheets_72 : decode cX10_sheets 72 = .ok (.iload_n 1, 1) := by decide +kernel
theorem dX10_sheets_73 : decode cX10_sheets 73 = .ok (.iadd, 1) := by decide +kernel
theorem dX10_sheets_74 : decode cX10_sheets 74 = .ok (.putfield 71, 3) := by decide +kernel
theorem dX10_sheets_77 : decode cX10_sheets 77 = .ok (.aload_n 0, 1) := by decide +kernel
theorem dX10_sheets_78 : decode cX10_sheets 78 = .ok (.getfield 71, 3) := by decide +kernel
theorem dX10_sheets_81 : decode cX10_sheets 81 = .ok (.ireturn, 1) := by decide +kernel
theorem dX10_pull_0 : decode cX10_pull 0 = .ok (.iload_n 2, 1) := by decide +kernel
theorem dX10_pull_1 : decode cX10_pull 1 = .ok (.invokestatic 89, 3) := by decide +kernel
theorem dX10_pull_4 : decode cX10_pull 4 = .ok (.ifCond .ne 5, 3) := by decide +kernel
theorem dX10_pull_7 : decode cX10_pull 7 = .ok (.iconst (-1), 1) := by decide +kernel
theorem dX10_pull_8 : decode cX10_pull 8 = .ok (.ireturn, 1) := by decide +kernel
theorem dX10_pull_9 : decode cX10_pull 9 = .ok (.aload_n 0, 1) := by decide +kernel
theorem dX10_pull_10 : decode cX10_pull 10 = .ok (.getfield 35, 3) := by decide +kernel
theorem dX10_pull_13 : decode cX10_pull 13 = .ok (.iload_n 2, 1) := by decide +kernel
theorem dX10_pull_14 : decode cX10_pull 14 = .ok (.invokestatic 190, 3) := by decide +kernel
theorem dX10_pull_17 : decode cX10_pull 17 = .ok (.aload_n 0, 1) := by decide +kernel
theorem dX10_pull_18 : decode cX10_pull 18 = .ok (.iload_n 1, 1) := by decide +kernel
theorem dX10_pull_19 : decode cX10_pull 19 = .ok (.iload_n 2, 1) := by decide +kernel
theorem dX10_pull_20 : decode cX10_pull 20 = .ok (.invokevirtual 196, 3) := by decide +kernel
theorem dX10_pull_23 : decode cX10_pull 23 = .ok (.ireturn, 1) := by decide +kernel
theorem dX10_blend_0 : decode cX10_blend 0 = .ok (.iload_n 2, 1) := by decide +kernel
theorem dX10_blend_1 : decode cX10_blend 1 = .ok (.iconst 0, 1) := by decide +kernel
theorem dX10_blend_2 : decode cX10_blend 2 = .ok (.sipush 999, 3) := by decide +kernel
theorem dX10_blend_5 : decode cX10_blend 5 = .ok (.invokestatic 81, 3) := by decide +kernel
theorem dX10_blend_8 : decode cX10_blend 8 = .ok (.ifCond .ne 5, 3) := by decide +kernel
theorem dX10_blend_11 : decode cX10_blend 11 = .ok (.iconst (-1), 1) := by decide +kernel
theorem dX10_blend_12 : decode cX10_blend 12 = .ok (.ireturn, 1) := by decide +kernel
theorem dX10_blend_13 : decode cX10_blend 13 = .ok (.iload_n 2, 1) := by decide +kernel
theorem dX10_blend_14 : decode cX10_blend 14 = .ok (.bipush 100, 2) := by decide +kernel
theorem dX10_blend_16 : decode cX10_blend 16 = .ok (.idiv, 1) := by decide +kernel
theorem dX10_blend_17 : decode cX10_blend 17 = .ok (.istore_n 3, 1) := by decide +kernel
theorem dX10_blend_18 : decode cX10_blend 18 = .ok (.iload_n 2, 1) := by decide +kernel
theorem dX10_blend_19 : decode cX10_blend 19 = .ok (.bipush 10, 2) := by decide +kernel
theorem dX10_blend_21 : decode cX10_blend 21 = .ok (.idiv, 1) := by decide +kernel
theorem dX10_blend_22 : decode cX10_blend 22 = .ok (.bipush 10, 2) := by decide +kernel
theorem dX10_blend_24 : decode cX10_blend 24 = .ok (.irem, 1) := by decide +kernel
theorem dX10_blend_25 : decode cX10_blend 25 = .ok (.istore 4, 2) := by decide +kernel
theorem dX10_blend_27 : decode cX10_blend 27 = .ok (.iload_n 2, 1) := by decide +kernel
theorem dX10_blend_28 : decode cX10_blend 28 = .ok (.bipush 10, 2) := by decide +kernel
theorem dX10_blend_30 : decode cX10_blend 30 = .ok (.irem, 1) := by decide +kernel
theorem dX10_blend_31 : decode cX10_blend 31 = .ok (.istore 5, 2) := by decide +kernel
theorem dX10_blend_33 : decode cX10_blend 33 = .ok (.iload_n 3, 1) := by decide +kernel
theorem dX10_blend_34 : decode cX10_blend 34 = .ok (.iload 4, 2) := by decide +kernel
theorem dX10_blend_36 : decode cX10_blend 36 = .ok (.if_icmp .eq 15, 3) := by decide +kernel
theorem dX10_blend_39 : decode cX10_blend 39 = .ok (.iload 5, 2) := by decide +kernel
theorem dX10_blend_41 : decode cX10_blend 41 = .ok (.aload_n 0, 1) := by decide +kernel
theorem dX10_blend_42 : decode cX10_blend 42 = .ok (.getfield 60, 3) := by decide +kernel
theorem dX10_blend_45 : decode cX10_blend 45 = .ok (.getfield 128, 3) := by decide +kernel
theorem dX10_blend_48 : decode cX10_blend 48 = .ok (.if_icmp .lt 5, 3) := by decide +kernel
theorem dX10_blend_51 : decode cX10_blend 51 = .ok (.iconst (-1), 1) := by decide +kernel
theorem dX10_blend_52 : decode cX10_blend 52 = .ok (.ireturn, 1) := by decide +kernel
theorem dX10_blend_53 : decode cX10_blend 53 = .ok (.aload_n 0, 1) := by decide +kernel
theorem dX10_blend_54 : decode cX10_blend 54 = .ok (.getfield 35, 3) := by decide +kernel
theorem dX10_blend_57 : decode cX10_blend 57 = .ok (.iconst 0, 1) := by decide +kernel
theorem dX10_blend_58 : decode cX10_blend 58 = .ok (.iload 5, 2) := by decide +kernel
theorem dX10_blend_60 : decode cX10_blend 60 = .ok (.iload_n 3, 1) := by decide +kernel
theorem dX10_blend_61 : decode cX10_blend 61 = .ok (.invokestatic 200, 3) := by decide +kernel
theorem dX10_blend_64 : decode cX10_blend 64 = .ok (.aload_n 0, 1) := by decide +kernel
theorem dX10_blend_65 : decode cX10_blend 65 = .ok (.getfield 35, 3) := by decide +kernel
theorem dX10_blend_68 : decode cX10_blend 68 = .ok (.iload 5, 2) := by decide +kernel
theorem dX10_blend_70 : decode cX10_blend 70 = .ok (.aload_n 0, 1) := by decide +kernel
theorem dX10_blend_71 : decode cX10_blend 71 = .ok (.getfield 12, 3) := by decide +kernel
theorem dX10_blend_74 : decode cX10_blend 74 = .ok (.getfield 110, 3) := by decide +kernel
theorem dX10_blend_77 : decode cX10_blend 77 = .ok (.iload_n 3, 1) := by decide +kernel
theorem dX10_blend_78 : decode cX10_blend 78 = .ok (.aaload, 1) := by decide +kernel
theorem dX10_blend_79 : decode cX10_blend 79 = .ok (.iload 4, 2) := by decide +kernel
theorem dX10_blend_81 : decode cX10_blend 81 = .ok (.iaload, 1) := by decide +kernel
theorem dX10_blend_82 : decode cX10_blend 82 = .ok (.iastore, 1) := by decide +kernel
theorem dX10_blend_83 : decode cX10_blend 83 = .ok (.aload_n 0, 1) := by decide +kernel
theorem dX10_blend_84 : decode cX10_blend 84 = .ok (.getfield 35, 3) := by decide +kernel
theorem dX10_blend_87 : decode cX10_blend 87 = .ok (.iload 5, 2) := by decide +kernel
theorem dX10_blend_89 : decode cX10_blend 89 = .ok (.iconst 1, 1) := by decide +kernel
theorem dX10_blend_90 : decode cX10_blend 90 = .ok (.iadd, 1) := by decide +kernel
theorem dX10_blend_91 : decode cX10_blend 91 = .ok (.bipush 8, 2) := by decide +kernel
theorem dX10_blend_93 : decode cX10_blend 93 = .ok (.iload 4, 2) := by decide +kernel
theorem dX10_blend_95 : decode cX10_blend 95 = .ok (.invokestatic 200, 3) := by decide +kernel
theorem dX10_blend_98 : decode cX10_blend 98 = .ok (.aload_n 0, 1) := by decide +kernel
theorem dX10_blend_99 : decode cX10_blend 99 = .ok (.iload_n 1, 1) := by decide +kernel
theorem dX10_blend_100 : decode cX10_blend 100 = .ok (.bipush 10, 2) := by decide +kernel
theorem dX10_blend_102 : decode cX10_blend 102 = .ok (.invokevirtual 196, 3) := by decide +kernel
theorem dX10_blend_105 : decode cX10_blend 105 = .ok (.ireturn, 1) := by decide +kernel
theorem dX10_colour_0 : decode cX10_colour 0 = .ok (.aload_n 0, 1) := by decide +kernel
theorem dX10_colour_1 : decode cX10_colour 1 = .ok (.iload_n 1, 1) := by decide +kernel
theorem dX10_colour_2 : decode cX10_colour 2 = .ok (.invokevirtual 203, 3) := by decide +kernel
theorem dX10_colour_5 : decode cX10_colour 5 = .ok (.ifCond .eq 14, 3) := by decide +kernel
theorem dX10_colour_8 : decode cX10_colour 8 = .ok (.aload_n 0, 1) := by decide +kernel
theorem dX10_colour_9 : decode cX10_colour 9 = .ok (.getfield 60, 3) := by decide +kernel
theorem dX10_colour_12 : decode cX10_colour 12 = .ok (.iload_n 2, 1) := by decide +kernel
theorem dX10_colour_13 : decode cX10_colour 13 = .ok (.invokevirtual 160, 3) := by decide +kernel
theorem dX10_colour_16 : decode cX10_colour 16 = .ok (.ifCond .ne 5, 3) := by decide +kernel
theorem dX10_colour_19 : decode cX10_colour 19 = .ok (.iconst (-1), 1) := by decide +kernel
theorem dX10_colour_20 : decode cX10_colour 20 = .ok (.ireturn, 1) := by decide +kernel
theorem dX10_colour_21 : decode cX10_colour 21 = .ok (.aload_n 0, 1) := by decide +kernel
theorem dX10_colour_22 : decode cX10_colour 22 = .ok (.getfield 25, 3) := by decide +kernel
theorem dX10_colour_25 : decode cX10_colour 25 = .ok (.iload_n 1, 1) := by decide +kernel
theorem dX10_colour_26 : decode cX10_colour 26 = .ok (.aaload, 1) := by decide +kernel
theorem dX10_colour_27 : decode cX10_colour 27 = .ok (.getfield 206, 3) := by decide +kernel
theorem dX10_colour_30 : decode cX10_colour 30 = .ok (.iload_n 2, 1) := by decide +kernel
theorem dX10_colour_31 : decode cX10_colour 31 = .ok (.iaload, 1) := by decide +kernel
theorem dX10_colour_32 : decode cX10_colour 32 = .ok (.ireturn, 1) := by decide +kernel
theorem dX10_led_0 : decode cX10_led 0 = .ok (.aload_n 0, 1) := by decide +kernel
theorem dX10_led_1 : decode cX10_led 1 = .ok (.iload_n 1, 1) := by decide +kernel
theorem dX10_led_2 : decode cX10_led 2 = .ok (.invokevirtual 203, 3) := by decide +kernel
theorem dX10_led_5 : decode cX10_led 5 = .ok (.ifCond .eq 14, 3) := by decide +kernel
theorem dX10_led_8 : decode cX10_led 8 = .ok (.aload_n 0, 1) := by decide +kernel
theorem dX10_led_9 : decode cX10_led 9 = .ok (.getfield 60, 3) := by decide +kernel
theorem dX10_led_12 : decode cX10_led 12 = .ok (.iload_n 2, 1) := by decide +kernel
theorem dX10_led_13 : decode cX10_led 13 = .ok (.invokevirtual 160, 3) := by decide +kernel
theorem dX10_led_16 : decode cX10_led 16 = .ok (.ifCond .ne 5, 3) := by decide +kernel
theorem dX10_led_19 : decode cX10_led 19 = .ok (.iconst (-1), 1) := by decide +kernel
theorem dX10_led_20 : decode cX10_led 20 = .ok (.ireturn, 1) := by decide +kernel
theorem dX10_led_21 : decode cX10_led 21 = .ok (.iload_n 3, 1) := by decide +kernel
theorem dX10_led_22 : decode cX10_led 22 = .ok (.tableswitch 62 0 2 #[26, 38, 50], 26) := by decide +kernel
theorem dX10_led_48 : decode cX10_led 48 = .ok (.aload_n 0, 1) := by decide +kernel
theorem dX10_led_49 : decode cX10_led 49 = .ok (.getfield 25, 3) := by decide +kernel
theorem dX10_led_52 : decode cX10_led 52 = .ok (.iload_n 1, 1) := by decide +kernel
theorem dX10_led_53 : decode cX10_led 53 = .ok (.aaload, 1) := by decide +kernel
theorem dX10_led_54 : decode cX10_led 54 = .ok (.getfield 209, 3) := by decide +kernel
theorem dX10_led_57 : decode cX10_led 57 = .ok (.iload_n 2, 1) := by decide +kernel
theorem dX10_led_58 : decode cX10_led 58 = .ok (.iaload, 1) := by decide +kernel
theorem dX10_led_59 : decode cX10_led 59 = .ok (.ireturn, 1) := by decide +kernel
theorem dX10_led_60 : decode cX10_led 60 = .ok (.aload_n 0, 1) := by decide +kernel
theorem dX10_led_61 : decode cX10_led 61 = .ok (.getfield 25, 3) := by decide +kernel
theorem dX10_led_64 : decode cX10_led 64 = .ok (.iload_n 1, 1) := by decide +kernel
theorem dX10_led_65 : decode cX10_led 65 = .ok (.aaload, 1) := by decide +kernel
theorem dX10_led_66 : decode cX10_led 66 = .ok (.getfield 212, 3) := by decide +kernel
theorem dX10_led_69 : decode cX10_led 69 = .ok (.iload_n 2, 1) := by decide +kernel
theorem dX10_led_70 : decode cX10_led 70 = .ok (.iaload, 1) := by decide +kernel
theorem dX10_led_71 : decode cX10_led 71 = .ok (.ireturn, 1) := by decide +kernel
theorem dX10_led_72 : decode cX10_led 72 = .ok (.aload_n 0, 1) := by decide +kernel
theorem dX10_led_73 : decode cX10_led 73 = .ok (.getfield 25, 3) := by decide +kernel
theorem dX10_led_76 : decode cX10_led 76 = .ok (.iload_n 1, 1) := by decide +kernel
theorem dX10_led_77 : decode cX10_led 77 = .ok (.aaload, 1) := by decide +kernel
theorem dX10_led_78 : decode cX10_led 78 = .ok (.getfield 215, 3) := by decide +kernel
theorem dX10_led_81 : decode cX10_led 81 = .ok (.iload_n 2, 1) := by decide +kernel
theorem dX10_led_82 : decode cX10_led 82 = .ok (.iaload, 1) := by decide +kernel
theorem dX10_led_83 : decode cX10_led 83 = .ok (.ireturn, 1) := by decide +kernel
theorem dX10_led_84 : decode cX10_led 84 = .ok (.iconst (-1), 1) := by decide +kernel
theorem dX10_led_85 : decode cX10_led 85 = .ok (.ireturn, 1) := by decide +kernel
theorem dX10_good_0 : decode cX10_good 0 = .ok (.aload_n 0, 1) := by decide +kernel
theorem dX10_good_1 : decode cX10_good 1 = .ok (.iload_n 1, 1) := by decide +kernel
theorem dX10_good_2 : decode cX10_good 2 = .ok (.invokevirtual 203, 3) := by decide +kernel
theorem dX10_good_5 : decode cX10_good 5 = .ok (.ifCond .eq 18, 3) := by decide +kernel
theorem dX10_good_8 : decode cX10_good 8 = .ok (.aload_n 0, 1) := by decide +kernel
theorem dX10_good_9 : decode cX10_good 9 = .ok (.getfield 25, 3) := by decide +kernel
theorem dX10_good_12 : decode cX10_good 12 = .ok (.iload_n 1, 1) := by decide +kernel
theorem dX10_good_13 : decode cX10_good 13 = .ok (.aaload, 1) := by decide +kernel
theorem dX10_good_14 : decode cX10_good 14 = .ok (.getfield 218, 3) := by decide +kernel
theorem dX10_good_17 : decode cX10_good 17 = .ok (.invokestatic 185, 3) := by decide +kernel
theorem dX10_good_20 : decode cX10_good 20 = .ok (.goto 4, 3) := by decide +kernel
theorem dX10_good_23 : decode cX10_good 23 = .ok (.iconst (-1), 1) := by decide +kernel
theorem dX10_good_24 : decode cX10_good 24 = .ok (.ireturn, 1) := by decide +kernel
theorem dX10_book_0 : decode cX10_book 0 = .ok (.iload_n 1, 1) := by decide +kernel
theorem dX10_book_1 : decode cX10_book 1 = .ok (.iconst 0, 1) := by decide +kernel
theorem dX10_book_2 : decode cX10_book 2 = .ok (.aload_n 0, 1) := by decide +kernel
theorem dX10_book_3 : decode cX10_book 3 = .ok (.getfield 75, 3) := by decide +kernel
theorem dX10_book_6 : decode cX10_book 6 = .ok (.iconst 1, 1) := by decide +kernel
theorem dX10_book_7 : decode cX10_book 7 = .ok (.isub, 1) := by decide +kernel
theorem dX10_book_8 : decode cX10_book 8 = .ok (.invokestatic 81, 3) := by decide +kernel
theorem dX10_book_11 : decode cX10_book 11 = .ok (.ifCond .eq 16, 3) := by decide +kernel
theorem dX10_book_14 : decode cX10_book 14 = .ok (.aload_n 0, 1) := by decide +kernel
theorem dX10_book_15 : decode cX10_book 15 = .ok (.getfield 31, 3) := by decide +kernel
theorem dX10_book_18 : decode cX10_book 18 = .ok (.iload_n 1, 1) := by decide +kernel
theorem dX10_book_19 : decode cX10_book 19 = .ok (.aaload, 1) := by decide +kernel
theorem dX10_book_20 : decode cX10_book 20 = .ok (.iload_n 2, 1) := by decide +kernel
theorem dX10_book_21 : decode cX10_book 21 = .ok (.invokevirtual 222, 3) := by decide +kernel
theorem dX10_book_24 : decode cX10_book 24 = .ok (.goto 4, 3) := by decide +kernel
theorem dX10_book_27 : decode cX10_book 27 = .ok (.iconst (-1), 1) := by decide +kernel
theorem dX10_book_28 : decode cX10_book 28 = .ok (.ireturn, 1) := by decide +kernel
theorem dX10_free_0 : decode cX10_free 0 = .ok (.aload_n 0, 1) := by decide +kernel
theorem dX10_free_1 : decode cX10_free 1 = .ok (.iload_n 1, 1) := by decide +kernel
theorem dX10_free_2 : decode cX10_free 2 = .ok (.invokevirtual 226, 3) := by decide +kernel
theorem dX10_free_5 : decode cX10_free 5 = .ok (.ifCond .eq 10, 3) := by decide +kernel
theorem dX10_free_8 : decode cX10_free 8 = .ok (.iload_n 2, 1) := by decide +kernel
theorem dX10_free_9 : decode cX10_free 9 = .ok (.invokestatic 89, 3) := by decide +kernel
theorem dX10_free_12 : decode cX10_free 12 = .ok (.ifCond .ne 5, 3) := by decide +kernel
theorem dX10_free_15 : decode cX10_free 15 = .ok (.iconst (-1), 1) := by decide +kernel
theorem dX10_free_16 : decode cX10_free 16 = .ok (.ireturn, 1) := by decide +kernel
theorem dX10_free_17 : decode cX10_free 17 = .ok (.aload_n 0, 1) := by decide +kernel
theorem dX10_free_18 : decode cX10_free 18 = .ok (.getfield 78, 3) := by decide +kernel
theorem dX10_free_21 : decode cX10_free 21 = .ok (.istore_n 3, 1) := by decide +kernel
theorem dX10_free_22 : decode cX10_free 22 = .ok (.iload_n 1, 1) := by decide +kernel
theorem dX10_free_23 : decode cX10_free 23 = .ok (.invokestatic 229, 3) := by decide +kernel
theorem dX10_free_26 : decode cX10_free 26 = .ok (.istore 4, 2) := by decide +kernel
theorem dX10_free_28 : decode cX10_free 28 = .ok (.iload 4, 2) := by decide +kernel
theorem dX10_free_30 : decode cX10_free 30 = .ok (.iload_n 1, 1) := by decide +kernel
theorem dX10_free_31 : decode cX10_free 31 = .ok (.invokestatic 232, 3) := by decide +kernel
theorem dX10_free_34 : decode cX10_free 34 = .ok (.if_icmp .gt 33, 3) := by decide +kernel
theorem dX10_free_37 : decode cX10_free 37 = .ok (.iload_n 3, 1) := by decide +kernel
theorem dX10_free_38 : decode cX10_free 38 = .ok (.aload_n 0, 1) := by decide +kernel
theorem dX10_free_39 : decode cX10_free 39 = .ok (.getfield 25, 3) := by decide +kernel
theorem dX10_free_42 : decode cX10_free 42 = .ok (.iload 4, 2) := by decide +kernel
theorem dX10_free_44 : decode cX10_free 44 = .ok (.aaload, 1) := by decide +kernel
theorem dX10_free_45 : decode cX10_free 45 = .ok (.iload_n 2, 1) := by decide +kernel
theorem dX10_free_46 : decode cX10_free 46 = .ok (.aload_n 0, 1) := by decide +kernel
theorem dX10_free_47 : decode cX10_free 47 = .ok (.getfield 60, 3) := by decide +kernel
theorem dX10_free_50 : decode cX10_free 50 = .ok (.aload_n 0, 1) := by decide +kernel
theorem dX10_free_51 : decode cX10_free 51 = .ok (.getfield 12, 3) := by decide +kernel
theorem dX10_free_54 : decode cX10_free 54 = .ok (.invokevirtual 235, 3) := by decide +kernel
theorem dX10_free_57 : decode cX10_free 57 = .ok (.invokestatic 239, 3) := by decide +kernel
theorem dX10_free_60 : decode cX10_free 60 = .ok (.istore_n 3, 1) := by decide +kernel
theorem dX10_free_61 : decode cX10_free 61 = .ok (.iinc 4 1, 3) := by decide +kernel
theorem dX10_free_64 : decode cX10_free 64 = .ok (.goto (-36), 3) := by decide +kernel
theorem dX10_free_67 : decode cX10_free 67 = .ok (.iload_n 3, 1) := by decide +kernel
theorem dX10_free_68 : decode cX10_free 68 = .ok (.ireturn, 1) := by decide +kernel
theorem dX10_wanted_0 : decode cX10_wanted 0 = .ok (.iload_n 1, 1) := by decide +kernel
theorem dX10_wanted_1 : decode cX10_wanted 1 = .ok (.iconst 1, 1) := by decide +kernel
theorem dX10_wanted_2 : decode cX10_wanted 2 = .ok (.iconst 4, 1) := by decide +kernel
theorem dX10_wanted_3 : decode cX10_wanted 3 = .ok (.invokestatic 81, 3) := by decide +kernel
theorem dX10_wanted_6 : decode cX10_wanted 6 = .ok (.ifCond .eq 12, 3) := by decide +kernel
theorem dX10_wanted_9 : decode cX10_wanted 9 = .ok (.iload_n 2, 1) := by decide +kernel
theorem dX10_wanted_10 : decode cX10_wanted 10 = .ok (.iconst 1, 1) := by decide +kernel
theorem dX10_wanted_11 : decode cX10_wanted 11 = .ok (.iconst 4, 1) := by decide +kernel
theorem dX10_wanted_12 : decode cX10_wanted 12 = .ok (.invokestatic 81, 3) := by decide +kernel
theorem dX10_wanted_15 : decode cX10_wanted 15 = .ok (.ifCond .ne 5, 3) := by decide +kernel
theorem dX10_wanted_18 : decode cX10_wanted 18 = .ok (.iconst (-1), 1) := by decide +kernel
theorem dX10_wanted_19 : decode cX10_wanted 19 = .ok (.ireturn, 1) := by decide +kernel
theorem dX10_wanted_20 : decode cX10_wanted 20 = .ok (.aload_n 0, 1) := by decide +kernel
theorem dX10_wanted_21 : decode cX10_wanted 21 = .ok (.new 64, 3) := by decide +kernel
theorem dX10_wanted_24 : decode cX10_wanted 24 = .ok (.dup, 1) := by decide +kernel
theorem dX10_wanted_25 : decode cX10_wanted 25 = .ok (.iload_n 1, 1) := by decide +kernel
theorem dX10_wanted_26 : decode cX10_wanted 26 = .ok (.iload_n 2, 1) := by decide +kernel
theorem dX10_wanted_27 : decode cX10_wanted 27 = .ok (.invokespecial 66, 3) := by decide +kernel
theorem dX10_wanted_30 : decode cX10_wanted 30 = .ok (.putfield 67, 3) := by decide +kernel
theorem dX10_wanted_33 : decode cX10_wanted 33 = .ok (.iconst 1, 1) := by decide +kernel
theorem dX10_wanted_34 : decode cX10_wanted 34 = .ok (.ireturn, 1) := by decide +kernel
theorem dX10_want_0 : decode cX10_want 0 = .ok (.aload_n 0, 1) := by decide +kernel
theorem dX10_want_1 : decode cX10_want 1 = .ok (.getfield 67, 3) := by decide +kernel
theorem dX10_want_4 : decode cX10_want 4 = .ok (.iload_n 1, 1) := by decide +kernel
theorem dX10_want_5 : decode cX10_want 5 = .ok (.invokevirtual 244, 3) := by decide +kernel
theorem dX10_want_8 : decode cX10_want 8 = .ok (.ifCond .eq 10, 3) := by decide +kernel
theorem dX10_want_11 : decode cX10_want 11 = .ok (.iload_n 2, 1) := by decide +kernel
theorem dX10_want_12 : decode cX10_want 12 = .ok (.invokestatic 93, 3) := by decide +kernel
theorem dX10_want_15 : decode cX10_want 15 = .ok (.ifCond .ne 5, 3) := by decide +kernel
theorem dX10_want_18 : decode cX10_want 18 = .ok (.iconst (-1), 1) := by decide +kernel
theorem dX10_want_19 : decode cX10_want 19 = .ok (.ireturn, 1) := by decide +kernel
theorem dX10_want_20 : decode cX10_want 20 = .ok (.aload_n 0, 1) := by decide +kernel
theorem dX10_want_21 : decode cX10_want 21 = .ok (.getfield 67, 3) := by decide +kernel
theorem dX10_want_24 : decode cX10_want 24 = .ok (.getfield 245, 3) := by decide +kernel
theorem dX10_want_27 : decode cX10_want 27 = .ok (.iload_n 1, 1) := by decide +kernel
theorem dX10_want_28 : decode cX10_want 28 = .ok (.iload_n 2, 1) := by decide +kernel
theorem dX10_want_29 : decode cX10_want 29 = .ok (.invokestatic 100, 3) := by decide +kernel
theorem dX10_want_32 : decode cX10_want 32 = .ok (.ireturn, 1) := by decide +kernel
theorem dX10_fewest_0 : decode cX10_fewest 0 = .ok (.aload_n 0, 1) := by decide +kernel
theorem dX10_fewest_1 : decode cX10_fewest 1 = .ok (.getfield 67, 3) := by decide +kernel
theorem dX10_fewest_4 : decode cX10_fewest 4 = .ok (.invokevirtual 246, 3) := by decide +kernel
theorem dX10_fewest_7 : decode cX10_fewest 7 = .ok (.ifCond .eq 10, 3) := by decide +kernel
theorem dX10_fewest_10 : decode cX10_fewest 10 = .ok (.iload_n 1, 1) := by decide +kernel
theorem dX10_fewest_11 : decode cX10_fewest 11 = .ok (.invokestatic 247, 3) := by decide +kernel
theorem dX10_fewest_14 : decode cX10_fewest 14 = .ok (.ifCond .ne 5, 3) := by decide +kernel
theorem dX10_fewest_17 : decode cX10_fewest 17 = .ok (.iconst (-1), 1) := by decide +kernel
theorem dX10_fewest_18 : decode cX10_fewest 18 = .ok (.ireturn, 1) := by decide +kernel
theorem dX10_fewest_19 : decode cX10_fewest 19 = .ok (.aload_n 0, 1) := by decide +kernel
theorem dX10_fewest_20 : decode cX10_fewest 20 = .ok (.getfield 44, 3) := by decide +kernel
theorem dX10_fewest_23 : decode cX10_fewest 23 = .ok (.iload_n 1, 1) := by decide +kernel
theorem dX10_fewest_24 : decode cX10_fewest 24 = .ok (.aload_n 0, 1) := by decide +kernel
theorem dX10_fewest_25 : decode cX10_fewest 25 = .ok (.getfield 67, 3) := by decide +kernel
theorem dX10_fewest_28 : decode cX10_fewest 28 = .ok (.invokevirtual 250, 3) := by decide +kernel
theorem dX10_fewest_31 : decode cX10_fewest 31 = .ok (.invokevirtual 253, 3) := by decide +kernel
theorem dX10_fewest_34 : decode cX10_fewest 34 = .ok (.istore_n 2, 1) := by decide +kernel
theorem dX10_fewest_35 : decode cX10_fewest 35 = .ok (.iload_n 2, 1) := by decide +kernel
theorem dX10_fewest_36 : decode cX10_fewest 36 = .ok (.bipush (-4), 2) := by decide +kernel
theorem dX10_fewest_38 : decode cX10_fewest 38 = .ok (.if_icmp .eq 33, 3) := by decide +kernel
theorem dX10_fewest_41 : decode cX10_fewest 41 = .ok (.aload_n 0, 1) := by decide +kernel
theorem dX10_fewest_42 : decode cX10_fewest 42 = .ok (.getfield 44, 3) := by decide +kernel
theorem dX10_fewest_45 : decode cX10_fewest 45 = .ok (.iload_n 2, 1) := by decide +kernel
theorem dX10_fewest_46 : decode cX10_fewest 46 = .ok (.aload_n 0, 1) := by decide +kernel
theorem dX10_fewest_47 : decode cX10_fewest 47 = .ok (.getfield 51, 3) := by decide +kernel
theorem dX10_fewest_50 : decode cX10_fewest 50 = .ok (.getfield 256, 3) := by decide +kernel
theorem dX10_fewest_53 : decode cX10_fewest 53 = .ok (.invokevirtual 260, 3) := by decide +kernel
theorem dX10_fewest_56 : decode cX10_fewest 56 = .ok (.aload_n 0, 1) := by decide +kernel
theorem dX10_fewest_57 : decode cX10_fewest 57 = .ok (.getfield 51, 3) := by decide +kernel
theorem dX10_fewest_60 : decode cX10_fewest 60 = .ok (.aload_n 0, 1) := by decide +kernel
theorem dX10_fewest_61 : decode cX10_fewest 61 = .ok (.getfield 67, 3) := by decide +kernel
theorem dX10_fewest_64 : decode cX10_fewest 64 = .ok (.aload_n 0, 1) := by decide +kernel
theorem dX10_fewest_65 : decode cX10_fewest 65 = .ok (.getfield 12, 3) := by decide +kernel
theorem dX10_fewest_68 : decode cX10_fewest 68 = .ok (.invokevirtual 264, 3) := by decide +kernel
theorem dX10_fewest_71 : decode cX10_fewest 71 = .ok (.iload_n 2, 1) := by decide +kernel
theorem dX10_fewest_72 : decode cX10_fewest 72 = .ok (.ireturn, 1) := by decide +kernel
theorem dX10_order_0 : decode cX10_order 0 = .ok (.iload_n 1, 1) := by decide +kernel
theorem dX10_order_1 : decode cX10_order 1 = .ok (.iconst 0, 1) := by decide +kernel
theorem dX10_order_2 : decode cX10_order 2 = .ok (.aload_n 0, 1) := by decide +kernel
theorem dX10_order_3 : decode cX10_order 3 = .ok (.getfield 51, 3) := by decide +kernel
theorem dX10_order_6 : decode cX10_order 6 = .ok (.getfield 256, 3) := by decide +kernel
theorem dX10_order_9 : decode cX10_order 9 = .ok (.getfield 268, 3) := by decide +kernel
theorem dX10_order_12 : decode cX10_order 12 = .ok (.iconst 1, 1) := by decide +kernel
theorem dX10_order_13 : decode cX10_order 13 = .ok (.isub, 1) := by decide +kernel
theorem dX10_order_14 : decode cX10_order 14 = .ok (.invokestatic 81, 3) := by decide +kernel
theorem dX10_order_17 : decode cX10_order 17 = .ok (.ifCond .eq 18, 3) := by decide +kernel
theorem dX10_order_20 : decode cX10_order 20 = .ok (.aload_n 0, 1) := by decide +kernel
theorem dX10_order_21 : decode cX10_order 21 = .ok (.getfield 51, 3) := by decide +kernel
theorem dX10_order_24 : decode cX10_order 24 = .ok (.getfield 256, 3) := by decide +kernel
theorem dX10_order_27 : decode cX10_order 27 = .ok (.getfield 273, 3) := by decide +kernel
theorem dX10_order_30 : decode cX10_order 30 = .ok (.iload_n 1, 1) := by decide +kernel
theorem dX10_order_31 : decode cX10_order 31 = .ok (.iaload, 1) := by decide +kernel
theorem dX10_order_32 : decode cX10_order 32 = .ok (.goto 4, 3) := by decide +kernel
theorem dX10_order_35 : decode cX10_order 35 = .ok (.iconst (-1), 1) := by decide +kernel
theorem dX10_order_36 : decode cX10_order 36 = .ok (.ireturn, 1) := by decide +kernel
theorem dX10_place_0 : decode cX10_place 0 = .ok (.iload_n 1, 1) := by decide +kernel
theorem dX10_place_1 : decode cX10_place 1 = .ok (.iconst 0, 1) := by decide +kernel
theorem dX10_place_2 : decode cX10_place 2 = .ok (.bipush 15, 2) := by decide +kernel
theorem dX10_place_4 : decode cX10_place 4 = .ok (.invokestatic 81, 3) := by decide +kernel
theorem dX10_place_7 : decode cX10_place 7 = .ok (.ifCond .eq 15, 3) := by decide +kernel
theorem dX10_place_10 : decode cX10_place 10 = .ok (.aload_n 0, 1) := by decide +kernel
theorem dX10_place_11 : decode cX10_place 11 = .ok (.getfield 51, 3) := by decide +kernel
theorem dX10_place_14 : decode cX10_place 14 = .ok (.getfield 275, 3) := by decide +kernel
theorem dX10_place_17 : decode cX10_place 17 = .ok (.iload_n 1, 1) := by decide +kernel
theorem dX10_place_18 : decode cX10_place 18 = .ok (.iaload, 1) := by decide +kernel
theorem dX10_place_19 : decode cX10_place 19 = .ok (.goto 4, 3) := by decide +kernel
theorem dX10_place_22 : decode cX10_place 22 = .ok (.iconst (-1), 1) := by decide +kernel
theorem dX10_place_23 : decode cX10_place 23 = .ok (.ireturn, 1) := by decide +kernel
theorem dX10_why_0 : decode cX10_why 0 = .ok (.aload_n 0, 1) := by decide +kernel
theorem dX10_why_1 : decode cX10_why 1 = .ok (.getfield 67, 3) := by decide +kernel
theorem dX10_why_4 : decode cX10_why 4 = .ok (.invokevirtual 246, 3) := by decide +kernel
theorem dX10_why_7 : decode cX10_why 7 = .ok (.ifCond .eq 10, 3) := by decide +kernel
theorem dX10_why_10 : decode cX10_why 10 = .ok (.iload_n 1, 1) := by decide +kernel
theorem dX10_why_11 : decode cX10_why 11 = .ok (.invokestatic 247, 3) := by decide +kernel
theorem dX10_why_14 : decode cX10_why 14 = .ok (.ifCond .ne 5, 3) := by decide +kernel
theorem dX10_why_17 : decode cX10_why 17 = .ok (.iconst (-1), 1) := by decide +kernel
theorem dX10_why_18 : decode cX10_why 18 = .ok (.ireturn, 1) := by decide +kernel
theorem dX10_why_19 : decode cX10_why 19 = .ok (.aload_n 0, 1) := by decide +kernel
theorem dX10_why_20 : decode cX10_why 20 = .ok (.getfield 67, 3) := by decide +kernel
theorem dX10_why_23 : decode cX10_why 23 = .ok (.invokevirtual 250, 3) := by decide +kernel
theorem dX10_why_26 : decode cX10_why 26 = .ok (.istore_n 2, 1) := by decide +kernel
theorem dX10_why_27 : decode cX10_why 27 = .ok (.iload_n 2, 1) := by decide +kernel
theorem dX10_why_28 : decode cX10_why 28 = .ok (.aload_n 0, 1) := by decide +kernel
theorem dX10_why_29 : decode cX10_why 29 = .ok (.getfield 12, 3) := by decide +kernel
theorem dX10_why_32 : decode cX10_why 32 = .ok (.iload_n 1, 1) := by decide +kernel
theorem dX10_why_33 : decode cX10_why 33 = .ok (.invokevirtual 278, 3) := by decide +kernel
theorem dX10_why_36 : decode cX10_why 36 = .ok (.iconst (-1), 1) := by decide +kernel
theorem dX10_why_37 : decode cX10_why 37 = .ok (.ixor, 1) := by decide +kernel
theorem dX10_why_38 : decode cX10_why 38 = .ok (.iand, 1) := by decide +kernel
theorem dX10_why_39 : decode cX10_why 39 = .ok (.istore_n 3, 1) := by decide +kernel
theorem dX10_why_40 : decode cX10_why 40 = .ok (.iload_n 3, 1) := by decide +kernel
theorem dX10_why_41 : decode cX10_why 41 = .ok (.ifCond .eq 5, 3) := by decide +kernel
theorem dX10_why_44 : decode cX10_why 44 = .ok (.iload_n 3, 1) := by decide +kernel
theorem dX10_why_45 : decode cX10_why 45 = .ok (.ireturn, 1) := by decide +kernel
theorem dX10_why_46 : decode cX10_why 46 = .ok (.aload_n 0, 1) := by decide +kernel
theorem dX10_why_47 : decode cX10_why 47 = .ok (.getfield 44, 3) := by decide +kernel
theorem dX10_why_50 : decode cX10_why 50 = .ok (.iload_n 1, 1) := by decide +kernel
theorem dX10_why_51 : decode cX10_why 51 = .ok (.iload_n 2, 1) := by decide +kernel
theorem dX10_why_52 : decode cX10_why 52 = .ok (.invokevirtual 253, 3) := by decide +kernel
theorem dX10_why_55 : decode cX10_why 55 = .ok (.bipush (-4), 2) := by decide +kernel
theorem dX10_why_57 : decode cX10_why 57 = .ok (.if_icmp .eq 7, 3) := by decide +kernel
theorem dX10_why_60 : decode cX10_why 60 = .ok (.iconst 1, 1) := by decide +kernel
theorem dX10_why_61 : decode cX10_why 61 = .ok (.goto 4, 3) := by decide +kernel
theorem dX10_why_64 : decode cX10_why 64 = .ok (.iconst 0, 1) := by decide +kernel
theorem dX10_why_65 : decode cX10_why 65 = .ok (.istore 4, 2) := by decide +kernel
theorem dX10_why_67 : decode cX10_why 67 = .ok (.iload 4, 2) := by decide +kernel
theorem dX10_why_69 : decode cX10_why 69 = .ok (.ifCond .eq 7, 3) := by decide +kernel
theorem dX10_why_72 : decode cX10_why 72 = .ok (.iconst 0, 1) := by decide +kernel
theorem dX10_why_73 : decode cX10_why 73 = .ok (.goto 7, 3) := by decide +kernel
theorem dX10_why_76 : decode cX10_why 76 = .ok (.iload_n 2, 1) := by decide +kernel
theorem dX10_why_77 : decode cX10_why 77 = .ok (.invokestatic 281, 3) := by decide +kernel
theorem dX10_why_80 : decode cX10_why 80 = .ok (.ireturn, 1) := by decide +kernel
theorem dX10_alike_0 : decode cX10_alike 0 = .ok (.iload_n 1, 1) := by decide +kernel
theorem dX10_alike_1 : decode cX10_alike 1 = .ok (.invokestatic 284, 3) := by decide +kernel
theorem dX10_alike_4 : decode cX10_alike 4 = .ok (.ifCond .eq 21, 3) := by decide +kernel
theorem dX10_alike_7 : decode cX10_alike 7 = .ok (.iload_n 2, 1) := by decide +kernel
theorem dX10_alike_8 : decode cX10_alike 8 = .ok (.invokestatic 284, 3) := by decide +kernel
theorem dX10_alike_11 : decode cX10_alike 11 = .ok (.ifCond .eq 14, 3) := by decide +kernel
theorem dX10_alike_14 : decode cX10_alike 14 = .ok (.iload_n 3, 1) := by decide +kernel
theorem dX10_alike_15 : decode cX10_alike 15 = .ok (.iconst 0, 1) := by decide +kernel
theorem dX10_alike_16 : decode cX10_alike 16 = .ok (.ldc_w 287, 3) := by decide +kernel
theorem dX10_alike_19 : decode cX10_alike 19 = .ok (.invokestatic 81, 3) := by decide +kernel
theorem dX10_alike_22 : decode cX10_alike 22 = .ok (.ifCond .ne 5, 3) := by decide +kernel
theorem dX10_alike_25 : decode cX10_alike 25 = .ok (.iconst (-1), 1) := by decide +kernel
theorem dX10_alike_26 : decode cX10_alike 26 = .ok (.ireturn, 1) := by decide +kernel
theorem dX10_alike_27 : decode cX10_alike 27 = .ok (.new 269, 3) := by decide +kernel
theorem dX10_alike_30 : decode cX10_alike 30 = .ok (.dup, 1) := by decide +kernel
theorem dX10_alike_31 : decode cX10_alike 31 = .ok (.iload_n 1, 1) := by decide +kernel
theorem dX10_alike_32 : decode cX10_alike 32 = .ok (.invokespecial 288, 3) := by decide +kernel
theorem dX10_alike_35 : decode cX10_alike 35 = .ok (.aload_n 0, 1) := by decide +kernel
theorem dX10_alike_36 : decode cX10_alike 36 = .ok (.getfield 12, 3) := by decide +kernel
theorem dX10_alike_39 : decode cX10_alike 39 = .ok (.invokevirtual 289, 3) := by decide +kernel
theorem dX10_alike_42 : decode cX10_alike 42 = .ok (.new 269, 3) := by decide +kernel
theorem dX10_alike_45 : decode cX10_alike 45 = .ok (.dup, 1) := by decide +kernel
theorem dX10_alike_46 : decode cX10_alike 46 = .ok (.iload_n 2, 1) := by decide +kernel
theorem dX10_alike_47 : decode cX10_alike 47 = .ok (.invokespecial 288, 3) := by decide +kernel
theorem dX10_alike_50 : decode cX10_alike 50 = .ok (.aload_n 0, 1) := by decide +kernel
theorem dX10_alike_51 : decode cX10_alike 51 = .ok (.getfield 12, 3) := by decide +kernel
theorem dX10_alike_54 : decode cX10_alike 54 = .ok (.invokevirtual 289, 3) := by decide +kernel
theorem dX10_alike_57 : decode cX10_alike 57 = .ok (.iand, 1) := by decide +kernel
theorem dX10_alike_58 : decode cX10_alike 58 = .ok (.istore 4, 2) := by decide +kernel
theorem dX10_alike_60 : decode cX10_alike 60 = .ok (.iload_n 3, 1) := by decide +kernel
theorem dX10_alike_61 : decode cX10_alike 61 = .ok (.iload 4, 2) := by decide +kernel
theorem dX10_alike_63 : decode cX10_alike 63 = .ok (.iconst (-1), 1) := by decide +kernel
theorem dX10_alike_64 : decode cX10_alike 64 = .ok (.ixor, 1) := by decide +kernel
theorem dX10_alike_65 : decode cX10_alike 65 = .ok (.iand, 1) := by decide +kernel
theorem dX10_alike_66 : decode cX10_alike 66 = .ok (.ifCond .ne 7, 3) := by decide +kernel
theorem dX10_alike_69 : decode cX10_alike 69 = .ok (.iconst 1, 1) := by decide +kernel
theorem dX10_alike_70 : decode cX10_alike 70 = .ok (.goto 4, 3) := by decide +kernel
theorem dX10_alike_73 : decode cX10_alike 73 = .ok (.iconst 0, 1) := by decide +kernel
theorem dX10_alike_74 : decode cX10_alike 74 = .ok (.invokestatic 185, 3) := by decide +kernel
theorem dX10_alike_77 : decode cX10_alike 77 = .ok (.ireturn, 1) := by decide +kernel
theorem dX10_made_0 : decode cX10_made 0 = .ok (.iload_n 1, 1) := by decide +kernel
theorem dX10_made_1 : decode cX10_made 1 = .ok (.invokestatic 284, 3) := by decide +kernel
theorem dX10_made_4 : decode cX10_made 4 = .ok (.ifCond .ne 5, 3) := by decide +kernel
theorem dX10_made_7 : decode cX10_made 7 = .ok (.iconst (-1), 1) := by decide +kernel
theorem dX10_made_8 : decode cX10_made 8 = .ok (.ireturn, 1) := by decide +kernel
theorem dX10_made_9 : decode cX10_made 9 = .ok (.new 269, 3) := by decide +kernel
theorem dX10_made_12 : decode cX10_made 12 = .ok (.dup, 1) := by decide +kernel
theorem dX10_made_13 : decode cX10_made 13 = .ok (.iload_n 1, 1) := by decide +kernel
theorem dX10_made_14 : decode cX10_made 14 = .ok (.invokespecial 288, 3) := by decide +kernel
theorem dX10_made_17 : decode cX10_made 17 = .ok (.astore_n 3, 1) := by decide +kernel
theorem dX10_made_18 : decode cX10_made 18 = .ok (.iload_n 2, 1) := by decide +kernel
theorem dX10_made_19 : decode cX10_made 19 = .ok (.iconst 0, 1) := by decide +kernel
theorem dX10_made_20 : decode cX10_made 20 = .ok (.aload_n 3, 1) := by decide +kernel
theorem dX10_made_21 : decode cX10_made 21 = .ok (.getfield 268, 3) := by decide +kernel
theorem dX10_made_24 : decode cX10_made 24 = .ok (.invokestatic 81, 3) := by decide +kernel
theorem dX10_made_27 : decode cX10_made 27 = .ok (.ifCond .eq 15, 3) := by decide +kernel
theorem dX10_made_30 : decode cX10_made 30 = .ok (.aload_n 3, 1) := by decide +kernel
theorem dX10_made_31 : decode cX10_made 31 = .ok (.iload_n 2, 1) := by decide +kernel
theorem dX10_made_32 : decode cX10_made 32 = .ok (.aload_n 0, 1) := by decide +kernel
theorem dX10_made_33 : decode cX10_made 33 = .ok (.getfield 12, 3) := by decide +kernel
theorem dX10_made_36 : decode cX10_made 36 = .ok (.invokevirtual 293, 3) := by decide +kernel
theorem dX10_made_39 : decode cX10_made 39 = .ok (.goto 4, 3) := by decide +kernel
theorem dX10_made_42 : decode cX10_made 42 = .ok (.iconst (-1), 1) := by decide +kernel
theorem dX10_made_43 : decode cX10_made 43 = .ok (.ireturn, 1) := by decide +kernel
theorem dX10_begin_0 : decode cX10_begin 0 = .ok (.iload_n 1, 1) := by decide +kernel
theorem dX10_begin_1 : decode cX10_begin 1 = .ok (.iconst 0, 1) := by decide +kernel
theorem dX10_begin_2 : decode cX10_begin 2 = .ok (.bipush 20, 2) := by decide +kernel
theorem dX10_begin_4 : decode cX10_begin 4 = .ok (.invokestatic 81, 3) := by decide +kernel
theorem dX10_begin_7 : decode cX10_begin 7 = .ok (.ifCond .eq 24, 3) := by decide +kernel
theorem dX10_begin_10 : decode cX10_begin 10 = .ok (.iload_n 2, 1) := by decide +kernel
theorem dX10_begin_11 : decode cX10_begin 11 = .ok (.iconst 0, 1) := by decide +kernel
theorem dX10_begin_12 : decode cX10_begin 12 = .ok (.sipush 999, 3) := by decide +kernel
theorem dX10_begin_15 : decode cX10_begin 15 = .ok (.invokestatic 81, 3) := by decide +kernel
theorem dX10_begin_18 : decode cX10_begin 18 = .ok (.ifCond .eq 13, 3) := by decide +kernel
theorem dX10_begin_21 : decode cX10_begin 21 = .ok (.iload_n 3, 1) := by decide +kernel
theorem dX10_begin_22 : decode cX10_begin 22 = .ok (.iconst 1, 1) := by decide +kernel
theorem dX10_begin_23 : decode cX10_begin 23 = .ok (.bipush 100, 2) := by decide +kernel
theorem dX10_begin_25 : decode cX10_begin 25 = .ok (.invokestatic 81, 3) := by decide +kernel
theorem dX10_begin_28 : decode cX10_begin 28 = .ok (.ifCond .ne 5, 3) := by decide +kernel
theorem dX10_begin_31 : decode cX10_begin 31 = .ok (.iconst (-1), 1) := by decide +kernel
theorem dX10_begin_32 : decode cX10_begin 32 = .ok (.ireturn, 1) := by decide +kernel
theorem dX10_begin_33 : decode cX10_begin 33 = .ok (.iload_n 3, 1) := by decide +kernel
theorem dX10_begin_34 : decode cX10_begin 34 = .ok (.istore 4, 2) := by decide +kernel
theorem dX10_begin_36 : decode cX10_begin 36 = .ok (.sipush 1000, 3) := by decide +kernel
theorem dX10_begin_39 : decode cX10_begin 39 = .ok (.iload_n 2, 1) := by decide +kernel
theorem dX10_begin_40 : decode cX10_begin 40 = .ok (.isub, 1) := by decide +kernel
theorem dX10_begin_41 : decode cX10_begin 41 = .ok (.istore 5, 2) := by decide +kernel
theorem dX10_begin_43 : decode cX10_begin 43 = .ok (.iconst 0, 1) := by decide +kernel
theorem dX10_begin_44 : decode cX10_begin 44 = .ok (.istore 6, 2) := by decide +kernel
theorem dX10_begin_46 : decode cX10_begin 46 = .ok (.iload 6, 2) := by decide +kernel
theorem dX10_begin_48 : decode cX10_begin 48 = .ok (.iload_n 1, 1) := by decide +kernel
theorem dX10_begin_49 : decode cX10_begin 49 = .ok (.if_icmp .ge 33, 3) := by decide +kernel
theorem dX10_begin_52 : decode cX10_begin 52 = .ok (.iload 4, 2) := by decide +kernel
theorem dX10_begin_54 : decode cX10_begin 54 = .ok (.ldc_w 297, 3) := by decide +kernel
theorem dX10_begin_57 : decode cX10_begin 57 = .ok (.if_icmp .gt 25, 3) := by decide +kernel
theorem dX10_begin_60 : decode cX10_begin 60 = .ok (.iload 4, 2) := by decide +kernel
theorem dX10_begin_62 : decode cX10_begin 62 = .ok (.sipush 1000, 3) := by decide +kernel
theorem dX10_begin_65 : decode cX10_begin 65 = .ok (.imul, 1) := by decide +kernel
theorem dX10_begin_66 : decode cX10_begin 66 = .ok (.iload 5, 2) := by decide +kernel
theorem dX10_begin_68 : decode cX10_begin 68 = .ok (.iadd, 1) := by decide +kernel
theorem dX10_begin_69 : decode cX10_begin 69 = .ok (.iconst 1, 1) := by decide +kernel
theorem dX10_begin_70 : decode cX10_begin 70 = .ok (.isub, 1) := by decide +kernel
theorem dX10_begin_71 : decode cX10_begin 71 = .ok (.iload 5, 2) := by decide +kernel
theorem dX10_begin_73 : decode cX10_begin 73 = .ok (.idiv, 1) := by decide +kernel
theorem dX10_begin_74 : decode cX10_begin 74 = .ok (.istore 4, 2) := by decide +kernel
theorem dX10_begin_76 : decode cX10_begin 76 = .ok (.iinc 6 1, 3) := by decide +kernel
theorem dX10_begin_79 : decode cX10_begin 79 = .ok (.goto (-33), 3) := by decide +kernel
theorem dX10_begin_82 : decode cX10_begin 82 = .ok (.iload 4, 2) := by decide +kernel
theorem dX10_begin_84 : decode cX10_begin 84 = .ok (.ldc_w 297, 3) := by decide +kernel
theorem dX10_begin_87 : decode cX10_begin 87 = .ok (.if_icmp .gt 8, 3) := by decide +kernel
theorem dX10_begin_90 : decode cX10_begin 90 = .ok (.iload 4, 2) := by decide +kernel
theorem dX10_begin_92 : decode cX10_begin 92 = .ok (.goto 5, 3) := by decide +kernel
theorem dX10_begin_95 : decode cX10_begin 95 = .ok (.bipush (-4), 2) := by decide +kernel
theorem dX10_begin_97 : decode cX10_begin 97 = .ok (.ireturn, 1) := by decide +kernel
theorem dX10_shows_0 : decode cX10_shows 0 = .ok (.aload_n 0, 1) := by decide +kernel
theorem dX10_shows_1 : decode cX10_shows 1 = .ok (.iload_n 1, 1) := by decide +kernel
theorem dX10_shows_2 : decode cX10_shows 2 = .ok (.invokevirtual 203, 3) := by decide +kernel
theorem dX10_shows_5 : decode cX10_shows 5 = .ok (.ifCond .eq 47, 3) := by decide +kernel
theorem dX10_shows_8 : decode cX10_shows 8 = .ok (.aload_n 0, 1) := by decide +kernel
theorem dX10_shows_9 : decode cX10_shows 9 = .ok (.getfield 67, 3) := by decide +kernel
theorem dX10_shows_12 : decode cX10_shows 12 = .ok (.invokevirtual 246, 3) := by decide +kernel
theorem dX10_shows_15 : decode cX10_shows 15 = .ok (.ifCond .eq 37, 3) := by decide +kernel
theorem dX10_shows_18 : decode cX10_shows 18 = .ok (.aload_n 0, 1) := by decide +kernel
theorem dX10_shows_19 : decode cX10_shows 19 = .ok (.getfield 67, 3) := by decide +kernel
theorem dX10_shows_22 : decode cX10_shows 22 = .ok (.getfield 298, 3) := by decide +kernel
theorem dX10_shows_25 : decode cX10_shows 25 = .ok (.aload_n 0, 1) := by decide +kernel
theorem dX10_shows_26 : decode cX10_shows 26 = .ok (.getfield 60, 3) := by decide +kernel
theorem dX10_shows_29 : decode cX10_shows 29 = .ok (.getfield 125, 3) := by decide +kernel
theorem dX10_shows_32 : decode cX10_shows 32 = .ok (.if_icmp .gt 20, 3) := by decide +kernel
theorem dX10_shows_35 : decode cX10_shows 35 = .ok (.aload_n 0, 1) := by decide +kernel
theorem dX10_shows_36 : decode cX10_shows 36 = .ok (.getfield 67, 3) := by decide +kernel
theorem dX10_shows_39 : decode cX10_shows 39 = .ok (.getfield 299, 3) := by decide +kernel
theorem dX10_shows_42 : decode cX10_shows 42 = .ok (.aload_n 0, 1) := by decide +kernel
theorem dX10_shows_43 : decode cX10_shows 43 = .ok (.getfield 60, 3) := by decide +kernel
theorem dX10_shows_46 : decode cX10_shows 46 = .ok (.getfield 128, 3) := by decide +kernel
theorem dX10_shows_49 : decode cX10_shows 49 = .ok (.if_icmp .le 5, 3) := by decide +kernel
theorem dX10_shows_52 : decode cX10_shows 52 = .ok (.iconst (-1), 1) := by decide +kernel
theorem dX10_shows_53 : decode cX10_shows 53 = .ok (.ireturn, 1) := by decide +kernel
theorem dX10_shows_54 : decode cX10_shows 54 = .ok (.aload_n 0, 1) := by decide +kernel
theorem dX10_shows_55 : decode cX10_shows 55 = .ok (.getfield 67, 3) := by decide +kernel
theorem dX10_shows_58 : decode cX10_shows 58 = .ok (.aload_n 0, 1) := by decide +kernel
theorem dX10_shows_59 : decode cX10_shows 59 = .ok (.getfield 25, 3) := by decide +kernel
theorem dX10_shows_62 : decode cX10_shows 62 = .ok (.iload_n 1, 1) := by decide +kernel
theorem dX10_shows_63 : decode cX10_shows 63 = .ok (.aaload, 1) := by decide +kernel
theorem dX10_shows_64 : decode cX10_shows 64 = .ok (.invokevirtual 300, 3) := by decide +kernel
theorem dX10_shows_67 : decode cX10_shows 67 = .ok (.invokestatic 185, 3) := by decide +kernel
theorem dX10_shows_70 : decode cX10_shows 70 = .ok (.ireturn, 1) := by decide +kernel
theorem dX10_count_0 : decode cX10_count 0 = .ok (.iload_n 1, 1) := by decide +kernel
theorem dX10_count_1 : decode cX10_count 1 = .ok (.tableswitch 103 0 6 #[43, 51, 56, 61, 66, 71, 79], 43) := by decide +kernel
theorem dX10_count_44 : decode cX10_count 44 = .ok (.aload_n 0, 1) := by decide +kernel
theorem dX10_count_45 : decode cX10_count 45 = .ok (.getfield 60, 3) := by decide +kernel
theorem dX10_count_48 : decode cX10_count 48 = .ok (.getfield 150, 3) := by decide +kernel
theorem dX10_count_51 : decode cX10_count 51 = .ok (.ireturn, 1) := by decide +kernel
theorem dX10_count_52 : decode cX10_count 52 = .ok (.aload_n 0, 1) := by decide +kernel
theorem dX10_count_53 : decode cX10_count 53 = .ok (.getfield 71, 3) := by decide +kernel
theorem dX10_count_56 : decode cX10_count 56 = .ok (.ireturn, 1) := by decide +kernel
theorem dX10_count_57 : decode cX10_count 57 = .ok (.aload_n 0, 1) := by decide +kernel
theorem dX10_count_58 : decode cX10_count 58 = .ok (.invokevirtual 304, 3) := by decide +kernel
theorem dX10_count_61 : decode cX10_count 61 = .ok (.ireturn, 1) := by decide +kernel
theorem dX10_count_62 : decode cX10_count 62 = .ok (.aload_n 0, 1) := by decide +kernel
theorem dX10_count_63 : decode cX10_count 63 = .ok (.getfield 75, 3) := by decide +kernel
theorem dX10_count_66 : decode cX10_count 66 = .ok (.ireturn, 1) := by decide +kernel
theorem dX10_count_67 : decode cX10_count 67 = .ok (.aload_n 0, 1) := by decide +kernel
theorem dX10_count_68 : decode cX10_count 68 = .ok (.getfield 78, 3) := by decide +kernel
theorem dX10_count_71 : decode cX10_count 71 = .ok (.ireturn, 1) := by decide +kernel
theorem dX10_count_72 : decode cX10_count 72 = .ok (.aload_n 0, 1) := by decide +kernel
theorem dX10_count_73 : decode cX10_count 73 = .ok (.getfield 60, 3) := by decide +kernel
theorem dX10_count_76 : decode cX10_count 76 = .ok (.invokevirtual 307, 3) := by decide +kernel
theorem dX10_count_79 : decode cX10_count 79 = .ok (.ireturn, 1) := by decide +kernel
theorem dX10_count_80 : decode cX10_count 80 = .ok (.aload_n 0, 1) := by decide +kernel
theorem dX10_count_81 : decode cX10_count 81 = .ok (.getfield 60, 3) := by decide +kernel
theorem dX10_count_84 : decode cX10_count 84 = .ok (.getfield 125, 3) := by decide +kernel
theorem dX10_count_87 : decode cX10_count 87 = .ok (.aload_n 0, 1) := by decide +kernel
theorem dX10_count_88 : decode cX10_count 88 = .ok (.getfield 60, 3) := by decide +kernel
theorem dX10_count_91 : decode cX10_count 91 = .ok (.getfield 128, 3) := by decide +kernel
theorem dX10_count_94 : decode cX10_count 94 = .ok (.imul, 1) := by decide +kernel
theorem dX10_count_95 : decode cX10_count 95 = .ok (.aload_n 0, 1) := by decide +kernel
theorem dX10_count_96 : decode cX10_count 96 = .ok (.getfield 60, 3) := by decide +kernel
theorem dX10_count_99 : decode cX10_count 99 = .ok (.invokevirtual 307, 3) := by decide +kernel
theorem dX10_count_102 : decode cX10_count 102 = .ok (.isub, 1) := by decide +kernel
theorem dX10_count_103 : decode cX10_count 103 = .ok (.ireturn, 1) := by decide +kernel
theorem dX10_count_104 : decode cX10_count 104 = .ok (.iconst (-1), 1) := by decide +kernel
theorem dX10_count_105 : decode cX10_count 105 = .ok (.ireturn, 1) := by decide +kernel
theorem dX10_within_0 : decode cX10_within 0 = .ok (.iload_n 0, 1) := by decide +kernel
theorem dX10_within_1 : decode cX10_within 1 = .ok (.iload_n 1, 1) := by decide +kernel
theorem dX10_within_2 : decode cX10_within 2 = .ok (.if_icmp .lt 12, 3) := by decide +kernel
theorem dX10_within_5 : decode cX10_within 5 = .ok (.iload_n 0, 1) := by decide +kernel
theorem dX10_within_6 : decode cX10_within 6 = .ok (.iload_n 2, 1) := by decide +kernel
theorem dX10_within_7 : decode cX10_within 7 = .ok (.if_icmp .gt 7, 3) := by decide +kernel
theorem dX10_within_10 : decode cX10_within 10 = .ok (.iconst 1, 1) := by decide +kernel
theorem dX10_within_11 : decode cX10_within 11 = .ok (.goto 4, 3) := by decide +kernel
theorem dX10_within_14 : decode cX10_within 14 = .ok (.iconst 0, 1) := by decide +kernel
theorem dX10_within_15 : decode cX10_within 15 = .ok (.ireturn, 1) := by decide +kernel
theorem dX10_isInk_0 : decode cX10_isInk 0 = .ok (.iload_n 0, 1) := by decide +kernel
theorem dX10_isInk_1 : decode cX10_isInk 1 = .ok (.iconst 0, 1) := by decide +kernel
theorem dX10_isInk_2 : decode cX10_isInk 2 = .ok (.bipush 9, 2) := by decide +kernel
theorem dX10_isInk_4 : decode cX10_isInk 4 = .ok (.invokestatic 81, 3) := by decide +kernel
theorem dX10_isInk_7 : decode cX10_isInk 7 = .ok (.ireturn, 1) := by decide +kernel
theorem dX10_isColour_0 : decode cX10_isColour 0 = .ok (.iload_n 0, 1) := by decide +kernel
theorem dX10_isColour_1 : decode cX10_isColour 1 = .ok (.iconst 0, 1) := by decide +kernel
theorem dX10_isColour_2 : decode cX10_isColour 2 = .ok (.bipush 15, 2) := by decide +kernel
theorem dX10_isColour_4 : decode cX10_isColour 4 = .ok (.invokestatic 81, 3) := by decide +kernel
theorem dX10_isColour_7 : decode cX10_isColour 7 = .ok (.ireturn, 1) := by decide +kernel
theorem dX10_isInkSet_0 : decode cX10_isInkSet 0 = .ok (.iload_n 0, 1) := by decide +kernel
theorem dX10_isInkSet_1 : decode cX10_isInkSet 1 = .ok (.iconst 0, 1) := by decide +kernel
theorem dX10_isInkSet_2 : decode cX10_isInkSet 2 = .ok (.sipush 1023, 3) := by decide +kernel
theorem dX10_isInkSet_5 : decode cX10_isInkSet 5 = .ok (.invokestatic 81, 3) := by decide +kernel
theorem dX10_isInkSet_8 : decode cX10_isInkSet 8 = .ok (.ireturn, 1) := by decide +kernel
theorem dX10_has_0 : decode cX10_has 0 = .ok (.iload_n 0, 1) := by decide +kernel
theorem dX10_has_1 : decode cX10_has 1 = .ok (.iload_n 1, 1) := by decide +kernel
theorem dX10_has_2 : decode cX10_has 2 = .ok (.iushr, 1) := by decide +kernel
theorem dX10_has_3 : decode cX10_has 3 = .ok (.iconst 1, 1) := by decide +kernel
theorem dX10_has_4 : decode cX10_has 4 = .ok (.iand, 1) := by decide +kernel
theorem dX10_has_5 : decode cX10_has 5 = .ok (.iconst 1, 1) := by decide +kernel
theorem dX10_has_6 : decode cX10_has 6 = .ok (.if_icmp .ne 7, 3) := by decide +kernel
theorem dX10_has_9 : decode cX10_has 9 = .ok (.iconst 1, 1) := by decide +kernel
theorem dX10_has_10 : decode cX10_has 10 = .ok (.goto 4, 3) := by decide +kernel
theorem dX10_has_13 : decode cX10_has 13 = .ok (.iconst 0, 1) := by decide +kernel
theorem dX10_has_14 : decode cX10_has 14 = .ok (.ireturn, 1) := by decide +kernel
theorem dX10_withoutPaper_0 : decode cX10_withoutPaper 0 = .ok (.iload_n 0, 1) := by decide +kernel
theorem dX10_withoutPaper_1 : decode cX10_withoutPaper 1 = .ok (.bipush (-2), 2) := by decide +kernel
theorem dX10_withoutPaper_3 : decode cX10_withoutPaper 3 = .ok (.iand, 1) := by decide +kernel
theorem dX10_withoutPaper_4 : decode cX10_withoutPaper 4 = .ok (.ireturn, 1) := by decide +kernel
theorem dX10_answer_0 : decode cX10_answer 0 = .ok (.iload_n 0, 1) := by decide +kernel
theorem dX10_answer_1 : decode cX10_answer 1 = .ok (.ifCond .eq 7, 3) := by decide +kernel
theorem dX10_answer_4 : decode cX10_answer 4 = .ok (.iconst 1, 1) := by decide +kernel
theorem dX10_answer_5 : decode cX10_answer 5 = .ok (.goto 4, 3) := by decide +kernel
theorem dX10_answer_8 : decode cX10_answer 8 = .ok (.iconst 0, 1) := by decide +kernel
theorem dX10_answer_9 : decode cX10_answer 9 = .ok (.ireturn, 1) := by decide +kernel
theorem dX10_replace_0 : decode cX10_replace 0 = .ok (.aload_n 0, 1) := by decide +kernel
theorem dX10_replace_1 : decode cX10_replace 1 = .ok (.iload_n 1, 1) := by decide +kernel
theorem dX10_replace_2 : decode cX10_replace 2 = .ok (.iaload, 1) := by decide +kernel
theorem dX10_replace_3 : decode cX10_replace 3 = .ok (.istore_n 3, 1) := by decide +kernel
theorem dX10_replace_4 : decode cX10_replace 4 = .ok (.aload_n 0, 1) := by decide +kernel
theorem dX10_replace_5 : decode cX10_replace 5 = .ok (.iload_n 1, 1) := by decide +kernel
theorem dX10_replace_6 : decode cX10_replace 6 = .ok (.iload_n 2, 1) := by decide +kernel
theorem dX10_replace_7 : decode cX10_replace 7 = .ok (.iastore, 1) := by decide +kernel
theorem dX10_replace_8 : decode cX10_replace 8 = .ok (.iload_n 3, 1) := by decide +kernel
theorem dX10_replace_9 : decode cX10_replace 9 = .ok (.ireturn, 1) := by decide +kernel
theorem dX10_isSheet_0 : decode cX10_isSheet 0 = .ok (.iload_n 1, 1) := by decide +kernel
theorem dX10_isSheet_1 : decode cX10_isSheet 1 = .ok (.iconst 0, 1) := by decide +kernel
theorem dX10_isSheet_2 : decode cX10_isSheet 2 = .ok (.aload_n 0, 1) := by decide +kernel
theorem dX10_isSheet_3 : decode cX10_isSheet 3 = .ok (.getfield 71, 3) := by decide +kernel
theorem dX10_isSheet_6 : decode cX10_isSheet 6 = .ok (.iconst 1, 1) := by decide +kernel
theorem dX10_isSheet_7 : decode cX10_isSheet 7 = .ok (.isub, 1) := by decide +kernel
theorem dX10_isSheet_8 : decode cX10_isSheet 8 = .ok (.invokestatic 81, 3) := by decide +kernel
theorem dX10_isSheet_11 : decode cX10_isSheet 11 = .ok (.ireturn, 1) := by decide +kernel
theorem dX10_firstOf_0 : decode cX10_firstOf 0 = .ok (.iload_n 0, 1) := by decide +kernel
theorem dX10_firstOf_1 : decode cX10_firstOf 1 = .ok (.bipush 100, 2) := by decide +kernel
theorem dX10_firstOf_3 : decode cX10_firstOf 3 = .ok (.idiv, 1) := by decide +kernel
theorem dX10_firstOf_4 : decode cX10_firstOf 4 = .ok (.ireturn, 1) := by decide +kernel
theorem dX10_lastOf_0 : decode cX10_lastOf 0 = .ok (.iload_n 0, 1) := by decide +kernel
theorem dX10_lastOf_1 : decode cX10_lastOf 1 = .ok (.bipush 100, 2) := by decide +kernel
theorem dX10_lastOf_3 : decode cX10_lastOf 3 = .ok (.irem, 1) := by decide +kernel
theorem dX10_lastOf_4 : decode cX10_lastOf 4 = .ok (.ireturn, 1) := by decide +kernel
theorem dX10_areSheets_0 : decode cX10_areSheets 0 = .ok (.iload_n 1, 1) := by decide +kernel
theorem dX10_areSheets_1 : decode cX10_areSheets 1 = .ok (.ifCond .lt 29, 3) := by decide +kernel
theorem dX10_areSheets_4 : decode cX10_areSheets 4 = .ok (.iload_n 1, 1) := by decide +kernel
theorem dX10_areSheets_5 : decode cX10_areSheets 5 = .ok (.invokestatic 229, 3) := by decide +kernel
theorem dX10_areSheets_8 : decode cX10_areSheets 8 = .ok (.iload_n 1, 1) := by decide +kernel
theorem dX10_areSheets_9 : decode cX10_areSheets 9 = .ok (.invokestatic 232, 3) := by decide +kernel
theorem dX10_areSheets_12 : decode cX10_areSheets 12 = .ok (.if_icmp .gt 18, 3) := by decide +kernel
theorem dX10_areSheets_15 : decode cX10_areSheets 15 = .ok (.aload_n 0, 1) := by decide +kernel
theorem dX10_areSheets_16 : decode cX10_areSheets 16 = .ok (.iload_n 1, 1) := by decide +kernel
theorem dX10_areSheets_17 : decode cX10_areSheets 17 = .ok (.invokestatic 232, 3) := by decide +kernel
theorem dX10_areSheets_20 : decode cX10_areSheets 20 = .ok (.invokevirtual 203, 3) := by decide +kernel
theorem dX10_areSheets_23 : decode cX10_areSheets 23 = .ok (.ifCond .eq 7, 3) := by decide +kernel
theorem dX10_areSheets_26 : decode cX10_areSheets 26 = .ok (.iconst 1, 1) := by decide +kernel
theorem dX10_areSheets_27 : decode cX10_areSheets 27 = .ok (.goto 4, 3) := by decide +kernel
theorem dX10_areSheets_30 : decode cX10_areSheets 30 = .ok (.iconst 0, 1) := by decide +kernel
theorem dX10_areSheets_31 : decode cX10_areSheets 31 = .ok (.ireturn, 1) := by decide +kernel
theorem dX10_goodSheets_0 : decode cX10_goodSheets 0 = .ok (.iconst 0, 1) := by decide +kernel
theorem dX10_goodSheets_1 : decode cX10_goodSheets 1 = .ok (.istore_n 1, 1) := by decide +kernel
theorem dX10_goodSheets_2 : decode cX10_goodSheets 2 = .ok (.iconst 0, 1) := by decide +kernel
theorem dX10_goodSheets_3 : decode cX10_goodSheets 3 = .ok (.istore_n 2, 1) := by decide +kernel
theorem dX10_goodSheets_4 : decode cX10_goodSheets 4 = .ok (.iload_n 2, 1) := by decide +kernel
theorem dX10_goodSheets_5 : decode cX10_goodSheets 5 = .ok (.aload_n 0, 1) := by decide +kernel
theorem dX10_goodSheets_6 : decode cX10_goodSheets 6 = .ok (.getfield 71, 3) := by decide +kernel
theorem dX10_goodSheets_9 : decode cX10_goodSheets 9 = .ok (.if_icmp .ge 24, 3) := by decide +kernel
theorem dX10_goodSheets_12 : decode cX10_goodSheets 12 = .ok (.iload_n 1, 1) := by decide +kernel
theorem dX10_goodSheets_13 : decode cX10_goodSheets 13 = .ok (.aload_n 0, 1) := by decide +kernel
theorem dX10_goodSheets_14 : decode cX10_goodSheets 14 = .ok (.getfield 25, 3) := by decide +kernel
theorem dX10_goodSheets_17 : decode cX10_goodSheets 17 = .ok (.iload_n 2, 1) := by decide +kernel
theorem dX10_goodSheets_18 : decode cX10_goodSheets 18 = .ok (.aaload, 1) := by decide +kernel
theorem dX10_goodSheets_19 : decode cX10_goodSheets 19 = .ok (.getfield 218, 3) := by decide +kernel
theorem dX10_goodSheets_22 : decode cX10_goodSheets 22 = .ok (.invokestatic 185, 3) := by decide +kernel
theorem dX10_goodSheets_25 : decode cX10_goodSheets 25 = .ok (.iadd, 1) := by decide +kernel
theorem dX10_goodSheets_26 : decode cX10_goodSheets 26 = .ok (.istore_n 1, 1) := by decide +kernel
theorem dX10_goodSheets_27 : decode cX10_goodSheets 27 = .ok (.iinc 2 1, 3) := by decide +kernel
theorem dX10_goodSheets_30 : decode cX10_goodSheets 30 = .ok (.goto (-26), 3) := by decide +kernel
theorem dX10_goodSheets_33 : decode cX10_goodSheets 33 = .ok (.iload_n 1, 1) := by decide +kernel
theorem dX10_goodSheets_34 : decode cX10_goodSheets 34 = .ok (.ireturn, 1) := by decide +kernel
theorem dX10_pullRoll_0 : decode cX10_pullRoll 0 = .ok (.aload_n 0, 1) := by decide +kernel
theorem dX10_pullRoll_1 : decode cX10_pullRoll 1 = .ok (.getfield 60, 3) := by decide +kernel
theorem dX10_pullRoll_4 : decode cX10_pullRoll 4 = .ok (.invokevirtual 85, 3) := by decide +kernel
theorem dX10_pullRoll_7 : decode cX10_pullRoll 7 = .ok (.ifCond .eq 16, 3) := by decide +kernel
theorem dX10_pullRoll_10 : decode cX10_pullRoll 10 = .ok (.iload_n 1, 1) := by decide +kernel
theorem dX10_pullRoll_11 : decode cX10_pullRoll 11 = .ok (.iconst (-1), 1) := by decide +kernel
theorem dX10_pullRoll_12 : decode cX10_pullRoll 12 = .ok (.if_icmp .eq 13, 3) := by decide +kernel
theorem dX10_pullRoll_15 : decode cX10_pullRoll 15 = .ok (.aload_n 0, 1) := by decide +kernel
theorem dX10_pullRoll_16 : decode cX10_pullRoll 16 = .ok (.iload_n 1, 1) := by decide +kernel
theorem dX10_pullRoll_17 : decode cX10_pullRoll 17 = .ok (.invokevirtual 226, 3) := by decide +kernel
theorem dX10_pullRoll_20 : decode cX10_pullRoll 20 = .ok (.ifCond .ne 5, 3) := by decide +kernel
theorem dX10_pullRoll_23 : decode cX10_pullRoll 23 = .ok (.iconst (-1), 1) := by decide +kernel
theorem dX10_pullRoll_24 : decode cX10_pullRoll 24 = .ok (.ireturn, 1) := by decide +kernel
theorem dX10_pullRoll_25 : decode cX10_pullRoll 25 = .ok (.aload_n 0, 1) := by decide +kernel
theorem dX10_pullRoll_26 : decode cX10_pullRoll 26 = .ok (.getfield 75, 3) := by decide +kernel
theorem dX10_pullRoll_29 : decode cX10_pullRoll 29 = .ok (.sipush 200, 3) := by decide +kernel
theorem dX10_pullRoll_32 : decode cX10_pullRoll 32 = .ok (.if_icmp .ne 6, 3) := by decide +kernel
theorem dX10_pullRoll_35 : decode cX10_pullRoll 35 = .ok (.bipush (-2), 2) := by decide +kernel
theorem dX10_pullRoll_37 : decode cX10_pullRoll 37 = .ok (.ireturn, 1) := by decide +kernel
theorem dX10_pullRoll_38 : decode cX10_pullRoll 38 = .ok (.iconst 0, 1) := by decide +kernel
theorem dX10_pullRoll_39 : decode cX10_pullRoll 39 = .ok (.istore_n 3, 1) := by decide +kernel
theorem dX10_pullRoll_40 : decode cX10_pullRoll 40 = .ok (.iconst 0, 1) := by decide +kernel
theorem dX10_pullRoll_41 : decode cX10_pullRoll 41 = .ok (.istore 4, 2) := by decide +kernel
theorem dX10_pullRoll_43 : decode cX10_pullRoll 43 = .ok (.iload_n 1, 1) := by decide +kernel
theorem dX10_pullRoll_44 : decode cX10_pullRoll 44 = .ok (.iconst (-1), 1) := by decide +kernel
theorem dX10_pullRoll_45 : decode cX10_pullRoll 45 = .ok (.if_icmp .eq 25, 3) := by decide +kernel
theorem dX10_pullRoll_48 : decode cX10_pullRoll 48 = .ok (.aload_n 0, 1) := by decide +kernel
theorem dX10_pullRoll_49 : decode cX10_pullRoll 49 = .ok (.getfield 60, 3) := by decide +kernel
theorem dX10_pullRoll_52 : decode cX10_pullRoll 52 = .ok (.invokevirtual 169, 3) := by decide +kernel
theorem dX10_pullRoll_55 : decode cX10_pullRoll 55 = .ok (.istore_n 3, 1) := by decide +kernel
theorem dX10_pullRoll_56 : decode cX10_pullRoll 56 = .ok (.aload_n 0, 1) := by decide +kernel
theorem dX10_pullRoll_57 : decode cX10_pullRoll 57 = .ok (.iload_n 1, 1) := by decide +kernel
theorem dX10_pullRoll_58 : decode cX10_pullRoll 58 = .ok (.invokestatic 229, 3) := by decide +kernel
theorem dX10_pullRoll_61 : decode cX10_pullRoll 61 = .ok (.iload_n 1, 1) := by decide +kernel
theorem dX10_pullRoll_62 : decode cX10_pullRoll 62 = .ok (.invokestatic 232, 3) := by decide +kernel
theorem dX10_pullRoll_65 : decode cX10_pullRoll 65 = .ok (.invokevirtual 310, 3) := by decide +kernel
theorem dX10_pullRoll_68 : decode cX10_pullRoll 68 = .ok (.istore 4, 2) := by decide +kernel
theorem dX10_pullRoll_70 : decode cX10_pullRoll 70 = .ok (.aload_n 0, 1) := by decide +kernel
theorem dX10_pullRoll_71 : decode cX10_pullRoll 71 = .ok (.getfield 31, 3) := by decide +kernel
theorem dX10_pullRoll_74 : decode cX10_pullRoll 74 = .ok (.aload_n 0, 1) := by decide +kernel
theorem dX10_pullRoll_75 : decode cX10_pullRoll 75 = .ok (.getfield 75, 3) := by decide +kernel
theorem dX10_pullRoll_78 : decode cX10_pullRoll 78 = .ok (.new 29, 3) := by decide +kernel
theorem dX10_pullRoll_81 : decode cX10_pullRoll 81 = .ok (.dup, 1) := by decide +kernel
theorem dX10_pullRoll_82 : decode cX10_pullRoll 82 = .ok (.iload_n 2, 1) := by decide +kernel
theorem dX10_pullRoll_83 : decode cX10_pullRoll 83 = .ok (.aload_n 0, 1) := by decide +kernel
theorem dX10_pullRoll_84 : decode cX10_pullRoll 84 = .ok (.getfield 78, 3) := by decide +kernel
theorem dX10_pullRoll_87 : decode cX10_pullRoll 87 = .ok (.iload_n 1, 1) := by decide +kernel
theorem dX10_pullRoll_88 : decode cX10_pullRoll 88 = .ok (.iload_n 3, 1) := by decide +kernel
theorem dX10_pullRoll_89 : decode cX10_pullRoll 89 = .ok (.iload 4, 2) := by decide +kernel
theorem dX10_pullRoll_91 : decode cX10_pullRoll 91 = .ok (.invokespecial 313, 3) := by decide +kernel
theorem dX10_pullRoll_94 : decode cX10_pullRoll 94 = .ok (.aastore, 1) := by decide +kernel
theorem dX10_pullRoll_95 : decode cX10_pullRoll 95 = .ok (.aload_n 0, 1) := by decide +kernel
theorem dX10_pullRoll_96 : decode cX10_pullRoll 96 = .ok (.dup, 1) := by decide +kernel
theorem dX10_pullRoll_97 : decode cX10_pullRoll 97 = .ok (.getfield 75, 3) := by decide +kernel
theorem dX10_pullRoll_100 : decode cX10_pullRoll 100 = .ok (.iconst 1, 1) := by decide +kernel
theorem dX10_pullRoll_101 : decode cX10_pullRoll 101 = .ok (.iadd, 1) := by decide +kernel
theorem dX10_pullRoll_102 : decode cX10_pullRoll 102 = .ok (.putfield 75, 3) := by decide +kernel
theorem dX10_pullRoll_105 : decode cX10_pullRoll 105 = .ok (.aload_n 0, 1) := by decide +kernel
theorem dX10_pullRoll_106 : decode cX10_pullRoll 106 = .ok (.getfield 75, 3) := by decide +kernel
theorem dX10_pullRoll_109 : decode cX10_pullRoll 109 = .ok (.iconst 1, 1) := by decide +kernel
theorem dX10_pullRoll_110 : decode cX10_pullRoll 110 = .ok (.isub, 1) := by decide +kernel
theorem dX10_pullRoll_111 : decode cX10_pullRoll 111 = .ok (.ireturn, 1) := by decide +kernel
theorem dX10_pullSheets_0 : decode cX10_pullSheets 0 = .ok (.iconst 0, 1) := by decide +kernel
theorem dX10_pullSheets_1 : decode cX10_pullSheets 1 = .ok (.istore_n 3, 1) := by decide +kernel
theorem dX10_pullSheets_2 : decode cX10_pullSheets 2 = .ok (.iload_n 1, 1) := by decide +kernel
theorem dX10_pullSheets_3 : decode cX10_pullSheets 3 = .ok (.istore 4, 2) := by decide +kernel
theorem dX10_pullSheets_5 : decode cX10_pullSheets 5 = .ok (.iload 4, 2) := by decide +kernel
theorem dX10_pullSheets_7 : decode cX10_pullSheets 7 = .ok (.iload_n 2, 1) := by decide +kernel
theorem dX10_pullSheets_8 : decode cX10_pullSheets 8 = .ok (.if_icmp .gt 73, 3) := by decide +kernel
theorem dX10_pullSheets_11 : decode cX10_pullSheets 11 = .ok (.aload_n 0, 1) := by decide +kernel
theorem dX10_pullSheets_12 : decode cX10_pullSheets 12 = .ok (.getfield 25, 3) := by decide +kernel
theorem dX10_pullSheets_15 : decode cX10_pullSheets 15 = .ok (.iload 4, 2) := by decide +kernel
theorem dX10_pullSheets_17 : decode cX10_pullSheets 17 = .ok (.aaload, 1) := by decide +kernel
theorem dX10_pullSheets_18 : decode cX10_pullSheets 18 = .ok (.astore 5, 2) := by decide +kernel
theorem dX10_pullSheets_20 : decode cX10_pullSheets 20 = .ok (.aload 5, 2) := by decide +kernel
theorem dX10_pullSheets_22 : decode cX10_pullSheets 22 = .ok (.getfield 218, 3) := by decide +kernel
theorem dX10_pullSheets_25 : decode cX10_pullSheets 25 = .ok (.ifCond .ne 6, 3) := by decide +kernel
theorem dX10_pullSheets_28 : decode cX10_pullSheets 28 = .ok (.goto 47, 3) := by decide +kernel
theorem dX10_pullSheets_31 : decode cX10_pullSheets 31 = .ok (.aload_n 0, 1) := by decide +kernel
theorem dX10_pullSheets_32 : decode cX10_pullSheets 32 = .ok (.getfield 19, 3) := by decide +kernel
theorem dX10_pullSheets_35 : decode cX10_pullSheets 35 = .ok (.invokevirtual 316, 3) := by decide +kernel
theorem dX10_pullSheets_38 : decode cX10_pullSheets 38 = .ok (.ifCond .eq 12, 3) := by decide +kernel
theorem dX10_pullSheets_41 : decode cX10_pullSheets 41 = .ok (.aload 5, 2) := by decide +kernel
theorem dX10_pullSheets_43 : decode cX10_pullSheets 43 = .ok (.iconst 0, 1) := by decide +kernel
theorem dX10_pullSheets_44 : decode cX10_pullSheets 44 = .ok (.putfield 218, 3) := by decide +kernel
theorem dX10_pullSheets_47 : decode cX10_pullSheets 47 = .ok (.goto 9, 3) := by decide +kernel
theorem dX10_pullSheets_50 : decode cX10_pullSheets 50 = .ok (.aload_n 0, 1) := by decide +kernel
theorem dX10_pullSheets_51 : decode cX10_pullSheets 51 = .ok (.aload 5, 2) := by decide +kernel
theorem dX10_pullSheets_53 : decode cX10_pullSheets 53 = .ok (.invokevirtual 319, 3) := by decide +kernel
theorem dX10_pullSheets_56 : decode cX10_pullSheets 56 = .ok (.iload_n 3, 1) := by decide +kernel
theorem dX10_pullSheets_57 : decode cX10_pullSheets 57 = .ok (.aload 5, 2) := by decide +kernel
theorem dX10_pullSheets_59 : decode cX10_pullSheets 59 = .ok (.getfield 218, 3) := by decide +kernel
theorem dX10_pullSheets_62 : decode cX10_pullSheets 62 = .ok (.ifCond .ne 7, 3) := by decide +kernel
theorem dX10_pullSheets_65 : decode cX10_pullSheets 65 = .ok (.iconst 1, 1) := by decide +kernel
theorem dX10_pullSheets_66 : decode cX10_pullSheets 66 = .ok (.goto 4, 3) := by decide +kernel
theorem dX10_pullSheets_69 : decode cX10_pullSheets 69 = .ok (.iconst 0, 1) := by decide +kernel
theorem dX10_pullSheets_70 : decode cX10_pullSheets 70 = .ok (.invokestatic 185, 3) := by decide +kernel
theorem dX10_pullSheets_73 : decode cX10_pullSheets 73 = .ok (.iadd, 1) := by decide +kernel
theorem dX10_pullSheets_74 : decode cX10_pullSheets 74 = .ok (.istore_n 3, 1) := by decide +kernel
theorem dX10_pullSheets_75 : decode cX10_pullSheets 75 = .ok (.iinc 4 1, 3) := by decide +kernel
theorem dX10_pullSheets_78 : decode cX10_pullSheets 78 = .ok (.goto (-73), 3) := by decide +kernel
theorem dX10_pullSheets_81 : decode cX10_pullSheets 81 = .ok (.iload_n 3, 1) := by decide +kernel
theorem dX10_pullSheets_82 : decode cX10_pullSheets 82 = .ok (.ireturn, 1) := by decide +kernel
theorem dX10_layRoll_0 : decode cX10_layRoll 0 = .ok (.iconst 0, 1) := by decide +kernel
theorem dX10_layRoll_1 : decode cX10_layRoll 1 = .ok (.istore_n 2, 1) := by decide +kernel
theorem dX10_layRoll_2 : decode cX10_layRoll 2 = .ok (.iload_n 2, 1) := by decide +kernel
theorem dX10_layRoll_3 : decode cX10_layRoll 3 = .ok (.bipush 64, 2) := by decide +kernel
theorem dX10_layRoll_5 : decode cX10_layRoll 5 = .ok (.if_icmp .ge 52, 3) := by decide +kernel
theorem dX10_layRoll_8 : decode cX10_layRoll 8 = .ok (.aload_n 0, 1) := by decide +kernel
theorem dX10_layRoll_9 : decode cX10_layRoll 9 = .ok (.getfield 60, 3) := by decide +kernel
theorem dX10_layRoll_12 : decode cX10_layRoll 12 = .ok (.iload_n 2, 1) := by decide +kernel
theorem dX10_layRoll_13 : decode cX10_layRoll 13 = .ok (.invokevirtual 323, 3) := by decide +kernel
theorem dX10_layRoll_16 : decode cX10_layRoll 16 = .ok (.ifCond .eq 35, 3) := by decide +kernel
theorem dX10_layRoll_19 : decode cX10_layRoll 19 = .ok (.aload_n 1, 1) := by decide +kernel
theorem dX10_layRoll_20 : decode cX10_layRoll 20 = .ok (.aload_n 0, 1) := by decide +kernel
theorem dX10_layRoll_21 : decode cX10_layRoll 21 = .ok (.getfield 35, 3) := by decide +kernel
theorem dX10_layRoll_24 : decode cX10_layRoll 24 = .ok (.iload_n 2, 1) := by decide +kernel
theorem dX10_layRoll_25 : decode cX10_layRoll 25 = .ok (.bipush 8, 2) := by decide +kernel
theorem dX10_layRoll_27 : decode cX10_layRoll 27 = .ok (.irem, 1) := by decide +kernel
theorem dX10_layRoll_28 : decode cX10_layRoll 28 = .ok (.iaload, 1) := by decide +kernel
theorem dX10_layRoll_29 : decode cX10_layRoll 29 = .ok (.iload_n 2, 1) := by decide +kernel
theorem dX10_layRoll_30 : decode cX10_layRoll 30 = .ok (.aload_n 0, 1) := by decide +kernel
theorem dX10_layRoll_31 : decode cX10_layRoll 31 = .ok (.getfield 12, 3) := by decide +kernel
theorem dX10_layRoll_34 : decode cX10_layRoll 34 = .ok (.aload_n 0, 1) := by decide +kernel
theorem dX10_layRoll_35 : decode cX10_layRoll 35 = .ok (.getfield 78, 3) := by decide +kernel
theorem dX10_layRoll_38 : decode cX10_layRoll 38 = .ok (.invokevirtual 326, 3) := by decide +kernel
theorem dX10_layRoll_41 : decode cX10_layRoll 41 = .ok (.aload_n 1, 1) := by decide +kernel
theorem dX10_layRoll_42 : decode cX10_layRoll 42 = .ok (.getfield 209, 3) := by decide +kernel
theorem dX10_layRoll_45 : decode cX10_layRoll 45 = .ok (.iload_n 2, 1) := by decide +kernel
theorem dX10_layRoll_46 : decode cX10_layRoll 46 = .ok (.aload_n 0, 1) := by decide +kernel
theorem dX10_layRoll_47 : decode cX10_layRoll 47 = .ok (.getfield 75, 3) := by decide +kernel
theorem dX10_layRoll_50 : decode cX10_layRoll 50 = .ok (.iastore, 1) := by decide +kernel
theorem dX10_layRoll_51 : decode cX10_layRoll 51 = .ok (.iinc 2 1, 3) := by decide +kernel
theorem dX10_layRoll_54 : decode cX10_layRoll 54 = .ok (.goto (-52), 3) := by decide +kernel
theorem dX10_layRoll_57 : decode cX10_layRoll 57 = .ok (.return_, 1) := by decide +kernel
