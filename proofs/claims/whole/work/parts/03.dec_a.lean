theorem dX0_init_0 : decode cX0_init 0 = .ok (.aload_n 0, 1) := by decide +kernel
theorem dX0_init_1 : decode cX0_init 1 = .ok (.invokespecial 3, 3) := by decide +kernel
theorem dX0_init_4 : decode cX0_init 4 = .ok (.aload_n 0, 1) := by decide +kernel
theorem dX0_init_5 : decode cX0_init 5 = .ok (.iload_n 1, 1) := by decide +kernel
theorem dX0_init_6 : decode cX0_init 6 = .ok (.sipush 512, 3) := by decide +kernel
theorem dX0_init_9 : decode cX0_init 9 = .ok (.invokestatic 9, 3) := by decide +kernel
theorem dX0_init_12 : decode cX0_init 12 = .ok (.putfield 15, 3) := by decide +kernel
theorem dX0_init_15 : decode cX0_init 15 = .ok (.aload_n 0, 1) := by decide +kernel
theorem dX0_init_16 : decode cX0_init 16 = .ok (.iload_n 1, 1) := by decide +kernel
theorem dX0_init_17 : decode cX0_init 17 = .ok (.sipush 512, 3) := by decide +kernel
theorem dX0_init_20 : decode cX0_init 20 = .ok (.invokestatic 21, 3) := by decide +kernel
theorem dX0_init_23 : decode cX0_init 23 = .ok (.bipush 64, 2) := by decide +kernel
theorem dX0_init_25 : decode cX0_init 25 = .ok (.idiv, 1) := by decide +kernel
theorem dX0_init_26 : decode cX0_init 26 = .ok (.putfield 24, 3) := by decide +kernel
theorem dX0_init_29 : decode cX0_init 29 = .ok (.aload_n 0, 1) := by decide +kernel
theorem dX0_init_30 : decode cX0_init 30 = .ok (.iload_n 1, 1) := by decide +kernel
theorem dX0_init_31 : decode cX0_init 31 = .ok (.bipush 64, 2) := by decide +kernel
theorem dX0_init_33 : decode cX0_init 33 = .ok (.invokestatic 21, 3) := by decide +kernel
theorem dX0_init_36 : decode cX0_init 36 = .ok (.bipush 8, 2) := by decide +kernel
theorem dX0_init_38 : decode cX0_init 38 = .ok (.idiv, 1) := by decide +kernel
theorem dX0_init_39 : decode cX0_init 39 = .ok (.putfield 27, 3) := by decide +kernel
theorem dX0_init_42 : decode cX0_init 42 = .ok (.aload_n 0, 1) := by decide +kernel
theorem dX0_init_43 : decode cX0_init 43 = .ok (.iload_n 1, 1) := by decide +kernel
theorem dX0_init_44 : decode cX0_init 44 = .ok (.bipush 8, 2) := by decide +kernel
theorem dX0_init_46 : decode cX0_init 46 = .ok (.invokestatic 21, 3) := by decide +kernel
theorem dX0_init_49 : decode cX0_init 49 = .ok (.putfield 30, 3) := by decide +kernel
theorem dX0_init_52 : decode cX0_init 52 = .ok (.return_, 1) := by decide +kernel
theorem dX0_liesOn_0 : decode cX0_liesOn 0 = .ok (.aload_n 0, 1) := by decide +kernel
theorem dX0_liesOn_1 : decode cX0_liesOn 1 = .ok (.getfield 15, 3) := by decide +kernel
theorem dX0_liesOn_4 : decode cX0_liesOn 4 = .ok (.ifCond .lt 45, 3) := by decide +kernel
theorem dX0_liesOn_7 : decode cX0_liesOn 7 = .ok (.aload_n 0, 1) := by decide +kernel
theorem dX0_liesOn_8 : decode cX0_liesOn 8 = .ok (.getfield 15, 3) := by decide +kernel
theorem dX0_liesOn_11 : decode cX0_liesOn 11 = .ok (.aload_n 0, 1) := by decide +kernel
theorem dX0_liesOn_12 : decode cX0_liesOn 12 = .ok (.getfield 24, 3) := by decide +kernel
theorem dX0_liesOn_15 : decode cX0_liesOn 15 = .ok (.if_icmp .gt 34, 3) := by decide +kernel
theorem dX0_liesOn_18 : decode cX0_liesOn 18 = .ok (.aload_n 0, 1) := by decide +kernel
theorem dX0_liesOn_19 : decode cX0_liesOn 19 = .ok (.getfield 24, 3) := by decide +kernel
theorem dX0_liesOn_22 : decode cX0_liesOn 22 = .ok (.iload_n 1, 1) := by decide +kernel
theorem dX0_liesOn_23 : decode cX0_liesOn 23 = .ok (.if_icmp .ge 26, 3) := by decide +kernel
theorem dX0_liesOn_26 : decode cX0_liesOn 26 = .ok (.aload_n 0, 1) := by decide +kernel
theorem dX0_liesOn_27 : decode cX0_liesOn 27 = .ok (.getfield 27, 3) := by decide +kernel
theorem dX0_liesOn_30 : decode cX0_liesOn 30 = .ok (.aload_n 0, 1) := by decide +kernel
theorem dX0_liesOn_31 : decode cX0_liesOn 31 = .ok (.getfield 30, 3) := by decide +kernel
theorem dX0_liesOn_34 : decode cX0_liesOn 34 = .ok (.if_icmp .gt 15, 3) := by decide +kernel
theorem dX0_liesOn_37 : decode cX0_liesOn 37 = .ok (.aload_n 0, 1) := by decide +kernel
theorem dX0_liesOn_38 : decode cX0_liesOn 38 = .ok (.getfield 30, 3) := by decide +kernel
theorem dX0_liesOn_41 : decode cX0_liesOn 41 = .ok (.iload_n 2, 1) := by decide +kernel
theorem dX0_liesOn_42 : decode cX0_liesOn 42 = .ok (.if_icmp .ge 7, 3) := by decide +kernel
theorem dX0_liesOn_45 : decode cX0_liesOn 45 = .ok (.iconst 1, 1) := by decide +kernel
theorem dX0_liesOn_46 : decode cX0_liesOn 46 = .ok (.goto 4, 3) := by decide +kernel
theorem dX0_liesOn_49 : decode cX0_liesOn 49 = .ok (.iconst 0, 1) := by decide +kernel
theorem dX0_liesOn_50 : decode cX0_liesOn 50 = .ok (.ireturn, 1) := by decide +kernel
theorem dX0_covers_0 : decode cX0_covers 0 = .ok (.iload_n 1, 1) := by decide +kernel
theorem dX0_covers_1 : decode cX0_covers 1 = .ok (.bipush 8, 2) := by decide +kernel
theorem dX0_covers_3 : decode cX0_covers 3 = .ok (.idiv, 1) := by decide +kernel
theorem dX0_covers_4 : decode cX0_covers 4 = .ok (.aload_n 0, 1) := by decide +kernel
theorem dX0_covers_5 : decode cX0_covers 5 = .ok (.getfield 15, 3) := by decide +kernel
theorem dX0_covers_8 : decode cX0_covers 8 = .ok (.aload_n 0, 1) := by decide +kernel
theorem dX0_covers_9 : decode cX0_covers 9 = .ok (.getfield 24, 3) := by decide +kernel
theorem dX0_covers_12 : decode cX0_covers 12 = .ok (.invokestatic 33, 3) := by decide +kernel
theorem dX0_covers_15 : decode cX0_covers 15 = .ok (.ifCond .eq 25, 3) := by decide +kernel
theorem dX0_covers_18 : decode cX0_covers 18 = .ok (.iload_n 1, 1) := by decide +kernel
theorem dX0_covers_19 : decode cX0_covers 19 = .ok (.bipush 8, 2) := by decide +kernel
theorem dX0_covers_21 : decode cX0_covers 21 = .ok (.irem, 1) := by decide +kernel
theorem dX0_covers_22 : decode cX0_covers 22 = .ok (.aload_n 0, 1) := by decide +kernel
theorem dX0_covers_23 : decode cX0_covers 23 = .ok (.getfield 27, 3) := by decide +kernel
theorem dX0_covers_26 : decode cX0_covers 26 = .ok (.aload_n 0, 1) := by decide +kernel
theorem dX0_covers_27 : decode cX0_covers 27 = .ok (.getfield 30, 3) := by decide +kernel
theorem dX0_covers_30 : decode cX0_covers 30 = .ok (.invokestatic 33, 3) := by decide +kernel
theorem dX0_covers_33 : decode cX0_covers 33 = .ok (.ifCond .eq 7, 3) := by decide +kernel
theorem dX0_covers_36 : decode cX0_covers 36 = .ok (.iconst 1, 1) := by decide +kernel
theorem dX0_covers_37 : decode cX0_covers 37 = .ok (.goto 4, 3) := by decide +kernel
theorem dX0_covers_40 : decode cX0_covers 40 = .ok (.iconst 0, 1) := by decide +kernel
theorem dX0_covers_41 : decode cX0_covers 41 = .ok (.ireturn, 1) := by decide +kernel
theorem dX1_init_0 : decode cX1_init 0 = .ok (.aload_n 0, 1) := by decide +kernel
theorem dX1_init_1 : decode cX1_init 1 = .ok (.invokespecial 3, 3) := by decide +kernel
theorem dX1_init_4 : decode cX1_init 4 = .ok (.aload_n 0, 1) := by decide +kernel
theorem dX1_init_5 : decode cX1_init 5 = .ok (.bipush 64, 2) := by decide +kernel
theorem dX1_init_7 : decode cX1_init 7 = .ok (.newarray .int, 2) := by decide +kernel
theorem dX1_init_9 : decode cX1_init 9 = .ok (.putfield 9, 3) := by decide +kernel
theorem dX1_init_12 : decode cX1_init 12 = .ok (.aload_n 0, 1) := by decide +kernel
theorem dX1_init_13 : decode cX1_init 13 = .ok (.bipush 64, 2) := by decide +kernel
theorem dX1_init_15 : decode cX1_init 15 = .ok (.newarray .int, 2) := by decide +kernel
theorem dX1_init_17 : decode cX1_init 17 = .ok (.putfield 15, 3) := by decide +kernel
theorem dX1_init_20 : decode cX1_init 20 = .ok (.aload_n 0, 1) := by decide +kernel
theorem dX1_init_21 : decode cX1_init 21 = .ok (.bipush 8, 2) := by decide +kernel
theorem dX1_init_23 : decode cX1_init 23 = .ok (.newarray .int, 2) := by decide +kernel
theorem dX1_init_25 : decode cX1_init 25 = .ok (.putfield 18, 3) := by decide +kernel
theorem dX1_init_28 : decode cX1_init 28 = .ok (.aload_n 0, 1) := by decide +kernel
theorem dX1_init_29 : decode cX1_init 29 = .ok (.bipush 64, 2) := by decide +kernel
theorem dX1_init_31 : decode cX1_init 31 = .ok (.newarray .int, 2) := by decide +kernel
theorem dX1_init_33 : decode cX1_init 33 = .ok (.putfield 21, 3) := by decide +kernel
theorem dX1_init_36 : decode cX1_init 36 = .ok (.aload_n 0, 1) := by decide +kernel
theorem dX1_init_37 : decode cX1_init 37 = .ok (.bipush 64, 2) := by decide +kernel
theorem dX1_init_39 : decode cX1_init 39 = .ok (.newarray .int, 2) := by decide +kernel
theorem dX1_init_41 : decode cX1_init 41 = .ok (.putfield 24, 3) := by decide +kernel
theorem dX1_init_44 : decode cX1_init 44 = .ok (.aload_n 0, 1) := by decide +kernel
theorem dX1_init_45 : decode cX1_init 45 = .ok (.iload_n 1, 1) := by decide +kernel
theorem dX1_init_46 : decode cX1_init 46 = .ok (.putfield 27, 3) := by decide +kernel
theorem dX1_init_49 : decode cX1_init 49 = .ok (.aload_n 0, 1) := by decide +kernel
theorem dX1_init_50 : decode cX1_init 50 = .ok (.iload_n 2, 1) := by decide +kernel
theorem dX1_init_51 : decode cX1_init 51 = .ok (.putfield 31, 3) := by decide +kernel
theorem dX1_init_54 : decode cX1_init 54 = .ok (.iconst 0, 1) := by decide +kernel
theorem dX1_init_55 : decode cX1_init 55 = .ok (.istore_n 3, 1) := by decide +kernel
theorem dX1_init_56 : decode cX1_init 56 = .ok (.iload_n 3, 1) := by decide +kernel
theorem dX1_init_57 : decode cX1_init 57 = .ok (.iload_n 1, 1) := by decide +kernel
theorem dX1_init_58 : decode cX1_init 58 = .ok (.if_icmp .ge 27, 3) := by decide +kernel
theorem dX1_init_61 : decode cX1_init 61 = .ok (.aload_n 0, 1) := by decide +kernel
theorem dX1_init_62 : decode cX1_init 62 = .ok (.getfield 9, 3) := by decide +kernel
theorem dX1_init_65 : decode cX1_init 65 = .ok (.iload_n 3, 1) := by decide +kernel
theorem dX1_init_66 : decode cX1_init 66 = .ok (.bipush 8, 2) := by decide +kernel
theorem dX1_init_68 : decode cX1_init 68 = .ok (.imul, 1) := by decide +kernel
theorem dX1_init_69 : decode cX1_init 69 = .ok (.iload_n 3, 1) := by decide +kernel
theorem dX1_init_70 : decode cX1_init 70 = .ok (.bipush 8, 2) := by decide +kernel
theorem dX1_init_72 : decode cX1_init 72 = .ok (.imul, 1) := by decide +kernel
theorem dX1_init_73 : decode cX1_init 73 = .ok (.iload_n 2, 1) := by decide +kernel
theorem dX1_init_74 : decode cX1_init 74 = .ok (.iadd, 1) := by decide +kernel
theorem dX1_init_75 : decode cX1_init 75 = .ok (.iconst 1, 1) := by decide +kernel
theorem dX1_init_76 : decode cX1_init 76 = .ok (.invokestatic 34, 3) := by decide +kernel
theorem dX1_init_79 : decode cX1_init 79 = .ok (.iinc 3 1, 3) := by decide +kernel
theorem dX1_init_82 : decode cX1_init 82 = .ok (.goto (-26), 3) := by decide +kernel
theorem dX1_init_85 : decode cX1_init 85 = .ok (.aload_n 0, 1) := by decide +kernel
theorem dX1_init_86 : decode cX1_init 86 = .ok (.iload_n 1, 1) := by decide +kernel
theorem dX1_init_87 : decode cX1_init 87 = .ok (.ifCond .le 7, 3) := by decide +kernel
theorem dX1_init_90 : decode cX1_init 90 = .ok (.iconst 1, 1) := by decide +kernel
theorem dX1_init_91 : decode cX1_init 91 = .ok (.goto 4, 3) := by decide +kernel
theorem dX1_init_94 : decode cX1_init 94 = .ok (.iconst 0, 1) := by decide +kernel
theorem dX1_init_95 : decode cX1_init 95 = .ok (.putfield 40, 3) := by decide +kernel
theorem dX1_init_98 : decode cX1_init 98 = .ok (.aload_n 0, 1) := by decide +kernel
theorem dX1_init_99 : decode cX1_init 99 = .ok (.getfield 18, 3) := by decide +kernel
theorem dX1_init_102 : decode cX1_init 102 = .ok (.iconst 0, 1) := by decide +kernel
theorem dX1_init_103 : decode cX1_init 103 = .ok (.iconst 1, 1) := by decide +kernel
theorem dX1_init_104 : decode cX1_init 104 = .ok (.iastore, 1) := by decide +kernel
theorem dX1_init_105 : decode cX1_init 105 = .ok (.return_, 1) := by decide +kernel
theorem dX1_isTold_0 : decode cX1_isTold 0 = .ok (.aload_n 0, 1) := by decide +kernel
theorem dX1_isTold_1 : decode cX1_isTold 1 = .ok (.getfield 27, 3) := by decide +kernel
theorem dX1_isTold_4 : decode cX1_isTold 4 = .ok (.ifCond .le 7, 3) := by decide +kernel
theorem dX1_isTold_7 : decode cX1_isTold 7 = .ok (.iconst 1, 1) := by decide +kernel
theorem dX1_isTold_8 : decode cX1_isTold 8 = .ok (.goto 4, 3) := by decide +kernel
theorem dX1_isTold_11 : decode cX1_isTold 11 = .ok (.iconst 0, 1) := by decide +kernel
theorem dX1_isTold_12 : decode cX1_isTold 12 = .ok (.ireturn, 1) := by decide +kernel
theorem dX1_isAt_0 : decode cX1_isAt 0 = .ok (.iload_n 1, 1) := by decide +kernel
theorem dX1_isAt_1 : decode cX1_isAt 1 = .ok (.iconst 0, 1) := by decide +kernel
theorem dX1_isAt_2 : decode cX1_isAt 2 = .ok (.aload_n 0, 1) := by decide +kernel
theorem dX1_isAt_3 : decode cX1_isAt 3 = .ok (.getfield 27, 3) := by decide +kernel
theorem dX1_isAt_6 : decode cX1_isAt 6 = .ok (.iconst 1, 1) := by decide +kernel
theorem dX1_isAt_7 : decode cX1_isAt 7 = .ok (.isub, 1) := by decide +kernel
theorem dX1_isAt_8 : decode cX1_isAt 8 = .ok (.invokestatic 43, 3) := by decide +kernel
theorem dX1_isAt_11 : decode cX1_isAt 11 = .ok (.ifCond .eq 21, 3) := by decide +kernel
theorem dX1_isAt_14 : decode cX1_isAt 14 = .ok (.iload_n 2, 1) := by decide +kernel
theorem dX1_isAt_15 : decode cX1_isAt 15 = .ok (.iconst 0, 1) := by decide +kernel
theorem dX1_isAt_16 : decode cX1_isAt 16 = .ok (.aload_n 0, 1) := by decide +kernel
theorem dX1_isAt_17 : decode cX1_isAt 17 = .ok (.getfield 31, 3) := by decide +kernel
theorem dX1_isAt_20 : decode cX1_isAt 20 = .ok (.iconst 1, 1) := by decide +kernel
theorem dX1_isAt_21 : decode cX1_isAt 21 = .ok (.isub, 1) := by decide +kernel
theorem dX1_isAt_22 : decode cX1_isAt 22 = .ok (.invokestatic 43, 3) := by decide +kernel
theorem dX1_isAt_25 : decode cX1_isAt 25 = .ok (.ifCond .eq 7, 3) := by decide +kernel
theorem dX1_isAt_28 : decode cX1_isAt 28 = .ok (.iconst 1, 1) := by decide +kernel
theorem dX1_isAt_29 : decode cX1_isAt 29 = .ok (.goto 4, 3) := by decide +kernel
theorem dX1_isAt_32 : decode cX1_isAt 32 = .ok (.iconst 0, 1) := by decide +kernel
theorem dX1_isAt_33 : decode cX1_isAt 33 = .ok (.ireturn, 1) := by decide +kernel
theorem dX1_hasCell_0 : decode cX1_hasCell 0 = .ok (.iload_n 1, 1) := by decide +kernel
theorem dX1_hasCell_1 : decode cX1_hasCell 1 = .ok (.ifCond .lt 22, 3) := by decide +kernel
theorem dX1_hasCell_4 : decode cX1_hasCell 4 = .ok (.aload_n 0, 1) := by decide +kernel
theorem dX1_hasCell_5 : decode cX1_hasCell 5 = .ok (.iload_n 1, 1) := by decide +kernel
theorem dX1_hasCell_6 : decode cX1_hasCell 6 = .ok (.bipush 8, 2) := by decide +kernel
theorem dX1_hasCell_8 : decode cX1_hasCell 8 = .ok (.idiv, 1) := by decide +kernel
theorem dX1_hasCell_9 : decode cX1_hasCell 9 = .ok (.iload_n 1, 1) := by decide +kernel
theorem dX1_hasCell_10 : decode cX1_hasCell 10 = .ok (.bipush 8, 2) := by decide +kernel
theorem dX1_hasCell_12 : decode cX1_hasCell 12 = .ok (.irem, 1) := by decide +kernel
theorem dX1_hasCell_13 : decode cX1_hasCell 13 = .ok (.invokevirtual 47, 3) := by decide +kernel
theorem dX1_hasCell_16 : decode cX1_hasCell 16 = .ok (.ifCond .eq 7, 3) := by decide +kernel
theorem dX1_hasCell_19 : decode cX1_hasCell 19 = .ok (.iconst 1, 1) := by decide +kernel
theorem dX1_hasCell_20 : decode cX1_hasCell 20 = .ok (.goto 4, 3) := by decide +kernel
theorem dX1_hasCell_23 : decode cX1_hasCell 23 = .ok (.iconst 0, 1) := by decide +kernel
theorem dX1_hasCell_24 : decode cX1_hasCell 24 = .ok (.ireturn, 1) := by decide +kernel
theorem dX1_hasPiece_0 : decode cX1_hasPiece 0 = .ok (.iload_n 1, 1) := by decide +kernel
theorem dX1_hasPiece_1 : decode cX1_hasPiece 1 = .ok (.iconst 0, 1) := by decide +kernel
theorem dX1_hasPiece_2 : decode cX1_hasPiece 2 = .ok (.aload_n 0, 1) := by decide +kernel
theorem dX1_hasPiece_3 : decode cX1_hasPiece 3 = .ok (.getfield 40, 3) := by decide +kernel
theorem dX1_hasPiece_6 : decode cX1_hasPiece 6 = .ok (.iconst 1, 1) := by decide +kernel
theorem dX1_hasPiece_7 : decode cX1_hasPiece 7 = .ok (.isub, 1) := by decide +kernel
theorem dX1_hasPiece_8 : decode cX1_hasPiece 8 = .ok (.invokestatic 43, 3) := by decide +kernel
theorem dX1_hasPiece_11 : decode cX1_hasPiece 11 = .ok (.ireturn, 1) := by decide +kernel
theorem dX1_stands_0 : decode cX1_stands 0 = .ok (.aload_n 0, 1) := by decide +kernel
theorem dX1_stands_1 : decode cX1_stands 1 = .ok (.getfield 9, 3) := by decide +kernel
theorem dX1_stands_4 : decode cX1_stands 4 = .ok (.iload_n 1, 1) := by decide +kernel
theorem dX1_stands_5 : decode cX1_stands 5 = .ok (.iaload, 1) := by decide +kernel
theorem dX1_stands_6 : decode cX1_stands 6 = .ok (.iconst 1, 1) := by decide +kernel
theorem dX1_stands_7 : decode cX1_stands 7 = .ok (.if_icmp .ne 7, 3) := by decide +kernel
theorem dX1_stands_10 : decode cX1_stands 10 = .ok (.iconst 1, 1) := by decide +kernel
theorem dX1_stands_11 : decode cX1_stands 11 = .ok (.goto 4, 3) := by decide +kernel
theorem dX1_stands_14 : decode cX1_stands 14 = .ok (.iconst 0, 1) := by decide +kernel
theorem dX1_stands_15 : decode cX1_stands 15 = .ok (.ireturn, 1) := by decide +kernel
theorem dX1_isIn_0 : decode cX1_isIn 0 = .ok (.aload_n 0, 1) := by decide +kernel
theorem dX1_isIn_1 : decode cX1_isIn 1 = .ok (.getfield 18, 3) := by decide +kernel
theorem dX1_isIn_4 : decode cX1_isIn 4 = .ok (.aload_n 0, 1) := by decide +kernel
theorem dX1_isIn_5 : decode cX1_isIn 5 = .ok (.getfield 15, 3) := by decide +kernel
theorem dX1_isIn_8 : decode cX1_isIn 8 = .ok (.iload_n 1, 1) := by decide +kernel
theorem dX1_isIn_9 : decode cX1_isIn 9 = .ok (.iaload, 1) := by decide +kernel
theorem dX1_isIn_10 : decode cX1_isIn 10 = .ok (.iaload, 1) := by decide +kernel
theorem dX1_isIn_11 : decode cX1_isIn 11 = .ok (.iconst 1, 1) := by decide +kernel
theorem dX1_isIn_12 : decode cX1_isIn 12 = .ok (.if_icmp .ne 7, 3) := by decide +kernel
theorem dX1_isIn_15 : decode cX1_isIn 15 = .ok (.iconst 1, 1) := by decide +kernel
theorem dX1_isIn_16 : decode cX1_isIn 16 = .ok (.goto 4, 3) := by decide +kernel
theorem dX1_isIn_19 : decode cX1_isIn 19 = .ok (.iconst 0, 1) := by decide +kernel
theorem dX1_isIn_20 : decode cX1_isIn 20 = .ok (.ireturn, 1) := by decide +kernel
theorem dX1_prints_0 : decode cX1_prints 0 = .ok (.aload_n 0, 1) := by decide +kernel
theorem dX1_prints_1 : decode cX1_prints 1 = .ok (.iload_n 1, 1) := by decide +kernel
theorem dX1_prints_2 : decode cX1_prints 2 = .ok (.invokevirtual 51, 3) := by decide +kernel
theorem dX1_prints_5 : decode cX1_prints 5 = .ok (.ifCond .eq 15, 3) := by decide +kernel
theorem dX1_prints_8 : decode cX1_prints 8 = .ok (.aload_n 0, 1) := by decide +kernel
theorem dX1_prints_9 : decode cX1_prints 9 = .ok (.iload_n 1, 1) := by decide +kernel
theorem dX1_prints_10 : decode cX1_prints 10 = .ok (.invokevirtual 55, 3) := by decide +kernel
theorem dX1_prints_13 : decode cX1_prints 13 = .ok (.ifCond .eq 7, 3) := by decide +kernel
theorem dX1_prints_16 : decode cX1_prints 16 = .ok (.iconst 1, 1) := by decide +kernel
theorem dX1_prints_17 : decode cX1_prints 17 = .ok (.goto 4, 3) := by decide +kernel
theorem dX1_prints_20 : decode cX1_prints 20 = .ok (.iconst 0, 1) := by decide +kernel
theorem dX1_prints_21 : decode cX1_prints 21 = .ok (.ireturn, 1) := by decide +kernel
theorem dX1_standingCells_0 : decode cX1_standingCells 0 = .ok (.iconst 0, 1) := by decide +kernel
theorem dX1_standingCells_1 : decode cX1_standingCells 1 = .ok (.istore_n 1, 1) := by decide +kernel
theorem dX1_standingCells_2 : decode cX1_standingCells 2 = .ok (.iconst 0, 1) := by decide +kernel
theorem dX1_standingCells_3 : decode cX1_standingCells 3 = .ok (.istore_n 2, 1) := by decide +kernel
theorem dX1_standingCells_4 : decode cX1_standingCells 4 = .ok (.iload_n 2, 1) := by decide +kernel
theorem dX1_standingCells_5 : decode cX1_standingCells 5 = .ok (.bipush 64, 2) := by decide +kernel
theorem dX1_standingCells_7 : decode cX1_standingCells 7 = .ok (.if_icmp .ge 18, 3) := by decide +kernel
theorem dX1_standingCells_10 : decode cX1_standingCells 10 = .ok (.iload_n 1, 1) := by decide +kernel
theorem dX1_standingCells_11 : decode cX1_standingCells 11 = .ok (.aload_n 0, 1) := by decide +kernel
theorem dX1_standingCells_12 : decode cX1_standingCells 12 = .ok (.getfield 9, 3) := by decide +kernel
theorem dX1_standingCells_15 : decode cX1_standingCells 15 = .ok (.iload_n 2, 1) := by decide +kernel
theorem dX1_standingCells_16 : decode cX1_standingCells 16 = .ok (.iaload, 1) := by decide +kernel
theorem dX1_standingCells_17 : decode cX1_standingCells 17 = .ok (.iadd, 1) := by decide +kernel
theorem dX1_standingCells_18 : decode cX1_standingCells 18 = .ok (.istore_n 1, 1) := by decide +kernel
theorem dX1_standingCells_19 : decode cX1_standingCells 19 = .ok (.iinc 2 1, 3) := by decide +kernel
theorem dX1_standingCells_22 : decode cX1_standingCells 22 = .ok (.goto (-18), 3) := by decide +kernel
theorem dX1_standingCells_25 : decode cX1_standingCells 25 = .ok (.iload_n 1, 1) := by decide +kernel
theorem dX1_standingCells_26 : decode cX1_standingCells 26 = .ok (.ireturn, 1) := by decide +kernel
theorem dX1_printingCells_0 : decode cX1_printingCells 0 = .ok (.iconst 0, 1) := by decide +kernel
theorem dX1_printingCells_1 : decode cX1_printingCells 1 = .ok (.istore_n 1, 1) := by decide +kernel
theorem dX1_printingCells_2 : decode cX1_printingCells 2 = .ok (.iconst 0, 1) := by decide +kernel
theorem dX1_printingCells_3 : decode cX1_printingCells 3 = .ok (.istore_n 2, 1) := by decide +kernel
theorem dX1_printingCells_4 : decode cX1_printingCells 4 = .ok (.iload_n 2, 1) := by decide +kernel
theorem dX1_printingCells_5 : decode cX1_printingCells 5 = .ok (.bipush 64, 2) := by decide +kernel
theorem dX1_printingCells_7 : decode cX1_printingCells 7 = .ok (.if_icmp .ge 20, 3) := by decide +kernel
theorem dX1_printingCells_10 : decode cX1_printingCells 10 = .ok (.iload_n 1, 1) := by decide +kernel
theorem dX1_printingCells_11 : decode cX1_printingCells 11 = .ok (.aload_n 0, 1) := by decide +kernel
theorem dX1_printingCells_12 : decode cX1_printingCells 12 = .ok (.iload_n 2, 1) := by decide +kernel
theorem dX1_printingCells_13 : decode cX1_printingCells 13 = .ok (.invokevirtual 58, 3) := by decide +kernel
theorem dX1_printingCells_16 : decode cX1_printingCells 16 = .ok (.invokestatic 61, 3) := by decide +kernel
theorem dX1_printingCells_19 : decode cX1_printingCells 19 = .ok (.iadd, 1) := by decide +kernel
theorem dX1_printingCells_20 : decode cX1_printingCells 20 = .ok (.istore_n 1, 1) := by decide +kernel
theorem dX1_printingCells_21 : decode cX1_printingCells 21 = .ok (.iinc 2 1, 3) := by decide +kernel
theorem dX1_printingCells_24 : decode cX1_printingCells 24 = .ok (.goto (-20), 3) := by decide +kernel
theorem dX1_printingCells_27 : decode cX1_printingCells 27 = .ok (.iload_n 1, 1) := by decide +kernel
theorem dX1_printingCells_28 : decode cX1_printingCells 28 = .ok (.ireturn, 1) := by decide +kernel
theorem dX1_standsInOutPiece_0 : decode cX1_standsInOutPiece 0 = .ok (.iconst 0, 1) := by decide +kernel
theorem dX1_standsInOutPiece_1 : decode cX1_standsInOutPiece 1 = .ok (.istore_n 2, 1) := by decide +kernel
theorem dX1_standsInOutPiece_2 : decode cX1_standsInOutPiece 2 = .ok (.iload_n 2, 1) := by decide +kernel
theorem dX1_standsInOutPiece_3 : decode cX1_standsInOutPiece 3 = .ok (.bipush 64, 2) := by decide +kernel
theorem dX1_standsInOutPiece_5 : decode cX1_standsInOutPiece 5 = .ok (.if_icmp .ge 35, 3) := by decide +kernel
theorem dX1_standsInOutPiece_8 : decode cX1_standsInOutPiece 8 = .ok (.aload_n 1, 1) := by decide +kernel
theorem dX1_standsInOutPiece_9 : decode cX1_standsInOutPiece 9 = .ok (.iload_n 2, 1) := by decide +kernel
theorem dX1_standsInOutPiece_10 : decode cX1_standsInOutPiece 10 = .ok (.invokevirtual 65, 3) := by decide +kernel
theorem dX1_standsInOutPiece_13 : decode cX1_standsInOutPiece 13 = .ok (.ifCond .eq 21, 3) := by decide +kernel
theorem dX1_standsInOutPiece_16 : decode cX1_standsInOutPiece 16 = .ok (.aload_n 0, 1) := by decide +kernel
theorem dX1_standsInOutPiece_17 : decode cX1_standsInOutPiece 17 = .ok (.iload_n 2, 1) := by decide +kernel
theorem dX1_standsInOutPiece_18 : decode cX1_standsInOutPiece 18 = .ok (.invokevirtual 51, 3) := by decide +kernel
theorem dX1_standsInOutPiece_21 : decode cX1_standsInOutPiece 21 = .ok (.ifCond .eq 13, 3) := by decide +kernel
theorem dX1_standsInOutPiece_24 : decode cX1_standsInOutPiece 24 = .ok (.aload_n 0, 1) := by decide +kernel
theorem dX1_standsInOutPiece_25 : decode cX1_standsInOutPiece 25 = .ok (.iload_n 2, 1) := by decide +kernel
theorem dX1_standsInOutPiece_26 : decode cX1_standsInOutPiece 26 = .ok (.invokevirtual 55, 3) := by decide +kernel
theorem dX1_standsInOutPiece_29 : decode cX1_standsInOutPiece 29 = .ok (.ifCond .ne 5, 3) := by decide +kernel
theorem dX1_standsInOutPiece_32 : decode cX1_standsInOutPiece 32 = .ok (.iconst 1, 1) := by decide +kernel
theorem dX1_standsInOutPiece_33 : decode cX1_standsInOutPiece 33 = .ok (.ireturn, 1) := by decide +kernel
theorem dX1_standsInOutPiece_34 : decode cX1_standsInOutPiece 34 = .ok (.iinc 2 1, 3) := by decide +kernel
theorem dX1_standsInOutPiece_37 : decode cX1_standsInOutPiece 37 = .ok (.goto (-35), 3) := by decide +kernel
theorem dX1_standsInOutPiece_40 : decode cX1_standsInOutPiece 40 = .ok (.iconst 0, 1) := by decide +kernel
theorem dX1_standsInOutPiece_41 : decode cX1_standsInOutPiece 41 = .ok (.ireturn, 1) := by decide +kernel
theorem dX1_cutAway_0 : decode cX1_cutAway 0 = .ok (.iconst 0, 1) := by decide +kernel
theorem dX1_cutAway_1 : decode cX1_cutAway 1 = .ok (.istore_n 2, 1) := by decide +kernel
theorem dX1_cutAway_2 : decode cX1_cutAway 2 = .ok (.iconst 0, 1) := by decide +kernel
theorem dX1_cutAway_3 : decode cX1_cutAway 3 = .ok (.istore_n 3, 1) := by decide +kernel
theorem dX1_cutAway_4 : decode cX1_cutAway 4 = .ok (.iload_n 3, 1) := by decide +kernel
theorem dX1_cutAway_5 : decode cX1_cutAway 5 = .ok (.bipush 64, 2) := by decide +kernel
theorem dX1_cutAway_7 : decode cX1_cutAway 7 = .ok (.if_icmp .ge 29, 3) := by decide +kernel
theorem dX1_cutAway_10 : decode cX1_cutAway 10 = .ok (.aload_n 1, 1) := by decide +kernel
theorem dX1_cutAway_11 : decode cX1_cutAway 11 = .ok (.iload_n 3, 1) := by decide +kernel
theorem dX1_cutAway_12 : decode cX1_cutAway 12 = .ok (.invokevirtual 65, 3) := by decide +kernel
theorem dX1_cutAway_15 : decode cX1_cutAway 15 = .ok (.ifCond .eq 15, 3) := by decide +kernel
theorem dX1_cutAway_18 : decode cX1_cutAway 18 = .ok (.iload_n 2, 1) := by decide +kernel
theorem dX1_cutAway_19 : decode cX1_cutAway 19 = .ok (.aload_n 0, 1) := by decide +kernel
theorem dX1_cutAway_20 : decode cX1_cutAway 20 = .ok (.getfield 9, 3) := by decide +kernel
theorem dX1_cutAway_23 : decode cX1_cutAway 23 = .ok (.iload_n 3, 1) := by decide +kernel
theorem dX1_cutAway_24 : decode cX1_cutAway 24 = .ok (.iconst 0, 1) := by decide +kernel
theorem dX1_cutAway_25 : decode cX1_cutAway 25 = .ok (.invokestatic 70, 3) := by decide +kernel
theorem dX1_cutAway_28 : decode cX1_cutAway 28 = .ok (.iadd, 1) := by decide +kernel
theorem dX1_cutAway_29 : decode cX1_cutAway 29 = .ok (.istore_n 2, 1) := by decide +kernel
theorem dX1_cutAway_30 : decode cX1_cutAway 30 = .ok (.iinc 3 1, 3) := by decide +kernel
theorem dX1_cutAway_33 : decode cX1_cutAway 33 = .ok (.goto (-29), 3) := by decide +kernel
theorem dX1_cutAway_36 : decode cX1_cutAway 36 = .ok (.iload_n 2, 1) := by decide +kernel
theorem dX1_cutAway_37 : decode cX1_cutAway 37 = .ok (.ireturn, 1) := by decide +kernel
theorem dX1_divides_0 : decode cX1_divides 0 = .ok (.iconst 0, 1) := by decide +kernel
theorem dX1_divides_1 : decode cX1_divides 1 = .ok (.istore_n 3, 1) := by decide +kernel
theorem dX1_divides_2 : decode cX1_divides 2 = .ok (.iconst 0, 1) := by decide +kernel
theorem dX1_divides_3 : decode cX1_divides 3 = .ok (.istore 4, 2) := by decide +kernel
theorem dX1_divides_5 : decode cX1_divides 5 = .ok (.iconst 0, 1) := by decide +kernel
theorem dX1_divides_6 : decode cX1_divides 6 = .ok (.istore 5, 2) := by decide +kernel
theorem dX1_divides_8 : decode cX1_divides 8 = .ok (.iload 5, 2) := by decide +kernel
theorem dX1_divides_10 : decode cX1_divides 10 = .ok (.bipush 64, 2) := by decide +kernel
theorem dX1_divides_12 : decode cX1_divides 12 = .ok (.if_icmp .ge 57, 3) := by decide +kernel
theorem dX1_divides_15 : decode cX1_divides 15 = .ok (.aload_n 0, 1) := by decide +kernel
theorem dX1_divides_16 : decode cX1_divides 16 = .ok (.iload 5, 2) := by decide +kernel
theorem dX1_divides_18 : decode cX1_divides 18 = .ok (.invokevirtual 74, 3) := by decide +kernel
theorem dX1_divides_21 : decode cX1_divides 21 = .ok (.ifCond .eq 42, 3) := by decide +kernel
theorem dX1_divides_24 : decode cX1_divides 24 = .ok (.aload_n 0, 1) := by decide +kernel
theorem dX1_divides_25 : decode cX1_divides 25 = .ok (.getfield 15, 3) := by decide +kernel
theorem dX1_divides_28 : decode cX1_divides 28 = .ok (.iload 5, 2) := by decide +kernel
theorem dX1_divides_30 : decode cX1_divides 30 = .ok (.iaload, 1) := by decide +kernel
theorem dX1_divides_31 : decode cX1_divides 31 = .ok (.iload_n 2, 1) := by decide +kernel
theorem dX1_divides_32 : decode cX1_divides 32 = .ok (.if_icmp .ne 31, 3) := by decide +kernel
theorem dX1_divides_35 : decode cX1_divides 35 = .ok (.iload_n 3, 1) := by decide +kernel
theorem dX1_divides_36 : decode cX1_divides 36 = .ok (.aload_n 1, 1) := by decide +kernel
theorem dX1_divides_37 : decode cX1_divides 37 = .ok (.iload 5, 2) := by decide +kernel
theorem dX1_divides_39 : decode cX1_divides 39 = .ok (.invokevirtual 65, 3) := by decide +kernel
theorem dX1_divides_42 : decode cX1_divides 42 = .ok (.ior, 1) := by decide +kernel
theorem dX1_divides_43 : decode cX1_divides 43 = .ok (.istore_n 3, 1) := by decide +kernel
theorem dX1_divides_44 : decode cX1_divides 44 = .ok (.iload 4, 2) := by decide +kernel
theorem dX1_divides_46 : decode cX1_divides 46 = .ok (.aload_n 1, 1) := by decide +kernel
theorem dX1_divides_47 : decode cX1_divides 47 = .ok (.iload 5, 2) := by decide +kernel
theorem dX1_divides_49 : decode cX1_divides 49 = .ok (.invokevirtual 65, 3) := by decide +kernel
theorem dX1_divides_52 : decode cX1_divides 52 = .ok (.ifCond .ne 7, 3) := by decide +kernel
theorem dX1_divides_55 : decode cX1_divides 55 = .ok (.iconst 1, 1) := by decide +kernel
theorem dX1_divides_56 : decode cX1_divides 56 = .ok (.goto 4, 3) := by decide +kernel
theorem dX1_divides_59 : decode cX1_divides 59 = .ok (.iconst 0, 1) := by decide +kernel
theorem dX1_divides_60 : decode cX1_divides 60 = .ok (.ior, 1) := by decide +kernel
theorem dX1_divides_61 : decode cX1_divides 61 = .ok (.istore 4, 2) := by decide +kernel
theorem dX1_divides_63 : decode cX1_divides 63 = .ok (.iinc 5 1, 3) := by decide +kernel
theorem dX1_divides_66 : decode cX1_divides 66 = .ok (.goto (-58), 3) := by decide +kernel
theorem dX1_divides_69 : decode cX1_divides 69 = .ok (.iload_n 3, 1) := by decide +kernel
theorem dX1_divides_70 : decode cX1_divides 70 = .ok (.ifCond .eq 12, 3) := by decide +kernel
theorem dX1_divides_73 : decode cX1_divides 73 = .ok (.iload 4, 2) := by decide +kernel
theorem dX1_divides_75 : decode cX1_divides 75 = .ok (.ifCond .eq 7, 3) := by decide +kernel
theorem dX1_divides_78 : decode cX1_divides 78 = .ok (.iconst 1, 1) := by decide +kernel
theorem dX1_divides_79 : decode cX1_divides 79 = .ok (.goto 4, 3) := by decide +kernel
theorem dX1_divides_82 : decode cX1_divides 82 = .ok (.iconst 0, 1) := by decide +kernel
theorem dX1_divides_83 : decode cX1_divides 83 = .ok (.ireturn, 1) := by decide +kernel
theorem dX1_sawFree_0 : decode cX1_sawFree 0 = .ok (.aload_n 0, 1) := by decide +kernel
theorem dX1_sawFree_1 : decode cX1_sawFree 1 = .ok (.getfield 40, 3) := by decide +kernel
theorem dX1_sawFree_4 : decode cX1_sawFree 4 = .ok (.istore_n 3, 1) := by decide +kernel
theorem dX1_sawFree_5 : decode cX1_sawFree 5 = .ok (.aload_n 0, 1) := by decide +kernel
theorem dX1_sawFree_6 : decode cX1_sawFree 6 = .ok (.dup, 1) := by decide +kernel
theorem dX1_sawFree_7 : decode cX1_sawFree 7 = .ok (.getfield 40, 3) := by decide +kernel
theorem dX1_sawFree_10 : decode cX1_sawFree 10 = .ok (.iconst 1, 1) := by decide +kernel
theorem dX1_sawFree_11 : decode cX1_sawFree 11 = .ok (.iadd, 1) := by decide +kernel
theorem dX1_sawFree_12 : decode cX1_sawFree 12 = .ok (.putfield 40, 3) := by decide +kernel
theorem dX1_sawFree_15 : decode cX1_sawFree 15 = .ok (.aload_n 0, 1) := by decide +kernel
theorem dX1_sawFree_16 : decode cX1_sawFree 16 = .ok (.getfield 18, 3) := by decide +kernel
theorem dX1_sawFree_19 : decode cX1_sawFree 19 = .ok (.iload_n 3, 1) := by decide +kernel
theorem dX1_sawFree_20 : decode cX1_sawFree 20 = .ok (.aload_n 0, 1) := by decide +kernel
theorem dX1_sawFree_21 : decode cX1_sawFree 21 = .ok (.getfield 18, 3) := by decide +kernel
theorem dX1_sawFree_24 : decode cX1_sawFree 24 = .ok (.iload_n 2, 1) := by decide +kernel
theorem dX1_sawFree_25 : decode cX1_sawFree 25 = .ok (.iaload, 1) := by decide +kernel
theorem dX1_sawFree_26 : decode cX1_sawFree 26 = .ok (.iastore, 1) := by decide +kernel
theorem dX1_sawFree_27 : decode cX1_sawFree 27 = .ok (.iconst 0, 1) := by decide +kernel
theorem dX1_sawFree_28 : decode cX1_sawFree 28 = .ok (.istore 4, 2) := by decide +kernel
theorem dX1_sawFree_30 : decode cX1_sawFree 30 = .ok (.iload 4, 2) := by decide +kernel
theorem dX1_sawFree_32 : decode cX1_sawFree 32 = .ok (.bipush 64, 2) := by decide +kernel
theorem dX1_sawFree_34 : decode cX1_sawFree 34 = .ok (.if_icmp .ge 37, 3) := by decide +kernel
theorem dX1_sawFree_37 : decode cX1_sawFree 37 = .ok (.aload_n 1, 1) := by decide +kernel
theorem dX1_sawFree_38 : decode cX1_sawFree 38 = .ok (.iload 4, 2) := by decide +kernel
theorem dX1_sawFree_40 : decode cX1_sawFree 40 = .ok (.invokevirtual 65, 3) := by decide +kernel
theorem dX1_sawFree_43 : decode cX1_sawFree 43 = .ok (.ifCond .eq 22, 3) := by decide +kernel
theorem dX1_sawFree_46 : decode cX1_sawFree 46 = .ok (.aload_n 0, 1) := by decide +kernel
theorem dX1_sawFree_47 : decode cX1_sawFree 47 = .ok (.getfield 15, 3) := by decide +kernel
theorem dX1_sawFree_50 : decode cX1_sawFree 50 = .ok (.iload 4, 2) := by decide +kernel
theorem dX1_sawFree_52 : decode cX1_sawFree 52 = .ok (.iaload, 1) := by decide +kernel
theorem dX1_sawFree_53 : decode cX1_sawFree 53 = .ok (.iload_n 2, 1) := by decide +kernel
theorem dX1_sawFree_54 : decode cX1_sawFree 54 = .ok (.if_icmp .ne 11, 3) := by decide +kernel
theorem dX1_sawFree_57 : decode cX1_sawFree 57 = .ok (.aload_n 0, 1) := by decide +kernel
theorem dX1_sawFree_58 : decode cX1_sawFree 58 = .ok (.getfield 15, 3) := by decide +kernel
theorem dX1_sawFree_61 : decode cX1_sawFree 61 = .ok (.iload 4, 2) := by decide +kernel
theorem dX1_sawFree_63 : decode cX1_sawFree 63 = .ok (.iload_n 3, 1) := by decide +kernel
theorem dX1_sawFree_64 : decode cX1_sawFree 64 = .ok (.iastore, 1) := by decide +kernel
theorem dX1_sawFree_65 : decode cX1_sawFree 65 = .ok (.iinc 4 1, 3) := by decide +kernel
theorem dX1_sawFree_68 : decode cX1_sawFree 68 = .ok (.goto (-38), 3) := by decide +kernel
theorem dX1_sawFree_71 : decode cX1_sawFree 71 = .ok (.iload_n 3, 1) := by decide +kernel
theorem dX1_sawFree_72 : decode cX1_sawFree 72 = .ok (.ireturn, 1) := by decide +kernel
theorem dX1_markIslands_0 : decode cX1_markIslands 0 = .ok (.aload_n 0, 1) := by decide +kernel
theorem dX1_markIslands_1 : decode cX1_markIslands 1 = .ok (.getfield 21, 3) := by decide +kernel
theorem dX1_markIslands_4 : decode cX1_markIslands 4 = .ok (.iconst (-1), 1) := by decide +kernel
theorem dX1_markIslands_5 : decode cX1_markIslands 5 = .ok (.invokestatic 77, 3) := by decide +kernel
theorem dX1_markIslands_8 : decode cX1_markIslands 8 = .ok (.aload_n 0, 1) := by decide +kernel
theorem dX1_markIslands_9 : decode cX1_markIslands 9 = .ok (.iconst 0, 1) := by decide +kernel
theorem dX1_markIslands_10 : decode cX1_markIslands 10 = .ok (.putfield 80, 3) := by decide +kernel
theorem dX1_markIslands_13 : decode cX1_markIslands 13 = .ok (.aload_n 0, 1) := by decide +kernel
theorem dX1_markIslands_14 : decode cX1_markIslands 14 = .ok (.iconst 0, 1) := by decide +kernel
theorem dX1_markIslands_15 : decode cX1_markIslands 15 = .ok (.putfield 83, 3) := by decide +kernel
theorem dX1_markIslands_18 : decode cX1_markIslands 18 = .ok (.iconst 0, 1) := by decide +kernel
theorem dX1_markIslands_19 : decode cX1_markIslands 19 = .ok (.istore_n 1, 1) := by decide +kernel
theorem dX1_markIslands_20 : decode cX1_markIslands 20 = .ok (.iload_n 1, 1) := by decide +kernel
theorem dX1_markIslands_21 : decode cX1_markIslands 21 = .ok (.bipush 64, 2) := by decide +kernel
theorem dX1_markIslands_23 : decode cX1_markIslands 23 = .ok (.if_icmp .ge 53, 3) := by decide +kernel
theorem dX1_markIslands_26 : decode cX1_markIslands 26 = .ok (.aload_n 0, 1) := by decide +kernel
theorem dX1_markIslands_27 : decode cX1_markIslands 27 = .ok (.iload_n 1, 1) := by decide +kernel
theorem dX1_markIslands_28 : decode cX1_markIslands 28 = .ok (.invokevirtual 58, 3) := by decide +kernel
theorem dX1_markIslands_31 : decode cX1_markIslands 31 = .ok (.ifCond .eq 39, 3) := by decide +kernel
theorem dX1_markIslands_34 : decode cX1_markIslands 34 = .ok (.aload_n 0, 1) := by decide +kernel
theorem dX1_markIslands_35 : decode cX1_markIslands 35 = .ok (.getfield 21, 3) := by decide +kernel
theorem dX1_markIslands_38 : decode cX1_markIslands 38 = .ok (.iload_n 1, 1) := by decide +kernel
theorem dX1_markIslands_39 : decode cX1_markIslands 39 = .ok (.iaload, 1) := by decide +kernel
theorem dX1_markIslands_40 : decode cX1_markIslands 40 = .ok (.iconst (-1), 1) := by decide +kernel
theorem dX1_markIslands_41 : decode cX1_markIslands 41 = .ok (.if_icmp .ne 29, 3) := by decide +kernel
theorem dX1_markIslands_44 : decode cX1_markIslands 44 = .ok (.aload_n 0, 1) := by decide +kernel
theorem dX1_markIslands_45 : decode cX1_markIslands 45 = .ok (.aload_n 0, 1) := by decide +kernel
theorem dX1_markIslands_46 : decode cX1_markIslands 46 = .ok (.getfield 83, 3) := by decide +kernel
theorem dX1_markIslands_49 : decode cX1_markIslands 49 = .ok (.aload_n 0, 1) := by decide +kernel
theorem dX1_markIslands_50 : decode cX1_markIslands 50 = .ok (.iload_n 1, 1) := by decide +kernel
theorem dX1_markIslands_51 : decode cX1_markIslands 51 = .ok (.invokevirtual 86, 3) := by decide +kernel
theorem dX1_markIslands_54 : decode cX1_markIslands 54 = .ok (.invokestatic 90, 3) := by decide +kernel
theorem dX1_markIslands_57 : decode cX1_markIslands 57 = .ok (.putfield 83, 3) := by decide +kernel
theorem dX1_markIslands_60 : decode cX1_markIslands 60 = .ok (.aload_n 0, 1) := by decide +kernel
theorem dX1_markIslands_61 : decode cX1_markIslands 61 = .ok (.dup, 1) := by decide +kernel
theorem dX1_markIslands_62 : decode cX1_markIslands 62 = .ok (.getfield 80, 3) := by decide +kernel
theorem dX1_markIslands_65 : decode cX1_markIslands 65 = .ok (.iconst 1, 1) := by decide +kernel
theorem dX1_markIslands_66 : decode cX1_markIslands 66 = .ok (.iadd, 1) := by decide +kernel
theorem dX1_markIslands_67 : decode cX1_markIslands 67 = .ok (.putfield 80, 3) := by decide +kernel
theorem dX1_markIslands_70 : decode cX1_markIslands 70 = .ok (.iinc 1 1, 3) := by decide +kernel
theorem dX1_markIslands_73 : decode cX1_markIslands 73 = .ok (.goto (-53), 3) := by decide +kernel
theorem dX1_markIslands_76 : decode cX1_markIslands 76 = .ok (.return_, 1) := by decide +kernel
theorem dX1_markIsland_0 : decode cX1_markIsland 0 = .ok (.aload_n 0, 1) := by decide +kernel
theorem dX1_markIsland_1 : decode cX1_markIsland 1 = .ok (.getfield 24, 3) := by decide +kernel
theorem dX1_markIsland_4 : decode cX1_markIsland 4 = .ok (.iconst 0, 1) := by decide +kernel
theorem dX1_markIsland_5 : decode cX1_markIsland 5 = .ok (.iload_n 1, 1) := by decide +kernel
theorem dX1_markIsland_6 : decode cX1_markIsland 6 = .ok (.iastore, 1) := by decide +kernel
theorem dX1_markIsland_7 : decode cX1_markIsland 7 = .ok (.aload_n 0, 1) := by decide +kernel
theorem dX1_markIsland_8 : decode cX1_markIsland 8 = .ok (.getfield 21, 3) := by decide +kernel
theorem dX1_markIsland_11 : decode cX1_markIsland 11 = .ok (.iload_n 1, 1) := by decide +kernel
theorem dX1_markIsland_12 : decode cX1_markIsland 12 = .ok (.aload_n 0, 1) := by decide +kernel
theorem dX1_markIsland_13 : decode cX1_markIsland 13 = .ok (.getfield 80, 3) := by decide +kernel
theorem dX1_markIsland_16 : decode cX1_markIsland 16 = .ok (.iastore, 1) := by decide +kernel
theorem dX1_markIsland_17 : decode cX1_markIsland 17 = .ok (.iconst 1, 1) := by decide +kernel
theorem dX1_markIsland_18 : decode cX1_markIsland 18 = .ok (.istore_n 2, 1) := by decide +kernel
theorem dX1_markIsland_19 : decode cX1_markIsland 19 = .ok (.iconst 0, 1) := by decide +kernel
theorem dX1_markIsland_20 : decode cX1_markIsland 20 = .ok (.istore_n 3, 1) := by decide +kernel
theorem dX1_markIsland_21 : decode cX1_markIsland 21 = .ok (.iload_n 3, 1) := by decide +kernel
theorem dX1_markIsland_22 : decode cX1_markIsland 22 = .ok (.iload_n 2, 1) := by decide +kernel
theorem dX1_markIsland_23 : decode cX1_markIsland 23 = .ok (.if_icmp .ge 27, 3) := by decide +kernel
theorem dX1_markIsland_26 : decode cX1_markIsland 26 = .ok (.iload_n 3, 1) := by decide +kernel
theorem dX1_markIsland_27 : decode cX1_markIsland 27 = .ok (.bipush 64, 2) := by decide +kernel
theorem dX1_markIsland_29 : decode cX1_markIsland 29 = .ok (.if_icmp .ge 21, 3) := by decide +kernel
theorem dX1_markIsland_32 : decode cX1_markIsland 32 = .ok (.aload_n 0, 1) := by decide +kernel
theorem dX1_markIsland_33 : decode cX1_markIsland 33 = .ok (.aload_n 0, 1) := by decide +kernel
theorem dX1_markIsland_34 : decode cX1_markIsland 34 = .ok (.getfield 24, 3) := by decide +kernel
theorem dX1_markIsland_37 : decode cX1_markIsland 37 = .ok (.iload_n 3, 1) := by decide +kernel
theorem dX1_markIsland_38 : decode cX1_markIsland 38 = .ok (.iaload, 1) := by decide +kernel
theorem dX1_markIsland_39 : decode cX1_markIsland 39 = .ok (.iload_n 2, 1) := by decide +kernel
theorem dX1_markIsland_40 : decode cX1_markIsland 40 = .ok (.invokevirtual 96, 3) := by decide +kernel
theorem dX1_markIsland_43 : decode cX1_markIsland 43 = .ok (.istore_n 2, 1) := by decide +kernel
theorem dX1_markIsland_44 : decode cX1_markIsland 44 = .ok (.iinc 3 1, 3) := by decide +kernel
theorem dX1_markIsland_47 : decode cX1_markIsland 47 = .ok (.goto (-26), 3) := by decide +kernel
theorem dX1_markIsland_50 : decode cX1_markIsland 50 = .ok (.iload_n 2, 1) := by decide +kernel
theorem dX1_markIsland_51 : decode cX1_markIsland 51 = .ok (.ireturn, 1) := by decide +kernel
theorem dX1_findNeighbours_0 : decode cX1_findNeighbours 0 = .ok (.iload_n 2, 1) := by decide +kernel
theorem dX1_findNeighbours_1 : decode cX1_findNeighbours 1 = .ok (.istore_n 3, 1) := by decide +kernel
theorem dX1_findNeighbours_2 : decode cX1_findNeighbours 2 = .ok (.iconst 0, 1) := by decide +kernel
theorem dX1_findNeighbours_3 : decode cX1_findNeighbours 3 = .ok (.istore 4, 2) := by decide +kernel
theorem dX1_findNeighbours_5 : decode cX1_findNeighbours 5 = .ok (.iload 4, 2) := by decide +kernel
theorem dX1_findNeighbours_7 : decode cX1_findNeighbours 7 = .ok (.getstatic 99, 3) := by decide +kernel
theorem dX1_findNeighbours_10 : decode cX1_findNeighbours 10 = .ok (.arraylength, 1) := by decide +kernel
theorem dX1_findNeighbours_11 : decode cX1_findNeighbours 11 = .ok (.if_icmp .ge 120, 3) := by decide +kernel
theorem dX1_findNeighbours_14 : decode cX1_findNeighbours 14 = .ok (.iload_n 1, 1) := by decide +kernel
theorem dX1_findNeighbours_15 : decode cX1_findNeighbours 15 = .ok (.bipush 8, 2) := by decide +kernel
theorem dX1_findNeighbours_17 : decode cX1_findNeighbours 17 = .ok (.idiv, 1) := by decide +kernel
theorem dX1_findNeighbours_18 : decode cX1_findNeighbours 18 = .ok (.getstatic 99, 3) := by decide +kernel
theorem dX1_findNeighbours_21 : decode cX1_findNeighbours 21 = .ok (.iload 4, 2) := by decide +kernel
theorem dX1_findNeighbours_23 : decode cX1_findNeighbours 23 = .ok (.iaload, 1) := by decide +kernel
theorem dX1_findNeighbours_24 : decode cX1_findNeighbours 24 = .ok (.iadd, 1) := by decide +kernel
theorem dX1_findNeighbours_25 : decode cX1_findNeighbours 25 = .ok (.istore 5, 2) := by decide +kernel
theorem dX1_findNeighbours_27 : decode cX1_findNeighbours 27 = .ok (.iload_n 1, 1) := by decide +kernel
theorem dX1_findNeighbours_28 : decode cX1_findNeighbours 28 = .ok (.bipush 8, 2) := by decide +kernel
theorem dX1_findNeighbours_30 : decode cX1_findNeighbours 30 = .ok (.irem, 1) := by decide +kernel
theorem dX1_findNeighbours_31 : decode cX1_findNeighbours 31 = .ok (.getstatic 102, 3) := by decide +kernel
theorem dX1_findNeighbours_34 : decode cX1_findNeighbours 34 = .ok (.iload 4, 2) := by decide +kernel
theorem dX1_findNeighbours_36 : decode cX1_findNeighbours 36 = .ok (.iaload, 1) := by decide +kernel
theorem dX1_findNeighbours_37 : decode cX1_findNeighbours 37 = .ok (.iadd, 1) := by decide +kernel
theorem dX1_findNeighbours_38 : decode cX1_findNeighbours 38 = .ok (.istore 6, 2) := by decide +kernel
theorem dX1_findNeighbours_40 : decode cX1_findNeighbours 40 = .ok (.iload 5, 2) := by decide +kernel
theorem dX1_findNeighbours_42 : decode cX1_findNeighbours 42 = .ok (.bipush 8, 2) := by decide +kernel
theorem dX1_findNeighbours_44 : decode cX1_findNeighbours 44 = .ok (.imul, 1) := by decide +kernel
theorem dX1_findNeighbours_45 : decode cX1_findNeighbours 45 = .ok (.iload 6, 2) := by decide +kernel
theorem dX1_findNeighbours_47 : decode cX1_findNeighbours 47 = .ok (.iadd, 1) := by decide +kernel
theorem dX1_findNeighbours_48 : decode cX1_findNeighbours 48 = .ok (.istore 7, 2) := by decide +kernel
theorem dX1_findNeighbours_50 : decode cX1_findNeighbours 50 = .ok (.aload_n 0, 1) := by decide +kernel
theorem dX1_findNeighbours_51 : decode cX1_findNeighbours 51 = .ok (.iload 5, 2) := by decide +kernel
theorem dX1_findNeighbours_53 : decode cX1_findNeighbours 53 = .ok (.iload 6, 2) := by decide +kernel
theorem dX1_findNeighbours_55 : decode cX1_findNeighbours 55 = .ok (.invokevirtual 47, 3) := by decide +kernel
theorem dX1_findNeighbours_58 : decode cX1_findNeighbours 58 = .ok (.ifCond .eq 67, 3) := by decide +kernel
theorem dX1_findNeighbours_61 : decode cX1_findNeighbours 61 = .ok (.aload_n 0, 1) := by decide +kernel
theorem dX1_findNeighbours_62 : decode cX1_findNeighbours 62 = .ok (.getfield 21, 3) := by decide +kernel
theorem dX1_findNeighbours_65 : decode cX1_findNeighbours 65 = .ok (.iload 7, 2) := by decide +kernel
theorem dX1_findNeighbours_67 : decode cX1_findNeighbours 67 = .ok (.iaload, 1) := by decide +kernel
theorem dX1_findNeighbours_68 : decode cX1_findNeighbours 68 = .ok (.iconst (-1), 1) := by decide +kernel
theorem dX1_findNeighbours_69 : decode cX1_findNeighbours 69 = .ok (.if_icmp .ne 56, 3) := by decide +kernel
theorem dX1_findNeighbours_72 : decode cX1_findNeighbours 72 = .ok (.iload_n 3, 1) := by decide +kernel
theorem dX1_findNeighbours_73 : decode cX1_findNeighbours 73 = .ok (.bipush 64, 2) := by decide +kernel
theorem dX1_findNeighbours_75 : decode cX1_findNeighbours 75 = .ok (.if_icmp .ge 50, 3) := by decide +kernel
theorem dX1_findNeighbours_78 : decode cX1_findNeighbours 78 = .ok (.aload_n 0, 1) := by decide +kernel
theorem dX1_findNeighbours_79 : decode cX1_findNeighbours 79 = .ok (.iload 7, 2) := by decide +kernel
theorem dX1_findNeighbours_81 : decode cX1_findNeighbours 81 = .ok (.invokevirtual 58, 3) := by decide +kernel
theorem dX1_findNeighbours_84 : decode cX1_findNeighbours 84 = .ok (.ifCond .eq 41, 3) := by decide +kernel
theorem dX1_findNeighbours_87 : decode cX1_findNeighbours 87 = .ok (.aload_n 0, 1) := by decide +kernel
theorem dX1_findNeighbours_88 : decode cX1_findNeighbours 88 = .ok (.getfield 15, 3) := by decide +kernel
theorem dX1_findNeighbours_91 : decode cX1_findNeighbours 91 = .ok (.iload 7, 2) := by decide +kernel
theorem dX1_findNeighbours_93 : decode cX1_findNeighbours 93 = .ok (.iaload, 1) := by decide +kernel
theorem dX1_findNeighbours_94 : decode cX1_findNeighbours 94 = .ok (.aload_n 0, 1) := by decide +kernel
theorem dX1_findNeighbours_95 : decode cX1_findNeighbours 95 = .ok (.getfield 15, 3) := by decide +kernel
theorem dX1_findNeighbours_98 : decode cX1_findNeighbours 98 = .ok (.iload_n 1, 1) := by decide +kernel
theorem dX1_findNeighbours_99 : decode cX1_findNeighbours 99 = .ok (.iaload, 1) := by decide +kernel
theorem dX1_findNeighbours_100 : decode cX1_findNeighbours 100 = .ok (.if_icmp .ne 25, 3) := by decide +kernel
theorem dX1_findNeighbours_103 : decode cX1_findNeighbours 103 = .ok (.aload_n 0, 1) := by decide +kernel
theorem dX1_findNeighbours_104 : decode cX1_findNeighbours 104 = .ok (.getfield 21, 3) := by decide +kernel
theorem dX1_findNeighbours_107 : decode cX1_findNeighbours 107 = .ok (.iload 7, 2) := by decide +kernel
theorem dX1_findNeighbours_109 : decode cX1_findNeighbours 109 = .ok (.aload_n 0, 1) := by decide +kernel
theorem dX1_findNeighbours_110 : decode cX1_findNeighbours 110 = .ok (.getfield 80, 3) := by decide +kernel
theorem dX1_findNeighbours_113 : decode cX1_findNeighbours 113 = .ok (.iastore, 1) := by decide +kernel
theorem dX1_findNeighbours_114 : decode cX1_findNeighbours 114 = .ok (.aload_n 0, 1) := by decide +kernel
theorem dX1_findNeighbours_115 : decode cX1_findNeighbours 115 = .ok (.getfield 24, 3) := by decide +kernel
theorem dX1_findNeighbours_118 : decode cX1_findNeighbours 118 = .ok (.iload_n 3, 1) := by decide +kernel
theorem dX1_findNeighbours_119 : decode cX1_findNeighbours 119 = .ok (.iload 7, 2) := by decide +kernel
theorem dX1_findNeighbours_121 : decode cX1_findNeighbours 121 = .ok (.iastore, 1) := by decide +kernel
theorem dX1_findNeighbours_122 : decode cX1_findNeighbours 122 = .ok (.iinc 3 1, 3) := by decide +kernel
theorem dX1_findNeighbours_125 : decode cX1_findNeighbours 125 = .ok (.iinc 4 1, 3) := by decide +kernel
theorem dX1_findNeighbours_128 : decode cX1_findNeighbours 128 = .ok (.goto (-123), 3) := by decide +kernel
theorem dX1_findNeighbours_131 : decode cX1_findNeighbours 131 = .ok (.iload_n 3, 1) := by decide +kernel
theorem dX1_findNeighbours_132 : decode cX1_findNeighbours 132 = .ok (.ireturn, 1) := by decide +kernel
theorem dX2_init_0 : decode cX2_init 0 = .ok (.aload_n 0, 1) := by decide +kernel
theorem dX2_init_1 : decode cX2_init 1 = .ok (.invokespecial 3, 3) := by decide +kernel
theorem dX2_init_4 : decode cX2_init 4 = .ok (.aload_n 0, 1) := by decide +kernel
theorem dX2_init_5 : decode cX2_init 5 = .ok (.iload_n 1, 1) := by decide +kernel
theorem dX2_init_6 : decode cX2_init 6 = .ok (.putfield 9, 3) := by decide +kernel
theorem dX2_init_9 : decode cX2_init 9 = .ok (.aload_n 0, 1) := by decide +kernel
theorem dX2_init_10 : decode cX2_init 10 = .ok (.iload_n 2, 1) := by decide +kernel
theorem dX2_init_11 : decode cX2_init 11 = .ok (.putfield 15, 3) := by decide +kernel
theorem dX2_init_14 : decode cX2_init 14 = .ok (.aload_n 0, 1) := by decide +kernel
theorem dX2_init_15 : decode cX2_init 15 = .ok (.iload_n 3, 1) := by decide +kernel
theorem dX2_init_16 : decode cX2_init 16 = .ok (.putfield 18, 3) := by decide +kernel
theorem dX2_init_19 : decode cX2_init 19 = .ok (.aload_n 0, 1) := by decide +kernel
theorem dX2_init_20 : decode cX2_init 20 = .ok (.iload 4, 2) := by decide +kernel
theorem dX2_init_22 : decode cX2_init 22 = .ok (.putfield 21, 3) := by decide +kernel
theorem dX2_init_25 : decode cX2_init 25 = .ok (.aload_n 0, 1) := by decide +kernel
theorem dX2_init_26 : decode cX2_init 26 = .ok (.iload 5, 2) := by decide +kernel
theorem dX2_init_28 : decode cX2_init 28 = .ok (.putfield 24, 3) := by decide +kernel
theorem dX2_init_31 : decode cX2_init 31 = .ok (.return_, 1) := by decide +kernel
theorem dX2_fact_0 : decode cX2_fact 0 = .ok (.iload_n 1, 1) := by decide +kernel
theorem dX2_fact_1 : decode cX2_fact 1 = .ok (.tableswitch 60 0 4 #[35, 40, 45, 50, 55], 35) := by decide +kernel
theorem dX2_fact_36 : decode cX2_fact 36 = .ok (.aload_n 0, 1) := by decide +kernel
theorem dX2_fact_37 : decode cX2_fact 37 = .ok (.getfield 9, 3) := by decide +kernel
theorem dX2_fact_40 : decode cX2_fact 40 = .ok (.ireturn, 1) := by decide +kernel
theorem dX2_fact_41 : decode cX2_fact 41 = .ok (.aload_n 0, 1) := by decide +kernel
theorem dX2_fact_42 : decode cX2_fact 42 = .ok (.getfield 15, 3) := by decide +kernel
theorem dX2_fact_45 : decode cX2_fact 45 = .ok (.ireturn, 1) := by decide +kernel
theorem dX2_fact_46 : decode cX2_fact 46 = .ok (.aload_n 0, 1) := by decide +kernel
theorem dX2_fact_47 : decode cX2_fact 47 = .ok (.getfield 18, 3) := by decide +kernel
theorem dX2_fact_50 : decode cX2_fact 50 = .ok (.ireturn, 1) := by decide +kernel
theorem dX2_fact_51 : decode cX2_fact 51 = .ok (.aload_n 0, 1) := by decide +kernel
theorem dX2_fact_52 : decode cX2_fact 52 = .ok (.getfield 21, 3) := by decide +kernel
theorem dX2_fact_55 : decode cX2_fact 55 = .ok (.ireturn, 1) := by decide +kernel
theorem dX2_fact_56 : decode cX2_fact 56 = .ok (.aload_n 0, 1) := by decide +kernel
theorem dX2_fact_57 : decode cX2_fact 57 = .ok (.getfield 24, 3) := by decide +kernel
theorem dX2_fact_60 : decode cX2_fact 60 = .ok (.ireturn, 1) := by decide +kernel
theorem dX2_fact_61 : decode cX2_fact 61 = .ok (.iconst (-1), 1) := by decide +kernel
theorem dX2_fact_62 : decode cX2_fact 62 = .ok (.ireturn, 1) := by decide +kernel
theorem dX3_init_0 : decode cX3_init 0 = .ok (.aload_n 0, 1) := by decide +kernel
theorem dX3_init_1 : decode cX3_init 1 = .ok (.invokespecial 3, 3) := by decide +kernel
theorem dX3_init_4 : decode cX3_init 4 = .ok (.aload_n 0, 1) := by decide +kernel
theorem dX3_init_5 : decode cX3_init 5 = .ok (.iconst 5, 1) := by decide +kernel
theorem dX3_init_6 : decode cX3_init 6 = .ok (.newarray .int, 2) := by decide +kernel
theorem dX3_init_8 : decode cX3_init 8 = .ok (.putfield 9, 3) := by decide +kernel
theorem dX3_init_11 : decode cX3_init 11 = .ok (.aload_n 0, 1) := by decide +kernel
theorem dX3_init_12 : decode cX3_init 12 = .ok (.iconst 0, 1) := by decide +kernel
theorem dX3_init_13 : decode cX3_init 13 = .ok (.putfield 15, 3) := by decide +kernel
theorem dX3_init_16 : decode cX3_init 16 = .ok (.return_, 1) := by decide +kernel
theorem dX3_init__0 : decode cX3_init_ 0 = .ok (.aload_n 0, 1) := by decide +kernel
theorem dX3_init__1 : decode cX3_init_ 1 = .ok (.invokespecial 3, 3) := by decide +kernel
theorem dX3_init__4 : decode cX3_init_ 4 = .ok (.aload_n 0, 1) := by decide +kernel
theorem dX3_init__5 : decode cX3_init_ 5 = .ok (.iconst 5, 1) := by decide +kernel
theorem dX3_init__6 : decode cX3_init_ 6 = .ok (.newarray .int, 2) := by decide +kernel
theorem dX3_init__8 : decode cX3_init_ 8 = .ok (.putfield 9, 3) := by decide +kernel
theorem dX3_init__11 : decode cX3_init_ 11 = .ok (.aload_n 0, 1) := by decide +kernel
theorem dX3_init__12 : decode cX3_init_ 12 = .ok (.iconst 0, 1) := by decide +kernel
theorem dX3_init__13 : decode cX3_init_ 13 = .ok (.putfield 15, 3) := by decide +kernel
theorem dX3_init__16 : decode cX3_init_ 16 = .ok (.sipush 14641, 3) := by decide +kernel
theorem dX3_init__19 : decode cX3_init_ 19 = .ok (.istore_n 2, 1) := by decide +kernel
theorem dX3_init__20 : decode cX3_init_ 20 = .ok (.iload_n 2, 1) := by decide +kernel
theorem dX3_init__21 : decode cX3_init_ 21 = .ok (.ifCond .le 52, 3) := by decide +kernel
theorem dX3_init__24 : decode cX3_init_ 24 = .ok (.iload_n 1, 1) := by decide +kernel
theorem dX3_init__25 : decode cX3_init_ 25 = .ok (.iload_n 2, 1) := by decide +kernel
theorem dX3_init__26 : decode cX3_init_ 26 = .ok (.idiv, 1) := by decide +kernel
theorem dX3_init__27 : decode cX3_init_ 27 = .ok (.bipush 11, 2) := by decide +kernel
theorem dX3_init__29 : decode cX3_init_ 29 = .ok (.irem, 1) := by decide +kernel
theorem dX3_init__30 : decode cX3_init_ 30 = .ok (.istore_n 3, 1) := by decide +kernel
theorem dX3_init__31 : decode cX3_init_ 31 = .ok (.iload_n 3, 1) := by decide +kernel
theorem dX3_init__32 : decode cX3_init_ 32 = .ok (.ifCond .le 33, 3) := by decide +kernel
theorem dX3_init__35 : decode cX3_init_ 35 = .ok (.aload_n 0, 1) := by decide +kernel
theorem dX3_init__36 : decode cX3_init_ 36 = .ok (.getfield 15, 3) := by decide +kernel
theorem dX3_init__39 : decode cX3_init_ 39 = .ok (.iconst 5, 1) := by decide +kernel
theorem dX3_init__40 : decode cX3_init_ 40 = .ok (.if_icmp .ge 25, 3) := by decide +kernel
theorem dX3_init__43 : decode cX3_init_ 43 = .ok (.aload_n 0, 1) := by decide +kernel
theorem dX3_init__44 : decode cX3_init_ 44 = .ok (.getfield 9, 3) := by decide +kernel
theorem dX3_init__47 : decode cX3_init_ 47 = .ok (.aload_n 0, 1) := by decide +kernel
theorem dX3_init__48 : decode cX3_init_ 48 = .ok (.getfield 15, 3) := by decide +kernel
theorem dX3_init__51 : decode cX3_init_ 51 = .ok (.iload_n 3, 1) := by decide +kernel
theorem dX3_init__52 : decode cX3_init_ 52 = .ok (.iconst 1, 1) := by decide +kernel
theorem dX3_init__53 : decode cX3_init_ 53 = .ok (.isub, 1) := by decide +kernel
theorem dX3_init__54 : decode cX3_init_ 54 = .ok (.iastore, 1) := by decide +kernel
theorem dX3_init__55 : decode cX3_init_ 55 = .ok (.aload_n 0, 1) := by decide +kernel
theorem dX3_init__56 : decode cX3_init_ 56 = .ok (.dup, 1) := by decide +kernel
theorem dX3_init__57 : decode cX3_init_ 57 = .ok (.getfield 15, 3) := by decide +kernel
theorem dX3_init__60 : decode cX3_init_ 60 = .ok (.iconst 1, 1) := by decide +kernel
theorem dX3_init__61 : decode cX3_init_ 61 = .ok (.iadd, 1) := by decide +kernel
theorem dX3_init__62 : decode cX3_init_ 62 = .ok (.putfield 15, 3) := by decide +kernel
theorem dX3_init__65 : decode cX3_init_ 65 = .ok (.iload_n 2, 1) := by decide +kernel
theorem dX3_init__66 : decode cX3_init_ 66 = .ok (.bipush 11, 2) := by decide +kernel
theorem dX3_init__68 : decode cX3_init_ 68 = .ok (.idiv, 1) := by decide +kernel
theorem dX3_init__69 : decode cX3_init_ 69 = .ok (.istore_n 2, 1) := by decide +kernel
theorem dX3_init__70 : decode cX3_init_ 70 = .ok (.goto (-50), 3) := by decide +kernel
theorem dX3_init__73 : decode cX3_init_ 73 = .ok (.return_, 1) := by decide +kernel
theorem dX3_isRow_0 : decode cX3_isRow 0 = .ok (.iload_n 0, 1) := by decide +kernel
theorem dX3_isRow_1 : decode cX3_isRow 1 = .ok (.iconst 0, 1) := by decide +kernel
theorem dX3_isRow_2 : decode cX3_isRow 2 = .ok (.ldc 19, 2) := by decide +kernel
theorem dX3_isRow_4 : decode cX3_isRow 4 = .ok (.invokestatic 20, 3) := by decide +kernel
theorem dX3_isRow_7 : decode cX3_isRow 7 = .ok (.ifCond .ne 5, 3) := by decide +kernel
theorem dX3_isRow_10 : decode cX3_isRow 10 = .ok (.iconst 0, 1) := by decide +kernel
theorem dX3_isRow_11 : decode cX3_isRow 11 = .ok (.ireturn, 1) := by decide +kernel
theorem dX3_isRow_12 : decode cX3_isRow 12 = .ok (.iload_n 0, 1) := by decide +kernel
theorem dX3_isRow_13 : decode cX3_isRow 13 = .ok (.istore_n 1, 1) := by decide +kernel
theorem dX3_isRow_14 : decode cX3_isRow 14 = .ok (.iload_n 1, 1) := by decide +kernel
theorem dX3_isRow_15 : decode cX3_isRow 15 = .ok (.ifCond .le 20, 3) := by decide +kernel
theorem dX3_isRow_18 : decode cX3_isRow 18 = .ok (.iload_n 1, 1) := by decide +kernel
theorem dX3_isRow_19 : decode cX3_isRow 19 = .ok (.bipush 11, 2) := by decide +kernel
theorem dX3_isRow_21 : decode cX3_isRow 21 = .ok (.irem, 1) := by decide +kernel
theorem dX3_isRow_22 : decode cX3_isRow 22 = .ok (.ifCond .ne 5, 3) := by decide +kernel
theorem dX3_isRow_25 : decode cX3_isRow 25 = .ok (.iconst 0, 1) := by decide +kernel
theorem dX3_isRow_26 : decode cX3_isRow 26 = .ok (.ireturn, 1) := by decide +kernel
theorem dX3_isRow_27 : decode cX3_isRow 27 = .ok (.iload_n 1, 1) := by decide +kernel
theorem dX3_isRow_28 : decode cX3_isRow 28 = .ok (.bipush 11, 2) := by decide +kernel
theorem dX3_isRow_30 : decode cX3_isRow 30 = .ok (.idiv, 1) := by decide +kernel
theorem dX3_isRow_31 : decode cX3_isRow 31 = .ok (.istore_n 1, 1) := by decide +kernel
theorem dX3_isRow_32 : decode cX3_isRow 32 = .ok (.goto (-18), 3) := by decide +kernel
theorem dX3_isRow_35 : decode cX3_isRow 35 = .ok (.iconst 1, 1) := by decide +kernel
theorem dX3_isRow_36 : decode cX3_isRow 36 = .ok (.ireturn, 1) := by decide +kernel
theorem dX3_colourAfter_0 : decode cX3_colourAfter 0 = .ok (.iconst 0, 1) := by decide +kernel
theorem dX3_colourAfter_1 : decode cX3_colourAfter 1 = .ok (.istore_n 3, 1) := by decide +kernel
theorem dX3_colourAfter_2 : decode cX3_colourAfter 2 = .ok (.iconst 0, 1) := by decide +kernel
theorem dX3_colourAfter_3 : decode cX3_colourAfter 3 = .ok (.istore 4, 2) := by decide +kernel
theorem dX3_colourAfter_5 : decode cX3_colourAfter 5 = .ok (.iload 4, 2) := by decide +kernel
theorem dX3_colourAfter_7 : decode cX3_colourAfter 7 = .ok (.iload_n 1, 1) := by decide +kernel
theorem dX3_colourAfter_8 : decode cX3_colourAfter 8 = .ok (.if_icmp .ge 33, 3) := by decide +kernel
theorem dX3_colourAfter_11 : decode cX3_colourAfter 11 = .ok (.iload 4, 2) := by decide +kernel
theorem dX3_colourAfter_13 : decode cX3_colourAfter 13 = .ok (.aload_n 0, 1) := by decide +kernel
theorem dX3_colourAfter_14 : decode cX3_colourAfter 14 = .ok (.getfield 15, 3) := by decide +kernel
theorem dX3_colourAfter_17 : decode cX3_colourAfter 17 = .ok (.if_icmp .ge 24, 3) := by decide +kernel
theorem dX3_colourAfter_20 : decode cX3_colourAfter 20 = .ok (.aload_n 2, 1) := by decide +kernel
theorem dX3_colourAfter_21 : decode cX3_colourAfter 21 = .ok (.getfield 24, 3) := by decide +kernel
theorem dX3_colourAfter_24 : decode cX3_colourAfter 24 = .ok (.aload_n 0, 1) := by decide +kernel
theorem dX3_colourAfter_25 : decode cX3_colourAfter 25 = .ok (.getfield 9, 3) := by decide +kernel
theorem dX3_colourAfter_28 : decode cX3_colourAfter 28 = .ok (.iload 4, 2) := by decide +kernel
theorem dX3_colourAfter_30 : decode cX3_colourAfter 30 = .ok (.iaload, 1) := by decide +kernel
theorem dX3_colourAfter_31 : decode cX3_colourAfter 31 = .ok (.aaload, 1) := by decide +kernel
theorem dX3_colourAfter_32 : decode cX3_colourAfter 32 = .ok (.iload_n 3, 1) := by decide +kernel
theorem dX3_colourAfter_33 : decode cX3_colourAfter 33 = .ok (.iaload, 1) := by decide +kernel
theorem dX3_colourAfter_34 : decode cX3_colourAfter 34 = .ok (.istore_n 3, 1) := by decide +kernel
theorem dX3_colourAfter_35 : decode cX3_colourAfter 35 = .ok (.iinc 4 1, 3) := by decide +kernel
theorem dX3_colourAfter_38 : decode cX3_colourAfter 38 = .ok (.goto (-33), 3) := by decide +kernel
theorem dX3_colourAfter_41 : decode cX3_colourAfter 41 = .ok (.iload_n 3, 1) := by decide +kernel
theorem dX3_colourAfter_42 : decode cX3_colourAfter 42 = .ok (.ireturn, 1) := by decide +kernel
theorem dX3_coloursMade_0 : decode cX3_coloursMade 0 = .ok (.iconst 0, 1) := by decide +kernel
theorem dX3_coloursMade_1 : decode cX3_coloursMade 1 = .ok (.istore_n 2, 1) := by decide +kernel
theorem dX3_coloursMade_2 : decode cX3_coloursMade 2 = .ok (.iconst 0, 1) := by decide +kernel
theorem dX3_coloursMade_3 : decode cX3_coloursMade 3 = .ok (.istore_n 3, 1) := by decide +kernel
theorem dX3_coloursMade_4 : decode cX3_coloursMade 4 = .ok (.iload_n 3, 1) := by decide +kernel
theorem dX3_coloursMade_5 : decode cX3_coloursMade 5 = .ok (.aload_n 0, 1) := by decide +kernel
theorem dX3_coloursMade_6 : decode cX3_coloursMade 6 = .ok (.getfield 15, 3) := by decide +kernel
theorem dX3_coloursMade_9 : decode cX3_coloursMade 9 = .ok (.if_icmp .gt 20, 3) := by decide +kernel
theorem dX3_coloursMade_12 : decode cX3_coloursMade 12 = .ok (.iload_n 2, 1) := by decide +kernel
theorem dX3_coloursMade_13 : decode cX3_coloursMade 13 = .ok (.iconst 1, 1) := by decide +kernel
theorem dX3_coloursMade_14 : decode cX3_coloursMade 14 = .ok (.aload_n 0, 1) := by decide +kernel
theorem dX3_coloursMade_15 : decode cX3_coloursMade 15 = .ok (.iload_n 3, 1) := by decide +kernel
theorem dX3_coloursMade_16 : decode cX3_coloursMade 16 = .ok (.aload_n 1, 1) := by decide +kernel
theorem dX3_coloursMade_17 : decode cX3_coloursMade 17 = .ok (.invokevirtual 30, 3) := by decide +kernel
theorem dX3_coloursMade_20 : decode cX3_coloursMade 20 = .ok (.ishl, 1) := by decide +kernel
theorem dX3_coloursMade_21 : decode cX3_coloursMade 21 = .ok (.ior, 1) := by decide +kernel
theorem dX3_coloursMade_22 : decode cX3_coloursMade 22 = .ok (.istore_n 2, 1) := by decide +kernel
theorem dX3_coloursMade_23 : decode cX3_coloursMade 23 = .ok (.iinc 3 1, 3) := by decide +kernel
theorem dX3_coloursMade_26 : decode cX3_coloursMade 26 = .ok (.goto (-22), 3) := by decide +kernel
theorem dX3_coloursMade_29 : decode cX3_coloursMade 29 = .ok (.iload_n 2, 1) := by decide +kernel
theorem dX3_coloursMade_30 : decode cX3_coloursMade 30 = .ok (.ireturn, 1) := by decide +kernel
theorem dX3_leastPlace_0 : decode cX3_leastPlace 0 = .ok (.iconst 0, 1) := by decide +kernel
theorem dX3_leastPlace_1 : decode cX3_leastPlace 1 = .ok (.istore_n 3, 1) := by decide +kernel
theorem dX3_leastPlace_2 : decode cX3_leastPlace 2 = .ok (.iload_n 3, 1) := by decide +kernel
theorem dX3_leastPlace_3 : decode cX3_leastPlace 3 = .ok (.aload_n 0, 1) := by decide +kernel
theorem dX3_leastPlace_4 : decode cX3_leastPlace 4 = .ok (.getfield 15, 3) := by decide +kernel
theorem dX3_leastPlace_7 : decode cX3_leastPlace 7 = .ok (.if_icmp .gt 21, 3) := by decide +kernel
theorem dX3_leastPlace_10 : decode cX3_leastPlace 10 = .ok (.aload_n 0, 1) := by decide +kernel
theorem dX3_leastPlace_11 : decode cX3_leastPlace 11 = .ok (.iload_n 3, 1) := by decide +kernel
theorem dX3_leastPlace_12 : decode cX3_leastPlace 12 = .ok (.aload_n 2, 1) := by decide +kernel
theorem dX3_leastPlace_13 : decode cX3_leastPlace 13 = .ok (.invokevirtual 30, 3) := by decide +kernel
theorem dX3_leastPlace_16 : decode cX3_leastPlace 16 = .ok (.iload_n 1, 1) := by decide +kernel
theorem dX3_leastPlace_17 : decode cX3_leastPlace 17 = .ok (.if_icmp .ne 5, 3) := by decide +kernel
theorem dX3_leastPlace_20 : decode cX3_leastPlace 20 = .ok (.iload_n 3, 1) := by decide +kernel
theorem dX3_leastPlace_21 : decode cX3_leastPlace 21 = .ok (.ireturn, 1) := by decide +kernel
theorem dX3_leastPlace_22 : decode cX3_leastPlace 22 = .ok (.iinc 3 1, 3) := by decide +kernel
theorem dX3_leastPlace_25 : decode cX3_leastPlace 25 = .ok (.goto (-23), 3) := by decide +kernel
theorem dX3_leastPlace_28 : decode cX3_leastPlace 28 = .ok (.iconst (-1), 1) := by decide +kernel
theorem dX3_leastPlace_29 : decode cX3_leastPlace 29 = .ok (.ireturn, 1) := by decide +kernel
theorem dX4_init_0 : decode cX4_init 0 = .ok (.aload_n 0, 1) := by decide +kernel
theorem dX4_init_1 : decode cX4_init 1 = .ok (.invokespecial 3, 3) := by decide +kernel
theorem dX4_init_4 : decode cX4_init 4 = .ok (.aload_n 0, 1) := by decide +kernel
theorem dX4_init_5 : decode cX4_init 5 = .ok (.bipush 10, 2) := by decide +kernel
theorem dX4_init_7 : decode cX4_init 7 = .ok (.bipush 16, 2) := by decide +kernel
theorem dX4_init_9 : decode cX4_init 9 = .ok (.multianewarray 9 2, 4) := by decide +kernel
theorem dX4_init_13 : decode cX4_init 13 = .ok (.putfield 11, 3) := by decide +kernel
theorem dX4_init_16 : decode cX4_init 16 = .ok (.aload_n 0, 1) := by decide +kernel
theorem dX4_init_17 : decode cX4_init 17 = .ok (.bipush 10, 2) := by decide +kernel
theorem dX4_init_19 : decode cX4_init 19 = .ok (.newarray .int, 2) := by decide +kernel
theorem dX4_init_21 : decode cX4_init 21 = .ok (.putfield 16, 3) := by decide +kernel
theorem dX4_init_24 : decode cX4_init 24 = .ok (.aload_n 0, 1) := by decide +kernel
theorem dX4_init_25 : decode cX4_init 25 = .ok (.bipush 10, 2) := by decide +kernel
theorem dX4_init_27 : decode cX4_init 27 = .ok (.bipush 10, 2) := by decide +kernel
theorem dX4_init_29 : decode cX4_init 29 = .ok (.multianewarray 9 2, 4) := by decide +kernel
theorem dX4_init_33 : decode cX4_init 33 = .ok (.putfield 20, 3) := by decide +kernel
theorem dX4_init_36 : decode cX4_init 36 = .ok (.aload_n 0, 1) := by decide +kernel
theorem dX4_init_37 : decode cX4_init 37 = .ok (.bipush 10, 2) := by decide +kernel
theorem dX4_init_39 : decode cX4_init 39 = .ok (.bipush 10, 2) := by decide +kernel
theorem dX4_init_41 : decode cX4_init 41 = .ok (.multianewarray 9 2, 4) := by decide +kernel
theorem dX4_init_45 : decode cX4_init 45 = .ok (.putfield 23, 3) := by decide +kernel
theorem dX4_init_48 : decode cX4_init 48 = .ok (.aload_n 0, 1) := by decide +kernel
theorem dX4_init_49 : decode cX4_init 49 = .ok (.getfield 16, 3) := by decide +kernel
theorem dX4_init_52 : decode cX4_init 52 = .ok (.bipush 60, 2) := by decide +kernel
theorem dX4_init_54 : decode cX4_init 54 = .ok (.invokestatic 26, 3) := by decide +kernel
theorem dX4_init_57 : decode cX4_init 57 = .ok (.iconst 0, 1) := by decide +kernel
theorem dX4_init_58 : decode cX4_init 58 = .ok (.istore_n 1, 1) := by decide +kernel
theorem dX4_init_59 : decode cX4_init 59 = .ok (.iload_n 1, 1) := by decide +kernel
theorem dX4_init_60 : decode cX4_init 60 = .ok (.bipush 10, 2) := by decide +kernel
theorem dX4_init_62 : decode cX4_init 62 = .ok (.if_icmp .ge 21, 3) := by decide +kernel
theorem dX4_init_65 : decode cX4_init 65 = .ok (.aload_n 0, 1) := by decide +kernel
theorem dX4_init_66 : decode cX4_init 66 = .ok (.getfield 11, 3) := by decide +kernel
theorem dX4_init_69 : decode cX4_init 69 = .ok (.iload_n 1, 1) := by decide +kernel
theorem dX4_init_70 : decode cX4_init 70 = .ok (.aaload, 1) := by decide +kernel
theorem dX4_init_71 : decode cX4_init 71 = .ok (.iload_n 1, 1) := by decide +kernel
theorem dX4_init_72 : decode cX4_init 72 = .ok (.iconst 1, 1) := by decide +kernel
theorem dX4_init_73 : decode cX4_init 73 = .ok (.iadd, 1) := by decide +kernel
theorem dX4_init_74 : decode cX4_init 74 = .ok (.invokestatic 26, 3) := by decide +kernel
theorem dX4_init_77 : decode cX4_init 77 = .ok (.iinc 1 1, 3) := by decide +kernel
theorem dX4_init_80 : decode cX4_init 80 = .ok (.goto (-21), 3) := by decide +kernel
theorem dX4_init_83 : decode cX4_init 83 = .ok (.return_, 1) := by decide +kernel
theorem dX4_reachedBy_0 : decode cX4_reachedBy 0 = .ok (.iconst 1, 1) := by decide +kernel
theorem dX4_reachedBy_1 : decode cX4_reachedBy 1 = .ok (.istore_n 2, 1) := by decide +kernel
theorem dX4_reachedBy_2 : decode cX4_reachedBy 2 = .ok (.iconst 0, 1) := by decide +kernel
theorem dX4_reachedBy_3 : decode cX4_reachedBy 3 = .ok (.istore_n 3, 1) := by decide +kernel
theorem dX4_reachedBy_4 : decode cX4_reachedBy 4 = .ok (.iload_n 3, 1) := by decide +kernel
theorem dX4_reachedBy_5 : decode cX4_reachedBy 5 = .ok (.iconst 5, 1) := by decide +kernel
theorem dX4_reachedBy_6 : decode cX4_reachedBy 6 = .ok (.if_icmp .ge 18, 3) := by decide +kernel
theorem dX4_reachedBy_9 : decode cX4_reachedBy 9 = .ok (.iload_n 2, 1) := by decide +kernel
theorem dX4_reachedBy_10 : decode cX4_reachedBy 10 = .ok (.aload_n 0, 1) := by decide +kernel
theorem dX4_reachedBy_11 : decode cX4_reachedBy 11 = .ok (.iload_n 2, 1) := by decide +kernel
theorem dX4_reachedBy_12 : decode cX4_reachedBy 12 = .ok (.iload_n 1, 1) := by decide +kernel
theorem dX4_reachedBy_13 : decode cX4_reachedBy 13 = .ok (.invokevirtual 32, 3) := by decide +kernel
theorem dX4_reachedBy_16 : decode cX4_reachedBy 16 = .ok (.ior, 1) := by decide +kernel
theorem dX4_reachedBy_17 : decode cX4_reachedBy 17 = .ok (.istore_n 2, 1) := by decide +kernel
theorem dX4_reachedBy_18 : decode cX4_reachedBy 18 = .ok (.iinc 3 1, 3) := by decide +kernel
theorem dX4_reachedBy_21 : decode cX4_reachedBy 21 = .ok (.goto (-17), 3) := by decide +kernel
theorem dX4_reachedBy_24 : decode cX4_reachedBy 24 = .ok (.iload_n 2, 1) := by decide +kernel
theorem dX4_reachedBy_25 : decode cX4_reachedBy 25 = .ok (.ireturn, 1) := by decide +kernel
theorem dX4_oneInkOn_0 : decode cX4_oneInkOn 0 = .ok (.iconst 0, 1) := by decide +kernel
theorem dX4_oneInkOn_1 : decode cX4_oneInkOn 1 = .ok (.istore_n 3, 1) := by decide +kernel
theorem dX4_oneInkOn_2 : decode cX4_oneInkOn 2 = .ok (.iconst 0, 1) := by decide +kernel
theorem dX4_oneInkOn_3 : decode cX4_oneInkOn 3 = .ok (.istore 4, 2) := by decide +kernel
theorem dX4_oneInkOn_5 : decode cX4_oneInkOn 5 = .ok (.iload 4, 2) := by decide +kernel
theorem dX4_oneInkOn_7 : decode cX4_oneInkOn 7 = .ok (.bipush 10, 2) := by decide +kernel
theorem dX4_oneInkOn_9 : decode cX4_oneInkOn 9 = .ok (.if_icmp .ge 58, 3) := by decide +kernel
theorem dX4_oneInkOn_12 : decode cX4_oneInkOn 12 = .ok (.iconst 0, 1) := by decide +kernel
theorem dX4_oneInkOn_13 : decode cX4_oneInkOn 13 = .ok (.istore 5, 2) := by decide +kernel
theorem dX4_oneInkOn_15 : decode cX4_oneInkOn 15 = .ok (.iload 5, 2) := by decide +kernel
theorem dX4_oneInkOn_17 : decode cX4_oneInkOn 17 = .ok (.bipush 16, 2) := by decide +kernel
theorem dX4_oneInkOn_19 : decode cX4_oneInkOn 19 = .ok (.if_icmp .ge 42, 3) := by decide +kernel
theorem dX4_oneInkOn_22 : decode cX4_oneInkOn 22 = .ok (.iload_n 2, 1) := by decide +kernel
theorem dX4_oneInkOn_23 : decode cX4_oneInkOn 23 = .ok (.iload 4, 2) := by decide +kernel
theorem dX4_oneInkOn_25 : decode cX4_oneInkOn 25 = .ok (.invokestatic 36, 3) := by decide +kernel
theorem dX4_oneInkOn_28 : decode cX4_oneInkOn 28 = .ok (.ifCond .eq 27, 3) := by decide +kernel
theorem dX4_oneInkOn_31 : decode cX4_oneInkOn 31 = .ok (.iload_n 1, 1) := by decide +kernel
theorem dX4_oneInkOn_32 : decode cX4_oneInkOn 32 = .ok (.iload 5, 2) := by decide +kernel
theorem dX4_oneInkOn_34 : decode cX4_oneInkOn 34 = .ok (.invokestatic 36, 3) := by decide +kernel
theorem dX4_oneInkOn_37 : decode cX4_oneInkOn 37 = .ok (.ifCond .eq 18, 3) := by decide +kernel
theorem dX4_oneInkOn_40 : decode cX4_oneInkOn 40 = .ok (.iload_n 3, 1) := by decide +kernel
theorem dX4_oneInkOn_41 : decode cX4_oneInkOn 41 = .ok (.iconst 1, 1) := by decide +kernel
theorem dX4_oneInkOn_42 : decode cX4_oneInkOn 42 = .ok (.aload_n 0, 1) := by decide +kernel
theorem dX4_oneInkOn_43 : decode cX4_oneInkOn 43 = .ok (.getfield 11, 3) := by decide +kernel
theorem dX4_oneInkOn_46 : decode cX4_oneInkOn 46 = .ok (.iload 4, 2) := by decide +kernel
theorem dX4_oneInkOn_48 : decode cX4_oneInkOn 48 = .ok (.aaload, 1) := by decide +kernel
theorem dX4_oneInkOn_49 : decode cX4_oneInkOn 49 = .ok (.iload 5, 2) := by decide +kernel
theorem dX4_oneInkOn_51 : decode cX4_oneInkOn 51 = .ok (.iaload, 1) := by decide +kernel
theorem dX4_oneInkOn_52 : decode cX4_oneInkOn 52 = .ok (.ishl, 1) := by decide +kernel
theorem dX4_oneInkOn_53 : decode cX4_oneInkOn 53 = .ok (.ior, 1) := by decide +kernel
theorem dX4_oneInkOn_54 : decode cX4_oneInkOn 54 = .ok (.istore_n 3, 1) := by decide +kernel
theorem dX4_oneInkOn_55 : decode cX4_oneInkOn 55 = .ok (.iinc 5 1, 3) := by decide +kernel
theorem dX4_oneInkOn_58 : decode cX4_oneInkOn 58 = .ok (.goto (-43), 3) := by decide +kernel
theorem dX4_oneInkOn_61 : decode cX4_oneInkOn 61 = .ok (.iinc 4 1, 3) := by decide +kernel
theorem dX4_oneInkOn_64 : decode cX4_oneInkOn 64 = .ok (.goto (-59), 3) := by decide +kernel
theorem dX4_oneInkOn_67 : decode cX4_oneInkOn 67 = .ok (.iload_n 3, 1) := by decide +kernel
theorem dX4_oneInkOn_68 : decode cX4_oneInkOn 68 = .ok (.ireturn, 1) := by decide +kernel
theorem dX5_init_0 : decode cX5_init 0 = .ok (.aload_n 0, 1) := by decide +kernel
theorem dX5_init_1 : decode cX5_init 1 = .ok (.invokespecial 1, 3) := by decide +kernel
theorem dX5_init_4 : decode cX5_init 4 = .ok (.aload_n 0, 1) := by decide +kernel
theorem dX5_init_5 : decode cX5_init 5 = .ok (.iconst 0, 1) := by decide +kernel
theorem dX5_init_6 : decode cX5_init 6 = .ok (.putfield 7, 3) := by decide +kernel
theorem dX5_init_9 : decode cX5_init 9 = .ok (.aload_n 0, 1) := by decide +kernel
theorem dX5_init_10 : decode cX5_init 10 = .ok (.iconst 0, 1) := by decide +kernel
theorem dX5_init_11 : decode cX5_init 11 = .ok (.putfield 13, 3) := by decide +kernel
theorem dX5_init_14 : decode cX5_init 14 = .ok (.return_, 1) := by decide +kernel
theorem dX5_slips_0 : decode cX5_slips 0 = .ok (.aload_n 0, 1) := by decide +kernel
theorem dX5_slips_1 : decode cX5_slips 1 = .ok (.aload_n 0, 1) := by decide +kernel
theorem dX5_slips_2 : decode cX5_slips 2 = .ok (.getfield 7, 3) := by decide +kernel
theorem dX5_slips_5 : decode cX5_slips 5 = .ok (.ldc 16, 2) := by decide +kernel
theorem dX5_slips_7 : decode cX5_slips 7 = .ok (.imul, 1) := by decide +kernel
theorem dX5_slips_8 : decode cX5_slips 8 = .ok (.sipush 12345, 3) := by decide +kernel
theorem dX5_slips_11 : decode cX5_slips 11 = .ok (.iadd, 1) := by decide +kernel
theorem dX5_slips_12 : decode cX5_slips 12 = .ok (.putfield 7, 3) := by decide +kernel
theorem dX5_slips_15 : decode cX5_slips 15 = .ok (.aload_n 0, 1) := by decide +kernel
theorem dX5_slips_16 : decode cX5_slips 16 = .ok (.getfield 7, 3) := by decide +kernel
theorem dX5_slips_19 : decode cX5_slips 19 = .ok (.bipush 8, 2) := by decide +kernel
theorem dX5_slips_21 : decode cX5_slips 21 = .ok (.iushr, 1) := by decide +kernel
theorem dX5_slips_22 : decode cX5_slips 22 = .ok (.sipush 1000, 3) := by decide +kernel
theorem dX5_slips_25 : decode cX5_slips 25 = .ok (.irem, 1) := by decide +kernel
theorem dX5_slips_26 : decode cX5_slips 26 = .ok (.aload_n 0, 1) := by decide +kernel
theorem dX5_slips_27 : decode cX5_slips 27 = .ok (.getfield 13, 3) := by decide +kernel
theorem dX5_slips_30 : decode cX5_slips 30 = .ok (.if_icmp .ge 7, 3) := by decide +kernel
theorem dX5_slips_33 : decode cX5_slips 33 = .ok (.iconst 1, 1) := by decide +kernel
theorem dX5_slips_34 : decode cX5_slips 34 = .ok (.goto 4, 3) := by decide +kernel
theorem dX5_slips_37 : decode cX5_slips 37 = .ok (.iconst 0, 1) := by decide +kernel
theorem dX5_slips_38 : decode cX5_slips 38 = .ok (.ireturn, 1) := by decide +kernel
theorem dX6_init_0 : decode cX6_init 0 = .ok (.aload_n 0, 1) := by decide +kernel
theorem dX6_init_1 : decode cX6_init 1 = .ok (.invokespecial 3, 3) := by decide +kernel
theorem dX6_init_4 : decode cX6_init 4 = .ok (.aload_n 0, 1) := by decide +kernel
theorem dX6_init_5 : decode cX6_init 5 = .ok (.bipush 16, 2) := by decide +kernel
theorem dX6_init_7 : decode cX6_init 7 = .ok (.newarray .int, 2) := by decide +kernel
theorem dX6_init_9 : decode cX6_init 9 = .ok (.putfield 9, 3) := by decide +kernel
theorem dX6_init_12 : decode cX6_init 12 = .ok (.aload_n 0, 1) := by decide +kernel
theorem dX6_init_13 : decode cX6_init 13 = .ok (.iload_n 1, 1) := by decide +kernel
theorem dX6_init_14 : decode cX6_init 14 = .ok (.putfield 15, 3) := by decide +kernel
theorem dX6_init_17 : decode cX6_init 17 = .ok (.aload_n 0, 1) := by decide +kernel
theorem dX6_init_18 : decode cX6_init 18 = .ok (.iload_n 2, 1) := by decide +kernel
theorem dX6_init_19 : decode cX6_init 19 = .ok (.putfield 19, 3) := by decide +kernel
theorem dX6_init_22 : decode cX6_init 22 = .ok (.return_, 1) := by decide +kernel
theorem dX6_isTold_0 : decode cX6_isTold 0 = .ok (.aload_n 0, 1) := by decide +kernel
theorem dX6_isTold_1 : decode cX6_isTold 1 = .ok (.getfield 15, 3) := by decide +kernel
theorem dX6_isTold_4 : decode cX6_isTold 4 = .ok (.ifCond .le 7, 3) := by decide +kernel
theorem dX6_isTold_7 : decode cX6_isTold 7 = .ok (.iconst 1, 1) := by decide +kernel
theorem dX6_isTold_8 : decode cX6_isTold 8 = .ok (.goto 4, 3) := by decide +kernel
theorem dX6_isTold_11 : decode cX6_isTold 11 = .ok (.iconst 0, 1) := by decide +kernel
theorem dX6_isTold_12 : decode cX6_isTold 12 = .ok (.ireturn, 1) := by decide +kernel
theorem dX6_isAt_0 : decode cX6_isAt 0 = .ok (.iload_n 1, 1) := by decide +kernel
theorem dX6_isAt_1 : decode cX6_isAt 1 = .ok (.iconst 0, 1) := by decide +kernel
theorem dX6_isAt_2 : decode cX6_isAt 2 = .ok (.aload_n 0, 1) := by decide +kernel
theorem dX6_isAt_3 : decode cX6_isAt 3 = .ok (.getfield 15, 3) := by decide +kernel
theorem dX6_isAt_6 : decode cX6_isAt 6 = .ok (.iconst 1, 1) := by decide +kernel
theorem dX6_isAt_7 : decode cX6_isAt 7 = .ok (.isub, 1) := by decide +kernel
theorem dX6_isAt_8 : decode cX6_isAt 8 = .ok (.invokestatic 22, 3) := by decide +kernel
theorem dX6_isAt_11 : decode cX6_isAt 11 = .ok (.ifCond .eq 21, 3) := by decide +kernel
theorem dX6_isAt_14 : decode cX6_isAt 14 = .ok (.iload_n 2, 1) := by decide +kernel
theorem dX6_isAt_15 : decode cX6_isAt 15 = .ok (.iconst 0, 1) := by decide +kernel
theorem dX6_isAt_16 : decode cX6_isAt 16 = .ok (.aload_n 0, 1) := by decide +kernel
theorem dX6_isAt_17 : decode cX6_isAt 17 = .ok (.getfield 19, 3) := by decide +kernel
theorem dX6_isAt_20 : decode cX6_isAt 20 = .ok (.iconst 1, 1) := by decide +kernel
theorem dX6_isAt_21 : decode cX6_isAt 21 = .ok (.isub, 1) := by decide +kernel
theorem dX6_isAt_22 : decode cX6_isAt 22 = .ok (.invokestatic 22, 3) := by decide +kernel
theorem dX6_isAt_25 : decode cX6_isAt 25 = .ok (.ifCond .eq 7, 3) := by decide +kernel
theorem dX6_isAt_28 : decode cX6_isAt 28 = .ok (.iconst 1, 1) := by decide +kernel
theorem dX6_isAt_29 : decode cX6_isAt 29 = .ok (.goto 4, 3) := by decide +kernel
theorem dX6_isAt_32 : decode cX6_isAt 32 = .ok (.iconst 0, 1) := by decide +kernel
theorem dX6_isAt_33 : decode cX6_isAt 33 = .ok (.ireturn, 1) := by decide +kernel
theorem dX6_hasCell_0 : decode cX6_hasCell 0 = .ok (.iload_n 1, 1) := by decide +kernel
theorem dX6_hasCell_1 : decode cX6_hasCell 1 = .ok (.ifCond .lt 20, 3) := by decide +kernel
theorem dX6_hasCell_4 : decode cX6_hasCell 4 = .ok (.aload_n 0, 1) := by decide +kernel
theorem dX6_hasCell_5 : decode cX6_hasCell 5 = .ok (.iload_n 1, 1) := by decide +kernel
theorem dX6_hasCell_6 : decode cX6_hasCell 6 = .ok (.iconst 4, 1) := by decide +kernel
theorem dX6_hasCell_7 : decode cX6_hasCell 7 = .ok (.idiv, 1) := by decide +kernel
theorem dX6_hasCell_8 : decode cX6_hasCell 8 = .ok (.iload_n 1, 1) := by decide +kernel
theorem dX6_hasCell_9 : decode cX6_hasCell 9 = .ok (.iconst 4, 1) := by decide +kernel
theorem dX6_hasCell_10 : decode cX6_hasCell 10 = .ok (.irem, 1) := by decide +kernel
theorem dX6_hasCell_11 : decode cX6_hasCell 11 = .ok (.invokevirtual 26, 3) := by decide +kernel
theorem dX6_hasCell_14 : decode cX6_hasCell 14 = .ok (.ifCond .eq 7, 3) := by decide +kernel
theorem dX6_hasCell_17 : decode cX6_hasCell 17 = .ok (.iconst 1, 1) := by decide +kernel
theorem dX6_hasCell_18 : decode cX6_hasCell 18 = .ok (.goto 4, 3) := by decide +kernel
theorem dX6_hasCell_21 : decode cX6_hasCell 21 = .ok (.iconst 0, 1) := by decide +kernel
theorem dX6_hasCell_22 : decode cX6_hasCell 22 = .ok (.ireturn, 1) := by decide +kernel
theorem dX6_colourSet_0 : decode cX6_colourSet 0 = .ok (.iconst 0, 1) := by decide +kernel
theorem dX6_colourSet_1 : decode cX6_colourSet 1 = .ok (.istore_n 1, 1) := by decide +kernel
theorem dX6_colourSet_2 : decode cX6_colourSet 2 = .ok (.iconst 0, 1) := by decide +kernel
theorem dX6_colourSet_3 : decode cX6_colourSet 3 = .ok (.istore_n 2, 1) := by decide +kernel
theorem dX6_colourSet_4 : decode cX6_colourSet 4 = .ok (.iload_n 2, 1) := by decide +kernel
theorem dX6_colourSet_5 : decode cX6_colourSet 5 = .ok (.bipush 16, 2) := by decide +kernel
theorem dX6_colourSet_7 : decode cX6_colourSet 7 = .ok (.if_icmp .ge 28, 3) := by decide +kernel
theorem dX6_colourSet_10 : decode cX6_colourSet 10 = .ok (.aload_n 0, 1) := by decide +kernel
theorem dX6_colourSet_11 : decode cX6_colourSet 11 = .ok (.iload_n 2, 1) := by decide +kernel
theorem dX6_colourSet_12 : decode cX6_colourSet 12 = .ok (.invokevirtual 30, 3) := by decide +kernel
theorem dX6_colourSet_15 : decode cX6_colourSet 15 = .ok (.ifCond .eq 14, 3) := by decide +kernel
theorem dX6_colourSet_18 : decode cX6_colourSet 18 = .ok (.iload_n 1, 1) := by decide +kernel
theorem dX6_colourSet_19 : decode cX6_colourSet 19 = .ok (.iconst 1, 1) := by decide +kernel
theorem dX6_colourSet_20 : decode cX6_colourSet 20 = .ok (.aload_n 0, 1) := by decide +kernel
theorem dX6_colourSet_21 : decode cX6_colourSet 21 = .ok (.getfield 9, 3) := by decide +kernel
theorem dX6_colourSet_24 : decode cX6_colourSet 24 = .ok (.iload_n 2, 1) := by decide +kernel
theorem dX6_colourSet_25 : decode cX6_colourSet 25 = .ok (.iaload, 1) := by decide +kernel
theorem dX6_colourSet_26 : decode cX6_colourSet 26 = .ok (.ishl, 1) := by decide +kernel
theorem dX6_colourSet_27 : decode cX6_colourSet 27 = .ok (.ior, 1) := by decide +kernel
theorem dX6_colourSet_28 : decode cX6_colourSet 28 = .ok (.istore_n 1, 1) := by decide +kernel
theorem dX6_colourSet_29 : decode cX6_colourSet 29 = .ok (.iinc 2 1, 3) := by decide +kernel
theorem dX6_colourSet_32 : decode cX6_colourSet 32 = .ok (.goto (-28), 3) := by decide +kernel
theorem dX6_colourSet_35 : decode cX6_colourSet 35 = .ok (.iload_n 1, 1) := by decide +kernel
theorem dX6_colourSet_36 : decode cX6_colourSet 36 = .ok (.ireturn, 1) := by decide +kernel
theorem dX6_isOn_0 : decode cX6_isOn 0 = .ok (.iconst 0, 1) := by decide +kernel
theorem dX6_isOn_1 : decode cX6_isOn 1 = .ok (.istore_n 2, 1) := by decide +kernel
theorem dX6_isOn_2 : decode cX6_isOn 2 = .ok (.iload_n 2, 1) := by decide +kernel
theorem dX6_isOn_3 : decode cX6_isOn 3 = .ok (.bipush 64, 2) := by decide +kernel
theorem dX6_isOn_5 : decode cX6_isOn 5 = .ok (.if_icmp .ge 32, 3) := by decide +kernel
theorem dX6_isOn_8 : decode cX6_isOn 8 = .ok (.aload_n 1, 1) := by decide +kernel
theorem dX6_isOn_9 : decode cX6_isOn 9 = .ok (.getfield 34, 3) := by decide +kernel
theorem dX6_isOn_12 : decode cX6_isOn 12 = .ok (.iload_n 2, 1) := by decide +kernel
theorem dX6_isOn_13 : decode cX6_isOn 13 = .ok (.iaload, 1) := by decide +kernel
theorem dX6_isOn_14 : decode cX6_isOn 14 = .ok (.aload_n 0, 1) := by decide +kernel
theorem dX6_isOn_15 : decode cX6_isOn 15 = .ok (.iload_n 2, 1) := by decide +kernel
theorem dX6_isOn_16 : decode cX6_isOn 16 = .ok (.bipush 8, 2) := by decide +kernel
theorem dX6_isOn_18 : decode cX6_isOn 18 = .ok (.idiv, 1) := by decide +kernel
theorem dX6_isOn_19 : decode cX6_isOn 19 = .ok (.iload_n 2, 1) := by decide +kernel
theorem dX6_isOn_20 : decode cX6_isOn 20 = .ok (.bipush 8, 2) := by decide +kernel
theorem dX6_isOn_22 : decode cX6_isOn 22 = .ok (.irem, 1) := by decide +kernel
theorem dX6_isOn_23 : decode cX6_isOn 23 = .ok (.invokevirtual 37, 3) := by decide +kernel
theorem dX6_isOn_26 : decode cX6_isOn 26 = .ok (.if_icmp .eq 5, 3) := by decide +kernel
theorem dX6_isOn_29 : decode cX6_isOn 29 = .ok (.iconst 0, 1) := by decide +kernel
theorem dX6_isOn_30 : decode cX6_isOn 30 = .ok (.ireturn, 1) := by decide +kernel
theorem dX6_isOn_31 : decode cX6_isOn 31 = .ok (.iinc 2 1, 3) := by decide +kernel
theorem dX6_isOn_34 : decode cX6_isOn 34 = .ok (.goto (-32), 3) := by decide +kernel
theorem dX6_isOn_37 : decode cX6_isOn 37 = .ok (.iconst 1, 1) := by decide +kernel
theorem dX6_isOn_38 : decode cX6_isOn 38 = .ok (.ireturn, 1) := by decide +kernel
theorem dX6_colourAt_0 : decode cX6_colourAt 0 = .ok (.aload_n 0, 1) := by decide +kernel
theorem dX6_colourAt_1 : decode cX6_colourAt 1 = .ok (.iload_n 1, 1) := by decide +kernel
theorem dX6_colourAt_2 : decode cX6_colourAt 2 = .ok (.iload_n 2, 1) := by decide +kernel
theorem dX6_colourAt_3 : decode cX6_colourAt 3 = .ok (.invokevirtual 26, 3) := by decide +kernel
theorem dX6_colourAt_6 : decode cX6_colourAt 6 = .ok (.ifCond .eq 16, 3) := by decide +kernel
theorem dX6_colourAt_9 : decode cX6_colourAt 9 = .ok (.aload_n 0, 1) := by decide +kernel
theorem dX6_colourAt_10 : decode cX6_colourAt 10 = .ok (.getfield 9, 3) := by decide +kernel
theorem dX6_colourAt_13 : decode cX6_colourAt 13 = .ok (.iload_n 1, 1) := by decide +kernel
theorem dX6_colourAt_14 : decode cX6_colourAt 14 = .ok (.iconst 4, 1) := by decide +kernel
theorem dX6_colourAt_15 : decode cX6_colourAt 15 = .ok (.imul, 1) := by decide +kernel
theorem dX6_colourAt_16 : decode cX6_colourAt 16 = .ok (.iload_n 2, 1) := by decide +kernel
theorem dX6_colourAt_17 : decode cX6_colourAt 17 = .ok (.iadd, 1) := by decide +kernel
theorem dX6_colourAt_18 : decode cX6_colourAt 18 = .ok (.iaload, 1) := by decide +kernel
theorem dX6_colourAt_19 : decode cX6_colourAt 19 = .ok (.goto 4, 3) := by decide +kernel
theorem dX6_colourAt_22 : decode cX6_colourAt 22 = .ok (.iconst 0, 1) := by decide +kernel
theorem dX6_colourAt_23 : decode cX6_colourAt 23 = .ok (.ireturn, 1) := by decide +kernel
theorem dX7_init_0 : decode cX7_init 0 = .ok (.aload_n 0, 1) := by decide +kernel
theorem dX7_init_1 : decode cX7_init 1 = .ok (.invokespecial 3, 3) := by decide +kernel
theorem dX7_init_4 : decode cX7_init 4 = .ok (.aload_n 0, 1) := by decide +kernel
theorem dX7_init_5 : decode cX7_init 5 = .ok (.new 9, 3) := by decide +kernel
theorem dX7_init_8 : decode cX7_init 8 = .ok (.dup, 1) := by decide +kernel
theorem dX7_init_9 : decode cX7_init 9 = .ok (.invokespecial 11, 3) := by decide +kernel
theorem dX7_init_12 : decode cX7_init 12 = .ok (.putfield 12, 3) := by decide +kernel
theorem dX7_init_15 : decode cX7_init 15 = .ok (.aload_n 0, 1) := by decide +kernel
theorem dX7_init_16 : decode cX7_init 16 = .ok (.bipush 16, 2) := by decide +kernel
theorem dX7_init_18 : decode cX7_init 18 = .ok (.newarray .int, 2) := by decide +kernel
theorem dX7_init_20 : decode cX7_init 20 = .ok (.putfield 18, 3) := by decide +kernel
theorem dX7_init_23 : decode cX7_init 23 = .ok (.aload_n 0, 1) := by decide +kernel
theorem dX7_init_24 : decode cX7_init 24 = .ok (.getfield 18, 3) := by decide +kernel
theorem dX7_init_27 : decode cX7_init 27 = .ok (.iconst (-1), 1) := by decide +kernel
theorem dX7_init_28 : decode cX7_init 28 = .ok (.invokestatic 22, 3) := by decide +kernel
theorem dX7_init_31 : decode cX7_init 31 = .ok (.return_, 1) := by decide +kernel
theorem dX7_keepPlaces_0 : decode cX7_keepPlaces 0 = .ok (.iconst 0, 1) := by decide +kernel
theorem dX7_keepPlaces_1 : decode cX7_keepPlaces 1 = .ok (.istore_n 3, 1) := by decide +kernel
theorem dX7_keepPlaces_2 : decode cX7_keepPlaces 2 = .ok (.iload_n 3, 1) := by decide +kernel
theorem dX7_keepPlaces_3 : decode cX7_keepPlaces 3 = .ok (.bipush 16, 2) := by decide +kernel
theorem dX7_keepPlaces_5 : decode cX7_keepPlaces 5 = .ok (.if_icmp .ge 41, 3) := by decide +kernel
theorem dX7_keepPlaces_8 : decode cX7_keepPlaces 8 = .ok (.aload_n 0, 1) := by decide +kernel
theorem dX7_keepPlaces_9 : decode cX7_keepPlaces 9 = .ok (.getfield 18, 3) := by decide +kernel
theorem dX7_keepPlaces_12 : decode cX7_keepPlaces 12 = .ok (.iload_n 3, 1) := by decide +kernel
theorem dX7_keepPlaces_13 : decode cX7_keepPlaces 13 = .ok (.aload_n 1, 1) := by decide +kernel
theorem dX7_keepPlaces_14 : decode cX7_keepPlaces 14 = .ok (.iload_n 3, 1) := by decide +kernel
theorem dX7_keepPlaces_15 : decode cX7_keepPlaces 15 = .ok (.invokevirtual 28, 3) := by decide +kernel
theorem dX7_keepPlaces_18 : decode cX7_keepPlaces 18 = .ok (.ifCond .eq 20, 3) := by decide +kernel
theorem dX7_keepPlaces_21 : decode cX7_keepPlaces 21 = .ok (.aload_n 0, 1) := by decide +kernel
theorem dX7_keepPlaces_22 : decode cX7_keepPlaces 22 = .ok (.getfield 12, 3) := by decide +kernel
theorem dX7_keepPlaces_25 : decode cX7_keepPlaces 25 = .ok (.aload_n 1, 1) := by decide +kernel
theorem dX7_keepPlaces_26 : decode cX7_keepPlaces 26 = .ok (.getfield 34, 3) := by decide +kernel
theorem dX7_keepPlaces_29 : decode cX7_keepPlaces 29 = .ok (.iload_n 3, 1) := by decide +kernel
theorem dX7_keepPlaces_30 : decode cX7_keepPlaces 30 = .ok (.iaload, 1) := by decide +kernel
theorem dX7_keepPlaces_31 : decode cX7_keepPlaces 31 = .ok (.aload_n 2, 1) := by decide +kernel
theorem dX7_keepPlaces_32 : decode cX7_keepPlaces 32 = .ok (.invokevirtual 37, 3) := by decide +kernel
theorem dX7_keepPlaces_35 : decode cX7_keepPlaces 35 = .ok (.goto 4, 3) := by decide +kernel
theorem dX7_keepPlaces_38 : decode cX7_keepPlaces 38 = .ok (.iconst (-1), 1) := by decide +kernel
theorem dX7_keepPlaces_39 : decode cX7_keepPlaces 39 = .ok (.iastore, 1) := by decide +kernel
theorem dX7_keepPlaces_40 : decode cX7_keepPlaces 40 = .ok (.iinc 3 1, 3) := by decide +kernel
theorem dX7_keepPlaces_43 : decode cX7_keepPlaces 43 = .ok (.goto (-41), 3) := by decide +kernel
theorem dX7_keepPlaces_46 : decode cX7_keepPlaces 46 = .ok (.return_, 1) := by decide +kernel
theorem dX8_init_0 : decode cX8_init 0 = .ok (.aload_n 0, 1) := by decide +kernel
theorem dX8_init_1 : decode cX8_init 1 = .ok (.invokespecial 3, 3) := by decide +kernel
theorem dX8_init_4 : decode cX8_init 4 = .ok (.aload_n 0, 1) := by decide +kernel
theorem dX8_init_5 : decode cX8_init 5 = .ok (.bipush 16, 2) := by decide +kernel
theorem dX8_init_7 : decode cX8_init 7 = .ok (.newarray .int, 2) := by decide +kernel
theorem dX8_init_9 : decode cX8_init 9 = .ok (.putfield 9, 3) := by decide +kernel
theorem dX8_init_12 : decode cX8_init 12 = .ok (.aload_n 0, 1) := by decide +kernel
theorem dX8_init_13 : decode cX8_init 13 = .ok (.bipush 6, 2) := by decide +kernel
theorem dX8_init_15 : decode cX8_init 15 = .ok (.bipush 16, 2) := by decide +kernel
theorem dX8_init_17 : decode cX8_init 17 = .ok (.multianewarray 15 2, 4) := by decide +kernel
theorem dX8_init_21 : decode cX8_init 21 = .ok (.putfield 17, 3) := by decide +kernel
theorem dX8_init_24 : decode cX8_init 24 = .ok (.aload_n 0, 1) := by decide +kernel
theorem dX8_init_25 : decode cX8_init 25 = .ok (.iconst 0, 1) := by decide +kernel
theorem dX8_init_26 : decode cX8_init 26 = .ok (.putfield 20, 3) := by decide +kernel
theorem dX8_init_29 : decode cX8_init 29 = .ok (.aload_n 0, 1) := by decide +kernel
theorem dX8_init_30 : decode cX8_init 30 = .ok (.aload_n 1, 1) := by decide +kernel
theorem dX8_init_31 : decode cX8_init 31 = .ok (.putfield 24, 3) := by decide +kernel
theorem dX8_init_34 : decode cX8_init 34 = .ok (.return_, 1) := by decide +kernel
theorem dX8_leastPulls_0 : decode cX8_leastPulls 0 = .ok (.iload_n 2, 1) := by decide +kernel
theorem dX8_leastPulls_1 : decode cX8_leastPulls 1 = .ok (.invokestatic 28, 3) := by decide +kernel
theorem dX8_leastPulls_4 : decode cX8_leastPulls 4 = .ok (.invokestatic 32, 3) := by decide +kernel
theorem dX8_leastPulls_7 : decode cX8_leastPulls 7 = .ok (.istore_n 3, 1) := by decide +kernel
theorem dX8_leastPulls_8 : decode cX8_leastPulls 8 = .ok (.iload_n 3, 1) := by decide +kernel
theorem dX8_leastPulls_9 : decode cX8_leastPulls 9 = .ok (.iconst 5, 1) := by decide +kernel
theorem dX8_leastPulls_10 : decode cX8_leastPulls 10 = .ok (.if_icmp .le 6, 3) := by decide +kernel
theorem dX8_leastPulls_13 : decode cX8_leastPulls 13 = .ok (.bipush (-4), 2) := by decide +kernel
theorem dX8_leastPulls_15 : decode cX8_leastPulls 15 = .ok (.ireturn, 1) := by decide +kernel
theorem dX8_leastPulls_16 : decode cX8_leastPulls 16 = .ok (.aload_n 0, 1) := by decide +kernel
theorem dX8_leastPulls_17 : decode cX8_leastPulls 17 = .ok (.iload_n 1, 1) := by decide +kernel
theorem dX8_leastPulls_18 : decode cX8_leastPulls 18 = .ok (.putfield 20, 3) := by decide +kernel
theorem dX8_leastPulls_21 : decode cX8_leastPulls 21 = .ok (.aload_n 0, 1) := by decide +kernel
theorem dX8_leastPulls_22 : decode cX8_leastPulls 22 = .ok (.iload_n 2, 1) := by decide +kernel
theorem dX8_leastPulls_23 : decode cX8_leastPulls 23 = .ok (.invokestatic 28, 3) := by decide +kernel
theorem dX8_leastPulls_26 : decode cX8_leastPulls 26 = .ok (.invokevirtual 37, 3) := by decide +kernel
theorem dX8_leastPulls_29 : decode cX8_leastPulls 29 = .ok (.iconst 1, 1) := by decide +kernel
theorem dX8_leastPulls_30 : decode cX8_leastPulls 30 = .ok (.iload_n 3, 1) := by decide +kernel
theorem dX8_leastPulls_31 : decode cX8_leastPulls 31 = .ok (.ishl, 1) := by decide +kernel
theorem dX8_leastPulls_32 : decode cX8_leastPulls 32 = .ok (.iconst 1, 1) := by decide +kernel
theorem dX8_leastPulls_33 : decode cX8_leastPulls 33 = .ok (.isub, 1) := by decide +kernel
theorem dX8_leastPulls_34 : decode cX8_leastPulls 34 = .ok (.istore 4, 2) := by decide +kernel
theorem dX8_leastPulls_36 : decode cX8_leastPulls 36 = .ok (.aload_n 0, 1) := by decide +kernel
theorem dX8_leastPulls_37 : decode cX8_leastPulls 37 = .ok (.getfield 17, 3) := by decide +kernel
theorem dX8_leastPulls_40 : decode cX8_leastPulls 40 = .ok (.iconst 0, 1) := by decide +kernel
theorem dX8_leastPulls_41 : decode cX8_leastPulls 41 = .ok (.aaload, 1) := by decide +kernel
theorem dX8_leastPulls_42 : decode cX8_leastPulls 42 = .ok (.iconst 1, 1) := by decide +kernel
theorem dX8_leastPulls_43 : decode cX8_leastPulls 43 = .ok (.iload 4, 2) := by decide +kernel
theorem dX8_leastPulls_45 : decode cX8_leastPulls 45 = .ok (.ishl, 1) := by decide +kernel
theorem dX8_leastPulls_46 : decode cX8_leastPulls 46 = .ok (.invokestatic 41, 3) := by decide +kernel
theorem dX8_leastPulls_49 : decode cX8_leastPulls 49 = .ok (.iload_n 3, 1) := by decide +kernel
theorem dX8_leastPulls_50 : decode cX8_leastPulls 50 = .ok (.ifCond .ne 5, 3) := by decide +kernel
theorem dX8_leastPulls_53 : decode cX8_leastPulls 53 = .ok (.iconst 0, 1) := by decide +kernel
theorem dX8_leastPulls_54 : decode cX8_leastPulls 54 = .ok (.ireturn, 1) := by decide +kernel
theorem dX8_leastPulls_55 : decode cX8_leastPulls 55 = .ok (.iconst 1, 1) := by decide +kernel
theorem dX8_leastPulls_56 : decode cX8_leastPulls 56 = .ok (.istore 5, 2) := by decide +kernel
theorem dX8_leastPulls_58 : decode cX8_leastPulls 58 = .ok (.iload 5, 2) := by decide +kernel
theorem dX8_leastPulls_60 : decode cX8_leastPulls 60 = .ok (.iconst 5, 1) := by decide +kernel
theorem dX8_leastPulls_61 : decode cX8_leastPulls 61 = .ok (.if_icmp .gt 34, 3) := by decide +kernel
theorem dX8_leastPulls_64 : decode cX8_leastPulls 64 = .ok (.aload_n 0, 1) := by decide +kernel
theorem dX8_leastPulls_65 : decode cX8_leastPulls 65 = .ok (.iload 5, 2) := by decide +kernel
theorem dX8_leastPulls_67 : decode cX8_leastPulls 67 = .ok (.invokevirtual 47, 3) := by decide +kernel
theorem dX8_leastPulls_70 : decode cX8_leastPulls 70 = .ok (.aload_n 0, 1) := by decide +kernel
theorem dX8_leastPulls_71 : decode cX8_leastPulls 71 = .ok (.getfield 17, 3) := by decide +kernel
theorem dX8_leastPulls_74 : decode cX8_leastPulls 74 = .ok (.iload 5, 2) := by decide +kernel
theorem dX8_leastPulls_76 : decode cX8_leastPulls 76 = .ok (.aaload, 1) := by decide +kernel
theorem dX8_leastPulls_77 : decode cX8_leastPulls 77 = .ok (.iconst 0, 1) := by decide +kernel
theorem dX8_leastPulls_78 : decode cX8_leastPulls 78 = .ok (.iaload, 1) := by decide +kernel
theorem dX8_leastPulls_79 : decode cX8_leastPulls 79 = .ok (.iconst 0, 1) := by decide +kernel
theorem dX8_leastPulls_80 : decode cX8_leastPulls 80 = .ok (.invokestatic 50, 3) := by decide +kernel
theorem dX8_leastPulls_83 : decode cX8_leastPulls 83 = .ok (.ifCond .eq 6, 3) := by decide +kernel
theorem dX8_leastPulls_86 : decode cX8_leastPulls 86 = .ok (.iload 5, 2) := by decide +kernel
theorem dX8_leastPulls_88 : decode cX8_leastPulls 88 = .ok (.ireturn, 1) := by decide +kernel
theorem dX8_leastPulls_89 : decode cX8_leastPulls 89 = .ok (.iinc 5 1, 3) := by decide +kernel
theorem dX8_leastPulls_92 : decode cX8_leastPulls 92 = .ok (.goto (-34), 3) := by decide +kernel
theorem dX8_leastPulls_95 : decode cX8_leastPulls 95 = .ok (.bipush (-4), 2) := by decide +kernel
theorem dX8_leastPulls_97 : decode cX8_leastPulls 97 = .ok (.ireturn, 1) := by decide +kernel
theorem dX8_numberNeeded_0 : decode cX8_numberNeeded 0 = .ok (.iconst 0, 1) := by decide +kernel
theorem dX8_numberNeeded_1 : decode cX8_numberNeeded 1 = .ok (.istore_n 2, 1) := by decide +kernel
theorem dX8_numberNeeded_2 : decode cX8_numberNeeded 2 = .ok (.iconst 0, 1) := by decide +kernel
theorem dX8_numberNeeded_3 : decode cX8_numberNeeded 3 = .ok (.istore_n 3, 1) := by decide +kernel
theorem dX8_numberNeeded_4 : decode cX8_numberNeeded 4 = .ok (.iload_n 3, 1) := by decide +kernel
theorem dX8_numberNeeded_5 : decode cX8_numberNeeded 5 = .ok (.bipush 16, 2) := by decide +kernel
theorem dX8_numberNeeded_7 : decode cX8_numberNeeded 7 = .ok (.if_icmp .ge 39, 3) := by decide +kernel
theorem dX8_numberNeeded_10 : decode cX8_numberNeeded 10 = .ok (.aload_n 0, 1) := by decide +kernel
theorem dX8_numberNeeded_11 : decode cX8_numberNeeded 11 = .ok (.getfield 9, 3) := by decide +kernel
theorem dX8_numberNeeded_14 : decode cX8_numberNeeded 14 = .ok (.iload_n 3, 1) := by decide +kernel
theorem dX8_numberNeeded_15 : decode cX8_numberNeeded 15 = .ok (.iconst (-1), 1) := by decide +kernel
theorem dX8_numberNeeded_16 : decode cX8_numberNeeded 16 = .ok (.iastore, 1) := by decide +kernel
theorem dX8_numberNeeded_17 : decode cX8_numberNeeded 17 = .ok (.iload_n 1, 1) := by decide +kernel
theorem dX8_numberNeeded_18 : decode cX8_numberNeeded 18 = .ok (.iload_n 3, 1) := by decide +kernel
theorem dX8_numberNeeded_19 : decode cX8_numberNeeded 19 = .ok (.invokestatic 50, 3) := by decide +kernel
theorem dX8_numberNeeded_22 : decode cX8_numberNeeded 22 = .ok (.ifCond .eq 18, 3) := by decide +kernel
theorem dX8_numberNeeded_25 : decode cX8_numberNeeded 25 = .ok (.iload_n 2, 1) := by decide +kernel
theorem dX8_numberNeeded_26 : decode cX8_numberNeeded 26 = .ok (.iconst 5, 1) := by decide +kernel
theorem dX8_numberNeeded_27 : decode cX8_numberNeeded 27 = .ok (.if_icmp .ge 13, 3) := by decide +kernel
theorem dX8_numberNeeded_30 : decode cX8_numberNeeded 30 = .ok (.aload_n 0, 1) := by decide +kernel
theorem dX8_numberNeeded_31 : decode cX8_numberNeeded 31 = .ok (.getfield 9, 3) := by decide +kernel
theorem dX8_numberNeeded_34 : decode cX8_numberNeeded 34 = .ok (.iload_n 3, 1) := by decide +kernel
theorem dX8_numberNeeded_35 : decode cX8_numberNeeded 35 = .ok (.iload_n 2, 1) := by decide +kernel
theorem dX8_numberNeeded_36 : decode cX8_numberNeeded 36 = .ok (.iastore, 1) := by decide +kernel
theorem dX8_numberNeeded_37 : decode cX8_numberNeeded 37 = .ok (.iinc 2 1, 3) := by decide +kernel
theorem dX8_numberNeeded_40 : decode cX8_numberNeeded 40 = .ok (.iinc 3 1, 3) := by decide +kernel
theorem dX8_numberNeeded_43 : decode cX8_numberNeeded 43 = .ok (.goto (-39), 3) := by decide +kernel
theorem dX8_numberNeeded_46 : decode cX8_numberNeeded 46 = .ok (.return_, 1) := by decide +kernel
theorem dX8_fillEndings_0 : decode cX8_fillEndings 0 = .ok (.iconst 0, 1) := by decide +kernel
theorem dX8_fillEndings_1 : decode cX8_fillEndings 1 = .ok (.istore_n 2, 1) := by decide +kernel
theorem dX8_fillEndings_2 : decode cX8_fillEndings 2 = .ok (.iload_n 2, 1) := by decide +kernel
theorem dX8_fillEndings_3 : decode cX8_fillEndings 3 = .ok (.bipush 16, 2) := by decide +kernel
theorem dX8_fillEndings_5 : decode cX8_fillEndings 5 = .ok (.if_icmp .ge 82, 3) := by decide +kernel
theorem dX8_fillEndings_8 : decode cX8_fillEndings 8 = .ok (.iconst 0, 1) := by decide +kernel
theorem dX8_fillEndings_9 : decode cX8_fillEndings 9 = .ok (.istore_n 3, 1) := by decide +kernel
theorem dX8_fillEndings_10 : decode cX8_fillEndings 10 = .ok (.iconst 0, 1) := by decide +kernel
theorem dX8_fillEndings_11 : decode cX8_fillEndings 11 = .ok (.istore 4, 2) := by decide +kernel
theorem dX8_fillEndings_13 : decode cX8_fillEndings 13 = .ok (.iload 4, 2) := by decide +kernel
theorem dX8_fillEndings_15 : decode cX8_fillEndings 15 = .ok (.bipush 10, 2) := by decide +kernel
theorem dX8_fillEndings_17 : decode cX8_fillEndings 17 = .ok (.if_icmp .ge 55, 3) := by decide +kernel
theorem dX8_fillEndings_20 : decode cX8_fillEndings 20 = .ok (.aload_n 0, 1) := by decide +kernel
theorem dX8_fillEndings_21 : decode cX8_fillEndings 21 = .ok (.getfield 20, 3) := by decide +kernel
theorem dX8_fillEndings_24 : decode cX8_fillEndings 24 = .ok (.iload 4, 2) := by decide +kernel
theorem dX8_fillEndings_26 : decode cX8_fillEndings 26 = .ok (.invokestatic 50, 3) := by decide +kernel
theorem dX8_fillEndings_29 : decode cX8_fillEndings 29 = .ok (.ifCond .eq 37, 3) := by decide +kernel
theorem dX8_fillEndings_32 : decode cX8_fillEndings 32 = .ok (.aload_n 0, 1) := by decide +kernel
theorem dX8_fillEndings_33 : decode cX8_fillEndings 33 = .ok (.getfield 24, 3) := by decide +kernel
theorem dX8_fillEndings_36 : decode cX8_fillEndings 36 = .ok (.getfield 54, 3) := by decide +kernel
theorem dX8_fillEndings_39 : decode cX8_fillEndings 39 = .ok (.iload 4, 2) := by decide +kernel
theorem dX8_fillEndings_41 : decode cX8_fillEndings 41 = .ok (.aaload, 1) := by decide +kernel
theorem dX8_fillEndings_42 : decode cX8_fillEndings 42 = .ok (.iload_n 2, 1) := by decide +kernel
theorem dX8_fillEndings_43 : decode cX8_fillEndings 43 = .ok (.iaload, 1) := by decide +kernel
theorem dX8_fillEndings_44 : decode cX8_fillEndings 44 = .ok (.istore 5, 2) := by decide +kernel
theorem dX8_fillEndings_46 : decode cX8_fillEndings 46 = .ok (.iload_n 3, 1) := by decide +kernel
theorem dX8_fillEndings_47 : decode cX8_fillEndings 47 = .ok (.aload_n 0, 1) := by decide +kernel
theorem dX8_fillEndings_48 : decode cX8_fillEndings 48 = .ok (.aload_n 0, 1) := by decide +kernel
theorem dX8_fillEndings_49 : decode cX8_fillEndings 49 = .ok (.getfield 17, 3) := by decide +kernel
theorem dX8_fillEndings_52 : decode cX8_fillEndings 52 = .ok (.iload_n 1, 1) := by decide +kernel
theorem dX8_fillEndings_53 : decode cX8_fillEndings 53 = .ok (.iconst 1, 1) := by decide +kernel
theorem dX8_fillEndings_54 : decode cX8_fillEndings 54 = .ok (.isub, 1) := by decide +kernel
theorem dX8_fillEndings_55 : decode cX8_fillEndings 55 = .ok (.aaload, 1) := by decide +kernel
theorem dX8_fillEndings_56 : decode cX8_fillEndings 56 = .ok (.iload 5, 2) := by decide +kernel
theorem dX8_fillEndings_58 : decode cX8_fillEndings 58 = .ok (.iaload, 1) := by decide +kernel
theorem dX8_fillEndings_59 : decode cX8_fillEndings 59 = .ok (.iload 5, 2) := by decide +kernel
theorem dX8_fillEndings_61 : decode cX8_fillEndings 61 = .ok (.invokevirtual 59, 3) := by decide +kernel
theorem dX8_fillEndings_64 : decode cX8_fillEndings 64 = .ok (.ior, 1) := by decide +kernel
theorem dX8_fillEndings_65 : decode cX8_fillEndings 65 = .ok (.istore_n 3, 1) := by decide +kernel
theorem dX8_fillEndings_66 : decode cX8_fillEndings 66 = .ok (.iinc 4 1, 3) := by decide +kernel
theorem dX8_fillEndings_69 : decode cX8_fillEndings 69 = .ok (.goto (-56), 3) := by decide +kernel
theorem dX8_fillEndings_72 : decode cX8_fillEndings 72 = .ok (.aload_n 0, 1) := by decide +kernel
theorem dX8_fillEndings_73 : decode cX8_fillEndings 73 = .ok (.getfield 17, 3) := by decide +kernel
theorem dX8_fillEndings_76 : decode cX8_fillEndings 76 = .ok (.iload_n 1, 1) := by decide +kernel
theorem dX8_fillEndings_77 : decode cX8_fillEndings 77 = .ok (.aaload, 1) := by decide +kernel
theorem dX8_fillEndings_78 : decode cX8_fillEndings 78 = .ok (.iload_n 2, 1) := by decide +kernel
theorem dX8_fillEndings_79 : decode cX8_fillEndings 79 = .ok (.iload_n 3, 1) := by decide +kernel
theorem dX8_fillEndings_80 : decode cX8_fillEndings 80 = .ok (.iastore, 1) := by decide +kernel
theorem dX8_fillEndings_81 : decode cX8_fillEndings 81 = .ok (.iinc 2 1, 3) := by decide +kernel
theorem dX8_fillEndings_84 : decode cX8_fillEndings 84 = .ok (.goto (-82), 3) := by decide +kernel
theorem dX8_fillEndings_87 : decode cX8_fillEndings 87 = .ok (.return_, 1) := by decide +kernel
theorem dX8_setsAhead_0 : decode cX8_setsAhead 0 = .ok (.aload_n 0, 1) := by decide +kernel
theorem dX8_setsAhead_1 : decode cX8_setsAhead 1 = .ok (.getfield 9, 3) := by decide +kernel
theorem dX8_setsAhead_4 : decode cX8_setsAhead 4 = .ok (.iload_n 2, 1) := by decide +kernel
theorem dX8_setsAhead_5 : decode cX8_setsAhead 5 = .ok (.iaload, 1) := by decide +kernel
theorem dX8_setsAhead_6 : decode cX8_setsAhead 6 = .ok (.istore_n 3, 1) := by decide +kernel
theorem dX8_setsAhead_7 : decode cX8_setsAhead 7 = .ok (.iload_n 3, 1) := by decide +kernel
theorem dX8_setsAhead_8 : decode cX8_setsAhead 8 = .ok (.iconst (-1), 1) := by decide +kernel
theorem dX8_setsAhead_9 : decode cX8_setsAhead 9 = .ok (.if_icmp .ne 5, 3) := by decide +kernel
theorem dX8_setsAhead_12 : decode cX8_setsAhead 12 = .ok (.iload_n 1, 1) := by decide +kernel
theorem dX8_setsAhead_13 : decode cX8_setsAhead 13 = .ok (.ireturn, 1) := by decide +kernel
theorem dX8_setsAhead_14 : decode cX8_setsAhead 14 = .ok (.iload_n 1, 1) := by decide +kernel
theorem dX8_setsAhead_15 : decode cX8_setsAhead 15 = .ok (.getstatic 63, 3) := by decide +kernel
theorem dX8_setsAhead_18 : decode cX8_setsAhead 18 = .ok (.iload_n 3, 1) := by decide +kernel
theorem dX8_setsAhead_19 : decode cX8_setsAhead 19 = .ok (.iaload, 1) := by decide +kernel
theorem dX8_setsAhead_20 : decode cX8_setsAhead 20 = .ok (.iand, 1) := by decide +kernel
theorem dX8_setsAhead_21 : decode cX8_setsAhead 21 = .ok (.istore 4, 2) := by decide +kernel
theorem dX8_setsAhead_23 : decode cX8_setsAhead 23 = .ok (.iload 4, 2) := by decide +kernel
theorem dX8_setsAhead_25 : decode cX8_setsAhead 25 = .ok (.iload 4, 2) := by decide +kernel
theorem dX8_setsAhead_27 : decode cX8_setsAhead 27 = .ok (.iconst 1, 1) := by decide +kernel
theorem dX8_setsAhead_28 : decode cX8_setsAhead 28 = .ok (.iload_n 3, 1) := by decide +kernel
theorem dX8_setsAhead_29 : decode cX8_setsAhead 29 = .ok (.ishl, 1) := by decide +kernel
theorem dX8_setsAhead_30 : decode cX8_setsAhead 30 = .ok (.iushr, 1) := by decide +kernel
theorem dX8_setsAhead_31 : decode cX8_setsAhead 31 = .ok (.ior, 1) := by decide +kernel
theorem dX8_setsAhead_32 : decode cX8_setsAhead 32 = .ok (.ireturn, 1) := by decide +kernel
theorem dX8_writeRow_0 : decode cX8_writeRow 0 = .ok (.iconst 0, 1) := by decide +kernel
theorem dX8_writeRow_1 : decode cX8_writeRow 1 = .ok (.istore_n 3, 1) := by decide +kernel
theorem dX8_writeRow_2 : decode cX8_writeRow 2 = .ok (.iconst 0, 1) := by decide +kernel
theorem dX8_writeRow_3 : decode cX8_writeRow 3 = .ok (.istore 4, 2) := by decide +kernel
theorem dX8_writeRow_5 : decode cX8_writeRow 5 = .ok (.aload_n 2, 1) := by decide +kernel
theorem dX8_writeRow_6 : decode cX8_writeRow 6 = .ok (.iload_n 1, 1) := by decide +kernel
theorem dX8_writeRow_7 : decode cX8_writeRow 7 = .ok (.putfield 66, 3) := by decide +kernel
theorem dX8_writeRow_10 : decode cX8_writeRow 10 = .ok (.iconst 0, 1) := by decide +kernel
theorem dX8_writeRow_11 : decode cX8_writeRow 11 = .ok (.istore 5, 2) := by decide +kernel
theorem dX8_writeRow_13 : decode cX8_writeRow 13 = .ok (.iload 5, 2) := by decide +kernel
theorem dX8_writeRow_15 : decode cX8_writeRow 15 = .ok (.iload_n 1, 1) := by decide +kernel
theorem dX8_writeRow_16 : decode cX8_writeRow 16 = .ok (.if_icmp .ge 55, 3) := by decide +kernel
theorem dX8_writeRow_19 : decode cX8_writeRow 19 = .ok (.aload_n 0, 1) := by decide +kernel
theorem dX8_writeRow_20 : decode cX8_writeRow 20 = .ok (.iload_n 3, 1) := by decide +kernel
theorem dX8_writeRow_21 : decode cX8_writeRow 21 = .ok (.iload 4, 2) := by decide +kernel
theorem dX8_writeRow_23 : decode cX8_writeRow 23 = .ok (.iload_n 1, 1) := by decide +kernel
theorem dX8_writeRow_24 : decode cX8_writeRow 24 = .ok (.iload 5, 2) := by decide +kernel
theorem dX8_writeRow_26 : decode cX8_writeRow 26 = .ok (.isub, 1) := by decide +kernel
theorem dX8_writeRow_27 : decode cX8_writeRow 27 = .ok (.iconst 1, 1) := by decide +kernel
theorem dX8_writeRow_28 : decode cX8_writeRow 28 = .ok (.isub, 1) := by decide +kernel
theorem dX8_writeRow_29 : decode cX8_writeRow 29 = .ok (.invokevirtual 71, 3) := by decide +kernel
theorem dX8_writeRow_32 : decode cX8_writeRow 32 = .ok (.istore 6, 2) := by decide +kernel
theorem dX8_writeRow_34 : decode cX8_writeRow 34 = .ok (.aload_n 2, 1) := by decide +kernel
theorem dX8_writeRow_35 : decode cX8_writeRow 35 = .ok (.getfield 75, 3) := by decide +kernel
theorem dX8_writeRow_38 : decode cX8_writeRow 38 = .ok (.iload 5, 2) := by decide +kernel
theorem dX8_writeRow_40 : decode cX8_writeRow 40 = .ok (.iload 6, 2) := by decide +kernel
theorem dX8_writeRow_42 : decode cX8_writeRow 42 = .ok (.iastore, 1) := by decide +kernel
theorem dX8_writeRow_43 : decode cX8_writeRow 43 = .ok (.aload_n 0, 1) := by decide +kernel
theorem dX8_writeRow_44 : decode cX8_writeRow 44 = .ok (.getfield 24, 3) := by decide +kernel
theorem dX8_writeRow_47 : decode cX8_writeRow 47 = .ok (.getfield 54, 3) := by decide +kernel
theorem dX8_writeRow_50 : decode cX8_writeRow 50 = .ok (.iload 6, 2) := by decide +kernel
theorem dX8_writeRow_52 : decode cX8_writeRow 52 = .ok (.aaload, 1) := by decide +kernel
theorem dX8_writeRow_53 : decode cX8_writeRow 53 = .ok (.iload_n 3, 1) := by decide +kernel
theorem dX8_writeRow_54 : decode cX8_writeRow 54 = .ok (.iaload, 1) := by decide +kernel
theorem dX8_writeRow_55 : decode cX8_writeRow 55 = .ok (.istore_n 3, 1) := by decide +kernel
theorem dX8_writeRow_56 : decode cX8_writeRow 56 = .ok (.aload_n 0, 1) := by decide +kernel
theorem dX8_writeRow_57 : decode cX8_writeRow 57 = .ok (.iload 4, 2) := by decide +kernel
theorem dX8_writeRow_59 : decode cX8_writeRow 59 = .ok (.iload_n 3, 1) := by decide +kernel
theorem dX8_writeRow_60 : decode cX8_writeRow 60 = .ok (.invokevirtual 78, 3) := by decide +kernel
theorem dX8_writeRow_63 : decode cX8_writeRow 63 = .ok (.istore 4, 2) := by decide +kernel
theorem dX8_writeRow_65 : decode cX8_writeRow 65 = .ok (.iinc 5 1, 3) := by decide +kernel
theorem dX8_writeRow_68 : decode cX8_writeRow 68 = .ok (.goto (-55), 3) := by decide +kernel
theorem dX8_writeRow_71 : decode cX8_writeRow 71 = .ok (.return_, 1) := by decide +kernel
theorem dX8_firstInk_0 : decode cX8_firstInk 0 = .ok (.iconst 0, 1) := by decide +kernel
theorem dX8_firstInk_1 : decode cX8_firstInk 1 = .ok (.istore 4, 2) := by decide +kernel
theorem dX8_firstInk_3 : decode cX8_firstInk 3 = .ok (.iload 4, 2) := by decide +kernel
theorem dX8_firstInk_5 : decode cX8_firstInk 5 = .ok (.bipush 10, 2) := by decide +kernel
theorem dX8_firstInk_7 : decode cX8_firstInk 7 = .ok (.if_icmp .ge 60, 3) := by decide +kernel
theorem dX8_firstInk_10 : decode cX8_firstInk 10 = .ok (.aload_n 0, 1) := by decide +kernel
theorem dX8_firstInk_11 : decode cX8_firstInk 11 = .ok (.getfield 24, 3) := by decide +kernel
theorem dX8_firstInk_14 : decode cX8_firstInk 14 = .ok (.getfield 54, 3) := by decide +kernel
theorem dX8_firstInk_17 : decode cX8_firstInk 17 = .ok (.iload 4, 2) := by decide +kernel
theorem dX8_firstInk_19 : decode cX8_firstInk 19 = .ok (.aaload, 1) := by decide +kernel
theorem dX8_firstInk_20 : decode cX8_firstInk 20 = .ok (.iload_n 1, 1) := by decide +kernel
theorem dX8_firstInk_21 : decode cX8_firstInk 21 = .ok (.iaload, 1) := by decide +kernel
theorem dX8_firstInk_22 : decode cX8_firstInk 22 = .ok (.istore 5, 2) := by decide +kernel
theorem dX8_firstInk_24 : decode cX8_firstInk 24 = .ok (.aload_n 0, 1) := by decide +kernel
theorem dX8_firstInk_25 : decode cX8_firstInk 25 = .ok (.getfield 20, 3) := by decide +kernel
theorem dX8_firstInk_28 : decode cX8_firstInk 28 = .ok (.iload 4, 2) := by decide +kernel
theorem dX8_firstInk_30 : decode cX8_firstInk 30 = .ok (.invokestatic 50, 3) := by decide +kernel
theorem dX8_firstInk_33 : decode cX8_firstInk 33 = .ok (.ifCond .eq 28, 3) := by decide +kernel
theorem dX8_firstInk_36 : decode cX8_firstInk 36 = .ok (.aload_n 0, 1) := by decide +kernel
theorem dX8_firstInk_37 : decode cX8_firstInk 37 = .ok (.getfield 17, 3) := by decide +kernel
theorem dX8_firstInk_40 : decode cX8_firstInk 40 = .ok (.iload_n 3, 1) := by decide +kernel
theorem dX8_firstInk_41 : decode cX8_firstInk 41 = .ok (.aaload, 1) := by decide +kernel
theorem dX8_firstInk_42 : decode cX8_firstInk 42 = .ok (.iload 5, 2) := by decide +kernel
theorem dX8_firstInk_44 : decode cX8_firstInk 44 = .ok (.iaload, 1) := by decide +kernel
theorem dX8_firstInk_45 : decode cX8_firstInk 45 = .ok (.aload_n 0, 1) := by decide +kernel
theorem dX8_firstInk_46 : decode cX8_firstInk 46 = .ok (.iload_n 2, 1) := by decide +kernel
theorem dX8_firstInk_47 : decode cX8_firstInk 47 = .ok (.iload 5, 2) := by decide +kernel
theorem dX8_firstInk_49 : decode cX8_firstInk 49 = .ok (.invokevirtual 78, 3) := by decide +kernel
theorem dX8_firstInk_52 : decode cX8_firstInk 52 = .ok (.invokestatic 50, 3) := by decide +kernel
theorem dX8_firstInk_55 : decode cX8_firstInk 55 = .ok (.ifCond .eq 6, 3) := by decide +kernel
theorem dX8_firstInk_58 : decode cX8_firstInk 58 = .ok (.iload 4, 2) := by decide +kernel
theorem dX8_firstInk_60 : decode cX8_firstInk 60 = .ok (.ireturn, 1) := by decide +kernel
theorem dX8_firstInk_61 : decode cX8_firstInk 61 = .ok (.iinc 4 1, 3) := by decide +kernel
theorem dX8_firstInk_64 : decode cX8_firstInk 64 = .ok (.goto (-61), 3) := by decide +kernel
theorem dX8_firstInk_67 : decode cX8_firstInk 67 = .ok (.iconst 0, 1) := by decide +kernel
theorem dX8_firstInk_68 : decode cX8_firstInk 68 = .ok (.ireturn, 1) := by decide +kernel
theorem dX8_setWith_0 : decode cX8_setWith 0 = .ok (.aload_n 0, 1) := by decide +kernel
theorem dX8_setWith_1 : decode cX8_setWith 1 = .ok (.getfield 9, 3) := by decide +kernel
theorem dX8_setWith_4 : decode cX8_setWith 4 = .ok (.iload_n 2, 1) := by decide +kernel
theorem dX8_setWith_5 : decode cX8_setWith 5 = .ok (.iaload, 1) := by decide +kernel
theorem dX8_setWith_6 : decode cX8_setWith 6 = .ok (.iconst (-1), 1) := by decide +kernel
theorem dX8_setWith_7 : decode cX8_setWith 7 = .ok (.if_icmp .ne 7, 3) := by decide +kernel
theorem dX8_setWith_10 : decode cX8_setWith 10 = .ok (.iload_n 1, 1) := by decide +kernel
theorem dX8_setWith_11 : decode cX8_setWith 11 = .ok (.goto 13, 3) := by decide +kernel
theorem dX8_setWith_14 : decode cX8_setWith 14 = .ok (.iload_n 1, 1) := by decide +kernel
theorem dX8_setWith_15 : decode cX8_setWith 15 = .ok (.iconst 1, 1) := by decide +kernel
theorem dX8_setWith_16 : decode cX8_setWith 16 = .ok (.aload_n 0, 1) := by decide +kernel
theorem dX8_setWith_17 : decode cX8_setWith 17 = .ok (.getfield 9, 3) := by decide +kernel
theorem dX8_setWith_20 : decode cX8_setWith 20 = .ok (.iload_n 2, 1) := by decide +kernel
theorem dX8_setWith_21 : decode cX8_setWith 21 = .ok (.iaload, 1) := by decide +kernel
theorem dX8_setWith_22 : decode cX8_setWith 22 = .ok (.ishl, 1) := by decide +kernel
theorem dX8_setWith_23 : decode cX8_setWith 23 = .ok (.ior, 1) := by decide +kernel
theorem dX8_setWith_24 : decode cX8_setWith 24 = .ok (.ireturn, 1) := by decide +kernel
theorem dX9_init_0 : decode cX9_init 0 = .ok (.aload_n 0, 1) := by decide +kernel
theorem dX9_init_1 : decode cX9_init 1 = .ok (.invokespecial 3, 3) := by decide +kernel
theorem dX9_init_4 : decode cX9_init 4 = .ok (.aload_n 0, 1) := by decide +kernel
theorem dX9_init_5 : decode cX9_init 5 = .ok (.bipush 64, 2) := by decide +kernel
theorem dX9_init_7 : decode cX9_init 7 = .ok (.newarray .int, 2) := by decide +kernel
theorem dX9_init_9 : decode cX9_init 9 = .ok (.putfield 9, 3) := by decide +kernel
theorem dX9_init_12 : decode cX9_init 12 = .ok (.aload_n 0, 1) := by decide +kernel
theorem dX9_init_13 : decode cX9_init 13 = .ok (.bipush 64, 2) := by decide +kernel
theorem dX9_init_15 : decode cX9_init 15 = .ok (.newarray .int, 2) := by decide +kernel
theorem dX9_init_17 : decode cX9_init 17 = .ok (.putfield 15, 3) := by decide +kernel
theorem dX9_init_20 : decode cX9_init 20 = .ok (.aload_n 0, 1) := by decide +kernel
theorem dX9_init_21 : decode cX9_init 21 = .ok (.bipush 64, 2) := by decide +kernel
theorem dX9_init_23 : decode cX9_init 23 = .ok (.newarray .int, 2) := by decide +kernel
theorem dX9_init_25 : decode cX9_init 25 = .ok (.putfield 18, 3) := by decide +kernel
theorem dX9_init_28 : decode cX9_init 28 = .ok (.aload_n 0, 1) := by decide +kernel
theorem dX9_init_29 : decode cX9_init 29 = .ok (.bipush 64, 2) := by decide +kernel
theorem dX9_init_31 : decode cX9_init 31 = .ok (.newarray .int, 2) := by decide +kernel
theorem dX9_init_33 : decode cX9_init 33 = .ok (.putfield 21, 3) := by decide +kernel
theorem dX9_init_36 : decode cX9_init 36 = .ok (.aload_n 0, 1) := by decide +kernel
theorem dX9_init_37 : decode cX9_init 37 = .ok (.bipush 64, 2) := by decide +kernel
theorem dX9_init_39 : decode cX9_init 39 = .ok (.newarray .int, 2) := by decide +kernel
theorem dX9_init_41 : decode cX9_init 41 = .ok (.putfield 24, 3) := by decide +kernel
theorem dX9_init_44 : decode cX9_init 44 = .ok (.aload_n 0, 1) := by decide +kernel
theorem dX9_init_45 : decode cX9_init 45 = .ok (.iconst 1, 1) := by decide +kernel
theorem dX9_init_46 : decode cX9_init 46 = .ok (.putfield 27, 3) := by decide +kernel
theorem dX9_init_49 : decode cX9_init 49 = .ok (.aload_n 0, 1) := by decide +kernel
theorem dX9_init_50 : decode cX9_init 50 = .ok (.getfield 18, 3) := by decide +kernel
theorem dX9_init_53 : decode cX9_init 53 = .ok (.iconst (-1), 1) := by decide +kernel
theorem dX9_init_54 : decode cX9_init 54 = .ok (.invokestatic 31, 3) := by decide +kernel
theorem dX9_init_57 : decode cX9_init 57 = .ok (.return_, 1) := by decide +kernel
theorem dX9_take_0 : decode cX9_take 0 = .ok (.iload 4, 2) := by decide +kernel
theorem dX9_take_2 : decode cX9_take 2 = .ok (.aload_n 0, 1) := by decide +kernel
theorem dX9_take_3 : decode cX9_take 3 = .ok (.getfield 24, 3) := by decide +kernel
theorem dX9_take_6 : decode cX9_take 6 = .ok (.iload_n 2, 1) := by decide +kernel
theorem dX9_take_7 : decode cX9_take 7 = .ok (.iaload, 1) := by decide +kernel
theorem dX9_take_8 : decode cX9_take 8 = .ok (.if_icmp .ge 25, 3) := by decide +kernel
theorem dX9_take_11 : decode cX9_take 11 = .ok (.aload_n 3, 1) := by decide +kernel
theorem dX9_take_12 : decode cX9_take 12 = .ok (.getfield 37, 3) := by decide +kernel
theorem dX9_take_15 : decode cX9_take 15 = .ok (.aload_n 0, 1) := by decide +kernel
theorem dX9_take_16 : decode cX9_take 16 = .ok (.getfield 15, 3) := by decide +kernel
theorem dX9_take_19 : decode cX9_take 19 = .ok (.iload_n 2, 1) := by decide +kernel
theorem dX9_take_20 : decode cX9_take 20 = .ok (.iaload, 1) := by decide +kernel
theorem dX9_take_21 : decode cX9_take 21 = .ok (.aaload, 1) := by decide +kernel
theorem dX9_take_22 : decode cX9_take 22 = .ok (.iload_n 1, 1) := by decide +kernel
theorem dX9_take_23 : decode cX9_take 23 = .ok (.iaload, 1) := by decide +kernel
theorem dX9_take_24 : decode cX9_take 24 = .ok (.iconst 1, 1) := by decide +kernel
theorem dX9_take_25 : decode cX9_take 25 = .ok (.if_icmp .ne 8, 3) := by decide +kernel
theorem dX9_take_28 : decode cX9_take 28 = .ok (.aload_n 0, 1) := by decide +kernel
theorem dX9_take_29 : decode cX9_take 29 = .ok (.iconst 0, 1) := by decide +kernel
theorem dX9_take_30 : decode cX9_take 30 = .ok (.putfield 27, 3) := by decide +kernel
theorem dX9_take_33 : decode cX9_take 33 = .ok (.aload_n 0, 1) := by decide +kernel
theorem dX9_take_34 : decode cX9_take 34 = .ok (.getfield 9, 3) := by decide +kernel
theorem dX9_take_37 : decode cX9_take 37 = .ok (.iload_n 2, 1) := by decide +kernel
theorem dX9_take_38 : decode cX9_take 38 = .ok (.aload_n 3, 1) := by decide +kernel
theorem dX9_take_39 : decode cX9_take 39 = .ok (.getfield 43, 3) := by decide +kernel
theorem dX9_take_42 : decode cX9_take 42 = .ok (.iload_n 1, 1) := by decide +kernel
theorem dX9_take_43 : decode cX9_take 43 = .ok (.aaload, 1) := by decide +kernel
theorem dX9_take_44 : decode cX9_take 44 = .ok (.aload_n 0, 1) := by decide +kernel
theorem dX9_take_45 : decode cX9_take 45 = .ok (.getfield 9, 3) := by decide +kernel
theorem dX9_take_48 : decode cX9_take 48 = .ok (.iload_n 2, 1) := by decide +kernel
theorem dX9_take_49 : decode cX9_take 49 = .ok (.iaload, 1) := by decide +kernel
theorem dX9_take_50 : decode cX9_take 50 = .ok (.iaload, 1) := by decide +kernel
theorem dX9_take_51 : decode cX9_take 51 = .ok (.iastore, 1) := by decide +kernel
theorem dX9_take_52 : decode cX9_take 52 = .ok (.aload_n 0, 1) := by decide +kernel
theorem dX9_take_53 : decode cX9_take 53 = .ok (.getfield 15, 3) := by decide +kernel
theorem dX9_take_56 : decode cX9_take 56 = .ok (.iload_n 2, 1) := by decide +kernel
theorem dX9_take_57 : decode cX9_take 57 = .ok (.iload_n 1, 1) := by decide +kernel
theorem dX9_take_58 : decode cX9_take 58 = .ok (.iastore, 1) := by decide +kernel
theorem dX9_take_59 : decode cX9_take 59 = .ok (.aload_n 0, 1) := by decide +kernel
theorem dX9_take_60 : decode cX9_take 60 = .ok (.getfield 24, 3) := by decide +kernel
theorem dX9_take_63 : decode cX9_take 63 = .ok (.iload_n 2, 1) := by decide +kernel
theorem dX9_take_64 : decode cX9_take 64 = .ok (.iload 4, 2) := by decide +kernel
theorem dX9_take_66 : decode cX9_take 66 = .ok (.aload_n 3, 1) := by decide +kernel
theorem dX9_take_67 : decode cX9_take 67 = .ok (.getfield 46, 3) := by decide +kernel
theorem dX9_take_70 : decode cX9_take 70 = .ok (.iload_n 1, 1) := by decide +kernel
theorem dX9_take_71 : decode cX9_take 71 = .ok (.iaload, 1) := by decide +kernel
theorem dX9_take_72 : decode cX9_take 72 = .ok (.iadd, 1) := by decide +kernel
theorem dX9_take_73 : decode cX9_take 73 = .ok (.iastore, 1) := by decide +kernel
theorem dX9_take_74 : decode cX9_take 74 = .ok (.aload_n 0, 1) := by decide +kernel
theorem dX9_take_75 : decode cX9_take 75 = .ok (.getfield 21, 3) := by decide +kernel
theorem dX9_take_78 : decode cX9_take 78 = .ok (.iload_n 2, 1) := by decide +kernel
theorem dX9_take_79 : decode cX9_take 79 = .ok (.dup2, 1) := by decide +kernel
theorem dX9_take_80 : decode cX9_take 80 = .ok (.iaload, 1) := by decide +kernel
theorem dX9_take_81 : decode cX9_take 81 = .ok (.iconst 1, 1) := by decide +kernel
theorem dX9_take_82 : decode cX9_take 82 = .ok (.iadd, 1) := by decide +kernel
theorem dX9_take_83 : decode cX9_take 83 = .ok (.iastore, 1) := by decide +kernel
theorem dX9_take_84 : decode cX9_take 84 = .ok (.return_, 1) := by decide +kernel
theorem dX9_dryFor_0 : decode cX9_dryFor 0 = .ok (.iconst 0, 1) := by decide +kernel
theorem dX9_dryFor_1 : decode cX9_dryFor 1 = .ok (.istore 4, 2) := by decide +kernel
theorem dX9_dryFor_3 : decode cX9_dryFor 3 = .ok (.iconst 0, 1) := by decide +kernel
theorem dX9_dryFor_4 : decode cX9_dryFor 4 = .ok (.istore 5, 2) := by decide +kernel
theorem dX9_dryFor_6 : decode cX9_dryFor 6 = .ok (.aload_n 0, 1) := by decide +kernel
theorem dX9_dryFor_7 : decode cX9_dryFor 7 = .ok (.getfield 27, 3) := by decide +kernel
theorem dX9_dryFor_10 : decode cX9_dryFor 10 = .ok (.ifCond .eq 57, 3) := by decide +kernel
theorem dX9_dryFor_13 : decode cX9_dryFor 13 = .ok (.iload 5, 2) := by decide +kernel
theorem dX9_dryFor_15 : decode cX9_dryFor 15 = .ok (.bipush 64, 2) := by decide +kernel
theorem dX9_dryFor_17 : decode cX9_dryFor 17 = .ok (.if_icmp .ge 50, 3) := by decide +kernel
theorem dX9_dryFor_20 : decode cX9_dryFor 20 = .ok (.aload_n 2, 1) := by decide +kernel
theorem dX9_dryFor_21 : decode cX9_dryFor 21 = .ok (.iload 5, 2) := by decide +kernel
theorem dX9_dryFor_23 : decode cX9_dryFor 23 = .ok (.invokevirtual 49, 3) := by decide +kernel
theorem dX9_dryFor_26 : decode cX9_dryFor 26 = .ok (.ifCond .eq 35, 3) := by decide +kernel
theorem dX9_dryFor_29 : decode cX9_dryFor 29 = .ok (.aload_n 3, 1) := by decide +kernel
theorem dX9_dryFor_30 : decode cX9_dryFor 30 = .ok (.getfield 37, 3) := by decide +kernel
theorem dX9_dryFor_33 : decode cX9_dryFor 33 = .ok (.aload_n 0, 1) := by decide +kernel
theorem dX9_dryFor_34 : decode cX9_dryFor 34 = .ok (.getfield 15, 3) := by decide +kernel
theorem dX9_dryFor_37 : decode cX9_dryFor 37 = .ok (.iload 5, 2) := by decide +kernel
theorem dX9_dryFor_39 : decode cX9_dryFor 39 = .ok (.iaload, 1) := by decide +kernel
theorem dX9_dryFor_40 : decode cX9_dryFor 40 = .ok (.aaload, 1) := by decide +kernel
theorem dX9_dryFor_41 : decode cX9_dryFor 41 = .ok (.iload_n 1, 1) := by decide +kernel
theorem dX9_dryFor_42 : decode cX9_dryFor 42 = .ok (.iaload, 1) := by decide +kernel
theorem dX9_dryFor_43 : decode cX9_dryFor 43 = .ok (.iconst 1, 1) := by decide +kernel
theorem dX9_dryFor_44 : decode cX9_dryFor 44 = .ok (.if_icmp .ne 17, 3) := by decide +kernel
theorem dX9_dryFor_47 : decode cX9_dryFor 47 = .ok (.iload 4, 2) := by decide +kernel
theorem dX9_dryFor_49 : decode cX9_dryFor 49 = .ok (.aload_n 0, 1) := by decide +kernel
theorem dX9_dryFor_50 : decode cX9_dryFor 50 = .ok (.getfield 24, 3) := by decide +kernel
theorem dX9_dryFor_53 : decode cX9_dryFor 53 = .ok (.iload 5, 2) := by decide +kernel
theorem dX9_dryFor_55 : decode cX9_dryFor 55 = .ok (.iaload, 1) := by decide +kernel
theorem dX9_dryFor_56 : decode cX9_dryFor 56 = .ok (.invokestatic 55, 3) := by decide +kernel
theorem dX9_dryFor_59 : decode cX9_dryFor 59 = .ok (.istore 4, 2) := by decide +kernel
theorem dX9_dryFor_61 : decode cX9_dryFor 61 = .ok (.iinc 5 1, 3) := by decide +kernel
theorem dX9_dryFor_64 : decode cX9_dryFor 64 = .ok (.goto (-58), 3) := by decide +kernel
theorem dX9_dryFor_67 : decode cX9_dryFor 67 = .ok (.iload 4, 2) := by decide +kernel
theorem dX9_dryFor_69 : decode cX9_dryFor 69 = .ok (.ireturn, 1) := by decide +kernel
theorem dJ6_bitCount_0f7a4_0 : decode cJ6_bitCount_0f7a4 0 = .ok (.iload_n 0, 1) := by decide +kernel
theorem dJ6_bitCount_0f7a4_1 : decode cJ6_bitCount_0f7a4 1 = .ok (.iload_n 0, 1) := by decide +kernel
theorem dJ6_bitCount_0f7a4_2 : decode cJ6_bitCount_0f7a4 2 = .ok (.iconst 1, 1) := by decide +kernel
theorem dJ6_bitCount_0f7a4_3 : decode cJ6_bitCount_0f7a4 3 = .ok (.iushr, 1) := by decide +kernel
theorem dJ6_bitCount_0f7a4_4 : decode cJ6_bitCount_0f7a4 4 = .ok (.ldc_w 265, 3) := by decide +kernel
theorem dJ6_bitCount_0f7a4_7 : decode cJ6_bitCount_0f7a4 7 = .ok (.iand, 1) := by decide +kernel
theorem dJ6_bitCount_0f7a4_8 : decode cJ6_bitCount_0f7a4 8 = .ok (.isub, 1) := by decide +kernel
theorem dJ6_bitCount_0f7a4_9 : decode cJ6_bitCount_0f7a4 9 = .ok (.istore_n 0, 1) := by decide +kernel
theorem dJ6_bitCount_0f7a4_10 : decode cJ6_bitCount_0f7a4 10 = .ok (.iload_n 0, 1) := by decide +kernel
theorem dJ6_bitCount_0f7a4_11 : decode cJ6_bitCount_0f7a4 11 = .ok (.ldc_w 266, 3) := by decide +kernel
theorem dJ6_bitCount_0f7a4_14 : decode cJ6_bitCount_0f7a4 14 = .ok (.iand, 1) := by decide +kernel
theorem dJ6_bitCount_0f7a4_15 : decode cJ6_bitCount_0f7a4 15 = .ok (.iload_n 0, 1) := by decide +kernel
theorem dJ6_bitCount_0f7a4_16 : decode cJ6_bitCount_0f7a4 16 = .ok (.iconst 2, 1) := by decide +kernel
theorem dJ6_bitCount_0f7a4_17 : decode cJ6_bitCount_0f7a4 17 = .ok (.iushr, 1) := by decide +kernel
theorem dJ6_bitCount_0f7a4_18 : decode cJ6_bitCount_0f7a4 18 = .ok (.ldc_w 266, 3) := by decide +kernel
theorem dJ6_bitCount_0f7a4_21 : decode cJ6_bitCount_0f7a4 21 = .ok (.iand, 1) := by decide +kernel
theorem dJ6_bitCount_0f7a4_22 : decode cJ6_bitCount_0f7a4 22 = .ok (.iadd, 1) := by decide +kernel
theorem dJ6_bitCount_0f7a4_23 : decode cJ6_bitCount_0f7a4 23 = .ok (.istore_n 0, 1) := by decide +kernel
theorem dJ6_bitCount_0f7a4_24 : decode cJ6_bitCount_0f7a4 24 = .ok (.iload_n 0, 1) := by decide +kernel
theorem dJ6_bitCount_0f7a4_25 : decode cJ6_bitCount_0f7a4 25 = .ok (.iload_n 0, 1) := by decide +kernel
theorem dJ6_bitCount_0f7a4_26 : decode cJ6_bitCount_0f7a4 26 = .ok (.iconst 4, 1) := by decide +kernel
theorem dJ6_bitCount_0f7a4_27 : decode cJ6_bitCount_0f7a4 27 = .ok (.iushr, 1) := by decide +kernel
theorem dJ6_bitCount_0f7a4_28 : decode cJ6_bitCount_0f7a4 28 = .ok (.iadd, 1) := by decide +kernel
theorem dJ6_bitCount_0f7a4_29 : decode cJ6_bitCount_0f7a4 29 = .ok (.ldc_w 267, 3) := by decide +kernel
theorem dJ6_bitCount_0f7a4_32 : decode cJ6_bitCount_0f7a4 32 = .ok (.iand, 1) := by decide +kernel
theorem dJ6_bitCount_0f7a4_33 : decode cJ6_bitCount_0f7a4 33 = .ok (.istore_n 0, 1) := by decide +kernel
theorem dJ6_bitCount_0f7a4_34 : decode cJ6_bitCount_0f7a4 34 = .ok (.iload_n 0, 1) := by decide +kernel
theorem dJ6_bitCount_0f7a4_35 : decode cJ6_bitCount_0f7a4 35 = .ok (.iload_n 0, 1) := by decide +kernel
theorem dJ6_bitCount_0f7a4_36 : decode cJ6_bitCount_0f7a4 36 = .ok (.bipush 8, 2) := by decide +kernel
theorem dJ6_bitCount_0f7a4_38 : decode cJ6_bitCount_0f7a4 38 = .ok (.iushr, 1) := by decide +kernel
theorem dJ6_bitCount_0f7a4_39 : decode cJ6_bitCount_0f7a4 39 = .ok (.iadd, 1) := by decide +kernel
theorem dJ6_bitCount_0f7a4_40 : decode cJ6_bitCount_0f7a4 40 = .ok (.istore_n 0, 1) := by decide +kernel
theorem dJ6_bitCount_0f7a4_41 : decode cJ6_bitCount_0f7a4 41 = .ok (.iload_n 0, 1) := by decide +kernel
theorem dJ6_bitCount_0f7a4_42 : decode cJ6_bitCount_0f7a4 42 = .ok (.iload_n 0, 1) := by decide +kernel
theorem dJ6_bitCount_0f7a4_43 : decode cJ6_bitCount_0f7a4 43 = .ok (.bipush 16, 2) := by decide +kernel
theorem dJ6_bitCount_0f7a4_45 : decode cJ6_bitCount_0f7a4 45 = .ok (.iushr, 1) := by decide +kernel
theorem dJ6_bitCount_0f7a4_46 : decode cJ6_bitCount_0f7a4 46 = .ok (.iadd, 1) := by decide +kernel
theorem dJ6_bitCount_0f7a4_47 : decode cJ6_bitCount_0f7a4 47 = .ok (.istore_n 0, 1) := by decide +kernel
theorem dJ6_bitCount_0f7a4_48 : decode cJ6_bitCount_0f7a4 48 = .ok (.iload_n 0, 1) := by decide +kernel
theorem dJ6_bitCount_0f7a4_49 : decode cJ6_bitCount_0f7a4 49 = .ok (.bipush 63, 2) := by decide +kernel
theorem dJ6_bitCount_0f7a4_51 : decode cJ6_bitCount_0f7a4 51 = .ok (.iand, 1) := by decide +kernel
theorem dJ6_bitCount_0f7a4_52 : decode cJ6_bitCount_0f7a4 52 = .ok (.ireturn, 1) := by decide +kernel
theorem dJ9_floorDiv_7cf53_0 : decode cJ9_floorDiv_7cf53 0 = .ok (.iload_n 0, 1) := by decide +kernel
theorem dJ9_floorDiv_7cf53_1 : decode cJ9_floorDiv_7cf53 1 = .ok (.iload_n 1, 1) := by decide +kernel
theorem dJ9_floorDiv_7cf53_2 : decode cJ9_floorDiv_7cf53 2 = .ok (.idiv, 1) := by decide +kernel
theorem dJ9_floorDiv_7cf53_3 : decode cJ9_floorDiv_7cf53 3 = .ok (.istore_n 2, 1) := by decide +kernel
theorem dJ9_floorDiv_7cf53_4 : decode cJ9_floorDiv_7cf53 4 = .ok (.iload_n 0, 1) := by decide +kernel
theorem dJ9_floorDiv_7cf53_5 : decode cJ9_floorDiv_7cf53 5 = .ok (.iload_n 1, 1) := by decide +kernel
theorem dJ9_floorDiv_7cf53_6 : decode cJ9_floorDiv_7cf53 6 = .ok (.ixor, 1) := by decide +kernel
theorem dJ9_floorDiv_7cf53_7 : decode cJ9_floorDiv_7cf53 7 = .ok (.ifCond .ge 14, 3) := by decide +kernel
theorem dJ9_floorDiv_7cf53_10 : decode cJ9_floorDiv_7cf53 10 = .ok (.iload_n 2, 1) := by decide +kernel
theorem dJ9_floorDiv_7cf53_11 : decode cJ9_floorDiv_7cf53 11 = .ok (.iload_n 1, 1) := by decide +kernel
theorem dJ9_floorDiv_7cf53_12 : decode cJ9_floorDiv_7cf53 12 = .ok (.imul, 1) := by decide +kernel
theorem dJ9_floorDiv_7cf53_13 : decode cJ9_floorDiv_7cf53 13 = .ok (.iload_n 0, 1) := by decide +kernel
theorem dJ9_floorDiv_7cf53_14 : decode cJ9_floorDiv_7cf53 14 = .ok (.if_icmp .eq 7, 3) := by decide +kernel
theorem dJ9_floorDiv_7cf53_17 : decode cJ9_floorDiv_7cf53 17 = .ok (.iload_n 2, 1) := by decide +kernel
theorem dJ9_floorDiv_7cf53_18 : decode cJ9_floorDiv_7cf53 18 = .ok (.iconst 1, 1) := by decide +kernel
theorem dJ9_floorDiv_7cf53_19 : decode cJ9_floorDiv_7cf53 19 = .ok (.isub, 1) := by decide +kernel
theorem dJ9_floorDiv_7cf53_20 : decode cJ9_floorDiv_7cf53 20 = .ok (.ireturn, 1) := by decide +kernel
theorem dJ9_floorDiv_7cf53_21 : decode cJ9_floorDiv_7cf53 21 = .ok (.iload_n 2, 1) := by decide +kernel
theorem dJ9_floorDiv_7cf53_22 : decode cJ9_floorDiv_7cf53 22 = .ok (.ireturn, 1) := by decide +kernel
theorem dJ9_floorMod_7cf53_0 : decode cJ9_floorMod_7cf53 0 = .ok (.iload_n 0, 1) := by decide +kernel
theorem dJ9_floorMod_7cf53_1 : decode cJ9_floorMod_7cf53 1 = .ok (.iload_n 1, 1) := by decide +kernel
theorem dJ9_floorMod_7cf53_2 : decode cJ9_floorMod_7cf53 2 = .ok (.irem, 1) := by decide +kernel
theorem dJ9_floorMod_7cf53_3 : decode cJ9_floorMod_7cf53 3 = .ok (.istore_n 2, 1) := by decide +kernel
theorem dJ9_floorMod_7cf53_4 : decode cJ9_floorMod_7cf53 4 = .ok (.iload_n 0, 1) := by decide +kernel
theorem dJ9_floorMod_7cf53_5 : decode cJ9_floorMod_7cf53 5 = .ok (.iload_n 1, 1) := by decide +kernel
theorem dJ9_floorMod_7cf53_6 : decode cJ9_floorMod_7cf53 6 = .ok (.ixor, 1) := by decide +kernel
theorem dJ9_floorMod_7cf53_7 : decode cJ9_floorMod_7cf53 7 = .ok (.ifCond .ge 11, 3) := by decide +kernel
theorem dJ9_floorMod_7cf53_10 : decode cJ9_floorMod_7cf53 10 = .ok (.iload_n 2, 1) := by decide +kernel
theorem dJ9_floorMod_7cf53_11 : decode cJ9_floorMod_7cf53 11 = .ok (.ifCond .eq 7, 3) := by decide +kernel
theorem dJ9_floorMod_7cf53_14 : decode cJ9_floorMod_7cf53 14 = .ok (.iload_n 2, 1) := by decide +kernel
theorem dJ9_floorMod_7cf53_15 : decode cJ9_floorMod_7cf53 15 = .ok (.iload_n 1, 1) := by decide +kernel
theorem dJ9_floorMod_7cf53_16 : decode cJ9_floorMod_7cf53 16 = .ok (.iadd, 1) := by decide +kernel
theorem dJ9_floorMod_7cf53_17 : decode cJ9_floorMod_7cf53 17 = .ok (.ireturn, 1) := by decide +kernel
theorem dJ9_floorMod_7cf53_18 : decode cJ9_floorMod_7cf53 18 = .ok (.iload_n 2, 1) := by decide +kernel
theorem dJ9_floorMod_7cf53_19 : decode cJ9_floorMod_7cf53 19 = .ok (.ireturn, 1) := by decide +kernel
theorem dJ9_max_7cf53_0 : decode cJ9_max_7cf53 0 = .ok (.iload_n 0, 1) := by decide +kernel
theorem dJ9_max_7cf53_1 : decode cJ9_max_7cf53 1 = .ok (.iload_n 1, 1) := by decide +kernel
theorem dJ9_max_7cf53_2 : decode cJ9_max_7cf53 2 = .ok (.if_icmp .lt 7, 3) := by decide +kernel
theorem dJ9_max_7cf53_5 : decode cJ9_max_7cf53 5 = .ok (.iload_n 0, 1) := by decide +kernel
theorem dJ9_max_7cf53_6 : decode cJ9_max_7cf53 6 = .ok (.goto 4, 3) := by decide +kernel
theorem dJ9_max_7cf53_9 : decode cJ9_max_7cf53 9 = .ok (.iload_n 1, 1) := by decide +kernel
theorem dJ9_max_7cf53_10 : decode cJ9_max_7cf53 10 = .ok (.ireturn, 1) := by decide +kernel
theorem dJ7_rangeCheck_23922_0 : decode cJ7_rangeCheck_23922 0 = .ok (.iload_n 1, 1) := by decide +kernel
theorem dJ7_rangeCheck_23922_1 : decode cJ7_rangeCheck_23922 1 = .ok (.iload_n 2, 1) := by decide +kernel
theorem dJ7_rangeCheck_23922_2 : decode cJ7_rangeCheck_23922 2 = .ok (.if_icmp .le 44, 3) := by decide +kernel
theorem dJ7_rangeCheck_23922_5 : decode cJ7_rangeCheck_23922 5 = .ok (.new 43, 3) := by decide +kernel
theorem dJ7_rangeCheck_23922_8 : decode cJ7_rangeCheck_23922 8 = .ok (.dup, 1) := by decide +kernel
theorem dJ7_rangeCheck_23922_9 : decode cJ7_rangeCheck_23922 9 = .ok (.new 45, 3) := by decide +kernel
theorem dJ7_rangeCheck_23922_12 : decode cJ7_rangeCheck_23922 12 = .ok (.dup, 1) := by decide +kernel
theorem dJ7_rangeCheck_23922_13 : decode cJ7_rangeCheck_23922 13 = .ok (.invokespecial 47, 3) := by decide +kernel
theorem dJ7_rangeCheck_23922_16 : decode cJ7_rangeCheck_23922 16 = .ok (.ldc 48, 2) := by decide +kernel
theorem dJ7_rangeCheck_23922_18 : decode cJ7_rangeCheck_23922 18 = .ok (.invokevirtual 50, 3) := by decide +kernel
theorem dJ7_rangeCheck_23922_21 : decode cJ7_rangeCheck_23922 21 = .ok (.iload_n 1, 1) := by decide +kernel
theorem dJ7_rangeCheck_23922_22 : decode cJ7_rangeCheck_23922 22 = .ok (.invokevirtual 54, 3) := by decide +kernel
theorem dJ7_rangeCheck_23922_25 : decode cJ7_rangeCheck_23922 25 = .ok (.ldc 57, 2) := by decide +kernel
theorem dJ7_rangeCheck_23922_27 : decode cJ7_rangeCheck_23922 27 = .ok (.invokevirtual 50, 3) := by decide +kernel
theorem dJ7_rangeCheck_23922_30 : decode cJ7_rangeCheck_23922 30 = .ok (.iload_n 2, 1) := by decide +kernel
theorem dJ7_rangeCheck_23922_31 : decode cJ7_rangeCheck_23922 31 = .ok (.invokevirtual 54, 3) := by decide +kernel
theorem dJ7_rangeCheck_23922_34 : decode cJ7_rangeCheck_23922 34 = .ok (.ldc 59, 2) := by decide +kernel
theorem dJ7_rangeCheck_23922_36 : decode cJ7_rangeCheck_23922 36 = .ok (.invokevirtual 50, 3) := by decide +kernel
theorem dJ7_rangeCheck_23922_39 : decode cJ7_rangeCheck_23922 39 = .ok (.invokevirtual 61, 3) := by decide +kernel
theorem dJ7_rangeCheck_23922_42 : decode cJ7_rangeCheck_23922 42 = .ok (.invokespecial 65, 3) := by decide +kernel
theorem dJ7_rangeCheck_23922_45 : decode cJ7_rangeCheck_23922 45 = .ok (.athrow, 1) := by decide +kernel
theorem dJ7_rangeCheck_23922_46 : decode cJ7_rangeCheck_23922 46 = .ok (.iload_n 1, 1) := by decide +kernel
theorem dJ7_rangeCheck_23922_47 : decode cJ7_rangeCheck_23922 47 = .ok (.ifCond .ge 12, 3) := by decide +kernel
theorem dJ7_rangeCheck_23922_50 : decode cJ7_rangeCheck_23922 50 = .ok (.new 68, 3) := by decide +kernel
theorem dJ7_rangeCheck_23922_53 : decode cJ7_rangeCheck_23922 53 = .ok (.dup, 1) := by decide +kernel
theorem dJ7_rangeCheck_23922_54 : decode cJ7_rangeCheck_23922 54 = .ok (.iload_n 1, 1) := by decide +kernel
theorem dJ7_rangeCheck_23922_55 : decode cJ7_rangeCheck_23922 55 = .ok (.invokespecial 70, 3) := by decide +kernel
theorem dJ7_rangeCheck_23922_58 : decode cJ7_rangeCheck_23922 58 = .ok (.athrow, 1) := by decide +kernel
theorem dJ7_rangeCheck_23922_59 : decode cJ7_rangeCheck_23922 59 = .ok (.iload_n 2, 1) := by decide +kernel
theorem dJ7_rangeCheck_23922_60 : decode cJ7_rangeCheck_23922 60 = .ok (.iload_n 0, 1) := by decide +kernel
theorem dJ7_rangeCheck_23922_61 : decode cJ7_rangeCheck_23922 61 = .ok (.if_icmp .le 12, 3) := by decide +kernel
theorem dJ7_rangeCheck_23922_64 : decode cJ7_rangeCheck_23922 64 = .ok (.new 68, 3) := by decide +kernel
theorem dJ7_rangeCheck_23922_67 : decode cJ7_rangeCheck_23922 67 = .ok (.dup, 1) := by decide +kernel
theorem dJ7_rangeCheck_23922_68 : decode cJ7_rangeCheck_23922 68 = .ok (.iload_n 2, 1) := by decide +kernel
theorem dJ7_rangeCheck_23922_69 : decode cJ7_rangeCheck_23922 69 = .ok (.invokespecial 70, 3) := by decide +kernel
theorem dJ7_rangeCheck_23922_72 : decode cJ7_rangeCheck_23922 72 = .ok (.athrow, 1) := by decide +kernel
theorem dJ7_rangeCheck_23922_73 : decode cJ7_rangeCheck_23922 73 = .ok (.return_, 1) := by decide +kernel
theorem dJ7_fill_53178_0 : decode cJ7_fill_53178 0 = .ok (.iconst 0, 1) := by decide +kernel
theorem dJ7_fill_53178_1 : decode cJ7_fill_53178 1 = .ok (.istore_n 2, 1) := by decide +kernel
theorem dJ7_fill_53178_2 : decode cJ7_fill_53178 2 = .ok (.aload_n 0, 1) := by decide +kernel
theorem dJ7_fill_53178_3 : decode cJ7_fill_53178 3 = .ok (.arraylength, 1) := by decide +kernel
theorem dJ7_fill_53178_4 : decode cJ7_fill_53178 4 = .ok (.istore_n 3, 1) := by decide +kernel
theorem dJ7_fill_53178_5 : decode cJ7_fill_53178 5 = .ok (.iload_n 2, 1) := by decide +kernel
theorem dJ7_fill_53178_6 : decode cJ7_fill_53178 6 = .ok (.iload_n 3, 1) := by decide +kernel
theorem dJ7_fill_53178_7 : decode cJ7_fill_53178 7 = .ok (.if_icmp .ge 13, 3) := by decide +kernel
theorem dJ7_fill_53178_10 : decode cJ7_fill_53178 10 = .ok (.aload_n 0, 1) := by decide +kernel
theorem dJ7_fill_53178_11 : decode cJ7_fill_53178 11 = .ok (.iload_n 2, 1) := by decide +kernel
theorem dJ7_fill_53178_12 : decode cJ7_fill_53178 12 = .ok (.iload_n 1, 1) := by decide +kernel
theorem dJ7_fill_53178_13 : decode cJ7_fill_53178 13 = .ok (.iastore, 1) := by decide +kernel
theorem dJ7_fill_53178_14 : decode cJ7_fill_53178 14 = .ok (.iinc 2 1, 3) := by decide +kernel
theorem dJ7_fill_53178_17 : decode cJ7_fill_53178 17 = .ok (.goto (-12), 3) := by decide +kernel
theorem dJ7_fill_53178_20 : decode cJ7_fill_53178 20 = .ok (.return_, 1) := by decide +kernel
theorem dJ7_fill_fda19_0 : decode cJ7_fill_fda19 0 = .ok (.aload_n 0, 1) := by decide +kernel
theorem dJ7_fill_fda19_1 : decode cJ7_fill_fda19 1 = .ok (.arraylength, 1) := by decide +kernel
theorem dJ7_fill_fda19_2 : decode cJ7_fill_fda19 2 = .ok (.iload_n 1, 1) := by decide +kernel
theorem dJ7_fill_fda19_3 : decode cJ7_fill_fda19 3 = .ok (.iload_n 2, 1) := by decide +kernel
theorem dJ7_fill_fda19_4 : decode cJ7_fill_fda19 4 = .ok (.invokestatic 13, 3) := by decide +kernel
theorem dJ7_fill_fda19_7 : decode cJ7_fill_fda19 7 = .ok (.iload_n 1, 1) := by decide +kernel
theorem dJ7_fill_fda19_8 : decode cJ7_fill_fda19 8 = .ok (.istore 4, 2) := by decide +kernel
theorem dJ7_fill_fda19_10 : decode cJ7_fill_fda19 10 = .ok (.iload 4, 2) := by decide +kernel
theorem dJ7_fill_fda19_12 : decode cJ7_fill_fda19 12 = .ok (.iload_n 2, 1) := by decide +kernel
theorem dJ7_fill_fda19_13 : decode cJ7_fill_fda19 13 = .ok (.if_icmp .ge 14, 3) := by decide +kernel
theorem dJ7_fill_fda19_16 : decode cJ7_fill_fda19 16 = .ok (.aload_n 0, 1) := by decide +kernel
theorem dJ7_fill_fda19_17 : decode cJ7_fill_fda19 17 = .ok (.iload 4, 2) := by decide +kernel
theorem dJ7_fill_fda19_19 : decode cJ7_fill_fda19 19 = .ok (.iload_n 3, 1) := by decide +kernel
theorem dJ7_fill_fda19_20 : decode cJ7_fill_fda19 20 = .ok (.iastore, 1) := by decide +kernel
theorem dJ7_fill_fda19_21 : decode cJ7_fill_fda19 21 = .ok (.iinc 4 1, 3) := by decide +kernel
theorem dJ7_fill_fda19_24 : decode cJ7_fill_fda19 24 = .ok (.goto (-14), 3) := by decide +kernel
theorem dJ7_fill_fda19_27 : decode cJ7_fill_fda19 27 = .ok (.return_, 1) := by decide +kernel
