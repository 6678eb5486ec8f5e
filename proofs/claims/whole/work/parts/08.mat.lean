theorem d_M_isLine_0 : decode b_M_isLine 0 = .ok (.iload_n 0, 1) := by decide +kernel
theorem d_M_isLine_1 : decode b_M_isLine 1 = .ok (.iconst 0, 1) := by decide +kernel
theorem d_M_isLine_2 : decode b_M_isLine 2 = .ok (.iconst 3, 1) := by decide +kernel
theorem d_M_isLine_3 : decode b_M_isLine 3 = .ok (.invokestatic 22, 3) := by decide +kernel
theorem d_M_isLine_6 : decode b_M_isLine 6 = .ok (.ireturn, 1) := by decide +kernel
theorem d_M_isEntry_0 : decode b_M_isEntry 0 = .ok (.lload_n 0, 1) := by decide +kernel
theorem d_M_isEntry_1 : decode b_M_isEntry 1 = .ok (.ldc2_w 28, 3) := by decide +kernel
theorem d_M_isEntry_4 : decode b_M_isEntry 4 = .ok (.lcmp, 1) := by decide +kernel
theorem d_M_isEntry_5 : decode b_M_isEntry 5 = .ok (.ifCond .lt (15), 3) := by decide +kernel
theorem d_M_isEntry_8 : decode b_M_isEntry 8 = .ok (.lload_n 0, 1) := by decide +kernel
theorem d_M_isEntry_9 : decode b_M_isEntry 9 = .ok (.ldc2_w 30, 3) := by decide +kernel
theorem d_M_isEntry_12 : decode b_M_isEntry 12 = .ok (.lcmp, 1) := by decide +kernel
theorem d_M_isEntry_13 : decode b_M_isEntry 13 = .ok (.ifCond .gt (7), 3) := by decide +kernel
theorem d_M_isEntry_16 : decode b_M_isEntry 16 = .ok (.iconst 1, 1) := by decide +kernel
theorem d_M_isEntry_17 : decode b_M_isEntry 17 = .ok (.goto (4), 3) := by decide +kernel
theorem d_M_isEntry_20 : decode b_M_isEntry 20 = .ok (.iconst 0, 1) := by decide +kernel
theorem d_M_isEntry_21 : decode b_M_isEntry 21 = .ok (.ireturn, 1) := by decide +kernel
theorem d_M_setRow_0 : decode b_M_setRow 0 = .ok (.aload_n 0, 1) := by decide +kernel
theorem d_M_setRow_1 : decode b_M_setRow 1 = .ok (.getfield 9, 3) := by decide +kernel
theorem d_M_setRow_4 : decode b_M_setRow 4 = .ok (.iload_n 1, 1) := by decide +kernel
theorem d_M_setRow_5 : decode b_M_setRow 5 = .ok (.iconst 4, 1) := by decide +kernel
theorem d_M_setRow_6 : decode b_M_setRow 6 = .ok (.imul, 1) := by decide +kernel
theorem d_M_setRow_7 : decode b_M_setRow 7 = .ok (.iload_n 2, 1) := by decide +kernel
theorem d_M_setRow_8 : decode b_M_setRow 8 = .ok (.iastore, 1) := by decide +kernel
theorem d_M_setRow_9 : decode b_M_setRow 9 = .ok (.aload_n 0, 1) := by decide +kernel
theorem d_M_setRow_10 : decode b_M_setRow 10 = .ok (.getfield 9, 3) := by decide +kernel
theorem d_M_setRow_13 : decode b_M_setRow 13 = .ok (.iload_n 1, 1) := by decide +kernel
theorem d_M_setRow_14 : decode b_M_setRow 14 = .ok (.iconst 4, 1) := by decide +kernel
theorem d_M_setRow_15 : decode b_M_setRow 15 = .ok (.imul, 1) := by decide +kernel
theorem d_M_setRow_16 : decode b_M_setRow 16 = .ok (.iconst 1, 1) := by decide +kernel
theorem d_M_setRow_17 : decode b_M_setRow 17 = .ok (.iadd, 1) := by decide +kernel
theorem d_M_setRow_18 : decode b_M_setRow 18 = .ok (.iload_n 3, 1) := by decide +kernel
theorem d_M_setRow_19 : decode b_M_setRow 19 = .ok (.iastore, 1) := by decide +kernel
theorem d_M_setRow_20 : decode b_M_setRow 20 = .ok (.aload_n 0, 1) := by decide +kernel
theorem d_M_setRow_21 : decode b_M_setRow 21 = .ok (.getfield 9, 3) := by decide +kernel
theorem d_M_setRow_24 : decode b_M_setRow 24 = .ok (.iload_n 1, 1) := by decide +kernel
theorem d_M_setRow_25 : decode b_M_setRow 25 = .ok (.iconst 4, 1) := by decide +kernel
theorem d_M_setRow_26 : decode b_M_setRow 26 = .ok (.imul, 1) := by decide +kernel
theorem d_M_setRow_27 : decode b_M_setRow 27 = .ok (.iconst 2, 1) := by decide +kernel
theorem d_M_setRow_28 : decode b_M_setRow 28 = .ok (.iadd, 1) := by decide +kernel
theorem d_M_setRow_29 : decode b_M_setRow 29 = .ok (.iload 4, 2) := by decide +kernel
theorem d_M_setRow_31 : decode b_M_setRow 31 = .ok (.iastore, 1) := by decide +kernel
theorem d_M_setRow_32 : decode b_M_setRow 32 = .ok (.aload_n 0, 1) := by decide +kernel
theorem d_M_setRow_33 : decode b_M_setRow 33 = .ok (.getfield 9, 3) := by decide +kernel
theorem d_M_setRow_36 : decode b_M_setRow 36 = .ok (.iload_n 1, 1) := by decide +kernel
theorem d_M_setRow_37 : decode b_M_setRow 37 = .ok (.iconst 4, 1) := by decide +kernel
theorem d_M_setRow_38 : decode b_M_setRow 38 = .ok (.imul, 1) := by decide +kernel
theorem d_M_setRow_39 : decode b_M_setRow 39 = .ok (.iconst 3, 1) := by decide +kernel
theorem d_M_setRow_40 : decode b_M_setRow 40 = .ok (.iadd, 1) := by decide +kernel
theorem d_M_setRow_41 : decode b_M_setRow 41 = .ok (.iload 5, 2) := by decide +kernel
theorem d_M_setRow_43 : decode b_M_setRow 43 = .ok (.iastore, 1) := by decide +kernel
theorem d_M_setRow_44 : decode b_M_setRow 44 = .ok (.return_, 1) := by decide +kernel
theorem d_M_setDiagonalFactor_0 : decode b_M_setDiagonalFactor 0 = .ok (.iconst 0, 1) := by decide +kernel
theorem d_M_setDiagonalFactor_1 : decode b_M_setDiagonalFactor 1 = .ok (.istore 4, 2) := by decide +kernel
theorem d_M_setDiagonalFactor_3 : decode b_M_setDiagonalFactor 3 = .ok (.iload 4, 2) := by decide +kernel
theorem d_M_setDiagonalFactor_5 : decode b_M_setDiagonalFactor 5 = .ok (.bipush (16), 2) := by decide +kernel
theorem d_M_setDiagonalFactor_7 : decode b_M_setDiagonalFactor 7 = .ok (.if_icmp .ge (17), 3) := by decide +kernel
theorem d_M_setDiagonalFactor_10 : decode b_M_setDiagonalFactor 10 = .ok (.aload_n 0, 1) := by decide +kernel
theorem d_M_setDiagonalFactor_11 : decode b_M_setDiagonalFactor 11 = .ok (.getfield 16, 3) := by decide +kernel
theorem d_M_setDiagonalFactor_14 : decode b_M_setDiagonalFactor 14 = .ok (.iload 4, 2) := by decide +kernel
theorem d_M_setDiagonalFactor_16 : decode b_M_setDiagonalFactor 16 = .ok (.iconst 0, 1) := by decide +kernel
theorem d_M_setDiagonalFactor_17 : decode b_M_setDiagonalFactor 17 = .ok (.iastore, 1) := by decide +kernel
theorem d_M_setDiagonalFactor_18 : decode b_M_setDiagonalFactor 18 = .ok (.iinc 4 (1), 3) := by decide +kernel
theorem d_M_setDiagonalFactor_21 : decode b_M_setDiagonalFactor 21 = .ok (.goto (-18), 3) := by decide +kernel
theorem d_M_setDiagonalFactor_24 : decode b_M_setDiagonalFactor 24 = .ok (.aload_n 0, 1) := by decide +kernel
theorem d_M_setDiagonalFactor_25 : decode b_M_setDiagonalFactor 25 = .ok (.getfield 16, 3) := by decide +kernel
theorem d_M_setDiagonalFactor_28 : decode b_M_setDiagonalFactor 28 = .ok (.iconst 0, 1) := by decide +kernel
theorem d_M_setDiagonalFactor_29 : decode b_M_setDiagonalFactor 29 = .ok (.iload_n 1, 1) := by decide +kernel
theorem d_M_setDiagonalFactor_30 : decode b_M_setDiagonalFactor 30 = .ok (.iastore, 1) := by decide +kernel
theorem d_M_setDiagonalFactor_31 : decode b_M_setDiagonalFactor 31 = .ok (.aload_n 0, 1) := by decide +kernel
theorem d_M_setDiagonalFactor_32 : decode b_M_setDiagonalFactor 32 = .ok (.getfield 16, 3) := by decide +kernel
theorem d_M_setDiagonalFactor_35 : decode b_M_setDiagonalFactor 35 = .ok (.iconst 5, 1) := by decide +kernel
theorem d_M_setDiagonalFactor_36 : decode b_M_setDiagonalFactor 36 = .ok (.iload_n 2, 1) := by decide +kernel
theorem d_M_setDiagonalFactor_37 : decode b_M_setDiagonalFactor 37 = .ok (.iastore, 1) := by decide +kernel
theorem d_M_setDiagonalFactor_38 : decode b_M_setDiagonalFactor 38 = .ok (.aload_n 0, 1) := by decide +kernel
theorem d_M_setDiagonalFactor_39 : decode b_M_setDiagonalFactor 39 = .ok (.getfield 16, 3) := by decide +kernel
theorem d_M_setDiagonalFactor_42 : decode b_M_setDiagonalFactor 42 = .ok (.bipush (10), 2) := by decide +kernel
theorem d_M_setDiagonalFactor_44 : decode b_M_setDiagonalFactor 44 = .ok (.iload_n 3, 1) := by decide +kernel
theorem d_M_setDiagonalFactor_45 : decode b_M_setDiagonalFactor 45 = .ok (.iastore, 1) := by decide +kernel
theorem d_M_setDiagonalFactor_46 : decode b_M_setDiagonalFactor 46 = .ok (.aload_n 0, 1) := by decide +kernel
theorem d_M_setDiagonalFactor_47 : decode b_M_setDiagonalFactor 47 = .ok (.getfield 16, 3) := by decide +kernel
theorem d_M_setDiagonalFactor_50 : decode b_M_setDiagonalFactor 50 = .ok (.bipush (15), 2) := by decide +kernel
theorem d_M_setDiagonalFactor_52 : decode b_M_setDiagonalFactor 52 = .ok (.iconst 1, 1) := by decide +kernel
theorem d_M_setDiagonalFactor_53 : decode b_M_setDiagonalFactor 53 = .ok (.iastore, 1) := by decide +kernel
theorem d_M_setDiagonalFactor_54 : decode b_M_setDiagonalFactor 54 = .ok (.return_, 1) := by decide +kernel
theorem d_M_multiply_0 : decode b_M_multiply 0 = .ok (.iconst 0, 1) := by decide +kernel
theorem d_M_multiply_1 : decode b_M_multiply 1 = .ok (.istore 4, 2) := by decide +kernel
theorem d_M_multiply_3 : decode b_M_multiply 3 = .ok (.iload 4, 2) := by decide +kernel
theorem d_M_multiply_5 : decode b_M_multiply 5 = .ok (.iconst 4, 1) := by decide +kernel
theorem d_M_multiply_6 : decode b_M_multiply 6 = .ok (.if_icmp .ge (95), 3) := by decide +kernel
theorem d_M_multiply_9 : decode b_M_multiply 9 = .ok (.iconst 0, 1) := by decide +kernel
theorem d_M_multiply_10 : decode b_M_multiply 10 = .ok (.istore 5, 2) := by decide +kernel
theorem d_M_multiply_12 : decode b_M_multiply 12 = .ok (.iload 5, 2) := by decide +kernel
theorem d_M_multiply_14 : decode b_M_multiply 14 = .ok (.iconst 4, 1) := by decide +kernel
theorem d_M_multiply_15 : decode b_M_multiply 15 = .ok (.if_icmp .ge (80), 3) := by decide +kernel
theorem d_M_multiply_18 : decode b_M_multiply 18 = .ok (.lconst 0, 1) := by decide +kernel
theorem d_M_multiply_19 : decode b_M_multiply 19 = .ok (.lstore 6, 2) := by decide +kernel
theorem d_M_multiply_21 : decode b_M_multiply 21 = .ok (.iconst 0, 1) := by decide +kernel
theorem d_M_multiply_22 : decode b_M_multiply 22 = .ok (.istore 8, 2) := by decide +kernel
theorem d_M_multiply_24 : decode b_M_multiply 24 = .ok (.iload 8, 2) := by decide +kernel
theorem d_M_multiply_26 : decode b_M_multiply 26 = .ok (.iconst 4, 1) := by decide +kernel
theorem d_M_multiply_27 : decode b_M_multiply 27 = .ok (.if_icmp .ge (37), 3) := by decide +kernel
theorem d_M_multiply_30 : decode b_M_multiply 30 = .ok (.lload 6, 2) := by decide +kernel
theorem d_M_multiply_32 : decode b_M_multiply 32 = .ok (.aload_n 1, 1) := by decide +kernel
theorem d_M_multiply_33 : decode b_M_multiply 33 = .ok (.iload_n 2, 1) := by decide +kernel
theorem d_M_multiply_34 : decode b_M_multiply 34 = .ok (.iload 4, 2) := by decide +kernel
theorem d_M_multiply_36 : decode b_M_multiply 36 = .ok (.iconst 4, 1) := by decide +kernel
theorem d_M_multiply_37 : decode b_M_multiply 37 = .ok (.imul, 1) := by decide +kernel
theorem d_M_multiply_38 : decode b_M_multiply 38 = .ok (.iadd, 1) := by decide +kernel
theorem d_M_multiply_39 : decode b_M_multiply 39 = .ok (.iload 8, 2) := by decide +kernel
theorem d_M_multiply_41 : decode b_M_multiply 41 = .ok (.iadd, 1) := by decide +kernel
theorem d_M_multiply_42 : decode b_M_multiply 42 = .ok (.iaload, 1) := by decide +kernel
theorem d_M_multiply_43 : decode b_M_multiply 43 = .ok (.i2l, 1) := by decide +kernel
theorem d_M_multiply_44 : decode b_M_multiply 44 = .ok (.aload_n 3, 1) := by decide +kernel
theorem d_M_multiply_45 : decode b_M_multiply 45 = .ok (.iload 8, 2) := by decide +kernel
theorem d_M_multiply_47 : decode b_M_multiply 47 = .ok (.iconst 4, 1) := by decide +kernel
theorem d_M_multiply_48 : decode b_M_multiply 48 = .ok (.imul, 1) := by decide +kernel
theorem d_M_multiply_49 : decode b_M_multiply 49 = .ok (.iload 5, 2) := by decide +kernel
theorem d_M_multiply_51 : decode b_M_multiply 51 = .ok (.iadd, 1) := by decide +kernel
theorem d_M_multiply_52 : decode b_M_multiply 52 = .ok (.iaload, 1) := by decide +kernel
theorem d_M_multiply_53 : decode b_M_multiply 53 = .ok (.i2l, 1) := by decide +kernel
theorem d_M_multiply_54 : decode b_M_multiply 54 = .ok (.lmul, 1) := by decide +kernel
theorem d_M_multiply_55 : decode b_M_multiply 55 = .ok (.ladd, 1) := by decide +kernel
theorem d_M_multiply_56 : decode b_M_multiply 56 = .ok (.lstore 6, 2) := by decide +kernel
theorem d_M_multiply_58 : decode b_M_multiply 58 = .ok (.iinc 8 (1), 3) := by decide +kernel
theorem d_M_multiply_61 : decode b_M_multiply 61 = .ok (.goto (-37), 3) := by decide +kernel
theorem d_M_multiply_64 : decode b_M_multiply 64 = .ok (.lload 6, 2) := by decide +kernel
theorem d_M_multiply_66 : decode b_M_multiply 66 = .ok (.invokestatic 54, 3) := by decide +kernel
theorem d_M_multiply_69 : decode b_M_multiply 69 = .ok (.ifCond .ne (5), 3) := by decide +kernel
theorem d_M_multiply_72 : decode b_M_multiply 72 = .ok (.iconst 0, 1) := by decide +kernel
theorem d_M_multiply_73 : decode b_M_multiply 73 = .ok (.ireturn, 1) := by decide +kernel
theorem d_M_multiply_74 : decode b_M_multiply 74 = .ok (.aload_n 0, 1) := by decide +kernel
theorem d_M_multiply_75 : decode b_M_multiply 75 = .ok (.getfield 19, 3) := by decide +kernel
theorem d_M_multiply_78 : decode b_M_multiply 78 = .ok (.iload 4, 2) := by decide +kernel
theorem d_M_multiply_80 : decode b_M_multiply 80 = .ok (.iconst 4, 1) := by decide +kernel
theorem d_M_multiply_81 : decode b_M_multiply 81 = .ok (.imul, 1) := by decide +kernel
theorem d_M_multiply_82 : decode b_M_multiply 82 = .ok (.iload 5, 2) := by decide +kernel
theorem d_M_multiply_84 : decode b_M_multiply 84 = .ok (.iadd, 1) := by decide +kernel
theorem d_M_multiply_85 : decode b_M_multiply 85 = .ok (.lload 6, 2) := by decide +kernel
theorem d_M_multiply_87 : decode b_M_multiply 87 = .ok (.l2i, 1) := by decide +kernel
theorem d_M_multiply_88 : decode b_M_multiply 88 = .ok (.iastore, 1) := by decide +kernel
theorem d_M_multiply_89 : decode b_M_multiply 89 = .ok (.iinc 5 (1), 3) := by decide +kernel
theorem d_M_multiply_92 : decode b_M_multiply 92 = .ok (.goto (-80), 3) := by decide +kernel
theorem d_M_multiply_95 : decode b_M_multiply 95 = .ok (.iinc 4 (1), 3) := by decide +kernel
theorem d_M_multiply_98 : decode b_M_multiply 98 = .ok (.goto (-95), 3) := by decide +kernel
theorem d_M_multiply_101 : decode b_M_multiply 101 = .ok (.aload_n 0, 1) := by decide +kernel
theorem d_M_multiply_102 : decode b_M_multiply 102 = .ok (.getfield 19, 3) := by decide +kernel
theorem d_M_multiply_105 : decode b_M_multiply 105 = .ok (.iconst 0, 1) := by decide +kernel
theorem d_M_multiply_106 : decode b_M_multiply 106 = .ok (.aload_n 0, 1) := by decide +kernel
theorem d_M_multiply_107 : decode b_M_multiply 107 = .ok (.getfield 9, 3) := by decide +kernel
theorem d_M_multiply_110 : decode b_M_multiply 110 = .ok (.iconst 0, 1) := by decide +kernel
theorem d_M_multiply_111 : decode b_M_multiply 111 = .ok (.bipush (16), 2) := by decide +kernel
theorem d_M_multiply_113 : decode b_M_multiply 113 = .ok (.invokestatic 48, 3) := by decide +kernel
theorem d_M_multiply_116 : decode b_M_multiply 116 = .ok (.iconst 1, 1) := by decide +kernel
theorem d_M_multiply_117 : decode b_M_multiply 117 = .ok (.ireturn, 1) := by decide +kernel
theorem d_M_multiplyByMove_0 : decode b_M_multiplyByMove 0 = .ok (.aload_n 0, 1) := by decide +kernel
theorem d_M_multiplyByMove_1 : decode b_M_multiplyByMove 1 = .ok (.iconst 1, 1) := by decide +kernel
theorem d_M_multiplyByMove_2 : decode b_M_multiplyByMove 2 = .ok (.iconst 1, 1) := by decide +kernel
theorem d_M_multiplyByMove_3 : decode b_M_multiplyByMove 3 = .ok (.iconst 1, 1) := by decide +kernel
theorem d_M_multiplyByMove_4 : decode b_M_multiplyByMove 4 = .ok (.invokevirtual 40, 3) := by decide +kernel
theorem d_M_multiplyByMove_7 : decode b_M_multiplyByMove 7 = .ok (.aload_n 0, 1) := by decide +kernel
theorem d_M_multiplyByMove_8 : decode b_M_multiplyByMove 8 = .ok (.getfield 16, 3) := by decide +kernel
theorem d_M_multiplyByMove_11 : decode b_M_multiplyByMove 11 = .ok (.iconst 3, 1) := by decide +kernel
theorem d_M_multiplyByMove_12 : decode b_M_multiplyByMove 12 = .ok (.iload_n 1, 1) := by decide +kernel
theorem d_M_multiplyByMove_13 : decode b_M_multiplyByMove 13 = .ok (.iastore, 1) := by decide +kernel
theorem d_M_multiplyByMove_14 : decode b_M_multiplyByMove 14 = .ok (.aload_n 0, 1) := by decide +kernel
theorem d_M_multiplyByMove_15 : decode b_M_multiplyByMove 15 = .ok (.getfield 16, 3) := by decide +kernel
theorem d_M_multiplyByMove_18 : decode b_M_multiplyByMove 18 = .ok (.bipush (7), 2) := by decide +kernel
theorem d_M_multiplyByMove_20 : decode b_M_multiplyByMove 20 = .ok (.iload_n 2, 1) := by decide +kernel
theorem d_M_multiplyByMove_21 : decode b_M_multiplyByMove 21 = .ok (.iastore, 1) := by decide +kernel
theorem d_M_multiplyByMove_22 : decode b_M_multiplyByMove 22 = .ok (.aload_n 0, 1) := by decide +kernel
theorem d_M_multiplyByMove_23 : decode b_M_multiplyByMove 23 = .ok (.getfield 16, 3) := by decide +kernel
theorem d_M_multiplyByMove_26 : decode b_M_multiplyByMove 26 = .ok (.bipush (11), 2) := by decide +kernel
theorem d_M_multiplyByMove_28 : decode b_M_multiplyByMove 28 = .ok (.iload_n 3, 1) := by decide +kernel
theorem d_M_multiplyByMove_29 : decode b_M_multiplyByMove 29 = .ok (.iastore, 1) := by decide +kernel
theorem d_M_multiplyByMove_30 : decode b_M_multiplyByMove 30 = .ok (.aload_n 0, 1) := by decide +kernel
theorem d_M_multiplyByMove_31 : decode b_M_multiplyByMove 31 = .ok (.aload_n 0, 1) := by decide +kernel
theorem d_M_multiplyByMove_32 : decode b_M_multiplyByMove 32 = .ok (.getfield 9, 3) := by decide +kernel
theorem d_M_multiplyByMove_35 : decode b_M_multiplyByMove 35 = .ok (.iconst 0, 1) := by decide +kernel
theorem d_M_multiplyByMove_36 : decode b_M_multiplyByMove 36 = .ok (.aload_n 0, 1) := by decide +kernel
theorem d_M_multiplyByMove_37 : decode b_M_multiplyByMove 37 = .ok (.getfield 16, 3) := by decide +kernel
theorem d_M_multiplyByMove_40 : decode b_M_multiplyByMove 40 = .ok (.invokevirtual 44, 3) := by decide +kernel
theorem d_M_multiplyByMove_43 : decode b_M_multiplyByMove 43 = .ok (.ireturn, 1) := by decide +kernel
theorem d_M_multiplyByStretch_0 : decode b_M_multiplyByStretch 0 = .ok (.aload_n 0, 1) := by decide +kernel
theorem d_M_multiplyByStretch_1 : decode b_M_multiplyByStretch 1 = .ok (.iload_n 1, 1) := by decide +kernel
theorem d_M_multiplyByStretch_2 : decode b_M_multiplyByStretch 2 = .ok (.iload_n 2, 1) := by decide +kernel
theorem d_M_multiplyByStretch_3 : decode b_M_multiplyByStretch 3 = .ok (.iload_n 3, 1) := by decide +kernel
theorem d_M_multiplyByStretch_4 : decode b_M_multiplyByStretch 4 = .ok (.invokevirtual 40, 3) := by decide +kernel
theorem d_M_multiplyByStretch_7 : decode b_M_multiplyByStretch 7 = .ok (.aload_n 0, 1) := by decide +kernel
theorem d_M_multiplyByStretch_8 : decode b_M_multiplyByStretch 8 = .ok (.aload_n 0, 1) := by decide +kernel
theorem d_M_multiplyByStretch_9 : decode b_M_multiplyByStretch 9 = .ok (.getfield 9, 3) := by decide +kernel
theorem d_M_multiplyByStretch_12 : decode b_M_multiplyByStretch 12 = .ok (.iconst 0, 1) := by decide +kernel
theorem d_M_multiplyByStretch_13 : decode b_M_multiplyByStretch 13 = .ok (.aload_n 0, 1) := by decide +kernel
theorem d_M_multiplyByStretch_14 : decode b_M_multiplyByStretch 14 = .ok (.getfield 16, 3) := by decide +kernel
theorem d_M_multiplyByStretch_17 : decode b_M_multiplyByStretch 17 = .ok (.invokevirtual 44, 3) := by decide +kernel
theorem d_M_multiplyByStretch_20 : decode b_M_multiplyByStretch 20 = .ok (.ireturn, 1) := by decide +kernel
theorem d_M_quarterTurn_0 : decode b_M_quarterTurn 0 = .ok (.iconst 0, 1) := by decide +kernel
theorem d_M_quarterTurn_1 : decode b_M_quarterTurn 1 = .ok (.istore_n 3, 1) := by decide +kernel
theorem d_M_quarterTurn_2 : decode b_M_quarterTurn 2 = .ok (.iload_n 3, 1) := by decide +kernel
theorem d_M_quarterTurn_3 : decode b_M_quarterTurn 3 = .ok (.iconst 4, 1) := by decide +kernel
theorem d_M_quarterTurn_4 : decode b_M_quarterTurn 4 = .ok (.if_icmp .ge (54), 3) := by decide +kernel
theorem d_M_quarterTurn_7 : decode b_M_quarterTurn 7 = .ok (.aload_n 0, 1) := by decide +kernel
theorem d_M_quarterTurn_8 : decode b_M_quarterTurn 8 = .ok (.getfield 9, 3) := by decide +kernel
theorem d_M_quarterTurn_11 : decode b_M_quarterTurn 11 = .ok (.iload_n 3, 1) := by decide +kernel
theorem d_M_quarterTurn_12 : decode b_M_quarterTurn 12 = .ok (.iconst 4, 1) := by decide +kernel
theorem d_M_quarterTurn_13 : decode b_M_quarterTurn 13 = .ok (.imul, 1) := by decide +kernel
theorem d_M_quarterTurn_14 : decode b_M_quarterTurn 14 = .ok (.iload_n 1, 1) := by decide +kernel
theorem d_M_quarterTurn_15 : decode b_M_quarterTurn 15 = .ok (.iadd, 1) := by decide +kernel
theorem d_M_quarterTurn_16 : decode b_M_quarterTurn 16 = .ok (.iaload, 1) := by decide +kernel
theorem d_M_quarterTurn_17 : decode b_M_quarterTurn 17 = .ok (.istore 4, 2) := by decide +kernel
theorem d_M_quarterTurn_19 : decode b_M_quarterTurn 19 = .ok (.aload_n 0, 1) := by decide +kernel
theorem d_M_quarterTurn_20 : decode b_M_quarterTurn 20 = .ok (.getfield 9, 3) := by decide +kernel
theorem d_M_quarterTurn_23 : decode b_M_quarterTurn 23 = .ok (.iload_n 3, 1) := by decide +kernel
theorem d_M_quarterTurn_24 : decode b_M_quarterTurn 24 = .ok (.iconst 4, 1) := by decide +kernel
theorem d_M_quarterTurn_25 : decode b_M_quarterTurn 25 = .ok (.imul, 1) := by decide +kernel
theorem d_M_quarterTurn_26 : decode b_M_quarterTurn 26 = .ok (.iload_n 1, 1) := by decide +kernel
theorem d_M_quarterTurn_27 : decode b_M_quarterTurn 27 = .ok (.iadd, 1) := by decide +kernel
theorem d_M_quarterTurn_28 : decode b_M_quarterTurn 28 = .ok (.aload_n 0, 1) := by decide +kernel
theorem d_M_quarterTurn_29 : decode b_M_quarterTurn 29 = .ok (.getfield 9, 3) := by decide +kernel
theorem d_M_quarterTurn_32 : decode b_M_quarterTurn 32 = .ok (.iload_n 3, 1) := by decide +kernel
theorem d_M_quarterTurn_33 : decode b_M_quarterTurn 33 = .ok (.iconst 4, 1) := by decide +kernel
theorem d_M_quarterTurn_34 : decode b_M_quarterTurn 34 = .ok (.imul, 1) := by decide +kernel
theorem d_M_quarterTurn_35 : decode b_M_quarterTurn 35 = .ok (.iload_n 2, 1) := by decide +kernel
theorem d_M_quarterTurn_36 : decode b_M_quarterTurn 36 = .ok (.iadd, 1) := by decide +kernel
theorem d_M_quarterTurn_37 : decode b_M_quarterTurn 37 = .ok (.iaload, 1) := by decide +kernel
theorem d_M_quarterTurn_38 : decode b_M_quarterTurn 38 = .ok (.iastore, 1) := by decide +kernel
theorem d_M_quarterTurn_39 : decode b_M_quarterTurn 39 = .ok (.aload_n 0, 1) := by decide +kernel
theorem d_M_quarterTurn_40 : decode b_M_quarterTurn 40 = .ok (.getfield 9, 3) := by decide +kernel
theorem d_M_quarterTurn_43 : decode b_M_quarterTurn 43 = .ok (.iload_n 3, 1) := by decide +kernel
theorem d_M_quarterTurn_44 : decode b_M_quarterTurn 44 = .ok (.iconst 4, 1) := by decide +kernel
theorem d_M_quarterTurn_45 : decode b_M_quarterTurn 45 = .ok (.imul, 1) := by decide +kernel
theorem d_M_quarterTurn_46 : decode b_M_quarterTurn 46 = .ok (.iload_n 2, 1) := by decide +kernel
theorem d_M_quarterTurn_47 : decode b_M_quarterTurn 47 = .ok (.iadd, 1) := by decide +kernel
theorem d_M_quarterTurn_48 : decode b_M_quarterTurn 48 = .ok (.iload 4, 2) := by decide +kernel
theorem d_M_quarterTurn_50 : decode b_M_quarterTurn 50 = .ok (.ineg, 1) := by decide +kernel
theorem d_M_quarterTurn_51 : decode b_M_quarterTurn 51 = .ok (.iastore, 1) := by decide +kernel
theorem d_M_quarterTurn_52 : decode b_M_quarterTurn 52 = .ok (.iinc 3 (1), 3) := by decide +kernel
theorem d_M_quarterTurn_55 : decode b_M_quarterTurn 55 = .ok (.goto (-53), 3) := by decide +kernel
theorem d_M_quarterTurn_58 : decode b_M_quarterTurn 58 = .ok (.return_, 1) := by decide +kernel
theorem d_M_isPileEmpty_0 : decode b_M_isPileEmpty 0 = .ok (.aload_n 0, 1) := by decide +kernel
theorem d_M_isPileEmpty_1 : decode b_M_isPileEmpty 1 = .ok (.getfield 32, 3) := by decide +kernel
theorem d_M_isPileEmpty_4 : decode b_M_isPileEmpty 4 = .ok (.ifCond .ne (7), 3) := by decide +kernel
theorem d_M_isPileEmpty_7 : decode b_M_isPileEmpty 7 = .ok (.iconst 1, 1) := by decide +kernel
theorem d_M_isPileEmpty_8 : decode b_M_isPileEmpty 8 = .ok (.goto (4), 3) := by decide +kernel
theorem d_M_isPileEmpty_11 : decode b_M_isPileEmpty 11 = .ok (.iconst 0, 1) := by decide +kernel
theorem d_M_isPileEmpty_12 : decode b_M_isPileEmpty 12 = .ok (.ireturn, 1) := by decide +kernel
theorem d_M_multiplyLatestByCurrent_0 : decode b_M_multiplyLatestByCurrent 0 = .ok (.aload_n 0, 1) := by decide +kernel
theorem d_M_multiplyLatestByCurrent_1 : decode b_M_multiplyLatestByCurrent 1 = .ok (.aload_n 0, 1) := by decide +kernel
theorem d_M_multiplyLatestByCurrent_2 : decode b_M_multiplyLatestByCurrent 2 = .ok (.getfield 13, 3) := by decide +kernel
theorem d_M_multiplyLatestByCurrent_5 : decode b_M_multiplyLatestByCurrent 5 = .ok (.aload_n 0, 1) := by decide +kernel
theorem d_M_multiplyLatestByCurrent_6 : decode b_M_multiplyLatestByCurrent 6 = .ok (.getfield 32, 3) := by decide +kernel
theorem d_M_multiplyLatestByCurrent_9 : decode b_M_multiplyLatestByCurrent 9 = .ok (.iconst 1, 1) := by decide +kernel
theorem d_M_multiplyLatestByCurrent_10 : decode b_M_multiplyLatestByCurrent 10 = .ok (.isub, 1) := by decide +kernel
theorem d_M_multiplyLatestByCurrent_11 : decode b_M_multiplyLatestByCurrent 11 = .ok (.bipush (16), 2) := by decide +kernel
theorem d_M_multiplyLatestByCurrent_13 : decode b_M_multiplyLatestByCurrent 13 = .ok (.imul, 1) := by decide +kernel
theorem d_M_multiplyLatestByCurrent_14 : decode b_M_multiplyLatestByCurrent 14 = .ok (.aload_n 0, 1) := by decide +kernel
theorem d_M_multiplyLatestByCurrent_15 : decode b_M_multiplyLatestByCurrent 15 = .ok (.getfield 9, 3) := by decide +kernel
theorem d_M_multiplyLatestByCurrent_18 : decode b_M_multiplyLatestByCurrent 18 = .ok (.invokevirtual 44, 3) := by decide +kernel
theorem d_M_multiplyLatestByCurrent_21 : decode b_M_multiplyLatestByCurrent 21 = .ok (.istore_n 1, 1) := by decide +kernel
theorem d_M_multiplyLatestByCurrent_22 : decode b_M_multiplyLatestByCurrent 22 = .ok (.iload_n 1, 1) := by decide +kernel
theorem d_M_multiplyLatestByCurrent_23 : decode b_M_multiplyLatestByCurrent 23 = .ok (.ifCond .eq (13), 3) := by decide +kernel
theorem d_M_multiplyLatestByCurrent_26 : decode b_M_multiplyLatestByCurrent 26 = .ok (.aload_n 0, 1) := by decide +kernel
theorem d_M_multiplyLatestByCurrent_27 : decode b_M_multiplyLatestByCurrent 27 = .ok (.dup, 1) := by decide +kernel
theorem d_M_multiplyLatestByCurrent_28 : decode b_M_multiplyLatestByCurrent 28 = .ok (.getfield 32, 3) := by decide +kernel
theorem d_M_multiplyLatestByCurrent_31 : decode b_M_multiplyLatestByCurrent 31 = .ok (.iconst 1, 1) := by decide +kernel
theorem d_M_multiplyLatestByCurrent_32 : decode b_M_multiplyLatestByCurrent 32 = .ok (.isub, 1) := by decide +kernel
theorem d_M_multiplyLatestByCurrent_33 : decode b_M_multiplyLatestByCurrent 33 = .ok (.putfield 32, 3) := by decide +kernel
theorem d_M_multiplyLatestByCurrent_36 : decode b_M_multiplyLatestByCurrent 36 = .ok (.iload_n 1, 1) := by decide +kernel
theorem d_M_multiplyLatestByCurrent_37 : decode b_M_multiplyLatestByCurrent 37 = .ok (.ireturn, 1) := by decide +kernel
theorem d_M_isPileFull_0 : decode b_M_isPileFull 0 = .ok (.aload_n 0, 1) := by decide +kernel
theorem d_M_isPileFull_1 : decode b_M_isPileFull 1 = .ok (.getfield 32, 3) := by decide +kernel
theorem d_M_isPileFull_4 : decode b_M_isPileFull 4 = .ok (.iconst 4, 1) := by decide +kernel
theorem d_M_isPileFull_5 : decode b_M_isPileFull 5 = .ok (.if_icmp .ne (7), 3) := by decide +kernel
theorem d_M_isPileFull_8 : decode b_M_isPileFull 8 = .ok (.iconst 1, 1) := by decide +kernel
theorem d_M_isPileFull_9 : decode b_M_isPileFull 9 = .ok (.goto (4), 3) := by decide +kernel
theorem d_M_isPileFull_12 : decode b_M_isPileFull 12 = .ok (.iconst 0, 1) := by decide +kernel
theorem d_M_isPileFull_13 : decode b_M_isPileFull 13 = .ok (.ireturn, 1) := by decide +kernel
theorem d_M_save_0 : decode b_M_save 0 = .ok (.aload_n 0, 1) := by decide +kernel
theorem d_M_save_1 : decode b_M_save 1 = .ok (.getfield 9, 3) := by decide +kernel
theorem d_M_save_4 : decode b_M_save 4 = .ok (.iconst 0, 1) := by decide +kernel
theorem d_M_save_5 : decode b_M_save 5 = .ok (.aload_n 0, 1) := by decide +kernel
theorem d_M_save_6 : decode b_M_save 6 = .ok (.getfield 13, 3) := by decide +kernel
theorem d_M_save_9 : decode b_M_save 9 = .ok (.aload_n 0, 1) := by decide +kernel
theorem d_M_save_10 : decode b_M_save 10 = .ok (.getfield 32, 3) := by decide +kernel
theorem d_M_save_13 : decode b_M_save 13 = .ok (.bipush (16), 2) := by decide +kernel
theorem d_M_save_15 : decode b_M_save 15 = .ok (.imul, 1) := by decide +kernel
theorem d_M_save_16 : decode b_M_save 16 = .ok (.bipush (16), 2) := by decide +kernel
theorem d_M_save_18 : decode b_M_save 18 = .ok (.invokestatic 48, 3) := by decide +kernel
theorem d_M_save_21 : decode b_M_save 21 = .ok (.aload_n 0, 1) := by decide +kernel
theorem d_M_save_22 : decode b_M_save 22 = .ok (.dup, 1) := by decide +kernel
theorem d_M_save_23 : decode b_M_save 23 = .ok (.getfield 32, 3) := by decide +kernel
theorem d_M_save_26 : decode b_M_save 26 = .ok (.iconst 1, 1) := by decide +kernel
theorem d_M_save_27 : decode b_M_save 27 = .ok (.iadd, 1) := by decide +kernel
theorem d_M_save_28 : decode b_M_save 28 = .ok (.putfield 32, 3) := by decide +kernel
theorem d_M_save_31 : decode b_M_save 31 = .ok (.return_, 1) := by decide +kernel
theorem d_M_restore_0 : decode b_M_restore 0 = .ok (.aload_n 0, 1) := by decide +kernel
theorem d_M_restore_1 : decode b_M_restore 1 = .ok (.dup, 1) := by decide +kernel
theorem d_M_restore_2 : decode b_M_restore 2 = .ok (.getfield 32, 3) := by decide +kernel
theorem d_M_restore_5 : decode b_M_restore 5 = .ok (.iconst 1, 1) := by decide +kernel
theorem d_M_restore_6 : decode b_M_restore 6 = .ok (.isub, 1) := by decide +kernel
theorem d_M_restore_7 : decode b_M_restore 7 = .ok (.putfield 32, 3) := by decide +kernel
theorem d_M_restore_10 : decode b_M_restore 10 = .ok (.aload_n 0, 1) := by decide +kernel
theorem d_M_restore_11 : decode b_M_restore 11 = .ok (.getfield 13, 3) := by decide +kernel
theorem d_M_restore_14 : decode b_M_restore 14 = .ok (.aload_n 0, 1) := by decide +kernel
theorem d_M_restore_15 : decode b_M_restore 15 = .ok (.getfield 32, 3) := by decide +kernel
theorem d_M_restore_18 : decode b_M_restore 18 = .ok (.bipush (16), 2) := by decide +kernel
theorem d_M_restore_20 : decode b_M_restore 20 = .ok (.imul, 1) := by decide +kernel
theorem d_M_restore_21 : decode b_M_restore 21 = .ok (.aload_n 0, 1) := by decide +kernel
theorem d_M_restore_22 : decode b_M_restore 22 = .ok (.getfield 9, 3) := by decide +kernel
theorem d_M_restore_25 : decode b_M_restore 25 = .ok (.iconst 0, 1) := by decide +kernel
theorem d_M_restore_26 : decode b_M_restore 26 = .ok (.bipush (16), 2) := by decide +kernel
theorem d_M_restore_28 : decode b_M_restore 28 = .ok (.invokestatic 48, 3) := by decide +kernel
theorem d_M_restore_31 : decode b_M_restore 31 = .ok (.return_, 1) := by decide +kernel
theorem d_M_entryAt_0 : decode b_M_entryAt 0 = .ok (.aload_n 0, 1) := by decide +kernel
theorem d_M_entryAt_1 : decode b_M_entryAt 1 = .ok (.getfield 9, 3) := by decide +kernel
theorem d_M_entryAt_4 : decode b_M_entryAt 4 = .ok (.iload_n 1, 1) := by decide +kernel
theorem d_M_entryAt_5 : decode b_M_entryAt 5 = .ok (.iconst 4, 1) := by decide +kernel
theorem d_M_entryAt_6 : decode b_M_entryAt 6 = .ok (.imul, 1) := by decide +kernel
theorem d_M_entryAt_7 : decode b_M_entryAt 7 = .ok (.iload_n 2, 1) := by decide +kernel
theorem d_M_entryAt_8 : decode b_M_entryAt 8 = .ok (.iadd, 1) := by decide +kernel
theorem d_M_entryAt_9 : decode b_M_entryAt 9 = .ok (.iaload, 1) := by decide +kernel
theorem d_M_entryAt_10 : decode b_M_entryAt 10 = .ok (.ireturn, 1) := by decide +kernel
theorem d_M_rowTimes_0 : decode b_M_rowTimes 0 = .ok (.aload_n 0, 1) := by decide +kernel
theorem d_M_rowTimes_1 : decode b_M_rowTimes 1 = .ok (.iload_n 1, 1) := by decide +kernel
theorem d_M_rowTimes_2 : decode b_M_rowTimes 2 = .ok (.iconst 0, 1) := by decide +kernel
theorem d_M_rowTimes_3 : decode b_M_rowTimes 3 = .ok (.invokevirtual 36, 3) := by decide +kernel
theorem d_M_rowTimes_6 : decode b_M_rowTimes 6 = .ok (.iload_n 2, 1) := by decide +kernel
theorem d_M_rowTimes_7 : decode b_M_rowTimes 7 = .ok (.imul, 1) := by decide +kernel
theorem d_M_rowTimes_8 : decode b_M_rowTimes 8 = .ok (.aload_n 0, 1) := by decide +kernel
theorem d_M_rowTimes_9 : decode b_M_rowTimes 9 = .ok (.iload_n 1, 1) := by decide +kernel
theorem d_M_rowTimes_10 : decode b_M_rowTimes 10 = .ok (.iconst 1, 1) := by decide +kernel
theorem d_M_rowTimes_11 : decode b_M_rowTimes 11 = .ok (.invokevirtual 36, 3) := by decide +kernel
theorem d_M_rowTimes_14 : decode b_M_rowTimes 14 = .ok (.iload_n 3, 1) := by decide +kernel
theorem d_M_rowTimes_15 : decode b_M_rowTimes 15 = .ok (.imul, 1) := by decide +kernel
theorem d_M_rowTimes_16 : decode b_M_rowTimes 16 = .ok (.iadd, 1) := by decide +kernel
theorem d_M_rowTimes_17 : decode b_M_rowTimes 17 = .ok (.aload_n 0, 1) := by decide +kernel
theorem d_M_rowTimes_18 : decode b_M_rowTimes 18 = .ok (.iload_n 1, 1) := by decide +kernel
theorem d_M_rowTimes_19 : decode b_M_rowTimes 19 = .ok (.iconst 2, 1) := by decide +kernel
theorem d_M_rowTimes_20 : decode b_M_rowTimes 20 = .ok (.invokevirtual 36, 3) := by decide +kernel
theorem d_M_rowTimes_23 : decode b_M_rowTimes 23 = .ok (.iload 4, 2) := by decide +kernel
theorem d_M_rowTimes_25 : decode b_M_rowTimes 25 = .ok (.imul, 1) := by decide +kernel
theorem d_M_rowTimes_26 : decode b_M_rowTimes 26 = .ok (.iadd, 1) := by decide +kernel
theorem d_M_rowTimes_27 : decode b_M_rowTimes 27 = .ok (.aload_n 0, 1) := by decide +kernel
theorem d_M_rowTimes_28 : decode b_M_rowTimes 28 = .ok (.iload_n 1, 1) := by decide +kernel
theorem d_M_rowTimes_29 : decode b_M_rowTimes 29 = .ok (.iconst 3, 1) := by decide +kernel
theorem d_M_rowTimes_30 : decode b_M_rowTimes 30 = .ok (.invokevirtual 36, 3) := by decide +kernel
theorem d_M_rowTimes_33 : decode b_M_rowTimes 33 = .ok (.iadd, 1) := by decide +kernel
theorem d_M_rowTimes_34 : decode b_M_rowTimes 34 = .ok (.ireturn, 1) := by decide +kernel
def fn_M_isLine (μ0 : xs_M) (x0 : Int32) : Option Int32 :=
  ((fn_S_isWithin μ0 x0 (0 : Int32) (3 : Int32)).bind fun w1 => (if w1 = 0 ∨ w1 = 1 then some (w1) else none))
set_option maxHeartbeats 4000000 in
set_option maxRecDepth 100000 in
theorem ok_M_isLine (l : Launch) (D : va_G) (ad : Nat → Nat) (cs : xs_cs) (hJ : xs_J ad) {μ0 : xs_M} {x0 : Int32}  {rz : Int32} (hE : fn_M_isLine μ0 x0 = some rz) : xs_I l D ad cs y_M_isLine b_M_isLine 1 (some .boolean) 1 22 [.int (x0)] μ0 (some (.int rz)) μ0 := by
  refine xs_entry hJ (by decide) (Nat.le_of_ble_eq_true rfl) ?_
  intro p e s m below meth c ls X hr hlk G hl
  have X : xs_C p s m c b_M_isLine 1 _ "ExactScene$Matrices" := X
  have hx := X.1
  have hb := X.2.1
  have hl : lv_has ls 1 [(0, .int (x0))] := hl
  unfold fn_M_isLine at hE
  refine lv_iload_n (pc := 0) hx hb d_M_isLine_0 rfl (lv_at hl 0 rfl) ?_
  refine lv_iconst (pc := 1) (v := (0 : Int32)) hx hb d_M_isLine_1 (by decide) ?_
  refine lv_iconst (pc := 2) (v := (3 : Int32)) hx hb d_M_isLine_2 (by decide) ?_
  obtain ⟨w1, hw1, hE⟩ := xs_b hE
  refine xs_callSNr (pc := 3) (as := [.int (x0), .int ((0 : Int32)), .int ((3 : Int32))]) X (ok_S_isWithin l D ad cs hJ hw1) km_M_22 G ⟨by decide, by decide⟩ ⟨Nat.zero_le _, Nat.zero_le _⟩ rfl hl.1 rfl (Nat.le_of_ble_eq_true rfl) d_M_isLine_3 (fun H locs G => ?_)
  obtain ⟨hz2, hE⟩ := xs_n hE
  cases hE
  exact xs_zret (pc := 6) hx hb hr hlk G hz2 d_M_isLine_6
def fn_M_isEntry (μ0 : xs_M) (x0 : Int64) : Option Int32 :=
  (if (lg_cmp x0 (-511 : Int64)) < 0 then some ((0 : Int32)) else (if 0 < (lg_cmp x0 (511 : Int64)) then some ((0 : Int32)) else some ((1 : Int32))))
set_option maxHeartbeats 4000000 in
set_option maxRecDepth 100000 in
theorem ok_M_isEntry (l : Launch) (D : va_G) (ad : Nat → Nat) (cs : xs_cs) (hJ : xs_J ad) {μ0 : xs_M} {x0 : Int64}  {rz : Int32} (hE : fn_M_isEntry μ0 x0 = some rz) : xs_I l D ad cs y_M_isEntry b_M_isEntry 2 (some .boolean) 0 0 [.long (x0)] μ0 (some (.int rz)) μ0 := by
  refine xs_entry hJ (by decide) (Nat.le_of_ble_eq_true rfl) ?_
  intro p e s m below meth c ls X hr hlk G hl
  have X : xs_C p s m c b_M_isEntry 2 _ "ExactScene$Matrices" := X
  have hx := X.1
  have hb := X.2.1
  have hl : lv_has ls 2 [(0, .long (x0))] := hl
  unfold fn_M_isEntry at hE
  refine lv_lload_n (pc := 0) hx hb d_M_isEntry_0 rfl (lv_at hl 0 rfl) ?_
  refine lv_ldc2 (pc := 1) (v := (-511 : Int64)) hx hb X.2.2.2.1 (X.2.2.2.2.1 _ cl_M_28) d_M_isEntry_1 ?_
  refine W.lcmp (pc := 4) hx hb d_M_isEntry_4 ?_
  refine lv_if_lt (pc := 5) (tgt := 20) hx hb d_M_isEntry_5 (by decide) (fun hc => ?_) (fun hc => ?_)
  · have hE := xs_t hE hc
    refine lv_iconst (pc := 20) (v := (0 : Int32)) hx hb d_M_isEntry_20 (by decide) ?_
    cases hE
    exact xs_zret (pc := 21) hx hb hr hlk G (Or.inl rfl) d_M_isEntry_21
  · have hE := xs_f hE hc
    refine lv_lload_n (pc := 8) hx hb d_M_isEntry_8 rfl (lv_at hl 0 rfl) ?_
    refine lv_ldc2 (pc := 9) (v := (511 : Int64)) hx hb X.2.2.2.1 (X.2.2.2.2.1 _ cl_M_30) d_M_isEntry_9 ?_
    refine W.lcmp (pc := 12) hx hb d_M_isEntry_12 ?_
    refine lv_if_gt (pc := 13) (tgt := 20) hx hb d_M_isEntry_13 (by decide) (fun hc => ?_) (fun hc => ?_)
    · have hE := xs_t hE hc
      refine lv_iconst (pc := 20) (v := (0 : Int32)) hx hb d_M_isEntry_20 (by decide) ?_
      cases hE
      exact xs_zret (pc := 21) hx hb hr hlk G (Or.inl rfl) d_M_isEntry_21
    · have hE := xs_f hE hc
      refine lv_iconst (pc := 16) (v := (1 : Int32)) hx hb d_M_isEntry_16 (by decide) ?_
      refine lv_goto (pc := 17) (tgt := 21) hx hb d_M_isEntry_17 (by decide) ?_
      cases hE
      exact xs_zret (pc := 21) hx hb hr hlk G (Or.inr rfl) d_M_isEntry_21
def fn_M_setRow (μ0 : xs_M) (x0 : Int32) (x1 : Int32) (x2 : Int32) (x3 : Int32) (x4 : Int32) : Option xs_M :=
  (if xs_in (x0 * (4 : Int32)) 16 = true then ((some (xs_si μ0 2 (x0 * (4 : Int32)).toNatClampNeg (x1))).bind fun μ2 => (if xs_in ((x0 * (4 : Int32)) + (1 : Int32)) 16 = true then ((some (xs_si μ2 2 ((x0 * (4 : Int32)) + (1 : Int32)).toNatClampNeg (x2))).bind fun μ4 => (if xs_in ((x0 * (4 : Int32)) + (2 : Int32)) 16 = true then ((some (xs_si μ4 2 ((x0 * (4 : Int32)) + (2 : Int32)).toNatClampNeg (x3))).bind fun μ6 => (if xs_in ((x0 * (4 : Int32)) + (3 : Int32)) 16 = true then ((some (xs_si μ6 2 ((x0 * (4 : Int32)) + (3 : Int32)).toNatClampNeg (x4))).bind fun μ8 => some (μ8)) else none)) else none)) else none)) else none)
set_option maxHeartbeats 4000000 in
set_option maxRecDepth 100000 in
theorem ok_M_setRow (l : Launch) (D : va_G) (ad : Nat → Nat) (cs : xs_cs) (hJ : xs_J ad) {μ0 : xs_M} {x0 : Int32} {x1 : Int32} {x2 : Int32} {x3 : Int32} {x4 : Int32}  {rz : xs_M} (hE : fn_M_setRow μ0 x0 x1 x2 x3 x4 = some rz) : xs_I l D ad cs y_M_setRow b_M_setRow 6 none 0 0 [.ref (ad 1), .int (x0), .int (x1), .int (x2), .int (x3), .int (x4)] μ0 none rz := by
  refine xs_entry hJ (by decide) (Nat.le_of_ble_eq_true rfl) ?_
  intro p e s m below meth c ls X hr hlk G hl
  have X : xs_C p s m c b_M_setRow 6 _ "ExactScene$Matrices" := X
  have hx := X.1
  have hb := X.2.1
  have hl : lv_has ls 6 [(0, .ref (ad 1)), (1, .int (x0)), (2, .int (x1)), (3, .int (x2)), (4, .int (x3)), (5, .int (x4))] := hl
  unfold fn_M_setRow at hE
  refine lv_aload_n (pc := 0) hx hb d_M_setRow_0 rfl (lv_at hl 0 rfl) ?_
  refine gf_M_9 (pc := 1) X G d_M_setRow_1 ?_
  refine lv_iload_n (pc := 4) hx hb d_M_setRow_4 rfl (lv_at hl 1 rfl) ?_
  refine lv_iconst (pc := 5) (v := (4 : Int32)) hx hb d_M_setRow_5 (by decide) ?_
  refine lv_imul (pc := 6) hx hb d_M_setRow_6 ?_
  refine lv_iload_n (pc := 7) hx hb d_M_setRow_7 rfl (lv_at hl 2 rfl) ?_
  obtain ⟨hi1, hE⟩ := xs_n hE
  refine xs_iast (pc := 8) hx hb G ia_2 (xs_inP hi1) d_M_setRow_8 (fun H locs G => ?_)
  obtain ⟨μ2, hμ2, hE⟩ := xs_b hE
  have G := xs_mv G hμ2
  clear hμ2
  refine lv_aload_n (pc := 9) hx hb d_M_setRow_9 rfl (lv_at hl 0 rfl) ?_
  refine gf_M_9 (pc := 10) X G d_M_setRow_10 ?_
  refine lv_iload_n (pc := 13) hx hb d_M_setRow_13 rfl (lv_at hl 1 rfl) ?_
  refine lv_iconst (pc := 14) (v := (4 : Int32)) hx hb d_M_setRow_14 (by decide) ?_
  refine lv_imul (pc := 15) hx hb d_M_setRow_15 ?_
  refine lv_iconst (pc := 16) (v := (1 : Int32)) hx hb d_M_setRow_16 (by decide) ?_
  refine lv_iadd (pc := 17) hx hb d_M_setRow_17 ?_
  refine lv_iload_n (pc := 18) hx hb d_M_setRow_18 rfl (lv_at hl 3 rfl) ?_
  obtain ⟨hi3, hE⟩ := xs_n hE
  refine xs_iast (pc := 19) hx hb G ia_2 (xs_inP hi3) d_M_setRow_19 (fun H locs G => ?_)
  obtain ⟨μ4, hμ4, hE⟩ := xs_b hE
  have G := xs_mv G hμ4
  clear hμ4
  refine lv_aload_n (pc := 20) hx hb d_M_setRow_20 rfl (lv_at hl 0 rfl) ?_
  refine gf_M_9 (pc := 21) X G d_M_setRow_21 ?_
  refine lv_iload_n (pc := 24) hx hb d_M_setRow_24 rfl (lv_at hl 1 rfl) ?_
  refine lv_iconst (pc := 25) (v := (4 : Int32)) hx hb d_M_setRow_25 (by decide) ?_
  refine lv_imul (pc := 26) hx hb d_M_setRow_26 ?_
  refine lv_iconst (pc := 27) (v := (2 : Int32)) hx hb d_M_setRow_27 (by decide) ?_
  refine lv_iadd (pc := 28) hx hb d_M_setRow_28 ?_
  refine lv_iload (pc := 29) hx hb d_M_setRow_29 (lv_at hl 4 rfl) ?_
  obtain ⟨hi5, hE⟩ := xs_n hE
  refine xs_iast (pc := 31) hx hb G ia_2 (xs_inP hi5) d_M_setRow_31 (fun H locs G => ?_)
  obtain ⟨μ6, hμ6, hE⟩ := xs_b hE
  have G := xs_mv G hμ6
  clear hμ6
  refine lv_aload_n (pc := 32) hx hb d_M_setRow_32 rfl (lv_at hl 0 rfl) ?_
  refine gf_M_9 (pc := 33) X G d_M_setRow_33 ?_
  refine lv_iload_n (pc := 36) hx hb d_M_setRow_36 rfl (lv_at hl 1 rfl) ?_
  refine lv_iconst (pc := 37) (v := (4 : Int32)) hx hb d_M_setRow_37 (by decide) ?_
  refine lv_imul (pc := 38) hx hb d_M_setRow_38 ?_
  refine lv_iconst (pc := 39) (v := (3 : Int32)) hx hb d_M_setRow_39 (by decide) ?_
  refine lv_iadd (pc := 40) hx hb d_M_setRow_40 ?_
  refine lv_iload (pc := 41) hx hb d_M_setRow_41 (lv_at hl 5 rfl) ?_
  obtain ⟨hi7, hE⟩ := xs_n hE
  refine xs_iast (pc := 43) hx hb G ia_2 (xs_inP hi7) d_M_setRow_43 (fun H locs G => ?_)
  obtain ⟨μ8, hμ8, hE⟩ := xs_b hE
  have G := xs_mv G hμ8
  clear hμ8
  cases hE
  exact xs_vret (pc := 44) hx hb hr hlk G d_M_setRow_44
def fn_M_setDiagonalFactor_L3 : Nat → xs_M → Int32 → Int32 → Int32 → Int32 →  Option (Int32 × xs_M)
  | 0, _, _, _, _, _ => none
  | fu + 1, μ, v1, v2, v3, v4 => (if (16 : Int32) ≤ v4 then some ((v4, μ)) else (if xs_in v4 16 = true then ((some (xs_si μ 4 v4.toNatClampNeg (0 : Int32))).bind fun μ2 => fn_M_setDiagonalFactor_L3 fu μ2 v1 v2 v3 (v4 + 1)) else none))
def fn_M_setDiagonalFactor (μ0 : xs_M) (x0 : Int32) (x1 : Int32) (x2 : Int32) : Option xs_M :=
  ((fn_M_setDiagonalFactor_L3 xs_FU μ0 x0 x1 x2 (0 : Int32)).bind fun z3 => ((some (xs_si z3.2 4 (0 : Int32).toNatClampNeg (x0))).bind fun μ4 => ((some (xs_si μ4 4 (5 : Int32).toNatClampNeg (x1))).bind fun μ5 => ((some (xs_si μ5 4 (10 : Int32).toNatClampNeg (x2))).bind fun μ6 => ((some (xs_si μ6 4 (15 : Int32).toNatClampNeg (1 : Int32))).bind fun μ7 => some (μ7))))))
set_option maxHeartbeats 4000000 in
set_option maxRecDepth 100000 in
theorem ok_M_setDiagonalFactor (l : Launch) (D : va_G) (ad : Nat → Nat) (cs : xs_cs) (hJ : xs_J ad) {μ0 : xs_M} {x0 : Int32} {x1 : Int32} {x2 : Int32}  {rz : xs_M} (hE : fn_M_setDiagonalFactor μ0 x0 x1 x2 = some rz) : xs_I l D ad cs y_M_setDiagonalFactor b_M_setDiagonalFactor 5 none 0 0 [.ref (ad 1), .int (x0), .int (x1), .int (x2)] μ0 none rz := by
  refine xs_entry hJ (by decide) (Nat.le_of_ble_eq_true rfl) ?_
  intro p e s m below meth c ls X hr hlk G hl
  have X : xs_C p s m c b_M_setDiagonalFactor 5 _ "ExactScene$Matrices" := X
  have hx := X.1
  have hb := X.2.1
  have hl : lv_has ls 5 [(0, .ref (ad 1)), (1, .int (x0)), (2, .int (x1)), (3, .int (x2))] := hl
  have L3 : ∀ (fu : Nat) (μ : xs_M) (v1 : Int32) (v2 : Int32) (v3 : Int32) (v4 : Int32) (H : Heap) (locs : List Loc) (ls : Array Slot) (z : (Int32 × xs_M)), fn_M_setDiagonalFactor_L3 fu μ v1 v2 v3 v4 = some z → xs_G D ad cs s (xs_A ad s.heap.size) s.heap μ H locs → lv_has ls 5 [(0, .ref (ad 1)), (1, .int (v1)), (2, .int (v2)), (3, .int (v3)), (4, .int (v4))] → (∀ (H : Heap) (locs : List Loc) (ls : Array Slot), xs_G D ad cs s (xs_A ad s.heap.size) s.heap z.2 H locs → lv_has ls 5 [(0, .ref (ad 1)), (1, .int (v1)), (2, .int (v2)), (3, .int (v3)), (4, .int (z.1))] → W p l e (xs_rm 0 0) s m ([.ref (ad 1), .int (x0), .int (x1), .int (x2)] : List Value).toArray below meth c H locs 0 0 (xs_E below D ad cs [.ref (ad 1), .int (x0), .int (x1), .int (x2)] s none rz) (F0 m 24 ls [])) → W p l e (xs_rm 0 0) s m ([.ref (ad 1), .int (x0), .int (x1), .int (x2)] : List Value).toArray below meth c H locs 0 0 (xs_E below D ad cs [.ref (ad 1), .int (x0), .int (x1), .int (x2)] s none rz) (F0 m 3 ls []) := by
    clear hE hl G
    intro fu
    induction fu with
    | zero =>
      intro μ v1 v2 v3 v4 H locs ls z hE
      rw [fn_M_setDiagonalFactor_L3] at hE
      cases hE
    | succ fu ih =>
      intro μ v1 v2 v3 v4 H locs ls z hE G hl kk
      rw [fn_M_setDiagonalFactor_L3] at hE
      refine lv_iload (pc := 3) hx hb d_M_setDiagonalFactor_3 (lv_at hl 4 rfl) ?_
      refine lv_bipush (pc := 5) (v := (16 : Int32)) hx hb d_M_setDiagonalFactor_5 (by decide) ?_
      refine lv_icmp_ge (pc := 7) (tgt := 24) hx hb d_M_setDiagonalFactor_7 (by decide) (fun hc => ?_) (fun hc => ?_)
      · have hE := xs_t hE hc
        cases hE
        exact kk _ _ _ G (lv_sub hl [0, 1, 2, 3, 4] rfl)
      · have hE := xs_f hE hc
        refine lv_aload_n (pc := 10) hx hb d_M_setDiagonalFactor_10 rfl (lv_at hl 0 rfl) ?_
        refine gf_M_16 (pc := 11) X G d_M_setDiagonalFactor_11 ?_
        refine lv_iload (pc := 14) hx hb d_M_setDiagonalFactor_14 (lv_at hl 4 rfl) ?_
        refine lv_iconst (pc := 16) (v := (0 : Int32)) hx hb d_M_setDiagonalFactor_16 (by decide) ?_
        obtain ⟨hi1, hE⟩ := xs_n hE
        refine xs_iast (pc := 17) hx hb G ia_4 (xs_inP hi1) d_M_setDiagonalFactor_17 (fun H locs G => ?_)
        obtain ⟨μ2, hμ2, hE⟩ := xs_b hE
        have G := xs_mv G hμ2
        clear hμ2
        refine lv_iinc (pc := 18) (v := (v4 + 1)) (k := 4) hx hb d_M_setDiagonalFactor_18 hl rfl (xs_inc _) (by decide) (lv' := [(4, .int ((v4 + 1))), (0, .ref (ad 1)), (1, .int (v1)), (2, .int (v2)), (3, .int (v3))]) rfl (fun ls hl => ?_)
        refine lv_goto (pc := 21) (tgt := 3) hx hb d_M_setDiagonalFactor_21 (by decide) ?_
        exact ih _ _ _ _ _ _ _ _ _ hE G (lv_sub hl [1, 2, 3, 4, 0] rfl) kk
  unfold fn_M_setDiagonalFactor at hE
  refine lv_iconst (pc := 0) (v := (0 : Int32)) hx hb d_M_setDiagonalFactor_0 (by decide) ?_
  refine lv_istore (pc := 1) hx hb d_M_setDiagonalFactor_1 hl (by decide) (lv' := [(4, .int ((0 : Int32))), (0, .ref (ad 1)), (1, .int (x0)), (2, .int (x1)), (3, .int (x2))]) rfl (fun ls hl => ?_)
  obtain ⟨z3, hz3, hE⟩ := xs_b hE
  refine L3 _ _ _ _ _ _ _ _ _ _ hz3 G (lv_sub hl [1, 2, 3, 4, 0] rfl) (fun H locs ls G hl => ?_)
  refine lv_aload_n (pc := 24) hx hb d_M_setDiagonalFactor_24 rfl (lv_at hl 0 rfl) ?_
  refine gf_M_16 (pc := 25) X G d_M_setDiagonalFactor_25 ?_
  refine lv_iconst (pc := 28) (v := (0 : Int32)) hx hb d_M_setDiagonalFactor_28 (by decide) ?_
  refine lv_iload_n (pc := 29) hx hb d_M_setDiagonalFactor_29 rfl (lv_at hl 1 rfl) ?_
  refine xs_iast (pc := 30) hx hb G ia_4 (xs_inP (by decide)) d_M_setDiagonalFactor_30 (fun H locs G => ?_)
  obtain ⟨μ4, hμ4, hE⟩ := xs_b hE
  have G := xs_mv G hμ4
  clear hμ4
  refine lv_aload_n (pc := 31) hx hb d_M_setDiagonalFactor_31 rfl (lv_at hl 0 rfl) ?_
  refine gf_M_16 (pc := 32) X G d_M_setDiagonalFactor_32 ?_
  refine lv_iconst (pc := 35) (v := (5 : Int32)) hx hb d_M_setDiagonalFactor_35 (by decide) ?_
  refine lv_iload_n (pc := 36) hx hb d_M_setDiagonalFactor_36 rfl (lv_at hl 2 rfl) ?_
  refine xs_iast (pc := 37) hx hb G ia_4 (xs_inP (by decide)) d_M_setDiagonalFactor_37 (fun H locs G => ?_)
  obtain ⟨μ5, hμ5, hE⟩ := xs_b hE
  have G := xs_mv G hμ5
  clear hμ5
  refine lv_aload_n (pc := 38) hx hb d_M_setDiagonalFactor_38 rfl (lv_at hl 0 rfl) ?_
  refine gf_M_16 (pc := 39) X G d_M_setDiagonalFactor_39 ?_
  refine lv_bipush (pc := 42) (v := (10 : Int32)) hx hb d_M_setDiagonalFactor_42 (by decide) ?_
  refine lv_iload_n (pc := 44) hx hb d_M_setDiagonalFactor_44 rfl (lv_at hl 3 rfl) ?_
  refine xs_iast (pc := 45) hx hb G ia_4 (xs_inP (by decide)) d_M_setDiagonalFactor_45 (fun H locs G => ?_)
  obtain ⟨μ6, hμ6, hE⟩ := xs_b hE
  have G := xs_mv G hμ6
  clear hμ6
  refine lv_aload_n (pc := 46) hx hb d_M_setDiagonalFactor_46 rfl (lv_at hl 0 rfl) ?_
  refine gf_M_16 (pc := 47) X G d_M_setDiagonalFactor_47 ?_
  refine lv_bipush (pc := 50) (v := (15 : Int32)) hx hb d_M_setDiagonalFactor_50 (by decide) ?_
  refine lv_iconst (pc := 52) (v := (1 : Int32)) hx hb d_M_setDiagonalFactor_52 (by decide) ?_
  refine xs_iast (pc := 53) hx hb G ia_4 (xs_inP (by decide)) d_M_setDiagonalFactor_53 (fun H locs G => ?_)
  obtain ⟨μ7, hμ7, hE⟩ := xs_b hE
  have G := xs_mv G hμ7
  clear hμ7
  cases hE
  exact xs_vret (pc := 54) hx hb hr hlk G d_M_setDiagonalFactor_54
def fn_M_multiply_L24 : Nat → xs_M → Nat → Nat → Nat → Int32 → Int32 → Int32 → Int64 → Int32 →  Option (Int64 × Int32)
  | 0, _, _, _, _, _, _, _, _, _ => none
  | fu + 1, μ, q0, n0, q2, v2, v4, v5, v6, v8 => (if (4 : Int32) ≤ v8 then some ((v6, v8)) else (if xs_in ((v2 + (v4 * (4 : Int32))) + v8) n0 = true then (if xs_in ((v8 * (4 : Int32)) + v5) 16 = true then ((some (v6 + (((μ.1 q0 ((v2 + (v4 * (4 : Int32))) + v8).toNatClampNeg)).toInt64 * ((μ.1 q2 ((v8 * (4 : Int32)) + v5).toNatClampNeg)).toInt64))).bind fun a3 => fn_M_multiply_L24 fu μ q0 n0 q2 v2 v4 v5 a3 (v8 + 1)) else none) else none))
def fn_M_multiply_L12 : Nat → xs_M → Nat → Nat → Nat → Int32 → Int32 → Int32 →  Option ((Int32 × xs_M) ⊕ (Int32 × xs_M))
  | 0, _, _, _, _, _, _, _ => none
  | fu + 1, μ, q0, n0, q2, v2, v4, v5 => (if (4 : Int32) ≤ v5 then some (.inl (v5, μ)) else ((fn_M_multiply_L24 xs_FU μ q0 n0 q2 v2 v4 v5 (0 : Int64) (0 : Int32)).bind fun z4 => ((fn_M_isEntry μ z4.1).bind fun w5 => (if w5 = 0 then some (.inr (((0 : Int32), μ))) else (if xs_in ((v4 * (4 : Int32)) + v5) 16 = true then ((some (xs_si μ 5 ((v4 * (4 : Int32)) + v5).toNatClampNeg (z4.1).toInt32)).bind fun μ7 => fn_M_multiply_L12 fu μ7 q0 n0 q2 v2 v4 (v5 + 1)) else none)))))
def fn_M_multiply_L3 : Nat → xs_M → Nat → Nat → Nat → Int32 → Int32 →  Option ((Int32 × xs_M) ⊕ (Int32 × xs_M))
  | 0, _, _, _, _, _, _ => none
  | fu + 1, μ, q0, n0, q2, v2, v4 => (if (4 : Int32) ≤ v4 then some (.inl (v4, μ)) else ((fn_M_multiply_L12 xs_FU μ q0 n0 q2 v2 v4 (0 : Int32)).bind fun z8 => Sum.elim (fun ez8 => fn_M_multiply_L3 fu ez8.2 q0 n0 q2 v2 (v4 + 1)) (fun er => some (.inr er)) z8))
def fn_M_multiply (μ0 : xs_M) (q0 : Nat) (n0 : Nat) (x1 : Int32) (q2 : Nat) : Option (Int32 × xs_M) :=
  ((fn_M_multiply_L3 xs_FU μ0 q0 n0 q2 x1 (0 : Int32)).bind fun z9 => Sum.elim (fun ez9 => (if ¬ (0 : Int32) < 0 ∧ ¬ (0 : Int32) < 0 ∧ ¬ (16 : Int32) < 0 ∧ (0 : Int32).toNatClampNeg + (16 : Int32).toNatClampNeg ≤ 16 ∧ (0 : Int32).toNatClampNeg + (16 : Int32).toNatClampNeg ≤ 16 then ((some (xs_sa ez9.2 2 (va_cpy (ez9.2.1 5) (ez9.2.1 2) (0 : Int32).toNatClampNeg (0 : Int32).toNatClampNeg (16 : Int32).toNatClampNeg))).bind fun μ11 => some (((1 : Int32), μ11))) else none)) (fun er => some er) z9)
set_option maxHeartbeats 4000000 in
set_option maxRecDepth 100000 in
theorem ok_M_multiply (l : Launch) (D : va_G) (ad : Nat → Nat) (cs : xs_cs) (hJ : xs_J ad) {μ0 : xs_M} {q0 : Nat} {n0 : Nat} {x1 : Int32} {q2 : Nat} (hq0 : xs_IA ad cs q0 n0) (hq2 : xs_IA ad cs q2 16) {rz : (Int32 × xs_M)} (hE : fn_M_multiply μ0 q0 n0 x1 q2 = some rz) : xs_I l D ad cs y_M_multiply b_M_multiply 9 (some .boolean) 1 26 [.ref (ad 1), .ref (ad q0), .int (x1), .ref (ad q2)] μ0 (some (.int rz.1)) rz.2 := by
  refine xs_entry hJ (by decide) (Nat.le_of_ble_eq_true rfl) ?_
  intro p e s m below meth c ls X hr hlk G hl
  have X : xs_C p s m c b_M_multiply 9 _ "ExactScene$Matrices" := X
  have hx := X.1
  have hb := X.2.1
  have hl : lv_has ls 9 [(0, .ref (ad 1)), (1, .ref (ad q0)), (2, .int (x1)), (3, .ref (ad q2))] := hl
  have L24 : ∀ (fu : Nat) (μ : xs_M) (v2 : Int32) (v4 : Int32) (v5 : Int32) (v6 : Int64) (v8 : Int32) (H : Heap) (locs : List Loc) (ls : Array Slot) (z : (Int64 × Int32)), fn_M_multiply_L24 fu μ q0 n0 q2 v2 v4 v5 v6 v8 = some z → xs_G D ad cs s (xs_A ad s.heap.size) s.heap μ H locs → lv_has ls 9 [(0, .ref (ad 1)), (1, .ref (ad q0)), (2, .int (v2)), (3, .ref (ad q2)), (4, .int (v4)), (5, .int (v5)), (6, .long (v6)), (8, .int (v8))] → (∀ (H : Heap) (locs : List Loc) (ls : Array Slot), xs_G D ad cs s (xs_A ad s.heap.size) s.heap μ H locs → lv_has ls 9 [(0, .ref (ad 1)), (1, .ref (ad q0)), (2, .int (v2)), (3, .ref (ad q2)), (4, .int (v4)), (5, .int (v5)), (6, .long (z.1)), (8, .int (z.2))] → W p l e (xs_rm 1 26) s m ([.ref (ad 1), .ref (ad q0), .int (x1), .ref (ad q2)] : List Value).toArray below meth c H locs 0 0 (xs_E below D ad cs [.ref (ad 1), .ref (ad q0), .int (x1), .ref (ad q2)] s (some (.int rz.1)) rz.2) (F0 m 64 ls [])) → W p l e (xs_rm 1 26) s m ([.ref (ad 1), .ref (ad q0), .int (x1), .ref (ad q2)] : List Value).toArray below meth c H locs 0 0 (xs_E below D ad cs [.ref (ad 1), .ref (ad q0), .int (x1), .ref (ad q2)] s (some (.int rz.1)) rz.2) (F0 m 24 ls []) := by
    clear hE hl G
    intro fu
    induction fu with
    | zero =>
      intro μ v2 v4 v5 v6 v8 H locs ls z hE
      rw [fn_M_multiply_L24] at hE
      cases hE
    | succ fu ih =>
      intro μ v2 v4 v5 v6 v8 H locs ls z hE G hl kk
      rw [fn_M_multiply_L24] at hE
      refine lv_iload (pc := 24) hx hb d_M_multiply_24 (lv_at hl 7 rfl) ?_
      refine lv_iconst (pc := 26) (v := (4 : Int32)) hx hb d_M_multiply_26 (by decide) ?_
      refine lv_icmp_ge (pc := 27) (tgt := 64) hx hb d_M_multiply_27 (by decide) (fun hc => ?_) (fun hc => ?_)
      · have hE := xs_t hE hc
        cases hE
        exact kk _ _ _ G (lv_sub hl [0, 1, 2, 3, 4, 5, 6, 7] rfl)
      · have hE := xs_f hE hc
        refine lv_lload (pc := 30) hx hb d_M_multiply_30 (lv_at hl 6 rfl) ?_
        refine lv_aload_n (pc := 32) hx hb d_M_multiply_32 rfl (lv_at hl 1 rfl) ?_
        refine lv_iload_n (pc := 33) hx hb d_M_multiply_33 rfl (lv_at hl 2 rfl) ?_
        refine lv_iload (pc := 34) hx hb d_M_multiply_34 (lv_at hl 4 rfl) ?_
        refine lv_iconst (pc := 36) (v := (4 : Int32)) hx hb d_M_multiply_36 (by decide) ?_
        refine lv_imul (pc := 37) hx hb d_M_multiply_37 ?_
        refine lv_iadd (pc := 38) hx hb d_M_multiply_38 ?_
        refine lv_iload (pc := 39) hx hb d_M_multiply_39 (lv_at hl 7 rfl) ?_
        refine lv_iadd (pc := 41) hx hb d_M_multiply_41 ?_
        obtain ⟨hi1, hE⟩ := xs_n hE
        refine xs_iald (pc := 42) hx hb G hq0 (xs_inP hi1) d_M_multiply_42 ?_
        refine lv_i2l (pc := 43) hx hb d_M_multiply_43 rfl ?_
        refine lv_aload_n (pc := 44) hx hb d_M_multiply_44 rfl (lv_at hl 3 rfl) ?_
        refine lv_iload (pc := 45) hx hb d_M_multiply_45 (lv_at hl 7 rfl) ?_
        refine lv_iconst (pc := 47) (v := (4 : Int32)) hx hb d_M_multiply_47 (by decide) ?_
        refine lv_imul (pc := 48) hx hb d_M_multiply_48 ?_
        refine lv_iload (pc := 49) hx hb d_M_multiply_49 (lv_at hl 5 rfl) ?_
        refine lv_iadd (pc := 51) hx hb d_M_multiply_51 ?_
        obtain ⟨hi2, hE⟩ := xs_n hE
        refine xs_iald (pc := 52) hx hb G hq2 (xs_inP hi2) d_M_multiply_52 ?_
        refine lv_i2l (pc := 53) hx hb d_M_multiply_53 rfl ?_
        refine lv_lmul (pc := 54) hx hb d_M_multiply_54 ?_
        refine lv_ladd (pc := 55) hx hb d_M_multiply_55 ?_
        obtain ⟨a3, ha3, hE⟩ := xs_b hE
        refine xs_tl ha3 ?_
        clear ha3
        refine lv_lstore (pc := 56) hx hb d_M_multiply_56 hl (by decide) (lv' := [(6, .long (a3)), (0, .ref (ad 1)), (1, .ref (ad q0)), (2, .int (v2)), (3, .ref (ad q2)), (4, .int (v4)), (5, .int (v5)), (8, .int (v8))]) rfl (fun ls hl => ?_)
        refine lv_iinc (pc := 58) (v := (v8 + 1)) (k := 7) hx hb d_M_multiply_58 hl rfl (xs_inc _) (by decide) (lv' := [(8, .int ((v8 + 1))), (6, .long (a3)), (0, .ref (ad 1)), (1, .ref (ad q0)), (2, .int (v2)), (3, .ref (ad q2)), (4, .int (v4)), (5, .int (v5))]) rfl (fun ls hl => ?_)
        refine lv_goto (pc := 61) (tgt := 24) hx hb d_M_multiply_61 (by decide) ?_
        exact ih _ _ _ _ _ _ _ _ _ _ hE G (lv_sub hl [2, 3, 4, 5, 6, 7, 1, 0] rfl) kk
  have L12 : ∀ (fu : Nat) (μ : xs_M) (v2 : Int32) (v4 : Int32) (v5 : Int32) (H : Heap) (locs : List Loc) (ls : Array Slot) (z : ((Int32 × xs_M) ⊕ (Int32 × xs_M))), fn_M_multiply_L12 fu μ q0 n0 q2 v2 v4 v5 = some z → xs_G D ad cs s (xs_A ad s.heap.size) s.heap μ H locs → lv_has ls 9 [(0, .ref (ad 1)), (1, .ref (ad q0)), (2, .int (v2)), (3, .ref (ad q2)), (4, .int (v4)), (5, .int (v5))] → (∀ er, z = .inr er → er = rz) → (∀ ez, z = .inl ez → ∀ (H : Heap) (locs : List Loc) (ls : Array Slot), xs_G D ad cs s (xs_A ad s.heap.size) s.heap ez.2 H locs → lv_has ls 9 [(0, .ref (ad 1)), (1, .ref (ad q0)), (2, .int (v2)), (3, .ref (ad q2)), (4, .int (v4)), (5, .int (ez.1))] → W p l e (xs_rm 1 26) s m ([.ref (ad 1), .ref (ad q0), .int (x1), .ref (ad q2)] : List Value).toArray below meth c H locs 0 0 (xs_E below D ad cs [.ref (ad 1), .ref (ad q0), .int (x1), .ref (ad q2)] s (some (.int rz.1)) rz.2) (F0 m 95 ls [])) → W p l e (xs_rm 1 26) s m ([.ref (ad 1), .ref (ad q0), .int (x1), .ref (ad q2)] : List Value).toArray below meth c H locs 0 0 (xs_E below D ad cs [.ref (ad 1), .ref (ad q0), .int (x1), .ref (ad q2)] s (some (.int rz.1)) rz.2) (F0 m 12 ls []) := by
    clear hE hl G
    intro fu
    induction fu with
    | zero =>
      intro μ v2 v4 v5 H locs ls z hE
      rw [fn_M_multiply_L12] at hE
      cases hE
    | succ fu ih =>
      intro μ v2 v4 v5 H locs ls z hE G hl kr kk
      rw [fn_M_multiply_L12] at hE
      refine lv_iload (pc := 12) hx hb d_M_multiply_12 (lv_at hl 5 rfl) ?_
      refine lv_iconst (pc := 14) (v := (4 : Int32)) hx hb d_M_multiply_14 (by decide) ?_
      refine lv_icmp_ge (pc := 15) (tgt := 95) hx hb d_M_multiply_15 (by decide) (fun hc => ?_) (fun hc => ?_)
      · have hE := xs_t hE hc
        exact kk _ (Option.some.inj hE).symm _ _ _ G (lv_sub hl [0, 1, 2, 3, 4, 5] rfl)
      · have hE := xs_f hE hc
        refine lv_lconst (pc := 18) (v := (0 : Int64)) hx hb d_M_multiply_18 (by decide) ?_
        refine lv_lstore (pc := 19) hx hb d_M_multiply_19 hl (by decide) (lv' := [(6, .long ((0 : Int64))), (0, .ref (ad 1)), (1, .ref (ad q0)), (2, .int (v2)), (3, .ref (ad q2)), (4, .int (v4)), (5, .int (v5))]) rfl (fun ls hl => ?_)
        refine lv_iconst (pc := 21) (v := (0 : Int32)) hx hb d_M_multiply_21 (by decide) ?_
        refine lv_istore (pc := 22) hx hb d_M_multiply_22 hl (by decide) (lv' := [(8, .int ((0 : Int32))), (6, .long ((0 : Int64))), (0, .ref (ad 1)), (1, .ref (ad q0)), (2, .int (v2)), (3, .ref (ad q2)), (4, .int (v4)), (5, .int (v5))]) rfl (fun ls hl => ?_)
        obtain ⟨z4, hz4, hE⟩ := xs_b hE
        refine L24 _ _ _ _ _ _ _ _ _ _ _ hz4 G (lv_sub hl [2, 3, 4, 5, 6, 7, 1, 0] rfl) (fun H locs ls G hl => ?_)
        refine lv_lload (pc := 64) hx hb d_M_multiply_64 (lv_at hl 6 rfl) ?_
        obtain ⟨w5, hw5, hE⟩ := xs_b hE
        refine xs_callSr (pc := 66) (as := [.long (z4.1)]) X (ok_M_isEntry l D ad cs hJ hw5) km_M_54 G ⟨by decide, by decide⟩ ⟨Nat.zero_le _, Nat.zero_le _⟩ rfl hl.1 rfl (Nat.le_of_ble_eq_true rfl) d_M_multiply_66 (fun H locs G => ?_)
        refine lv_if_ne (pc := 69) (tgt := 74) hx hb d_M_multiply_69 (by decide) (fun hc => ?_) (fun hc => ?_)
        · have hE := xs_f hE hc
          refine lv_aload_n (pc := 74) hx hb d_M_multiply_74 rfl (lv_at hl 0 rfl) ?_
          refine gf_M_19 (pc := 75) X G d_M_multiply_75 ?_
          refine lv_iload (pc := 78) hx hb d_M_multiply_78 (lv_at hl 4 rfl) ?_
          refine lv_iconst (pc := 80) (v := (4 : Int32)) hx hb d_M_multiply_80 (by decide) ?_
          refine lv_imul (pc := 81) hx hb d_M_multiply_81 ?_
          refine lv_iload (pc := 82) hx hb d_M_multiply_82 (lv_at hl 5 rfl) ?_
          refine lv_iadd (pc := 84) hx hb d_M_multiply_84 ?_
          refine lv_lload (pc := 85) hx hb d_M_multiply_85 (lv_at hl 6 rfl) ?_
          refine lv_l2i (pc := 87) hx hb d_M_multiply_87 rfl ?_
          obtain ⟨hi6, hE⟩ := xs_n hE
          refine xs_iast (pc := 88) hx hb G ia_5 (xs_inP hi6) d_M_multiply_88 (fun H locs G => ?_)
          obtain ⟨μ7, hμ7, hE⟩ := xs_b hE
          have G := xs_mv G hμ7
          clear hμ7
          refine lv_iinc (pc := 89) (v := (v5 + 1)) (k := 5) hx hb d_M_multiply_89 hl rfl (xs_inc _) (by decide) (lv' := [(5, .int ((v5 + 1))), (0, .ref (ad 1)), (1, .ref (ad q0)), (2, .int (v2)), (3, .ref (ad q2)), (4, .int (v4)), (6, .long (z4.1)), (8, .int (z4.2))]) rfl (fun ls hl => ?_)
          refine lv_goto (pc := 92) (tgt := 12) hx hb d_M_multiply_92 (by decide) ?_
          exact ih _ _ _ _ _ _ _ _ hE G (lv_sub hl [1, 2, 3, 4, 5, 0] rfl) kr kk
        · have hE := xs_t hE hc
          refine lv_iconst (pc := 72) (v := (0 : Int32)) hx hb d_M_multiply_72 (by decide) ?_
          have er := kr _ (Option.some.inj hE).symm
          rw [← er]
          exact xs_zret (pc := 73) hx hb hr hlk G (Or.inl rfl) d_M_multiply_73
  have L3 : ∀ (fu : Nat) (μ : xs_M) (v2 : Int32) (v4 : Int32) (H : Heap) (locs : List Loc) (ls : Array Slot) (z : ((Int32 × xs_M) ⊕ (Int32 × xs_M))), fn_M_multiply_L3 fu μ q0 n0 q2 v2 v4 = some z → xs_G D ad cs s (xs_A ad s.heap.size) s.heap μ H locs → lv_has ls 9 [(0, .ref (ad 1)), (1, .ref (ad q0)), (2, .int (v2)), (3, .ref (ad q2)), (4, .int (v4))] → (∀ er, z = .inr er → er = rz) → (∀ ez, z = .inl ez → ∀ (H : Heap) (locs : List Loc) (ls : Array Slot), xs_G D ad cs s (xs_A ad s.heap.size) s.heap ez.2 H locs → lv_has ls 9 [(0, .ref (ad 1)), (1, .ref (ad q0)), (2, .int (v2)), (3, .ref (ad q2)), (4, .int (ez.1))] → W p l e (xs_rm 1 26) s m ([.ref (ad 1), .ref (ad q0), .int (x1), .ref (ad q2)] : List Value).toArray below meth c H locs 0 0 (xs_E below D ad cs [.ref (ad 1), .ref (ad q0), .int (x1), .ref (ad q2)] s (some (.int rz.1)) rz.2) (F0 m 101 ls [])) → W p l e (xs_rm 1 26) s m ([.ref (ad 1), .ref (ad q0), .int (x1), .ref (ad q2)] : List Value).toArray below meth c H locs 0 0 (xs_E below D ad cs [.ref (ad 1), .ref (ad q0), .int (x1), .ref (ad q2)] s (some (.int rz.1)) rz.2) (F0 m 3 ls []) := by
    clear hE hl G
    intro fu
    induction fu with
    | zero =>
      intro μ v2 v4 H locs ls z hE
      rw [fn_M_multiply_L3] at hE
      cases hE
    | succ fu ih =>
      intro μ v2 v4 H locs ls z hE G hl kr kk
      rw [fn_M_multiply_L3] at hE
      refine lv_iload (pc := 3) hx hb d_M_multiply_3 (lv_at hl 4 rfl) ?_
      refine lv_iconst (pc := 5) (v := (4 : Int32)) hx hb d_M_multiply_5 (by decide) ?_
      refine lv_icmp_ge (pc := 6) (tgt := 101) hx hb d_M_multiply_6 (by decide) (fun hc => ?_) (fun hc => ?_)
      · have hE := xs_t hE hc
        exact kk _ (Option.some.inj hE).symm _ _ _ G (lv_sub hl [0, 1, 2, 3, 4] rfl)
      · have hE := xs_f hE hc
        refine lv_iconst (pc := 9) (v := (0 : Int32)) hx hb d_M_multiply_9 (by decide) ?_
        refine lv_istore (pc := 10) hx hb d_M_multiply_10 hl (by decide) (lv' := [(5, .int ((0 : Int32))), (0, .ref (ad 1)), (1, .ref (ad q0)), (2, .int (v2)), (3, .ref (ad q2)), (4, .int (v4))]) rfl (fun ls hl => ?_)
        obtain ⟨z8, hz8, hE⟩ := xs_b hE
        refine L12 _ _ _ _ _ _ _ _ _ hz8 G (lv_sub hl [1, 2, 3, 4, 5, 0] rfl) (fun er h => kr er (xs_er2 hE h)) (fun ez8 he H locs ls G hl => ?_)
        have hE := xs_el hE he
        refine lv_iinc (pc := 95) (v := (v4 + 1)) (k := 4) hx hb d_M_multiply_95 hl rfl (xs_inc _) (by decide) (lv' := [(4, .int ((v4 + 1))), (0, .ref (ad 1)), (1, .ref (ad q0)), (2, .int (v2)), (3, .ref (ad q2)), (5, .int (ez8.1))]) rfl (fun ls hl => ?_)
        refine lv_goto (pc := 98) (tgt := 3) hx hb d_M_multiply_98 (by decide) ?_
        exact ih _ _ _ _ _ _ _ hE G (lv_sub hl [1, 2, 3, 4, 0] rfl) kr kk
  unfold fn_M_multiply at hE
  refine lv_iconst (pc := 0) (v := (0 : Int32)) hx hb d_M_multiply_0 (by decide) ?_
  refine lv_istore (pc := 1) hx hb d_M_multiply_1 hl (by decide) (lv' := [(4, .int ((0 : Int32))), (0, .ref (ad 1)), (1, .ref (ad q0)), (2, .int (x1)), (3, .ref (ad q2))]) rfl (fun ls hl => ?_)
  obtain ⟨z9, hz9, hE⟩ := xs_b hE
  refine L3 _ _ _ _ _ _ _ _ hz9 G (lv_sub hl [1, 2, 3, 4, 0] rfl) (fun er h => xs_er1 hE h) (fun ez9 he H locs ls G hl => ?_)
  have hE := xs_el hE he
  refine lv_aload_n (pc := 101) hx hb d_M_multiply_101 rfl (lv_at hl 0 rfl) ?_
  refine gf_M_19 (pc := 102) X G d_M_multiply_102 ?_
  refine lv_iconst (pc := 105) (v := (0 : Int32)) hx hb d_M_multiply_105 (by decide) ?_
  refine lv_aload_n (pc := 106) hx hb d_M_multiply_106 rfl (lv_at hl 0 rfl) ?_
  refine gf_M_9 (pc := 107) X G d_M_multiply_107 ?_
  refine lv_iconst (pc := 110) (v := (0 : Int32)) hx hb d_M_multiply_110 (by decide) ?_
  refine lv_bipush (pc := 111) (v := (16 : Int32)) hx hb d_M_multiply_111 (by decide) ?_
  obtain ⟨hi10, hE⟩ := xs_n hE
  refine xs_copy (pc := 113) X hl.1 cp_M_48.1 cp_M_48.2.1 cp_M_48.2.2.1 cp_M_48.2.2.2 G ia_5 ia_2 hi10 ⟨by decide, by decide⟩ (Nat.le_of_ble_eq_true rfl) d_M_multiply_113 (fun H locs G => ?_)
  obtain ⟨μ11, hμ11, hE⟩ := xs_b hE
  have G := xs_mv G hμ11
  clear hμ11
  refine lv_iconst (pc := 116) (v := (1 : Int32)) hx hb d_M_multiply_116 (by decide) ?_
  cases hE
  exact xs_zret (pc := 117) hx hb hr hlk G (Or.inr rfl) d_M_multiply_117
def fn_M_multiplyByMove (μ0 : xs_M) (x0 : Int32) (x1 : Int32) (x2 : Int32) : Option (Int32 × xs_M) :=
  ((fn_M_setDiagonalFactor μ0 (1 : Int32) (1 : Int32) (1 : Int32)).bind fun w1 => ((some (xs_si w1 4 (3 : Int32).toNatClampNeg (x0))).bind fun μ2 => ((some (xs_si μ2 4 (7 : Int32).toNatClampNeg (x1))).bind fun μ3 => ((some (xs_si μ3 4 (11 : Int32).toNatClampNeg (x2))).bind fun μ4 => ((fn_M_multiply μ4 2 16 (0 : Int32) 4).bind fun w5 => (if w5.1 = 0 ∨ w5.1 = 1 then some ((w5.1, w5.2)) else none))))))
set_option maxHeartbeats 4000000 in
set_option maxRecDepth 100000 in
theorem ok_M_multiplyByMove (l : Launch) (D : va_G) (ad : Nat → Nat) (cs : xs_cs) (hJ : xs_J ad) {μ0 : xs_M} {x0 : Int32} {x1 : Int32} {x2 : Int32}  {rz : (Int32 × xs_M)} (hE : fn_M_multiplyByMove μ0 x0 x1 x2 = some rz) : xs_I l D ad cs y_M_multiplyByMove b_M_multiplyByMove 4 (some .boolean) 2 54 [.ref (ad 1), .int (x0), .int (x1), .int (x2)] μ0 (some (.int rz.1)) rz.2 := by
  refine xs_entry hJ (by decide) (Nat.le_of_ble_eq_true rfl) ?_
  intro p e s m below meth c ls X hr hlk G hl
  have X : xs_C p s m c b_M_multiplyByMove 4 _ "ExactScene$Matrices" := X
  have hx := X.1
  have hb := X.2.1
  have hl : lv_has ls 4 [(0, .ref (ad 1)), (1, .int (x0)), (2, .int (x1)), (3, .int (x2))] := hl
  unfold fn_M_multiplyByMove at hE
  refine lv_aload_n (pc := 0) hx hb d_M_multiplyByMove_0 rfl (lv_at hl 0 rfl) ?_
  refine lv_iconst (pc := 1) (v := (1 : Int32)) hx hb d_M_multiplyByMove_1 (by decide) ?_
  refine lv_iconst (pc := 2) (v := (1 : Int32)) hx hb d_M_multiplyByMove_2 (by decide) ?_
  refine lv_iconst (pc := 3) (v := (1 : Int32)) hx hb d_M_multiplyByMove_3 (by decide) ?_
  obtain ⟨w1, hw1, hE⟩ := xs_b hE
  refine xs_callVv (pc := 4) (as := [.int ((1 : Int32)), .int ((1 : Int32)), .int ((1 : Int32))]) X (ok_M_setDiagonalFactor l D ad cs hJ hw1) km_M_40 G (xs_wM ad cs _) rfl ⟨by decide, by decide⟩ ⟨Nat.zero_le _, Nat.zero_le _⟩ rfl hl.1 rfl (Nat.le_of_ble_eq_true rfl) d_M_multiplyByMove_4 (fun H locs G => ?_)
  refine lv_aload_n (pc := 7) hx hb d_M_multiplyByMove_7 rfl (lv_at hl 0 rfl) ?_
  refine gf_M_16 (pc := 8) X G d_M_multiplyByMove_8 ?_
  refine lv_iconst (pc := 11) (v := (3 : Int32)) hx hb d_M_multiplyByMove_11 (by decide) ?_
  refine lv_iload_n (pc := 12) hx hb d_M_multiplyByMove_12 rfl (lv_at hl 1 rfl) ?_
  refine xs_iast (pc := 13) hx hb G ia_4 (xs_inP (by decide)) d_M_multiplyByMove_13 (fun H locs G => ?_)
  obtain ⟨μ2, hμ2, hE⟩ := xs_b hE
  have G := xs_mv G hμ2
  clear hμ2
  refine lv_aload_n (pc := 14) hx hb d_M_multiplyByMove_14 rfl (lv_at hl 0 rfl) ?_
  refine gf_M_16 (pc := 15) X G d_M_multiplyByMove_15 ?_
  refine lv_bipush (pc := 18) (v := (7 : Int32)) hx hb d_M_multiplyByMove_18 (by decide) ?_
  refine lv_iload_n (pc := 20) hx hb d_M_multiplyByMove_20 rfl (lv_at hl 2 rfl) ?_
  refine xs_iast (pc := 21) hx hb G ia_4 (xs_inP (by decide)) d_M_multiplyByMove_21 (fun H locs G => ?_)
  obtain ⟨μ3, hμ3, hE⟩ := xs_b hE
  have G := xs_mv G hμ3
  clear hμ3
  refine lv_aload_n (pc := 22) hx hb d_M_multiplyByMove_22 rfl (lv_at hl 0 rfl) ?_
  refine gf_M_16 (pc := 23) X G d_M_multiplyByMove_23 ?_
  refine lv_bipush (pc := 26) (v := (11 : Int32)) hx hb d_M_multiplyByMove_26 (by decide) ?_
  refine lv_iload_n (pc := 28) hx hb d_M_multiplyByMove_28 rfl (lv_at hl 3 rfl) ?_
  refine xs_iast (pc := 29) hx hb G ia_4 (xs_inP (by decide)) d_M_multiplyByMove_29 (fun H locs G => ?_)
  obtain ⟨μ4, hμ4, hE⟩ := xs_b hE
  have G := xs_mv G hμ4
  clear hμ4
  refine lv_aload_n (pc := 30) hx hb d_M_multiplyByMove_30 rfl (lv_at hl 0 rfl) ?_
  refine lv_aload_n (pc := 31) hx hb d_M_multiplyByMove_31 rfl (lv_at hl 0 rfl) ?_
  refine gf_M_9 (pc := 32) X G d_M_multiplyByMove_32 ?_
  refine lv_iconst (pc := 35) (v := (0 : Int32)) hx hb d_M_multiplyByMove_35 (by decide) ?_
  refine lv_aload_n (pc := 36) hx hb d_M_multiplyByMove_36 rfl (lv_at hl 0 rfl) ?_
  refine gf_M_16 (pc := 37) X G d_M_multiplyByMove_37 ?_
  obtain ⟨w5, hw5, hE⟩ := xs_b hE
  refine xs_callVr (pc := 40) (as := [.ref (ad 2), .int ((0 : Int32)), .ref (ad 4)]) X (ok_M_multiply l D ad cs hJ ia_2 ia_4 hw5) km_M_44 G (xs_wM ad cs _) rfl ⟨by decide, by decide⟩ ⟨Nat.zero_le _, Nat.zero_le _⟩ rfl hl.1 rfl (Nat.le_of_ble_eq_true rfl) d_M_multiplyByMove_40 (fun H locs G => ?_)
  obtain ⟨hz6, hE⟩ := xs_n hE
  cases hE
  exact xs_zret (pc := 43) hx hb hr hlk G hz6 d_M_multiplyByMove_43
def fn_M_multiplyByStretch (μ0 : xs_M) (x0 : Int32) (x1 : Int32) (x2 : Int32) : Option (Int32 × xs_M) :=
  ((fn_M_setDiagonalFactor μ0 x0 x1 x2).bind fun w1 => ((fn_M_multiply w1 2 16 (0 : Int32) 4).bind fun w2 => (if w2.1 = 0 ∨ w2.1 = 1 then some ((w2.1, w2.2)) else none)))
set_option maxHeartbeats 4000000 in
set_option maxRecDepth 100000 in
theorem ok_M_multiplyByStretch (l : Launch) (D : va_G) (ad : Nat → Nat) (cs : xs_cs) (hJ : xs_J ad) {μ0 : xs_M} {x0 : Int32} {x1 : Int32} {x2 : Int32}  {rz : (Int32 × xs_M)} (hE : fn_M_multiplyByStretch μ0 x0 x1 x2 = some rz) : xs_I l D ad cs y_M_multiplyByStretch b_M_multiplyByStretch 4 (some .boolean) 2 54 [.ref (ad 1), .int (x0), .int (x1), .int (x2)] μ0 (some (.int rz.1)) rz.2 := by
  refine xs_entry hJ (by decide) (Nat.le_of_ble_eq_true rfl) ?_
  intro p e s m below meth c ls X hr hlk G hl
  have X : xs_C p s m c b_M_multiplyByStretch 4 _ "ExactScene$Matrices" := X
  have hx := X.1
  have hb := X.2.1
  have hl : lv_has ls 4 [(0, .ref (ad 1)), (1, .int (x0)), (2, .int (x1)), (3, .int (x2))] := hl
  unfold fn_M_multiplyByStretch at hE
  refine lv_aload_n (pc := 0) hx hb d_M_multiplyByStretch_0 rfl (lv_at hl 0 rfl) ?_
  refine lv_iload_n (pc := 1) hx hb d_M_multiplyByStretch_1 rfl (lv_at hl 1 rfl) ?_
  refine lv_iload_n (pc := 2) hx hb d_M_multiplyByStretch_2 rfl (lv_at hl 2 rfl) ?_
  refine lv_iload_n (pc := 3) hx hb d_M_multiplyByStretch_3 rfl (lv_at hl 3 rfl) ?_
  obtain ⟨w1, hw1, hE⟩ := xs_b hE
  refine xs_callVv (pc := 4) (as := [.int (x0), .int (x1), .int (x2)]) X (ok_M_setDiagonalFactor l D ad cs hJ hw1) km_M_40 G (xs_wM ad cs _) rfl ⟨by decide, by decide⟩ ⟨Nat.zero_le _, Nat.zero_le _⟩ rfl hl.1 rfl (Nat.le_of_ble_eq_true rfl) d_M_multiplyByStretch_4 (fun H locs G => ?_)
  refine lv_aload_n (pc := 7) hx hb d_M_multiplyByStretch_7 rfl (lv_at hl 0 rfl) ?_
  refine lv_aload_n (pc := 8) hx hb d_M_multiplyByStretch_8 rfl (lv_at hl 0 rfl) ?_
  refine gf_M_9 (pc := 9) X G d_M_multiplyByStretch_9 ?_
  refine lv_iconst (pc := 12) (v := (0 : Int32)) hx hb d_M_multiplyByStretch_12 (by decide) ?_
  refine lv_aload_n (pc := 13) hx hb d_M_multiplyByStretch_13 rfl (lv_at hl 0 rfl) ?_
  refine gf_M_16 (pc := 14) X G d_M_multiplyByStretch_14 ?_
  obtain ⟨w2, hw2, hE⟩ := xs_b hE
  refine xs_callVr (pc := 17) (as := [.ref (ad 2), .int ((0 : Int32)), .ref (ad 4)]) X (ok_M_multiply l D ad cs hJ ia_2 ia_4 hw2) km_M_44 G (xs_wM ad cs _) rfl ⟨by decide, by decide⟩ ⟨Nat.zero_le _, Nat.zero_le _⟩ rfl hl.1 rfl (Nat.le_of_ble_eq_true rfl) d_M_multiplyByStretch_17 (fun H locs G => ?_)
  obtain ⟨hz3, hE⟩ := xs_n hE
  cases hE
  exact xs_zret (pc := 20) hx hb hr hlk G hz3 d_M_multiplyByStretch_20
def fn_M_quarterTurn_L2 : Nat → xs_M → Int32 → Int32 → Int32 →  Option (Int32 × xs_M)
  | 0, _, _, _, _ => none
  | fu + 1, μ, v1, v2, v3 => (if (4 : Int32) ≤ v3 then some ((v3, μ)) else (if xs_in ((v3 * (4 : Int32)) + v1) 16 = true then ((some (μ.1 2 ((v3 * (4 : Int32)) + v1).toNatClampNeg)).bind fun a2 => (if xs_in ((v3 * (4 : Int32)) + v2) 16 = true then (if xs_in ((v3 * (4 : Int32)) + v1) 16 = true then ((some (xs_si μ 2 ((v3 * (4 : Int32)) + v1).toNatClampNeg (μ.1 2 ((v3 * (4 : Int32)) + v2).toNatClampNeg))).bind fun μ5 => (if xs_in ((v3 * (4 : Int32)) + v2) 16 = true then ((some (xs_si μ5 2 ((v3 * (4 : Int32)) + v2).toNatClampNeg (-a2))).bind fun μ7 => fn_M_quarterTurn_L2 fu μ7 v1 v2 (v3 + 1)) else none)) else none) else none)) else none))
def fn_M_quarterTurn (μ0 : xs_M) (x0 : Int32) (x1 : Int32) : Option xs_M :=
  ((fn_M_quarterTurn_L2 xs_FU μ0 x0 x1 (0 : Int32)).bind fun z8 => some (z8.2))
set_option maxHeartbeats 4000000 in
set_option maxRecDepth 100000 in
theorem ok_M_quarterTurn (l : Launch) (D : va_G) (ad : Nat → Nat) (cs : xs_cs) (hJ : xs_J ad) {μ0 : xs_M} {x0 : Int32} {x1 : Int32}  {rz : xs_M} (hE : fn_M_quarterTurn μ0 x0 x1 = some rz) : xs_I l D ad cs y_M_quarterTurn b_M_quarterTurn 5 none 0 0 [.ref (ad 1), .int (x0), .int (x1)] μ0 none rz := by
  refine xs_entry hJ (by decide) (Nat.le_of_ble_eq_true rfl) ?_
  intro p e s m below meth c ls X hr hlk G hl
  have X : xs_C p s m c b_M_quarterTurn 5 _ "ExactScene$Matrices" := X
  have hx := X.1
  have hb := X.2.1
  have hl : lv_has ls 5 [(0, .ref (ad 1)), (1, .int (x0)), (2, .int (x1))] := hl
  have L2 : ∀ (fu : Nat) (μ : xs_M) (v1 : Int32) (v2 : Int32) (v3 : Int32) (H : Heap) (locs : List Loc) (ls : Array Slot) (z : (Int32 × xs_M)), fn_M_quarterTurn_L2 fu μ v1 v2 v3 = some z → xs_G D ad cs s (xs_A ad s.heap.size) s.heap μ H locs → lv_has ls 5 [(0, .ref (ad 1)), (1, .int (v1)), (2, .int (v2)), (3, .int (v3))] → (∀ (H : Heap) (locs : List Loc) (ls : Array Slot), xs_G D ad cs s (xs_A ad s.heap.size) s.heap z.2 H locs → lv_has ls 5 [(0, .ref (ad 1)), (1, .int (v1)), (2, .int (v2)), (3, .int (z.1))] → W p l e (xs_rm 0 0) s m ([.ref (ad 1), .int (x0), .int (x1)] : List Value).toArray below meth c H locs 0 0 (xs_E below D ad cs [.ref (ad 1), .int (x0), .int (x1)] s none rz) (F0 m 58 ls [])) → W p l e (xs_rm 0 0) s m ([.ref (ad 1), .int (x0), .int (x1)] : List Value).toArray below meth c H locs 0 0 (xs_E below D ad cs [.ref (ad 1), .int (x0), .int (x1)] s none rz) (F0 m 2 ls []) := by
    clear hE hl G
    intro fu
    induction fu with
    | zero =>
      intro μ v1 v2 v3 H locs ls z hE
      rw [fn_M_quarterTurn_L2] at hE
      cases hE
    | succ fu ih =>
      intro μ v1 v2 v3 H locs ls z hE G hl kk
      rw [fn_M_quarterTurn_L2] at hE
      refine lv_iload_n (pc := 2) hx hb d_M_quarterTurn_2 rfl (lv_at hl 3 rfl) ?_
      refine lv_iconst (pc := 3) (v := (4 : Int32)) hx hb d_M_quarterTurn_3 (by decide) ?_
      refine lv_icmp_ge (pc := 4) (tgt := 58) hx hb d_M_quarterTurn_4 (by decide) (fun hc => ?_) (fun hc => ?_)
      · have hE := xs_t hE hc
        cases hE
        exact kk _ _ _ G (lv_sub hl [0, 1, 2, 3] rfl)
      · have hE := xs_f hE hc
        refine lv_aload_n (pc := 7) hx hb d_M_quarterTurn_7 rfl (lv_at hl 0 rfl) ?_
        refine gf_M_9 (pc := 8) X G d_M_quarterTurn_8 ?_
        refine lv_iload_n (pc := 11) hx hb d_M_quarterTurn_11 rfl (lv_at hl 3 rfl) ?_
        refine lv_iconst (pc := 12) (v := (4 : Int32)) hx hb d_M_quarterTurn_12 (by decide) ?_
        refine lv_imul (pc := 13) hx hb d_M_quarterTurn_13 ?_
        refine lv_iload_n (pc := 14) hx hb d_M_quarterTurn_14 rfl (lv_at hl 1 rfl) ?_
        refine lv_iadd (pc := 15) hx hb d_M_quarterTurn_15 ?_
        obtain ⟨hi1, hE⟩ := xs_n hE
        refine xs_iald (pc := 16) hx hb G ia_2 (xs_inP hi1) d_M_quarterTurn_16 ?_
        obtain ⟨a2, ha2, hE⟩ := xs_b hE
        refine xs_ti ha2 ?_
        clear ha2
        refine lv_istore (pc := 17) hx hb d_M_quarterTurn_17 hl (by decide) (lv' := [(4, .int (a2)), (0, .ref (ad 1)), (1, .int (v1)), (2, .int (v2)), (3, .int (v3))]) rfl (fun ls hl => ?_)
        refine lv_aload_n (pc := 19) hx hb d_M_quarterTurn_19 rfl (lv_at hl 1 rfl) ?_
        refine gf_M_9 (pc := 20) X G d_M_quarterTurn_20 ?_
        refine lv_iload_n (pc := 23) hx hb d_M_quarterTurn_23 rfl (lv_at hl 4 rfl) ?_
        refine lv_iconst (pc := 24) (v := (4 : Int32)) hx hb d_M_quarterTurn_24 (by decide) ?_
        refine lv_imul (pc := 25) hx hb d_M_quarterTurn_25 ?_
        refine lv_iload_n (pc := 26) hx hb d_M_quarterTurn_26 rfl (lv_at hl 2 rfl) ?_
        refine lv_iadd (pc := 27) hx hb d_M_quarterTurn_27 ?_
        refine lv_aload_n (pc := 28) hx hb d_M_quarterTurn_28 rfl (lv_at hl 1 rfl) ?_
        refine gf_M_9 (pc := 29) X G d_M_quarterTurn_29 ?_
        refine lv_iload_n (pc := 32) hx hb d_M_quarterTurn_32 rfl (lv_at hl 4 rfl) ?_
        refine lv_iconst (pc := 33) (v := (4 : Int32)) hx hb d_M_quarterTurn_33 (by decide) ?_
        refine lv_imul (pc := 34) hx hb d_M_quarterTurn_34 ?_
        refine lv_iload_n (pc := 35) hx hb d_M_quarterTurn_35 rfl (lv_at hl 3 rfl) ?_
        refine lv_iadd (pc := 36) hx hb d_M_quarterTurn_36 ?_
        obtain ⟨hi3, hE⟩ := xs_n hE
        refine xs_iald (pc := 37) hx hb G ia_2 (xs_inP hi3) d_M_quarterTurn_37 ?_
        obtain ⟨hi4, hE⟩ := xs_n hE
        refine xs_iast (pc := 38) hx hb G ia_2 (xs_inP hi4) d_M_quarterTurn_38 (fun H locs G => ?_)
        obtain ⟨μ5, hμ5, hE⟩ := xs_b hE
        have G := xs_mv G hμ5
        clear hμ5
        refine lv_aload_n (pc := 39) hx hb d_M_quarterTurn_39 rfl (lv_at hl 1 rfl) ?_
        refine gf_M_9 (pc := 40) X G d_M_quarterTurn_40 ?_
        refine lv_iload_n (pc := 43) hx hb d_M_quarterTurn_43 rfl (lv_at hl 4 rfl) ?_
        refine lv_iconst (pc := 44) (v := (4 : Int32)) hx hb d_M_quarterTurn_44 (by decide) ?_
        refine lv_imul (pc := 45) hx hb d_M_quarterTurn_45 ?_
        refine lv_iload_n (pc := 46) hx hb d_M_quarterTurn_46 rfl (lv_at hl 3 rfl) ?_
        refine lv_iadd (pc := 47) hx hb d_M_quarterTurn_47 ?_
        refine lv_iload (pc := 48) hx hb d_M_quarterTurn_48 (lv_at hl 0 rfl) ?_
        refine lv_ineg (pc := 50) hx hb d_M_quarterTurn_50 ?_
        obtain ⟨hi6, hE⟩ := xs_n hE
        refine xs_iast (pc := 51) hx hb G ia_2 (xs_inP hi6) d_M_quarterTurn_51 (fun H locs G => ?_)
        obtain ⟨μ7, hμ7, hE⟩ := xs_b hE
        have G := xs_mv G hμ7
        clear hμ7
        refine lv_iinc (pc := 52) (v := (v3 + 1)) (k := 4) hx hb d_M_quarterTurn_52 hl rfl (xs_inc _) (by decide) (lv' := [(3, .int ((v3 + 1))), (4, .int (a2)), (0, .ref (ad 1)), (1, .int (v1)), (2, .int (v2))]) rfl (fun ls hl => ?_)
        refine lv_goto (pc := 55) (tgt := 2) hx hb d_M_quarterTurn_55 (by decide) ?_
        exact ih _ _ _ _ _ _ _ _ hE G (lv_sub hl [2, 3, 4, 0] rfl) kk
  unfold fn_M_quarterTurn at hE
  refine lv_iconst (pc := 0) (v := (0 : Int32)) hx hb d_M_quarterTurn_0 (by decide) ?_
  refine lv_istore_n (pc := 1) hx hb d_M_quarterTurn_1 rfl hl (by decide) (lv' := [(3, .int ((0 : Int32))), (0, .ref (ad 1)), (1, .int (x0)), (2, .int (x1))]) rfl (fun ls hl => ?_)
  obtain ⟨z8, hz8, hE⟩ := xs_b hE
  refine L2 _ _ _ _ _ _ _ _ _ hz8 G (lv_sub hl [1, 2, 3, 0] rfl) (fun H locs ls G hl => ?_)
  cases hE
  exact xs_vret (pc := 58) hx hb hr hlk G d_M_quarterTurn_58
def fn_M_isPileEmpty (μ0 : xs_M)  : Option Int32 :=
  (if (μ0.1 1 4) = 0 then some ((1 : Int32)) else some ((0 : Int32)))
set_option maxHeartbeats 4000000 in
set_option maxRecDepth 100000 in
theorem ok_M_isPileEmpty (l : Launch) (D : va_G) (ad : Nat → Nat) (cs : xs_cs) (hJ : xs_J ad) {μ0 : xs_M}   {rz : Int32} (hE : fn_M_isPileEmpty μ0 = some rz) : xs_I l D ad cs y_M_isPileEmpty b_M_isPileEmpty 1 (some .boolean) 0 0 [.ref (ad 1)] μ0 (some (.int rz)) μ0 := by
  refine xs_entry hJ (by decide) (Nat.le_of_ble_eq_true rfl) ?_
  intro p e s m below meth c ls X hr hlk G hl
  have X : xs_C p s m c b_M_isPileEmpty 1 _ "ExactScene$Matrices" := X
  have hx := X.1
  have hb := X.2.1
  have hl : lv_has ls 1 [(0, .ref (ad 1))] := hl
  unfold fn_M_isPileEmpty at hE
  refine lv_aload_n (pc := 0) hx hb d_M_isPileEmpty_0 rfl (lv_at hl 0 rfl) ?_
  refine gf_M_32 (pc := 1) X G d_M_isPileEmpty_1 ?_
  refine lv_if_ne (pc := 4) (tgt := 11) hx hb d_M_isPileEmpty_4 (by decide) (fun hc => ?_) (fun hc => ?_)
  · have hE := xs_f hE hc
    refine lv_iconst (pc := 11) (v := (0 : Int32)) hx hb d_M_isPileEmpty_11 (by decide) ?_
    cases hE
    exact xs_zret (pc := 12) hx hb hr hlk G (Or.inl rfl) d_M_isPileEmpty_12
  · have hE := xs_t hE hc
    refine lv_iconst (pc := 7) (v := (1 : Int32)) hx hb d_M_isPileEmpty_7 (by decide) ?_
    refine lv_goto (pc := 8) (tgt := 12) hx hb d_M_isPileEmpty_8 (by decide) ?_
    cases hE
    exact xs_zret (pc := 12) hx hb hr hlk G (Or.inr rfl) d_M_isPileEmpty_12
def fn_M_multiplyLatestByCurrent (μ0 : xs_M)  : Option (Int32 × xs_M) :=
  ((fn_M_multiply μ0 3 64 (((μ0.1 1 4) - (1 : Int32)) * (16 : Int32)) 2).bind fun w1 => (if w1.1 = 0 then (if w1.1 = 0 ∨ w1.1 = 1 then some ((w1.1, w1.2)) else none) else ((some (xs_si w1.2 1 4 ((w1.2.1 1 4) - (1 : Int32)))).bind fun μ3 => (if w1.1 = 0 ∨ w1.1 = 1 then some ((w1.1, μ3)) else none))))
set_option maxHeartbeats 4000000 in
set_option maxRecDepth 100000 in
theorem ok_M_multiplyLatestByCurrent (l : Launch) (D : va_G) (ad : Nat → Nat) (cs : xs_cs) (hJ : xs_J ad) {μ0 : xs_M}   {rz : (Int32 × xs_M)} (hE : fn_M_multiplyLatestByCurrent μ0 = some rz) : xs_I l D ad cs y_M_multiplyLatestByCurrent b_M_multiplyLatestByCurrent 2 (some .boolean) 2 54 [.ref (ad 1)] μ0 (some (.int rz.1)) rz.2 := by
  refine xs_entry hJ (by decide) (Nat.le_of_ble_eq_true rfl) ?_
  intro p e s m below meth c ls X hr hlk G hl
  have X : xs_C p s m c b_M_multiplyLatestByCurrent 2 _ "ExactScene$Matrices" := X
  have hx := X.1
  have hb := X.2.1
  have hl : lv_has ls 2 [(0, .ref (ad 1))] := hl
  unfold fn_M_multiplyLatestByCurrent at hE
  refine lv_aload_n (pc := 0) hx hb d_M_multiplyLatestByCurrent_0 rfl (lv_at hl 0 rfl) ?_
  refine lv_aload_n (pc := 1) hx hb d_M_multiplyLatestByCurrent_1 rfl (lv_at hl 0 rfl) ?_
  refine gf_M_13 (pc := 2) X G d_M_multiplyLatestByCurrent_2 ?_
  refine lv_aload_n (pc := 5) hx hb d_M_multiplyLatestByCurrent_5 rfl (lv_at hl 0 rfl) ?_
  refine gf_M_32 (pc := 6) X G d_M_multiplyLatestByCurrent_6 ?_
  refine lv_iconst (pc := 9) (v := (1 : Int32)) hx hb d_M_multiplyLatestByCurrent_9 (by decide) ?_
  refine lv_isub (pc := 10) hx hb d_M_multiplyLatestByCurrent_10 ?_
  refine lv_bipush (pc := 11) (v := (16 : Int32)) hx hb d_M_multiplyLatestByCurrent_11 (by decide) ?_
  refine lv_imul (pc := 13) hx hb d_M_multiplyLatestByCurrent_13 ?_
  refine lv_aload_n (pc := 14) hx hb d_M_multiplyLatestByCurrent_14 rfl (lv_at hl 0 rfl) ?_
  refine gf_M_9 (pc := 15) X G d_M_multiplyLatestByCurrent_15 ?_
  obtain ⟨w1, hw1, hE⟩ := xs_b hE
  refine xs_callVr (pc := 18) (as := [.ref (ad 3), .int ((((μ0.1 1 4) - (1 : Int32)) * (16 : Int32))), .ref (ad 2)]) X (ok_M_multiply l D ad cs hJ ia_3 ia_2 hw1) km_M_44 G (xs_wM ad cs _) rfl ⟨by decide, by decide⟩ ⟨Nat.zero_le _, Nat.zero_le _⟩ rfl hl.1 rfl (Nat.le_of_ble_eq_true rfl) d_M_multiplyLatestByCurrent_18 (fun H locs G => ?_)
  refine lv_istore_n (pc := 21) hx hb d_M_multiplyLatestByCurrent_21 rfl hl (by decide) (lv' := [(1, .int (w1.1)), (0, .ref (ad 1))]) rfl (fun ls hl => ?_)
  refine lv_iload_n (pc := 22) hx hb d_M_multiplyLatestByCurrent_22 rfl (lv_at hl 0 rfl) ?_
  refine lv_if_eq (pc := 23) (tgt := 36) hx hb d_M_multiplyLatestByCurrent_23 (by decide) (fun hc => ?_) (fun hc => ?_)
  · have hE := xs_t hE hc
    refine lv_iload_n (pc := 36) hx hb d_M_multiplyLatestByCurrent_36 rfl (lv_at hl 0 rfl) ?_
    obtain ⟨hz2, hE⟩ := xs_n hE
    cases hE
    exact xs_zret (pc := 37) hx hb hr hlk G hz2 d_M_multiplyLatestByCurrent_37
  · have hE := xs_f hE hc
    refine lv_aload_n (pc := 26) hx hb d_M_multiplyLatestByCurrent_26 rfl (lv_at hl 1 rfl) ?_
    refine lv_dup (pc := 27) hx hb d_M_multiplyLatestByCurrent_27 rfl ?_
    refine gf_M_32 (pc := 28) X G d_M_multiplyLatestByCurrent_28 ?_
    refine lv_iconst (pc := 31) (v := (1 : Int32)) hx hb d_M_multiplyLatestByCurrent_31 (by decide) ?_
    refine lv_isub (pc := 32) hx hb d_M_multiplyLatestByCurrent_32 ?_
    refine pf_M_32 (pc := 33) X G d_M_multiplyLatestByCurrent_33 (fun H locs G => ?_)
    obtain ⟨μ3, hμ3, hE⟩ := xs_b hE
    have G := xs_mv G hμ3
    clear hμ3
    refine lv_iload_n (pc := 36) hx hb d_M_multiplyLatestByCurrent_36 rfl (lv_at hl 0 rfl) ?_
    obtain ⟨hz4, hE⟩ := xs_n hE
    cases hE
    exact xs_zret (pc := 37) hx hb hr hlk G hz4 d_M_multiplyLatestByCurrent_37
def fn_M_isPileFull (μ0 : xs_M)  : Option Int32 :=
  (if (μ0.1 1 4) = (4 : Int32) then some ((1 : Int32)) else some ((0 : Int32)))
set_option maxHeartbeats 4000000 in
set_option maxRecDepth 100000 in
theorem ok_M_isPileFull (l : Launch) (D : va_G) (ad : Nat → Nat) (cs : xs_cs) (hJ : xs_J ad) {μ0 : xs_M}   {rz : Int32} (hE : fn_M_isPileFull μ0 = some rz) : xs_I l D ad cs y_M_isPileFull b_M_isPileFull 1 (some .boolean) 0 0 [.ref (ad 1)] μ0 (some (.int rz)) μ0 := by
  refine xs_entry hJ (by decide) (Nat.le_of_ble_eq_true rfl) ?_
  intro p e s m below meth c ls X hr hlk G hl
  have X : xs_C p s m c b_M_isPileFull 1 _ "ExactScene$Matrices" := X
  have hx := X.1
  have hb := X.2.1
  have hl : lv_has ls 1 [(0, .ref (ad 1))] := hl
  unfold fn_M_isPileFull at hE
  refine lv_aload_n (pc := 0) hx hb d_M_isPileFull_0 rfl (lv_at hl 0 rfl) ?_
  refine gf_M_32 (pc := 1) X G d_M_isPileFull_1 ?_
  refine lv_iconst (pc := 4) (v := (4 : Int32)) hx hb d_M_isPileFull_4 (by decide) ?_
  refine lv_icmp_ne (pc := 5) (tgt := 12) hx hb d_M_isPileFull_5 (by decide) (fun hc => ?_) (fun hc => ?_)
  · have hE := xs_f hE hc
    refine lv_iconst (pc := 12) (v := (0 : Int32)) hx hb d_M_isPileFull_12 (by decide) ?_
    cases hE
    exact xs_zret (pc := 13) hx hb hr hlk G (Or.inl rfl) d_M_isPileFull_13
  · have hE := xs_t hE hc
    refine lv_iconst (pc := 8) (v := (1 : Int32)) hx hb d_M_isPileFull_8 (by decide) ?_
    refine lv_goto (pc := 9) (tgt := 13) hx hb d_M_isPileFull_9 (by decide) ?_
    cases hE
    exact xs_zret (pc := 13) hx hb hr hlk G (Or.inr rfl) d_M_isPileFull_13
def fn_M_save (μ0 : xs_M)  : Option xs_M :=
  (if ¬ (0 : Int32) < 0 ∧ ¬ ((μ0.1 1 4) * (16 : Int32)) < 0 ∧ ¬ (16 : Int32) < 0 ∧ (0 : Int32).toNatClampNeg + (16 : Int32).toNatClampNeg ≤ 16 ∧ ((μ0.1 1 4) * (16 : Int32)).toNatClampNeg + (16 : Int32).toNatClampNeg ≤ 64 then ((some (xs_sa μ0 3 (va_cpy (μ0.1 2) (μ0.1 3) (0 : Int32).toNatClampNeg ((μ0.1 1 4) * (16 : Int32)).toNatClampNeg (16 : Int32).toNatClampNeg))).bind fun μ2 => ((some (xs_si μ2 1 4 ((μ2.1 1 4) + (1 : Int32)))).bind fun μ3 => some (μ3))) else none)
set_option maxHeartbeats 4000000 in
set_option maxRecDepth 100000 in
theorem ok_M_save (l : Launch) (D : va_G) (ad : Nat → Nat) (cs : xs_cs) (hJ : xs_J ad) {μ0 : xs_M}   {rz : xs_M} (hE : fn_M_save μ0 = some rz) : xs_I l D ad cs y_M_save b_M_save 1 none 1 26 [.ref (ad 1)] μ0 none rz := by
  refine xs_entry hJ (by decide) (Nat.le_of_ble_eq_true rfl) ?_
  intro p e s m below meth c ls X hr hlk G hl
  have X : xs_C p s m c b_M_save 1 _ "ExactScene$Matrices" := X
  have hx := X.1
  have hb := X.2.1
  have hl : lv_has ls 1 [(0, .ref (ad 1))] := hl
  unfold fn_M_save at hE
  refine lv_aload_n (pc := 0) hx hb d_M_save_0 rfl (lv_at hl 0 rfl) ?_
  refine gf_M_9 (pc := 1) X G d_M_save_1 ?_
  refine lv_iconst (pc := 4) (v := (0 : Int32)) hx hb d_M_save_4 (by decide) ?_
  refine lv_aload_n (pc := 5) hx hb d_M_save_5 rfl (lv_at hl 0 rfl) ?_
  refine gf_M_13 (pc := 6) X G d_M_save_6 ?_
  refine lv_aload_n (pc := 9) hx hb d_M_save_9 rfl (lv_at hl 0 rfl) ?_
  refine gf_M_32 (pc := 10) X G d_M_save_10 ?_
  refine lv_bipush (pc := 13) (v := (16 : Int32)) hx hb d_M_save_13 (by decide) ?_
  refine lv_imul (pc := 15) hx hb d_M_save_15 ?_
  refine lv_bipush (pc := 16) (v := (16 : Int32)) hx hb d_M_save_16 (by decide) ?_
  obtain ⟨hi1, hE⟩ := xs_n hE
  refine xs_copy (pc := 18) X hl.1 cp_M_48.1 cp_M_48.2.1 cp_M_48.2.2.1 cp_M_48.2.2.2 G ia_2 ia_3 hi1 ⟨by decide, by decide⟩ (Nat.le_of_ble_eq_true rfl) d_M_save_18 (fun H locs G => ?_)
  obtain ⟨μ2, hμ2, hE⟩ := xs_b hE
  have G := xs_mv G hμ2
  clear hμ2
  refine lv_aload_n (pc := 21) hx hb d_M_save_21 rfl (lv_at hl 0 rfl) ?_
  refine lv_dup (pc := 22) hx hb d_M_save_22 rfl ?_
  refine gf_M_32 (pc := 23) X G d_M_save_23 ?_
  refine lv_iconst (pc := 26) (v := (1 : Int32)) hx hb d_M_save_26 (by decide) ?_
  refine lv_iadd (pc := 27) hx hb d_M_save_27 ?_
  refine pf_M_32 (pc := 28) X G d_M_save_28 (fun H locs G => ?_)
  obtain ⟨μ3, hμ3, hE⟩ := xs_b hE
  have G := xs_mv G hμ3
  clear hμ3
  cases hE
  exact xs_vret (pc := 31) hx hb hr hlk G d_M_save_31
def fn_M_restore (μ0 : xs_M)  : Option xs_M :=
  ((some (xs_si μ0 1 4 ((μ0.1 1 4) - (1 : Int32)))).bind fun μ1 => (if ¬ ((μ1.1 1 4) * (16 : Int32)) < 0 ∧ ¬ (0 : Int32) < 0 ∧ ¬ (16 : Int32) < 0 ∧ ((μ1.1 1 4) * (16 : Int32)).toNatClampNeg + (16 : Int32).toNatClampNeg ≤ 64 ∧ (0 : Int32).toNatClampNeg + (16 : Int32).toNatClampNeg ≤ 16 then ((some (xs_sa μ1 2 (va_cpy (μ1.1 3) (μ1.1 2) ((μ1.1 1 4) * (16 : Int32)).toNatClampNeg (0 : Int32).toNatClampNeg (16 : Int32).toNatClampNeg))).bind fun μ3 => some (μ3)) else none))
set_option maxHeartbeats 4000000 in
set_option maxRecDepth 100000 in
theorem ok_M_restore (l : Launch) (D : va_G) (ad : Nat → Nat) (cs : xs_cs) (hJ : xs_J ad) {μ0 : xs_M}   {rz : xs_M} (hE : fn_M_restore μ0 = some rz) : xs_I l D ad cs y_M_restore b_M_restore 1 none 1 26 [.ref (ad 1)] μ0 none rz := by
  refine xs_entry hJ (by decide) (Nat.le_of_ble_eq_true rfl) ?_
  intro p e s m below meth c ls X hr hlk G hl
  have X : xs_C p s m c b_M_restore 1 _ "ExactScene$Matrices" := X
  have hx := X.1
  have hb := X.2.1
  have hl : lv_has ls 1 [(0, .ref (ad 1))] := hl
  unfold fn_M_restore at hE
  refine lv_aload_n (pc := 0) hx hb d_M_restore_0 rfl (lv_at hl 0 rfl) ?_
  refine lv_dup (pc := 1) hx hb d_M_restore_1 rfl ?_
  refine gf_M_32 (pc := 2) X G d_M_restore_2 ?_
  refine lv_iconst (pc := 5) (v := (1 : Int32)) hx hb d_M_restore_5 (by decide) ?_
  refine lv_isub (pc := 6) hx hb d_M_restore_6 ?_
  refine pf_M_32 (pc := 7) X G d_M_restore_7 (fun H locs G => ?_)
  obtain ⟨μ1, hμ1, hE⟩ := xs_b hE
  have G := xs_mv G hμ1
  clear hμ1
  refine lv_aload_n (pc := 10) hx hb d_M_restore_10 rfl (lv_at hl 0 rfl) ?_
  refine gf_M_13 (pc := 11) X G d_M_restore_11 ?_
  refine lv_aload_n (pc := 14) hx hb d_M_restore_14 rfl (lv_at hl 0 rfl) ?_
  refine gf_M_32 (pc := 15) X G d_M_restore_15 ?_
  refine lv_bipush (pc := 18) (v := (16 : Int32)) hx hb d_M_restore_18 (by decide) ?_
  refine lv_imul (pc := 20) hx hb d_M_restore_20 ?_
  refine lv_aload_n (pc := 21) hx hb d_M_restore_21 rfl (lv_at hl 0 rfl) ?_
  refine gf_M_9 (pc := 22) X G d_M_restore_22 ?_
  refine lv_iconst (pc := 25) (v := (0 : Int32)) hx hb d_M_restore_25 (by decide) ?_
  refine lv_bipush (pc := 26) (v := (16 : Int32)) hx hb d_M_restore_26 (by decide) ?_
  obtain ⟨hi2, hE⟩ := xs_n hE
  refine xs_copy (pc := 28) X hl.1 cp_M_48.1 cp_M_48.2.1 cp_M_48.2.2.1 cp_M_48.2.2.2 G ia_3 ia_2 hi2 ⟨by decide, by decide⟩ (Nat.le_of_ble_eq_true rfl) d_M_restore_28 (fun H locs G => ?_)
  obtain ⟨μ3, hμ3, hE⟩ := xs_b hE
  have G := xs_mv G hμ3
  clear hμ3
  cases hE
  exact xs_vret (pc := 31) hx hb hr hlk G d_M_restore_31
def fn_M_entryAt (μ0 : xs_M) (x0 : Int32) (x1 : Int32) : Option Int32 :=
  (if xs_in ((x0 * (4 : Int32)) + x1) 16 = true then some ((μ0.1 2 ((x0 * (4 : Int32)) + x1).toNatClampNeg)) else none)
set_option maxHeartbeats 4000000 in
set_option maxRecDepth 100000 in
theorem ok_M_entryAt (l : Launch) (D : va_G) (ad : Nat → Nat) (cs : xs_cs) (hJ : xs_J ad) {μ0 : xs_M} {x0 : Int32} {x1 : Int32}  {rz : Int32} (hE : fn_M_entryAt μ0 x0 x1 = some rz) : xs_I l D ad cs y_M_entryAt b_M_entryAt 3 (some .int) 0 0 [.ref (ad 1), .int (x0), .int (x1)] μ0 (some (.int rz)) μ0 := by
  refine xs_entry hJ (by decide) (Nat.le_of_ble_eq_true rfl) ?_
  intro p e s m below meth c ls X hr hlk G hl
  have X : xs_C p s m c b_M_entryAt 3 _ "ExactScene$Matrices" := X
  have hx := X.1
  have hb := X.2.1
  have hl : lv_has ls 3 [(0, .ref (ad 1)), (1, .int (x0)), (2, .int (x1))] := hl
  unfold fn_M_entryAt at hE
  refine lv_aload_n (pc := 0) hx hb d_M_entryAt_0 rfl (lv_at hl 0 rfl) ?_
  refine gf_M_9 (pc := 1) X G d_M_entryAt_1 ?_
  refine lv_iload_n (pc := 4) hx hb d_M_entryAt_4 rfl (lv_at hl 1 rfl) ?_
  refine lv_iconst (pc := 5) (v := (4 : Int32)) hx hb d_M_entryAt_5 (by decide) ?_
  refine lv_imul (pc := 6) hx hb d_M_entryAt_6 ?_
  refine lv_iload_n (pc := 7) hx hb d_M_entryAt_7 rfl (lv_at hl 2 rfl) ?_
  refine lv_iadd (pc := 8) hx hb d_M_entryAt_8 ?_
  obtain ⟨hi1, hE⟩ := xs_n hE
  refine xs_iald (pc := 9) hx hb G ia_2 (xs_inP hi1) d_M_entryAt_9 ?_
  cases hE
  exact xs_iret (pc := 10) hx hb hr hlk G d_M_entryAt_10
def fn_M_rowTimes (μ0 : xs_M) (x0 : Int32) (x1 : Int32) (x2 : Int32) (x3 : Int32) : Option Int32 :=
  ((fn_M_entryAt μ0 x0 (0 : Int32)).bind fun w1 => ((fn_M_entryAt μ0 x0 (1 : Int32)).bind fun w2 => ((fn_M_entryAt μ0 x0 (2 : Int32)).bind fun w3 => ((fn_M_entryAt μ0 x0 (3 : Int32)).bind fun w4 => some (((((w1 * x1) + (w2 * x2)) + (w3 * x3)) + w4))))))
set_option maxHeartbeats 4000000 in
set_option maxRecDepth 100000 in
theorem ok_M_rowTimes (l : Launch) (D : va_G) (ad : Nat → Nat) (cs : xs_cs) (hJ : xs_J ad) {μ0 : xs_M} {x0 : Int32} {x1 : Int32} {x2 : Int32} {x3 : Int32}  {rz : Int32} (hE : fn_M_rowTimes μ0 x0 x1 x2 x3 = some rz) : xs_I l D ad cs y_M_rowTimes b_M_rowTimes 5 (some .int) 1 22 [.ref (ad 1), .int (x0), .int (x1), .int (x2), .int (x3)] μ0 (some (.int rz)) μ0 := by
  refine xs_entry hJ (by decide) (Nat.le_of_ble_eq_true rfl) ?_
  intro p e s m below meth c ls X hr hlk G hl
  have X : xs_C p s m c b_M_rowTimes 5 _ "ExactScene$Matrices" := X
  have hx := X.1
  have hb := X.2.1
  have hl : lv_has ls 5 [(0, .ref (ad 1)), (1, .int (x0)), (2, .int (x1)), (3, .int (x2)), (4, .int (x3))] := hl
  unfold fn_M_rowTimes at hE
  refine lv_aload_n (pc := 0) hx hb d_M_rowTimes_0 rfl (lv_at hl 0 rfl) ?_
  refine lv_iload_n (pc := 1) hx hb d_M_rowTimes_1 rfl (lv_at hl 1 rfl) ?_
  refine lv_iconst (pc := 2) (v := (0 : Int32)) hx hb d_M_rowTimes_2 (by decide) ?_
  obtain ⟨w1, hw1, hE⟩ := xs_b hE
  refine xs_callVr (pc := 3) (as := [.int (x0), .int ((0 : Int32))]) X (ok_M_entryAt l D ad cs hJ hw1) km_M_36 G (xs_wM ad cs _) rfl ⟨by decide, by decide⟩ ⟨Nat.zero_le _, Nat.zero_le _⟩ rfl hl.1 rfl (Nat.le_of_ble_eq_true rfl) d_M_rowTimes_3 (fun H locs G => ?_)
  refine lv_iload_n (pc := 6) hx hb d_M_rowTimes_6 rfl (lv_at hl 2 rfl) ?_
  refine lv_imul (pc := 7) hx hb d_M_rowTimes_7 ?_
  refine lv_aload_n (pc := 8) hx hb d_M_rowTimes_8 rfl (lv_at hl 0 rfl) ?_
  refine lv_iload_n (pc := 9) hx hb d_M_rowTimes_9 rfl (lv_at hl 1 rfl) ?_
  refine lv_iconst (pc := 10) (v := (1 : Int32)) hx hb d_M_rowTimes_10 (by decide) ?_
  obtain ⟨w2, hw2, hE⟩ := xs_b hE
  refine xs_callVr (pc := 11) (as := [.int (x0), .int ((1 : Int32))]) X (ok_M_entryAt l D ad cs hJ hw2) km_M_36 G (xs_wM ad cs _) rfl ⟨by decide, by decide⟩ ⟨Nat.zero_le _, Nat.zero_le _⟩ rfl hl.1 rfl (Nat.le_of_ble_eq_true rfl) d_M_rowTimes_11 (fun H locs G => ?_)
  refine lv_iload_n (pc := 14) hx hb d_M_rowTimes_14 rfl (lv_at hl 3 rfl) ?_
  refine lv_imul (pc := 15) hx hb d_M_rowTimes_15 ?_
  refine lv_iadd (pc := 16) hx hb d_M_rowTimes_16 ?_
  refine lv_aload_n (pc := 17) hx hb d_M_rowTimes_17 rfl (lv_at hl 0 rfl) ?_
  refine lv_iload_n (pc := 18) hx hb d_M_rowTimes_18 rfl (lv_at hl 1 rfl) ?_
  refine lv_iconst (pc := 19) (v := (2 : Int32)) hx hb d_M_rowTimes_19 (by decide) ?_
  obtain ⟨w3, hw3, hE⟩ := xs_b hE
  refine xs_callVr (pc := 20) (as := [.int (x0), .int ((2 : Int32))]) X (ok_M_entryAt l D ad cs hJ hw3) km_M_36 G (xs_wM ad cs _) rfl ⟨by decide, by decide⟩ ⟨Nat.zero_le _, Nat.zero_le _⟩ rfl hl.1 rfl (Nat.le_of_ble_eq_true rfl) d_M_rowTimes_20 (fun H locs G => ?_)
  refine lv_iload (pc := 23) hx hb d_M_rowTimes_23 (lv_at hl 4 rfl) ?_
  refine lv_imul (pc := 25) hx hb d_M_rowTimes_25 ?_
  refine lv_iadd (pc := 26) hx hb d_M_rowTimes_26 ?_
  refine lv_aload_n (pc := 27) hx hb d_M_rowTimes_27 rfl (lv_at hl 0 rfl) ?_
  refine lv_iload_n (pc := 28) hx hb d_M_rowTimes_28 rfl (lv_at hl 1 rfl) ?_
  refine lv_iconst (pc := 29) (v := (3 : Int32)) hx hb d_M_rowTimes_29 (by decide) ?_
  obtain ⟨w4, hw4, hE⟩ := xs_b hE
  refine xs_callVr (pc := 30) (as := [.int (x0), .int ((3 : Int32))]) X (ok_M_entryAt l D ad cs hJ hw4) km_M_36 G (xs_wM ad cs _) rfl ⟨by decide, by decide⟩ ⟨Nat.zero_le _, Nat.zero_le _⟩ rfl hl.1 rfl (Nat.le_of_ble_eq_true rfl) d_M_rowTimes_30 (fun H locs G => ?_)
  refine lv_iadd (pc := 33) hx hb d_M_rowTimes_33 ?_
  cases hE
  exact xs_iret (pc := 34) hx hb hr hlk G d_M_rowTimes_34
