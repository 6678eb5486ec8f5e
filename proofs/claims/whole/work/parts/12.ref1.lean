theorem d_R_thrown_0 : decode b_R_thrown 0 = .ok (.aload_n 0, 1) := by decide +kernel
theorem d_R_thrown_1 : decode b_R_thrown 1 = .ok (.getfield 59, 3) := by decide +kernel
theorem d_R_thrown_4 : decode b_R_thrown 4 = .ok (.ireturn, 1) := by decide +kernel
theorem d_R_fits_0 : decode b_R_fits 0 = .ok (.lload_n 0, 1) := by decide +kernel
theorem d_R_fits_1 : decode b_R_fits 1 = .ok (.ldc2_w 63, 3) := by decide +kernel
theorem d_R_fits_4 : decode b_R_fits 4 = .ok (.lcmp, 1) := by decide +kernel
theorem d_R_fits_5 : decode b_R_fits 5 = .ok (.ifCond .lt (15), 3) := by decide +kernel
theorem d_R_fits_8 : decode b_R_fits 8 = .ok (.lload_n 0, 1) := by decide +kernel
theorem d_R_fits_9 : decode b_R_fits 9 = .ok (.ldc2_w 65, 3) := by decide +kernel
theorem d_R_fits_12 : decode b_R_fits 12 = .ok (.lcmp, 1) := by decide +kernel
theorem d_R_fits_13 : decode b_R_fits 13 = .ok (.ifCond .gt (7), 3) := by decide +kernel
theorem d_R_fits_16 : decode b_R_fits 16 = .ok (.iconst 1, 1) := by decide +kernel
theorem d_R_fits_17 : decode b_R_fits 17 = .ok (.goto (4), 3) := by decide +kernel
theorem d_R_fits_20 : decode b_R_fits 20 = .ok (.iconst 0, 1) := by decide +kernel
theorem d_R_fits_21 : decode b_R_fits 21 = .ok (.ireturn, 1) := by decide +kernel
theorem d_R_row_0 : decode b_R_row 0 = .ok (.aload_n 0, 1) := by decide +kernel
theorem d_R_row_1 : decode b_R_row 1 = .ok (.iload_n 1, 1) := by decide +kernel
theorem d_R_row_2 : decode b_R_row 2 = .ok (.ifCond .lt (42), 3) := by decide +kernel
theorem d_R_row_5 : decode b_R_row 5 = .ok (.iload_n 1, 1) := by decide +kernel
theorem d_R_row_6 : decode b_R_row 6 = .ok (.iconst 3, 1) := by decide +kernel
theorem d_R_row_7 : decode b_R_row 7 = .ok (.if_icmp .gt (37), 3) := by decide +kernel
theorem d_R_row_10 : decode b_R_row 10 = .ok (.iload_n 2, 1) := by decide +kernel
theorem d_R_row_11 : decode b_R_row 11 = .ok (.i2l, 1) := by decide +kernel
theorem d_R_row_12 : decode b_R_row 12 = .ok (.invokestatic 67, 3) := by decide +kernel
theorem d_R_row_15 : decode b_R_row 15 = .ok (.ifCond .eq (29), 3) := by decide +kernel
theorem d_R_row_18 : decode b_R_row 18 = .ok (.iload_n 3, 1) := by decide +kernel
theorem d_R_row_19 : decode b_R_row 19 = .ok (.i2l, 1) := by decide +kernel
theorem d_R_row_20 : decode b_R_row 20 = .ok (.invokestatic 67, 3) := by decide +kernel
theorem d_R_row_23 : decode b_R_row 23 = .ok (.ifCond .eq (21), 3) := by decide +kernel
theorem d_R_row_26 : decode b_R_row 26 = .ok (.iload 4, 2) := by decide +kernel
theorem d_R_row_28 : decode b_R_row 28 = .ok (.i2l, 1) := by decide +kernel
theorem d_R_row_29 : decode b_R_row 29 = .ok (.invokestatic 67, 3) := by decide +kernel
theorem d_R_row_32 : decode b_R_row 32 = .ok (.ifCond .eq (12), 3) := by decide +kernel
theorem d_R_row_35 : decode b_R_row 35 = .ok (.iload 5, 2) := by decide +kernel
theorem d_R_row_37 : decode b_R_row 37 = .ok (.i2l, 1) := by decide +kernel
theorem d_R_row_38 : decode b_R_row 38 = .ok (.invokestatic 67, 3) := by decide +kernel
theorem d_R_row_41 : decode b_R_row 41 = .ok (.ifCond .ne (7), 3) := by decide +kernel
theorem d_R_row_44 : decode b_R_row 44 = .ok (.iconst 1, 1) := by decide +kernel
theorem d_R_row_45 : decode b_R_row 45 = .ok (.goto (4), 3) := by decide +kernel
theorem d_R_row_48 : decode b_R_row 48 = .ok (.iconst 0, 1) := by decide +kernel
theorem d_R_row_49 : decode b_R_row 49 = .ok (.putfield 59, 3) := by decide +kernel
theorem d_R_row_52 : decode b_R_row 52 = .ok (.aload_n 0, 1) := by decide +kernel
theorem d_R_row_53 : decode b_R_row 53 = .ok (.getfield 59, 3) := by decide +kernel
theorem d_R_row_56 : decode b_R_row 56 = .ok (.ifCond .ne (47), 3) := by decide +kernel
theorem d_R_row_59 : decode b_R_row 59 = .ok (.aload_n 0, 1) := by decide +kernel
theorem d_R_row_60 : decode b_R_row 60 = .ok (.getfield 7, 3) := by decide +kernel
theorem d_R_row_63 : decode b_R_row 63 = .ok (.iconst 4, 1) := by decide +kernel
theorem d_R_row_64 : decode b_R_row 64 = .ok (.iload_n 1, 1) := by decide +kernel
theorem d_R_row_65 : decode b_R_row 65 = .ok (.imul, 1) := by decide +kernel
theorem d_R_row_66 : decode b_R_row 66 = .ok (.iload_n 2, 1) := by decide +kernel
theorem d_R_row_67 : decode b_R_row 67 = .ok (.iastore, 1) := by decide +kernel
theorem d_R_row_68 : decode b_R_row 68 = .ok (.aload_n 0, 1) := by decide +kernel
theorem d_R_row_69 : decode b_R_row 69 = .ok (.getfield 7, 3) := by decide +kernel
theorem d_R_row_72 : decode b_R_row 72 = .ok (.iconst 4, 1) := by decide +kernel
theorem d_R_row_73 : decode b_R_row 73 = .ok (.iload_n 1, 1) := by decide +kernel
theorem d_R_row_74 : decode b_R_row 74 = .ok (.imul, 1) := by decide +kernel
theorem d_R_row_75 : decode b_R_row 75 = .ok (.iconst 1, 1) := by decide +kernel
theorem d_R_row_76 : decode b_R_row 76 = .ok (.iadd, 1) := by decide +kernel
theorem d_R_row_77 : decode b_R_row 77 = .ok (.iload_n 3, 1) := by decide +kernel
theorem d_R_row_78 : decode b_R_row 78 = .ok (.iastore, 1) := by decide +kernel
theorem d_R_row_79 : decode b_R_row 79 = .ok (.aload_n 0, 1) := by decide +kernel
theorem d_R_row_80 : decode b_R_row 80 = .ok (.getfield 7, 3) := by decide +kernel
theorem d_R_row_83 : decode b_R_row 83 = .ok (.iconst 4, 1) := by decide +kernel
theorem d_R_row_84 : decode b_R_row 84 = .ok (.iload_n 1, 1) := by decide +kernel
theorem d_R_row_85 : decode b_R_row 85 = .ok (.imul, 1) := by decide +kernel
theorem d_R_row_86 : decode b_R_row 86 = .ok (.iconst 2, 1) := by decide +kernel
theorem d_R_row_87 : decode b_R_row 87 = .ok (.iadd, 1) := by decide +kernel
theorem d_R_row_88 : decode b_R_row 88 = .ok (.iload 4, 2) := by decide +kernel
theorem d_R_row_90 : decode b_R_row 90 = .ok (.iastore, 1) := by decide +kernel
theorem d_R_row_91 : decode b_R_row 91 = .ok (.aload_n 0, 1) := by decide +kernel
theorem d_R_row_92 : decode b_R_row 92 = .ok (.getfield 7, 3) := by decide +kernel
theorem d_R_row_95 : decode b_R_row 95 = .ok (.iconst 4, 1) := by decide +kernel
theorem d_R_row_96 : decode b_R_row 96 = .ok (.iload_n 1, 1) := by decide +kernel
theorem d_R_row_97 : decode b_R_row 97 = .ok (.imul, 1) := by decide +kernel
theorem d_R_row_98 : decode b_R_row 98 = .ok (.iconst 3, 1) := by decide +kernel
theorem d_R_row_99 : decode b_R_row 99 = .ok (.iadd, 1) := by decide +kernel
theorem d_R_row_100 : decode b_R_row 100 = .ok (.iload 5, 2) := by decide +kernel
theorem d_R_row_102 : decode b_R_row 102 = .ok (.iastore, 1) := by decide +kernel
theorem d_R_row_103 : decode b_R_row 103 = .ok (.return_, 1) := by decide +kernel
theorem d_R_move_0 : decode b_R_move 0 = .ok (.aload_n 0, 1) := by decide +kernel
theorem d_R_move_1 : decode b_R_move 1 = .ok (.iconst 0, 1) := by decide +kernel
theorem d_R_move_2 : decode b_R_move 2 = .ok (.putfield 59, 3) := by decide +kernel
theorem d_R_move_5 : decode b_R_move 5 = .ok (.iconst 0, 1) := by decide +kernel
theorem d_R_move_6 : decode b_R_move 6 = .ok (.istore 4, 2) := by decide +kernel
theorem d_R_move_8 : decode b_R_move 8 = .ok (.iload 4, 2) := by decide +kernel
theorem d_R_move_10 : decode b_R_move 10 = .ok (.iconst 4, 1) := by decide +kernel
theorem d_R_move_11 : decode b_R_move 11 = .ok (.if_icmp .ge (99), 3) := by decide +kernel
theorem d_R_move_14 : decode b_R_move 14 = .ok (.iload_n 1, 1) := by decide +kernel
theorem d_R_move_15 : decode b_R_move 15 = .ok (.i2l, 1) := by decide +kernel
theorem d_R_move_16 : decode b_R_move 16 = .ok (.aload_n 0, 1) := by decide +kernel
theorem d_R_move_17 : decode b_R_move 17 = .ok (.getfield 7, 3) := by decide +kernel
theorem d_R_move_20 : decode b_R_move 20 = .ok (.iconst 4, 1) := by decide +kernel
theorem d_R_move_21 : decode b_R_move 21 = .ok (.iload 4, 2) := by decide +kernel
theorem d_R_move_23 : decode b_R_move 23 = .ok (.imul, 1) := by decide +kernel
theorem d_R_move_24 : decode b_R_move 24 = .ok (.iaload, 1) := by decide +kernel
theorem d_R_move_25 : decode b_R_move 25 = .ok (.i2l, 1) := by decide +kernel
theorem d_R_move_26 : decode b_R_move 26 = .ok (.lmul, 1) := by decide +kernel
theorem d_R_move_27 : decode b_R_move 27 = .ok (.iload_n 2, 1) := by decide +kernel
theorem d_R_move_28 : decode b_R_move 28 = .ok (.i2l, 1) := by decide +kernel
theorem d_R_move_29 : decode b_R_move 29 = .ok (.aload_n 0, 1) := by decide +kernel
theorem d_R_move_30 : decode b_R_move 30 = .ok (.getfield 7, 3) := by decide +kernel
theorem d_R_move_33 : decode b_R_move 33 = .ok (.iconst 4, 1) := by decide +kernel
theorem d_R_move_34 : decode b_R_move 34 = .ok (.iload 4, 2) := by decide +kernel
theorem d_R_move_36 : decode b_R_move 36 = .ok (.imul, 1) := by decide +kernel
theorem d_R_move_37 : decode b_R_move 37 = .ok (.iconst 1, 1) := by decide +kernel
theorem d_R_move_38 : decode b_R_move 38 = .ok (.iadd, 1) := by decide +kernel
theorem d_R_move_39 : decode b_R_move 39 = .ok (.iaload, 1) := by decide +kernel
theorem d_R_move_40 : decode b_R_move 40 = .ok (.i2l, 1) := by decide +kernel
theorem d_R_move_41 : decode b_R_move 41 = .ok (.lmul, 1) := by decide +kernel
theorem d_R_move_42 : decode b_R_move 42 = .ok (.ladd, 1) := by decide +kernel
theorem d_R_move_43 : decode b_R_move 43 = .ok (.iload_n 3, 1) := by decide +kernel
theorem d_R_move_44 : decode b_R_move 44 = .ok (.i2l, 1) := by decide +kernel
theorem d_R_move_45 : decode b_R_move 45 = .ok (.aload_n 0, 1) := by decide +kernel
theorem d_R_move_46 : decode b_R_move 46 = .ok (.getfield 7, 3) := by decide +kernel
theorem d_R_move_49 : decode b_R_move 49 = .ok (.iconst 4, 1) := by decide +kernel
theorem d_R_move_50 : decode b_R_move 50 = .ok (.iload 4, 2) := by decide +kernel
theorem d_R_move_52 : decode b_R_move 52 = .ok (.imul, 1) := by decide +kernel
theorem d_R_move_53 : decode b_R_move 53 = .ok (.iconst 2, 1) := by decide +kernel
theorem d_R_move_54 : decode b_R_move 54 = .ok (.iadd, 1) := by decide +kernel
theorem d_R_move_55 : decode b_R_move 55 = .ok (.iaload, 1) := by decide +kernel
theorem d_R_move_56 : decode b_R_move 56 = .ok (.i2l, 1) := by decide +kernel
theorem d_R_move_57 : decode b_R_move 57 = .ok (.lmul, 1) := by decide +kernel
theorem d_R_move_58 : decode b_R_move 58 = .ok (.ladd, 1) := by decide +kernel
theorem d_R_move_59 : decode b_R_move 59 = .ok (.aload_n 0, 1) := by decide +kernel
theorem d_R_move_60 : decode b_R_move 60 = .ok (.getfield 7, 3) := by decide +kernel
theorem d_R_move_63 : decode b_R_move 63 = .ok (.iconst 4, 1) := by decide +kernel
theorem d_R_move_64 : decode b_R_move 64 = .ok (.iload 4, 2) := by decide +kernel
theorem d_R_move_66 : decode b_R_move 66 = .ok (.imul, 1) := by decide +kernel
theorem d_R_move_67 : decode b_R_move 67 = .ok (.iconst 3, 1) := by decide +kernel
theorem d_R_move_68 : decode b_R_move 68 = .ok (.iadd, 1) := by decide +kernel
theorem d_R_move_69 : decode b_R_move 69 = .ok (.iaload, 1) := by decide +kernel
theorem d_R_move_70 : decode b_R_move 70 = .ok (.i2l, 1) := by decide +kernel
theorem d_R_move_71 : decode b_R_move 71 = .ok (.ladd, 1) := by decide +kernel
theorem d_R_move_72 : decode b_R_move 72 = .ok (.lstore 5, 2) := by decide +kernel
theorem d_R_move_74 : decode b_R_move 74 = .ok (.aload_n 0, 1) := by decide +kernel
theorem d_R_move_75 : decode b_R_move 75 = .ok (.lload 5, 2) := by decide +kernel
theorem d_R_move_77 : decode b_R_move 77 = .ok (.invokestatic 67, 3) := by decide +kernel
theorem d_R_move_80 : decode b_R_move 80 = .ok (.ifCond .eq (10), 3) := by decide +kernel
theorem d_R_move_83 : decode b_R_move 83 = .ok (.aload_n 0, 1) := by decide +kernel
theorem d_R_move_84 : decode b_R_move 84 = .ok (.getfield 59, 3) := by decide +kernel
theorem d_R_move_87 : decode b_R_move 87 = .ok (.goto (4), 3) := by decide +kernel
theorem d_R_move_90 : decode b_R_move 90 = .ok (.iconst 1, 1) := by decide +kernel
theorem d_R_move_91 : decode b_R_move 91 = .ok (.putfield 59, 3) := by decide +kernel
theorem d_R_move_94 : decode b_R_move 94 = .ok (.aload_n 0, 1) := by decide +kernel
theorem d_R_move_95 : decode b_R_move 95 = .ok (.getfield 13, 3) := by decide +kernel
theorem d_R_move_98 : decode b_R_move 98 = .ok (.iload 4, 2) := by decide +kernel
theorem d_R_move_100 : decode b_R_move 100 = .ok (.lload 5, 2) := by decide +kernel
theorem d_R_move_102 : decode b_R_move 102 = .ok (.l2i, 1) := by decide +kernel
theorem d_R_move_103 : decode b_R_move 103 = .ok (.iastore, 1) := by decide +kernel
theorem d_R_move_104 : decode b_R_move 104 = .ok (.iinc 4 (1), 3) := by decide +kernel
theorem d_R_move_107 : decode b_R_move 107 = .ok (.goto (-99), 3) := by decide +kernel
theorem d_R_move_110 : decode b_R_move 110 = .ok (.iconst 0, 1) := by decide +kernel
theorem d_R_move_111 : decode b_R_move 111 = .ok (.istore 4, 2) := by decide +kernel
theorem d_R_move_113 : decode b_R_move 113 = .ok (.iload 4, 2) := by decide +kernel
theorem d_R_move_115 : decode b_R_move 115 = .ok (.iconst 4, 1) := by decide +kernel
theorem d_R_move_116 : decode b_R_move 116 = .ok (.if_icmp .ge (34), 3) := by decide +kernel
theorem d_R_move_119 : decode b_R_move 119 = .ok (.aload_n 0, 1) := by decide +kernel
theorem d_R_move_120 : decode b_R_move 120 = .ok (.getfield 59, 3) := by decide +kernel
theorem d_R_move_123 : decode b_R_move 123 = .ok (.ifCond .ne (27), 3) := by decide +kernel
theorem d_R_move_126 : decode b_R_move 126 = .ok (.aload_n 0, 1) := by decide +kernel
theorem d_R_move_127 : decode b_R_move 127 = .ok (.getfield 7, 3) := by decide +kernel
theorem d_R_move_130 : decode b_R_move 130 = .ok (.iconst 4, 1) := by decide +kernel
theorem d_R_move_131 : decode b_R_move 131 = .ok (.iload 4, 2) := by decide +kernel
theorem d_R_move_133 : decode b_R_move 133 = .ok (.imul, 1) := by decide +kernel
theorem d_R_move_134 : decode b_R_move 134 = .ok (.iconst 3, 1) := by decide +kernel
theorem d_R_move_135 : decode b_R_move 135 = .ok (.iadd, 1) := by decide +kernel
theorem d_R_move_136 : decode b_R_move 136 = .ok (.aload_n 0, 1) := by decide +kernel
theorem d_R_move_137 : decode b_R_move 137 = .ok (.getfield 13, 3) := by decide +kernel
theorem d_R_move_140 : decode b_R_move 140 = .ok (.iload 4, 2) := by decide +kernel
theorem d_R_move_142 : decode b_R_move 142 = .ok (.iaload, 1) := by decide +kernel
theorem d_R_move_143 : decode b_R_move 143 = .ok (.iastore, 1) := by decide +kernel
theorem d_R_move_144 : decode b_R_move 144 = .ok (.iinc 4 (1), 3) := by decide +kernel
theorem d_R_move_147 : decode b_R_move 147 = .ok (.goto (-34), 3) := by decide +kernel
theorem d_R_move_150 : decode b_R_move 150 = .ok (.return_, 1) := by decide +kernel
theorem d_R_stretch_0 : decode b_R_stretch 0 = .ok (.aload_n 0, 1) := by decide +kernel
theorem d_R_stretch_1 : decode b_R_stretch 1 = .ok (.iconst 0, 1) := by decide +kernel
theorem d_R_stretch_2 : decode b_R_stretch 2 = .ok (.putfield 59, 3) := by decide +kernel
theorem d_R_stretch_5 : decode b_R_stretch 5 = .ok (.iconst 0, 1) := by decide +kernel
theorem d_R_stretch_6 : decode b_R_stretch 6 = .ok (.istore 4, 2) := by decide +kernel
theorem d_R_stretch_8 : decode b_R_stretch 8 = .ok (.iload 4, 2) := by decide +kernel
theorem d_R_stretch_10 : decode b_R_stretch 10 = .ok (.bipush (16), 2) := by decide +kernel
theorem d_R_stretch_12 : decode b_R_stretch 12 = .ok (.if_icmp .ge (93), 3) := by decide +kernel
theorem d_R_stretch_15 : decode b_R_stretch 15 = .ok (.iload 4, 2) := by decide +kernel
theorem d_R_stretch_17 : decode b_R_stretch 17 = .ok (.iconst 4, 1) := by decide +kernel
theorem d_R_stretch_18 : decode b_R_stretch 18 = .ok (.irem, 1) := by decide +kernel
theorem d_R_stretch_19 : decode b_R_stretch 19 = .ok (.ifCond .ne (8), 3) := by decide +kernel
theorem d_R_stretch_22 : decode b_R_stretch 22 = .ok (.iload_n 1, 1) := by decide +kernel
theorem d_R_stretch_23 : decode b_R_stretch 23 = .ok (.i2l, 1) := by decide +kernel
theorem d_R_stretch_24 : decode b_R_stretch 24 = .ok (.goto (30), 3) := by decide +kernel
theorem d_R_stretch_27 : decode b_R_stretch 27 = .ok (.iload 4, 2) := by decide +kernel
theorem d_R_stretch_29 : decode b_R_stretch 29 = .ok (.iconst 4, 1) := by decide +kernel
theorem d_R_stretch_30 : decode b_R_stretch 30 = .ok (.irem, 1) := by decide +kernel
theorem d_R_stretch_31 : decode b_R_stretch 31 = .ok (.iconst 1, 1) := by decide +kernel
theorem d_R_stretch_32 : decode b_R_stretch 32 = .ok (.if_icmp .ne (8), 3) := by decide +kernel
theorem d_R_stretch_35 : decode b_R_stretch 35 = .ok (.iload_n 2, 1) := by decide +kernel
theorem d_R_stretch_36 : decode b_R_stretch 36 = .ok (.i2l, 1) := by decide +kernel
theorem d_R_stretch_37 : decode b_R_stretch 37 = .ok (.goto (17), 3) := by decide +kernel
theorem d_R_stretch_40 : decode b_R_stretch 40 = .ok (.iload 4, 2) := by decide +kernel
theorem d_R_stretch_42 : decode b_R_stretch 42 = .ok (.iconst 4, 1) := by decide +kernel
theorem d_R_stretch_43 : decode b_R_stretch 43 = .ok (.irem, 1) := by decide +kernel
theorem d_R_stretch_44 : decode b_R_stretch 44 = .ok (.iconst 2, 1) := by decide +kernel
theorem d_R_stretch_45 : decode b_R_stretch 45 = .ok (.if_icmp .ne (8), 3) := by decide +kernel
theorem d_R_stretch_48 : decode b_R_stretch 48 = .ok (.iload_n 3, 1) := by decide +kernel
theorem d_R_stretch_49 : decode b_R_stretch 49 = .ok (.i2l, 1) := by decide +kernel
theorem d_R_stretch_50 : decode b_R_stretch 50 = .ok (.goto (4), 3) := by decide +kernel
theorem d_R_stretch_53 : decode b_R_stretch 53 = .ok (.lconst 1, 1) := by decide +kernel
theorem d_R_stretch_54 : decode b_R_stretch 54 = .ok (.lstore 5, 2) := by decide +kernel
theorem d_R_stretch_56 : decode b_R_stretch 56 = .ok (.lload 5, 2) := by decide +kernel
theorem d_R_stretch_58 : decode b_R_stretch 58 = .ok (.aload_n 0, 1) := by decide +kernel
theorem d_R_stretch_59 : decode b_R_stretch 59 = .ok (.getfield 7, 3) := by decide +kernel
theorem d_R_stretch_62 : decode b_R_stretch 62 = .ok (.iload 4, 2) := by decide +kernel
theorem d_R_stretch_64 : decode b_R_stretch 64 = .ok (.iaload, 1) := by decide +kernel
theorem d_R_stretch_65 : decode b_R_stretch 65 = .ok (.i2l, 1) := by decide +kernel
theorem d_R_stretch_66 : decode b_R_stretch 66 = .ok (.lmul, 1) := by decide +kernel
theorem d_R_stretch_67 : decode b_R_stretch 67 = .ok (.lstore 7, 2) := by decide +kernel
theorem d_R_stretch_69 : decode b_R_stretch 69 = .ok (.aload_n 0, 1) := by decide +kernel
theorem d_R_stretch_70 : decode b_R_stretch 70 = .ok (.lload 7, 2) := by decide +kernel
theorem d_R_stretch_72 : decode b_R_stretch 72 = .ok (.invokestatic 67, 3) := by decide +kernel
theorem d_R_stretch_75 : decode b_R_stretch 75 = .ok (.ifCond .eq (10), 3) := by decide +kernel
theorem d_R_stretch_78 : decode b_R_stretch 78 = .ok (.aload_n 0, 1) := by decide +kernel
theorem d_R_stretch_79 : decode b_R_stretch 79 = .ok (.getfield 59, 3) := by decide +kernel
theorem d_R_stretch_82 : decode b_R_stretch 82 = .ok (.goto (4), 3) := by decide +kernel
theorem d_R_stretch_85 : decode b_R_stretch 85 = .ok (.iconst 1, 1) := by decide +kernel
theorem d_R_stretch_86 : decode b_R_stretch 86 = .ok (.putfield 59, 3) := by decide +kernel
theorem d_R_stretch_89 : decode b_R_stretch 89 = .ok (.aload_n 0, 1) := by decide +kernel
theorem d_R_stretch_90 : decode b_R_stretch 90 = .ok (.getfield 13, 3) := by decide +kernel
theorem d_R_stretch_93 : decode b_R_stretch 93 = .ok (.iload 4, 2) := by decide +kernel
theorem d_R_stretch_95 : decode b_R_stretch 95 = .ok (.lload 7, 2) := by decide +kernel
theorem d_R_stretch_97 : decode b_R_stretch 97 = .ok (.l2i, 1) := by decide +kernel
theorem d_R_stretch_98 : decode b_R_stretch 98 = .ok (.iastore, 1) := by decide +kernel
theorem d_R_stretch_99 : decode b_R_stretch 99 = .ok (.iinc 4 (1), 3) := by decide +kernel
theorem d_R_stretch_102 : decode b_R_stretch 102 = .ok (.goto (-94), 3) := by decide +kernel
theorem d_R_stretch_105 : decode b_R_stretch 105 = .ok (.iconst 0, 1) := by decide +kernel
theorem d_R_stretch_106 : decode b_R_stretch 106 = .ok (.istore 4, 2) := by decide +kernel
theorem d_R_stretch_108 : decode b_R_stretch 108 = .ok (.iload 4, 2) := by decide +kernel
theorem d_R_stretch_110 : decode b_R_stretch 110 = .ok (.bipush (16), 2) := by decide +kernel
theorem d_R_stretch_112 : decode b_R_stretch 112 = .ok (.if_icmp .ge (30), 3) := by decide +kernel
theorem d_R_stretch_115 : decode b_R_stretch 115 = .ok (.aload_n 0, 1) := by decide +kernel
theorem d_R_stretch_116 : decode b_R_stretch 116 = .ok (.getfield 59, 3) := by decide +kernel
theorem d_R_stretch_119 : decode b_R_stretch 119 = .ok (.ifCond .ne (23), 3) := by decide +kernel
theorem d_R_stretch_122 : decode b_R_stretch 122 = .ok (.aload_n 0, 1) := by decide +kernel
theorem d_R_stretch_123 : decode b_R_stretch 123 = .ok (.getfield 7, 3) := by decide +kernel
theorem d_R_stretch_126 : decode b_R_stretch 126 = .ok (.iload 4, 2) := by decide +kernel
theorem d_R_stretch_128 : decode b_R_stretch 128 = .ok (.aload_n 0, 1) := by decide +kernel
theorem d_R_stretch_129 : decode b_R_stretch 129 = .ok (.getfield 13, 3) := by decide +kernel
theorem d_R_stretch_132 : decode b_R_stretch 132 = .ok (.iload 4, 2) := by decide +kernel
theorem d_R_stretch_134 : decode b_R_stretch 134 = .ok (.iaload, 1) := by decide +kernel
theorem d_R_stretch_135 : decode b_R_stretch 135 = .ok (.iastore, 1) := by decide +kernel
theorem d_R_stretch_136 : decode b_R_stretch 136 = .ok (.iinc 4 (1), 3) := by decide +kernel
theorem d_R_stretch_139 : decode b_R_stretch 139 = .ok (.goto (-31), 3) := by decide +kernel
theorem d_R_stretch_142 : decode b_R_stretch 142 = .ok (.return_, 1) := by decide +kernel
theorem d_R_turn_0 : decode b_R_turn 0 = .ok (.aload_n 0, 1) := by decide +kernel
theorem d_R_turn_1 : decode b_R_turn 1 = .ok (.iload_n 1, 1) := by decide +kernel
theorem d_R_turn_2 : decode b_R_turn 2 = .ok (.ifCond .lt (8), 3) := by decide +kernel
theorem d_R_turn_5 : decode b_R_turn 5 = .ok (.iload_n 1, 1) := by decide +kernel
theorem d_R_turn_6 : decode b_R_turn 6 = .ok (.iconst 2, 1) := by decide +kernel
theorem d_R_turn_7 : decode b_R_turn 7 = .ok (.if_icmp .le (7), 3) := by decide +kernel
theorem d_R_turn_10 : decode b_R_turn 10 = .ok (.iconst 1, 1) := by decide +kernel
theorem d_R_turn_11 : decode b_R_turn 11 = .ok (.goto (4), 3) := by decide +kernel
theorem d_R_turn_14 : decode b_R_turn 14 = .ok (.iconst 0, 1) := by decide +kernel
theorem d_R_turn_15 : decode b_R_turn 15 = .ok (.putfield 59, 3) := by decide +kernel
theorem d_R_turn_18 : decode b_R_turn 18 = .ok (.iload_n 1, 1) := by decide +kernel
theorem d_R_turn_19 : decode b_R_turn 19 = .ok (.ifCond .ne (7), 3) := by decide +kernel
theorem d_R_turn_22 : decode b_R_turn 22 = .ok (.iconst 1, 1) := by decide +kernel
theorem d_R_turn_23 : decode b_R_turn 23 = .ok (.goto (13), 3) := by decide +kernel
theorem d_R_turn_26 : decode b_R_turn 26 = .ok (.iload_n 1, 1) := by decide +kernel
theorem d_R_turn_27 : decode b_R_turn 27 = .ok (.iconst 1, 1) := by decide +kernel
theorem d_R_turn_28 : decode b_R_turn 28 = .ok (.if_icmp .ne (7), 3) := by decide +kernel
theorem d_R_turn_31 : decode b_R_turn 31 = .ok (.iconst 2, 1) := by decide +kernel
theorem d_R_turn_32 : decode b_R_turn 32 = .ok (.goto (4), 3) := by decide +kernel
theorem d_R_turn_35 : decode b_R_turn 35 = .ok (.iconst 0, 1) := by decide +kernel
theorem d_R_turn_36 : decode b_R_turn 36 = .ok (.istore_n 2, 1) := by decide +kernel
theorem d_R_turn_37 : decode b_R_turn 37 = .ok (.iload_n 1, 1) := by decide +kernel
theorem d_R_turn_38 : decode b_R_turn 38 = .ok (.ifCond .ne (7), 3) := by decide +kernel
theorem d_R_turn_41 : decode b_R_turn 41 = .ok (.iconst 2, 1) := by decide +kernel
theorem d_R_turn_42 : decode b_R_turn 42 = .ok (.goto (13), 3) := by decide +kernel
theorem d_R_turn_45 : decode b_R_turn 45 = .ok (.iload_n 1, 1) := by decide +kernel
theorem d_R_turn_46 : decode b_R_turn 46 = .ok (.iconst 1, 1) := by decide +kernel
theorem d_R_turn_47 : decode b_R_turn 47 = .ok (.if_icmp .ne (7), 3) := by decide +kernel
theorem d_R_turn_50 : decode b_R_turn 50 = .ok (.iconst 0, 1) := by decide +kernel
theorem d_R_turn_51 : decode b_R_turn 51 = .ok (.goto (4), 3) := by decide +kernel
theorem d_R_turn_54 : decode b_R_turn 54 = .ok (.iconst 1, 1) := by decide +kernel
theorem d_R_turn_55 : decode b_R_turn 55 = .ok (.istore_n 3, 1) := by decide +kernel
theorem d_R_turn_56 : decode b_R_turn 56 = .ok (.iconst 0, 1) := by decide +kernel
theorem d_R_turn_57 : decode b_R_turn 57 = .ok (.istore 4, 2) := by decide +kernel
theorem d_R_turn_59 : decode b_R_turn 59 = .ok (.iload 4, 2) := by decide +kernel
theorem d_R_turn_61 : decode b_R_turn 61 = .ok (.iconst 4, 1) := by decide +kernel
theorem d_R_turn_62 : decode b_R_turn 62 = .ok (.if_icmp .ge (65), 3) := by decide +kernel
theorem d_R_turn_65 : decode b_R_turn 65 = .ok (.aload_n 0, 1) := by decide +kernel
theorem d_R_turn_66 : decode b_R_turn 66 = .ok (.getfield 59, 3) := by decide +kernel
theorem d_R_turn_69 : decode b_R_turn 69 = .ok (.ifCond .ne (58), 3) := by decide +kernel
theorem d_R_turn_72 : decode b_R_turn 72 = .ok (.aload_n 0, 1) := by decide +kernel
theorem d_R_turn_73 : decode b_R_turn 73 = .ok (.getfield 7, 3) := by decide +kernel
theorem d_R_turn_76 : decode b_R_turn 76 = .ok (.iconst 4, 1) := by decide +kernel
theorem d_R_turn_77 : decode b_R_turn 77 = .ok (.iload 4, 2) := by decide +kernel
theorem d_R_turn_79 : decode b_R_turn 79 = .ok (.imul, 1) := by decide +kernel
theorem d_R_turn_80 : decode b_R_turn 80 = .ok (.iload_n 2, 1) := by decide +kernel
theorem d_R_turn_81 : decode b_R_turn 81 = .ok (.iadd, 1) := by decide +kernel
theorem d_R_turn_82 : decode b_R_turn 82 = .ok (.iaload, 1) := by decide +kernel
theorem d_R_turn_83 : decode b_R_turn 83 = .ok (.istore 5, 2) := by decide +kernel
theorem d_R_turn_85 : decode b_R_turn 85 = .ok (.aload_n 0, 1) := by decide +kernel
theorem d_R_turn_86 : decode b_R_turn 86 = .ok (.getfield 7, 3) := by decide +kernel
theorem d_R_turn_89 : decode b_R_turn 89 = .ok (.iconst 4, 1) := by decide +kernel
theorem d_R_turn_90 : decode b_R_turn 90 = .ok (.iload 4, 2) := by decide +kernel
theorem d_R_turn_92 : decode b_R_turn 92 = .ok (.imul, 1) := by decide +kernel
theorem d_R_turn_93 : decode b_R_turn 93 = .ok (.iload_n 2, 1) := by decide +kernel
theorem d_R_turn_94 : decode b_R_turn 94 = .ok (.iadd, 1) := by decide +kernel
theorem d_R_turn_95 : decode b_R_turn 95 = .ok (.aload_n 0, 1) := by decide +kernel
theorem d_R_turn_96 : decode b_R_turn 96 = .ok (.getfield 7, 3) := by decide +kernel
theorem d_R_turn_99 : decode b_R_turn 99 = .ok (.iconst 4, 1) := by decide +kernel
theorem d_R_turn_100 : decode b_R_turn 100 = .ok (.iload 4, 2) := by decide +kernel
theorem d_R_turn_102 : decode b_R_turn 102 = .ok (.imul, 1) := by decide +kernel
theorem d_R_turn_103 : decode b_R_turn 103 = .ok (.iload_n 3, 1) := by decide +kernel
theorem d_R_turn_104 : decode b_R_turn 104 = .ok (.iadd, 1) := by decide +kernel
theorem d_R_turn_105 : decode b_R_turn 105 = .ok (.iaload, 1) := by decide +kernel
theorem d_R_turn_106 : decode b_R_turn 106 = .ok (.iastore, 1) := by decide +kernel
theorem d_R_turn_107 : decode b_R_turn 107 = .ok (.aload_n 0, 1) := by decide +kernel
theorem d_R_turn_108 : decode b_R_turn 108 = .ok (.getfield 7, 3) := by decide +kernel
theorem d_R_turn_111 : decode b_R_turn 111 = .ok (.iconst 4, 1) := by decide +kernel
theorem d_R_turn_112 : decode b_R_turn 112 = .ok (.iload 4, 2) := by decide +kernel
theorem d_R_turn_114 : decode b_R_turn 114 = .ok (.imul, 1) := by decide +kernel
theorem d_R_turn_115 : decode b_R_turn 115 = .ok (.iload_n 3, 1) := by decide +kernel
theorem d_R_turn_116 : decode b_R_turn 116 = .ok (.iadd, 1) := by decide +kernel
theorem d_R_turn_117 : decode b_R_turn 117 = .ok (.iload 5, 2) := by decide +kernel
theorem d_R_turn_119 : decode b_R_turn 119 = .ok (.ineg, 1) := by decide +kernel
theorem d_R_turn_120 : decode b_R_turn 120 = .ok (.iastore, 1) := by decide +kernel
theorem d_R_turn_121 : decode b_R_turn 121 = .ok (.iinc 4 (1), 3) := by decide +kernel
theorem d_R_turn_124 : decode b_R_turn 124 = .ok (.goto (-65), 3) := by decide +kernel
theorem d_R_turn_127 : decode b_R_turn 127 = .ok (.return_, 1) := by decide +kernel
theorem d_R_join_0 : decode b_R_join 0 = .ok (.aload_n 0, 1) := by decide +kernel
theorem d_R_join_1 : decode b_R_join 1 = .ok (.aload_n 0, 1) := by decide +kernel
theorem d_R_join_2 : decode b_R_join 2 = .ok (.getfield 71, 3) := by decide +kernel
theorem d_R_join_5 : decode b_R_join 5 = .ok (.ifCond .ne (7), 3) := by decide +kernel
theorem d_R_join_8 : decode b_R_join 8 = .ok (.iconst 1, 1) := by decide +kernel
theorem d_R_join_9 : decode b_R_join 9 = .ok (.goto (4), 3) := by decide +kernel
theorem d_R_join_12 : decode b_R_join 12 = .ok (.iconst 0, 1) := by decide +kernel
theorem d_R_join_13 : decode b_R_join 13 = .ok (.putfield 59, 3) := by decide +kernel
theorem d_R_join_16 : decode b_R_join 16 = .ok (.iconst 0, 1) := by decide +kernel
theorem d_R_join_17 : decode b_R_join 17 = .ok (.istore_n 1, 1) := by decide +kernel
theorem d_R_join_18 : decode b_R_join 18 = .ok (.iload_n 1, 1) := by decide +kernel
theorem d_R_join_19 : decode b_R_join 19 = .ok (.bipush (16), 2) := by decide +kernel
theorem d_R_join_21 : decode b_R_join 21 = .ok (.if_icmp .ge (103), 3) := by decide +kernel
theorem d_R_join_24 : decode b_R_join 24 = .ok (.aload_n 0, 1) := by decide +kernel
theorem d_R_join_25 : decode b_R_join 25 = .ok (.getfield 71, 3) := by decide +kernel
theorem d_R_join_28 : decode b_R_join 28 = .ok (.ifCond .le (96), 3) := by decide +kernel
theorem d_R_join_31 : decode b_R_join 31 = .ok (.lconst 0, 1) := by decide +kernel
theorem d_R_join_32 : decode b_R_join 32 = .ok (.lstore_n 2, 1) := by decide +kernel
theorem d_R_join_33 : decode b_R_join 33 = .ok (.iconst 0, 1) := by decide +kernel
theorem d_R_join_34 : decode b_R_join 34 = .ok (.istore 4, 2) := by decide +kernel
theorem d_R_join_36 : decode b_R_join 36 = .ok (.iload 4, 2) := by decide +kernel
theorem d_R_join_38 : decode b_R_join 38 = .ok (.iconst 4, 1) := by decide +kernel
theorem d_R_join_39 : decode b_R_join 39 = .ok (.if_icmp .ge (52), 3) := by decide +kernel
theorem d_R_join_42 : decode b_R_join 42 = .ok (.lload_n 2, 1) := by decide +kernel
theorem d_R_join_43 : decode b_R_join 43 = .ok (.aload_n 0, 1) := by decide +kernel
theorem d_R_join_44 : decode b_R_join 44 = .ok (.getfield 16, 3) := by decide +kernel
theorem d_R_join_47 : decode b_R_join 47 = .ok (.bipush (16), 2) := by decide +kernel
theorem d_R_join_49 : decode b_R_join 49 = .ok (.aload_n 0, 1) := by decide +kernel
theorem d_R_join_50 : decode b_R_join 50 = .ok (.getfield 71, 3) := by decide +kernel
theorem d_R_join_53 : decode b_R_join 53 = .ok (.imul, 1) := by decide +kernel
theorem d_R_join_54 : decode b_R_join 54 = .ok (.bipush (16), 2) := by decide +kernel
theorem d_R_join_56 : decode b_R_join 56 = .ok (.isub, 1) := by decide +kernel
theorem d_R_join_57 : decode b_R_join 57 = .ok (.iconst 4, 1) := by decide +kernel
theorem d_R_join_58 : decode b_R_join 58 = .ok (.iload_n 1, 1) := by decide +kernel
theorem d_R_join_59 : decode b_R_join 59 = .ok (.iconst 4, 1) := by decide +kernel
theorem d_R_join_60 : decode b_R_join 60 = .ok (.idiv, 1) := by decide +kernel
theorem d_R_join_61 : decode b_R_join 61 = .ok (.imul, 1) := by decide +kernel
theorem d_R_join_62 : decode b_R_join 62 = .ok (.iadd, 1) := by decide +kernel
theorem d_R_join_63 : decode b_R_join 63 = .ok (.iload 4, 2) := by decide +kernel
theorem d_R_join_65 : decode b_R_join 65 = .ok (.iadd, 1) := by decide +kernel
theorem d_R_join_66 : decode b_R_join 66 = .ok (.iaload, 1) := by decide +kernel
theorem d_R_join_67 : decode b_R_join 67 = .ok (.i2l, 1) := by decide +kernel
theorem d_R_join_68 : decode b_R_join 68 = .ok (.aload_n 0, 1) := by decide +kernel
theorem d_R_join_69 : decode b_R_join 69 = .ok (.getfield 7, 3) := by decide +kernel
theorem d_R_join_72 : decode b_R_join 72 = .ok (.iconst 4, 1) := by decide +kernel
theorem d_R_join_73 : decode b_R_join 73 = .ok (.iload 4, 2) := by decide +kernel
theorem d_R_join_75 : decode b_R_join 75 = .ok (.imul, 1) := by decide +kernel
theorem d_R_join_76 : decode b_R_join 76 = .ok (.iload_n 1, 1) := by decide +kernel
theorem d_R_join_77 : decode b_R_join 77 = .ok (.iconst 4, 1) := by decide +kernel
theorem d_R_join_78 : decode b_R_join 78 = .ok (.irem, 1) := by decide +kernel
theorem d_R_join_79 : decode b_R_join 79 = .ok (.iadd, 1) := by decide +kernel
theorem d_R_join_80 : decode b_R_join 80 = .ok (.iaload, 1) := by decide +kernel
theorem d_R_join_81 : decode b_R_join 81 = .ok (.i2l, 1) := by decide +kernel
theorem d_R_join_82 : decode b_R_join 82 = .ok (.lmul, 1) := by decide +kernel
theorem d_R_join_83 : decode b_R_join 83 = .ok (.ladd, 1) := by decide +kernel
theorem d_R_join_84 : decode b_R_join 84 = .ok (.lstore_n 2, 1) := by decide +kernel
theorem d_R_join_85 : decode b_R_join 85 = .ok (.iinc 4 (1), 3) := by decide +kernel
theorem d_R_join_88 : decode b_R_join 88 = .ok (.goto (-52), 3) := by decide +kernel
theorem d_R_join_91 : decode b_R_join 91 = .ok (.aload_n 0, 1) := by decide +kernel
theorem d_R_join_92 : decode b_R_join 92 = .ok (.lload_n 2, 1) := by decide +kernel
theorem d_R_join_93 : decode b_R_join 93 = .ok (.invokestatic 67, 3) := by decide +kernel
theorem d_R_join_96 : decode b_R_join 96 = .ok (.ifCond .eq (10), 3) := by decide +kernel
theorem d_R_join_99 : decode b_R_join 99 = .ok (.aload_n 0, 1) := by decide +kernel
theorem d_R_join_100 : decode b_R_join 100 = .ok (.getfield 59, 3) := by decide +kernel
theorem d_R_join_103 : decode b_R_join 103 = .ok (.goto (4), 3) := by decide +kernel
theorem d_R_join_106 : decode b_R_join 106 = .ok (.iconst 2, 1) := by decide +kernel
theorem d_R_join_107 : decode b_R_join 107 = .ok (.putfield 59, 3) := by decide +kernel
theorem d_R_join_110 : decode b_R_join 110 = .ok (.aload_n 0, 1) := by decide +kernel
theorem d_R_join_111 : decode b_R_join 111 = .ok (.getfield 13, 3) := by decide +kernel
theorem d_R_join_114 : decode b_R_join 114 = .ok (.iload_n 1, 1) := by decide +kernel
theorem d_R_join_115 : decode b_R_join 115 = .ok (.lload_n 2, 1) := by decide +kernel
theorem d_R_join_116 : decode b_R_join 116 = .ok (.l2i, 1) := by decide +kernel
theorem d_R_join_117 : decode b_R_join 117 = .ok (.iastore, 1) := by decide +kernel
theorem d_R_join_118 : decode b_R_join 118 = .ok (.iinc 1 (1), 3) := by decide +kernel
theorem d_R_join_121 : decode b_R_join 121 = .ok (.goto (-103), 3) := by decide +kernel
theorem d_R_join_124 : decode b_R_join 124 = .ok (.aload_n 0, 1) := by decide +kernel
theorem d_R_join_125 : decode b_R_join 125 = .ok (.getfield 59, 3) := by decide +kernel
theorem d_R_join_128 : decode b_R_join 128 = .ok (.ifCond .ne (39), 3) := by decide +kernel
theorem d_R_join_131 : decode b_R_join 131 = .ok (.aload_n 0, 1) := by decide +kernel
theorem d_R_join_132 : decode b_R_join 132 = .ok (.dup, 1) := by decide +kernel
theorem d_R_join_133 : decode b_R_join 133 = .ok (.getfield 71, 3) := by decide +kernel
theorem d_R_join_136 : decode b_R_join 136 = .ok (.iconst 1, 1) := by decide +kernel
theorem d_R_join_137 : decode b_R_join 137 = .ok (.isub, 1) := by decide +kernel
theorem d_R_join_138 : decode b_R_join 138 = .ok (.putfield 71, 3) := by decide +kernel
theorem d_R_join_141 : decode b_R_join 141 = .ok (.iconst 0, 1) := by decide +kernel
theorem d_R_join_142 : decode b_R_join 142 = .ok (.istore_n 1, 1) := by decide +kernel
theorem d_R_join_143 : decode b_R_join 143 = .ok (.iload_n 1, 1) := by decide +kernel
theorem d_R_join_144 : decode b_R_join 144 = .ok (.bipush (16), 2) := by decide +kernel
theorem d_R_join_146 : decode b_R_join 146 = .ok (.if_icmp .ge (21), 3) := by decide +kernel
theorem d_R_join_149 : decode b_R_join 149 = .ok (.aload_n 0, 1) := by decide +kernel
theorem d_R_join_150 : decode b_R_join 150 = .ok (.getfield 7, 3) := by decide +kernel
theorem d_R_join_153 : decode b_R_join 153 = .ok (.iload_n 1, 1) := by decide +kernel
theorem d_R_join_154 : decode b_R_join 154 = .ok (.aload_n 0, 1) := by decide +kernel
theorem d_R_join_155 : decode b_R_join 155 = .ok (.getfield 13, 3) := by decide +kernel
theorem d_R_join_158 : decode b_R_join 158 = .ok (.iload_n 1, 1) := by decide +kernel
theorem d_R_join_159 : decode b_R_join 159 = .ok (.iaload, 1) := by decide +kernel
theorem d_R_join_160 : decode b_R_join 160 = .ok (.iastore, 1) := by decide +kernel
theorem d_R_join_161 : decode b_R_join 161 = .ok (.iinc 1 (1), 3) := by decide +kernel
theorem d_R_join_164 : decode b_R_join 164 = .ok (.goto (-21), 3) := by decide +kernel
theorem d_R_join_167 : decode b_R_join 167 = .ok (.return_, 1) := by decide +kernel
theorem d_R_push_0 : decode b_R_push 0 = .ok (.aload_n 0, 1) := by decide +kernel
theorem d_R_push_1 : decode b_R_push 1 = .ok (.aload_n 0, 1) := by decide +kernel
theorem d_R_push_2 : decode b_R_push 2 = .ok (.getfield 71, 3) := by decide +kernel
theorem d_R_push_5 : decode b_R_push 5 = .ok (.iconst 4, 1) := by decide +kernel
theorem d_R_push_6 : decode b_R_push 6 = .ok (.if_icmp .ne (7), 3) := by decide +kernel
theorem d_R_push_9 : decode b_R_push 9 = .ok (.iconst 1, 1) := by decide +kernel
theorem d_R_push_10 : decode b_R_push 10 = .ok (.goto (4), 3) := by decide +kernel
theorem d_R_push_13 : decode b_R_push 13 = .ok (.iconst 0, 1) := by decide +kernel
theorem d_R_push_14 : decode b_R_push 14 = .ok (.putfield 59, 3) := by decide +kernel
theorem d_R_push_17 : decode b_R_push 17 = .ok (.aload_n 0, 1) := by decide +kernel
theorem d_R_push_18 : decode b_R_push 18 = .ok (.getfield 59, 3) := by decide +kernel
theorem d_R_push_21 : decode b_R_push 21 = .ok (.ifCond .ne (47), 3) := by decide +kernel
theorem d_R_push_24 : decode b_R_push 24 = .ok (.iconst 0, 1) := by decide +kernel
theorem d_R_push_25 : decode b_R_push 25 = .ok (.istore_n 1, 1) := by decide +kernel
theorem d_R_push_26 : decode b_R_push 26 = .ok (.iload_n 1, 1) := by decide +kernel
theorem d_R_push_27 : decode b_R_push 27 = .ok (.bipush (16), 2) := by decide +kernel
theorem d_R_push_29 : decode b_R_push 29 = .ok (.if_icmp .ge (29), 3) := by decide +kernel
theorem d_R_push_32 : decode b_R_push 32 = .ok (.aload_n 0, 1) := by decide +kernel
theorem d_R_push_33 : decode b_R_push 33 = .ok (.getfield 16, 3) := by decide +kernel
theorem d_R_push_36 : decode b_R_push 36 = .ok (.bipush (16), 2) := by decide +kernel
theorem d_R_push_38 : decode b_R_push 38 = .ok (.aload_n 0, 1) := by decide +kernel
theorem d_R_push_39 : decode b_R_push 39 = .ok (.getfield 71, 3) := by decide +kernel
theorem d_R_push_42 : decode b_R_push 42 = .ok (.imul, 1) := by decide +kernel
theorem d_R_push_43 : decode b_R_push 43 = .ok (.iload_n 1, 1) := by decide +kernel
theorem d_R_push_44 : decode b_R_push 44 = .ok (.iadd, 1) := by decide +kernel
theorem d_R_push_45 : decode b_R_push 45 = .ok (.aload_n 0, 1) := by decide +kernel
theorem d_R_push_46 : decode b_R_push 46 = .ok (.getfield 7, 3) := by decide +kernel
theorem d_R_push_49 : decode b_R_push 49 = .ok (.iload_n 1, 1) := by decide +kernel
theorem d_R_push_50 : decode b_R_push 50 = .ok (.iaload, 1) := by decide +kernel
theorem d_R_push_51 : decode b_R_push 51 = .ok (.iastore, 1) := by decide +kernel
theorem d_R_push_52 : decode b_R_push 52 = .ok (.iinc 1 (1), 3) := by decide +kernel
theorem d_R_push_55 : decode b_R_push 55 = .ok (.goto (-29), 3) := by decide +kernel
theorem d_R_push_58 : decode b_R_push 58 = .ok (.aload_n 0, 1) := by decide +kernel
theorem d_R_push_59 : decode b_R_push 59 = .ok (.dup, 1) := by decide +kernel
theorem d_R_push_60 : decode b_R_push 60 = .ok (.getfield 71, 3) := by decide +kernel
theorem d_R_push_63 : decode b_R_push 63 = .ok (.iconst 1, 1) := by decide +kernel
theorem d_R_push_64 : decode b_R_push 64 = .ok (.iadd, 1) := by decide +kernel
theorem d_R_push_65 : decode b_R_push 65 = .ok (.putfield 71, 3) := by decide +kernel
theorem d_R_push_68 : decode b_R_push 68 = .ok (.return_, 1) := by decide +kernel
theorem d_R_pop_0 : decode b_R_pop 0 = .ok (.aload_n 0, 1) := by decide +kernel
theorem d_R_pop_1 : decode b_R_pop 1 = .ok (.aload_n 0, 1) := by decide +kernel
theorem d_R_pop_2 : decode b_R_pop 2 = .ok (.getfield 71, 3) := by decide +kernel
theorem d_R_pop_5 : decode b_R_pop 5 = .ok (.ifCond .ne (7), 3) := by decide +kernel
theorem d_R_pop_8 : decode b_R_pop 8 = .ok (.iconst 1, 1) := by decide +kernel
theorem d_R_pop_9 : decode b_R_pop 9 = .ok (.goto (4), 3) := by decide +kernel
theorem d_R_pop_12 : decode b_R_pop 12 = .ok (.iconst 0, 1) := by decide +kernel
theorem d_R_pop_13 : decode b_R_pop 13 = .ok (.putfield 59, 3) := by decide +kernel
theorem d_R_pop_16 : decode b_R_pop 16 = .ok (.aload_n 0, 1) := by decide +kernel
theorem d_R_pop_17 : decode b_R_pop 17 = .ok (.getfield 59, 3) := by decide +kernel
theorem d_R_pop_20 : decode b_R_pop 20 = .ok (.ifCond .ne (47), 3) := by decide +kernel
theorem d_R_pop_23 : decode b_R_pop 23 = .ok (.aload_n 0, 1) := by decide +kernel
theorem d_R_pop_24 : decode b_R_pop 24 = .ok (.dup, 1) := by decide +kernel
theorem d_R_pop_25 : decode b_R_pop 25 = .ok (.getfield 71, 3) := by decide +kernel
theorem d_R_pop_28 : decode b_R_pop 28 = .ok (.iconst 1, 1) := by decide +kernel
theorem d_R_pop_29 : decode b_R_pop 29 = .ok (.isub, 1) := by decide +kernel
theorem d_R_pop_30 : decode b_R_pop 30 = .ok (.putfield 71, 3) := by decide +kernel
theorem d_R_pop_33 : decode b_R_pop 33 = .ok (.iconst 0, 1) := by decide +kernel
theorem d_R_pop_34 : decode b_R_pop 34 = .ok (.istore_n 1, 1) := by decide +kernel
theorem d_R_pop_35 : decode b_R_pop 35 = .ok (.iload_n 1, 1) := by decide +kernel
theorem d_R_pop_36 : decode b_R_pop 36 = .ok (.bipush (16), 2) := by decide +kernel
theorem d_R_pop_38 : decode b_R_pop 38 = .ok (.if_icmp .ge (29), 3) := by decide +kernel
theorem d_R_pop_41 : decode b_R_pop 41 = .ok (.aload_n 0, 1) := by decide +kernel
theorem d_R_pop_42 : decode b_R_pop 42 = .ok (.getfield 7, 3) := by decide +kernel
theorem d_R_pop_45 : decode b_R_pop 45 = .ok (.iload_n 1, 1) := by decide +kernel
theorem d_R_pop_46 : decode b_R_pop 46 = .ok (.aload_n 0, 1) := by decide +kernel
theorem d_R_pop_47 : decode b_R_pop 47 = .ok (.getfield 16, 3) := by decide +kernel
theorem d_R_pop_50 : decode b_R_pop 50 = .ok (.bipush (16), 2) := by decide +kernel
theorem d_R_pop_52 : decode b_R_pop 52 = .ok (.aload_n 0, 1) := by decide +kernel
theorem d_R_pop_53 : decode b_R_pop 53 = .ok (.getfield 71, 3) := by decide +kernel
theorem d_R_pop_56 : decode b_R_pop 56 = .ok (.imul, 1) := by decide +kernel
theorem d_R_pop_57 : decode b_R_pop 57 = .ok (.iload_n 1, 1) := by decide +kernel
theorem d_R_pop_58 : decode b_R_pop 58 = .ok (.iadd, 1) := by decide +kernel
theorem d_R_pop_59 : decode b_R_pop 59 = .ok (.iaload, 1) := by decide +kernel
theorem d_R_pop_60 : decode b_R_pop 60 = .ok (.iastore, 1) := by decide +kernel
theorem d_R_pop_61 : decode b_R_pop 61 = .ok (.iinc 1 (1), 3) := by decide +kernel
theorem d_R_pop_64 : decode b_R_pop 64 = .ok (.goto (-29), 3) := by decide +kernel
theorem d_R_pop_67 : decode b_R_pop 67 = .ok (.return_, 1) := by decide +kernel
theorem d_R_entry_0 : decode b_R_entry 0 = .ok (.aload_n 0, 1) := by decide +kernel
theorem d_R_entry_1 : decode b_R_entry 1 = .ok (.iload_n 1, 1) := by decide +kernel
theorem d_R_entry_2 : decode b_R_entry 2 = .ok (.ifCond .lt (17), 3) := by decide +kernel
theorem d_R_entry_5 : decode b_R_entry 5 = .ok (.iload_n 1, 1) := by decide +kernel
theorem d_R_entry_6 : decode b_R_entry 6 = .ok (.iconst 3, 1) := by decide +kernel
theorem d_R_entry_7 : decode b_R_entry 7 = .ok (.if_icmp .gt (12), 3) := by decide +kernel
theorem d_R_entry_10 : decode b_R_entry 10 = .ok (.iload_n 2, 1) := by decide +kernel
theorem d_R_entry_11 : decode b_R_entry 11 = .ok (.ifCond .lt (8), 3) := by decide +kernel
theorem d_R_entry_14 : decode b_R_entry 14 = .ok (.iload_n 2, 1) := by decide +kernel
theorem d_R_entry_15 : decode b_R_entry 15 = .ok (.iconst 3, 1) := by decide +kernel
theorem d_R_entry_16 : decode b_R_entry 16 = .ok (.if_icmp .le (7), 3) := by decide +kernel
theorem d_R_entry_19 : decode b_R_entry 19 = .ok (.iconst 1, 1) := by decide +kernel
theorem d_R_entry_20 : decode b_R_entry 20 = .ok (.goto (4), 3) := by decide +kernel
theorem d_R_entry_23 : decode b_R_entry 23 = .ok (.iconst 0, 1) := by decide +kernel
theorem d_R_entry_24 : decode b_R_entry 24 = .ok (.putfield 59, 3) := by decide +kernel
theorem d_R_entry_27 : decode b_R_entry 27 = .ok (.aload_n 0, 1) := by decide +kernel
theorem d_R_entry_28 : decode b_R_entry 28 = .ok (.getfield 59, 3) := by decide +kernel
theorem d_R_entry_31 : decode b_R_entry 31 = .ok (.ifCond .le (7), 3) := by decide +kernel
theorem d_R_entry_34 : decode b_R_entry 34 = .ok (.iconst 0, 1) := by decide +kernel
theorem d_R_entry_35 : decode b_R_entry 35 = .ok (.goto (13), 3) := by decide +kernel
theorem d_R_entry_38 : decode b_R_entry 38 = .ok (.aload_n 0, 1) := by decide +kernel
theorem d_R_entry_39 : decode b_R_entry 39 = .ok (.getfield 7, 3) := by decide +kernel
theorem d_R_entry_42 : decode b_R_entry 42 = .ok (.iconst 4, 1) := by decide +kernel
theorem d_R_entry_43 : decode b_R_entry 43 = .ok (.iload_n 1, 1) := by decide +kernel
theorem d_R_entry_44 : decode b_R_entry 44 = .ok (.imul, 1) := by decide +kernel
theorem d_R_entry_45 : decode b_R_entry 45 = .ok (.iload_n 2, 1) := by decide +kernel
theorem d_R_entry_46 : decode b_R_entry 46 = .ok (.iadd, 1) := by decide +kernel
theorem d_R_entry_47 : decode b_R_entry 47 = .ok (.iaload, 1) := by decide +kernel
theorem d_R_entry_48 : decode b_R_entry 48 = .ok (.ireturn, 1) := by decide +kernel
theorem d_R_within_0 : decode b_R_within 0 = .ok (.iload_n 0, 1) := by decide +kernel
theorem d_R_within_1 : decode b_R_within 1 = .ok (.iload_n 1, 1) := by decide +kernel
theorem d_R_within_2 : decode b_R_within 2 = .ok (.ineg, 1) := by decide +kernel
theorem d_R_within_3 : decode b_R_within 3 = .ok (.if_icmp .lt (12), 3) := by decide +kernel
theorem d_R_within_6 : decode b_R_within 6 = .ok (.iload_n 0, 1) := by decide +kernel
theorem d_R_within_7 : decode b_R_within 7 = .ok (.iload_n 1, 1) := by decide +kernel
theorem d_R_within_8 : decode b_R_within 8 = .ok (.if_icmp .gt (7), 3) := by decide +kernel
theorem d_R_within_11 : decode b_R_within 11 = .ok (.iconst 1, 1) := by decide +kernel
theorem d_R_within_12 : decode b_R_within 12 = .ok (.goto (4), 3) := by decide +kernel
theorem d_R_within_15 : decode b_R_within 15 = .ok (.iconst 0, 1) := by decide +kernel
theorem d_R_within_16 : decode b_R_within 16 = .ok (.ireturn, 1) := by decide +kernel
theorem d_R_line_0 : decode b_R_line 0 = .ok (.aload_n 0, 1) := by decide +kernel
theorem d_R_line_1 : decode b_R_line 1 = .ok (.getfield 7, 3) := by decide +kernel
theorem d_R_line_4 : decode b_R_line 4 = .ok (.iconst 4, 1) := by decide +kernel
theorem d_R_line_5 : decode b_R_line 5 = .ok (.iload_n 1, 1) := by decide +kernel
theorem d_R_line_6 : decode b_R_line 6 = .ok (.imul, 1) := by decide +kernel
theorem d_R_line_7 : decode b_R_line 7 = .ok (.iaload, 1) := by decide +kernel
theorem d_R_line_8 : decode b_R_line 8 = .ok (.iload_n 2, 1) := by decide +kernel
theorem d_R_line_9 : decode b_R_line 9 = .ok (.imul, 1) := by decide +kernel
theorem d_R_line_10 : decode b_R_line 10 = .ok (.aload_n 0, 1) := by decide +kernel
theorem d_R_line_11 : decode b_R_line 11 = .ok (.getfield 7, 3) := by decide +kernel
theorem d_R_line_14 : decode b_R_line 14 = .ok (.iconst 4, 1) := by decide +kernel
theorem d_R_line_15 : decode b_R_line 15 = .ok (.iload_n 1, 1) := by decide +kernel
theorem d_R_line_16 : decode b_R_line 16 = .ok (.imul, 1) := by decide +kernel
theorem d_R_line_17 : decode b_R_line 17 = .ok (.iconst 1, 1) := by decide +kernel
theorem d_R_line_18 : decode b_R_line 18 = .ok (.iadd, 1) := by decide +kernel
theorem d_R_line_19 : decode b_R_line 19 = .ok (.iaload, 1) := by decide +kernel
theorem d_R_line_20 : decode b_R_line 20 = .ok (.iload_n 3, 1) := by decide +kernel
theorem d_R_line_21 : decode b_R_line 21 = .ok (.imul, 1) := by decide +kernel
theorem d_R_line_22 : decode b_R_line 22 = .ok (.iadd, 1) := by decide +kernel
theorem d_R_line_23 : decode b_R_line 23 = .ok (.aload_n 0, 1) := by decide +kernel
theorem d_R_line_24 : decode b_R_line 24 = .ok (.getfield 7, 3) := by decide +kernel
theorem d_R_line_27 : decode b_R_line 27 = .ok (.iconst 4, 1) := by decide +kernel
theorem d_R_line_28 : decode b_R_line 28 = .ok (.iload_n 1, 1) := by decide +kernel
theorem d_R_line_29 : decode b_R_line 29 = .ok (.imul, 1) := by decide +kernel
theorem d_R_line_30 : decode b_R_line 30 = .ok (.iconst 2, 1) := by decide +kernel
theorem d_R_line_31 : decode b_R_line 31 = .ok (.iadd, 1) := by decide +kernel
theorem d_R_line_32 : decode b_R_line 32 = .ok (.iaload, 1) := by decide +kernel
theorem d_R_line_33 : decode b_R_line 33 = .ok (.iload 4, 2) := by decide +kernel
theorem d_R_line_35 : decode b_R_line 35 = .ok (.imul, 1) := by decide +kernel
theorem d_R_line_36 : decode b_R_line 36 = .ok (.iadd, 1) := by decide +kernel
theorem d_R_line_37 : decode b_R_line 37 = .ok (.aload_n 0, 1) := by decide +kernel
theorem d_R_line_38 : decode b_R_line 38 = .ok (.getfield 7, 3) := by decide +kernel
theorem d_R_line_41 : decode b_R_line 41 = .ok (.iconst 4, 1) := by decide +kernel
theorem d_R_line_42 : decode b_R_line 42 = .ok (.iload_n 1, 1) := by decide +kernel
theorem d_R_line_43 : decode b_R_line 43 = .ok (.imul, 1) := by decide +kernel
theorem d_R_line_44 : decode b_R_line 44 = .ok (.iconst 3, 1) := by decide +kernel
theorem d_R_line_45 : decode b_R_line 45 = .ok (.iadd, 1) := by decide +kernel
theorem d_R_line_46 : decode b_R_line 46 = .ok (.iaload, 1) := by decide +kernel
theorem d_R_line_47 : decode b_R_line 47 = .ok (.iadd, 1) := by decide +kernel
theorem d_R_line_48 : decode b_R_line 48 = .ok (.ireturn, 1) := by decide +kernel
theorem d_R_use_0 : decode b_R_use 0 = .ok (.aload_n 0, 1) := by decide +kernel
theorem d_R_use_1 : decode b_R_use 1 = .ok (.iconst 0, 1) := by decide +kernel
theorem d_R_use_2 : decode b_R_use 2 = .ok (.putfield 59, 3) := by decide +kernel
theorem d_R_use_5 : decode b_R_use 5 = .ok (.iload_n 1, 1) := by decide +kernel
theorem d_R_use_6 : decode b_R_use 6 = .ok (.ifCond .lt (26), 3) := by decide +kernel
theorem d_R_use_9 : decode b_R_use 9 = .ok (.iload_n 1, 1) := by decide +kernel
theorem d_R_use_10 : decode b_R_use 10 = .ok (.iconst 1, 1) := by decide +kernel
theorem d_R_use_11 : decode b_R_use 11 = .ok (.if_icmp .gt (21), 3) := by decide +kernel
theorem d_R_use_14 : decode b_R_use 14 = .ok (.iload_n 2, 1) := by decide +kernel
theorem d_R_use_15 : decode b_R_use 15 = .ok (.ifCond .lt (17), 3) := by decide +kernel
theorem d_R_use_18 : decode b_R_use 18 = .ok (.iload_n 2, 1) := by decide +kernel
theorem d_R_use_19 : decode b_R_use 19 = .ok (.iconst 1, 1) := by decide +kernel
theorem d_R_use_20 : decode b_R_use 20 = .ok (.if_icmp .gt (12), 3) := by decide +kernel
theorem d_R_use_23 : decode b_R_use 23 = .ok (.iload_n 3, 1) := by decide +kernel
theorem d_R_use_24 : decode b_R_use 24 = .ok (.ifCond .lt (8), 3) := by decide +kernel
theorem d_R_use_27 : decode b_R_use 27 = .ok (.iload_n 3, 1) := by decide +kernel
theorem d_R_use_28 : decode b_R_use 28 = .ok (.iconst 2, 1) := by decide +kernel
theorem d_R_use_29 : decode b_R_use 29 = .ok (.if_icmp .le (5), 3) := by decide +kernel
theorem d_R_use_32 : decode b_R_use 32 = .ok (.iconst 0, 1) := by decide +kernel
theorem d_R_use_33 : decode b_R_use 33 = .ok (.ireturn, 1) := by decide +kernel
theorem d_R_use_34 : decode b_R_use 34 = .ok (.aload_n 0, 1) := by decide +kernel
theorem d_R_use_35 : decode b_R_use 35 = .ok (.iload_n 1, 1) := by decide +kernel
theorem d_R_use_36 : decode b_R_use 36 = .ok (.putfield 85, 3) := by decide +kernel
theorem d_R_use_39 : decode b_R_use 39 = .ok (.aload_n 0, 1) := by decide +kernel
theorem d_R_use_40 : decode b_R_use 40 = .ok (.iload_n 2, 1) := by decide +kernel
theorem d_R_use_41 : decode b_R_use 41 = .ok (.putfield 88, 3) := by decide +kernel
theorem d_R_use_44 : decode b_R_use 44 = .ok (.aload_n 0, 1) := by decide +kernel
theorem d_R_use_45 : decode b_R_use 45 = .ok (.iload_n 3, 1) := by decide +kernel
theorem d_R_use_46 : decode b_R_use 46 = .ok (.putfield 91, 3) := by decide +kernel
theorem d_R_use_49 : decode b_R_use 49 = .ok (.iconst 1, 1) := by decide +kernel
theorem d_R_use_50 : decode b_R_use 50 = .ok (.ireturn, 1) := by decide +kernel
theorem d_R_texel_0 : decode b_R_texel 0 = .ok (.aload_n 0, 1) := by decide +kernel
theorem d_R_texel_1 : decode b_R_texel 1 = .ok (.iload_n 1, 1) := by decide +kernel
theorem d_R_texel_2 : decode b_R_texel 2 = .ok (.ifCond .lt (28), 3) := by decide +kernel
theorem d_R_texel_5 : decode b_R_texel 5 = .ok (.iload_n 1, 1) := by decide +kernel
theorem d_R_texel_6 : decode b_R_texel 6 = .ok (.iconst 1, 1) := by decide +kernel
theorem d_R_texel_7 : decode b_R_texel 7 = .ok (.if_icmp .gt (23), 3) := by decide +kernel
theorem d_R_texel_10 : decode b_R_texel 10 = .ok (.iload_n 2, 1) := by decide +kernel
theorem d_R_texel_11 : decode b_R_texel 11 = .ok (.ifCond .lt (19), 3) := by decide +kernel
theorem d_R_texel_14 : decode b_R_texel 14 = .ok (.iload_n 2, 1) := by decide +kernel
theorem d_R_texel_15 : decode b_R_texel 15 = .ok (.bipush (7), 2) := by decide +kernel
theorem d_R_texel_17 : decode b_R_texel 17 = .ok (.if_icmp .gt (13), 3) := by decide +kernel
theorem d_R_texel_20 : decode b_R_texel 20 = .ok (.iload_n 3, 1) := by decide +kernel
theorem d_R_texel_21 : decode b_R_texel 21 = .ok (.ifCond .lt (9), 3) := by decide +kernel
theorem d_R_texel_24 : decode b_R_texel 24 = .ok (.iload_n 3, 1) := by decide +kernel
theorem d_R_texel_25 : decode b_R_texel 25 = .ok (.bipush (7), 2) := by decide +kernel
theorem d_R_texel_27 : decode b_R_texel 27 = .ok (.if_icmp .le (7), 3) := by decide +kernel
theorem d_R_texel_30 : decode b_R_texel 30 = .ok (.iconst 1, 1) := by decide +kernel
theorem d_R_texel_31 : decode b_R_texel 31 = .ok (.goto (4), 3) := by decide +kernel
theorem d_R_texel_34 : decode b_R_texel 34 = .ok (.iconst 0, 1) := by decide +kernel
theorem d_R_texel_35 : decode b_R_texel 35 = .ok (.putfield 59, 3) := by decide +kernel
theorem d_R_texel_38 : decode b_R_texel 38 = .ok (.aload_n 0, 1) := by decide +kernel
theorem d_R_texel_39 : decode b_R_texel 39 = .ok (.getfield 59, 3) := by decide +kernel
theorem d_R_texel_42 : decode b_R_texel 42 = .ok (.ifCond .le (5), 3) := by decide +kernel
theorem d_R_texel_45 : decode b_R_texel 45 = .ok (.iconst 0, 1) := by decide +kernel
theorem d_R_texel_46 : decode b_R_texel 46 = .ok (.ireturn, 1) := by decide +kernel
theorem d_R_texel_47 : decode b_R_texel 47 = .ok (.bipush (64), 2) := by decide +kernel
theorem d_R_texel_49 : decode b_R_texel 49 = .ok (.iload_n 1, 1) := by decide +kernel
theorem d_R_texel_50 : decode b_R_texel 50 = .ok (.imul, 1) := by decide +kernel
theorem d_R_texel_51 : decode b_R_texel 51 = .ok (.bipush (8), 2) := by decide +kernel
theorem d_R_texel_53 : decode b_R_texel 53 = .ok (.iload_n 2, 1) := by decide +kernel
theorem d_R_texel_54 : decode b_R_texel 54 = .ok (.imul, 1) := by decide +kernel
theorem d_R_texel_55 : decode b_R_texel 55 = .ok (.iadd, 1) := by decide +kernel
theorem d_R_texel_56 : decode b_R_texel 56 = .ok (.iload_n 3, 1) := by decide +kernel
theorem d_R_texel_57 : decode b_R_texel 57 = .ok (.iadd, 1) := by decide +kernel
theorem d_R_texel_58 : decode b_R_texel 58 = .ok (.istore 5, 2) := by decide +kernel
theorem d_R_texel_60 : decode b_R_texel 60 = .ok (.aload_n 0, 1) := by decide +kernel
theorem d_R_texel_61 : decode b_R_texel 61 = .ok (.getfield 19, 3) := by decide +kernel
theorem d_R_texel_64 : decode b_R_texel 64 = .ok (.iload 5, 2) := by decide +kernel
theorem d_R_texel_66 : decode b_R_texel 66 = .ok (.iaload, 1) := by decide +kernel
theorem d_R_texel_67 : decode b_R_texel 67 = .ok (.istore 6, 2) := by decide +kernel
theorem d_R_texel_69 : decode b_R_texel 69 = .ok (.aload_n 0, 1) := by decide +kernel
theorem d_R_texel_70 : decode b_R_texel 70 = .ok (.getfield 19, 3) := by decide +kernel
theorem d_R_texel_73 : decode b_R_texel 73 = .ok (.iload 5, 2) := by decide +kernel
theorem d_R_texel_75 : decode b_R_texel 75 = .ok (.iload 4, 2) := by decide +kernel
theorem d_R_texel_77 : decode b_R_texel 77 = .ok (.sipush (255), 3) := by decide +kernel
theorem d_R_texel_80 : decode b_R_texel 80 = .ok (.iand, 1) := by decide +kernel
theorem d_R_texel_81 : decode b_R_texel 81 = .ok (.iastore, 1) := by decide +kernel
theorem d_R_texel_82 : decode b_R_texel 82 = .ok (.iload 6, 2) := by decide +kernel
theorem d_R_texel_84 : decode b_R_texel 84 = .ok (.ireturn, 1) := by decide +kernel
theorem d_R_clear_0 : decode b_R_clear 0 = .ok (.aload_n 0, 1) := by decide +kernel
theorem d_R_clear_1 : decode b_R_clear 1 = .ok (.iconst 0, 1) := by decide +kernel
theorem d_R_clear_2 : decode b_R_clear 2 = .ok (.putfield 59, 3) := by decide +kernel
theorem d_R_clear_5 : decode b_R_clear 5 = .ok (.aload_n 0, 1) := by decide +kernel
theorem d_R_clear_6 : decode b_R_clear 6 = .ok (.getfield 78, 3) := by decide +kernel
theorem d_R_clear_9 : decode b_R_clear 9 = .ok (.iconst 3, 1) := by decide +kernel
theorem d_R_clear_10 : decode b_R_clear 10 = .ok (.idiv, 1) := by decide +kernel
theorem d_R_clear_11 : decode b_R_clear 11 = .ok (.istore_n 1, 1) := by decide +kernel
theorem d_R_clear_12 : decode b_R_clear 12 = .ok (.aload_n 0, 1) := by decide +kernel
theorem d_R_clear_13 : decode b_R_clear 13 = .ok (.iconst 0, 1) := by decide +kernel
theorem d_R_clear_14 : decode b_R_clear 14 = .ok (.putfield 78, 3) := by decide +kernel
theorem d_R_clear_17 : decode b_R_clear 17 = .ok (.iload_n 1, 1) := by decide +kernel
theorem d_R_clear_18 : decode b_R_clear 18 = .ok (.ireturn, 1) := by decide +kernel
theorem d_R_placeOf_0 : decode b_R_placeOf 0 = .ok (.aload_n 0, 1) := by decide +kernel
theorem d_R_placeOf_1 : decode b_R_placeOf 1 = .ok (.getfield 22, 3) := by decide +kernel
theorem d_R_placeOf_4 : decode b_R_placeOf 4 = .ok (.bipush (18), 2) := by decide +kernel
theorem d_R_placeOf_6 : decode b_R_placeOf 6 = .ok (.iload_n 1, 1) := by decide +kernel
theorem d_R_placeOf_7 : decode b_R_placeOf 7 = .ok (.imul, 1) := by decide +kernel
theorem d_R_placeOf_8 : decode b_R_placeOf 8 = .ok (.bipush (6), 2) := by decide +kernel
theorem d_R_placeOf_10 : decode b_R_placeOf 10 = .ok (.iload_n 2, 1) := by decide +kernel
theorem d_R_placeOf_11 : decode b_R_placeOf 11 = .ok (.imul, 1) := by decide +kernel
theorem d_R_placeOf_12 : decode b_R_placeOf 12 = .ok (.iadd, 1) := by decide +kernel
theorem d_R_placeOf_13 : decode b_R_placeOf 13 = .ok (.iload_n 3, 1) := by decide +kernel
theorem d_R_placeOf_14 : decode b_R_placeOf 14 = .ok (.iadd, 1) := by decide +kernel
theorem d_R_placeOf_15 : decode b_R_placeOf 15 = .ok (.iaload, 1) := by decide +kernel
theorem d_R_placeOf_16 : decode b_R_placeOf 16 = .ok (.i2l, 1) := by decide +kernel
theorem d_R_placeOf_17 : decode b_R_placeOf 17 = .ok (.lreturn, 1) := by decide +kernel
theorem d_R_floor_0 : decode b_R_floor 0 = .ok (.lload_n 0, 1) := by decide +kernel
theorem d_R_floor_1 : decode b_R_floor 1 = .ok (.lload_n 2, 1) := by decide +kernel
theorem d_R_floor_2 : decode b_R_floor 2 = .ok (.ldiv, 1) := by decide +kernel
theorem d_R_floor_3 : decode b_R_floor 3 = .ok (.lstore 4, 2) := by decide +kernel
theorem d_R_floor_5 : decode b_R_floor 5 = .ok (.lload 4, 2) := by decide +kernel
theorem d_R_floor_7 : decode b_R_floor 7 = .ok (.lload_n 2, 1) := by decide +kernel
theorem d_R_floor_8 : decode b_R_floor 8 = .ok (.lmul, 1) := by decide +kernel
theorem d_R_floor_9 : decode b_R_floor 9 = .ok (.lload_n 0, 1) := by decide +kernel
theorem d_R_floor_10 : decode b_R_floor 10 = .ok (.lcmp, 1) := by decide +kernel
theorem d_R_floor_11 : decode b_R_floor 11 = .ok (.ifCond .le (10), 3) := by decide +kernel
theorem d_R_floor_14 : decode b_R_floor 14 = .ok (.lload 4, 2) := by decide +kernel
theorem d_R_floor_16 : decode b_R_floor 16 = .ok (.lconst 1, 1) := by decide +kernel
theorem d_R_floor_17 : decode b_R_floor 17 = .ok (.lsub, 1) := by decide +kernel
theorem d_R_floor_18 : decode b_R_floor 18 = .ok (.goto (5), 3) := by decide +kernel
theorem d_R_floor_21 : decode b_R_floor 21 = .ok (.lload 4, 2) := by decide +kernel
theorem d_R_floor_23 : decode b_R_floor 23 = .ok (.lreturn, 1) := by decide +kernel
theorem d_R_order_0 : decode b_R_order 0 = .ok (.lload_n 0, 1) := by decide +kernel
theorem d_R_order_1 : decode b_R_order 1 = .ok (.lstore 8, 2) := by decide +kernel
theorem d_R_order_3 : decode b_R_order 3 = .ok (.lload_n 2, 1) := by decide +kernel
theorem d_R_order_4 : decode b_R_order 4 = .ok (.lstore 10, 2) := by decide +kernel
theorem d_R_order_6 : decode b_R_order 6 = .ok (.lload 4, 2) := by decide +kernel
theorem d_R_order_8 : decode b_R_order 8 = .ok (.lstore 12, 2) := by decide +kernel
theorem d_R_order_10 : decode b_R_order 10 = .ok (.lload 6, 2) := by decide +kernel
theorem d_R_order_12 : decode b_R_order 12 = .ok (.lstore 14, 2) := by decide +kernel
theorem d_R_order_14 : decode b_R_order 14 = .ok (.iconst 1, 1) := by decide +kernel
theorem d_R_order_15 : decode b_R_order 15 = .ok (.istore 16, 2) := by decide +kernel
theorem d_R_order_17 : decode b_R_order 17 = .ok (.lload 8, 2) := by decide +kernel
theorem d_R_order_19 : decode b_R_order 19 = .ok (.lload 10, 2) := by decide +kernel
theorem d_R_order_21 : decode b_R_order 21 = .ok (.invokestatic 102, 3) := by decide +kernel
theorem d_R_order_24 : decode b_R_order 24 = .ok (.lstore 17, 2) := by decide +kernel
theorem d_R_order_26 : decode b_R_order 26 = .ok (.lload 12, 2) := by decide +kernel
theorem d_R_order_28 : decode b_R_order 28 = .ok (.lload 14, 2) := by decide +kernel
theorem d_R_order_30 : decode b_R_order 30 = .ok (.invokestatic 102, 3) := by decide +kernel
theorem d_R_order_33 : decode b_R_order 33 = .ok (.lstore 19, 2) := by decide +kernel
theorem d_R_order_35 : decode b_R_order 35 = .ok (.lload 17, 2) := by decide +kernel
theorem d_R_order_37 : decode b_R_order 37 = .ok (.lload 19, 2) := by decide +kernel
theorem d_R_order_39 : decode b_R_order 39 = .ok (.lcmp, 1) := by decide +kernel
theorem d_R_order_40 : decode b_R_order 40 = .ok (.ifCond .eq (20), 3) := by decide +kernel
theorem d_R_order_43 : decode b_R_order 43 = .ok (.lload 17, 2) := by decide +kernel
theorem d_R_order_45 : decode b_R_order 45 = .ok (.lload 19, 2) := by decide +kernel
theorem d_R_order_47 : decode b_R_order 47 = .ok (.lcmp, 1) := by decide +kernel
theorem d_R_order_48 : decode b_R_order 48 = .ok (.ifCond .ge (9), 3) := by decide +kernel
theorem d_R_order_51 : decode b_R_order 51 = .ok (.iload 16, 2) := by decide +kernel
theorem d_R_order_53 : decode b_R_order 53 = .ok (.ineg, 1) := by decide +kernel
theorem d_R_order_54 : decode b_R_order 54 = .ok (.goto (5), 3) := by decide +kernel
theorem d_R_order_57 : decode b_R_order 57 = .ok (.iload 16, 2) := by decide +kernel
theorem d_R_order_59 : decode b_R_order 59 = .ok (.ireturn, 1) := by decide +kernel
theorem d_R_order_60 : decode b_R_order 60 = .ok (.lload 8, 2) := by decide +kernel
theorem d_R_order_62 : decode b_R_order 62 = .ok (.lload 17, 2) := by decide +kernel
theorem d_R_order_64 : decode b_R_order 64 = .ok (.lload 10, 2) := by decide +kernel
theorem d_R_order_66 : decode b_R_order 66 = .ok (.lmul, 1) := by decide +kernel
theorem d_R_order_67 : decode b_R_order 67 = .ok (.lsub, 1) := by decide +kernel
theorem d_R_order_68 : decode b_R_order 68 = .ok (.lstore 21, 2) := by decide +kernel
theorem d_R_order_70 : decode b_R_order 70 = .ok (.lload 12, 2) := by decide +kernel
theorem d_R_order_72 : decode b_R_order 72 = .ok (.lload 19, 2) := by decide +kernel
theorem d_R_order_74 : decode b_R_order 74 = .ok (.lload 14, 2) := by decide +kernel
theorem d_R_order_76 : decode b_R_order 76 = .ok (.lmul, 1) := by decide +kernel
theorem d_R_order_77 : decode b_R_order 77 = .ok (.lsub, 1) := by decide +kernel
theorem d_R_order_78 : decode b_R_order 78 = .ok (.lstore 23, 2) := by decide +kernel
theorem d_R_order_80 : decode b_R_order 80 = .ok (.lload 21, 2) := by decide +kernel
theorem d_R_order_82 : decode b_R_order 82 = .ok (.lconst 0, 1) := by decide +kernel
theorem d_R_order_83 : decode b_R_order 83 = .ok (.lcmp, 1) := by decide +kernel
theorem d_R_order_84 : decode b_R_order 84 = .ok (.ifCond .eq (10), 3) := by decide +kernel
theorem d_R_order_87 : decode b_R_order 87 = .ok (.lload 23, 2) := by decide +kernel
theorem d_R_order_89 : decode b_R_order 89 = .ok (.lconst 0, 1) := by decide +kernel
theorem d_R_order_90 : decode b_R_order 90 = .ok (.lcmp, 1) := by decide +kernel
theorem d_R_order_91 : decode b_R_order 91 = .ok (.ifCond .ne (31), 3) := by decide +kernel
theorem d_R_order_94 : decode b_R_order 94 = .ok (.lload 21, 2) := by decide +kernel
theorem d_R_order_96 : decode b_R_order 96 = .ok (.lload 23, 2) := by decide +kernel
theorem d_R_order_98 : decode b_R_order 98 = .ok (.lcmp, 1) := by decide +kernel
theorem d_R_order_99 : decode b_R_order 99 = .ok (.ifCond .ne (7), 3) := by decide +kernel
theorem d_R_order_102 : decode b_R_order 102 = .ok (.iconst 0, 1) := by decide +kernel
theorem d_R_order_103 : decode b_R_order 103 = .ok (.goto (18), 3) := by decide +kernel
theorem d_R_order_106 : decode b_R_order 106 = .ok (.lload 21, 2) := by decide +kernel
theorem d_R_order_108 : decode b_R_order 108 = .ok (.lconst 0, 1) := by decide +kernel
theorem d_R_order_109 : decode b_R_order 109 = .ok (.lcmp, 1) := by decide +kernel
theorem d_R_order_110 : decode b_R_order 110 = .ok (.ifCond .ne (9), 3) := by decide +kernel
theorem d_R_order_113 : decode b_R_order 113 = .ok (.iload 16, 2) := by decide +kernel
theorem d_R_order_115 : decode b_R_order 115 = .ok (.ineg, 1) := by decide +kernel
theorem d_R_order_116 : decode b_R_order 116 = .ok (.goto (5), 3) := by decide +kernel
theorem d_R_order_119 : decode b_R_order 119 = .ok (.iload 16, 2) := by decide +kernel
theorem d_R_order_121 : decode b_R_order 121 = .ok (.ireturn, 1) := by decide +kernel
theorem d_R_order_122 : decode b_R_order 122 = .ok (.lload 10, 2) := by decide +kernel
theorem d_R_order_124 : decode b_R_order 124 = .ok (.lstore 8, 2) := by decide +kernel
theorem d_R_order_126 : decode b_R_order 126 = .ok (.lload 21, 2) := by decide +kernel
theorem d_R_order_128 : decode b_R_order 128 = .ok (.lstore 10, 2) := by decide +kernel
theorem d_R_order_130 : decode b_R_order 130 = .ok (.lload 14, 2) := by decide +kernel
theorem d_R_order_132 : decode b_R_order 132 = .ok (.lstore 12, 2) := by decide +kernel
theorem d_R_order_134 : decode b_R_order 134 = .ok (.lload 23, 2) := by decide +kernel
theorem d_R_order_136 : decode b_R_order 136 = .ok (.lstore 14, 2) := by decide +kernel
theorem d_R_order_138 : decode b_R_order 138 = .ok (.iload 16, 2) := by decide +kernel
theorem d_R_order_140 : decode b_R_order 140 = .ok (.ineg, 1) := by decide +kernel
theorem d_R_order_141 : decode b_R_order 141 = .ok (.istore 16, 2) := by decide +kernel
theorem d_R_order_143 : decode b_R_order 143 = .ok (.goto (-126), 3) := by decide +kernel
theorem d_R_isPixel_0 : decode b_R_isPixel 0 = .ok (.iload_n 0, 1) := by decide +kernel
theorem d_R_isPixel_1 : decode b_R_isPixel 1 = .ok (.ifCond .lt (23), 3) := by decide +kernel
theorem d_R_isPixel_4 : decode b_R_isPixel 4 = .ok (.iload_n 0, 1) := by decide +kernel
theorem d_R_isPixel_5 : decode b_R_isPixel 5 = .ok (.bipush (16), 2) := by decide +kernel
theorem d_R_isPixel_7 : decode b_R_isPixel 7 = .ok (.if_icmp .ge (17), 3) := by decide +kernel
theorem d_R_isPixel_10 : decode b_R_isPixel 10 = .ok (.iload_n 1, 1) := by decide +kernel
theorem d_R_isPixel_11 : decode b_R_isPixel 11 = .ok (.ifCond .lt (13), 3) := by decide +kernel
theorem d_R_isPixel_14 : decode b_R_isPixel 14 = .ok (.iload_n 1, 1) := by decide +kernel
theorem d_R_isPixel_15 : decode b_R_isPixel 15 = .ok (.bipush (12), 2) := by decide +kernel
theorem d_R_isPixel_17 : decode b_R_isPixel 17 = .ok (.if_icmp .ge (7), 3) := by decide +kernel
theorem d_R_isPixel_20 : decode b_R_isPixel 20 = .ok (.iconst 1, 1) := by decide +kernel
theorem d_R_isPixel_21 : decode b_R_isPixel 21 = .ok (.goto (4), 3) := by decide +kernel
theorem d_R_isPixel_24 : decode b_R_isPixel 24 = .ok (.iconst 0, 1) := by decide +kernel
theorem d_R_isPixel_25 : decode b_R_isPixel 25 = .ok (.ireturn, 1) := by decide +kernel
def fn_R_thrown (μ0 : xs_M)  : Option Int32 :=
  some ((μ0.1 154 0))
set_option maxHeartbeats 4000000 in
set_option maxRecDepth 100000 in
theorem ok_R_thrown (l : Launch) (D : va_G) (ad : Nat → Nat) (cs : xs_cs) (hJ : xs_J ad) {μ0 : xs_M}   {rz : Int32} (hE : fn_R_thrown μ0 = some rz) : xs_I l D ad cs y_R_thrown b_R_thrown 1 (some .int) 0 0 [.ref (ad 154)] μ0 (some (.int rz)) μ0 := by
  refine xs_entry hJ (by decide) (Nat.le_of_ble_eq_true rfl) ?_
  intro p e s m below meth c ls X hr hlk G hl
  have X : xs_C p s m c b_R_thrown 1 _ "ExactSceneModel" := X
  have hx := X.1
  have hb := X.2.1
  have hl : lv_has ls 1 [(0, .ref (ad 154))] := hl
  unfold fn_R_thrown at hE
  refine lv_aload_n (pc := 0) hx hb d_R_thrown_0 rfl (lv_at hl 0 rfl) ?_
  refine gf_R_59 (pc := 1) X G d_R_thrown_1 ?_
  cases hE
  exact xs_iret (pc := 4) hx hb hr hlk G d_R_thrown_4
def fn_R_fits (μ0 : xs_M) (x0 : Int64) : Option Int32 :=
  (if (lg_cmp x0 (-511 : Int64)) < 0 then some ((0 : Int32)) else (if 0 < (lg_cmp x0 (511 : Int64)) then some ((0 : Int32)) else some ((1 : Int32))))
set_option maxHeartbeats 4000000 in
set_option maxRecDepth 100000 in
theorem ok_R_fits (l : Launch) (D : va_G) (ad : Nat → Nat) (cs : xs_cs) (hJ : xs_J ad) {μ0 : xs_M} {x0 : Int64}  {rz : Int32} (hE : fn_R_fits μ0 x0 = some rz) : xs_I l D ad cs y_R_fits b_R_fits 2 (some .boolean) 0 0 [.long (x0)] μ0 (some (.int rz)) μ0 := by
  refine xs_entry hJ (by decide) (Nat.le_of_ble_eq_true rfl) ?_
  intro p e s m below meth c ls X hr hlk G hl
  have X : xs_C p s m c b_R_fits 2 _ "ExactSceneModel" := X
  have hx := X.1
  have hb := X.2.1
  have hl : lv_has ls 2 [(0, .long (x0))] := hl
  unfold fn_R_fits at hE
  refine lv_lload_n (pc := 0) hx hb d_R_fits_0 rfl (lv_at hl 0 rfl) ?_
  refine lv_ldc2 (pc := 1) (v := (-511 : Int64)) hx hb X.2.2.2.1 (X.2.2.2.2.1 _ cl_R_63) d_R_fits_1 ?_
  refine W.lcmp (pc := 4) hx hb d_R_fits_4 ?_
  refine lv_if_lt (pc := 5) (tgt := 20) hx hb d_R_fits_5 (by decide) (fun hc => ?_) (fun hc => ?_)
  · have hE := xs_t hE hc
    refine lv_iconst (pc := 20) (v := (0 : Int32)) hx hb d_R_fits_20 (by decide) ?_
    cases hE
    exact xs_zret (pc := 21) hx hb hr hlk G (Or.inl rfl) d_R_fits_21
  · have hE := xs_f hE hc
    refine lv_lload_n (pc := 8) hx hb d_R_fits_8 rfl (lv_at hl 0 rfl) ?_
    refine lv_ldc2 (pc := 9) (v := (511 : Int64)) hx hb X.2.2.2.1 (X.2.2.2.2.1 _ cl_R_65) d_R_fits_9 ?_
    refine W.lcmp (pc := 12) hx hb d_R_fits_12 ?_
    refine lv_if_gt (pc := 13) (tgt := 20) hx hb d_R_fits_13 (by decide) (fun hc => ?_) (fun hc => ?_)
    · have hE := xs_t hE hc
      refine lv_iconst (pc := 20) (v := (0 : Int32)) hx hb d_R_fits_20 (by decide) ?_
      cases hE
      exact xs_zret (pc := 21) hx hb hr hlk G (Or.inl rfl) d_R_fits_21
    · have hE := xs_f hE hc
      refine lv_iconst (pc := 16) (v := (1 : Int32)) hx hb d_R_fits_16 (by decide) ?_
      refine lv_goto (pc := 17) (tgt := 21) hx hb d_R_fits_17 (by decide) ?_
      cases hE
      exact xs_zret (pc := 21) hx hb hr hlk G (Or.inr rfl) d_R_fits_21
def fn_R_row (μ0 : xs_M) (x0 : Int32) (x1 : Int32) (x2 : Int32) (x3 : Int32) (x4 : Int32) : Option xs_M :=
  (if x0 < 0 then ((some (xs_si μ0 154 0 (1 : Int32))).bind fun μ1 => some (μ1)) else (if (3 : Int32) < x0 then ((some (xs_si μ0 154 0 (1 : Int32))).bind fun μ2 => some (μ2)) else ((fn_R_fits μ0 ((x1).toInt64)).bind fun w3 => (if w3 = 0 then ((some (xs_si μ0 154 0 (1 : Int32))).bind fun μ4 => some (μ4)) else ((fn_R_fits μ0 ((x2).toInt64)).bind fun w5 => (if w5 = 0 then ((some (xs_si μ0 154 0 (1 : Int32))).bind fun μ6 => some (μ6)) else ((fn_R_fits μ0 ((x3).toInt64)).bind fun w7 => (if w7 = 0 then ((some (xs_si μ0 154 0 (1 : Int32))).bind fun μ8 => some (μ8)) else ((fn_R_fits μ0 ((x4).toInt64)).bind fun w9 => (if w9 = 0 then ((some (xs_si μ0 154 0 (1 : Int32))).bind fun μ19 => some (μ19)) else ((some (xs_si μ0 154 0 (0 : Int32))).bind fun μ10 => (if xs_in ((4 : Int32) * x0) 16 = true then ((some (xs_si μ10 155 ((4 : Int32) * x0).toNatClampNeg (x1))).bind fun μ12 => (if xs_in (((4 : Int32) * x0) + (1 : Int32)) 16 = true then ((some (xs_si μ12 155 (((4 : Int32) * x0) + (1 : Int32)).toNatClampNeg (x2))).bind fun μ14 => (if xs_in (((4 : Int32) * x0) + (2 : Int32)) 16 = true then ((some (xs_si μ14 155 (((4 : Int32) * x0) + (2 : Int32)).toNatClampNeg (x3))).bind fun μ16 => (if xs_in (((4 : Int32) * x0) + (3 : Int32)) 16 = true then ((some (xs_si μ16 155 (((4 : Int32) * x0) + (3 : Int32)).toNatClampNeg (x4))).bind fun μ18 => some (μ18)) else none)) else none)) else none)) else none))))))))))))
set_option maxHeartbeats 4000000 in
set_option maxRecDepth 100000 in
theorem ok_R_row (l : Launch) (D : va_G) (ad : Nat → Nat) (cs : xs_cs) (hJ : xs_J ad) {μ0 : xs_M} {x0 : Int32} {x1 : Int32} {x2 : Int32} {x3 : Int32} {x4 : Int32}  {rz : xs_M} (hE : fn_R_row μ0 x0 x1 x2 x3 x4 = some rz) : xs_I l D ad cs y_R_row b_R_row 6 none 1 21 [.ref (ad 154), .int (x0), .int (x1), .int (x2), .int (x3), .int (x4)] μ0 none rz := by
  refine xs_entry hJ (by decide) (Nat.le_of_ble_eq_true rfl) ?_
  intro p e s m below meth c ls X hr hlk G hl
  have X : xs_C p s m c b_R_row 6 _ "ExactSceneModel" := X
  have hx := X.1
  have hb := X.2.1
  have hl : lv_has ls 6 [(0, .ref (ad 154)), (1, .int (x0)), (2, .int (x1)), (3, .int (x2)), (4, .int (x3)), (5, .int (x4))] := hl
  unfold fn_R_row at hE
  refine lv_aload_n (pc := 0) hx hb d_R_row_0 rfl (lv_at hl 0 rfl) ?_
  refine lv_iload_n (pc := 1) hx hb d_R_row_1 rfl (lv_at hl 1 rfl) ?_
  refine lv_if_lt (pc := 2) (tgt := 44) hx hb d_R_row_2 (by decide) (fun hc => ?_) (fun hc => ?_)
  · have hE := xs_t hE hc
    refine lv_iconst (pc := 44) (v := (1 : Int32)) hx hb d_R_row_44 (by decide) ?_
    refine lv_goto (pc := 45) (tgt := 49) hx hb d_R_row_45 (by decide) ?_
    refine pf_R_59 (pc := 49) X G d_R_row_49 (fun H locs G => ?_)
    obtain ⟨μ1, hμ1, hE⟩ := xs_b hE
    have G := xs_mv G hμ1
    have hfμ1 := xs_fi hμ1
    clear hμ1
    refine lv_aload_n (pc := 52) hx hb d_R_row_52 rfl (lv_at hl 0 rfl) ?_
    refine gf_R_59 (pc := 53) X G d_R_row_53 ?_
    refine xs_tq hfμ1 ?_
    refine lv_if_ne (pc := 56) (tgt := 103) hx hb d_R_row_56 (by decide) (fun hc => ?_) (fun hc => ?_)
    · cases hE
      exact xs_vret (pc := 103) hx hb hr hlk G d_R_row_103
    · exact absurd hc (by decide)
  · have hE := xs_f hE hc
    refine lv_iload_n (pc := 5) hx hb d_R_row_5 rfl (lv_at hl 1 rfl) ?_
    refine lv_iconst (pc := 6) (v := (3 : Int32)) hx hb d_R_row_6 (by decide) ?_
    refine lv_icmp_gt (pc := 7) (tgt := 44) hx hb d_R_row_7 (by decide) (fun hc => ?_) (fun hc => ?_)
    · have hE := xs_t hE hc
      refine lv_iconst (pc := 44) (v := (1 : Int32)) hx hb d_R_row_44 (by decide) ?_
      refine lv_goto (pc := 45) (tgt := 49) hx hb d_R_row_45 (by decide) ?_
      refine pf_R_59 (pc := 49) X G d_R_row_49 (fun H locs G => ?_)
      obtain ⟨μ2, hμ2, hE⟩ := xs_b hE
      have G := xs_mv G hμ2
      have hfμ2 := xs_fi hμ2
      clear hμ2
      refine lv_aload_n (pc := 52) hx hb d_R_row_52 rfl (lv_at hl 0 rfl) ?_
      refine gf_R_59 (pc := 53) X G d_R_row_53 ?_
      refine xs_tq hfμ2 ?_
      refine lv_if_ne (pc := 56) (tgt := 103) hx hb d_R_row_56 (by decide) (fun hc => ?_) (fun hc => ?_)
      · cases hE
        exact xs_vret (pc := 103) hx hb hr hlk G d_R_row_103
      · exact absurd hc (by decide)
    · have hE := xs_f hE hc
      refine lv_iload_n (pc := 10) hx hb d_R_row_10 rfl (lv_at hl 2 rfl) ?_
      refine lv_i2l (pc := 11) hx hb d_R_row_11 rfl ?_
      obtain ⟨w3, hw3, hE⟩ := xs_b hE
      refine xs_callSr (pc := 12) (as := [.long ((x1).toInt64)]) X (ok_R_fits l D ad cs hJ hw3) km_R_67 G ⟨by decide, by decide⟩ ⟨Nat.zero_le _, Nat.zero_le _⟩ rfl hl.1 rfl (Nat.le_of_ble_eq_true rfl) d_R_row_12 (fun H locs G => ?_)
      refine lv_if_eq (pc := 15) (tgt := 44) hx hb d_R_row_15 (by decide) (fun hc => ?_) (fun hc => ?_)
      · have hE := xs_t hE hc
        refine lv_iconst (pc := 44) (v := (1 : Int32)) hx hb d_R_row_44 (by decide) ?_
        refine lv_goto (pc := 45) (tgt := 49) hx hb d_R_row_45 (by decide) ?_
        refine pf_R_59 (pc := 49) X G d_R_row_49 (fun H locs G => ?_)
        obtain ⟨μ4, hμ4, hE⟩ := xs_b hE
        have G := xs_mv G hμ4
        have hfμ4 := xs_fi hμ4
        clear hμ4
        refine lv_aload_n (pc := 52) hx hb d_R_row_52 rfl (lv_at hl 0 rfl) ?_
        refine gf_R_59 (pc := 53) X G d_R_row_53 ?_
        refine xs_tq hfμ4 ?_
        refine lv_if_ne (pc := 56) (tgt := 103) hx hb d_R_row_56 (by decide) (fun hc => ?_) (fun hc => ?_)
        · cases hE
          exact xs_vret (pc := 103) hx hb hr hlk G d_R_row_103
        · exact absurd hc (by decide)
      · have hE := xs_f hE hc
        refine lv_iload_n (pc := 18) hx hb d_R_row_18 rfl (lv_at hl 3 rfl) ?_
        refine lv_i2l (pc := 19) hx hb d_R_row_19 rfl ?_
        obtain ⟨w5, hw5, hE⟩ := xs_b hE
        refine xs_callSr (pc := 20) (as := [.long ((x2).toInt64)]) X (ok_R_fits l D ad cs hJ hw5) km_R_67 G ⟨by decide, by decide⟩ ⟨Nat.zero_le _, Nat.zero_le _⟩ rfl hl.1 rfl (Nat.le_of_ble_eq_true rfl) d_R_row_20 (fun H locs G => ?_)
        refine lv_if_eq (pc := 23) (tgt := 44) hx hb d_R_row_23 (by decide) (fun hc => ?_) (fun hc => ?_)
        · have hE := xs_t hE hc
          refine lv_iconst (pc := 44) (v := (1 : Int32)) hx hb d_R_row_44 (by decide) ?_
          refine lv_goto (pc := 45) (tgt := 49) hx hb d_R_row_45 (by decide) ?_
          refine pf_R_59 (pc := 49) X G d_R_row_49 (fun H locs G => ?_)
          obtain ⟨μ6, hμ6, hE⟩ := xs_b hE
          have G := xs_mv G hμ6
          have hfμ6 := xs_fi hμ6
          clear hμ6
          refine lv_aload_n (pc := 52) hx hb d_R_row_52 rfl (lv_at hl 0 rfl) ?_
          refine gf_R_59 (pc := 53) X G d_R_row_53 ?_
          refine xs_tq hfμ6 ?_
          refine lv_if_ne (pc := 56) (tgt := 103) hx hb d_R_row_56 (by decide) (fun hc => ?_) (fun hc => ?_)
          · cases hE
            exact xs_vret (pc := 103) hx hb hr hlk G d_R_row_103
          · exact absurd hc (by decide)
        · have hE := xs_f hE hc
          refine lv_iload (pc := 26) hx hb d_R_row_26 (lv_at hl 4 rfl) ?_
          refine lv_i2l (pc := 28) hx hb d_R_row_28 rfl ?_
          obtain ⟨w7, hw7, hE⟩ := xs_b hE
          refine xs_callSr (pc := 29) (as := [.long ((x3).toInt64)]) X (ok_R_fits l D ad cs hJ hw7) km_R_67 G ⟨by decide, by decide⟩ ⟨Nat.zero_le _, Nat.zero_le _⟩ rfl hl.1 rfl (Nat.le_of_ble_eq_true rfl) d_R_row_29 (fun H locs G => ?_)
          refine lv_if_eq (pc := 32) (tgt := 44) hx hb d_R_row_32 (by decide) (fun hc => ?_) (fun hc => ?_)
          · have hE := xs_t hE hc
            refine lv_iconst (pc := 44) (v := (1 : Int32)) hx hb d_R_row_44 (by decide) ?_
            refine lv_goto (pc := 45) (tgt := 49) hx hb d_R_row_45 (by decide) ?_
            refine pf_R_59 (pc := 49) X G d_R_row_49 (fun H locs G => ?_)
            obtain ⟨μ8, hμ8, hE⟩ := xs_b hE
            have G := xs_mv G hμ8
            have hfμ8 := xs_fi hμ8
            clear hμ8
            refine lv_aload_n (pc := 52) hx hb d_R_row_52 rfl (lv_at hl 0 rfl) ?_
            refine gf_R_59 (pc := 53) X G d_R_row_53 ?_
            refine xs_tq hfμ8 ?_
            refine lv_if_ne (pc := 56) (tgt := 103) hx hb d_R_row_56 (by decide) (fun hc => ?_) (fun hc => ?_)
            · cases hE
              exact xs_vret (pc := 103) hx hb hr hlk G d_R_row_103
            · exact absurd hc (by decide)
          · have hE := xs_f hE hc
            refine lv_iload (pc := 35) hx hb d_R_row_35 (lv_at hl 5 rfl) ?_
            refine lv_i2l (pc := 37) hx hb d_R_row_37 rfl ?_
            obtain ⟨w9, hw9, hE⟩ := xs_b hE
            refine xs_callSr (pc := 38) (as := [.long ((x4).toInt64)]) X (ok_R_fits l D ad cs hJ hw9) km_R_67 G ⟨by decide, by decide⟩ ⟨Nat.zero_le _, Nat.zero_le _⟩ rfl hl.1 rfl (Nat.le_of_ble_eq_true rfl) d_R_row_38 (fun H locs G => ?_)
            refine lv_if_ne (pc := 41) (tgt := 48) hx hb d_R_row_41 (by decide) (fun hc => ?_) (fun hc => ?_)
            · have hE := xs_f hE hc
              refine lv_iconst (pc := 48) (v := (0 : Int32)) hx hb d_R_row_48 (by decide) ?_
              refine pf_R_59 (pc := 49) X G d_R_row_49 (fun H locs G => ?_)
              obtain ⟨μ10, hμ10, hE⟩ := xs_b hE
              have G := xs_mv G hμ10
              have hfμ10 := xs_fi hμ10
              clear hμ10
              refine lv_aload_n (pc := 52) hx hb d_R_row_52 rfl (lv_at hl 0 rfl) ?_
              refine gf_R_59 (pc := 53) X G d_R_row_53 ?_
              refine xs_tq hfμ10 ?_
              refine lv_if_ne (pc := 56) (tgt := 103) hx hb d_R_row_56 (by decide) (fun hc => ?_) (fun hc => ?_)
              · exact absurd hc (by decide)
              · refine lv_aload_n (pc := 59) hx hb d_R_row_59 rfl (lv_at hl 0 rfl) ?_
                refine gf_R_7 (pc := 60) X G d_R_row_60 ?_
                refine lv_iconst (pc := 63) (v := (4 : Int32)) hx hb d_R_row_63 (by decide) ?_
                refine lv_iload_n (pc := 64) hx hb d_R_row_64 rfl (lv_at hl 1 rfl) ?_
                refine lv_imul (pc := 65) hx hb d_R_row_65 ?_
                refine lv_iload_n (pc := 66) hx hb d_R_row_66 rfl (lv_at hl 2 rfl) ?_
                obtain ⟨hi11, hE⟩ := xs_n hE
                refine xs_iast (pc := 67) hx hb G ia_155 (xs_inP hi11) d_R_row_67 (fun H locs G => ?_)
                obtain ⟨μ12, hμ12, hE⟩ := xs_b hE
                have G := xs_mv G hμ12
                clear hμ12
                refine lv_aload_n (pc := 68) hx hb d_R_row_68 rfl (lv_at hl 0 rfl) ?_
                refine gf_R_7 (pc := 69) X G d_R_row_69 ?_
                refine lv_iconst (pc := 72) (v := (4 : Int32)) hx hb d_R_row_72 (by decide) ?_
                refine lv_iload_n (pc := 73) hx hb d_R_row_73 rfl (lv_at hl 1 rfl) ?_
                refine lv_imul (pc := 74) hx hb d_R_row_74 ?_
                refine lv_iconst (pc := 75) (v := (1 : Int32)) hx hb d_R_row_75 (by decide) ?_
                refine lv_iadd (pc := 76) hx hb d_R_row_76 ?_
                refine lv_iload_n (pc := 77) hx hb d_R_row_77 rfl (lv_at hl 3 rfl) ?_
                obtain ⟨hi13, hE⟩ := xs_n hE
                refine xs_iast (pc := 78) hx hb G ia_155 (xs_inP hi13) d_R_row_78 (fun H locs G => ?_)
                obtain ⟨μ14, hμ14, hE⟩ := xs_b hE
                have G := xs_mv G hμ14
                clear hμ14
                refine lv_aload_n (pc := 79) hx hb d_R_row_79 rfl (lv_at hl 0 rfl) ?_
                refine gf_R_7 (pc := 80) X G d_R_row_80 ?_
                refine lv_iconst (pc := 83) (v := (4 : Int32)) hx hb d_R_row_83 (by decide) ?_
                refine lv_iload_n (pc := 84) hx hb d_R_row_84 rfl (lv_at hl 1 rfl) ?_
                refine lv_imul (pc := 85) hx hb d_R_row_85 ?_
                refine lv_iconst (pc := 86) (v := (2 : Int32)) hx hb d_R_row_86 (by decide) ?_
                refine lv_iadd (pc := 87) hx hb d_R_row_87 ?_
                refine lv_iload (pc := 88) hx hb d_R_row_88 (lv_at hl 4 rfl) ?_
                obtain ⟨hi15, hE⟩ := xs_n hE
                refine xs_iast (pc := 90) hx hb G ia_155 (xs_inP hi15) d_R_row_90 (fun H locs G => ?_)
                obtain ⟨μ16, hμ16, hE⟩ := xs_b hE
                have G := xs_mv G hμ16
                clear hμ16
                refine lv_aload_n (pc := 91) hx hb d_R_row_91 rfl (lv_at hl 0 rfl) ?_
                refine gf_R_7 (pc := 92) X G d_R_row_92 ?_
                refine lv_iconst (pc := 95) (v := (4 : Int32)) hx hb d_R_row_95 (by decide) ?_
                refine lv_iload_n (pc := 96) hx hb d_R_row_96 rfl (lv_at hl 1 rfl) ?_
                refine lv_imul (pc := 97) hx hb d_R_row_97 ?_
                refine lv_iconst (pc := 98) (v := (3 : Int32)) hx hb d_R_row_98 (by decide) ?_
                refine lv_iadd (pc := 99) hx hb d_R_row_99 ?_
                refine lv_iload (pc := 100) hx hb d_R_row_100 (lv_at hl 5 rfl) ?_
                obtain ⟨hi17, hE⟩ := xs_n hE
                refine xs_iast (pc := 102) hx hb G ia_155 (xs_inP hi17) d_R_row_102 (fun H locs G => ?_)
                obtain ⟨μ18, hμ18, hE⟩ := xs_b hE
                have G := xs_mv G hμ18
                clear hμ18
                cases hE
                exact xs_vret (pc := 103) hx hb hr hlk G d_R_row_103
            · have hE := xs_t hE hc
              refine lv_iconst (pc := 44) (v := (1 : Int32)) hx hb d_R_row_44 (by decide) ?_
              refine lv_goto (pc := 45) (tgt := 49) hx hb d_R_row_45 (by decide) ?_
              refine pf_R_59 (pc := 49) X G d_R_row_49 (fun H locs G => ?_)
              obtain ⟨μ19, hμ19, hE⟩ := xs_b hE
              have G := xs_mv G hμ19
              have hfμ19 := xs_fi hμ19
              clear hμ19
              refine lv_aload_n (pc := 52) hx hb d_R_row_52 rfl (lv_at hl 0 rfl) ?_
              refine gf_R_59 (pc := 53) X G d_R_row_53 ?_
              refine xs_tq hfμ19 ?_
              refine lv_if_ne (pc := 56) (tgt := 103) hx hb d_R_row_56 (by decide) (fun hc => ?_) (fun hc => ?_)
              · cases hE
                exact xs_vret (pc := 103) hx hb hr hlk G d_R_row_103
              · exact absurd hc (by decide)
def fn_R_move_L8 : Nat → xs_M → Int32 → Int32 → Int32 → Int32 →  Option (Int32 × xs_M)
  | 0, _, _, _, _, _ => none
  | fu + 1, μ, v1, v2, v3, v4 => (if (4 : Int32) ≤ v4 then some ((v4, μ)) else (if xs_in ((4 : Int32) * v4) 16 = true then (if xs_in (((4 : Int32) * v4) + (1 : Int32)) 16 = true then (if xs_in (((4 : Int32) * v4) + (2 : Int32)) 16 = true then (if xs_in (((4 : Int32) * v4) + (3 : Int32)) 16 = true then ((some (((((v1).toInt64 * ((μ.1 155 ((4 : Int32) * v4).toNatClampNeg)).toInt64) + ((v2).toInt64 * ((μ.1 155 (((4 : Int32) * v4) + (1 : Int32)).toNatClampNeg)).toInt64)) + ((v3).toInt64 * ((μ.1 155 (((4 : Int32) * v4) + (2 : Int32)).toNatClampNeg)).toInt64)) + ((μ.1 155 (((4 : Int32) * v4) + (3 : Int32)).toNatClampNeg)).toInt64)).bind fun a6 => ((fn_R_fits μ a6).bind fun w7 => (if w7 = 0 then ((some (xs_si μ 154 0 (1 : Int32))).bind fun μ8 => (if xs_in v4 16 = true then ((some (xs_si μ8 156 v4.toNatClampNeg (a6).toInt32)).bind fun μ10 => fn_R_move_L8 fu μ10 v1 v2 v3 (v4 + 1)) else none)) else ((some (xs_si μ 154 0 (μ.1 154 0))).bind fun μ11 => (if xs_in v4 16 = true then ((some (xs_si μ11 156 v4.toNatClampNeg (a6).toInt32)).bind fun μ13 => fn_R_move_L8 fu μ13 v1 v2 v3 (v4 + 1)) else none))))) else none) else none) else none) else none))
def fn_R_move_L113 : Nat → xs_M → Int32 → Int32 → Int32 → Int32 →  Option (Int32 × xs_M)
  | 0, _, _, _, _, _ => none
  | fu + 1, μ, v1, v2, v3, v4 => (if (4 : Int32) ≤ v4 then some ((v4, μ)) else (if (μ.1 154 0) = 0 then (if xs_in v4 16 = true then (if xs_in (((4 : Int32) * v4) + (3 : Int32)) 16 = true then ((some (xs_si μ 155 (((4 : Int32) * v4) + (3 : Int32)).toNatClampNeg (μ.1 156 v4.toNatClampNeg))).bind fun μ17 => fn_R_move_L113 fu μ17 v1 v2 v3 (v4 + 1)) else none) else none) else some ((v4, μ))))
def fn_R_move (μ0 : xs_M) (x0 : Int32) (x1 : Int32) (x2 : Int32) : Option xs_M :=
  ((some (xs_si μ0 154 0 (0 : Int32))).bind fun μ1 => ((fn_R_move_L8 xs_FU μ1 x0 x1 x2 (0 : Int32)).bind fun z14 => ((fn_R_move_L113 xs_FU z14.2 x0 x1 x2 (0 : Int32)).bind fun z18 => some (z18.2))))
set_option maxHeartbeats 4000000 in
set_option maxRecDepth 100000 in
theorem ok_R_move (l : Launch) (D : va_G) (ad : Nat → Nat) (cs : xs_cs) (hJ : xs_J ad) {μ0 : xs_M} {x0 : Int32} {x1 : Int32} {x2 : Int32}  {rz : xs_M} (hE : fn_R_move μ0 x0 x1 x2 = some rz) : xs_I l D ad cs y_R_move b_R_move 7 none 1 21 [.ref (ad 154), .int (x0), .int (x1), .int (x2)] μ0 none rz := by
  refine xs_entry hJ (by decide) (Nat.le_of_ble_eq_true rfl) ?_
  intro p e s m below meth c ls X hr hlk G hl
  have X : xs_C p s m c b_R_move 7 _ "ExactSceneModel" := X
  have hx := X.1
  have hb := X.2.1
  have hl : lv_has ls 7 [(0, .ref (ad 154)), (1, .int (x0)), (2, .int (x1)), (3, .int (x2))] := hl
  have L8 : ∀ (fu : Nat) (μ : xs_M) (v1 : Int32) (v2 : Int32) (v3 : Int32) (v4 : Int32) (H : Heap) (locs : List Loc) (ls : Array Slot) (z : (Int32 × xs_M)), fn_R_move_L8 fu μ v1 v2 v3 v4 = some z → xs_G D ad cs s (xs_A ad s.heap.size) s.heap μ H locs → lv_has ls 7 [(0, .ref (ad 154)), (1, .int (v1)), (2, .int (v2)), (3, .int (v3)), (4, .int (v4))] → (∀ (H : Heap) (locs : List Loc) (ls : Array Slot), xs_G D ad cs s (xs_A ad s.heap.size) s.heap z.2 H locs → lv_has ls 7 [(0, .ref (ad 154)), (1, .int (v1)), (2, .int (v2)), (3, .int (v3)), (4, .int (z.1))] → W p l e (xs_rm 1 21) s m ([.ref (ad 154), .int (x0), .int (x1), .int (x2)] : List Value).toArray below meth c H locs 0 0 (xs_E below D ad cs [.ref (ad 154), .int (x0), .int (x1), .int (x2)] s none rz) (F0 m 110 ls [])) → W p l e (xs_rm 1 21) s m ([.ref (ad 154), .int (x0), .int (x1), .int (x2)] : List Value).toArray below meth c H locs 0 0 (xs_E below D ad cs [.ref (ad 154), .int (x0), .int (x1), .int (x2)] s none rz) (F0 m 8 ls []) := by
    clear hE hl G
    intro fu
    induction fu with
    | zero =>
      intro μ v1 v2 v3 v4 H locs ls z hE
      rw [fn_R_move_L8] at hE
      cases hE
    | succ fu ih =>
      intro μ v1 v2 v3 v4 H locs ls z hE G hl kk
      rw [fn_R_move_L8] at hE
      refine lv_iload (pc := 8) hx hb d_R_move_8 (lv_at hl 4 rfl) ?_
      refine lv_iconst (pc := 10) (v := (4 : Int32)) hx hb d_R_move_10 (by decide) ?_
      refine lv_icmp_ge (pc := 11) (tgt := 110) hx hb d_R_move_11 (by decide) (fun hc => ?_) (fun hc => ?_)
      · have hE := xs_t hE hc
        cases hE
        exact kk _ _ _ G (lv_sub hl [0, 1, 2, 3, 4] rfl)
      · have hE := xs_f hE hc
        refine lv_iload_n (pc := 14) hx hb d_R_move_14 rfl (lv_at hl 1 rfl) ?_
        refine lv_i2l (pc := 15) hx hb d_R_move_15 rfl ?_
        refine lv_aload_n (pc := 16) hx hb d_R_move_16 rfl (lv_at hl 0 rfl) ?_
        refine gf_R_7 (pc := 17) X G d_R_move_17 ?_
        refine lv_iconst (pc := 20) (v := (4 : Int32)) hx hb d_R_move_20 (by decide) ?_
        refine lv_iload (pc := 21) hx hb d_R_move_21 (lv_at hl 4 rfl) ?_
        refine lv_imul (pc := 23) hx hb d_R_move_23 ?_
        obtain ⟨hi2, hE⟩ := xs_n hE
        refine xs_iald (pc := 24) hx hb G ia_155 (xs_inP hi2) d_R_move_24 ?_
        refine lv_i2l (pc := 25) hx hb d_R_move_25 rfl ?_
        refine lv_lmul (pc := 26) hx hb d_R_move_26 ?_
        refine lv_iload_n (pc := 27) hx hb d_R_move_27 rfl (lv_at hl 2 rfl) ?_
        refine lv_i2l (pc := 28) hx hb d_R_move_28 rfl ?_
        refine lv_aload_n (pc := 29) hx hb d_R_move_29 rfl (lv_at hl 0 rfl) ?_
        refine gf_R_7 (pc := 30) X G d_R_move_30 ?_
        refine lv_iconst (pc := 33) (v := (4 : Int32)) hx hb d_R_move_33 (by decide) ?_
        refine lv_iload (pc := 34) hx hb d_R_move_34 (lv_at hl 4 rfl) ?_
        refine lv_imul (pc := 36) hx hb d_R_move_36 ?_
        refine lv_iconst (pc := 37) (v := (1 : Int32)) hx hb d_R_move_37 (by decide) ?_
        refine lv_iadd (pc := 38) hx hb d_R_move_38 ?_
        obtain ⟨hi3, hE⟩ := xs_n hE
        refine xs_iald (pc := 39) hx hb G ia_155 (xs_inP hi3) d_R_move_39 ?_
        refine lv_i2l (pc := 40) hx hb d_R_move_40 rfl ?_
        refine lv_lmul (pc := 41) hx hb d_R_move_41 ?_
        refine lv_ladd (pc := 42) hx hb d_R_move_42 ?_
        refine lv_iload_n (pc := 43) hx hb d_R_move_43 rfl (lv_at hl 3 rfl) ?_
        refine lv_i2l (pc := 44) hx hb d_R_move_44 rfl ?_
        refine lv_aload_n (pc := 45) hx hb d_R_move_45 rfl (lv_at hl 0 rfl) ?_
        refine gf_R_7 (pc := 46) X G d_R_move_46 ?_
        refine lv_iconst (pc := 49) (v := (4 : Int32)) hx hb d_R_move_49 (by decide) ?_
        refine lv_iload (pc := 50) hx hb d_R_move_50 (lv_at hl 4 rfl) ?_
        refine lv_imul (pc := 52) hx hb d_R_move_52 ?_
        refine lv_iconst (pc := 53) (v := (2 : Int32)) hx hb d_R_move_53 (by decide) ?_
        refine lv_iadd (pc := 54) hx hb d_R_move_54 ?_
        obtain ⟨hi4, hE⟩ := xs_n hE
        refine xs_iald (pc := 55) hx hb G ia_155 (xs_inP hi4) d_R_move_55 ?_
        refine lv_i2l (pc := 56) hx hb d_R_move_56 rfl ?_
        refine lv_lmul (pc := 57) hx hb d_R_move_57 ?_
        refine lv_ladd (pc := 58) hx hb d_R_move_58 ?_
        refine lv_aload_n (pc := 59) hx hb d_R_move_59 rfl (lv_at hl 0 rfl) ?_
        refine gf_R_7 (pc := 60) X G d_R_move_60 ?_
        refine lv_iconst (pc := 63) (v := (4 : Int32)) hx hb d_R_move_63 (by decide) ?_
        refine lv_iload (pc := 64) hx hb d_R_move_64 (lv_at hl 4 rfl) ?_
        refine lv_imul (pc := 66) hx hb d_R_move_66 ?_
        refine lv_iconst (pc := 67) (v := (3 : Int32)) hx hb d_R_move_67 (by decide) ?_
        refine lv_iadd (pc := 68) hx hb d_R_move_68 ?_
        obtain ⟨hi5, hE⟩ := xs_n hE
        refine xs_iald (pc := 69) hx hb G ia_155 (xs_inP hi5) d_R_move_69 ?_
        refine lv_i2l (pc := 70) hx hb d_R_move_70 rfl ?_
        refine lv_ladd (pc := 71) hx hb d_R_move_71 ?_
        obtain ⟨a6, ha6, hE⟩ := xs_b hE
        refine xs_tl ha6 ?_
        clear ha6
        refine lv_lstore (pc := 72) hx hb d_R_move_72 hl (by decide) (lv' := [(5, .long (a6)), (0, .ref (ad 154)), (1, .int (v1)), (2, .int (v2)), (3, .int (v3)), (4, .int (v4))]) rfl (fun ls hl => ?_)
        refine lv_aload_n (pc := 74) hx hb d_R_move_74 rfl (lv_at hl 1 rfl) ?_
        refine lv_lload (pc := 75) hx hb d_R_move_75 (lv_at hl 0 rfl) ?_
        obtain ⟨w7, hw7, hE⟩ := xs_b hE
        refine xs_callSr (pc := 77) (as := [.long (a6)]) X (ok_R_fits l D ad cs hJ hw7) km_R_67 G ⟨by decide, by decide⟩ ⟨Nat.zero_le _, Nat.zero_le _⟩ rfl hl.1 rfl (Nat.le_of_ble_eq_true rfl) d_R_move_77 (fun H locs G => ?_)
        refine lv_if_eq (pc := 80) (tgt := 90) hx hb d_R_move_80 (by decide) (fun hc => ?_) (fun hc => ?_)
        · have hE := xs_t hE hc
          refine lv_iconst (pc := 90) (v := (1 : Int32)) hx hb d_R_move_90 (by decide) ?_
          refine pf_R_59 (pc := 91) X G d_R_move_91 (fun H locs G => ?_)
          obtain ⟨μ8, hμ8, hE⟩ := xs_b hE
          have G := xs_mv G hμ8
          have hfμ8 := xs_fi hμ8
          clear hμ8
          refine lv_aload_n (pc := 94) hx hb d_R_move_94 rfl (lv_at hl 1 rfl) ?_
          refine gf_R_13 (pc := 95) X G d_R_move_95 ?_
          refine lv_iload (pc := 98) hx hb d_R_move_98 (lv_at hl 5 rfl) ?_
          refine lv_lload (pc := 100) hx hb d_R_move_100 (lv_at hl 0 rfl) ?_
          refine lv_l2i (pc := 102) hx hb d_R_move_102 rfl ?_
          obtain ⟨hi9, hE⟩ := xs_n hE
          refine xs_iast (pc := 103) hx hb G ia_156 (xs_inP hi9) d_R_move_103 (fun H locs G => ?_)
          obtain ⟨μ10, hμ10, hE⟩ := xs_b hE
          have G := xs_mv G hμ10
          clear hμ10
          refine lv_iinc (pc := 104) (v := (v4 + 1)) (k := 5) hx hb d_R_move_104 hl rfl (xs_inc _) (by decide) (lv' := [(4, .int ((v4 + 1))), (5, .long (a6)), (0, .ref (ad 154)), (1, .int (v1)), (2, .int (v2)), (3, .int (v3))]) rfl (fun ls hl => ?_)
          refine lv_goto (pc := 107) (tgt := 8) hx hb d_R_move_107 (by decide) ?_
          exact ih _ _ _ _ _ _ _ _ _ hE G (lv_sub hl [2, 3, 4, 5, 0] rfl) kk
        · have hE := xs_f hE hc
          refine lv_aload_n (pc := 83) hx hb d_R_move_83 rfl (lv_at hl 1 rfl) ?_
          refine gf_R_59 (pc := 84) X G d_R_move_84 ?_
          refine lv_goto (pc := 87) (tgt := 91) hx hb d_R_move_87 (by decide) ?_
          refine pf_R_59 (pc := 91) X G d_R_move_91 (fun H locs G => ?_)
          obtain ⟨μ11, hμ11, hE⟩ := xs_b hE
          have G := xs_mv G hμ11
          clear hμ11
          refine lv_aload_n (pc := 94) hx hb d_R_move_94 rfl (lv_at hl 1 rfl) ?_
          refine gf_R_13 (pc := 95) X G d_R_move_95 ?_
          refine lv_iload (pc := 98) hx hb d_R_move_98 (lv_at hl 5 rfl) ?_
          refine lv_lload (pc := 100) hx hb d_R_move_100 (lv_at hl 0 rfl) ?_
          refine lv_l2i (pc := 102) hx hb d_R_move_102 rfl ?_
          obtain ⟨hi12, hE⟩ := xs_n hE
          refine xs_iast (pc := 103) hx hb G ia_156 (xs_inP hi12) d_R_move_103 (fun H locs G => ?_)
          obtain ⟨μ13, hμ13, hE⟩ := xs_b hE
          have G := xs_mv G hμ13
          clear hμ13
          refine lv_iinc (pc := 104) (v := (v4 + 1)) (k := 5) hx hb d_R_move_104 hl rfl (xs_inc _) (by decide) (lv' := [(4, .int ((v4 + 1))), (5, .long (a6)), (0, .ref (ad 154)), (1, .int (v1)), (2, .int (v2)), (3, .int (v3))]) rfl (fun ls hl => ?_)
          refine lv_goto (pc := 107) (tgt := 8) hx hb d_R_move_107 (by decide) ?_
          exact ih _ _ _ _ _ _ _ _ _ hE G (lv_sub hl [2, 3, 4, 5, 0] rfl) kk
  have L113 : ∀ (fu : Nat) (μ : xs_M) (v1 : Int32) (v2 : Int32) (v3 : Int32) (v4 : Int32) (H : Heap) (locs : List Loc) (ls : Array Slot) (z : (Int32 × xs_M)), fn_R_move_L113 fu μ v1 v2 v3 v4 = some z → xs_G D ad cs s (xs_A ad s.heap.size) s.heap μ H locs → lv_has ls 7 [(0, .ref (ad 154)), (1, .int (v1)), (2, .int (v2)), (3, .int (v3)), (4, .int (v4))] → (∀ (H : Heap) (locs : List Loc) (ls : Array Slot), xs_G D ad cs s (xs_A ad s.heap.size) s.heap z.2 H locs → lv_has ls 7 [(0, .ref (ad 154)), (1, .int (v1)), (2, .int (v2)), (3, .int (v3)), (4, .int (z.1))] → W p l e (xs_rm 1 21) s m ([.ref (ad 154), .int (x0), .int (x1), .int (x2)] : List Value).toArray below meth c H locs 0 0 (xs_E below D ad cs [.ref (ad 154), .int (x0), .int (x1), .int (x2)] s none rz) (F0 m 150 ls [])) → W p l e (xs_rm 1 21) s m ([.ref (ad 154), .int (x0), .int (x1), .int (x2)] : List Value).toArray below meth c H locs 0 0 (xs_E below D ad cs [.ref (ad 154), .int (x0), .int (x1), .int (x2)] s none rz) (F0 m 113 ls []) := by
    clear hE hl G
    intro fu
    induction fu with
    | zero =>
      intro μ v1 v2 v3 v4 H locs ls z hE
      rw [fn_R_move_L113] at hE
      cases hE
    | succ fu ih =>
      intro μ v1 v2 v3 v4 H locs ls z hE G hl kk
      rw [fn_R_move_L113] at hE
      refine lv_iload (pc := 113) hx hb d_R_move_113 (lv_at hl 4 rfl) ?_
      refine lv_iconst (pc := 115) (v := (4 : Int32)) hx hb d_R_move_115 (by decide) ?_
      refine lv_icmp_ge (pc := 116) (tgt := 150) hx hb d_R_move_116 (by decide) (fun hc => ?_) (fun hc => ?_)
      · have hE := xs_t hE hc
        cases hE
        exact kk _ _ _ G (lv_sub hl [0, 1, 2, 3, 4] rfl)
      · have hE := xs_f hE hc
        refine lv_aload_n (pc := 119) hx hb d_R_move_119 rfl (lv_at hl 0 rfl) ?_
        refine gf_R_59 (pc := 120) X G d_R_move_120 ?_
        refine lv_if_ne (pc := 123) (tgt := 150) hx hb d_R_move_123 (by decide) (fun hc => ?_) (fun hc => ?_)
        · have hE := xs_f hE hc
          cases hE
          exact kk _ _ _ G (lv_sub hl [0, 1, 2, 3, 4] rfl)
        · have hE := xs_t hE hc
          refine lv_aload_n (pc := 126) hx hb d_R_move_126 rfl (lv_at hl 0 rfl) ?_
          refine gf_R_7 (pc := 127) X G d_R_move_127 ?_
          refine lv_iconst (pc := 130) (v := (4 : Int32)) hx hb d_R_move_130 (by decide) ?_
          refine lv_iload (pc := 131) hx hb d_R_move_131 (lv_at hl 4 rfl) ?_
          refine lv_imul (pc := 133) hx hb d_R_move_133 ?_
          refine lv_iconst (pc := 134) (v := (3 : Int32)) hx hb d_R_move_134 (by decide) ?_
          refine lv_iadd (pc := 135) hx hb d_R_move_135 ?_
          refine lv_aload_n (pc := 136) hx hb d_R_move_136 rfl (lv_at hl 0 rfl) ?_
          refine gf_R_13 (pc := 137) X G d_R_move_137 ?_
          refine lv_iload (pc := 140) hx hb d_R_move_140 (lv_at hl 4 rfl) ?_
          obtain ⟨hi15, hE⟩ := xs_n hE
          refine xs_iald (pc := 142) hx hb G ia_156 (xs_inP hi15) d_R_move_142 ?_
          obtain ⟨hi16, hE⟩ := xs_n hE
          refine xs_iast (pc := 143) hx hb G ia_155 (xs_inP hi16) d_R_move_143 (fun H locs G => ?_)
          obtain ⟨μ17, hμ17, hE⟩ := xs_b hE
          have G := xs_mv G hμ17
          clear hμ17
          refine lv_iinc (pc := 144) (v := (v4 + 1)) (k := 4) hx hb d_R_move_144 hl rfl (xs_inc _) (by decide) (lv' := [(4, .int ((v4 + 1))), (0, .ref (ad 154)), (1, .int (v1)), (2, .int (v2)), (3, .int (v3))]) rfl (fun ls hl => ?_)
          refine lv_goto (pc := 147) (tgt := 113) hx hb d_R_move_147 (by decide) ?_
          exact ih _ _ _ _ _ _ _ _ _ hE G (lv_sub hl [1, 2, 3, 4, 0] rfl) kk
  unfold fn_R_move at hE
  refine lv_aload_n (pc := 0) hx hb d_R_move_0 rfl (lv_at hl 0 rfl) ?_
  refine lv_iconst (pc := 1) (v := (0 : Int32)) hx hb d_R_move_1 (by decide) ?_
  refine pf_R_59 (pc := 2) X G d_R_move_2 (fun H locs G => ?_)
  obtain ⟨μ1, hμ1, hE⟩ := xs_b hE
  have G := xs_mv G hμ1
  have hfμ1 := xs_fi hμ1
  clear hμ1
  refine lv_iconst (pc := 5) (v := (0 : Int32)) hx hb d_R_move_5 (by decide) ?_
  refine lv_istore (pc := 6) hx hb d_R_move_6 hl (by decide) (lv' := [(4, .int ((0 : Int32))), (0, .ref (ad 154)), (1, .int (x0)), (2, .int (x1)), (3, .int (x2))]) rfl (fun ls hl => ?_)
  obtain ⟨z14, hz14, hE⟩ := xs_b hE
  refine L8 _ _ _ _ _ _ _ _ _ _ hz14 G (lv_sub hl [1, 2, 3, 4, 0] rfl) (fun H locs ls G hl => ?_)
  refine lv_iconst (pc := 110) (v := (0 : Int32)) hx hb d_R_move_110 (by decide) ?_
  refine lv_istore (pc := 111) hx hb d_R_move_111 hl (by decide) (lv' := [(4, .int ((0 : Int32))), (0, .ref (ad 154)), (1, .int (x0)), (2, .int (x1)), (3, .int (x2))]) rfl (fun ls hl => ?_)
  obtain ⟨z18, hz18, hE⟩ := xs_b hE
  refine L113 _ _ _ _ _ _ _ _ _ _ hz18 G (lv_sub hl [1, 2, 3, 4, 0] rfl) (fun H locs ls G hl => ?_)
  cases hE
  exact xs_vret (pc := 150) hx hb hr hlk G d_R_move_150
def fn_R_stretch_L8 : Nat → xs_M → Int32 → Int32 → Int32 → Int32 →  Option (Int32 × xs_M)
  | 0, _, _, _, _, _ => none
  | fu + 1, μ, v1, v2, v3, v4 => (if (16 : Int32) ≤ v4 then some ((v4, μ)) else (if (v4 - v4 / (4 : Int32) * (4 : Int32)) = 0 then ((some ((v1).toInt64)).bind fun a31 => (if xs_in v4 16 = true then ((some (a31 * ((μ.1 155 v4.toNatClampNeg)).toInt64)).bind fun a33 => ((fn_R_fits μ a33).bind fun w34 => (if w34 = 0 then ((some (xs_si μ 154 0 (1 : Int32))).bind fun μ35 => (if xs_in v4 16 = true then ((some (xs_si μ35 156 v4.toNatClampNeg (a33).toInt32)).bind fun μ37 => fn_R_stretch_L8 fu μ37 v1 v2 v3 (v4 + 1)) else none)) else ((some (xs_si μ 154 0 (μ.1 154 0))).bind fun μ38 => (if xs_in v4 16 = true then ((some (xs_si μ38 156 v4.toNatClampNeg (a33).toInt32)).bind fun μ40 => fn_R_stretch_L8 fu μ40 v1 v2 v3 (v4 + 1)) else none))))) else none)) else (if (v4 - v4 / (4 : Int32) * (4 : Int32)) = (1 : Int32) then ((some ((v2).toInt64)).bind fun a21 => (if xs_in v4 16 = true then ((some (a21 * ((μ.1 155 v4.toNatClampNeg)).toInt64)).bind fun a23 => ((fn_R_fits μ a23).bind fun w24 => (if w24 = 0 then ((some (xs_si μ 154 0 (1 : Int32))).bind fun μ25 => (if xs_in v4 16 = true then ((some (xs_si μ25 156 v4.toNatClampNeg (a23).toInt32)).bind fun μ27 => fn_R_stretch_L8 fu μ27 v1 v2 v3 (v4 + 1)) else none)) else ((some (xs_si μ 154 0 (μ.1 154 0))).bind fun μ28 => (if xs_in v4 16 = true then ((some (xs_si μ28 156 v4.toNatClampNeg (a23).toInt32)).bind fun μ30 => fn_R_stretch_L8 fu μ30 v1 v2 v3 (v4 + 1)) else none))))) else none)) else (if (v4 - v4 / (4 : Int32) * (4 : Int32)) = (2 : Int32) then ((some ((v3).toInt64)).bind fun a11 => (if xs_in v4 16 = true then ((some (a11 * ((μ.1 155 v4.toNatClampNeg)).toInt64)).bind fun a13 => ((fn_R_fits μ a13).bind fun w14 => (if w14 = 0 then ((some (xs_si μ 154 0 (1 : Int32))).bind fun μ15 => (if xs_in v4 16 = true then ((some (xs_si μ15 156 v4.toNatClampNeg (a13).toInt32)).bind fun μ17 => fn_R_stretch_L8 fu μ17 v1 v2 v3 (v4 + 1)) else none)) else ((some (xs_si μ 154 0 (μ.1 154 0))).bind fun μ18 => (if xs_in v4 16 = true then ((some (xs_si μ18 156 v4.toNatClampNeg (a13).toInt32)).bind fun μ20 => fn_R_stretch_L8 fu μ20 v1 v2 v3 (v4 + 1)) else none))))) else none)) else (if xs_in v4 16 = true then ((some ((1 : Int64) * ((μ.1 155 v4.toNatClampNeg)).toInt64)).bind fun a3 => ((fn_R_fits μ a3).bind fun w4 => (if w4 = 0 then ((some (xs_si μ 154 0 (1 : Int32))).bind fun μ5 => (if xs_in v4 16 = true then ((some (xs_si μ5 156 v4.toNatClampNeg (a3).toInt32)).bind fun μ7 => fn_R_stretch_L8 fu μ7 v1 v2 v3 (v4 + 1)) else none)) else ((some (xs_si μ 154 0 (μ.1 154 0))).bind fun μ8 => (if xs_in v4 16 = true then ((some (xs_si μ8 156 v4.toNatClampNeg (a3).toInt32)).bind fun μ10 => fn_R_stretch_L8 fu μ10 v1 v2 v3 (v4 + 1)) else none))))) else none)))))
def fn_R_stretch_L108 : Nat → xs_M → Int32 → Int32 → Int32 → Int32 →  Option (Int32 × xs_M)
  | 0, _, _, _, _, _ => none
  | fu + 1, μ, v1, v2, v3, v4 => (if (16 : Int32) ≤ v4 then some ((v4, μ)) else (if (μ.1 154 0) = 0 then (if xs_in v4 16 = true then (if xs_in v4 16 = true then ((some (xs_si μ 155 v4.toNatClampNeg (μ.1 156 v4.toNatClampNeg))).bind fun μ44 => fn_R_stretch_L108 fu μ44 v1 v2 v3 (v4 + 1)) else none) else none) else some ((v4, μ))))
def fn_R_stretch (μ0 : xs_M) (x0 : Int32) (x1 : Int32) (x2 : Int32) : Option xs_M :=
  ((some (xs_si μ0 154 0 (0 : Int32))).bind fun μ1 => ((fn_R_stretch_L8 xs_FU μ1 x0 x1 x2 (0 : Int32)).bind fun z41 => ((fn_R_stretch_L108 xs_FU z41.2 x0 x1 x2 (0 : Int32)).bind fun z45 => some (z45.2))))
set_option maxHeartbeats 4000000 in
set_option maxRecDepth 100000 in
theorem ok_R_stretch (l : Launch) (D : va_G) (ad : Nat → Nat) (cs : xs_cs) (hJ : xs_J ad) {μ0 : xs_M} {x0 : Int32} {x1 : Int32} {x2 : Int32}  {rz : xs_M} (hE : fn_R_stretch μ0 x0 x1 x2 = some rz) : xs_I l D ad cs y_R_stretch b_R_stretch 9 none 1 21 [.ref (ad 154), .int (x0), .int (x1), .int (x2)] μ0 none rz := by
  refine xs_entry hJ (by decide) (Nat.le_of_ble_eq_true rfl) ?_
  intro p e s m below meth c ls X hr hlk G hl
  have X : xs_C p s m c b_R_stretch 9 _ "ExactSceneModel" := X
  have hx := X.1
  have hb := X.2.1
  have hl : lv_has ls 9 [(0, .ref (ad 154)), (1, .int (x0)), (2, .int (x1)), (3, .int (x2))] := hl
  have L8 : ∀ (fu : Nat) (μ : xs_M) (v1 : Int32) (v2 : Int32) (v3 : Int32) (v4 : Int32) (H : Heap) (locs : List Loc) (ls : Array Slot) (z : (Int32 × xs_M)), fn_R_stretch_L8 fu μ v1 v2 v3 v4 = some z → xs_G D ad cs s (xs_A ad s.heap.size) s.heap μ H locs → lv_has ls 9 [(0, .ref (ad 154)), (1, .int (v1)), (2, .int (v2)), (3, .int (v3)), (4, .int (v4))] → (∀ (H : Heap) (locs : List Loc) (ls : Array Slot), xs_G D ad cs s (xs_A ad s.heap.size) s.heap z.2 H locs → lv_has ls 9 [(0, .ref (ad 154)), (1, .int (v1)), (2, .int (v2)), (3, .int (v3)), (4, .int (z.1))] → W p l e (xs_rm 1 21) s m ([.ref (ad 154), .int (x0), .int (x1), .int (x2)] : List Value).toArray below meth c H locs 0 0 (xs_E below D ad cs [.ref (ad 154), .int (x0), .int (x1), .int (x2)] s none rz) (F0 m 105 ls [])) → W p l e (xs_rm 1 21) s m ([.ref (ad 154), .int (x0), .int (x1), .int (x2)] : List Value).toArray below meth c H locs 0 0 (xs_E below D ad cs [.ref (ad 154), .int (x0), .int (x1), .int (x2)] s none rz) (F0 m 8 ls []) := by
    clear hE hl G
    intro fu
    induction fu with
    | zero =>
      intro μ v1 v2 v3 v4 H locs ls z hE
      rw [fn_R_stretch_L8] at hE
      cases hE
    | succ fu ih =>
      intro μ v1 v2 v3 v4 H locs ls z hE G hl kk
      rw [fn_R_stretch_L8] at hE
      refine lv_iload (pc := 8) hx hb d_R_stretch_8 (lv_at hl 4 rfl) ?_
      refine lv_bipush (pc := 10) (v := (16 : Int32)) hx hb d_R_stretch_10 (by decide) ?_
      refine lv_icmp_ge (pc := 12) (tgt := 105) hx hb d_R_stretch_12 (by decide) (fun hc => ?_) (fun hc => ?_)
      · have hE := xs_t hE hc
        cases hE
        exact kk _ _ _ G (lv_sub hl [0, 1, 2, 3, 4] rfl)
      · have hE := xs_f hE hc
        refine lv_iload (pc := 15) hx hb d_R_stretch_15 (lv_at hl 4 rfl) ?_
        refine lv_iconst (pc := 17) (v := (4 : Int32)) hx hb d_R_stretch_17 (by decide) ?_
        refine lv_irem (pc := 18) hx hb d_R_stretch_18 (by decide) ?_
        refine lv_if_ne (pc := 19) (tgt := 27) hx hb d_R_stretch_19 (by decide) (fun hc => ?_) (fun hc => ?_)
        · have hE := xs_f hE hc
          refine lv_iload (pc := 27) hx hb d_R_stretch_27 (lv_at hl 4 rfl) ?_
          refine lv_iconst (pc := 29) (v := (4 : Int32)) hx hb d_R_stretch_29 (by decide) ?_
          refine lv_irem (pc := 30) hx hb d_R_stretch_30 (by decide) ?_
          refine lv_iconst (pc := 31) (v := (1 : Int32)) hx hb d_R_stretch_31 (by decide) ?_
          refine lv_icmp_ne (pc := 32) (tgt := 40) hx hb d_R_stretch_32 (by decide) (fun hc => ?_) (fun hc => ?_)
          · have hE := xs_f hE hc
            refine lv_iload (pc := 40) hx hb d_R_stretch_40 (lv_at hl 4 rfl) ?_
            refine lv_iconst (pc := 42) (v := (4 : Int32)) hx hb d_R_stretch_42 (by decide) ?_
            refine lv_irem (pc := 43) hx hb d_R_stretch_43 (by decide) ?_
            refine lv_iconst (pc := 44) (v := (2 : Int32)) hx hb d_R_stretch_44 (by decide) ?_
            refine lv_icmp_ne (pc := 45) (tgt := 53) hx hb d_R_stretch_45 (by decide) (fun hc => ?_) (fun hc => ?_)
            · have hE := xs_f hE hc
              refine lv_lconst (pc := 53) (v := (1 : Int64)) hx hb d_R_stretch_53 (by decide) ?_
              refine lv_lstore (pc := 54) hx hb d_R_stretch_54 hl (by decide) (lv' := [(5, .long ((1 : Int64))), (0, .ref (ad 154)), (1, .int (v1)), (2, .int (v2)), (3, .int (v3)), (4, .int (v4))]) rfl (fun ls hl => ?_)
              refine lv_lload (pc := 56) hx hb d_R_stretch_56 (lv_at hl 0 rfl) ?_
              refine lv_aload_n (pc := 58) hx hb d_R_stretch_58 rfl (lv_at hl 1 rfl) ?_
              refine gf_R_7 (pc := 59) X G d_R_stretch_59 ?_
              refine lv_iload (pc := 62) hx hb d_R_stretch_62 (lv_at hl 5 rfl) ?_
              obtain ⟨hi2, hE⟩ := xs_n hE
              refine xs_iald (pc := 64) hx hb G ia_155 (xs_inP hi2) d_R_stretch_64 ?_
              refine lv_i2l (pc := 65) hx hb d_R_stretch_65 rfl ?_
              refine lv_lmul (pc := 66) hx hb d_R_stretch_66 ?_
              obtain ⟨a3, ha3, hE⟩ := xs_b hE
              refine xs_tl ha3 ?_
              clear ha3
              refine lv_lstore (pc := 67) hx hb d_R_stretch_67 hl (by decide) (lv' := [(7, .long (a3)), (5, .long ((1 : Int64))), (0, .ref (ad 154)), (1, .int (v1)), (2, .int (v2)), (3, .int (v3)), (4, .int (v4))]) rfl (fun ls hl => ?_)
              refine lv_aload_n (pc := 69) hx hb d_R_stretch_69 rfl (lv_at hl 2 rfl) ?_
              refine lv_lload (pc := 70) hx hb d_R_stretch_70 (lv_at hl 0 rfl) ?_
              obtain ⟨w4, hw4, hE⟩ := xs_b hE
              refine xs_callSr (pc := 72) (as := [.long (a3)]) X (ok_R_fits l D ad cs hJ hw4) km_R_67 G ⟨by decide, by decide⟩ ⟨Nat.zero_le _, Nat.zero_le _⟩ rfl hl.1 rfl (Nat.le_of_ble_eq_true rfl) d_R_stretch_72 (fun H locs G => ?_)
              refine lv_if_eq (pc := 75) (tgt := 85) hx hb d_R_stretch_75 (by decide) (fun hc => ?_) (fun hc => ?_)
              · have hE := xs_t hE hc
                refine lv_iconst (pc := 85) (v := (1 : Int32)) hx hb d_R_stretch_85 (by decide) ?_
                refine pf_R_59 (pc := 86) X G d_R_stretch_86 (fun H locs G => ?_)
                obtain ⟨μ5, hμ5, hE⟩ := xs_b hE
                have G := xs_mv G hμ5
                have hfμ5 := xs_fi hμ5
                clear hμ5
                refine lv_aload_n (pc := 89) hx hb d_R_stretch_89 rfl (lv_at hl 2 rfl) ?_
                refine gf_R_13 (pc := 90) X G d_R_stretch_90 ?_
                refine lv_iload (pc := 93) hx hb d_R_stretch_93 (lv_at hl 6 rfl) ?_
                refine lv_lload (pc := 95) hx hb d_R_stretch_95 (lv_at hl 0 rfl) ?_
                refine lv_l2i (pc := 97) hx hb d_R_stretch_97 rfl ?_
                obtain ⟨hi6, hE⟩ := xs_n hE
                refine xs_iast (pc := 98) hx hb G ia_156 (xs_inP hi6) d_R_stretch_98 (fun H locs G => ?_)
                obtain ⟨μ7, hμ7, hE⟩ := xs_b hE
                have G := xs_mv G hμ7
                clear hμ7
                refine lv_iinc (pc := 99) (v := (v4 + 1)) (k := 6) hx hb d_R_stretch_99 hl rfl (xs_inc _) (by decide) (lv' := [(4, .int ((v4 + 1))), (7, .long (a3)), (5, .long ((1 : Int64))), (0, .ref (ad 154)), (1, .int (v1)), (2, .int (v2)), (3, .int (v3))]) rfl (fun ls hl => ?_)
                refine lv_goto (pc := 102) (tgt := 8) hx hb d_R_stretch_102 (by decide) ?_
                exact ih _ _ _ _ _ _ _ _ _ hE G (lv_sub hl [3, 4, 5, 6, 0] rfl) kk
              · have hE := xs_f hE hc
                refine lv_aload_n (pc := 78) hx hb d_R_stretch_78 rfl (lv_at hl 2 rfl) ?_
                refine gf_R_59 (pc := 79) X G d_R_stretch_79 ?_
                refine lv_goto (pc := 82) (tgt := 86) hx hb d_R_stretch_82 (by decide) ?_
                refine pf_R_59 (pc := 86) X G d_R_stretch_86 (fun H locs G => ?_)
                obtain ⟨μ8, hμ8, hE⟩ := xs_b hE
                have G := xs_mv G hμ8
                clear hμ8
                refine lv_aload_n (pc := 89) hx hb d_R_stretch_89 rfl (lv_at hl 2 rfl) ?_
                refine gf_R_13 (pc := 90) X G d_R_stretch_90 ?_
                refine lv_iload (pc := 93) hx hb d_R_stretch_93 (lv_at hl 6 rfl) ?_
                refine lv_lload (pc := 95) hx hb d_R_stretch_95 (lv_at hl 0 rfl) ?_
                refine lv_l2i (pc := 97) hx hb d_R_stretch_97 rfl ?_
                obtain ⟨hi9, hE⟩ := xs_n hE
                refine xs_iast (pc := 98) hx hb G ia_156 (xs_inP hi9) d_R_stretch_98 (fun H locs G => ?_)
                obtain ⟨μ10, hμ10, hE⟩ := xs_b hE
                have G := xs_mv G hμ10
                clear hμ10
                refine lv_iinc (pc := 99) (v := (v4 + 1)) (k := 6) hx hb d_R_stretch_99 hl rfl (xs_inc _) (by decide) (lv' := [(4, .int ((v4 + 1))), (7, .long (a3)), (5, .long ((1 : Int64))), (0, .ref (ad 154)), (1, .int (v1)), (2, .int (v2)), (3, .int (v3))]) rfl (fun ls hl => ?_)
                refine lv_goto (pc := 102) (tgt := 8) hx hb d_R_stretch_102 (by decide) ?_
                exact ih _ _ _ _ _ _ _ _ _ hE G (lv_sub hl [3, 4, 5, 6, 0] rfl) kk
            · have hE := xs_t hE hc
              refine lv_iload_n (pc := 48) hx hb d_R_stretch_48 rfl (lv_at hl 3 rfl) ?_
              refine lv_i2l (pc := 49) hx hb d_R_stretch_49 rfl ?_
              refine lv_goto (pc := 50) (tgt := 54) hx hb d_R_stretch_50 (by decide) ?_
              obtain ⟨a11, ha11, hE⟩ := xs_b hE
              refine xs_tl ha11 ?_
              clear ha11
              refine lv_lstore (pc := 54) hx hb d_R_stretch_54 hl (by decide) (lv' := [(5, .long (a11)), (0, .ref (ad 154)), (1, .int (v1)), (2, .int (v2)), (3, .int (v3)), (4, .int (v4))]) rfl (fun ls hl => ?_)
              refine lv_lload (pc := 56) hx hb d_R_stretch_56 (lv_at hl 0 rfl) ?_
              refine lv_aload_n (pc := 58) hx hb d_R_stretch_58 rfl (lv_at hl 1 rfl) ?_
              refine gf_R_7 (pc := 59) X G d_R_stretch_59 ?_
              refine lv_iload (pc := 62) hx hb d_R_stretch_62 (lv_at hl 5 rfl) ?_
              obtain ⟨hi12, hE⟩ := xs_n hE
              refine xs_iald (pc := 64) hx hb G ia_155 (xs_inP hi12) d_R_stretch_64 ?_
              refine lv_i2l (pc := 65) hx hb d_R_stretch_65 rfl ?_
              refine lv_lmul (pc := 66) hx hb d_R_stretch_66 ?_
              obtain ⟨a13, ha13, hE⟩ := xs_b hE
              refine xs_tl ha13 ?_
              clear ha13
              refine lv_lstore (pc := 67) hx hb d_R_stretch_67 hl (by decide) (lv' := [(7, .long (a13)), (5, .long (a11)), (0, .ref (ad 154)), (1, .int (v1)), (2, .int (v2)), (3, .int (v3)), (4, .int (v4))]) rfl (fun ls hl => ?_)
              refine lv_aload_n (pc := 69) hx hb d_R_stretch_69 rfl (lv_at hl 2 rfl) ?_
              refine lv_lload (pc := 70) hx hb d_R_stretch_70 (lv_at hl 0 rfl) ?_
              obtain ⟨w14, hw14, hE⟩ := xs_b hE
              refine xs_callSr (pc := 72) (as := [.long (a13)]) X (ok_R_fits l D ad cs hJ hw14) km_R_67 G ⟨by decide, by decide⟩ ⟨Nat.zero_le _, Nat.zero_le _⟩ rfl hl.1 rfl (Nat.le_of_ble_eq_true rfl) d_R_stretch_72 (fun H locs G => ?_)
              refine lv_if_eq (pc := 75) (tgt := 85) hx hb d_R_stretch_75 (by decide) (fun hc => ?_) (fun hc => ?_)
              · have hE := xs_t hE hc
                refine lv_iconst (pc := 85) (v := (1 : Int32)) hx hb d_R_stretch_85 (by decide) ?_
                refine pf_R_59 (pc := 86) X G d_R_stretch_86 (fun H locs G => ?_)
                obtain ⟨μ15, hμ15, hE⟩ := xs_b hE
                have G := xs_mv G hμ15
                have hfμ15 := xs_fi hμ15
                clear hμ15
                refine lv_aload_n (pc := 89) hx hb d_R_stretch_89 rfl (lv_at hl 2 rfl) ?_
                refine gf_R_13 (pc := 90) X G d_R_stretch_90 ?_
                refine lv_iload (pc := 93) hx hb d_R_stretch_93 (lv_at hl 6 rfl) ?_
                refine lv_lload (pc := 95) hx hb d_R_stretch_95 (lv_at hl 0 rfl) ?_
                refine lv_l2i (pc := 97) hx hb d_R_stretch_97 rfl ?_
                obtain ⟨hi16, hE⟩ := xs_n hE
                refine xs_iast (pc := 98) hx hb G ia_156 (xs_inP hi16) d_R_stretch_98 (fun H locs G => ?_)
                obtain ⟨μ17, hμ17, hE⟩ := xs_b hE
                have G := xs_mv G hμ17
                clear hμ17
                refine lv_iinc (pc := 99) (v := (v4 + 1)) (k := 6) hx hb d_R_stretch_99 hl rfl (xs_inc _) (by decide) (lv' := [(4, .int ((v4 + 1))), (7, .long (a13)), (5, .long (a11)), (0, .ref (ad 154)), (1, .int (v1)), (2, .int (v2)), (3, .int (v3))]) rfl (fun ls hl => ?_)
                refine lv_goto (pc := 102) (tgt := 8) hx hb d_R_stretch_102 (by decide) ?_
                exact ih _ _ _ _ _ _ _ _ _ hE G (lv_sub hl [3, 4, 5, 6, 0] rfl) kk
              · have hE := xs_f hE hc
                refine lv_aload_n (pc := 78) hx hb d_R_stretch_78 rfl (lv_at hl 2 rfl) ?_
                refine gf_R_59 (pc := 79) X G d_R_stretch_79 ?_
                refine lv_goto (pc := 82) (tgt := 86) hx hb d_R_stretch_82 (by decide) ?_
                refine pf_R_59 (pc := 86) X G d_R_stretch_86 (fun H locs G => ?_)
                obtain ⟨μ18, hμ18, hE⟩ := xs_b hE
                have G := xs_mv G hμ18
                clear hμ18
                refine lv_aload_n (pc := 89) hx hb d_R_stretch_89 rfl (lv_at hl 2 rfl) ?_
                refine gf_R_13 (pc := 90) X G d_R_stretch_90 ?_
                refine lv_iload (pc := 93) hx hb d_R_stretch_93 (lv_at hl 6 rfl) ?_
                refine lv_lload (pc := 95) hx hb d_R_stretch_95 (lv_at hl 0 rfl) ?_
                refine lv_l2i (pc := 97) hx hb d_R_stretch_97 rfl ?_
                obtain ⟨hi19, hE⟩ := xs_n hE
                refine xs_iast (pc := 98) hx hb G ia_156 (xs_inP hi19) d_R_stretch_98 (fun H locs G => ?_)
                obtain ⟨μ20, hμ20, hE⟩ := xs_b hE
                have G := xs_mv G hμ20
                clear hμ20
                refine lv_iinc (pc := 99) (v := (v4 + 1)) (k := 6) hx hb d_R_stretch_99 hl rfl (xs_inc _) (by decide) (lv' := [(4, .int ((v4 + 1))), (7, .long (a13)), (5, .long (a11)), (0, .ref (ad 154)), (1, .int (v1)), (2, .int (v2)), (3, .int (v3))]) rfl (fun ls hl => ?_)
                refine lv_goto (pc := 102) (tgt := 8) hx hb d_R_stretch_102 (by decide) ?_
                exact ih _ _ _ _ _ _ _ _ _ hE G (lv_sub hl [3, 4, 5, 6, 0] rfl) kk
          · have hE := xs_t hE hc
            refine lv_iload_n (pc := 35) hx hb d_R_stretch_35 rfl (lv_at hl 2 rfl) ?_
            refine lv_i2l (pc := 36) hx hb d_R_stretch_36 rfl ?_
            refine lv_goto (pc := 37) (tgt := 54) hx hb d_R_stretch_37 (by decide) ?_
            obtain ⟨a21, ha21, hE⟩ := xs_b hE
            refine xs_tl ha21 ?_
            clear ha21
            refine lv_lstore (pc := 54) hx hb d_R_stretch_54 hl (by decide) (lv' := [(5, .long (a21)), (0, .ref (ad 154)), (1, .int (v1)), (2, .int (v2)), (3, .int (v3)), (4, .int (v4))]) rfl (fun ls hl => ?_)
            refine lv_lload (pc := 56) hx hb d_R_stretch_56 (lv_at hl 0 rfl) ?_
            refine lv_aload_n (pc := 58) hx hb d_R_stretch_58 rfl (lv_at hl 1 rfl) ?_
            refine gf_R_7 (pc := 59) X G d_R_stretch_59 ?_
            refine lv_iload (pc := 62) hx hb d_R_stretch_62 (lv_at hl 5 rfl) ?_
            obtain ⟨hi22, hE⟩ := xs_n hE
            refine xs_iald (pc := 64) hx hb G ia_155 (xs_inP hi22) d_R_stretch_64 ?_
            refine lv_i2l (pc := 65) hx hb d_R_stretch_65 rfl ?_
            refine lv_lmul (pc := 66) hx hb d_R_stretch_66 ?_
            obtain ⟨a23, ha23, hE⟩ := xs_b hE
            refine xs_tl ha23 ?_
            clear ha23
            refine lv_lstore (pc := 67) hx hb d_R_stretch_67 hl (by decide) (lv' := [(7, .long (a23)), (5, .long (a21)), (0, .ref (ad 154)), (1, .int (v1)), (2, .int (v2)), (3, .int (v3)), (4, .int (v4))]) rfl (fun ls hl => ?_)
            refine lv_aload_n (pc := 69) hx hb d_R_stretch_69 rfl (lv_at hl 2 rfl) ?_
            refine lv_lload (pc := 70) hx hb d_R_stretch_70 (lv_at hl 0 rfl) ?_
            obtain ⟨w24, hw24, hE⟩ := xs_b hE
            refine xs_callSr (pc := 72) (as := [.long (a23)]) X (ok_R_fits l D ad cs hJ hw24) km_R_67 G ⟨by decide, by decide⟩ ⟨Nat.zero_le _, Nat.zero_le _⟩ rfl hl.1 rfl (Nat.le_of_ble_eq_true rfl) d_R_stretch_72 (fun H locs G => ?_)
            refine lv_if_eq (pc := 75) (tgt := 85) hx hb d_R_stretch_75 (by decide) (fun hc => ?_) (fun hc => ?_)
            · have hE := xs_t hE hc
              refine lv_iconst (pc := 85) (v := (1 : Int32)) hx hb d_R_stretch_85 (by decide) ?_
              refine pf_R_59 (pc := 86) X G d_R_stretch_86 (fun H locs G => ?_)
              obtain ⟨μ25, hμ25, hE⟩ := xs_b hE
              have G := xs_mv G hμ25
              have hfμ25 := xs_fi hμ25
              clear hμ25
              refine lv_aload_n (pc := 89) hx hb d_R_stretch_89 rfl (lv_at hl 2 rfl) ?_
              refine gf_R_13 (pc := 90) X G d_R_stretch_90 ?_
              refine lv_iload (pc := 93) hx hb d_R_stretch_93 (lv_at hl 6 rfl) ?_
              refine lv_lload (pc := 95) hx hb d_R_stretch_95 (lv_at hl 0 rfl) ?_
              refine lv_l2i (pc := 97) hx hb d_R_stretch_97 rfl ?_
              obtain ⟨hi26, hE⟩ := xs_n hE
              refine xs_iast (pc := 98) hx hb G ia_156 (xs_inP hi26) d_R_stretch_98 (fun H locs G => ?_)
              obtain ⟨μ27, hμ27, hE⟩ := xs_b hE
              have G := xs_mv G hμ27
              clear hμ27
              refine lv_iinc (pc := 99) (v := (v4 + 1)) (k := 6) hx hb d_R_stretch_99 hl rfl (xs_inc _) (by decide) (lv' := [(4, .int ((v4 + 1))), (7, .long (a23)), (5, .long (a21)), (0, .ref (ad 154)), (1, .int (v1)), (2, .int (v2)), (3, .int (v3))]) rfl (fun ls hl => ?_)
              refine lv_goto (pc := 102) (tgt := 8) hx hb d_R_stretch_102 (by decide) ?_
              exact ih _ _ _ _ _ _ _ _ _ hE G (lv_sub hl [3, 4, 5, 6, 0] rfl) kk
            · have hE := xs_f hE hc
              refine lv_aload_n (pc := 78) hx hb d_R_stretch_78 rfl (lv_at hl 2 rfl) ?_
              refine gf_R_59 (pc := 79) X G d_R_stretch_79 ?_
              refine lv_goto (pc := 82) (tgt := 86) hx hb d_R_stretch_82 (by decide) ?_
              refine pf_R_59 (pc := 86) X G d_R_stretch_86 (fun H locs G => ?_)
              obtain ⟨μ28, hμ28, hE⟩ := xs_b hE
              have G := xs_mv G hμ28
              clear hμ28
              refine lv_aload_n (pc := 89) hx hb d_R_stretch_89 rfl (lv_at hl 2 rfl) ?_
              refine gf_R_13 (pc := 90) X G d_R_stretch_90 ?_
              refine lv_iload (pc := 93) hx hb d_R_stretch_93 (lv_at hl 6 rfl) ?_
              refine lv_lload (pc := 95) hx hb d_R_stretch_95 (lv_at hl 0 rfl) ?_
              refine lv_l2i (pc := 97) hx hb d_R_stretch_97 rfl ?_
              obtain ⟨hi29, hE⟩ := xs_n hE
              refine xs_iast (pc := 98) hx hb G ia_156 (xs_inP hi29) d_R_stretch_98 (fun H locs G => ?_)
              obtain ⟨μ30, hμ30, hE⟩ := xs_b hE
              have G := xs_mv G hμ30
              clear hμ30
              refine lv_iinc (pc := 99) (v := (v4 + 1)) (k := 6) hx hb d_R_stretch_99 hl rfl (xs_inc _) (by decide) (lv' := [(4, .int ((v4 + 1))), (7, .long (a23)), (5, .long (a21)), (0, .ref (ad 154)), (1, .int (v1)), (2, .int (v2)), (3, .int (v3))]) rfl (fun ls hl => ?_)
              refine lv_goto (pc := 102) (tgt := 8) hx hb d_R_stretch_102 (by decide) ?_
              exact ih _ _ _ _ _ _ _ _ _ hE G (lv_sub hl [3, 4, 5, 6, 0] rfl) kk
        · have hE := xs_t hE hc
          refine lv_iload_n (pc := 22) hx hb d_R_stretch_22 rfl (lv_at hl 1 rfl) ?_
          refine lv_i2l (pc := 23) hx hb d_R_stretch_23 rfl ?_
          refine lv_goto (pc := 24) (tgt := 54) hx hb d_R_stretch_24 (by decide) ?_
          obtain ⟨a31, ha31, hE⟩ := xs_b hE
          refine xs_tl ha31 ?_
          clear ha31
          refine lv_lstore (pc := 54) hx hb d_R_stretch_54 hl (by decide) (lv' := [(5, .long (a31)), (0, .ref (ad 154)), (1, .int (v1)), (2, .int (v2)), (3, .int (v3)), (4, .int (v4))]) rfl (fun ls hl => ?_)
          refine lv_lload (pc := 56) hx hb d_R_stretch_56 (lv_at hl 0 rfl) ?_
          refine lv_aload_n (pc := 58) hx hb d_R_stretch_58 rfl (lv_at hl 1 rfl) ?_
          refine gf_R_7 (pc := 59) X G d_R_stretch_59 ?_
          refine lv_iload (pc := 62) hx hb d_R_stretch_62 (lv_at hl 5 rfl) ?_
          obtain ⟨hi32, hE⟩ := xs_n hE
          refine xs_iald (pc := 64) hx hb G ia_155 (xs_inP hi32) d_R_stretch_64 ?_
          refine lv_i2l (pc := 65) hx hb d_R_stretch_65 rfl ?_
          refine lv_lmul (pc := 66) hx hb d_R_stretch_66 ?_
          obtain ⟨a33, ha33, hE⟩ := xs_b hE
          refine xs_tl ha33 ?_
          clear ha33
          refine lv_lstore (pc := 67) hx hb d_R_stretch_67 hl (by decide) (lv' := [(7, .long (a33)), (5, .long (a31)), (0, .ref (ad 154)), (1, .int (v1)), (2, .int (v2)), (3, .int (v3)), (4, .int (v4))]) rfl (fun ls hl => ?_)
          refine lv_aload_n (pc := 69) hx hb d_R_stretch_69 rfl (lv_at hl 2 rfl) ?_
          refine lv_lload (pc := 70) hx hb d_R_stretch_70 (lv_at hl 0 rfl) ?_
          obtain ⟨w34, hw34, hE⟩ := xs_b hE
          refine xs_callSr (pc := 72) (as := [.long (a33)]) X (ok_R_fits l D ad cs hJ hw34) km_R_67 G ⟨by decide, by decide⟩ ⟨Nat.zero_le _, Nat.zero_le _⟩ rfl hl.1 rfl (Nat.le_of_ble_eq_true rfl) d_R_stretch_72 (fun H locs G => ?_)
          refine lv_if_eq (pc := 75) (tgt := 85) hx hb d_R_stretch_75 (by decide) (fun hc => ?_) (fun hc => ?_)
          · have hE := xs_t hE hc
            refine lv_iconst (pc := 85) (v := (1 : Int32)) hx hb d_R_stretch_85 (by decide) ?_
            refine pf_R_59 (pc := 86) X G d_R_stretch_86 (fun H locs G => ?_)
            obtain ⟨μ35, hμ35, hE⟩ := xs_b hE
            have G := xs_mv G hμ35
            have hfμ35 := xs_fi hμ35
            clear hμ35
            refine lv_aload_n (pc := 89) hx hb d_R_stretch_89 rfl (lv_at hl 2 rfl) ?_
            refine gf_R_13 (pc := 90) X G d_R_stretch_90 ?_
            refine lv_iload (pc := 93) hx hb d_R_stretch_93 (lv_at hl 6 rfl) ?_
            refine lv_lload (pc := 95) hx hb d_R_stretch_95 (lv_at hl 0 rfl) ?_
            refine lv_l2i (pc := 97) hx hb d_R_stretch_97 rfl ?_
            obtain ⟨hi36, hE⟩ := xs_n hE
            refine xs_iast (pc := 98) hx hb G ia_156 (xs_inP hi36) d_R_stretch_98 (fun H locs G => ?_)
            obtain ⟨μ37, hμ37, hE⟩ := xs_b hE
            have G := xs_mv G hμ37
            clear hμ37
            refine lv_iinc (pc := 99) (v := (v4 + 1)) (k := 6) hx hb d_R_stretch_99 hl rfl (xs_inc _) (by decide) (lv' := [(4, .int ((v4 + 1))), (7, .long (a33)), (5, .long (a31)), (0, .ref (ad 154)), (1, .int (v1)), (2, .int (v2)), (3, .int (v3))]) rfl (fun ls hl => ?_)
            refine lv_goto (pc := 102) (tgt := 8) hx hb d_R_stretch_102 (by decide) ?_
            exact ih _ _ _ _ _ _ _ _ _ hE G (lv_sub hl [3, 4, 5, 6, 0] rfl) kk
          · have hE := xs_f hE hc
            refine lv_aload_n (pc := 78) hx hb d_R_stretch_78 rfl (lv_at hl 2 rfl) ?_
            refine gf_R_59 (pc := 79) X G d_R_stretch_79 ?_
            refine lv_goto (pc := 82) (tgt := 86) hx hb d_R_stretch_82 (by decide) ?_
            refine pf_R_59 (pc := 86) X G d_R_stretch_86 (fun H locs G => ?_)
            obtain ⟨μ38, hμ38, hE⟩ := xs_b hE
            have G := xs_mv G hμ38
            clear hμ38
            refine lv_aload_n (pc := 89) hx hb d_R_stretch_89 rfl (lv_at hl 2 rfl) ?_
            refine gf_R_13 (pc := 90) X G d_R_stretch_90 ?_
            refine lv_iload (pc := 93) hx hb d_R_stretch_93 (lv_at hl 6 rfl) ?_
            refine lv_lload (pc := 95) hx hb d_R_stretch_95 (lv_at hl 0 rfl) ?_
            refine lv_l2i (pc := 97) hx hb d_R_stretch_97 rfl ?_
            obtain ⟨hi39, hE⟩ := xs_n hE
            refine xs_iast (pc := 98) hx hb G ia_156 (xs_inP hi39) d_R_stretch_98 (fun H locs G => ?_)
            obtain ⟨μ40, hμ40, hE⟩ := xs_b hE
            have G := xs_mv G hμ40
            clear hμ40
            refine lv_iinc (pc := 99) (v := (v4 + 1)) (k := 6) hx hb d_R_stretch_99 hl rfl (xs_inc _) (by decide) (lv' := [(4, .int ((v4 + 1))), (7, .long (a33)), (5, .long (a31)), (0, .ref (ad 154)), (1, .int (v1)), (2, .int (v2)), (3, .int (v3))]) rfl (fun ls hl => ?_)
            refine lv_goto (pc := 102) (tgt := 8) hx hb d_R_stretch_102 (by decide) ?_
            exact ih _ _ _ _ _ _ _ _ _ hE G (lv_sub hl [3, 4, 5, 6, 0] rfl) kk
  have L108 : ∀ (fu : Nat) (μ : xs_M) (v1 : Int32) (v2 : Int32) (v3 : Int32) (v4 : Int32) (H : Heap) (locs : List Loc) (ls : Array Slot) (z : (Int32 × xs_M)), fn_R_stretch_L108 fu μ v1 v2 v3 v4 = some z → xs_G D ad cs s (xs_A ad s.heap.size) s.heap μ H locs → lv_has ls 9 [(0, .ref (ad 154)), (1, .int (v1)), (2, .int (v2)), (3, .int (v3)), (4, .int (v4))] → (∀ (H : Heap) (locs : List Loc) (ls : Array Slot), xs_G D ad cs s (xs_A ad s.heap.size) s.heap z.2 H locs → lv_has ls 9 [(0, .ref (ad 154)), (1, .int (v1)), (2, .int (v2)), (3, .int (v3)), (4, .int (z.1))] → W p l e (xs_rm 1 21) s m ([.ref (ad 154), .int (x0), .int (x1), .int (x2)] : List Value).toArray below meth c H locs 0 0 (xs_E below D ad cs [.ref (ad 154), .int (x0), .int (x1), .int (x2)] s none rz) (F0 m 142 ls [])) → W p l e (xs_rm 1 21) s m ([.ref (ad 154), .int (x0), .int (x1), .int (x2)] : List Value).toArray below meth c H locs 0 0 (xs_E below D ad cs [.ref (ad 154), .int (x0), .int (x1), .int (x2)] s none rz) (F0 m 108 ls []) := by
    clear hE hl G
    intro fu
    induction fu with
    | zero =>
      intro μ v1 v2 v3 v4 H locs ls z hE
      rw [fn_R_stretch_L108] at hE
      cases hE
    | succ fu ih =>
      intro μ v1 v2 v3 v4 H locs ls z hE G hl kk
      rw [fn_R_stretch_L108] at hE
      refine lv_iload (pc := 108) hx hb d_R_stretch_108 (lv_at hl 4 rfl) ?_
      refine lv_bipush (pc := 110) (v := (16 : Int32)) hx hb d_R_stretch_110 (by decide) ?_
      refine lv_icmp_ge (pc := 112) (tgt := 142) hx hb d_R_stretch_112 (by decide) (fun hc => ?_) (fun hc => ?_)
      · have hE := xs_t hE hc
        cases hE
        exact kk _ _ _ G (lv_sub hl [0, 1, 2, 3, 4] rfl)
      · have hE := xs_f hE hc
        refine lv_aload_n (pc := 115) hx hb d_R_stretch_115 rfl (lv_at hl 0 rfl) ?_
        refine gf_R_59 (pc := 116) X G d_R_stretch_116 ?_
        refine lv_if_ne (pc := 119) (tgt := 142) hx hb d_R_stretch_119 (by decide) (fun hc => ?_) (fun hc => ?_)
        · have hE := xs_f hE hc
          cases hE
          exact kk _ _ _ G (lv_sub hl [0, 1, 2, 3, 4] rfl)
        · have hE := xs_t hE hc
          refine lv_aload_n (pc := 122) hx hb d_R_stretch_122 rfl (lv_at hl 0 rfl) ?_
          refine gf_R_7 (pc := 123) X G d_R_stretch_123 ?_
          refine lv_iload (pc := 126) hx hb d_R_stretch_126 (lv_at hl 4 rfl) ?_
          refine lv_aload_n (pc := 128) hx hb d_R_stretch_128 rfl (lv_at hl 0 rfl) ?_
          refine gf_R_13 (pc := 129) X G d_R_stretch_129 ?_
          refine lv_iload (pc := 132) hx hb d_R_stretch_132 (lv_at hl 4 rfl) ?_
          obtain ⟨hi42, hE⟩ := xs_n hE
          refine xs_iald (pc := 134) hx hb G ia_156 (xs_inP hi42) d_R_stretch_134 ?_
          obtain ⟨hi43, hE⟩ := xs_n hE
          refine xs_iast (pc := 135) hx hb G ia_155 (xs_inP hi43) d_R_stretch_135 (fun H locs G => ?_)
          obtain ⟨μ44, hμ44, hE⟩ := xs_b hE
          have G := xs_mv G hμ44
          clear hμ44
          refine lv_iinc (pc := 136) (v := (v4 + 1)) (k := 4) hx hb d_R_stretch_136 hl rfl (xs_inc _) (by decide) (lv' := [(4, .int ((v4 + 1))), (0, .ref (ad 154)), (1, .int (v1)), (2, .int (v2)), (3, .int (v3))]) rfl (fun ls hl => ?_)
          refine lv_goto (pc := 139) (tgt := 108) hx hb d_R_stretch_139 (by decide) ?_
          exact ih _ _ _ _ _ _ _ _ _ hE G (lv_sub hl [1, 2, 3, 4, 0] rfl) kk
  unfold fn_R_stretch at hE
  refine lv_aload_n (pc := 0) hx hb d_R_stretch_0 rfl (lv_at hl 0 rfl) ?_
  refine lv_iconst (pc := 1) (v := (0 : Int32)) hx hb d_R_stretch_1 (by decide) ?_
  refine pf_R_59 (pc := 2) X G d_R_stretch_2 (fun H locs G => ?_)
  obtain ⟨μ1, hμ1, hE⟩ := xs_b hE
  have G := xs_mv G hμ1
  have hfμ1 := xs_fi hμ1
  clear hμ1
  refine lv_iconst (pc := 5) (v := (0 : Int32)) hx hb d_R_stretch_5 (by decide) ?_
  refine lv_istore (pc := 6) hx hb d_R_stretch_6 hl (by decide) (lv' := [(4, .int ((0 : Int32))), (0, .ref (ad 154)), (1, .int (x0)), (2, .int (x1)), (3, .int (x2))]) rfl (fun ls hl => ?_)
  obtain ⟨z41, hz41, hE⟩ := xs_b hE
  refine L8 _ _ _ _ _ _ _ _ _ _ hz41 G (lv_sub hl [1, 2, 3, 4, 0] rfl) (fun H locs ls G hl => ?_)
  refine lv_iconst (pc := 105) (v := (0 : Int32)) hx hb d_R_stretch_105 (by decide) ?_
  refine lv_istore (pc := 106) hx hb d_R_stretch_106 hl (by decide) (lv' := [(4, .int ((0 : Int32))), (0, .ref (ad 154)), (1, .int (x0)), (2, .int (x1)), (3, .int (x2))]) rfl (fun ls hl => ?_)
  obtain ⟨z45, hz45, hE⟩ := xs_b hE
  refine L108 _ _ _ _ _ _ _ _ _ _ hz45 G (lv_sub hl [1, 2, 3, 4, 0] rfl) (fun H locs ls G hl => ?_)
  cases hE
  exact xs_vret (pc := 142) hx hb hr hlk G d_R_stretch_142
def fn_R_turn_L59 : Nat → xs_M → Int32 → Int32 → Int32 → Int32 →  Option (Int32 × xs_M)
  | 0, _, _, _, _, _ => none
  | fu + 1, μ, v1, v2, v3, v4 => (if (4 : Int32) ≤ v4 then some ((v4, μ)) else (if (μ.1 154 0) = 0 then (if xs_in (((4 : Int32) * v4) + v2) 16 = true then ((some (μ.1 155 (((4 : Int32) * v4) + v2).toNatClampNeg)).bind fun a3 => (if xs_in (((4 : Int32) * v4) + v3) 16 = true then (if xs_in (((4 : Int32) * v4) + v2) 16 = true then ((some (xs_si μ 155 (((4 : Int32) * v4) + v2).toNatClampNeg (μ.1 155 (((4 : Int32) * v4) + v3).toNatClampNeg))).bind fun μ6 => (if xs_in (((4 : Int32) * v4) + v3) 16 = true then ((some (xs_si μ6 155 (((4 : Int32) * v4) + v3).toNatClampNeg (-a3))).bind fun μ8 => fn_R_turn_L59 fu μ8 v1 v2 v3 (v4 + 1)) else none)) else none) else none)) else none) else some ((v4, μ))))
def fn_R_turn (μ0 : xs_M) (x0 : Int32) : Option xs_M :=
  (if x0 < 0 then ((some (xs_si μ0 154 0 (1 : Int32))).bind fun μ1 => (if x0 = 0 then (if x0 = 0 then ((fn_R_turn_L59 xs_FU μ1 x0 (1 : Int32) (2 : Int32) (0 : Int32)).bind fun z17 => some (z17.2)) else (if x0 = (1 : Int32) then ((fn_R_turn_L59 xs_FU μ1 x0 (1 : Int32) (0 : Int32) (0 : Int32)).bind fun z16 => some (z16.2)) else ((fn_R_turn_L59 xs_FU μ1 x0 (1 : Int32) (1 : Int32) (0 : Int32)).bind fun z15 => some (z15.2)))) else (if x0 = (1 : Int32) then (if x0 = 0 then ((fn_R_turn_L59 xs_FU μ1 x0 (2 : Int32) (2 : Int32) (0 : Int32)).bind fun z14 => some (z14.2)) else (if x0 = (1 : Int32) then ((fn_R_turn_L59 xs_FU μ1 x0 (2 : Int32) (0 : Int32) (0 : Int32)).bind fun z13 => some (z13.2)) else ((fn_R_turn_L59 xs_FU μ1 x0 (2 : Int32) (1 : Int32) (0 : Int32)).bind fun z12 => some (z12.2)))) else (if x0 = 0 then ((fn_R_turn_L59 xs_FU μ1 x0 (0 : Int32) (2 : Int32) (0 : Int32)).bind fun z11 => some (z11.2)) else (if x0 = (1 : Int32) then ((fn_R_turn_L59 xs_FU μ1 x0 (0 : Int32) (0 : Int32) (0 : Int32)).bind fun z10 => some (z10.2)) else ((fn_R_turn_L59 xs_FU μ1 x0 (0 : Int32) (1 : Int32) (0 : Int32)).bind fun z9 => some (z9.2))))))) else (if x0 ≤ (2 : Int32) then ((some (xs_si μ0 154 0 (0 : Int32))).bind fun μ18 => (if x0 = 0 then (if x0 = 0 then ((fn_R_turn_L59 xs_FU μ18 x0 (1 : Int32) (2 : Int32) (0 : Int32)).bind fun z27 => some (z27.2)) else (if x0 = (1 : Int32) then ((fn_R_turn_L59 xs_FU μ18 x0 (1 : Int32) (0 : Int32) (0 : Int32)).bind fun z26 => some (z26.2)) else ((fn_R_turn_L59 xs_FU μ18 x0 (1 : Int32) (1 : Int32) (0 : Int32)).bind fun z25 => some (z25.2)))) else (if x0 = (1 : Int32) then (if x0 = 0 then ((fn_R_turn_L59 xs_FU μ18 x0 (2 : Int32) (2 : Int32) (0 : Int32)).bind fun z24 => some (z24.2)) else (if x0 = (1 : Int32) then ((fn_R_turn_L59 xs_FU μ18 x0 (2 : Int32) (0 : Int32) (0 : Int32)).bind fun z23 => some (z23.2)) else ((fn_R_turn_L59 xs_FU μ18 x0 (2 : Int32) (1 : Int32) (0 : Int32)).bind fun z22 => some (z22.2)))) else (if x0 = 0 then ((fn_R_turn_L59 xs_FU μ18 x0 (0 : Int32) (2 : Int32) (0 : Int32)).bind fun z21 => some (z21.2)) else (if x0 = (1 : Int32) then ((fn_R_turn_L59 xs_FU μ18 x0 (0 : Int32) (0 : Int32) (0 : Int32)).bind fun z20 => some (z20.2)) else ((fn_R_turn_L59 xs_FU μ18 x0 (0 : Int32) (1 : Int32) (0 : Int32)).bind fun z19 => some (z19.2))))))) else ((some (xs_si μ0 154 0 (1 : Int32))).bind fun μ28 => (if x0 = 0 then (if x0 = 0 then ((fn_R_turn_L59 xs_FU μ28 x0 (1 : Int32) (2 : Int32) (0 : Int32)).bind fun z37 => some (z37.2)) else (if x0 = (1 : Int32) then ((fn_R_turn_L59 xs_FU μ28 x0 (1 : Int32) (0 : Int32) (0 : Int32)).bind fun z36 => some (z36.2)) else ((fn_R_turn_L59 xs_FU μ28 x0 (1 : Int32) (1 : Int32) (0 : Int32)).bind fun z35 => some (z35.2)))) else (if x0 = (1 : Int32) then (if x0 = 0 then ((fn_R_turn_L59 xs_FU μ28 x0 (2 : Int32) (2 : Int32) (0 : Int32)).bind fun z34 => some (z34.2)) else (if x0 = (1 : Int32) then ((fn_R_turn_L59 xs_FU μ28 x0 (2 : Int32) (0 : Int32) (0 : Int32)).bind fun z33 => some (z33.2)) else ((fn_R_turn_L59 xs_FU μ28 x0 (2 : Int32) (1 : Int32) (0 : Int32)).bind fun z32 => some (z32.2)))) else (if x0 = 0 then ((fn_R_turn_L59 xs_FU μ28 x0 (0 : Int32) (2 : Int32) (0 : Int32)).bind fun z31 => some (z31.2)) else (if x0 = (1 : Int32) then ((fn_R_turn_L59 xs_FU μ28 x0 (0 : Int32) (0 : Int32) (0 : Int32)).bind fun z30 => some (z30.2)) else ((fn_R_turn_L59 xs_FU μ28 x0 (0 : Int32) (1 : Int32) (0 : Int32)).bind fun z29 => some (z29.2)))))))))
set_option maxHeartbeats 4000000 in
set_option maxRecDepth 100000 in
theorem ok_R_turn (l : Launch) (D : va_G) (ad : Nat → Nat) (cs : xs_cs) (hJ : xs_J ad) {μ0 : xs_M} {x0 : Int32}  {rz : xs_M} (hE : fn_R_turn μ0 x0 = some rz) : xs_I l D ad cs y_R_turn b_R_turn 6 none 0 0 [.ref (ad 154), .int (x0)] μ0 none rz := by
  refine xs_entry hJ (by decide) (Nat.le_of_ble_eq_true rfl) ?_
  intro p e s m below meth c ls X hr hlk G hl
  have X : xs_C p s m c b_R_turn 6 _ "ExactSceneModel" := X
  have hx := X.1
  have hb := X.2.1
  have hl : lv_has ls 6 [(0, .ref (ad 154)), (1, .int (x0))] := hl
  have L59 : ∀ (fu : Nat) (μ : xs_M) (v1 : Int32) (v2 : Int32) (v3 : Int32) (v4 : Int32) (H : Heap) (locs : List Loc) (ls : Array Slot) (z : (Int32 × xs_M)), fn_R_turn_L59 fu μ v1 v2 v3 v4 = some z → xs_G D ad cs s (xs_A ad s.heap.size) s.heap μ H locs → lv_has ls 6 [(0, .ref (ad 154)), (1, .int (v1)), (2, .int (v2)), (3, .int (v3)), (4, .int (v4))] → (∀ (H : Heap) (locs : List Loc) (ls : Array Slot), xs_G D ad cs s (xs_A ad s.heap.size) s.heap z.2 H locs → lv_has ls 6 [(0, .ref (ad 154)), (1, .int (v1)), (2, .int (v2)), (3, .int (v3)), (4, .int (z.1))] → W p l e (xs_rm 0 0) s m ([.ref (ad 154), .int (x0)] : List Value).toArray below meth c H locs 0 0 (xs_E below D ad cs [.ref (ad 154), .int (x0)] s none rz) (F0 m 127 ls [])) → W p l e (xs_rm 0 0) s m ([.ref (ad 154), .int (x0)] : List Value).toArray below meth c H locs 0 0 (xs_E below D ad cs [.ref (ad 154), .int (x0)] s none rz) (F0 m 59 ls []) := by
    clear hE hl G
    intro fu
    induction fu with
    | zero =>
      intro μ v1 v2 v3 v4 H locs ls z hE
      rw [fn_R_turn_L59] at hE
      cases hE
    | succ fu ih =>
      intro μ v1 v2 v3 v4 H locs ls z hE G hl kk
      rw [fn_R_turn_L59] at hE
      refine lv_iload (pc := 59) hx hb d_R_turn_59 (lv_at hl 4 rfl) ?_
      refine lv_iconst (pc := 61) (v := (4 : Int32)) hx hb d_R_turn_61 (by decide) ?_
      refine lv_icmp_ge (pc := 62) (tgt := 127) hx hb d_R_turn_62 (by decide) (fun hc => ?_) (fun hc => ?_)
      · have hE := xs_t hE hc
        cases hE
        exact kk _ _ _ G (lv_sub hl [0, 1, 2, 3, 4] rfl)
      · have hE := xs_f hE hc
        refine lv_aload_n (pc := 65) hx hb d_R_turn_65 rfl (lv_at hl 0 rfl) ?_
        refine gf_R_59 (pc := 66) X G d_R_turn_66 ?_
        refine lv_if_ne (pc := 69) (tgt := 127) hx hb d_R_turn_69 (by decide) (fun hc => ?_) (fun hc => ?_)
        · have hE := xs_f hE hc
          cases hE
          exact kk _ _ _ G (lv_sub hl [0, 1, 2, 3, 4] rfl)
        · have hE := xs_t hE hc
          refine lv_aload_n (pc := 72) hx hb d_R_turn_72 rfl (lv_at hl 0 rfl) ?_
          refine gf_R_7 (pc := 73) X G d_R_turn_73 ?_
          refine lv_iconst (pc := 76) (v := (4 : Int32)) hx hb d_R_turn_76 (by decide) ?_
          refine lv_iload (pc := 77) hx hb d_R_turn_77 (lv_at hl 4 rfl) ?_
          refine lv_imul (pc := 79) hx hb d_R_turn_79 ?_
          refine lv_iload_n (pc := 80) hx hb d_R_turn_80 rfl (lv_at hl 2 rfl) ?_
          refine lv_iadd (pc := 81) hx hb d_R_turn_81 ?_
          obtain ⟨hi2, hE⟩ := xs_n hE
          refine xs_iald (pc := 82) hx hb G ia_155 (xs_inP hi2) d_R_turn_82 ?_
          obtain ⟨a3, ha3, hE⟩ := xs_b hE
          refine xs_ti ha3 ?_
          clear ha3
          refine lv_istore (pc := 83) hx hb d_R_turn_83 hl (by decide) (lv' := [(5, .int (a3)), (0, .ref (ad 154)), (1, .int (v1)), (2, .int (v2)), (3, .int (v3)), (4, .int (v4))]) rfl (fun ls hl => ?_)
          refine lv_aload_n (pc := 85) hx hb d_R_turn_85 rfl (lv_at hl 1 rfl) ?_
          refine gf_R_7 (pc := 86) X G d_R_turn_86 ?_
          refine lv_iconst (pc := 89) (v := (4 : Int32)) hx hb d_R_turn_89 (by decide) ?_
          refine lv_iload (pc := 90) hx hb d_R_turn_90 (lv_at hl 5 rfl) ?_
          refine lv_imul (pc := 92) hx hb d_R_turn_92 ?_
          refine lv_iload_n (pc := 93) hx hb d_R_turn_93 rfl (lv_at hl 3 rfl) ?_
          refine lv_iadd (pc := 94) hx hb d_R_turn_94 ?_
          refine lv_aload_n (pc := 95) hx hb d_R_turn_95 rfl (lv_at hl 1 rfl) ?_
          refine gf_R_7 (pc := 96) X G d_R_turn_96 ?_
          refine lv_iconst (pc := 99) (v := (4 : Int32)) hx hb d_R_turn_99 (by decide) ?_
          refine lv_iload (pc := 100) hx hb d_R_turn_100 (lv_at hl 5 rfl) ?_
          refine lv_imul (pc := 102) hx hb d_R_turn_102 ?_
          refine lv_iload_n (pc := 103) hx hb d_R_turn_103 rfl (lv_at hl 4 rfl) ?_
          refine lv_iadd (pc := 104) hx hb d_R_turn_104 ?_
          obtain ⟨hi4, hE⟩ := xs_n hE
          refine xs_iald (pc := 105) hx hb G ia_155 (xs_inP hi4) d_R_turn_105 ?_
          obtain ⟨hi5, hE⟩ := xs_n hE
          refine xs_iast (pc := 106) hx hb G ia_155 (xs_inP hi5) d_R_turn_106 (fun H locs G => ?_)
          obtain ⟨μ6, hμ6, hE⟩ := xs_b hE
          have G := xs_mv G hμ6
          clear hμ6
          refine lv_aload_n (pc := 107) hx hb d_R_turn_107 rfl (lv_at hl 1 rfl) ?_
          refine gf_R_7 (pc := 108) X G d_R_turn_108 ?_
          refine lv_iconst (pc := 111) (v := (4 : Int32)) hx hb d_R_turn_111 (by decide) ?_
          refine lv_iload (pc := 112) hx hb d_R_turn_112 (lv_at hl 5 rfl) ?_
          refine lv_imul (pc := 114) hx hb d_R_turn_114 ?_
          refine lv_iload_n (pc := 115) hx hb d_R_turn_115 rfl (lv_at hl 4 rfl) ?_
          refine lv_iadd (pc := 116) hx hb d_R_turn_116 ?_
          refine lv_iload (pc := 117) hx hb d_R_turn_117 (lv_at hl 0 rfl) ?_
          refine lv_ineg (pc := 119) hx hb d_R_turn_119 ?_
          obtain ⟨hi7, hE⟩ := xs_n hE
          refine xs_iast (pc := 120) hx hb G ia_155 (xs_inP hi7) d_R_turn_120 (fun H locs G => ?_)
          obtain ⟨μ8, hμ8, hE⟩ := xs_b hE
          have G := xs_mv G hμ8
          clear hμ8
          refine lv_iinc (pc := 121) (v := (v4 + 1)) (k := 5) hx hb d_R_turn_121 hl rfl (xs_inc _) (by decide) (lv' := [(4, .int ((v4 + 1))), (5, .int (a3)), (0, .ref (ad 154)), (1, .int (v1)), (2, .int (v2)), (3, .int (v3))]) rfl (fun ls hl => ?_)
          refine lv_goto (pc := 124) (tgt := 59) hx hb d_R_turn_124 (by decide) ?_
          exact ih _ _ _ _ _ _ _ _ _ hE G (lv_sub hl [2, 3, 4, 5, 0] rfl) kk
  unfold fn_R_turn at hE
  refine lv_aload_n (pc := 0) hx hb d_R_turn_0 rfl (lv_at hl 0 rfl) ?_
  refine lv_iload_n (pc := 1) hx hb d_R_turn_1 rfl (lv_at hl 1 rfl) ?_
  refine lv_if_lt (pc := 2) (tgt := 10) hx hb d_R_turn_2 (by decide) (fun hc => ?_) (fun hc => ?_)
  · have hE := xs_t hE hc
    refine lv_iconst (pc := 10) (v := (1 : Int32)) hx hb d_R_turn_10 (by decide) ?_
    refine lv_goto (pc := 11) (tgt := 15) hx hb d_R_turn_11 (by decide) ?_
    refine pf_R_59 (pc := 15) X G d_R_turn_15 (fun H locs G => ?_)
    obtain ⟨μ1, hμ1, hE⟩ := xs_b hE
    have G := xs_mv G hμ1
    have hfμ1 := xs_fi hμ1
    clear hμ1
    refine lv_iload_n (pc := 18) hx hb d_R_turn_18 rfl (lv_at hl 1 rfl) ?_
    refine lv_if_ne (pc := 19) (tgt := 26) hx hb d_R_turn_19 (by decide) (fun hc => ?_) (fun hc => ?_)
    · have hE := xs_f hE hc
      refine lv_iload_n (pc := 26) hx hb d_R_turn_26 rfl (lv_at hl 1 rfl) ?_
      refine lv_iconst (pc := 27) (v := (1 : Int32)) hx hb d_R_turn_27 (by decide) ?_
      refine lv_icmp_ne (pc := 28) (tgt := 35) hx hb d_R_turn_28 (by decide) (fun hc => ?_) (fun hc => ?_)
      · have hE := xs_f hE hc
        refine lv_iconst (pc := 35) (v := (0 : Int32)) hx hb d_R_turn_35 (by decide) ?_
        refine lv_istore_n (pc := 36) hx hb d_R_turn_36 rfl hl (by decide) (lv' := [(2, .int ((0 : Int32))), (0, .ref (ad 154)), (1, .int (x0))]) rfl (fun ls hl => ?_)
        refine lv_iload_n (pc := 37) hx hb d_R_turn_37 rfl (lv_at hl 2 rfl) ?_
        refine lv_if_ne (pc := 38) (tgt := 45) hx hb d_R_turn_38 (by decide) (fun hc => ?_) (fun hc => ?_)
        · have hE := xs_f hE hc
          refine lv_iload_n (pc := 45) hx hb d_R_turn_45 rfl (lv_at hl 2 rfl) ?_
          refine lv_iconst (pc := 46) (v := (1 : Int32)) hx hb d_R_turn_46 (by decide) ?_
          refine lv_icmp_ne (pc := 47) (tgt := 54) hx hb d_R_turn_47 (by decide) (fun hc => ?_) (fun hc => ?_)
          · have hE := xs_f hE hc
            refine lv_iconst (pc := 54) (v := (1 : Int32)) hx hb d_R_turn_54 (by decide) ?_
            refine lv_istore_n (pc := 55) hx hb d_R_turn_55 rfl hl (by decide) (lv' := [(3, .int ((1 : Int32))), (2, .int ((0 : Int32))), (0, .ref (ad 154)), (1, .int (x0))]) rfl (fun ls hl => ?_)
            refine lv_iconst (pc := 56) (v := (0 : Int32)) hx hb d_R_turn_56 (by decide) ?_
            refine lv_istore (pc := 57) hx hb d_R_turn_57 hl (by decide) (lv' := [(4, .int ((0 : Int32))), (3, .int ((1 : Int32))), (2, .int ((0 : Int32))), (0, .ref (ad 154)), (1, .int (x0))]) rfl (fun ls hl => ?_)
            obtain ⟨z9, hz9, hE⟩ := xs_b hE
            refine L59 _ _ _ _ _ _ _ _ _ _ hz9 G (lv_sub hl [3, 4, 2, 1, 0] rfl) (fun H locs ls G hl => ?_)
            cases hE
            exact xs_vret (pc := 127) hx hb hr hlk G d_R_turn_127
          · have hE := xs_t hE hc
            refine lv_iconst (pc := 50) (v := (0 : Int32)) hx hb d_R_turn_50 (by decide) ?_
            refine lv_goto (pc := 51) (tgt := 55) hx hb d_R_turn_51 (by decide) ?_
            refine lv_istore_n (pc := 55) hx hb d_R_turn_55 rfl hl (by decide) (lv' := [(3, .int ((0 : Int32))), (2, .int ((0 : Int32))), (0, .ref (ad 154)), (1, .int (x0))]) rfl (fun ls hl => ?_)
            refine lv_iconst (pc := 56) (v := (0 : Int32)) hx hb d_R_turn_56 (by decide) ?_
            refine lv_istore (pc := 57) hx hb d_R_turn_57 hl (by decide) (lv' := [(4, .int ((0 : Int32))), (3, .int ((0 : Int32))), (2, .int ((0 : Int32))), (0, .ref (ad 154)), (1, .int (x0))]) rfl (fun ls hl => ?_)
            obtain ⟨z10, hz10, hE⟩ := xs_b hE
            refine L59 _ _ _ _ _ _ _ _ _ _ hz10 G (lv_sub hl [3, 4, 2, 1, 0] rfl) (fun H locs ls G hl => ?_)
            cases hE
            exact xs_vret (pc := 127) hx hb hr hlk G d_R_turn_127
        · have hE := xs_t hE hc
          refine lv_iconst (pc := 41) (v := (2 : Int32)) hx hb d_R_turn_41 (by decide) ?_
          refine lv_goto (pc := 42) (tgt := 55) hx hb d_R_turn_42 (by decide) ?_
          refine lv_istore_n (pc := 55) hx hb d_R_turn_55 rfl hl (by decide) (lv' := [(3, .int ((2 : Int32))), (2, .int ((0 : Int32))), (0, .ref (ad 154)), (1, .int (x0))]) rfl (fun ls hl => ?_)
          refine lv_iconst (pc := 56) (v := (0 : Int32)) hx hb d_R_turn_56 (by decide) ?_
          refine lv_istore (pc := 57) hx hb d_R_turn_57 hl (by decide) (lv' := [(4, .int ((0 : Int32))), (3, .int ((2 : Int32))), (2, .int ((0 : Int32))), (0, .ref (ad 154)), (1, .int (x0))]) rfl (fun ls hl => ?_)
          obtain ⟨z11, hz11, hE⟩ := xs_b hE
          refine L59 _ _ _ _ _ _ _ _ _ _ hz11 G (lv_sub hl [3, 4, 2, 1, 0] rfl) (fun H locs ls G hl => ?_)
          cases hE
          exact xs_vret (pc := 127) hx hb hr hlk G d_R_turn_127
      · have hE := xs_t hE hc
        refine lv_iconst (pc := 31) (v := (2 : Int32)) hx hb d_R_turn_31 (by decide) ?_
        refine lv_goto (pc := 32) (tgt := 36) hx hb d_R_turn_32 (by decide) ?_
        refine lv_istore_n (pc := 36) hx hb d_R_turn_36 rfl hl (by decide) (lv' := [(2, .int ((2 : Int32))), (0, .ref (ad 154)), (1, .int (x0))]) rfl (fun ls hl => ?_)
        refine lv_iload_n (pc := 37) hx hb d_R_turn_37 rfl (lv_at hl 2 rfl) ?_
        refine lv_if_ne (pc := 38) (tgt := 45) hx hb d_R_turn_38 (by decide) (fun hc => ?_) (fun hc => ?_)
        · have hE := xs_f hE hc
          refine lv_iload_n (pc := 45) hx hb d_R_turn_45 rfl (lv_at hl 2 rfl) ?_
          refine lv_iconst (pc := 46) (v := (1 : Int32)) hx hb d_R_turn_46 (by decide) ?_
          refine lv_icmp_ne (pc := 47) (tgt := 54) hx hb d_R_turn_47 (by decide) (fun hc => ?_) (fun hc => ?_)
          · have hE := xs_f hE hc
            refine lv_iconst (pc := 54) (v := (1 : Int32)) hx hb d_R_turn_54 (by decide) ?_
            refine lv_istore_n (pc := 55) hx hb d_R_turn_55 rfl hl (by decide) (lv' := [(3, .int ((1 : Int32))), (2, .int ((2 : Int32))), (0, .ref (ad 154)), (1, .int (x0))]) rfl (fun ls hl => ?_)
            refine lv_iconst (pc := 56) (v := (0 : Int32)) hx hb d_R_turn_56 (by decide) ?_
            refine lv_istore (pc := 57) hx hb d_R_turn_57 hl (by decide) (lv' := [(4, .int ((0 : Int32))), (3, .int ((1 : Int32))), (2, .int ((2 : Int32))), (0, .ref (ad 154)), (1, .int (x0))]) rfl (fun ls hl => ?_)
            obtain ⟨z12, hz12, hE⟩ := xs_b hE
            refine L59 _ _ _ _ _ _ _ _ _ _ hz12 G (lv_sub hl [3, 4, 2, 1, 0] rfl) (fun H locs ls G hl => ?_)
            cases hE
            exact xs_vret (pc := 127) hx hb hr hlk G d_R_turn_127
          · have hE := xs_t hE hc
            refine lv_iconst (pc := 50) (v := (0 : Int32)) hx hb d_R_turn_50 (by decide) ?_
            refine lv_goto (pc := 51) (tgt := 55) hx hb d_R_turn_51 (by decide) ?_
            refine lv_istore_n (pc := 55) hx hb d_R_turn_55 rfl hl (by decide) (lv' := [(3, .int ((0 : Int32))), (2, .int ((2 : Int32))), (0, .ref (ad 154)), (1, .int (x0))]) rfl (fun ls hl => ?_)
            refine lv_iconst (pc := 56) (v := (0 : Int32)) hx hb d_R_turn_56 (by decide) ?_
            refine lv_istore (pc := 57) hx hb d_R_turn_57 hl (by decide) (lv' := [(4, .int ((0 : Int32))), (3, .int ((0 : Int32))), (2, .int ((2 : Int32))), (0, .ref (ad 154)), (1, .int (x0))]) rfl (fun ls hl => ?_)
            obtain ⟨z13, hz13, hE⟩ := xs_b hE
            refine L59 _ _ _ _ _ _ _ _ _ _ hz13 G (lv_sub hl [3, 4, 2, 1, 0] rfl) (fun H locs ls G hl => ?_)
            cases hE
            exact xs_vret (pc := 127) hx hb hr hlk G d_R_turn_127
        · have hE := xs_t hE hc
          refine lv_iconst (pc := 41) (v := (2 : Int32)) hx hb d_R_turn_41 (by decide) ?_
          refine lv_goto (pc := 42) (tgt := 55) hx hb d_R_turn_42 (by decide) ?_
          refine lv_istore_n (pc := 55) hx hb d_R_turn_55 rfl hl (by decide) (lv' := [(3, .int ((2 : Int32))), (2, .int ((2 : Int32))), (0, .ref (ad 154)), (1, .int (x0))]) rfl (fun ls hl => ?_)
          refine lv_iconst (pc := 56) (v := (0 : Int32)) hx hb d_R_turn_56 (by decide) ?_
          refine lv_istore (pc := 57) hx hb d_R_turn_57 hl (by decide) (lv' := [(4, .int ((0 : Int32))), (3, .int ((2 : Int32))), (2, .int ((2 : Int32))), (0, .ref (ad 154)), (1, .int (x0))]) rfl (fun ls hl => ?_)
          obtain ⟨z14, hz14, hE⟩ := xs_b hE
          refine L59 _ _ _ _ _ _ _ _ _ _ hz14 G (lv_sub hl [3, 4, 2, 1, 0] rfl) (fun H locs ls G hl => ?_)
          cases hE
          exact xs_vret (pc := 127) hx hb hr hlk G d_R_turn_127
    · have hE := xs_t hE hc
      refine lv_iconst (pc := 22) (v := (1 : Int32)) hx hb d_R_turn_22 (by decide) ?_
      refine lv_goto (pc := 23) (tgt := 36) hx hb d_R_turn_23 (by decide) ?_
      refine lv_istore_n (pc := 36) hx hb d_R_turn_36 rfl hl (by decide) (lv' := [(2, .int ((1 : Int32))), (0, .ref (ad 154)), (1, .int (x0))]) rfl (fun ls hl => ?_)
      refine lv_iload_n (pc := 37) hx hb d_R_turn_37 rfl (lv_at hl 2 rfl) ?_
      refine lv_if_ne (pc := 38) (tgt := 45) hx hb d_R_turn_38 (by decide) (fun hc => ?_) (fun hc => ?_)
      · have hE := xs_f hE hc
        refine lv_iload_n (pc := 45) hx hb d_R_turn_45 rfl (lv_at hl 2 rfl) ?_
        refine lv_iconst (pc := 46) (v := (1 : Int32)) hx hb d_R_turn_46 (by decide) ?_
        refine lv_icmp_ne (pc := 47) (tgt := 54) hx hb d_R_turn_47 (by decide) (fun hc => ?_) (fun hc => ?_)
        · have hE := xs_f hE hc
          refine lv_iconst (pc := 54) (v := (1 : Int32)) hx hb d_R_turn_54 (by decide) ?_
          refine lv_istore_n (pc := 55) hx hb d_R_turn_55 rfl hl (by decide) (lv' := [(3, .int ((1 : Int32))), (2, .int ((1 : Int32))), (0, .ref (ad 154)), (1, .int (x0))]) rfl (fun ls hl => ?_)
          refine lv_iconst (pc := 56) (v := (0 : Int32)) hx hb d_R_turn_56 (by decide) ?_
          refine lv_istore (pc := 57) hx hb d_R_turn_57 hl (by decide) (lv' := [(4, .int ((0 : Int32))), (3, .int ((1 : Int32))), (2, .int ((1 : Int32))), (0, .ref (ad 154)), (1, .int (x0))]) rfl (fun ls hl => ?_)
          obtain ⟨z15, hz15, hE⟩ := xs_b hE
          refine L59 _ _ _ _ _ _ _ _ _ _ hz15 G (lv_sub hl [3, 4, 2, 1, 0] rfl) (fun H locs ls G hl => ?_)
          cases hE
          exact xs_vret (pc := 127) hx hb hr hlk G d_R_turn_127
        · have hE := xs_t hE hc
          refine lv_iconst (pc := 50) (v := (0 : Int32)) hx hb d_R_turn_50 (by decide) ?_
          refine lv_goto (pc := 51) (tgt := 55) hx hb d_R_turn_51 (by decide) ?_
          refine lv_istore_n (pc := 55) hx hb d_R_turn_55 rfl hl (by decide) (lv' := [(3, .int ((0 : Int32))), (2, .int ((1 : Int32))), (0, .ref (ad 154)), (1, .int (x0))]) rfl (fun ls hl => ?_)
          refine lv_iconst (pc := 56) (v := (0 : Int32)) hx hb d_R_turn_56 (by decide) ?_
          refine lv_istore (pc := 57) hx hb d_R_turn_57 hl (by decide) (lv' := [(4, .int ((0 : Int32))), (3, .int ((0 : Int32))), (2, .int ((1 : Int32))), (0, .ref (ad 154)), (1, .int (x0))]) rfl (fun ls hl => ?_)
          obtain ⟨z16, hz16, hE⟩ := xs_b hE
          refine L59 _ _ _ _ _ _ _ _ _ _ hz16 G (lv_sub hl [3, 4, 2, 1, 0] rfl) (fun H locs ls G hl => ?_)
          cases hE
          exact xs_vret (pc := 127) hx hb hr hlk G d_R_turn_127
      · have hE := xs_t hE hc
        refine lv_iconst (pc := 41) (v := (2 : Int32)) hx hb d_R_turn_41 (by decide) ?_
        refine lv_goto (pc := 42) (tgt := 55) hx hb d_R_turn_42 (by decide) ?_
        refine lv_istore_n (pc := 55) hx hb d_R_turn_55 rfl hl (by decide) (lv' := [(3, .int ((2 : Int32))), (2, .int ((1 : Int32))), (0, .ref (ad 154)), (1, .int (x0))]) rfl (fun ls hl => ?_)
        refine lv_iconst (pc := 56) (v := (0 : Int32)) hx hb d_R_turn_56 (by decide) ?_
        refine lv_istore (pc := 57) hx hb d_R_turn_57 hl (by decide) (lv' := [(4, .int ((0 : Int32))), (3, .int ((2 : Int32))), (2, .int ((1 : Int32))), (0, .ref (ad 154)), (1, .int (x0))]) rfl (fun ls hl => ?_)
        obtain ⟨z17, hz17, hE⟩ := xs_b hE
        refine L59 _ _ _ _ _ _ _ _ _ _ hz17 G (lv_sub hl [3, 4, 2, 1, 0] rfl) (fun H locs ls G hl => ?_)
        cases hE
        exact xs_vret (pc := 127) hx hb hr hlk G d_R_turn_127
  · have hE := xs_f hE hc
    refine lv_iload_n (pc := 5) hx hb d_R_turn_5 rfl (lv_at hl 1 rfl) ?_
    refine lv_iconst (pc := 6) (v := (2 : Int32)) hx hb d_R_turn_6 (by decide) ?_
    refine lv_icmp_le (pc := 7) (tgt := 14) hx hb d_R_turn_7 (by decide) (fun hc => ?_) (fun hc => ?_)
    · have hE := xs_t hE hc
      refine lv_iconst (pc := 14) (v := (0 : Int32)) hx hb d_R_turn_14 (by decide) ?_
      refine pf_R_59 (pc := 15) X G d_R_turn_15 (fun H locs G => ?_)
      obtain ⟨μ18, hμ18, hE⟩ := xs_b hE
      have G := xs_mv G hμ18
      have hfμ18 := xs_fi hμ18
      clear hμ18
      refine lv_iload_n (pc := 18) hx hb d_R_turn_18 rfl (lv_at hl 1 rfl) ?_
      refine lv_if_ne (pc := 19) (tgt := 26) hx hb d_R_turn_19 (by decide) (fun hc => ?_) (fun hc => ?_)
      · have hE := xs_f hE hc
        refine lv_iload_n (pc := 26) hx hb d_R_turn_26 rfl (lv_at hl 1 rfl) ?_
        refine lv_iconst (pc := 27) (v := (1 : Int32)) hx hb d_R_turn_27 (by decide) ?_
        refine lv_icmp_ne (pc := 28) (tgt := 35) hx hb d_R_turn_28 (by decide) (fun hc => ?_) (fun hc => ?_)
        · have hE := xs_f hE hc
          refine lv_iconst (pc := 35) (v := (0 : Int32)) hx hb d_R_turn_35 (by decide) ?_
          refine lv_istore_n (pc := 36) hx hb d_R_turn_36 rfl hl (by decide) (lv' := [(2, .int ((0 : Int32))), (0, .ref (ad 154)), (1, .int (x0))]) rfl (fun ls hl => ?_)
          refine lv_iload_n (pc := 37) hx hb d_R_turn_37 rfl (lv_at hl 2 rfl) ?_
          refine lv_if_ne (pc := 38) (tgt := 45) hx hb d_R_turn_38 (by decide) (fun hc => ?_) (fun hc => ?_)
          · have hE := xs_f hE hc
            refine lv_iload_n (pc := 45) hx hb d_R_turn_45 rfl (lv_at hl 2 rfl) ?_
            refine lv_iconst (pc := 46) (v := (1 : Int32)) hx hb d_R_turn_46 (by decide) ?_
            refine lv_icmp_ne (pc := 47) (tgt := 54) hx hb d_R_turn_47 (by decide) (fun hc => ?_) (fun hc => ?_)
            · have hE := xs_f hE hc
              refine lv_iconst (pc := 54) (v := (1 : Int32)) hx hb d_R_turn_54 (by decide) ?_
              refine lv_istore_n (pc := 55) hx hb d_R_turn_55 rfl hl (by decide) (lv' := [(3, .int ((1 : Int32))), (2, .int ((0 : Int32))), (0, .ref (ad 154)), (1, .int (x0))]) rfl (fun ls hl => ?_)
              refine lv_iconst (pc := 56) (v := (0 : Int32)) hx hb d_R_turn_56 (by decide) ?_
              refine lv_istore (pc := 57) hx hb d_R_turn_57 hl (by decide) (lv' := [(4, .int ((0 : Int32))), (3, .int ((1 : Int32))), (2, .int ((0 : Int32))), (0, .ref (ad 154)), (1, .int (x0))]) rfl (fun ls hl => ?_)
              obtain ⟨z19, hz19, hE⟩ := xs_b hE
              refine L59 _ _ _ _ _ _ _ _ _ _ hz19 G (lv_sub hl [3, 4, 2, 1, 0] rfl) (fun H locs ls G hl => ?_)
              cases hE
              exact xs_vret (pc := 127) hx hb hr hlk G d_R_turn_127
            · have hE := xs_t hE hc
              refine lv_iconst (pc := 50) (v := (0 : Int32)) hx hb d_R_turn_50 (by decide) ?_
              refine lv_goto (pc := 51) (tgt := 55) hx hb d_R_turn_51 (by decide) ?_
              refine lv_istore_n (pc := 55) hx hb d_R_turn_55 rfl hl (by decide) (lv' := [(3, .int ((0 : Int32))), (2, .int ((0 : Int32))), (0, .ref (ad 154)), (1, .int (x0))]) rfl (fun ls hl => ?_)
              refine lv_iconst (pc := 56) (v := (0 : Int32)) hx hb d_R_turn_56 (by decide) ?_
              refine lv_istore (pc := 57) hx hb d_R_turn_57 hl (by decide) (lv' := [(4, .int ((0 : Int32))), (3, .int ((0 : Int32))), (2, .int ((0 : Int32))), (0, .ref (ad 154)), (1, .int (x0))]) rfl (fun ls hl => ?_)
              obtain ⟨z20, hz20, hE⟩ := xs_b hE
              refine L59 _ _ _ _ _ _ _ _ _ _ hz20 G (lv_sub hl [3, 4, 2, 1, 0] rfl) (fun H locs ls G hl => ?_)
              cases hE
              exact xs_vret (pc := 127) hx hb hr hlk G d_R_turn_127
          · have hE := xs_t hE hc
            refine lv_iconst (pc := 41) (v := (2 : Int32)) hx hb d_R_turn_41 (by decide) ?_
            refine lv_goto (pc := 42) (tgt := 55) hx hb d_R_turn_42 (by decide) ?_
            refine lv_istore_n (pc := 55) hx hb d_R_turn_55 rfl hl (by decide) (lv' := [(3, .int ((2 : Int32))), (2, .int ((0 : Int32))), (0, .ref (ad 154)), (1, .int (x0))]) rfl (fun ls hl => ?_)
            refine lv_iconst (pc := 56) (v := (0 : Int32)) hx hb d_R_turn_56 (by decide) ?_
            refine lv_istore (pc := 57) hx hb d_R_turn_57 hl (by decide) (lv' := [(4, .int ((0 : Int32))), (3, .int ((2 : Int32))), (2, .int ((0 : Int32))), (0, .ref (ad 154)), (1, .int (x0))]) rfl (fun ls hl => ?_)
            obtain ⟨z21, hz21, hE⟩ := xs_b hE
            refine L59 _ _ _ _ _ _ _ _ _ _ hz21 G (lv_sub hl [3, 4, 2, 1, 0] rfl) (fun H locs ls G hl => ?_)
            cases hE
            exact xs_vret (pc := 127) hx hb hr hlk G d_R_turn_127
        · have hE := xs_t hE hc
          refine lv_iconst (pc := 31) (v := (2 : Int32)) hx hb d_R_turn_31 (by decide) ?_
          refine lv_goto (pc := 32) (tgt := 36) hx hb d_R_turn_32 (by decide) ?_
          refine lv_istore_n (pc := 36) hx hb d_R_turn_36 rfl hl (by decide) (lv' := [(2, .int ((2 : Int32))), (0, .ref (ad 154)), (1, .int (x0))]) rfl (fun ls hl => ?_)
          refine lv_iload_n (pc := 37) hx hb d_R_turn_37 rfl (lv_at hl 2 rfl) ?_
          refine lv_if_ne (pc := 38) (tgt := 45) hx hb d_R_turn_38 (by decide) (fun hc => ?_) (fun hc => ?_)
          · have hE := xs_f hE hc
            refine lv_iload_n (pc := 45) hx hb d_R_turn_45 rfl (lv_at hl 2 rfl) ?_
            refine lv_iconst (pc := 46) (v := (1 : Int32)) hx hb d_R_turn_46 (by decide) ?_
            refine lv_icmp_ne (pc := 47) (tgt := 54) hx hb d_R_turn_47 (by decide) (fun hc => ?_) (fun hc => ?_)
            · have hE := xs_f hE hc
              refine lv_iconst (pc := 54) (v := (1 : Int32)) hx hb d_R_turn_54 (by decide) ?_
              refine lv_istore_n (pc := 55) hx hb d_R_turn_55 rfl hl (by decide) (lv' := [(3, .int ((1 : Int32))), (2, .int ((2 : Int32))), (0, .ref (ad 154)), (1, .int (x0))]) rfl (fun ls hl => ?_)
              refine lv_iconst (pc := 56) (v := (0 : Int32)) hx hb d_R_turn_56 (by decide) ?_
              refine lv_istore (pc := 57) hx hb d_R_turn_57 hl (by decide) (lv' := [(4, .int ((0 : Int32))), (3, .int ((1 : Int32))), (2, .int ((2 : Int32))), (0, .ref (ad 154)), (1, .int (x0))]) rfl (fun ls hl => ?_)
              obtain ⟨z22, hz22, hE⟩ := xs_b hE
              refine L59 _ _ _ _ _ _ _ _ _ _ hz22 G (lv_sub hl [3, 4, 2, 1, 0] rfl) (fun H locs ls G hl => ?_)
              cases hE
              exact xs_vret (pc := 127) hx hb hr hlk G d_R_turn_127
            · have hE := xs_t hE hc
              refine lv_iconst (pc := 50) (v := (0 : Int32)) hx hb d_R_turn_50 (by decide) ?_
              refine lv_goto (pc := 51) (tgt := 55) hx hb d_R_turn_51 (by decide) ?_
              refine lv_istore_n (pc := 55) hx hb d_R_turn_55 rfl hl (by decide) (lv' := [(3, .int ((0 : Int32))), (2, .int ((2 : Int32))), (0, .ref (ad 154)), (1, .int (x0))]) rfl (fun ls hl => ?_)
              refine lv_iconst (pc := 56) (v := (0 : Int32)) hx hb d_R_turn_56 (by decide) ?_
              refine lv_istore (pc := 57) hx hb d_R_turn_57 hl (by decide) (lv' := [(4, .int ((0 : Int32))), (3, .int ((0 : Int32))), (2, .int ((2 : Int32))), (0, .ref (ad 154)), (1, .int (x0))]) rfl (fun ls hl => ?_)
              obtain ⟨z23, hz23, hE⟩ := xs_b hE
              refine L59 _ _ _ _ _ _ _ _ _ _ hz23 G (lv_sub hl [3, 4, 2, 1, 0] rfl) (fun H locs ls G hl => ?_)
              cases hE
              exact xs_vret (pc := 127) hx hb hr hlk G d_R_turn_127
          · have hE := xs_t hE hc
            refine lv_iconst (pc := 41) (v := (2 : Int32)) hx hb d_R_turn_41 (by decide) ?_
            refine lv_goto (pc := 42) (tgt := 55) hx hb d_R_turn_42 (by decide) ?_
            refine lv_istore_n (pc := 55) hx hb d_R_turn_55 rfl hl (by decide) (lv' := [(3, .int ((2 : Int32))), (2, .int ((2 : Int32))), (0, .ref (ad 154)), (1, .int (x0))]) rfl (fun ls hl => ?_)
            refine lv_iconst (pc := 56) (v := (0 : Int32)) hx hb d_R_turn_56 (by decide) ?_
            refine lv_istore (pc := 57) hx hb d_R_turn_57 hl (by decide) (lv' := [(4, .int ((0 : Int32))), (3, .int ((2 : Int32))), (2, .int ((2 : Int32))), (0, .ref (ad 154)), (1, .int (x0))]) rfl (fun ls hl => ?_)
            obtain ⟨z24, hz24, hE⟩ := xs_b hE
            refine L59 _ _ _ _ _ _ _ _ _ _ hz24 G (lv_sub hl [3, 4, 2, 1, 0] rfl) (fun H locs ls G hl => ?_)
            cases hE
            exact xs_vret (pc := 127) hx hb hr hlk G d_R_turn_127
      · have hE := xs_t hE hc
        refine lv_iconst (pc := 22) (v := (1 : Int32)) hx hb d_R_turn_22 (by decide) ?_
        refine lv_goto (pc := 23) (tgt := 36) hx hb d_R_turn_23 (by decide) ?_
        refine lv_istore_n (pc := 36) hx hb d_R_turn_36 rfl hl (by decide) (lv' := [(2, .int ((1 : Int32))), (0, .ref (ad 154)), (1, .int (x0))]) rfl (fun ls hl => ?_)
        refine lv_iload_n (pc := 37) hx hb d_R_turn_37 rfl (lv_at hl 2 rfl) ?_
        refine lv_if_ne (pc := 38) (tgt := 45) hx hb d_R_turn_38 (by decide) (fun hc => ?_) (fun hc => ?_)
        · have hE := xs_f hE hc
          refine lv_iload_n (pc := 45) hx hb d_R_turn_45 rfl (lv_at hl 2 rfl) ?_
          refine lv_iconst (pc := 46) (v := (1 : Int32)) hx hb d_R_turn_46 (by decide) ?_
          refine lv_icmp_ne (pc := 47) (tgt := 54) hx hb d_R_turn_47 (by decide) (fun hc => ?_) (fun hc => ?_)
          · have hE := xs_f hE hc
            refine lv_iconst (pc := 54) (v := (1 : Int32)) hx hb d_R_turn_54 (by decide) ?_
            refine lv_istore_n (pc := 55) hx hb d_R_turn_55 rfl hl (by decide) (lv' := [(3, .int ((1 : Int32))), (2, .int ((1 : Int32))), (0, .ref (ad 154)), (1, .int (x0))]) rfl (fun ls hl => ?_)
            refine lv_iconst (pc := 56) (v := (0 : Int32)) hx hb d_R_turn_56 (by decide) ?_
            refine lv_istore (pc := 57) hx hb d_R_turn_57 hl (by decide) (lv' := [(4, .int ((0 : Int32))), (3, .int ((1 : Int32))), (2, .int ((1 : Int32))), (0, .ref (ad 154)), (1, .int (x0))]) rfl (fun ls hl => ?_)
            obtain ⟨z25, hz25, hE⟩ := xs_b hE
            refine L59 _ _ _ _ _ _ _ _ _ _ hz25 G (lv_sub hl [3, 4, 2, 1, 0] rfl) (fun H locs ls G hl => ?_)
            cases hE
            exact xs_vret (pc := 127) hx hb hr hlk G d_R_turn_127
          · have hE := xs_t hE hc
            refine lv_iconst (pc := 50) (v := (0 : Int32)) hx hb d_R_turn_50 (by decide) ?_
            refine lv_goto (pc := 51) (tgt := 55) hx hb d_R_turn_51 (by decide) ?_
            refine lv_istore_n (pc := 55) hx hb d_R_turn_55 rfl hl (by decide) (lv' := [(3, .int ((0 : Int32))), (2, .int ((1 : Int32))), (0, .ref (ad 154)), (1, .int (x0))]) rfl (fun ls hl => ?_)
            refine lv_iconst (pc := 56) (v := (0 : Int32)) hx hb d_R_turn_56 (by decide) ?_
            refine lv_istore (pc := 57) hx hb d_R_turn_57 hl (by decide) (lv' := [(4, .int ((0 : Int32))), (3, .int ((0 : Int32))), (2, .int ((1 : Int32))), (0, .ref (ad 154)), (1, .int (x0))]) rfl (fun ls hl => ?_)
            obtain ⟨z26, hz26, hE⟩ := xs_b hE
            refine L59 _ _ _ _ _ _ _ _ _ _ hz26 G (lv_sub hl [3, 4, 2, 1, 0] rfl) (fun H locs ls G hl => ?_)
            cases hE
            exact xs_vret (pc := 127) hx hb hr hlk G d_R_turn_127
        · have hE := xs_t hE hc
          refine lv_iconst (pc := 41) (v := (2 : Int32)) hx hb d_R_turn_41 (by decide) ?_
          refine lv_goto (pc := 42) (tgt := 55) hx hb d_R_turn_42 (by decide) ?_
          refine lv_istore_n (pc := 55) hx hb d_R_turn_55 rfl hl (by decide) (lv' := [(3, .int ((2 : Int32))), (2, .int ((1 : Int32))), (0, .ref (ad 154)), (1, .int (x0))]) rfl (fun ls hl => ?_)
          refine lv_iconst (pc := 56) (v := (0 : Int32)) hx hb d_R_turn_56 (by decide) ?_
          refine lv_istore (pc := 57) hx hb d_R_turn_57 hl (by decide) (lv' := [(4, .int ((0 : Int32))), (3, .int ((2 : Int32))), (2, .int ((1 : Int32))), (0, .ref (ad 154)), (1, .int (x0))]) rfl (fun ls hl => ?_)
          obtain ⟨z27, hz27, hE⟩ := xs_b hE
          refine L59 _ _ _ _ _ _ _ _ _ _ hz27 G (lv_sub hl [3, 4, 2, 1, 0] rfl) (fun H locs ls G hl => ?_)
          cases hE
          exact xs_vret (pc := 127) hx hb hr hlk G d_R_turn_127
    · have hE := xs_f hE hc
      refine lv_iconst (pc := 10) (v := (1 : Int32)) hx hb d_R_turn_10 (by decide) ?_
      refine lv_goto (pc := 11) (tgt := 15) hx hb d_R_turn_11 (by decide) ?_
      refine pf_R_59 (pc := 15) X G d_R_turn_15 (fun H locs G => ?_)
      obtain ⟨μ28, hμ28, hE⟩ := xs_b hE
      have G := xs_mv G hμ28
      have hfμ28 := xs_fi hμ28
      clear hμ28
      refine lv_iload_n (pc := 18) hx hb d_R_turn_18 rfl (lv_at hl 1 rfl) ?_
      refine lv_if_ne (pc := 19) (tgt := 26) hx hb d_R_turn_19 (by decide) (fun hc => ?_) (fun hc => ?_)
      · have hE := xs_f hE hc
        refine lv_iload_n (pc := 26) hx hb d_R_turn_26 rfl (lv_at hl 1 rfl) ?_
        refine lv_iconst (pc := 27) (v := (1 : Int32)) hx hb d_R_turn_27 (by decide) ?_
        refine lv_icmp_ne (pc := 28) (tgt := 35) hx hb d_R_turn_28 (by decide) (fun hc => ?_) (fun hc => ?_)
        · have hE := xs_f hE hc
          refine lv_iconst (pc := 35) (v := (0 : Int32)) hx hb d_R_turn_35 (by decide) ?_
          refine lv_istore_n (pc := 36) hx hb d_R_turn_36 rfl hl (by decide) (lv' := [(2, .int ((0 : Int32))), (0, .ref (ad 154)), (1, .int (x0))]) rfl (fun ls hl => ?_)
          refine lv_iload_n (pc := 37) hx hb d_R_turn_37 rfl (lv_at hl 2 rfl) ?_
          refine lv_if_ne (pc := 38) (tgt := 45) hx hb d_R_turn_38 (by decide) (fun hc => ?_) (fun hc => ?_)
          · have hE := xs_f hE hc
            refine lv_iload_n (pc := 45) hx hb d_R_turn_45 rfl (lv_at hl 2 rfl) ?_
            refine lv_iconst (pc := 46) (v := (1 : Int32)) hx hb d_R_turn_46 (by decide) ?_
            refine lv_icmp_ne (pc := 47) (tgt := 54) hx hb d_R_turn_47 (by decide) (fun hc => ?_) (fun hc => ?_)
            · have hE := xs_f hE hc
              refine lv_iconst (pc := 54) (v := (1 : Int32)) hx hb d_R_turn_54 (by decide) ?_
              refine lv_istore_n (pc := 55) hx hb d_R_turn_55 rfl hl (by decide) (lv' := [(3, .int ((1 : Int32))), (2, .int ((0 : Int32))), (0, .ref (ad 154)), (1, .int (x0))]) rfl (fun ls hl => ?_)
              refine lv_iconst (pc := 56) (v := (0 : Int32)) hx hb d_R_turn_56 (by decide) ?_
              refine lv_istore (pc := 57) hx hb d_R_turn_57 hl (by decide) (lv' := [(4, .int ((0 : Int32))), (3, .int ((1 : Int32))), (2, .int ((0 : Int32))), (0, .ref (ad 154)), (1, .int (x0))]) rfl (fun ls hl => ?_)
              obtain ⟨z29, hz29, hE⟩ := xs_b hE
              refine L59 _ _ _ _ _ _ _ _ _ _ hz29 G (lv_sub hl [3, 4, 2, 1, 0] rfl) (fun H locs ls G hl => ?_)
              cases hE
              exact xs_vret (pc := 127) hx hb hr hlk G d_R_turn_127
            · have hE := xs_t hE hc
              refine lv_iconst (pc := 50) (v := (0 : Int32)) hx hb d_R_turn_50 (by decide) ?_
              refine lv_goto (pc := 51) (tgt := 55) hx hb d_R_turn_51 (by decide) ?_
              refine lv_istore_n (pc := 55) hx hb d_R_turn_55 rfl hl (by decide) (lv' := [(3, .int ((0 : Int32))), (2, .int ((0 : Int32))), (0, .ref (ad 154)), (1, .int (x0))]) rfl (fun ls hl => ?_)
              refine lv_iconst (pc := 56) (v := (0 : Int32)) hx hb d_R_turn_56 (by decide) ?_
              refine lv_istore (pc := 57) hx hb d_R_turn_57 hl (by decide) (lv' := [(4, .int ((0 : Int32))), (3, .int ((0 : Int32))), (2, .int ((0 : Int32))), (0, .ref (ad 154)), (1, .int (x0))]) rfl (fun ls hl => ?_)
              obtain ⟨z30, hz30, hE⟩ := xs_b hE
              refine L59 _ _ _ _ _ _ _ _ _ _ hz30 G (lv_sub hl [3, 4, 2, 1, 0] rfl) (fun H locs ls G hl => ?_)
              cases hE
              exact xs_vret (pc := 127) hx hb hr hlk G d_R_turn_127
          · have hE := xs_t hE hc
            refine lv_iconst (pc := 41) (v := (2 : Int32)) hx hb d_R_turn_41 (by decide) ?_
            refine lv_goto (pc := 42) (tgt := 55) hx hb d_R_turn_42 (by decide) ?_
            refine lv_istore_n (pc := 55) hx hb d_R_turn_55 rfl hl (by decide) (lv' := [(3, .int ((2 : Int32))), (2, .int ((0 : Int32))), (0, .ref (ad 154)), (1, .int (x0))]) rfl (fun ls hl => ?_)
            refine lv_iconst (pc := 56) (v := (0 : Int32)) hx hb d_R_turn_56 (by decide) ?_
            refine lv_istore (pc := 57) hx hb d_R_turn_57 hl (by decide) (lv' := [(4, .int ((0 : Int32))), (3, .int ((2 : Int32))), (2, .int ((0 : Int32))), (0, .ref (ad 154)), (1, .int (x0))]) rfl (fun ls hl => ?_)
            obtain ⟨z31, hz31, hE⟩ := xs_b hE
            refine L59 _ _ _ _ _ _ _ _ _ _ hz31 G (lv_sub hl [3, 4, 2, 1, 0] rfl) (fun H locs ls G hl => ?_)
            cases hE
            exact xs_vret (pc := 127) hx hb hr hlk G d_R_turn_127
        · have hE := xs_t hE hc
          refine lv_iconst (pc := 31) (v := (2 : Int32)) hx hb d_R_turn_31 (by decide) ?_
          refine lv_goto (pc := 32) (tgt := 36) hx hb d_R_turn_32 (by decide) ?_
          refine lv_istore_n (pc := 36) hx hb d_R_turn_36 rfl hl (by decide) (lv' := [(2, .int ((2 : Int32))), (0, .ref (ad 154)), (1, .int (x0))]) rfl (fun ls hl => ?_)
          refine lv_iload_n (pc := 37) hx hb d_R_turn_37 rfl (lv_at hl 2 rfl) ?_
          refine lv_if_ne (pc := 38) (tgt := 45) hx hb d_R_turn_38 (by decide) (fun hc => ?_) (fun hc => ?_)
          · have hE := xs_f hE hc
            refine lv_iload_n (pc := 45) hx hb d_R_turn_45 rfl (lv_at hl 2 rfl) ?_
            refine lv_iconst (pc := 46) (v := (1 : Int32)) hx hb d_R_turn_46 (by decide) ?_
            refine lv_icmp_ne (pc := 47) (tgt := 54) hx hb d_R_turn_47 (by decide) (fun hc => ?_) (fun hc => ?_)
            · have hE := xs_f hE hc
              refine lv_iconst (pc := 54) (v := (1 : Int32)) hx hb d_R_turn_54 (by decide) ?_
              refine lv_istore_n (pc := 55) hx hb d_R_turn_55 rfl hl (by decide) (lv' := [(3, .int ((1 : Int32))), (2, .int ((2 : Int32))), (0, .ref (ad 154)), (1, .int (x0))]) rfl (fun ls hl => ?_)
              refine lv_iconst (pc := 56) (v := (0 : Int32)) hx hb d_R_turn_56 (by decide) ?_
              refine lv_istore (pc := 57) hx hb d_R_turn_57 hl (by decide) (lv' := [(4, .int ((0 : Int32))), (3, .int ((1 : Int32))), (2, .int ((2 : Int32))), (0, .ref (ad 154)), (1, .int (x0))]) rfl (fun ls hl => ?_)
              obtain ⟨z32, hz32, hE⟩ := xs_b hE
              refine L59 _ _ _ _ _ _ _ _ _ _ hz32 G (lv_sub hl [3, 4, 2, 1, 0] rfl) (fun H locs ls G hl => ?_)
              cases hE
              exact xs_vret (pc := 127) hx hb hr hlk G d_R_turn_127
            · have hE := xs_t hE hc
              refine lv_iconst (pc := 50) (v := (0 : Int32)) hx hb d_R_turn_50 (by decide) ?_
              refine lv_goto (pc := 51) (tgt := 55) hx hb d_R_turn_51 (by decide) ?_
              refine lv_istore_n (pc := 55) hx hb d_R_turn_55 rfl hl (by decide) (lv' := [(3, .int ((0 : Int32))), (2, .int ((2 : Int32))), (0, .ref (ad 154)), (1, .int (x0))]) rfl (fun ls hl => ?_)
              refine lv_iconst (pc := 56) (v := (0 : Int32)) hx hb d_R_turn_56 (by decide) ?_
              refine lv_istore (pc := 57) hx hb d_R_turn_57 hl (by decide) (lv' := [(4, .int ((0 : Int32))), (3, .int ((0 : Int32))), (2, .int ((2 : Int32))), (0, .ref (ad 154)), (1, .int (x0))]) rfl (fun ls hl => ?_)
              obtain ⟨z33, hz33, hE⟩ := xs_b hE
              refine L59 _ _ _ _ _ _ _ _ _ _ hz33 G (lv_sub hl [3, 4, 2, 1, 0] rfl) (fun H locs ls G hl => ?_)
              cases hE
              exact xs_vret (pc := 127) hx hb hr hlk G d_R_turn_127
          · have hE := xs_t hE hc
            refine lv_iconst (pc := 41) (v := (2 : Int32)) hx hb d_R_turn_41 (by decide) ?_
            refine lv_goto (pc := 42) (tgt := 55) hx hb d_R_turn_42 (by decide) ?_
            refine lv_istore_n (pc := 55) hx hb d_R_turn_55 rfl hl (by decide) (lv' := [(3, .int ((2 : Int32))), (2, .int ((2 : Int32))), (0, .ref (ad 154)), (1, .int (x0))]) rfl (fun ls hl => ?_)
            refine lv_iconst (pc := 56) (v := (0 : Int32)) hx hb d_R_turn_56 (by decide) ?_
            refine lv_istore (pc := 57) hx hb d_R_turn_57 hl (by decide) (lv' := [(4, .int ((0 : Int32))), (3, .int ((2 : Int32))), (2, .int ((2 : Int32))), (0, .ref (ad 154)), (1, .int (x0))]) rfl (fun ls hl => ?_)
            obtain ⟨z34, hz34, hE⟩ := xs_b hE
            refine L59 _ _ _ _ _ _ _ _ _ _ hz34 G (lv_sub hl [3, 4, 2, 1, 0] rfl) (fun H locs ls G hl => ?_)
            cases hE
            exact xs_vret (pc := 127) hx hb hr hlk G d_R_turn_127
      · have hE := xs_t hE hc
        refine lv_iconst (pc := 22) (v := (1 : Int32)) hx hb d_R_turn_22 (by decide) ?_
        refine lv_goto (pc := 23) (tgt := 36) hx hb d_R_turn_23 (by decide) ?_
        refine lv_istore_n (pc := 36) hx hb d_R_turn_36 rfl hl (by decide) (lv' := [(2, .int ((1 : Int32))), (0, .ref (ad 154)), (1, .int (x0))]) rfl (fun ls hl => ?_)
        refine lv_iload_n (pc := 37) hx hb d_R_turn_37 rfl (lv_at hl 2 rfl) ?_
        refine lv_if_ne (pc := 38) (tgt := 45) hx hb d_R_turn_38 (by decide) (fun hc => ?_) (fun hc => ?_)
        · have hE := xs_f hE hc
          refine lv_iload_n (pc := 45) hx hb d_R_turn_45 rfl (lv_at hl 2 rfl) ?_
          refine lv_iconst (pc := 46) (v := (1 : Int32)) hx hb d_R_turn_46 (by decide) ?_
          refine lv_icmp_ne (pc := 47) (tgt := 54) hx hb d_R_turn_47 (by decide) (fun hc => ?_) (fun hc => ?_)
          · have hE := xs_f hE hc
            refine lv_iconst (pc := 54) (v := (1 : Int32)) hx hb d_R_turn_54 (by decide) ?_
            refine lv_istore_n (pc := 55) hx hb d_R_turn_55 rfl hl (by decide) (lv' := [(3, .int ((1 : Int32))), (2, .int ((1 : Int32))), (0, .ref (ad 154)), (1, .int (x0))]) rfl (fun ls hl => ?_)
            refine lv_iconst (pc := 56) (v := (0 : Int32)) hx hb d_R_turn_56 (by decide) ?_
            refine lv_istore (pc := 57) hx hb d_R_turn_57 hl (by decide) (lv' := [(4, .int ((0 : Int32))), (3, .int ((1 : Int32))), (2, .int ((1 : Int32))), (0, .ref (ad 154)), (1, .int (x0))]) rfl (fun ls hl => ?_)
            obtain ⟨z35, hz35, hE⟩ := xs_b hE
            refine L59 _ _ _ _ _ _ _ _ _ _ hz35 G (lv_sub hl [3, 4, 2, 1, 0] rfl) (fun H locs ls G hl => ?_)
            cases hE
            exact xs_vret (pc := 127) hx hb hr hlk G d_R_turn_127
          · have hE := xs_t hE hc
            refine lv_iconst (pc := 50) (v := (0 : Int32)) hx hb d_R_turn_50 (by decide) ?_
            refine lv_goto (pc := 51) (tgt := 55) hx hb d_R_turn_51 (by decide) ?_
            refine lv_istore_n (pc := 55) hx hb d_R_turn_55 rfl hl (by decide) (lv' := [(3, .int ((0 : Int32))), (2, .int ((1 : Int32))), (0, .ref (ad 154)), (1, .int (x0))]) rfl (fun ls hl => ?_)
            refine lv_iconst (pc := 56) (v := (0 : Int32)) hx hb d_R_turn_56 (by decide) ?_
            refine lv_istore (pc := 57) hx hb d_R_turn_57 hl (by decide) (lv' := [(4, .int ((0 : Int32))), (3, .int ((0 : Int32))), (2, .int ((1 : Int32))), (0, .ref (ad 154)), (1, .int (x0))]) rfl (fun ls hl => ?_)
            obtain ⟨z36, hz36, hE⟩ := xs_b hE
            refine L59 _ _ _ _ _ _ _ _ _ _ hz36 G (lv_sub hl [3, 4, 2, 1, 0] rfl) (fun H locs ls G hl => ?_)
            cases hE
            exact xs_vret (pc := 127) hx hb hr hlk G d_R_turn_127
        · have hE := xs_t hE hc
          refine lv_iconst (pc := 41) (v := (2 : Int32)) hx hb d_R_turn_41 (by decide) ?_
          refine lv_goto (pc := 42) (tgt := 55) hx hb d_R_turn_42 (by decide) ?_
          refine lv_istore_n (pc := 55) hx hb d_R_turn_55 rfl hl (by decide) (lv' := [(3, .int ((2 : Int32))), (2, .int ((1 : Int32))), (0, .ref (ad 154)), (1, .int (x0))]) rfl (fun ls hl => ?_)
          refine lv_iconst (pc := 56) (v := (0 : Int32)) hx hb d_R_turn_56 (by decide) ?_
          refine lv_istore (pc := 57) hx hb d_R_turn_57 hl (by decide) (lv' := [(4, .int ((0 : Int32))), (3, .int ((2 : Int32))), (2, .int ((1 : Int32))), (0, .ref (ad 154)), (1, .int (x0))]) rfl (fun ls hl => ?_)
          obtain ⟨z37, hz37, hE⟩ := xs_b hE
          refine L59 _ _ _ _ _ _ _ _ _ _ hz37 G (lv_sub hl [3, 4, 2, 1, 0] rfl) (fun H locs ls G hl => ?_)
          cases hE
          exact xs_vret (pc := 127) hx hb hr hlk G d_R_turn_127
def fn_R_join_L36 : Nat → xs_M → Int32 → Int64 → Int32 →  Option (Int64 × Int32)
  | 0, _, _, _, _ => none
  | fu + 1, μ, v1, v2, v4 => (if (4 : Int32) ≤ v4 then some ((v2, v4)) else (if xs_in (((((16 : Int32) * (μ.1 154 4)) - (16 : Int32)) + ((4 : Int32) * (v1 / (4 : Int32)))) + v4) 64 = true then (if xs_in (((4 : Int32) * v4) + (v1 - v1 / (4 : Int32) * (4 : Int32))) 16 = true then ((some (v2 + (((μ.1 157 (((((16 : Int32) * (μ.1 154 4)) - (16 : Int32)) + ((4 : Int32) * (v1 / (4 : Int32)))) + v4).toNatClampNeg)).toInt64 * ((μ.1 155 (((4 : Int32) * v4) + (v1 - v1 / (4 : Int32) * (4 : Int32))).toNatClampNeg)).toInt64))).bind fun a4 => fn_R_join_L36 fu μ v1 a4 (v4 + 1)) else none) else none))
def fn_R_join_L18 : Nat → xs_M → Int32 →  Option (Int32 × xs_M)
  | 0, _, _ => none
  | fu + 1, μ, v1 => (if (16 : Int32) ≤ v1 then some ((v1, μ)) else (if (μ.1 154 4) ≤ 0 then some ((v1, μ)) else ((fn_R_join_L36 xs_FU μ v1 (0 : Int64) (0 : Int32)).bind fun z5 => ((fn_R_fits μ z5.1).bind fun w6 => (if w6 = 0 then ((some (xs_si μ 154 0 (2 : Int32))).bind fun μ7 => (if xs_in v1 16 = true then ((some (xs_si μ7 156 v1.toNatClampNeg (z5.1).toInt32)).bind fun μ9 => fn_R_join_L18 fu μ9 (v1 + 1)) else none)) else ((some (xs_si μ 154 0 (μ.1 154 0))).bind fun μ10 => (if xs_in v1 16 = true then ((some (xs_si μ10 156 v1.toNatClampNeg (z5.1).toInt32)).bind fun μ12 => fn_R_join_L18 fu μ12 (v1 + 1)) else none)))))))
def fn_R_join_L143 : Nat → xs_M → Int32 →  Option (Int32 × xs_M)
  | 0, _, _ => none
  | fu + 1, μ, v1 => (if (16 : Int32) ≤ v1 then some ((v1, μ)) else (if xs_in v1 16 = true then (if xs_in v1 16 = true then ((some (xs_si μ 155 v1.toNatClampNeg (μ.1 156 v1.toNatClampNeg))).bind fun μ17 => fn_R_join_L143 fu μ17 (v1 + 1)) else none) else none))
def fn_R_join (μ0 : xs_M)  : Option xs_M :=
  (if (μ0.1 154 4) = 0 then ((some (xs_si μ0 154 0 (1 : Int32))).bind fun μ19 => ((fn_R_join_L18 xs_FU μ19 (0 : Int32)).bind fun z20 => (if (z20.2.1 154 0) = 0 then ((some (xs_si z20.2 154 4 ((z20.2.1 154 4) - (1 : Int32)))).bind fun μ21 => ((fn_R_join_L143 xs_FU μ21 (0 : Int32)).bind fun z22 => some (z22.2))) else some (z20.2)))) else ((some (xs_si μ0 154 0 (0 : Int32))).bind fun μ1 => ((fn_R_join_L18 xs_FU μ1 (0 : Int32)).bind fun z13 => (if (z13.2.1 154 0) = 0 then ((some (xs_si z13.2 154 4 ((z13.2.1 154 4) - (1 : Int32)))).bind fun μ14 => ((fn_R_join_L143 xs_FU μ14 (0 : Int32)).bind fun z18 => some (z18.2))) else some (z13.2)))))
set_option maxHeartbeats 4000000 in
set_option maxRecDepth 100000 in
theorem ok_R_join (l : Launch) (D : va_G) (ad : Nat → Nat) (cs : xs_cs) (hJ : xs_J ad) {μ0 : xs_M}   {rz : xs_M} (hE : fn_R_join μ0 = some rz) : xs_I l D ad cs y_R_join b_R_join 5 none 1 21 [.ref (ad 154)] μ0 none rz := by
  refine xs_entry hJ (by decide) (Nat.le_of_ble_eq_true rfl) ?_
  intro p e s m below meth c ls X hr hlk G hl
  have X : xs_C p s m c b_R_join 5 _ "ExactSceneModel" := X
  have hx := X.1
  have hb := X.2.1
  have hl : lv_has ls 5 [(0, .ref (ad 154))] := hl
  have L36 : ∀ (fu : Nat) (μ : xs_M) (v1 : Int32) (v2 : Int64) (v4 : Int32) (H : Heap) (locs : List Loc) (ls : Array Slot) (z : (Int64 × Int32)), fn_R_join_L36 fu μ v1 v2 v4 = some z → xs_G D ad cs s (xs_A ad s.heap.size) s.heap μ H locs → lv_has ls 5 [(0, .ref (ad 154)), (1, .int (v1)), (2, .long (v2)), (4, .int (v4))] → (∀ (H : Heap) (locs : List Loc) (ls : Array Slot), xs_G D ad cs s (xs_A ad s.heap.size) s.heap μ H locs → lv_has ls 5 [(0, .ref (ad 154)), (1, .int (v1)), (2, .long (z.1)), (4, .int (z.2))] → W p l e (xs_rm 1 21) s m ([.ref (ad 154)] : List Value).toArray below meth c H locs 0 0 (xs_E below D ad cs [.ref (ad 154)] s none rz) (F0 m 91 ls [])) → W p l e (xs_rm 1 21) s m ([.ref (ad 154)] : List Value).toArray below meth c H locs 0 0 (xs_E below D ad cs [.ref (ad 154)] s none rz) (F0 m 36 ls []) := by
    clear hE hl G
    intro fu
    induction fu with
    | zero =>
      intro μ v1 v2 v4 H locs ls z hE
      rw [fn_R_join_L36] at hE
      cases hE
    | succ fu ih =>
      intro μ v1 v2 v4 H locs ls z hE G hl kk
      rw [fn_R_join_L36] at hE
      refine lv_iload (pc := 36) hx hb d_R_join_36 (lv_at hl 3 rfl) ?_
      refine lv_iconst (pc := 38) (v := (4 : Int32)) hx hb d_R_join_38 (by decide) ?_
      refine lv_icmp_ge (pc := 39) (tgt := 91) hx hb d_R_join_39 (by decide) (fun hc => ?_) (fun hc => ?_)
      · have hE := xs_t hE hc
        cases hE
        exact kk _ _ _ G (lv_sub hl [0, 1, 2, 3] rfl)
      · have hE := xs_f hE hc
        refine lv_lload_n (pc := 42) hx hb d_R_join_42 rfl (lv_at hl 2 rfl) ?_
        refine lv_aload_n (pc := 43) hx hb d_R_join_43 rfl (lv_at hl 0 rfl) ?_
        refine gf_R_16 (pc := 44) X G d_R_join_44 ?_
        refine lv_bipush (pc := 47) (v := (16 : Int32)) hx hb d_R_join_47 (by decide) ?_
        refine lv_aload_n (pc := 49) hx hb d_R_join_49 rfl (lv_at hl 0 rfl) ?_
        refine gf_R_71 (pc := 50) X G d_R_join_50 ?_
        refine lv_imul (pc := 53) hx hb d_R_join_53 ?_
        refine lv_bipush (pc := 54) (v := (16 : Int32)) hx hb d_R_join_54 (by decide) ?_
        refine lv_isub (pc := 56) hx hb d_R_join_56 ?_
        refine lv_iconst (pc := 57) (v := (4 : Int32)) hx hb d_R_join_57 (by decide) ?_
        refine lv_iload_n (pc := 58) hx hb d_R_join_58 rfl (lv_at hl 1 rfl) ?_
        refine lv_iconst (pc := 59) (v := (4 : Int32)) hx hb d_R_join_59 (by decide) ?_
        refine lv_idiv (pc := 60) hx hb d_R_join_60 (by decide) ?_
        refine lv_imul (pc := 61) hx hb d_R_join_61 ?_
        refine lv_iadd (pc := 62) hx hb d_R_join_62 ?_
        refine lv_iload (pc := 63) hx hb d_R_join_63 (lv_at hl 3 rfl) ?_
        refine lv_iadd (pc := 65) hx hb d_R_join_65 ?_
        obtain ⟨hi2, hE⟩ := xs_n hE
        refine xs_iald (pc := 66) hx hb G ia_157 (xs_inP hi2) d_R_join_66 ?_
        refine lv_i2l (pc := 67) hx hb d_R_join_67 rfl ?_
        refine lv_aload_n (pc := 68) hx hb d_R_join_68 rfl (lv_at hl 0 rfl) ?_
        refine gf_R_7 (pc := 69) X G d_R_join_69 ?_
        refine lv_iconst (pc := 72) (v := (4 : Int32)) hx hb d_R_join_72 (by decide) ?_
        refine lv_iload (pc := 73) hx hb d_R_join_73 (lv_at hl 3 rfl) ?_
        refine lv_imul (pc := 75) hx hb d_R_join_75 ?_
        refine lv_iload_n (pc := 76) hx hb d_R_join_76 rfl (lv_at hl 1 rfl) ?_
        refine lv_iconst (pc := 77) (v := (4 : Int32)) hx hb d_R_join_77 (by decide) ?_
        refine lv_irem (pc := 78) hx hb d_R_join_78 (by decide) ?_
        refine lv_iadd (pc := 79) hx hb d_R_join_79 ?_
        obtain ⟨hi3, hE⟩ := xs_n hE
        refine xs_iald (pc := 80) hx hb G ia_155 (xs_inP hi3) d_R_join_80 ?_
        refine lv_i2l (pc := 81) hx hb d_R_join_81 rfl ?_
        refine lv_lmul (pc := 82) hx hb d_R_join_82 ?_
        refine lv_ladd (pc := 83) hx hb d_R_join_83 ?_
        obtain ⟨a4, ha4, hE⟩ := xs_b hE
        refine xs_tl ha4 ?_
        clear ha4
        refine lv_lstore_n (pc := 84) hx hb d_R_join_84 rfl hl (by decide) (lv' := [(2, .long (a4)), (0, .ref (ad 154)), (1, .int (v1)), (4, .int (v4))]) rfl (fun ls hl => ?_)
        refine lv_iinc (pc := 85) (v := (v4 + 1)) (k := 3) hx hb d_R_join_85 hl rfl (xs_inc _) (by decide) (lv' := [(4, .int ((v4 + 1))), (2, .long (a4)), (0, .ref (ad 154)), (1, .int (v1))]) rfl (fun ls hl => ?_)
        refine lv_goto (pc := 88) (tgt := 36) hx hb d_R_join_88 (by decide) ?_
        exact ih _ _ _ _ _ _ _ _ hE G (lv_sub hl [2, 3, 1, 0] rfl) kk
  have L18 : ∀ (fu : Nat) (μ : xs_M) (v1 : Int32) (H : Heap) (locs : List Loc) (ls : Array Slot) (z : (Int32 × xs_M)), fn_R_join_L18 fu μ v1 = some z → xs_G D ad cs s (xs_A ad s.heap.size) s.heap μ H locs → lv_has ls 5 [(0, .ref (ad 154)), (1, .int (v1))] → (∀ (H : Heap) (locs : List Loc) (ls : Array Slot), xs_G D ad cs s (xs_A ad s.heap.size) s.heap z.2 H locs → lv_has ls 5 [(0, .ref (ad 154)), (1, .int (z.1))] → W p l e (xs_rm 1 21) s m ([.ref (ad 154)] : List Value).toArray below meth c H locs 0 0 (xs_E below D ad cs [.ref (ad 154)] s none rz) (F0 m 124 ls [])) → W p l e (xs_rm 1 21) s m ([.ref (ad 154)] : List Value).toArray below meth c H locs 0 0 (xs_E below D ad cs [.ref (ad 154)] s none rz) (F0 m 18 ls []) := by
    clear hE hl G
    intro fu
    induction fu with
    | zero =>
      intro μ v1 H locs ls z hE
      rw [fn_R_join_L18] at hE
      cases hE
    | succ fu ih =>
      intro μ v1 H locs ls z hE G hl kk
      rw [fn_R_join_L18] at hE
      refine lv_iload_n (pc := 18) hx hb d_R_join_18 rfl (lv_at hl 1 rfl) ?_
      refine lv_bipush (pc := 19) (v := (16 : Int32)) hx hb d_R_join_19 (by decide) ?_
      refine lv_icmp_ge (pc := 21) (tgt := 124) hx hb d_R_join_21 (by decide) (fun hc => ?_) (fun hc => ?_)
      · have hE := xs_t hE hc
        cases hE
        exact kk _ _ _ G (lv_sub hl [0, 1] rfl)
      · have hE := xs_f hE hc
        refine lv_aload_n (pc := 24) hx hb d_R_join_24 rfl (lv_at hl 0 rfl) ?_
        refine gf_R_71 (pc := 25) X G d_R_join_25 ?_
        refine lv_if_le (pc := 28) (tgt := 124) hx hb d_R_join_28 (by decide) (fun hc => ?_) (fun hc => ?_)
        · have hE := xs_t hE hc
          cases hE
          exact kk _ _ _ G (lv_sub hl [0, 1] rfl)
        · have hE := xs_f hE hc
          refine lv_lconst (pc := 31) (v := (0 : Int64)) hx hb d_R_join_31 (by decide) ?_
          refine lv_lstore_n (pc := 32) hx hb d_R_join_32 rfl hl (by decide) (lv' := [(2, .long ((0 : Int64))), (0, .ref (ad 154)), (1, .int (v1))]) rfl (fun ls hl => ?_)
          refine lv_iconst (pc := 33) (v := (0 : Int32)) hx hb d_R_join_33 (by decide) ?_
          refine lv_istore (pc := 34) hx hb d_R_join_34 hl (by decide) (lv' := [(4, .int ((0 : Int32))), (2, .long ((0 : Int64))), (0, .ref (ad 154)), (1, .int (v1))]) rfl (fun ls hl => ?_)
          obtain ⟨z5, hz5, hE⟩ := xs_b hE
          refine L36 _ _ _ _ _ _ _ _ _ hz5 G (lv_sub hl [2, 3, 1, 0] rfl) (fun H locs ls G hl => ?_)
          refine lv_aload_n (pc := 91) hx hb d_R_join_91 rfl (lv_at hl 0 rfl) ?_
          refine lv_lload_n (pc := 92) hx hb d_R_join_92 rfl (lv_at hl 2 rfl) ?_
          obtain ⟨w6, hw6, hE⟩ := xs_b hE
          refine xs_callSr (pc := 93) (as := [.long (z5.1)]) X (ok_R_fits l D ad cs hJ hw6) km_R_67 G ⟨by decide, by decide⟩ ⟨Nat.zero_le _, Nat.zero_le _⟩ rfl hl.1 rfl (Nat.le_of_ble_eq_true rfl) d_R_join_93 (fun H locs G => ?_)
          refine lv_if_eq (pc := 96) (tgt := 106) hx hb d_R_join_96 (by decide) (fun hc => ?_) (fun hc => ?_)
          · have hE := xs_t hE hc
            refine lv_iconst (pc := 106) (v := (2 : Int32)) hx hb d_R_join_106 (by decide) ?_
            refine pf_R_59 (pc := 107) X G d_R_join_107 (fun H locs G => ?_)
            obtain ⟨μ7, hμ7, hE⟩ := xs_b hE
            have G := xs_mv G hμ7
            have hfμ7 := xs_fi hμ7
            clear hμ7
            refine lv_aload_n (pc := 110) hx hb d_R_join_110 rfl (lv_at hl 0 rfl) ?_
            refine gf_R_13 (pc := 111) X G d_R_join_111 ?_
            refine lv_iload_n (pc := 114) hx hb d_R_join_114 rfl (lv_at hl 1 rfl) ?_
            refine lv_lload_n (pc := 115) hx hb d_R_join_115 rfl (lv_at hl 2 rfl) ?_
            refine lv_l2i (pc := 116) hx hb d_R_join_116 rfl ?_
            obtain ⟨hi8, hE⟩ := xs_n hE
            refine xs_iast (pc := 117) hx hb G ia_156 (xs_inP hi8) d_R_join_117 (fun H locs G => ?_)
            obtain ⟨μ9, hμ9, hE⟩ := xs_b hE
            have G := xs_mv G hμ9
            clear hμ9
            refine lv_iinc (pc := 118) (v := (v1 + 1)) (k := 1) hx hb d_R_join_118 hl rfl (xs_inc _) (by decide) (lv' := [(1, .int ((v1 + 1))), (0, .ref (ad 154)), (2, .long (z5.1)), (4, .int (z5.2))]) rfl (fun ls hl => ?_)
            refine lv_goto (pc := 121) (tgt := 18) hx hb d_R_join_121 (by decide) ?_
            exact ih _ _ _ _ _ _ hE G (lv_sub hl [1, 0] rfl) kk
          · have hE := xs_f hE hc
            refine lv_aload_n (pc := 99) hx hb d_R_join_99 rfl (lv_at hl 0 rfl) ?_
            refine gf_R_59 (pc := 100) X G d_R_join_100 ?_
            refine lv_goto (pc := 103) (tgt := 107) hx hb d_R_join_103 (by decide) ?_
            refine pf_R_59 (pc := 107) X G d_R_join_107 (fun H locs G => ?_)
            obtain ⟨μ10, hμ10, hE⟩ := xs_b hE
            have G := xs_mv G hμ10
            clear hμ10
            refine lv_aload_n (pc := 110) hx hb d_R_join_110 rfl (lv_at hl 0 rfl) ?_
            refine gf_R_13 (pc := 111) X G d_R_join_111 ?_
            refine lv_iload_n (pc := 114) hx hb d_R_join_114 rfl (lv_at hl 1 rfl) ?_
            refine lv_lload_n (pc := 115) hx hb d_R_join_115 rfl (lv_at hl 2 rfl) ?_
            refine lv_l2i (pc := 116) hx hb d_R_join_116 rfl ?_
            obtain ⟨hi11, hE⟩ := xs_n hE
            refine xs_iast (pc := 117) hx hb G ia_156 (xs_inP hi11) d_R_join_117 (fun H locs G => ?_)
            obtain ⟨μ12, hμ12, hE⟩ := xs_b hE
            have G := xs_mv G hμ12
            clear hμ12
            refine lv_iinc (pc := 118) (v := (v1 + 1)) (k := 1) hx hb d_R_join_118 hl rfl (xs_inc _) (by decide) (lv' := [(1, .int ((v1 + 1))), (0, .ref (ad 154)), (2, .long (z5.1)), (4, .int (z5.2))]) rfl (fun ls hl => ?_)
            refine lv_goto (pc := 121) (tgt := 18) hx hb d_R_join_121 (by decide) ?_
            exact ih _ _ _ _ _ _ hE G (lv_sub hl [1, 0] rfl) kk
  have L143 : ∀ (fu : Nat) (μ : xs_M) (v1 : Int32) (H : Heap) (locs : List Loc) (ls : Array Slot) (z : (Int32 × xs_M)), fn_R_join_L143 fu μ v1 = some z → xs_G D ad cs s (xs_A ad s.heap.size) s.heap μ H locs → lv_has ls 5 [(0, .ref (ad 154)), (1, .int (v1))] → (∀ (H : Heap) (locs : List Loc) (ls : Array Slot), xs_G D ad cs s (xs_A ad s.heap.size) s.heap z.2 H locs → lv_has ls 5 [(0, .ref (ad 154)), (1, .int (z.1))] → W p l e (xs_rm 1 21) s m ([.ref (ad 154)] : List Value).toArray below meth c H locs 0 0 (xs_E below D ad cs [.ref (ad 154)] s none rz) (F0 m 167 ls [])) → W p l e (xs_rm 1 21) s m ([.ref (ad 154)] : List Value).toArray below meth c H locs 0 0 (xs_E below D ad cs [.ref (ad 154)] s none rz) (F0 m 143 ls []) := by
    clear hE hl G
    intro fu
    induction fu with
    | zero =>
      intro μ v1 H locs ls z hE
      rw [fn_R_join_L143] at hE
      cases hE
    | succ fu ih =>
      intro μ v1 H locs ls z hE G hl kk
      rw [fn_R_join_L143] at hE
      refine lv_iload_n (pc := 143) hx hb d_R_join_143 rfl (lv_at hl 1 rfl) ?_
      refine lv_bipush (pc := 144) (v := (16 : Int32)) hx hb d_R_join_144 (by decide) ?_
      refine lv_icmp_ge (pc := 146) (tgt := 167) hx hb d_R_join_146 (by decide) (fun hc => ?_) (fun hc => ?_)
      · have hE := xs_t hE hc
        cases hE
        exact kk _ _ _ G (lv_sub hl [0, 1] rfl)
      · have hE := xs_f hE hc
        refine lv_aload_n (pc := 149) hx hb d_R_join_149 rfl (lv_at hl 0 rfl) ?_
        refine gf_R_7 (pc := 150) X G d_R_join_150 ?_
        refine lv_iload_n (pc := 153) hx hb d_R_join_153 rfl (lv_at hl 1 rfl) ?_
        refine lv_aload_n (pc := 154) hx hb d_R_join_154 rfl (lv_at hl 0 rfl) ?_
        refine gf_R_13 (pc := 155) X G d_R_join_155 ?_
        refine lv_iload_n (pc := 158) hx hb d_R_join_158 rfl (lv_at hl 1 rfl) ?_
        obtain ⟨hi15, hE⟩ := xs_n hE
        refine xs_iald (pc := 159) hx hb G ia_156 (xs_inP hi15) d_R_join_159 ?_
        obtain ⟨hi16, hE⟩ := xs_n hE
        refine xs_iast (pc := 160) hx hb G ia_155 (xs_inP hi16) d_R_join_160 (fun H locs G => ?_)
        obtain ⟨μ17, hμ17, hE⟩ := xs_b hE
        have G := xs_mv G hμ17
        clear hμ17
        refine lv_iinc (pc := 161) (v := (v1 + 1)) (k := 1) hx hb d_R_join_161 hl rfl (xs_inc _) (by decide) (lv' := [(1, .int ((v1 + 1))), (0, .ref (ad 154))]) rfl (fun ls hl => ?_)
        refine lv_goto (pc := 164) (tgt := 143) hx hb d_R_join_164 (by decide) ?_
        exact ih _ _ _ _ _ _ hE G (lv_sub hl [1, 0] rfl) kk
  unfold fn_R_join at hE
  refine lv_aload_n (pc := 0) hx hb d_R_join_0 rfl (lv_at hl 0 rfl) ?_
  refine lv_aload_n (pc := 1) hx hb d_R_join_1 rfl (lv_at hl 0 rfl) ?_
  refine gf_R_71 (pc := 2) X G d_R_join_2 ?_
  refine lv_if_ne (pc := 5) (tgt := 12) hx hb d_R_join_5 (by decide) (fun hc => ?_) (fun hc => ?_)
  · have hE := xs_f hE hc
    refine lv_iconst (pc := 12) (v := (0 : Int32)) hx hb d_R_join_12 (by decide) ?_
    refine pf_R_59 (pc := 13) X G d_R_join_13 (fun H locs G => ?_)
    obtain ⟨μ1, hμ1, hE⟩ := xs_b hE
    have G := xs_mv G hμ1
    have hfμ1 := xs_fi hμ1
    clear hμ1
    refine lv_iconst (pc := 16) (v := (0 : Int32)) hx hb d_R_join_16 (by decide) ?_
    refine lv_istore_n (pc := 17) hx hb d_R_join_17 rfl hl (by decide) (lv' := [(1, .int ((0 : Int32))), (0, .ref (ad 154))]) rfl (fun ls hl => ?_)
    obtain ⟨z13, hz13, hE⟩ := xs_b hE
    refine L18 _ _ _ _ _ _ _ hz13 G (lv_sub hl [1, 0] rfl) (fun H locs ls G hl => ?_)
    refine lv_aload_n (pc := 124) hx hb d_R_join_124 rfl (lv_at hl 0 rfl) ?_
    refine gf_R_59 (pc := 125) X G d_R_join_125 ?_
    refine lv_if_ne (pc := 128) (tgt := 167) hx hb d_R_join_128 (by decide) (fun hc => ?_) (fun hc => ?_)
    · have hE := xs_f hE hc
      cases hE
      exact xs_vret (pc := 167) hx hb hr hlk G d_R_join_167
    · have hE := xs_t hE hc
      refine lv_aload_n (pc := 131) hx hb d_R_join_131 rfl (lv_at hl 0 rfl) ?_
      refine lv_dup (pc := 132) hx hb d_R_join_132 rfl ?_
      refine gf_R_71 (pc := 133) X G d_R_join_133 ?_
      refine lv_iconst (pc := 136) (v := (1 : Int32)) hx hb d_R_join_136 (by decide) ?_
      refine lv_isub (pc := 137) hx hb d_R_join_137 ?_
      refine pf_R_71 (pc := 138) X G d_R_join_138 (fun H locs G => ?_)
      obtain ⟨μ14, hμ14, hE⟩ := xs_b hE
      have G := xs_mv G hμ14
      clear hμ14
      refine lv_iconst (pc := 141) (v := (0 : Int32)) hx hb d_R_join_141 (by decide) ?_
      refine lv_istore_n (pc := 142) hx hb d_R_join_142 rfl hl (by decide) (lv' := [(1, .int ((0 : Int32))), (0, .ref (ad 154))]) rfl (fun ls hl => ?_)
      obtain ⟨z18, hz18, hE⟩ := xs_b hE
      refine L143 _ _ _ _ _ _ _ hz18 G (lv_sub hl [1, 0] rfl) (fun H locs ls G hl => ?_)
      cases hE
      exact xs_vret (pc := 167) hx hb hr hlk G d_R_join_167
  · have hE := xs_t hE hc
    refine lv_iconst (pc := 8) (v := (1 : Int32)) hx hb d_R_join_8 (by decide) ?_
    refine lv_goto (pc := 9) (tgt := 13) hx hb d_R_join_9 (by decide) ?_
    refine pf_R_59 (pc := 13) X G d_R_join_13 (fun H locs G => ?_)
    obtain ⟨μ19, hμ19, hE⟩ := xs_b hE
    have G := xs_mv G hμ19
    have hfμ19 := xs_fi hμ19
    clear hμ19
    refine lv_iconst (pc := 16) (v := (0 : Int32)) hx hb d_R_join_16 (by decide) ?_
    refine lv_istore_n (pc := 17) hx hb d_R_join_17 rfl hl (by decide) (lv' := [(1, .int ((0 : Int32))), (0, .ref (ad 154))]) rfl (fun ls hl => ?_)
    obtain ⟨z20, hz20, hE⟩ := xs_b hE
    refine L18 _ _ _ _ _ _ _ hz20 G (lv_sub hl [1, 0] rfl) (fun H locs ls G hl => ?_)
    refine lv_aload_n (pc := 124) hx hb d_R_join_124 rfl (lv_at hl 0 rfl) ?_
    refine gf_R_59 (pc := 125) X G d_R_join_125 ?_
    refine lv_if_ne (pc := 128) (tgt := 167) hx hb d_R_join_128 (by decide) (fun hc => ?_) (fun hc => ?_)
    · have hE := xs_f hE hc
      cases hE
      exact xs_vret (pc := 167) hx hb hr hlk G d_R_join_167
    · have hE := xs_t hE hc
      refine lv_aload_n (pc := 131) hx hb d_R_join_131 rfl (lv_at hl 0 rfl) ?_
      refine lv_dup (pc := 132) hx hb d_R_join_132 rfl ?_
      refine gf_R_71 (pc := 133) X G d_R_join_133 ?_
      refine lv_iconst (pc := 136) (v := (1 : Int32)) hx hb d_R_join_136 (by decide) ?_
      refine lv_isub (pc := 137) hx hb d_R_join_137 ?_
      refine pf_R_71 (pc := 138) X G d_R_join_138 (fun H locs G => ?_)
      obtain ⟨μ21, hμ21, hE⟩ := xs_b hE
      have G := xs_mv G hμ21
      clear hμ21
      refine lv_iconst (pc := 141) (v := (0 : Int32)) hx hb d_R_join_141 (by decide) ?_
      refine lv_istore_n (pc := 142) hx hb d_R_join_142 rfl hl (by decide) (lv' := [(1, .int ((0 : Int32))), (0, .ref (ad 154))]) rfl (fun ls hl => ?_)
      obtain ⟨z22, hz22, hE⟩ := xs_b hE
      refine L143 _ _ _ _ _ _ _ hz22 G (lv_sub hl [1, 0] rfl) (fun H locs ls G hl => ?_)
      cases hE
      exact xs_vret (pc := 167) hx hb hr hlk G d_R_join_167
def fn_R_push_L26 : Nat → xs_M → Int32 →  Option (Int32 × xs_M)
  | 0, _, _ => none
  | fu + 1, μ, v1 => (if (16 : Int32) ≤ v1 then some ((v1, μ)) else (if xs_in v1 16 = true then (if xs_in (((16 : Int32) * (μ.1 154 4)) + v1) 64 = true then ((some (xs_si μ 157 (((16 : Int32) * (μ.1 154 4)) + v1).toNatClampNeg (μ.1 155 v1.toNatClampNeg))).bind fun μ4 => fn_R_push_L26 fu μ4 (v1 + 1)) else none) else none))
def fn_R_push (μ0 : xs_M)  : Option xs_M :=
  (if (μ0.1 154 4) = (4 : Int32) then ((some (xs_si μ0 154 0 (1 : Int32))).bind fun μ7 => some (μ7)) else ((some (xs_si μ0 154 0 (0 : Int32))).bind fun μ1 => ((fn_R_push_L26 xs_FU μ1 (0 : Int32)).bind fun z5 => ((some (xs_si z5.2 154 4 ((z5.2.1 154 4) + (1 : Int32)))).bind fun μ6 => some (μ6)))))
set_option maxHeartbeats 4000000 in
set_option maxRecDepth 100000 in
theorem ok_R_push (l : Launch) (D : va_G) (ad : Nat → Nat) (cs : xs_cs) (hJ : xs_J ad) {μ0 : xs_M}   {rz : xs_M} (hE : fn_R_push μ0 = some rz) : xs_I l D ad cs y_R_push b_R_push 2 none 0 0 [.ref (ad 154)] μ0 none rz := by
  refine xs_entry hJ (by decide) (Nat.le_of_ble_eq_true rfl) ?_
  intro p e s m below meth c ls X hr hlk G hl
  have X : xs_C p s m c b_R_push 2 _ "ExactSceneModel" := X
  have hx := X.1
  have hb := X.2.1
  have hl : lv_has ls 2 [(0, .ref (ad 154))] := hl
  have L26 : ∀ (fu : Nat) (μ : xs_M) (v1 : Int32) (H : Heap) (locs : List Loc) (ls : Array Slot) (z : (Int32 × xs_M)), fn_R_push_L26 fu μ v1 = some z → xs_G D ad cs s (xs_A ad s.heap.size) s.heap μ H locs → lv_has ls 2 [(0, .ref (ad 154)), (1, .int (v1))] → (∀ (H : Heap) (locs : List Loc) (ls : Array Slot), xs_G D ad cs s (xs_A ad s.heap.size) s.heap z.2 H locs → lv_has ls 2 [(0, .ref (ad 154)), (1, .int (z.1))] → W p l e (xs_rm 0 0) s m ([.ref (ad 154)] : List Value).toArray below meth c H locs 0 0 (xs_E below D ad cs [.ref (ad 154)] s none rz) (F0 m 58 ls [])) → W p l e (xs_rm 0 0) s m ([.ref (ad 154)] : List Value).toArray below meth c H locs 0 0 (xs_E below D ad cs [.ref (ad 154)] s none rz) (F0 m 26 ls []) := by
    clear hE hl G
    intro fu
    induction fu with
    | zero =>
      intro μ v1 H locs ls z hE
      rw [fn_R_push_L26] at hE
      cases hE
    | succ fu ih =>
      intro μ v1 H locs ls z hE G hl kk
      rw [fn_R_push_L26] at hE
      refine lv_iload_n (pc := 26) hx hb d_R_push_26 rfl (lv_at hl 1 rfl) ?_
      refine lv_bipush (pc := 27) (v := (16 : Int32)) hx hb d_R_push_27 (by decide) ?_
      refine lv_icmp_ge (pc := 29) (tgt := 58) hx hb d_R_push_29 (by decide) (fun hc => ?_) (fun hc => ?_)
      · have hE := xs_t hE hc
        cases hE
        exact kk _ _ _ G (lv_sub hl [0, 1] rfl)
      · have hE := xs_f hE hc
        refine lv_aload_n (pc := 32) hx hb d_R_push_32 rfl (lv_at hl 0 rfl) ?_
        refine gf_R_16 (pc := 33) X G d_R_push_33 ?_
        refine lv_bipush (pc := 36) (v := (16 : Int32)) hx hb d_R_push_36 (by decide) ?_
        refine lv_aload_n (pc := 38) hx hb d_R_push_38 rfl (lv_at hl 0 rfl) ?_
        refine gf_R_71 (pc := 39) X G d_R_push_39 ?_
        refine lv_imul (pc := 42) hx hb d_R_push_42 ?_
        refine lv_iload_n (pc := 43) hx hb d_R_push_43 rfl (lv_at hl 1 rfl) ?_
        refine lv_iadd (pc := 44) hx hb d_R_push_44 ?_
        refine lv_aload_n (pc := 45) hx hb d_R_push_45 rfl (lv_at hl 0 rfl) ?_
        refine gf_R_7 (pc := 46) X G d_R_push_46 ?_
        refine lv_iload_n (pc := 49) hx hb d_R_push_49 rfl (lv_at hl 1 rfl) ?_
        obtain ⟨hi2, hE⟩ := xs_n hE
        refine xs_iald (pc := 50) hx hb G ia_155 (xs_inP hi2) d_R_push_50 ?_
        obtain ⟨hi3, hE⟩ := xs_n hE
        refine xs_iast (pc := 51) hx hb G ia_157 (xs_inP hi3) d_R_push_51 (fun H locs G => ?_)
        obtain ⟨μ4, hμ4, hE⟩ := xs_b hE
        have G := xs_mv G hμ4
        clear hμ4
        refine lv_iinc (pc := 52) (v := (v1 + 1)) (k := 1) hx hb d_R_push_52 hl rfl (xs_inc _) (by decide) (lv' := [(1, .int ((v1 + 1))), (0, .ref (ad 154))]) rfl (fun ls hl => ?_)
        refine lv_goto (pc := 55) (tgt := 26) hx hb d_R_push_55 (by decide) ?_
        exact ih _ _ _ _ _ _ hE G (lv_sub hl [1, 0] rfl) kk
  unfold fn_R_push at hE
  refine lv_aload_n (pc := 0) hx hb d_R_push_0 rfl (lv_at hl 0 rfl) ?_
  refine lv_aload_n (pc := 1) hx hb d_R_push_1 rfl (lv_at hl 0 rfl) ?_
  refine gf_R_71 (pc := 2) X G d_R_push_2 ?_
  refine lv_iconst (pc := 5) (v := (4 : Int32)) hx hb d_R_push_5 (by decide) ?_
  refine lv_icmp_ne (pc := 6) (tgt := 13) hx hb d_R_push_6 (by decide) (fun hc => ?_) (fun hc => ?_)
  · have hE := xs_f hE hc
    refine lv_iconst (pc := 13) (v := (0 : Int32)) hx hb d_R_push_13 (by decide) ?_
    refine pf_R_59 (pc := 14) X G d_R_push_14 (fun H locs G => ?_)
    obtain ⟨μ1, hμ1, hE⟩ := xs_b hE
    have G := xs_mv G hμ1
    have hfμ1 := xs_fi hμ1
    clear hμ1
    refine lv_aload_n (pc := 17) hx hb d_R_push_17 rfl (lv_at hl 0 rfl) ?_
    refine gf_R_59 (pc := 18) X G d_R_push_18 ?_
    refine xs_tq hfμ1 ?_
    refine lv_if_ne (pc := 21) (tgt := 68) hx hb d_R_push_21 (by decide) (fun hc => ?_) (fun hc => ?_)
    · exact absurd hc (by decide)
    · refine lv_iconst (pc := 24) (v := (0 : Int32)) hx hb d_R_push_24 (by decide) ?_
      refine lv_istore_n (pc := 25) hx hb d_R_push_25 rfl hl (by decide) (lv' := [(1, .int ((0 : Int32))), (0, .ref (ad 154))]) rfl (fun ls hl => ?_)
      obtain ⟨z5, hz5, hE⟩ := xs_b hE
      refine L26 _ _ _ _ _ _ _ hz5 G (lv_sub hl [1, 0] rfl) (fun H locs ls G hl => ?_)
      refine lv_aload_n (pc := 58) hx hb d_R_push_58 rfl (lv_at hl 0 rfl) ?_
      refine lv_dup (pc := 59) hx hb d_R_push_59 rfl ?_
      refine gf_R_71 (pc := 60) X G d_R_push_60 ?_
      refine lv_iconst (pc := 63) (v := (1 : Int32)) hx hb d_R_push_63 (by decide) ?_
      refine lv_iadd (pc := 64) hx hb d_R_push_64 ?_
      refine pf_R_71 (pc := 65) X G d_R_push_65 (fun H locs G => ?_)
      obtain ⟨μ6, hμ6, hE⟩ := xs_b hE
      have G := xs_mv G hμ6
      clear hμ6
      cases hE
      exact xs_vret (pc := 68) hx hb hr hlk G d_R_push_68
  · have hE := xs_t hE hc
    refine lv_iconst (pc := 9) (v := (1 : Int32)) hx hb d_R_push_9 (by decide) ?_
    refine lv_goto (pc := 10) (tgt := 14) hx hb d_R_push_10 (by decide) ?_
    refine pf_R_59 (pc := 14) X G d_R_push_14 (fun H locs G => ?_)
    obtain ⟨μ7, hμ7, hE⟩ := xs_b hE
    have G := xs_mv G hμ7
    have hfμ7 := xs_fi hμ7
    clear hμ7
    refine lv_aload_n (pc := 17) hx hb d_R_push_17 rfl (lv_at hl 0 rfl) ?_
    refine gf_R_59 (pc := 18) X G d_R_push_18 ?_
    refine xs_tq hfμ7 ?_
    refine lv_if_ne (pc := 21) (tgt := 68) hx hb d_R_push_21 (by decide) (fun hc => ?_) (fun hc => ?_)
    · cases hE
      exact xs_vret (pc := 68) hx hb hr hlk G d_R_push_68
    · exact absurd hc (by decide)
def fn_R_pop_L35 : Nat → xs_M → Int32 →  Option (Int32 × xs_M)
  | 0, _, _ => none
  | fu + 1, μ, v1 => (if (16 : Int32) ≤ v1 then some ((v1, μ)) else (if xs_in (((16 : Int32) * (μ.1 154 4)) + v1) 64 = true then (if xs_in v1 16 = true then ((some (xs_si μ 155 v1.toNatClampNeg (μ.1 157 (((16 : Int32) * (μ.1 154 4)) + v1).toNatClampNeg))).bind fun μ5 => fn_R_pop_L35 fu μ5 (v1 + 1)) else none) else none))
def fn_R_pop (μ0 : xs_M)  : Option xs_M :=
  (if (μ0.1 154 4) = 0 then ((some (xs_si μ0 154 0 (1 : Int32))).bind fun μ7 => some (μ7)) else ((some (xs_si μ0 154 0 (0 : Int32))).bind fun μ1 => ((some (xs_si μ1 154 4 ((μ1.1 154 4) - (1 : Int32)))).bind fun μ2 => ((fn_R_pop_L35 xs_FU μ2 (0 : Int32)).bind fun z6 => some (z6.2)))))
set_option maxHeartbeats 4000000 in
set_option maxRecDepth 100000 in
theorem ok_R_pop (l : Launch) (D : va_G) (ad : Nat → Nat) (cs : xs_cs) (hJ : xs_J ad) {μ0 : xs_M}   {rz : xs_M} (hE : fn_R_pop μ0 = some rz) : xs_I l D ad cs y_R_pop b_R_pop 2 none 0 0 [.ref (ad 154)] μ0 none rz := by
  refine xs_entry hJ (by decide) (Nat.le_of_ble_eq_true rfl) ?_
  intro p e s m below meth c ls X hr hlk G hl
  have X : xs_C p s m c b_R_pop 2 _ "ExactSceneModel" := X
  have hx := X.1
  have hb := X.2.1
  have hl : lv_has ls 2 [(0, .ref (ad 154))] := hl
  have L35 : ∀ (fu : Nat) (μ : xs_M) (v1 : Int32) (H : Heap) (locs : List Loc) (ls : Array Slot) (z : (Int32 × xs_M)), fn_R_pop_L35 fu μ v1 = some z → xs_G D ad cs s (xs_A ad s.heap.size) s.heap μ H locs → lv_has ls 2 [(0, .ref (ad 154)), (1, .int (v1))] → (∀ (H : Heap) (locs : List Loc) (ls : Array Slot), xs_G D ad cs s (xs_A ad s.heap.size) s.heap z.2 H locs → lv_has ls 2 [(0, .ref (ad 154)), (1, .int (z.1))] → W p l e (xs_rm 0 0) s m ([.ref (ad 154)] : List Value).toArray below meth c H locs 0 0 (xs_E below D ad cs [.ref (ad 154)] s none rz) (F0 m 67 ls [])) → W p l e (xs_rm 0 0) s m ([.ref (ad 154)] : List Value).toArray below meth c H locs 0 0 (xs_E below D ad cs [.ref (ad 154)] s none rz) (F0 m 35 ls []) := by
    clear hE hl G
    intro fu
    induction fu with
    | zero =>
      intro μ v1 H locs ls z hE
      rw [fn_R_pop_L35] at hE
      cases hE
    | succ fu ih =>
      intro μ v1 H locs ls z hE G hl kk
      rw [fn_R_pop_L35] at hE
      refine lv_iload_n (pc := 35) hx hb d_R_pop_35 rfl (lv_at hl 1 rfl) ?_
      refine lv_bipush (pc := 36) (v := (16 : Int32)) hx hb d_R_pop_36 (by decide) ?_
      refine lv_icmp_ge (pc := 38) (tgt := 67) hx hb d_R_pop_38 (by decide) (fun hc => ?_) (fun hc => ?_)
      · have hE := xs_t hE hc
        cases hE
        exact kk _ _ _ G (lv_sub hl [0, 1] rfl)
      · have hE := xs_f hE hc
        refine lv_aload_n (pc := 41) hx hb d_R_pop_41 rfl (lv_at hl 0 rfl) ?_
        refine gf_R_7 (pc := 42) X G d_R_pop_42 ?_
        refine lv_iload_n (pc := 45) hx hb d_R_pop_45 rfl (lv_at hl 1 rfl) ?_
        refine lv_aload_n (pc := 46) hx hb d_R_pop_46 rfl (lv_at hl 0 rfl) ?_
        refine gf_R_16 (pc := 47) X G d_R_pop_47 ?_
        refine lv_bipush (pc := 50) (v := (16 : Int32)) hx hb d_R_pop_50 (by decide) ?_
        refine lv_aload_n (pc := 52) hx hb d_R_pop_52 rfl (lv_at hl 0 rfl) ?_
        refine gf_R_71 (pc := 53) X G d_R_pop_53 ?_
        refine lv_imul (pc := 56) hx hb d_R_pop_56 ?_
        refine lv_iload_n (pc := 57) hx hb d_R_pop_57 rfl (lv_at hl 1 rfl) ?_
        refine lv_iadd (pc := 58) hx hb d_R_pop_58 ?_
        obtain ⟨hi3, hE⟩ := xs_n hE
        refine xs_iald (pc := 59) hx hb G ia_157 (xs_inP hi3) d_R_pop_59 ?_
        obtain ⟨hi4, hE⟩ := xs_n hE
        refine xs_iast (pc := 60) hx hb G ia_155 (xs_inP hi4) d_R_pop_60 (fun H locs G => ?_)
        obtain ⟨μ5, hμ5, hE⟩ := xs_b hE
        have G := xs_mv G hμ5
        clear hμ5
        refine lv_iinc (pc := 61) (v := (v1 + 1)) (k := 1) hx hb d_R_pop_61 hl rfl (xs_inc _) (by decide) (lv' := [(1, .int ((v1 + 1))), (0, .ref (ad 154))]) rfl (fun ls hl => ?_)
        refine lv_goto (pc := 64) (tgt := 35) hx hb d_R_pop_64 (by decide) ?_
        exact ih _ _ _ _ _ _ hE G (lv_sub hl [1, 0] rfl) kk
  unfold fn_R_pop at hE
  refine lv_aload_n (pc := 0) hx hb d_R_pop_0 rfl (lv_at hl 0 rfl) ?_
  refine lv_aload_n (pc := 1) hx hb d_R_pop_1 rfl (lv_at hl 0 rfl) ?_
  refine gf_R_71 (pc := 2) X G d_R_pop_2 ?_
  refine lv_if_ne (pc := 5) (tgt := 12) hx hb d_R_pop_5 (by decide) (fun hc => ?_) (fun hc => ?_)
  · have hE := xs_f hE hc
    refine lv_iconst (pc := 12) (v := (0 : Int32)) hx hb d_R_pop_12 (by decide) ?_
    refine pf_R_59 (pc := 13) X G d_R_pop_13 (fun H locs G => ?_)
    obtain ⟨μ1, hμ1, hE⟩ := xs_b hE
    have G := xs_mv G hμ1
    have hfμ1 := xs_fi hμ1
    clear hμ1
    refine lv_aload_n (pc := 16) hx hb d_R_pop_16 rfl (lv_at hl 0 rfl) ?_
    refine gf_R_59 (pc := 17) X G d_R_pop_17 ?_
    refine xs_tq hfμ1 ?_
    refine lv_if_ne (pc := 20) (tgt := 67) hx hb d_R_pop_20 (by decide) (fun hc => ?_) (fun hc => ?_)
    · exact absurd hc (by decide)
    · refine lv_aload_n (pc := 23) hx hb d_R_pop_23 rfl (lv_at hl 0 rfl) ?_
      refine lv_dup (pc := 24) hx hb d_R_pop_24 rfl ?_
      refine gf_R_71 (pc := 25) X G d_R_pop_25 ?_
      refine lv_iconst (pc := 28) (v := (1 : Int32)) hx hb d_R_pop_28 (by decide) ?_
      refine lv_isub (pc := 29) hx hb d_R_pop_29 ?_
      refine pf_R_71 (pc := 30) X G d_R_pop_30 (fun H locs G => ?_)
      obtain ⟨μ2, hμ2, hE⟩ := xs_b hE
      have G := xs_mv G hμ2
      clear hμ2
      refine lv_iconst (pc := 33) (v := (0 : Int32)) hx hb d_R_pop_33 (by decide) ?_
      refine lv_istore_n (pc := 34) hx hb d_R_pop_34 rfl hl (by decide) (lv' := [(1, .int ((0 : Int32))), (0, .ref (ad 154))]) rfl (fun ls hl => ?_)
      obtain ⟨z6, hz6, hE⟩ := xs_b hE
      refine L35 _ _ _ _ _ _ _ hz6 G (lv_sub hl [1, 0] rfl) (fun H locs ls G hl => ?_)
      cases hE
      exact xs_vret (pc := 67) hx hb hr hlk G d_R_pop_67
  · have hE := xs_t hE hc
    refine lv_iconst (pc := 8) (v := (1 : Int32)) hx hb d_R_pop_8 (by decide) ?_
    refine lv_goto (pc := 9) (tgt := 13) hx hb d_R_pop_9 (by decide) ?_
    refine pf_R_59 (pc := 13) X G d_R_pop_13 (fun H locs G => ?_)
    obtain ⟨μ7, hμ7, hE⟩ := xs_b hE
    have G := xs_mv G hμ7
    have hfμ7 := xs_fi hμ7
    clear hμ7
    refine lv_aload_n (pc := 16) hx hb d_R_pop_16 rfl (lv_at hl 0 rfl) ?_
    refine gf_R_59 (pc := 17) X G d_R_pop_17 ?_
    refine xs_tq hfμ7 ?_
    refine lv_if_ne (pc := 20) (tgt := 67) hx hb d_R_pop_20 (by decide) (fun hc => ?_) (fun hc => ?_)
    · cases hE
      exact xs_vret (pc := 67) hx hb hr hlk G d_R_pop_67
    · exact absurd hc (by decide)
def fn_R_entry (μ0 : xs_M) (x0 : Int32) (x1 : Int32) : Option (Int32 × xs_M) :=
  (if x0 < 0 then ((some (xs_si μ0 154 0 (1 : Int32))).bind fun μ1 => some (((0 : Int32), μ1))) else (if (3 : Int32) < x0 then ((some (xs_si μ0 154 0 (1 : Int32))).bind fun μ2 => some (((0 : Int32), μ2))) else (if x1 < 0 then ((some (xs_si μ0 154 0 (1 : Int32))).bind fun μ3 => some (((0 : Int32), μ3))) else (if x1 ≤ (3 : Int32) then ((some (xs_si μ0 154 0 (0 : Int32))).bind fun μ4 => (if xs_in (((4 : Int32) * x0) + x1) 16 = true then some (((μ4.1 155 (((4 : Int32) * x0) + x1).toNatClampNeg), μ4)) else none)) else ((some (xs_si μ0 154 0 (1 : Int32))).bind fun μ6 => some (((0 : Int32), μ6)))))))
set_option maxHeartbeats 4000000 in
set_option maxRecDepth 100000 in
theorem ok_R_entry (l : Launch) (D : va_G) (ad : Nat → Nat) (cs : xs_cs) (hJ : xs_J ad) {μ0 : xs_M} {x0 : Int32} {x1 : Int32}  {rz : (Int32 × xs_M)} (hE : fn_R_entry μ0 x0 x1 = some rz) : xs_I l D ad cs y_R_entry b_R_entry 3 (some .int) 0 0 [.ref (ad 154), .int (x0), .int (x1)] μ0 (some (.int rz.1)) rz.2 := by
  refine xs_entry hJ (by decide) (Nat.le_of_ble_eq_true rfl) ?_
  intro p e s m below meth c ls X hr hlk G hl
  have X : xs_C p s m c b_R_entry 3 _ "ExactSceneModel" := X
  have hx := X.1
  have hb := X.2.1
  have hl : lv_has ls 3 [(0, .ref (ad 154)), (1, .int (x0)), (2, .int (x1))] := hl
  unfold fn_R_entry at hE
  refine lv_aload_n (pc := 0) hx hb d_R_entry_0 rfl (lv_at hl 0 rfl) ?_
  refine lv_iload_n (pc := 1) hx hb d_R_entry_1 rfl (lv_at hl 1 rfl) ?_
  refine lv_if_lt (pc := 2) (tgt := 19) hx hb d_R_entry_2 (by decide) (fun hc => ?_) (fun hc => ?_)
  · have hE := xs_t hE hc
    refine lv_iconst (pc := 19) (v := (1 : Int32)) hx hb d_R_entry_19 (by decide) ?_
    refine lv_goto (pc := 20) (tgt := 24) hx hb d_R_entry_20 (by decide) ?_
    refine pf_R_59 (pc := 24) X G d_R_entry_24 (fun H locs G => ?_)
    obtain ⟨μ1, hμ1, hE⟩ := xs_b hE
    have G := xs_mv G hμ1
    have hfμ1 := xs_fi hμ1
    clear hμ1
    refine lv_aload_n (pc := 27) hx hb d_R_entry_27 rfl (lv_at hl 0 rfl) ?_
    refine gf_R_59 (pc := 28) X G d_R_entry_28 ?_
    refine xs_tq hfμ1 ?_
    refine lv_if_le (pc := 31) (tgt := 38) hx hb d_R_entry_31 (by decide) (fun hc => ?_) (fun hc => ?_)
    · exact absurd hc (by decide)
    · refine lv_iconst (pc := 34) (v := (0 : Int32)) hx hb d_R_entry_34 (by decide) ?_
      refine lv_goto (pc := 35) (tgt := 48) hx hb d_R_entry_35 (by decide) ?_
      cases hE
      exact xs_iret (pc := 48) hx hb hr hlk G d_R_entry_48
  · have hE := xs_f hE hc
    refine lv_iload_n (pc := 5) hx hb d_R_entry_5 rfl (lv_at hl 1 rfl) ?_
    refine lv_iconst (pc := 6) (v := (3 : Int32)) hx hb d_R_entry_6 (by decide) ?_
    refine lv_icmp_gt (pc := 7) (tgt := 19) hx hb d_R_entry_7 (by decide) (fun hc => ?_) (fun hc => ?_)
    · have hE := xs_t hE hc
      refine lv_iconst (pc := 19) (v := (1 : Int32)) hx hb d_R_entry_19 (by decide) ?_
      refine lv_goto (pc := 20) (tgt := 24) hx hb d_R_entry_20 (by decide) ?_
      refine pf_R_59 (pc := 24) X G d_R_entry_24 (fun H locs G => ?_)
      obtain ⟨μ2, hμ2, hE⟩ := xs_b hE
      have G := xs_mv G hμ2
      have hfμ2 := xs_fi hμ2
      clear hμ2
      refine lv_aload_n (pc := 27) hx hb d_R_entry_27 rfl (lv_at hl 0 rfl) ?_
      refine gf_R_59 (pc := 28) X G d_R_entry_28 ?_
      refine xs_tq hfμ2 ?_
      refine lv_if_le (pc := 31) (tgt := 38) hx hb d_R_entry_31 (by decide) (fun hc => ?_) (fun hc => ?_)
      · exact absurd hc (by decide)
      · refine lv_iconst (pc := 34) (v := (0 : Int32)) hx hb d_R_entry_34 (by decide) ?_
        refine lv_goto (pc := 35) (tgt := 48) hx hb d_R_entry_35 (by decide) ?_
        cases hE
        exact xs_iret (pc := 48) hx hb hr hlk G d_R_entry_48
    · have hE := xs_f hE hc
      refine lv_iload_n (pc := 10) hx hb d_R_entry_10 rfl (lv_at hl 2 rfl) ?_
      refine lv_if_lt (pc := 11) (tgt := 19) hx hb d_R_entry_11 (by decide) (fun hc => ?_) (fun hc => ?_)
      · have hE := xs_t hE hc
        refine lv_iconst (pc := 19) (v := (1 : Int32)) hx hb d_R_entry_19 (by decide) ?_
        refine lv_goto (pc := 20) (tgt := 24) hx hb d_R_entry_20 (by decide) ?_
        refine pf_R_59 (pc := 24) X G d_R_entry_24 (fun H locs G => ?_)
        obtain ⟨μ3, hμ3, hE⟩ := xs_b hE
        have G := xs_mv G hμ3
        have hfμ3 := xs_fi hμ3
        clear hμ3
        refine lv_aload_n (pc := 27) hx hb d_R_entry_27 rfl (lv_at hl 0 rfl) ?_
        refine gf_R_59 (pc := 28) X G d_R_entry_28 ?_
        refine xs_tq hfμ3 ?_
        refine lv_if_le (pc := 31) (tgt := 38) hx hb d_R_entry_31 (by decide) (fun hc => ?_) (fun hc => ?_)
        · exact absurd hc (by decide)
        · refine lv_iconst (pc := 34) (v := (0 : Int32)) hx hb d_R_entry_34 (by decide) ?_
          refine lv_goto (pc := 35) (tgt := 48) hx hb d_R_entry_35 (by decide) ?_
          cases hE
          exact xs_iret (pc := 48) hx hb hr hlk G d_R_entry_48
      · have hE := xs_f hE hc
        refine lv_iload_n (pc := 14) hx hb d_R_entry_14 rfl (lv_at hl 2 rfl) ?_
        refine lv_iconst (pc := 15) (v := (3 : Int32)) hx hb d_R_entry_15 (by decide) ?_
        refine lv_icmp_le (pc := 16) (tgt := 23) hx hb d_R_entry_16 (by decide) (fun hc => ?_) (fun hc => ?_)
        · have hE := xs_t hE hc
          refine lv_iconst (pc := 23) (v := (0 : Int32)) hx hb d_R_entry_23 (by decide) ?_
          refine pf_R_59 (pc := 24) X G d_R_entry_24 (fun H locs G => ?_)
          obtain ⟨μ4, hμ4, hE⟩ := xs_b hE
          have G := xs_mv G hμ4
          have hfμ4 := xs_fi hμ4
          clear hμ4
          refine lv_aload_n (pc := 27) hx hb d_R_entry_27 rfl (lv_at hl 0 rfl) ?_
          refine gf_R_59 (pc := 28) X G d_R_entry_28 ?_
          refine xs_tq hfμ4 ?_
          refine lv_if_le (pc := 31) (tgt := 38) hx hb d_R_entry_31 (by decide) (fun hc => ?_) (fun hc => ?_)
          · refine lv_aload_n (pc := 38) hx hb d_R_entry_38 rfl (lv_at hl 0 rfl) ?_
            refine gf_R_7 (pc := 39) X G d_R_entry_39 ?_
            refine lv_iconst (pc := 42) (v := (4 : Int32)) hx hb d_R_entry_42 (by decide) ?_
            refine lv_iload_n (pc := 43) hx hb d_R_entry_43 rfl (lv_at hl 1 rfl) ?_
            refine lv_imul (pc := 44) hx hb d_R_entry_44 ?_
            refine lv_iload_n (pc := 45) hx hb d_R_entry_45 rfl (lv_at hl 2 rfl) ?_
            refine lv_iadd (pc := 46) hx hb d_R_entry_46 ?_
            obtain ⟨hi5, hE⟩ := xs_n hE
            refine xs_iald (pc := 47) hx hb G ia_155 (xs_inP hi5) d_R_entry_47 ?_
            cases hE
            exact xs_iret (pc := 48) hx hb hr hlk G d_R_entry_48
          · exact absurd hc (by decide)
        · have hE := xs_f hE hc
          refine lv_iconst (pc := 19) (v := (1 : Int32)) hx hb d_R_entry_19 (by decide) ?_
          refine lv_goto (pc := 20) (tgt := 24) hx hb d_R_entry_20 (by decide) ?_
          refine pf_R_59 (pc := 24) X G d_R_entry_24 (fun H locs G => ?_)
          obtain ⟨μ6, hμ6, hE⟩ := xs_b hE
          have G := xs_mv G hμ6
          have hfμ6 := xs_fi hμ6
          clear hμ6
          refine lv_aload_n (pc := 27) hx hb d_R_entry_27 rfl (lv_at hl 0 rfl) ?_
          refine gf_R_59 (pc := 28) X G d_R_entry_28 ?_
          refine xs_tq hfμ6 ?_
          refine lv_if_le (pc := 31) (tgt := 38) hx hb d_R_entry_31 (by decide) (fun hc => ?_) (fun hc => ?_)
          · exact absurd hc (by decide)
          · refine lv_iconst (pc := 34) (v := (0 : Int32)) hx hb d_R_entry_34 (by decide) ?_
            refine lv_goto (pc := 35) (tgt := 48) hx hb d_R_entry_35 (by decide) ?_
            cases hE
            exact xs_iret (pc := 48) hx hb hr hlk G d_R_entry_48
def fn_R_within (μ0 : xs_M) (x0 : Int32) (x1 : Int32) : Option Int32 :=
  (if x0 < (-x1) then some ((0 : Int32)) else (if x1 < x0 then some ((0 : Int32)) else some ((1 : Int32))))
set_option maxHeartbeats 4000000 in
set_option maxRecDepth 100000 in
theorem ok_R_within (l : Launch) (D : va_G) (ad : Nat → Nat) (cs : xs_cs) (hJ : xs_J ad) {μ0 : xs_M} {x0 : Int32} {x1 : Int32}  {rz : Int32} (hE : fn_R_within μ0 x0 x1 = some rz) : xs_I l D ad cs y_R_within b_R_within 2 (some .boolean) 0 0 [.int (x0), .int (x1)] μ0 (some (.int rz)) μ0 := by
  refine xs_entry hJ (by decide) (Nat.le_of_ble_eq_true rfl) ?_
  intro p e s m below meth c ls X hr hlk G hl
  have X : xs_C p s m c b_R_within 2 _ "ExactSceneModel" := X
  have hx := X.1
  have hb := X.2.1
  have hl : lv_has ls 2 [(0, .int (x0)), (1, .int (x1))] := hl
  unfold fn_R_within at hE
  refine lv_iload_n (pc := 0) hx hb d_R_within_0 rfl (lv_at hl 0 rfl) ?_
  refine lv_iload_n (pc := 1) hx hb d_R_within_1 rfl (lv_at hl 1 rfl) ?_
  refine lv_ineg (pc := 2) hx hb d_R_within_2 ?_
  refine lv_icmp_lt (pc := 3) (tgt := 15) hx hb d_R_within_3 (by decide) (fun hc => ?_) (fun hc => ?_)
  · have hE := xs_t hE hc
    refine lv_iconst (pc := 15) (v := (0 : Int32)) hx hb d_R_within_15 (by decide) ?_
    cases hE
    exact xs_zret (pc := 16) hx hb hr hlk G (Or.inl rfl) d_R_within_16
  · have hE := xs_f hE hc
    refine lv_iload_n (pc := 6) hx hb d_R_within_6 rfl (lv_at hl 0 rfl) ?_
    refine lv_iload_n (pc := 7) hx hb d_R_within_7 rfl (lv_at hl 1 rfl) ?_
    refine lv_icmp_gt (pc := 8) (tgt := 15) hx hb d_R_within_8 (by decide) (fun hc => ?_) (fun hc => ?_)
    · have hE := xs_t hE hc
      refine lv_iconst (pc := 15) (v := (0 : Int32)) hx hb d_R_within_15 (by decide) ?_
      cases hE
      exact xs_zret (pc := 16) hx hb hr hlk G (Or.inl rfl) d_R_within_16
    · have hE := xs_f hE hc
      refine lv_iconst (pc := 11) (v := (1 : Int32)) hx hb d_R_within_11 (by decide) ?_
      refine lv_goto (pc := 12) (tgt := 16) hx hb d_R_within_12 (by decide) ?_
      cases hE
      exact xs_zret (pc := 16) hx hb hr hlk G (Or.inr rfl) d_R_within_16
def fn_R_line (μ0 : xs_M) (x0 : Int32) (x1 : Int32) (x2 : Int32) (x3 : Int32) : Option Int32 :=
  (if xs_in ((4 : Int32) * x0) 16 = true then (if xs_in (((4 : Int32) * x0) + (1 : Int32)) 16 = true then (if xs_in (((4 : Int32) * x0) + (2 : Int32)) 16 = true then (if xs_in (((4 : Int32) * x0) + (3 : Int32)) 16 = true then some ((((((μ0.1 155 ((4 : Int32) * x0).toNatClampNeg) * x1) + ((μ0.1 155 (((4 : Int32) * x0) + (1 : Int32)).toNatClampNeg) * x2)) + ((μ0.1 155 (((4 : Int32) * x0) + (2 : Int32)).toNatClampNeg) * x3)) + (μ0.1 155 (((4 : Int32) * x0) + (3 : Int32)).toNatClampNeg))) else none) else none) else none) else none)
set_option maxHeartbeats 4000000 in
set_option maxRecDepth 100000 in
theorem ok_R_line (l : Launch) (D : va_G) (ad : Nat → Nat) (cs : xs_cs) (hJ : xs_J ad) {μ0 : xs_M} {x0 : Int32} {x1 : Int32} {x2 : Int32} {x3 : Int32}  {rz : Int32} (hE : fn_R_line μ0 x0 x1 x2 x3 = some rz) : xs_I l D ad cs y_R_line b_R_line 5 (some .int) 0 0 [.ref (ad 154), .int (x0), .int (x1), .int (x2), .int (x3)] μ0 (some (.int rz)) μ0 := by
  refine xs_entry hJ (by decide) (Nat.le_of_ble_eq_true rfl) ?_
  intro p e s m below meth c ls X hr hlk G hl
  have X : xs_C p s m c b_R_line 5 _ "ExactSceneModel" := X
  have hx := X.1
  have hb := X.2.1
  have hl : lv_has ls 5 [(0, .ref (ad 154)), (1, .int (x0)), (2, .int (x1)), (3, .int (x2)), (4, .int (x3))] := hl
  unfold fn_R_line at hE
  refine lv_aload_n (pc := 0) hx hb d_R_line_0 rfl (lv_at hl 0 rfl) ?_
  refine gf_R_7 (pc := 1) X G d_R_line_1 ?_
  refine lv_iconst (pc := 4) (v := (4 : Int32)) hx hb d_R_line_4 (by decide) ?_
  refine lv_iload_n (pc := 5) hx hb d_R_line_5 rfl (lv_at hl 1 rfl) ?_
  refine lv_imul (pc := 6) hx hb d_R_line_6 ?_
  obtain ⟨hi1, hE⟩ := xs_n hE
  refine xs_iald (pc := 7) hx hb G ia_155 (xs_inP hi1) d_R_line_7 ?_
  refine lv_iload_n (pc := 8) hx hb d_R_line_8 rfl (lv_at hl 2 rfl) ?_
  refine lv_imul (pc := 9) hx hb d_R_line_9 ?_
  refine lv_aload_n (pc := 10) hx hb d_R_line_10 rfl (lv_at hl 0 rfl) ?_
  refine gf_R_7 (pc := 11) X G d_R_line_11 ?_
  refine lv_iconst (pc := 14) (v := (4 : Int32)) hx hb d_R_line_14 (by decide) ?_
  refine lv_iload_n (pc := 15) hx hb d_R_line_15 rfl (lv_at hl 1 rfl) ?_
  refine lv_imul (pc := 16) hx hb d_R_line_16 ?_
  refine lv_iconst (pc := 17) (v := (1 : Int32)) hx hb d_R_line_17 (by decide) ?_
  refine lv_iadd (pc := 18) hx hb d_R_line_18 ?_
  obtain ⟨hi2, hE⟩ := xs_n hE
  refine xs_iald (pc := 19) hx hb G ia_155 (xs_inP hi2) d_R_line_19 ?_
  refine lv_iload_n (pc := 20) hx hb d_R_line_20 rfl (lv_at hl 3 rfl) ?_
  refine lv_imul (pc := 21) hx hb d_R_line_21 ?_
  refine lv_iadd (pc := 22) hx hb d_R_line_22 ?_
  refine lv_aload_n (pc := 23) hx hb d_R_line_23 rfl (lv_at hl 0 rfl) ?_
  refine gf_R_7 (pc := 24) X G d_R_line_24 ?_
  refine lv_iconst (pc := 27) (v := (4 : Int32)) hx hb d_R_line_27 (by decide) ?_
  refine lv_iload_n (pc := 28) hx hb d_R_line_28 rfl (lv_at hl 1 rfl) ?_
  refine lv_imul (pc := 29) hx hb d_R_line_29 ?_
  refine lv_iconst (pc := 30) (v := (2 : Int32)) hx hb d_R_line_30 (by decide) ?_
  refine lv_iadd (pc := 31) hx hb d_R_line_31 ?_
  obtain ⟨hi3, hE⟩ := xs_n hE
  refine xs_iald (pc := 32) hx hb G ia_155 (xs_inP hi3) d_R_line_32 ?_
  refine lv_iload (pc := 33) hx hb d_R_line_33 (lv_at hl 4 rfl) ?_
  refine lv_imul (pc := 35) hx hb d_R_line_35 ?_
  refine lv_iadd (pc := 36) hx hb d_R_line_36 ?_
  refine lv_aload_n (pc := 37) hx hb d_R_line_37 rfl (lv_at hl 0 rfl) ?_
  refine gf_R_7 (pc := 38) X G d_R_line_38 ?_
  refine lv_iconst (pc := 41) (v := (4 : Int32)) hx hb d_R_line_41 (by decide) ?_
  refine lv_iload_n (pc := 42) hx hb d_R_line_42 rfl (lv_at hl 1 rfl) ?_
  refine lv_imul (pc := 43) hx hb d_R_line_43 ?_
  refine lv_iconst (pc := 44) (v := (3 : Int32)) hx hb d_R_line_44 (by decide) ?_
  refine lv_iadd (pc := 45) hx hb d_R_line_45 ?_
  obtain ⟨hi4, hE⟩ := xs_n hE
  refine xs_iald (pc := 46) hx hb G ia_155 (xs_inP hi4) d_R_line_46 ?_
  refine lv_iadd (pc := 47) hx hb d_R_line_47 ?_
  cases hE
  exact xs_iret (pc := 48) hx hb hr hlk G d_R_line_48
def fn_R_use (μ0 : xs_M) (x0 : Int32) (x1 : Int32) (x2 : Int32) : Option (Int32 × xs_M) :=
  ((some (xs_si μ0 154 0 (0 : Int32))).bind fun μ1 => (if x0 < 0 then some (((0 : Int32), μ1)) else (if (1 : Int32) < x0 then some (((0 : Int32), μ1)) else (if x1 < 0 then some (((0 : Int32), μ1)) else (if (1 : Int32) < x1 then some (((0 : Int32), μ1)) else (if x2 < 0 then some (((0 : Int32), μ1)) else (if x2 ≤ (2 : Int32) then ((some (xs_si μ1 154 5 (x0))).bind fun μ2 => ((some (xs_si μ2 154 6 (x1))).bind fun μ3 => ((some (xs_si μ3 154 7 (x2))).bind fun μ4 => some (((1 : Int32), μ4))))) else some (((0 : Int32), μ1)))))))))
set_option maxHeartbeats 4000000 in
set_option maxRecDepth 100000 in
theorem ok_R_use (l : Launch) (D : va_G) (ad : Nat → Nat) (cs : xs_cs) (hJ : xs_J ad) {μ0 : xs_M} {x0 : Int32} {x1 : Int32} {x2 : Int32}  {rz : (Int32 × xs_M)} (hE : fn_R_use μ0 x0 x1 x2 = some rz) : xs_I l D ad cs y_R_use b_R_use 4 (some .boolean) 0 0 [.ref (ad 154), .int (x0), .int (x1), .int (x2)] μ0 (some (.int rz.1)) rz.2 := by
  refine xs_entry hJ (by decide) (Nat.le_of_ble_eq_true rfl) ?_
  intro p e s m below meth c ls X hr hlk G hl
  have X : xs_C p s m c b_R_use 4 _ "ExactSceneModel" := X
  have hx := X.1
  have hb := X.2.1
  have hl : lv_has ls 4 [(0, .ref (ad 154)), (1, .int (x0)), (2, .int (x1)), (3, .int (x2))] := hl
  unfold fn_R_use at hE
  refine lv_aload_n (pc := 0) hx hb d_R_use_0 rfl (lv_at hl 0 rfl) ?_
  refine lv_iconst (pc := 1) (v := (0 : Int32)) hx hb d_R_use_1 (by decide) ?_
  refine pf_R_59 (pc := 2) X G d_R_use_2 (fun H locs G => ?_)
  obtain ⟨μ1, hμ1, hE⟩ := xs_b hE
  have G := xs_mv G hμ1
  have hfμ1 := xs_fi hμ1
  clear hμ1
  refine lv_iload_n (pc := 5) hx hb d_R_use_5 rfl (lv_at hl 1 rfl) ?_
  refine lv_if_lt (pc := 6) (tgt := 32) hx hb d_R_use_6 (by decide) (fun hc => ?_) (fun hc => ?_)
  · have hE := xs_t hE hc
    refine lv_iconst (pc := 32) (v := (0 : Int32)) hx hb d_R_use_32 (by decide) ?_
    cases hE
    exact xs_zret (pc := 33) hx hb hr hlk G (Or.inl rfl) d_R_use_33
  · have hE := xs_f hE hc
    refine lv_iload_n (pc := 9) hx hb d_R_use_9 rfl (lv_at hl 1 rfl) ?_
    refine lv_iconst (pc := 10) (v := (1 : Int32)) hx hb d_R_use_10 (by decide) ?_
    refine lv_icmp_gt (pc := 11) (tgt := 32) hx hb d_R_use_11 (by decide) (fun hc => ?_) (fun hc => ?_)
    · have hE := xs_t hE hc
      refine lv_iconst (pc := 32) (v := (0 : Int32)) hx hb d_R_use_32 (by decide) ?_
      cases hE
      exact xs_zret (pc := 33) hx hb hr hlk G (Or.inl rfl) d_R_use_33
    · have hE := xs_f hE hc
      refine lv_iload_n (pc := 14) hx hb d_R_use_14 rfl (lv_at hl 2 rfl) ?_
      refine lv_if_lt (pc := 15) (tgt := 32) hx hb d_R_use_15 (by decide) (fun hc => ?_) (fun hc => ?_)
      · have hE := xs_t hE hc
        refine lv_iconst (pc := 32) (v := (0 : Int32)) hx hb d_R_use_32 (by decide) ?_
        cases hE
        exact xs_zret (pc := 33) hx hb hr hlk G (Or.inl rfl) d_R_use_33
      · have hE := xs_f hE hc
        refine lv_iload_n (pc := 18) hx hb d_R_use_18 rfl (lv_at hl 2 rfl) ?_
        refine lv_iconst (pc := 19) (v := (1 : Int32)) hx hb d_R_use_19 (by decide) ?_
        refine lv_icmp_gt (pc := 20) (tgt := 32) hx hb d_R_use_20 (by decide) (fun hc => ?_) (fun hc => ?_)
        · have hE := xs_t hE hc
          refine lv_iconst (pc := 32) (v := (0 : Int32)) hx hb d_R_use_32 (by decide) ?_
          cases hE
          exact xs_zret (pc := 33) hx hb hr hlk G (Or.inl rfl) d_R_use_33
        · have hE := xs_f hE hc
          refine lv_iload_n (pc := 23) hx hb d_R_use_23 rfl (lv_at hl 3 rfl) ?_
          refine lv_if_lt (pc := 24) (tgt := 32) hx hb d_R_use_24 (by decide) (fun hc => ?_) (fun hc => ?_)
          · have hE := xs_t hE hc
            refine lv_iconst (pc := 32) (v := (0 : Int32)) hx hb d_R_use_32 (by decide) ?_
            cases hE
            exact xs_zret (pc := 33) hx hb hr hlk G (Or.inl rfl) d_R_use_33
          · have hE := xs_f hE hc
            refine lv_iload_n (pc := 27) hx hb d_R_use_27 rfl (lv_at hl 3 rfl) ?_
            refine lv_iconst (pc := 28) (v := (2 : Int32)) hx hb d_R_use_28 (by decide) ?_
            refine lv_icmp_le (pc := 29) (tgt := 34) hx hb d_R_use_29 (by decide) (fun hc => ?_) (fun hc => ?_)
            · have hE := xs_t hE hc
              refine lv_aload_n (pc := 34) hx hb d_R_use_34 rfl (lv_at hl 0 rfl) ?_
              refine lv_iload_n (pc := 35) hx hb d_R_use_35 rfl (lv_at hl 1 rfl) ?_
              refine pf_R_85 (pc := 36) X G d_R_use_36 (fun H locs G => ?_)
              obtain ⟨μ2, hμ2, hE⟩ := xs_b hE
              have G := xs_mv G hμ2
              clear hμ2
              refine lv_aload_n (pc := 39) hx hb d_R_use_39 rfl (lv_at hl 0 rfl) ?_
              refine lv_iload_n (pc := 40) hx hb d_R_use_40 rfl (lv_at hl 2 rfl) ?_
              refine pf_R_88 (pc := 41) X G d_R_use_41 (fun H locs G => ?_)
              obtain ⟨μ3, hμ3, hE⟩ := xs_b hE
              have G := xs_mv G hμ3
              clear hμ3
              refine lv_aload_n (pc := 44) hx hb d_R_use_44 rfl (lv_at hl 0 rfl) ?_
              refine lv_iload_n (pc := 45) hx hb d_R_use_45 rfl (lv_at hl 3 rfl) ?_
              refine pf_R_91 (pc := 46) X G d_R_use_46 (fun H locs G => ?_)
              obtain ⟨μ4, hμ4, hE⟩ := xs_b hE
              have G := xs_mv G hμ4
              clear hμ4
              refine lv_iconst (pc := 49) (v := (1 : Int32)) hx hb d_R_use_49 (by decide) ?_
              cases hE
              exact xs_zret (pc := 50) hx hb hr hlk G (Or.inr rfl) d_R_use_50
            · have hE := xs_f hE hc
              refine lv_iconst (pc := 32) (v := (0 : Int32)) hx hb d_R_use_32 (by decide) ?_
              cases hE
              exact xs_zret (pc := 33) hx hb hr hlk G (Or.inl rfl) d_R_use_33
def fn_R_texel (μ0 : xs_M) (x0 : Int32) (x1 : Int32) (x2 : Int32) (x3 : Int32) : Option (Int32 × xs_M) :=
  (if x0 < 0 then ((some (xs_si μ0 154 0 (1 : Int32))).bind fun μ1 => some (((0 : Int32), μ1))) else (if (1 : Int32) < x0 then ((some (xs_si μ0 154 0 (1 : Int32))).bind fun μ2 => some (((0 : Int32), μ2))) else (if x1 < 0 then ((some (xs_si μ0 154 0 (1 : Int32))).bind fun μ3 => some (((0 : Int32), μ3))) else (if (7 : Int32) < x1 then ((some (xs_si μ0 154 0 (1 : Int32))).bind fun μ4 => some (((0 : Int32), μ4))) else (if x2 < 0 then ((some (xs_si μ0 154 0 (1 : Int32))).bind fun μ5 => some (((0 : Int32), μ5))) else (if x2 ≤ (7 : Int32) then ((some (xs_si μ0 154 0 (0 : Int32))).bind fun μ6 => ((some ((((64 : Int32) * x0) + ((8 : Int32) * x1)) + x2)).bind fun a7 => (if xs_in a7 128 = true then ((some (μ6.1 158 a7.toNatClampNeg)).bind fun a9 => (if xs_in a7 128 = true then ((some (xs_si μ6 158 a7.toNatClampNeg (x3 &&& (255 : Int32)))).bind fun μ11 => some ((a9, μ11))) else none)) else none))) else ((some (xs_si μ0 154 0 (1 : Int32))).bind fun μ12 => some (((0 : Int32), μ12)))))))))
set_option maxHeartbeats 4000000 in
set_option maxRecDepth 100000 in
theorem ok_R_texel (l : Launch) (D : va_G) (ad : Nat → Nat) (cs : xs_cs) (hJ : xs_J ad) {μ0 : xs_M} {x0 : Int32} {x1 : Int32} {x2 : Int32} {x3 : Int32}  {rz : (Int32 × xs_M)} (hE : fn_R_texel μ0 x0 x1 x2 x3 = some rz) : xs_I l D ad cs y_R_texel b_R_texel 7 (some .int) 0 0 [.ref (ad 154), .int (x0), .int (x1), .int (x2), .int (x3)] μ0 (some (.int rz.1)) rz.2 := by
  refine xs_entry hJ (by decide) (Nat.le_of_ble_eq_true rfl) ?_
  intro p e s m below meth c ls X hr hlk G hl
  have X : xs_C p s m c b_R_texel 7 _ "ExactSceneModel" := X
  have hx := X.1
  have hb := X.2.1
  have hl : lv_has ls 7 [(0, .ref (ad 154)), (1, .int (x0)), (2, .int (x1)), (3, .int (x2)), (4, .int (x3))] := hl
  unfold fn_R_texel at hE
  refine lv_aload_n (pc := 0) hx hb d_R_texel_0 rfl (lv_at hl 0 rfl) ?_
  refine lv_iload_n (pc := 1) hx hb d_R_texel_1 rfl (lv_at hl 1 rfl) ?_
  refine lv_if_lt (pc := 2) (tgt := 30) hx hb d_R_texel_2 (by decide) (fun hc => ?_) (fun hc => ?_)
  · have hE := xs_t hE hc
    refine lv_iconst (pc := 30) (v := (1 : Int32)) hx hb d_R_texel_30 (by decide) ?_
    refine lv_goto (pc := 31) (tgt := 35) hx hb d_R_texel_31 (by decide) ?_
    refine pf_R_59 (pc := 35) X G d_R_texel_35 (fun H locs G => ?_)
    obtain ⟨μ1, hμ1, hE⟩ := xs_b hE
    have G := xs_mv G hμ1
    have hfμ1 := xs_fi hμ1
    clear hμ1
    refine lv_aload_n (pc := 38) hx hb d_R_texel_38 rfl (lv_at hl 0 rfl) ?_
    refine gf_R_59 (pc := 39) X G d_R_texel_39 ?_
    refine xs_tq hfμ1 ?_
    refine lv_if_le (pc := 42) (tgt := 47) hx hb d_R_texel_42 (by decide) (fun hc => ?_) (fun hc => ?_)
    · exact absurd hc (by decide)
    · refine lv_iconst (pc := 45) (v := (0 : Int32)) hx hb d_R_texel_45 (by decide) ?_
      cases hE
      exact xs_iret (pc := 46) hx hb hr hlk G d_R_texel_46
  · have hE := xs_f hE hc
    refine lv_iload_n (pc := 5) hx hb d_R_texel_5 rfl (lv_at hl 1 rfl) ?_
    refine lv_iconst (pc := 6) (v := (1 : Int32)) hx hb d_R_texel_6 (by decide) ?_
    refine lv_icmp_gt (pc := 7) (tgt := 30) hx hb d_R_texel_7 (by decide) (fun hc => ?_) (fun hc => ?_)
    · have hE := xs_t hE hc
      refine lv_iconst (pc := 30) (v := (1 : Int32)) hx hb d_R_texel_30 (by decide) ?_
      refine lv_goto (pc := 31) (tgt := 35) hx hb d_R_texel_31 (by decide) ?_
      refine pf_R_59 (pc := 35) X G d_R_texel_35 (fun H locs G => ?_)
      obtain ⟨μ2, hμ2, hE⟩ := xs_b hE
      have G := xs_mv G hμ2
      have hfμ2 := xs_fi hμ2
      clear hμ2
      refine lv_aload_n (pc := 38) hx hb d_R_texel_38 rfl (lv_at hl 0 rfl) ?_
      refine gf_R_59 (pc := 39) X G d_R_texel_39 ?_
      refine xs_tq hfμ2 ?_
      refine lv_if_le (pc := 42) (tgt := 47) hx hb d_R_texel_42 (by decide) (fun hc => ?_) (fun hc => ?_)
      · exact absurd hc (by decide)
      · refine lv_iconst (pc := 45) (v := (0 : Int32)) hx hb d_R_texel_45 (by decide) ?_
        cases hE
        exact xs_iret (pc := 46) hx hb hr hlk G d_R_texel_46
    · have hE := xs_f hE hc
      refine lv_iload_n (pc := 10) hx hb d_R_texel_10 rfl (lv_at hl 2 rfl) ?_
      refine lv_if_lt (pc := 11) (tgt := 30) hx hb d_R_texel_11 (by decide) (fun hc => ?_) (fun hc => ?_)
      · have hE := xs_t hE hc
        refine lv_iconst (pc := 30) (v := (1 : Int32)) hx hb d_R_texel_30 (by decide) ?_
        refine lv_goto (pc := 31) (tgt := 35) hx hb d_R_texel_31 (by decide) ?_
        refine pf_R_59 (pc := 35) X G d_R_texel_35 (fun H locs G => ?_)
        obtain ⟨μ3, hμ3, hE⟩ := xs_b hE
        have G := xs_mv G hμ3
        have hfμ3 := xs_fi hμ3
        clear hμ3
        refine lv_aload_n (pc := 38) hx hb d_R_texel_38 rfl (lv_at hl 0 rfl) ?_
        refine gf_R_59 (pc := 39) X G d_R_texel_39 ?_
        refine xs_tq hfμ3 ?_
        refine lv_if_le (pc := 42) (tgt := 47) hx hb d_R_texel_42 (by decide) (fun hc => ?_) (fun hc => ?_)
        · exact absurd hc (by decide)
        · refine lv_iconst (pc := 45) (v := (0 : Int32)) hx hb d_R_texel_45 (by decide) ?_
          cases hE
          exact xs_iret (pc := 46) hx hb hr hlk G d_R_texel_46
      · have hE := xs_f hE hc
        refine lv_iload_n (pc := 14) hx hb d_R_texel_14 rfl (lv_at hl 2 rfl) ?_
        refine lv_bipush (pc := 15) (v := (7 : Int32)) hx hb d_R_texel_15 (by decide) ?_
        refine lv_icmp_gt (pc := 17) (tgt := 30) hx hb d_R_texel_17 (by decide) (fun hc => ?_) (fun hc => ?_)
        · have hE := xs_t hE hc
          refine lv_iconst (pc := 30) (v := (1 : Int32)) hx hb d_R_texel_30 (by decide) ?_
          refine lv_goto (pc := 31) (tgt := 35) hx hb d_R_texel_31 (by decide) ?_
          refine pf_R_59 (pc := 35) X G d_R_texel_35 (fun H locs G => ?_)
          obtain ⟨μ4, hμ4, hE⟩ := xs_b hE
          have G := xs_mv G hμ4
          have hfμ4 := xs_fi hμ4
          clear hμ4
          refine lv_aload_n (pc := 38) hx hb d_R_texel_38 rfl (lv_at hl 0 rfl) ?_
          refine gf_R_59 (pc := 39) X G d_R_texel_39 ?_
          refine xs_tq hfμ4 ?_
          refine lv_if_le (pc := 42) (tgt := 47) hx hb d_R_texel_42 (by decide) (fun hc => ?_) (fun hc => ?_)
          · exact absurd hc (by decide)
          · refine lv_iconst (pc := 45) (v := (0 : Int32)) hx hb d_R_texel_45 (by decide) ?_
            cases hE
            exact xs_iret (pc := 46) hx hb hr hlk G d_R_texel_46
        · have hE := xs_f hE hc
          refine lv_iload_n (pc := 20) hx hb d_R_texel_20 rfl (lv_at hl 3 rfl) ?_
          refine lv_if_lt (pc := 21) (tgt := 30) hx hb d_R_texel_21 (by decide) (fun hc => ?_) (fun hc => ?_)
          · have hE := xs_t hE hc
            refine lv_iconst (pc := 30) (v := (1 : Int32)) hx hb d_R_texel_30 (by decide) ?_
            refine lv_goto (pc := 31) (tgt := 35) hx hb d_R_texel_31 (by decide) ?_
            refine pf_R_59 (pc := 35) X G d_R_texel_35 (fun H locs G => ?_)
            obtain ⟨μ5, hμ5, hE⟩ := xs_b hE
            have G := xs_mv G hμ5
            have hfμ5 := xs_fi hμ5
            clear hμ5
            refine lv_aload_n (pc := 38) hx hb d_R_texel_38 rfl (lv_at hl 0 rfl) ?_
            refine gf_R_59 (pc := 39) X G d_R_texel_39 ?_
            refine xs_tq hfμ5 ?_
            refine lv_if_le (pc := 42) (tgt := 47) hx hb d_R_texel_42 (by decide) (fun hc => ?_) (fun hc => ?_)
            · exact absurd hc (by decide)
            · refine lv_iconst (pc := 45) (v := (0 : Int32)) hx hb d_R_texel_45 (by decide) ?_
              cases hE
              exact xs_iret (pc := 46) hx hb hr hlk G d_R_texel_46
          · have hE := xs_f hE hc
            refine lv_iload_n (pc := 24) hx hb d_R_texel_24 rfl (lv_at hl 3 rfl) ?_
            refine lv_bipush (pc := 25) (v := (7 : Int32)) hx hb d_R_texel_25 (by decide) ?_
            refine lv_icmp_le (pc := 27) (tgt := 34) hx hb d_R_texel_27 (by decide) (fun hc => ?_) (fun hc => ?_)
            · have hE := xs_t hE hc
              refine lv_iconst (pc := 34) (v := (0 : Int32)) hx hb d_R_texel_34 (by decide) ?_
              refine pf_R_59 (pc := 35) X G d_R_texel_35 (fun H locs G => ?_)
              obtain ⟨μ6, hμ6, hE⟩ := xs_b hE
              have G := xs_mv G hμ6
              have hfμ6 := xs_fi hμ6
              clear hμ6
              refine lv_aload_n (pc := 38) hx hb d_R_texel_38 rfl (lv_at hl 0 rfl) ?_
              refine gf_R_59 (pc := 39) X G d_R_texel_39 ?_
              refine xs_tq hfμ6 ?_
              refine lv_if_le (pc := 42) (tgt := 47) hx hb d_R_texel_42 (by decide) (fun hc => ?_) (fun hc => ?_)
              · refine lv_bipush (pc := 47) (v := (64 : Int32)) hx hb d_R_texel_47 (by decide) ?_
                refine lv_iload_n (pc := 49) hx hb d_R_texel_49 rfl (lv_at hl 1 rfl) ?_
                refine lv_imul (pc := 50) hx hb d_R_texel_50 ?_
                refine lv_bipush (pc := 51) (v := (8 : Int32)) hx hb d_R_texel_51 (by decide) ?_
                refine lv_iload_n (pc := 53) hx hb d_R_texel_53 rfl (lv_at hl 2 rfl) ?_
                refine lv_imul (pc := 54) hx hb d_R_texel_54 ?_
                refine lv_iadd (pc := 55) hx hb d_R_texel_55 ?_
                refine lv_iload_n (pc := 56) hx hb d_R_texel_56 rfl (lv_at hl 3 rfl) ?_
                refine lv_iadd (pc := 57) hx hb d_R_texel_57 ?_
                obtain ⟨a7, ha7, hE⟩ := xs_b hE
                refine xs_ti ha7 ?_
                clear ha7
                refine lv_istore (pc := 58) hx hb d_R_texel_58 hl (by decide) (lv' := [(5, .int (a7)), (0, .ref (ad 154)), (1, .int (x0)), (2, .int (x1)), (3, .int (x2)), (4, .int (x3))]) rfl (fun ls hl => ?_)
                refine lv_aload_n (pc := 60) hx hb d_R_texel_60 rfl (lv_at hl 1 rfl) ?_
                refine gf_R_19 (pc := 61) X G d_R_texel_61 ?_
                refine lv_iload (pc := 64) hx hb d_R_texel_64 (lv_at hl 0 rfl) ?_
                obtain ⟨hi8, hE⟩ := xs_n hE
                refine xs_iald (pc := 66) hx hb G ia_158 (xs_inP hi8) d_R_texel_66 ?_
                obtain ⟨a9, ha9, hE⟩ := xs_b hE
                refine xs_ti ha9 ?_
                clear ha9
                refine lv_istore (pc := 67) hx hb d_R_texel_67 hl (by decide) (lv' := [(6, .int (a9)), (5, .int (a7)), (0, .ref (ad 154)), (1, .int (x0)), (2, .int (x1)), (3, .int (x2)), (4, .int (x3))]) rfl (fun ls hl => ?_)
                refine lv_aload_n (pc := 69) hx hb d_R_texel_69 rfl (lv_at hl 2 rfl) ?_
                refine gf_R_19 (pc := 70) X G d_R_texel_70 ?_
                refine lv_iload (pc := 73) hx hb d_R_texel_73 (lv_at hl 1 rfl) ?_
                refine lv_iload (pc := 75) hx hb d_R_texel_75 (lv_at hl 6 rfl) ?_
                refine lv_sipush (pc := 77) (v := (255 : Int32)) hx hb d_R_texel_77 (by decide) ?_
                refine lv_iand (pc := 80) hx hb d_R_texel_80 ?_
                obtain ⟨hi10, hE⟩ := xs_n hE
                refine xs_iast (pc := 81) hx hb G ia_158 (xs_inP hi10) d_R_texel_81 (fun H locs G => ?_)
                obtain ⟨μ11, hμ11, hE⟩ := xs_b hE
                have G := xs_mv G hμ11
                clear hμ11
                refine lv_iload (pc := 82) hx hb d_R_texel_82 (lv_at hl 0 rfl) ?_
                cases hE
                exact xs_iret (pc := 84) hx hb hr hlk G d_R_texel_84
              · exact absurd hc (by decide)
            · have hE := xs_f hE hc
              refine lv_iconst (pc := 30) (v := (1 : Int32)) hx hb d_R_texel_30 (by decide) ?_
              refine lv_goto (pc := 31) (tgt := 35) hx hb d_R_texel_31 (by decide) ?_
              refine pf_R_59 (pc := 35) X G d_R_texel_35 (fun H locs G => ?_)
              obtain ⟨μ12, hμ12, hE⟩ := xs_b hE
              have G := xs_mv G hμ12
              have hfμ12 := xs_fi hμ12
              clear hμ12
              refine lv_aload_n (pc := 38) hx hb d_R_texel_38 rfl (lv_at hl 0 rfl) ?_
              refine gf_R_59 (pc := 39) X G d_R_texel_39 ?_
              refine xs_tq hfμ12 ?_
              refine lv_if_le (pc := 42) (tgt := 47) hx hb d_R_texel_42 (by decide) (fun hc => ?_) (fun hc => ?_)
              · exact absurd hc (by decide)
              · refine lv_iconst (pc := 45) (v := (0 : Int32)) hx hb d_R_texel_45 (by decide) ?_
                cases hE
                exact xs_iret (pc := 46) hx hb hr hlk G d_R_texel_46
def fn_R_clear (μ0 : xs_M)  : Option (Int32 × xs_M) :=
  ((some (xs_si μ0 154 0 (0 : Int32))).bind fun μ1 => ((some ((μ1.1 154 9) / (3 : Int32))).bind fun a2 => ((some (xs_si μ1 154 9 (0 : Int32))).bind fun μ3 => some ((a2, μ3)))))
set_option maxHeartbeats 4000000 in
set_option maxRecDepth 100000 in
theorem ok_R_clear (l : Launch) (D : va_G) (ad : Nat → Nat) (cs : xs_cs) (hJ : xs_J ad) {μ0 : xs_M}   {rz : (Int32 × xs_M)} (hE : fn_R_clear μ0 = some rz) : xs_I l D ad cs y_R_clear b_R_clear 2 (some .int) 0 0 [.ref (ad 154)] μ0 (some (.int rz.1)) rz.2 := by
  refine xs_entry hJ (by decide) (Nat.le_of_ble_eq_true rfl) ?_
  intro p e s m below meth c ls X hr hlk G hl
  have X : xs_C p s m c b_R_clear 2 _ "ExactSceneModel" := X
  have hx := X.1
  have hb := X.2.1
  have hl : lv_has ls 2 [(0, .ref (ad 154))] := hl
  unfold fn_R_clear at hE
  refine lv_aload_n (pc := 0) hx hb d_R_clear_0 rfl (lv_at hl 0 rfl) ?_
  refine lv_iconst (pc := 1) (v := (0 : Int32)) hx hb d_R_clear_1 (by decide) ?_
  refine pf_R_59 (pc := 2) X G d_R_clear_2 (fun H locs G => ?_)
  obtain ⟨μ1, hμ1, hE⟩ := xs_b hE
  have G := xs_mv G hμ1
  have hfμ1 := xs_fi hμ1
  clear hμ1
  refine lv_aload_n (pc := 5) hx hb d_R_clear_5 rfl (lv_at hl 0 rfl) ?_
  refine gf_R_78 (pc := 6) X G d_R_clear_6 ?_
  refine lv_iconst (pc := 9) (v := (3 : Int32)) hx hb d_R_clear_9 (by decide) ?_
  refine lv_idiv (pc := 10) hx hb d_R_clear_10 (by decide) ?_
  obtain ⟨a2, ha2, hE⟩ := xs_b hE
  refine xs_ti ha2 ?_
  clear ha2
  refine lv_istore_n (pc := 11) hx hb d_R_clear_11 rfl hl (by decide) (lv' := [(1, .int (a2)), (0, .ref (ad 154))]) rfl (fun ls hl => ?_)
  refine lv_aload_n (pc := 12) hx hb d_R_clear_12 rfl (lv_at hl 1 rfl) ?_
  refine lv_iconst (pc := 13) (v := (0 : Int32)) hx hb d_R_clear_13 (by decide) ?_
  refine pf_R_78 (pc := 14) X G d_R_clear_14 (fun H locs G => ?_)
  obtain ⟨μ3, hμ3, hE⟩ := xs_b hE
  have G := xs_mv G hμ3
  have hfμ3 := xs_fi hμ3
  clear hμ3
  refine lv_iload_n (pc := 17) hx hb d_R_clear_17 rfl (lv_at hl 0 rfl) ?_
  cases hE
  exact xs_iret (pc := 18) hx hb hr hlk G d_R_clear_18
def fn_R_placeOf (μ0 : xs_M) (x0 : Int32) (x1 : Int32) (x2 : Int32) : Option Int64 :=
  (if xs_in ((((18 : Int32) * x0) + ((6 : Int32) * x1)) + x2) 360 = true then some (((μ0.1 159 ((((18 : Int32) * x0) + ((6 : Int32) * x1)) + x2).toNatClampNeg)).toInt64) else none)
set_option maxHeartbeats 4000000 in
set_option maxRecDepth 100000 in
theorem ok_R_placeOf (l : Launch) (D : va_G) (ad : Nat → Nat) (cs : xs_cs) (hJ : xs_J ad) {μ0 : xs_M} {x0 : Int32} {x1 : Int32} {x2 : Int32}  {rz : Int64} (hE : fn_R_placeOf μ0 x0 x1 x2 = some rz) : xs_I l D ad cs y_R_placeOf b_R_placeOf 4 (some .long) 0 0 [.ref (ad 154), .int (x0), .int (x1), .int (x2)] μ0 (some (.long rz)) μ0 := by
  refine xs_entry hJ (by decide) (Nat.le_of_ble_eq_true rfl) ?_
  intro p e s m below meth c ls X hr hlk G hl
  have X : xs_C p s m c b_R_placeOf 4 _ "ExactSceneModel" := X
  have hx := X.1
  have hb := X.2.1
  have hl : lv_has ls 4 [(0, .ref (ad 154)), (1, .int (x0)), (2, .int (x1)), (3, .int (x2))] := hl
  unfold fn_R_placeOf at hE
  refine lv_aload_n (pc := 0) hx hb d_R_placeOf_0 rfl (lv_at hl 0 rfl) ?_
  refine gf_R_22 (pc := 1) X G d_R_placeOf_1 ?_
  refine lv_bipush (pc := 4) (v := (18 : Int32)) hx hb d_R_placeOf_4 (by decide) ?_
  refine lv_iload_n (pc := 6) hx hb d_R_placeOf_6 rfl (lv_at hl 1 rfl) ?_
  refine lv_imul (pc := 7) hx hb d_R_placeOf_7 ?_
  refine lv_bipush (pc := 8) (v := (6 : Int32)) hx hb d_R_placeOf_8 (by decide) ?_
  refine lv_iload_n (pc := 10) hx hb d_R_placeOf_10 rfl (lv_at hl 2 rfl) ?_
  refine lv_imul (pc := 11) hx hb d_R_placeOf_11 ?_
  refine lv_iadd (pc := 12) hx hb d_R_placeOf_12 ?_
  refine lv_iload_n (pc := 13) hx hb d_R_placeOf_13 rfl (lv_at hl 3 rfl) ?_
  refine lv_iadd (pc := 14) hx hb d_R_placeOf_14 ?_
  obtain ⟨hi1, hE⟩ := xs_n hE
  refine xs_iald (pc := 15) hx hb G ia_159 (xs_inP hi1) d_R_placeOf_15 ?_
  refine lv_i2l (pc := 16) hx hb d_R_placeOf_16 rfl ?_
  cases hE
  exact xs_lret (pc := 17) hx hb hr hlk G d_R_placeOf_17
def fn_R_floor (μ0 : xs_M) (x0 : Int64) (x1 : Int64) : Option Int64 :=
  (if ¬ x1 = 0 then ((some (x0 / x1)).bind fun a2 => (if (lg_cmp (a2 * x1) x0) ≤ 0 then some (a2) else some ((a2 - (1 : Int64))))) else none)
set_option maxHeartbeats 4000000 in
set_option maxRecDepth 100000 in
theorem ok_R_floor (l : Launch) (D : va_G) (ad : Nat → Nat) (cs : xs_cs) (hJ : xs_J ad) {μ0 : xs_M} {x0 : Int64} {x1 : Int64}  {rz : Int64} (hE : fn_R_floor μ0 x0 x1 = some rz) : xs_I l D ad cs y_R_floor b_R_floor 6 (some .long) 0 0 [.long (x0), .long (x1)] μ0 (some (.long rz)) μ0 := by
  refine xs_entry hJ (by decide) (Nat.le_of_ble_eq_true rfl) ?_
  intro p e s m below meth c ls X hr hlk G hl
  have X : xs_C p s m c b_R_floor 6 _ "ExactSceneModel" := X
  have hx := X.1
  have hb := X.2.1
  have hl : lv_has ls 6 [(0, .long (x0)), (2, .long (x1))] := hl
  unfold fn_R_floor at hE
  refine lv_lload_n (pc := 0) hx hb d_R_floor_0 rfl (lv_at hl 0 rfl) ?_
  refine lv_lload_n (pc := 1) hx hb d_R_floor_1 rfl (lv_at hl 1 rfl) ?_
  obtain ⟨hz1, hE⟩ := xs_n hE
  refine lv_ldiv (pc := 2) hx hb d_R_floor_2 hz1 ?_
  obtain ⟨a2, ha2, hE⟩ := xs_b hE
  refine xs_tl ha2 ?_
  clear ha2
  refine lv_lstore (pc := 3) hx hb d_R_floor_3 hl (by decide) (lv' := [(4, .long (a2)), (0, .long (x0)), (2, .long (x1))]) rfl (fun ls hl => ?_)
  refine lv_lload (pc := 5) hx hb d_R_floor_5 (lv_at hl 0 rfl) ?_
  refine lv_lload_n (pc := 7) hx hb d_R_floor_7 rfl (lv_at hl 2 rfl) ?_
  refine lv_lmul (pc := 8) hx hb d_R_floor_8 ?_
  refine lv_lload_n (pc := 9) hx hb d_R_floor_9 rfl (lv_at hl 1 rfl) ?_
  refine W.lcmp (pc := 10) hx hb d_R_floor_10 ?_
  refine lv_if_le (pc := 11) (tgt := 21) hx hb d_R_floor_11 (by decide) (fun hc => ?_) (fun hc => ?_)
  · have hE := xs_t hE hc
    refine lv_lload (pc := 21) hx hb d_R_floor_21 (lv_at hl 0 rfl) ?_
    cases hE
    exact xs_lret (pc := 23) hx hb hr hlk G d_R_floor_23
  · have hE := xs_f hE hc
    refine lv_lload (pc := 14) hx hb d_R_floor_14 (lv_at hl 0 rfl) ?_
    refine lv_lconst (pc := 16) (v := (1 : Int64)) hx hb d_R_floor_16 (by decide) ?_
    refine lv_lsub (pc := 17) hx hb d_R_floor_17 ?_
    refine lv_goto (pc := 18) (tgt := 23) hx hb d_R_floor_18 (by decide) ?_
    cases hE
    exact xs_lret (pc := 23) hx hb hr hlk G d_R_floor_23
def fn_R_order_L17 : Nat → xs_M → Int64 → Int64 → Int64 → Int64 → Int64 → Int64 → Int64 → Int64 → Int32 →  Option Int32
  | 0, _, _, _, _, _, _, _, _, _, _ => none
  | fu + 1, μ0, v0, v2, v4, v6, v8, v10, v12, v14, v16 => ((fn_R_floor μ0 v8 v10).bind fun w1 => ((fn_R_floor μ0 v12 v14).bind fun w2 => (if (lg_cmp w1 w2) = 0 then ((some (v8 - (w1 * v10))).bind fun a3 => ((some (v12 - (w2 * v14))).bind fun a4 => (if (lg_cmp a3 (0 : Int64)) = 0 then (if (lg_cmp a3 a4) = 0 then some ((0 : Int32)) else (if (lg_cmp a3 (0 : Int64)) = 0 then some ((-v16)) else some (v16))) else (if (lg_cmp a4 (0 : Int64)) = 0 then (if (lg_cmp a3 a4) = 0 then some ((0 : Int32)) else (if (lg_cmp a3 (0 : Int64)) = 0 then some ((-v16)) else some (v16))) else ((some (-v16)).bind fun a5 => fn_R_order_L17 fu μ0 v0 v2 v4 v6 v10 a3 v14 a4 a5))))) else (if 0 ≤ (lg_cmp w1 w2) then some (v16) else some ((-v16))))))
def fn_R_order (μ0 : xs_M) (x0 : Int64) (x1 : Int64) (x2 : Int64) (x3 : Int64) : Option Int32 :=
  fn_R_order_L17 xs_FUB μ0 x0 x1 x2 x3 x0 x1 x2 x3 (1 : Int32)
set_option maxHeartbeats 4000000 in
set_option maxRecDepth 100000 in
theorem ok_R_order (l : Launch) (D : va_G) (ad : Nat → Nat) (cs : xs_cs) (hJ : xs_J ad) {μ0 : xs_M} {x0 : Int64} {x1 : Int64} {x2 : Int64} {x3 : Int64}  {rz : Int32} (hE : fn_R_order μ0 x0 x1 x2 x3 = some rz) : xs_I l D ad cs y_R_order b_R_order 25 (some .int) 1 25 [.long (x0), .long (x1), .long (x2), .long (x3)] μ0 (some (.int rz)) μ0 := by
  refine xs_entry hJ (by decide) (Nat.le_of_ble_eq_true rfl) ?_
  intro p e s m below meth c ls X hr hlk G hl
  have X : xs_C p s m c b_R_order 25 _ "ExactSceneModel" := X
  have hx := X.1
  have hb := X.2.1
  have hl : lv_has ls 25 [(0, .long (x0)), (2, .long (x1)), (4, .long (x2)), (6, .long (x3))] := hl
  have L17 : ∀ (fu : Nat) (v0 : Int64) (v2 : Int64) (v4 : Int64) (v6 : Int64) (v8 : Int64) (v10 : Int64) (v12 : Int64) (v14 : Int64) (v16 : Int32) (H : Heap) (locs : List Loc) (ls : Array Slot) (z : Int32), fn_R_order_L17 fu μ0 v0 v2 v4 v6 v8 v10 v12 v14 v16 = some z → xs_G D ad cs s (xs_A ad s.heap.size) s.heap μ0 H locs → lv_has ls 25 [(0, .long (v0)), (2, .long (v2)), (4, .long (v4)), (6, .long (v6)), (8, .long (v8)), (10, .long (v10)), (12, .long (v12)), (14, .long (v14)), (16, .int (v16))] → z = rz → W p l e (xs_rm 1 25) s m ([.long (x0), .long (x1), .long (x2), .long (x3)] : List Value).toArray below meth c H locs 0 0 (xs_E below D ad cs [.long (x0), .long (x1), .long (x2), .long (x3)] s (some (.int rz)) μ0) (F0 m 17 ls []) := by
    clear hE hl G
    intro fu
    induction fu with
    | zero =>
      intro v0 v2 v4 v6 v8 v10 v12 v14 v16 H locs ls z hE
      rw [fn_R_order_L17] at hE
      cases hE
    | succ fu ih =>
      intro v0 v2 v4 v6 v8 v10 v12 v14 v16 H locs ls z hE G hl kr
      rw [fn_R_order_L17] at hE
      refine lv_lload (pc := 17) hx hb d_R_order_17 (lv_at hl 4 rfl) ?_
      refine lv_lload (pc := 19) hx hb d_R_order_19 (lv_at hl 5 rfl) ?_
      obtain ⟨w1, hw1, hE⟩ := xs_b hE
      refine xs_callSr (pc := 21) (as := [.long (v8), .long (v10)]) X (ok_R_floor l D ad cs hJ hw1) km_R_102 G ⟨by decide, by decide⟩ ⟨Nat.zero_le _, Nat.zero_le _⟩ rfl hl.1 rfl (Nat.le_of_ble_eq_true rfl) d_R_order_21 (fun H locs G => ?_)
      refine lv_lstore (pc := 24) hx hb d_R_order_24 hl (by decide) (lv' := [(17, .long (w1)), (0, .long (v0)), (2, .long (v2)), (4, .long (v4)), (6, .long (v6)), (8, .long (v8)), (10, .long (v10)), (12, .long (v12)), (14, .long (v14)), (16, .int (v16))]) rfl (fun ls hl => ?_)
      refine lv_lload (pc := 26) hx hb d_R_order_26 (lv_at hl 7 rfl) ?_
      refine lv_lload (pc := 28) hx hb d_R_order_28 (lv_at hl 8 rfl) ?_
      obtain ⟨w2, hw2, hE⟩ := xs_b hE
      refine xs_callSr (pc := 30) (as := [.long (v12), .long (v14)]) X (ok_R_floor l D ad cs hJ hw2) km_R_102 G ⟨by decide, by decide⟩ ⟨Nat.zero_le _, Nat.zero_le _⟩ rfl hl.1 rfl (Nat.le_of_ble_eq_true rfl) d_R_order_30 (fun H locs G => ?_)
      refine lv_lstore (pc := 33) hx hb d_R_order_33 hl (by decide) (lv' := [(19, .long (w2)), (17, .long (w1)), (0, .long (v0)), (2, .long (v2)), (4, .long (v4)), (6, .long (v6)), (8, .long (v8)), (10, .long (v10)), (12, .long (v12)), (14, .long (v14)), (16, .int (v16))]) rfl (fun ls hl => ?_)
      refine lv_lload (pc := 35) hx hb d_R_order_35 (lv_at hl 1 rfl) ?_
      refine lv_lload (pc := 37) hx hb d_R_order_37 (lv_at hl 0 rfl) ?_
      refine W.lcmp (pc := 39) hx hb d_R_order_39 ?_
      refine lv_if_eq (pc := 40) (tgt := 60) hx hb d_R_order_40 (by decide) (fun hc => ?_) (fun hc => ?_)
      · have hE := xs_t hE hc
        refine lv_lload (pc := 60) hx hb d_R_order_60 (lv_at hl 6 rfl) ?_
        refine lv_lload (pc := 62) hx hb d_R_order_62 (lv_at hl 1 rfl) ?_
        refine lv_lload (pc := 64) hx hb d_R_order_64 (lv_at hl 7 rfl) ?_
        refine lv_lmul (pc := 66) hx hb d_R_order_66 ?_
        refine lv_lsub (pc := 67) hx hb d_R_order_67 ?_
        obtain ⟨a3, ha3, hE⟩ := xs_b hE
        refine xs_tl ha3 ?_
        clear ha3
        refine lv_lstore (pc := 68) hx hb d_R_order_68 hl (by decide) (lv' := [(21, .long (a3)), (19, .long (w2)), (17, .long (w1)), (0, .long (v0)), (2, .long (v2)), (4, .long (v4)), (6, .long (v6)), (8, .long (v8)), (10, .long (v10)), (12, .long (v12)), (14, .long (v14)), (16, .int (v16))]) rfl (fun ls hl => ?_)
        refine lv_lload (pc := 70) hx hb d_R_order_70 (lv_at hl 9 rfl) ?_
        refine lv_lload (pc := 72) hx hb d_R_order_72 (lv_at hl 1 rfl) ?_
        refine lv_lload (pc := 74) hx hb d_R_order_74 (lv_at hl 10 rfl) ?_
        refine lv_lmul (pc := 76) hx hb d_R_order_76 ?_
        refine lv_lsub (pc := 77) hx hb d_R_order_77 ?_
        obtain ⟨a4, ha4, hE⟩ := xs_b hE
        refine xs_tl ha4 ?_
        clear ha4
        refine lv_lstore (pc := 78) hx hb d_R_order_78 hl (by decide) (lv' := [(23, .long (a4)), (21, .long (a3)), (19, .long (w2)), (17, .long (w1)), (0, .long (v0)), (2, .long (v2)), (4, .long (v4)), (6, .long (v6)), (8, .long (v8)), (10, .long (v10)), (12, .long (v12)), (14, .long (v14)), (16, .int (v16))]) rfl (fun ls hl => ?_)
        refine lv_lload (pc := 80) hx hb d_R_order_80 (lv_at hl 1 rfl) ?_
        refine lv_lconst (pc := 82) (v := (0 : Int64)) hx hb d_R_order_82 (by decide) ?_
        refine W.lcmp (pc := 83) hx hb d_R_order_83 ?_
        refine lv_if_eq (pc := 84) (tgt := 94) hx hb d_R_order_84 (by decide) (fun hc => ?_) (fun hc => ?_)
        · have hE := xs_t hE hc
          refine lv_lload (pc := 94) hx hb d_R_order_94 (lv_at hl 1 rfl) ?_
          refine lv_lload (pc := 96) hx hb d_R_order_96 (lv_at hl 0 rfl) ?_
          refine W.lcmp (pc := 98) hx hb d_R_order_98 ?_
          refine lv_if_ne (pc := 99) (tgt := 106) hx hb d_R_order_99 (by decide) (fun hc => ?_) (fun hc => ?_)
          · have hE := xs_f hE hc
            refine lv_lload (pc := 106) hx hb d_R_order_106 (lv_at hl 1 rfl) ?_
            refine lv_lconst (pc := 108) (v := (0 : Int64)) hx hb d_R_order_108 (by decide) ?_
            refine W.lcmp (pc := 109) hx hb d_R_order_109 ?_
            refine lv_if_ne (pc := 110) (tgt := 119) hx hb d_R_order_110 (by decide) (fun hc => ?_) (fun hc => ?_)
            · have hE := xs_f hE hc
              refine lv_iload (pc := 119) hx hb d_R_order_119 (lv_at hl 12 rfl) ?_
              rw [← kr, ← Option.some.inj hE]
              exact xs_iret (pc := 121) hx hb hr hlk G d_R_order_121
            · have hE := xs_t hE hc
              refine lv_iload (pc := 113) hx hb d_R_order_113 (lv_at hl 12 rfl) ?_
              refine lv_ineg (pc := 115) hx hb d_R_order_115 ?_
              refine lv_goto (pc := 116) (tgt := 121) hx hb d_R_order_116 (by decide) ?_
              rw [← kr, ← Option.some.inj hE]
              exact xs_iret (pc := 121) hx hb hr hlk G d_R_order_121
          · have hE := xs_t hE hc
            refine lv_iconst (pc := 102) (v := (0 : Int32)) hx hb d_R_order_102 (by decide) ?_
            refine lv_goto (pc := 103) (tgt := 121) hx hb d_R_order_103 (by decide) ?_
            rw [← kr, ← Option.some.inj hE]
            exact xs_iret (pc := 121) hx hb hr hlk G d_R_order_121
        · have hE := xs_f hE hc
          refine lv_lload (pc := 87) hx hb d_R_order_87 (lv_at hl 0 rfl) ?_
          refine lv_lconst (pc := 89) (v := (0 : Int64)) hx hb d_R_order_89 (by decide) ?_
          refine W.lcmp (pc := 90) hx hb d_R_order_90 ?_
          refine lv_if_ne (pc := 91) (tgt := 122) hx hb d_R_order_91 (by decide) (fun hc => ?_) (fun hc => ?_)
          · have hE := xs_f hE hc
            refine lv_lload (pc := 122) hx hb d_R_order_122 (lv_at hl 9 rfl) ?_
            refine lv_lstore (pc := 124) hx hb d_R_order_124 hl (by decide) (lv' := [(8, .long (v10)), (23, .long (a4)), (21, .long (a3)), (19, .long (w2)), (17, .long (w1)), (0, .long (v0)), (2, .long (v2)), (4, .long (v4)), (6, .long (v6)), (10, .long (v10)), (12, .long (v12)), (14, .long (v14)), (16, .int (v16))]) rfl (fun ls hl => ?_)
            refine lv_lload (pc := 126) hx hb d_R_order_126 (lv_at hl 2 rfl) ?_
            refine lv_lstore (pc := 128) hx hb d_R_order_128 hl (by decide) (lv' := [(10, .long (a3)), (8, .long (v10)), (23, .long (a4)), (21, .long (a3)), (19, .long (w2)), (17, .long (w1)), (0, .long (v0)), (2, .long (v2)), (4, .long (v4)), (6, .long (v6)), (12, .long (v12)), (14, .long (v14)), (16, .int (v16))]) rfl (fun ls hl => ?_)
            refine lv_lload (pc := 130) hx hb d_R_order_130 (lv_at hl 11 rfl) ?_
            refine lv_lstore (pc := 132) hx hb d_R_order_132 hl (by decide) (lv' := [(12, .long (v14)), (10, .long (a3)), (8, .long (v10)), (23, .long (a4)), (21, .long (a3)), (19, .long (w2)), (17, .long (w1)), (0, .long (v0)), (2, .long (v2)), (4, .long (v4)), (6, .long (v6)), (14, .long (v14)), (16, .int (v16))]) rfl (fun ls hl => ?_)
            refine lv_lload (pc := 134) hx hb d_R_order_134 (lv_at hl 3 rfl) ?_
            refine lv_lstore (pc := 136) hx hb d_R_order_136 hl (by decide) (lv' := [(14, .long (a4)), (12, .long (v14)), (10, .long (a3)), (8, .long (v10)), (23, .long (a4)), (21, .long (a3)), (19, .long (w2)), (17, .long (w1)), (0, .long (v0)), (2, .long (v2)), (4, .long (v4)), (6, .long (v6)), (16, .int (v16))]) rfl (fun ls hl => ?_)
            refine lv_iload (pc := 138) hx hb d_R_order_138 (lv_at hl 12 rfl) ?_
            refine lv_ineg (pc := 140) hx hb d_R_order_140 ?_
            obtain ⟨a5, ha5, hE⟩ := xs_b hE
            refine xs_ti ha5 ?_
            clear ha5
            refine lv_istore (pc := 141) hx hb d_R_order_141 hl (by decide) (lv' := [(16, .int (a5)), (14, .long (a4)), (12, .long (v14)), (10, .long (a3)), (8, .long (v10)), (23, .long (a4)), (21, .long (a3)), (19, .long (w2)), (17, .long (w1)), (0, .long (v0)), (2, .long (v2)), (4, .long (v4)), (6, .long (v6))]) rfl (fun ls hl => ?_)
            refine lv_goto (pc := 143) (tgt := 17) hx hb d_R_order_143 (by decide) ?_
            exact ih _ _ _ _ _ _ _ _ _ _ _ _ _ hE G (lv_sub hl [9, 10, 11, 12, 4, 3, 2, 1, 0] rfl) kr
          · have hE := xs_t hE hc
            refine lv_lload (pc := 94) hx hb d_R_order_94 (lv_at hl 1 rfl) ?_
            refine lv_lload (pc := 96) hx hb d_R_order_96 (lv_at hl 0 rfl) ?_
            refine W.lcmp (pc := 98) hx hb d_R_order_98 ?_
            refine lv_if_ne (pc := 99) (tgt := 106) hx hb d_R_order_99 (by decide) (fun hc => ?_) (fun hc => ?_)
            · have hE := xs_f hE hc
              refine lv_lload (pc := 106) hx hb d_R_order_106 (lv_at hl 1 rfl) ?_
              refine lv_lconst (pc := 108) (v := (0 : Int64)) hx hb d_R_order_108 (by decide) ?_
              refine W.lcmp (pc := 109) hx hb d_R_order_109 ?_
              refine lv_if_ne (pc := 110) (tgt := 119) hx hb d_R_order_110 (by decide) (fun hc => ?_) (fun hc => ?_)
              · have hE := xs_f hE hc
                refine lv_iload (pc := 119) hx hb d_R_order_119 (lv_at hl 12 rfl) ?_
                rw [← kr, ← Option.some.inj hE]
                exact xs_iret (pc := 121) hx hb hr hlk G d_R_order_121
              · have hE := xs_t hE hc
                refine lv_iload (pc := 113) hx hb d_R_order_113 (lv_at hl 12 rfl) ?_
                refine lv_ineg (pc := 115) hx hb d_R_order_115 ?_
                refine lv_goto (pc := 116) (tgt := 121) hx hb d_R_order_116 (by decide) ?_
                rw [← kr, ← Option.some.inj hE]
                exact xs_iret (pc := 121) hx hb hr hlk G d_R_order_121
            · have hE := xs_t hE hc
              refine lv_iconst (pc := 102) (v := (0 : Int32)) hx hb d_R_order_102 (by decide) ?_
              refine lv_goto (pc := 103) (tgt := 121) hx hb d_R_order_103 (by decide) ?_
              rw [← kr, ← Option.some.inj hE]
              exact xs_iret (pc := 121) hx hb hr hlk G d_R_order_121
      · have hE := xs_f hE hc
        refine lv_lload (pc := 43) hx hb d_R_order_43 (lv_at hl 1 rfl) ?_
        refine lv_lload (pc := 45) hx hb d_R_order_45 (lv_at hl 0 rfl) ?_
        refine W.lcmp (pc := 47) hx hb d_R_order_47 ?_
        refine lv_if_ge (pc := 48) (tgt := 57) hx hb d_R_order_48 (by decide) (fun hc => ?_) (fun hc => ?_)
        · have hE := xs_t hE hc
          refine lv_iload (pc := 57) hx hb d_R_order_57 (lv_at hl 10 rfl) ?_
          rw [← kr, ← Option.some.inj hE]
          exact xs_iret (pc := 59) hx hb hr hlk G d_R_order_59
        · have hE := xs_f hE hc
          refine lv_iload (pc := 51) hx hb d_R_order_51 (lv_at hl 10 rfl) ?_
          refine lv_ineg (pc := 53) hx hb d_R_order_53 ?_
          refine lv_goto (pc := 54) (tgt := 59) hx hb d_R_order_54 (by decide) ?_
          rw [← kr, ← Option.some.inj hE]
          exact xs_iret (pc := 59) hx hb hr hlk G d_R_order_59
  unfold fn_R_order at hE
  refine lv_lload_n (pc := 0) hx hb d_R_order_0 rfl (lv_at hl 0 rfl) ?_
  refine lv_lstore (pc := 1) hx hb d_R_order_1 hl (by decide) (lv' := [(8, .long (x0)), (0, .long (x0)), (2, .long (x1)), (4, .long (x2)), (6, .long (x3))]) rfl (fun ls hl => ?_)
  refine lv_lload_n (pc := 3) hx hb d_R_order_3 rfl (lv_at hl 2 rfl) ?_
  refine lv_lstore (pc := 4) hx hb d_R_order_4 hl (by decide) (lv' := [(10, .long (x1)), (8, .long (x0)), (0, .long (x0)), (2, .long (x1)), (4, .long (x2)), (6, .long (x3))]) rfl (fun ls hl => ?_)
  refine lv_lload (pc := 6) hx hb d_R_order_6 (lv_at hl 4 rfl) ?_
  refine lv_lstore (pc := 8) hx hb d_R_order_8 hl (by decide) (lv' := [(12, .long (x2)), (10, .long (x1)), (8, .long (x0)), (0, .long (x0)), (2, .long (x1)), (4, .long (x2)), (6, .long (x3))]) rfl (fun ls hl => ?_)
  refine lv_lload (pc := 10) hx hb d_R_order_10 (lv_at hl 6 rfl) ?_
  refine lv_lstore (pc := 12) hx hb d_R_order_12 hl (by decide) (lv' := [(14, .long (x3)), (12, .long (x2)), (10, .long (x1)), (8, .long (x0)), (0, .long (x0)), (2, .long (x1)), (4, .long (x2)), (6, .long (x3))]) rfl (fun ls hl => ?_)
  refine lv_iconst (pc := 14) (v := (1 : Int32)) hx hb d_R_order_14 (by decide) ?_
  refine lv_istore (pc := 15) hx hb d_R_order_15 hl (by decide) (lv' := [(16, .int ((1 : Int32))), (14, .long (x3)), (12, .long (x2)), (10, .long (x1)), (8, .long (x0)), (0, .long (x0)), (2, .long (x1)), (4, .long (x2)), (6, .long (x3))]) rfl (fun ls hl => ?_)
  exact L17 _ _ _ _ _ _ _ _ _ _ _ _ _ _ hE G (lv_sub hl [5, 6, 7, 8, 4, 3, 2, 1, 0] rfl) rfl
def fn_R_isPixel (μ0 : xs_M) (x0 : Int32) (x1 : Int32) : Option Int32 :=
  (if x0 < 0 then some ((0 : Int32)) else (if (16 : Int32) ≤ x0 then some ((0 : Int32)) else (if x1 < 0 then some ((0 : Int32)) else (if (12 : Int32) ≤ x1 then some ((0 : Int32)) else some ((1 : Int32))))))
set_option maxHeartbeats 4000000 in
set_option maxRecDepth 100000 in
theorem ok_R_isPixel (l : Launch) (D : va_G) (ad : Nat → Nat) (cs : xs_cs) (hJ : xs_J ad) {μ0 : xs_M} {x0 : Int32} {x1 : Int32}  {rz : Int32} (hE : fn_R_isPixel μ0 x0 x1 = some rz) : xs_I l D ad cs y_R_isPixel b_R_isPixel 2 (some .boolean) 0 0 [.int (x0), .int (x1)] μ0 (some (.int rz)) μ0 := by
  refine xs_entry hJ (by decide) (Nat.le_of_ble_eq_true rfl) ?_
  intro p e s m below meth c ls X hr hlk G hl
  have X : xs_C p s m c b_R_isPixel 2 _ "ExactSceneModel" := X
  have hx := X.1
  have hb := X.2.1
  have hl : lv_has ls 2 [(0, .int (x0)), (1, .int (x1))] := hl
  unfold fn_R_isPixel at hE
  refine lv_iload_n (pc := 0) hx hb d_R_isPixel_0 rfl (lv_at hl 0 rfl) ?_
  refine lv_if_lt (pc := 1) (tgt := 24) hx hb d_R_isPixel_1 (by decide) (fun hc => ?_) (fun hc => ?_)
  · have hE := xs_t hE hc
    refine lv_iconst (pc := 24) (v := (0 : Int32)) hx hb d_R_isPixel_24 (by decide) ?_
    cases hE
    exact xs_zret (pc := 25) hx hb hr hlk G (Or.inl rfl) d_R_isPixel_25
  · have hE := xs_f hE hc
    refine lv_iload_n (pc := 4) hx hb d_R_isPixel_4 rfl (lv_at hl 0 rfl) ?_
    refine lv_bipush (pc := 5) (v := (16 : Int32)) hx hb d_R_isPixel_5 (by decide) ?_
    refine lv_icmp_ge (pc := 7) (tgt := 24) hx hb d_R_isPixel_7 (by decide) (fun hc => ?_) (fun hc => ?_)
    · have hE := xs_t hE hc
      refine lv_iconst (pc := 24) (v := (0 : Int32)) hx hb d_R_isPixel_24 (by decide) ?_
      cases hE
      exact xs_zret (pc := 25) hx hb hr hlk G (Or.inl rfl) d_R_isPixel_25
    · have hE := xs_f hE hc
      refine lv_iload_n (pc := 10) hx hb d_R_isPixel_10 rfl (lv_at hl 1 rfl) ?_
      refine lv_if_lt (pc := 11) (tgt := 24) hx hb d_R_isPixel_11 (by decide) (fun hc => ?_) (fun hc => ?_)
      · have hE := xs_t hE hc
        refine lv_iconst (pc := 24) (v := (0 : Int32)) hx hb d_R_isPixel_24 (by decide) ?_
        cases hE
        exact xs_zret (pc := 25) hx hb hr hlk G (Or.inl rfl) d_R_isPixel_25
      · have hE := xs_f hE hc
        refine lv_iload_n (pc := 14) hx hb d_R_isPixel_14 rfl (lv_at hl 1 rfl) ?_
        refine lv_bipush (pc := 15) (v := (12 : Int32)) hx hb d_R_isPixel_15 (by decide) ?_
        refine lv_icmp_ge (pc := 17) (tgt := 24) hx hb d_R_isPixel_17 (by decide) (fun hc => ?_) (fun hc => ?_)
        · have hE := xs_t hE hc
          refine lv_iconst (pc := 24) (v := (0 : Int32)) hx hb d_R_isPixel_24 (by decide) ?_
          cases hE
          exact xs_zret (pc := 25) hx hb hr hlk G (Or.inl rfl) d_R_isPixel_25
        · have hE := xs_f hE hc
          refine lv_iconst (pc := 20) (v := (1 : Int32)) hx hb d_R_isPixel_20 (by decide) ?_
          refine lv_goto (pc := 21) (tgt := 25) hx hb d_R_isPixel_21 (by decide) ?_
          cases hE
          exact xs_zret (pc := 25) hx hb hr hlk G (Or.inr rfl) d_R_isPixel_25
