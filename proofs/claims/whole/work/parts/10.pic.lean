theorem d_P_wipe_0 : decode b_P_wipe 0 = .ok (.iconst 0, 1) := by decide +kernel
theorem d_P_wipe_1 : decode b_P_wipe 1 = .ok (.istore_n 2, 1) := by decide +kernel
theorem d_P_wipe_2 : decode b_P_wipe 2 = .ok (.iload_n 2, 1) := by decide +kernel
theorem d_P_wipe_3 : decode b_P_wipe 3 = .ok (.sipush (192), 3) := by decide +kernel
theorem d_P_wipe_6 : decode b_P_wipe 6 = .ok (.if_icmp .ge (23), 3) := by decide +kernel
theorem d_P_wipe_9 : decode b_P_wipe 9 = .ok (.aload_n 0, 1) := by decide +kernel
theorem d_P_wipe_10 : decode b_P_wipe 10 = .ok (.getfield 11, 3) := by decide +kernel
theorem d_P_wipe_13 : decode b_P_wipe 13 = .ok (.iload_n 2, 1) := by decide +kernel
theorem d_P_wipe_14 : decode b_P_wipe 14 = .ok (.iload_n 1, 1) := by decide +kernel
theorem d_P_wipe_15 : decode b_P_wipe 15 = .ok (.iastore, 1) := by decide +kernel
theorem d_P_wipe_16 : decode b_P_wipe 16 = .ok (.aload_n 0, 1) := by decide +kernel
theorem d_P_wipe_17 : decode b_P_wipe 17 = .ok (.getfield 15, 3) := by decide +kernel
theorem d_P_wipe_20 : decode b_P_wipe 20 = .ok (.iload_n 2, 1) := by decide +kernel
theorem d_P_wipe_21 : decode b_P_wipe 21 = .ok (.iconst (-1), 1) := by decide +kernel
theorem d_P_wipe_22 : decode b_P_wipe 22 = .ok (.iastore, 1) := by decide +kernel
theorem d_P_wipe_23 : decode b_P_wipe 23 = .ok (.iinc 2 (1), 3) := by decide +kernel
theorem d_P_wipe_26 : decode b_P_wipe 26 = .ok (.goto (-24), 3) := by decide +kernel
theorem d_P_wipe_29 : decode b_P_wipe 29 = .ok (.return_, 1) := by decide +kernel
theorem d_P_indexOf_0 : decode b_P_indexOf 0 = .ok (.iload_n 1, 1) := by decide +kernel
theorem d_P_indexOf_1 : decode b_P_indexOf 1 = .ok (.bipush (16), 2) := by decide +kernel
theorem d_P_indexOf_3 : decode b_P_indexOf 3 = .ok (.imul, 1) := by decide +kernel
theorem d_P_indexOf_4 : decode b_P_indexOf 4 = .ok (.iload_n 0, 1) := by decide +kernel
theorem d_P_indexOf_5 : decode b_P_indexOf 5 = .ok (.iadd, 1) := by decide +kernel
theorem d_P_indexOf_6 : decode b_P_indexOf 6 = .ok (.ireturn, 1) := by decide +kernel
theorem d_P_isOwned_0 : decode b_P_isOwned 0 = .ok (.aload_n 0, 1) := by decide +kernel
theorem d_P_isOwned_1 : decode b_P_isOwned 1 = .ok (.getfield 15, 3) := by decide +kernel
theorem d_P_isOwned_4 : decode b_P_isOwned 4 = .ok (.iload_n 1, 1) := by decide +kernel
theorem d_P_isOwned_5 : decode b_P_isOwned 5 = .ok (.iaload, 1) := by decide +kernel
theorem d_P_isOwned_6 : decode b_P_isOwned 6 = .ok (.iconst (-1), 1) := by decide +kernel
theorem d_P_isOwned_7 : decode b_P_isOwned 7 = .ok (.if_icmp .eq (7), 3) := by decide +kernel
theorem d_P_isOwned_10 : decode b_P_isOwned 10 = .ok (.iconst 1, 1) := by decide +kernel
theorem d_P_isOwned_11 : decode b_P_isOwned 11 = .ok (.goto (4), 3) := by decide +kernel
theorem d_P_isOwned_14 : decode b_P_isOwned 14 = .ok (.iconst 0, 1) := by decide +kernel
theorem d_P_isOwned_15 : decode b_P_isOwned 15 = .ok (.ireturn, 1) := by decide +kernel
theorem d_P_compareQuotients_0 : decode b_P_compareQuotients 0 = .ok (.lload_n 0, 1) := by decide +kernel
theorem d_P_compareQuotients_1 : decode b_P_compareQuotients 1 = .ok (.ldc2_w 67, 3) := by decide +kernel
theorem d_P_compareQuotients_4 : decode b_P_compareQuotients 4 = .ok (.land, 1) := by decide +kernel
theorem d_P_compareQuotients_5 : decode b_P_compareQuotients 5 = .ok (.lload 6, 2) := by decide +kernel
theorem d_P_compareQuotients_7 : decode b_P_compareQuotients 7 = .ok (.ldc2_w 67, 3) := by decide +kernel
theorem d_P_compareQuotients_10 : decode b_P_compareQuotients 10 = .ok (.land, 1) := by decide +kernel
theorem d_P_compareQuotients_11 : decode b_P_compareQuotients 11 = .ok (.lmul, 1) := by decide +kernel
theorem d_P_compareQuotients_12 : decode b_P_compareQuotients 12 = .ok (.lload 4, 2) := by decide +kernel
theorem d_P_compareQuotients_14 : decode b_P_compareQuotients 14 = .ok (.ldc2_w 67, 3) := by decide +kernel
theorem d_P_compareQuotients_17 : decode b_P_compareQuotients 17 = .ok (.land, 1) := by decide +kernel
theorem d_P_compareQuotients_18 : decode b_P_compareQuotients 18 = .ok (.lload_n 2, 1) := by decide +kernel
theorem d_P_compareQuotients_19 : decode b_P_compareQuotients 19 = .ok (.ldc2_w 67, 3) := by decide +kernel
theorem d_P_compareQuotients_22 : decode b_P_compareQuotients 22 = .ok (.land, 1) := by decide +kernel
theorem d_P_compareQuotients_23 : decode b_P_compareQuotients 23 = .ok (.lmul, 1) := by decide +kernel
theorem d_P_compareQuotients_24 : decode b_P_compareQuotients 24 = .ok (.lsub, 1) := by decide +kernel
theorem d_P_compareQuotients_25 : decode b_P_compareQuotients 25 = .ok (.lstore 8, 2) := by decide +kernel
theorem d_P_compareQuotients_27 : decode b_P_compareQuotients 27 = .ok (.lload_n 0, 1) := by decide +kernel
theorem d_P_compareQuotients_28 : decode b_P_compareQuotients 28 = .ok (.bipush (30), 2) := by decide +kernel
theorem d_P_compareQuotients_30 : decode b_P_compareQuotients 30 = .ok (.lshr, 1) := by decide +kernel
theorem d_P_compareQuotients_31 : decode b_P_compareQuotients 31 = .ok (.lload 6, 2) := by decide +kernel
theorem d_P_compareQuotients_33 : decode b_P_compareQuotients 33 = .ok (.ldc2_w 67, 3) := by decide +kernel
theorem d_P_compareQuotients_36 : decode b_P_compareQuotients 36 = .ok (.land, 1) := by decide +kernel
theorem d_P_compareQuotients_37 : decode b_P_compareQuotients 37 = .ok (.lmul, 1) := by decide +kernel
theorem d_P_compareQuotients_38 : decode b_P_compareQuotients 38 = .ok (.lload_n 0, 1) := by decide +kernel
theorem d_P_compareQuotients_39 : decode b_P_compareQuotients 39 = .ok (.ldc2_w 67, 3) := by decide +kernel
theorem d_P_compareQuotients_42 : decode b_P_compareQuotients 42 = .ok (.land, 1) := by decide +kernel
theorem d_P_compareQuotients_43 : decode b_P_compareQuotients 43 = .ok (.lload 6, 2) := by decide +kernel
theorem d_P_compareQuotients_45 : decode b_P_compareQuotients 45 = .ok (.bipush (30), 2) := by decide +kernel
theorem d_P_compareQuotients_47 : decode b_P_compareQuotients 47 = .ok (.lshr, 1) := by decide +kernel
theorem d_P_compareQuotients_48 : decode b_P_compareQuotients 48 = .ok (.lmul, 1) := by decide +kernel
theorem d_P_compareQuotients_49 : decode b_P_compareQuotients 49 = .ok (.ladd, 1) := by decide +kernel
theorem d_P_compareQuotients_50 : decode b_P_compareQuotients 50 = .ok (.lload 4, 2) := by decide +kernel
theorem d_P_compareQuotients_52 : decode b_P_compareQuotients 52 = .ok (.bipush (30), 2) := by decide +kernel
theorem d_P_compareQuotients_54 : decode b_P_compareQuotients 54 = .ok (.lshr, 1) := by decide +kernel
theorem d_P_compareQuotients_55 : decode b_P_compareQuotients 55 = .ok (.lload_n 2, 1) := by decide +kernel
theorem d_P_compareQuotients_56 : decode b_P_compareQuotients 56 = .ok (.ldc2_w 67, 3) := by decide +kernel
theorem d_P_compareQuotients_59 : decode b_P_compareQuotients 59 = .ok (.land, 1) := by decide +kernel
theorem d_P_compareQuotients_60 : decode b_P_compareQuotients 60 = .ok (.lmul, 1) := by decide +kernel
theorem d_P_compareQuotients_61 : decode b_P_compareQuotients 61 = .ok (.lsub, 1) := by decide +kernel
theorem d_P_compareQuotients_62 : decode b_P_compareQuotients 62 = .ok (.lload 4, 2) := by decide +kernel
theorem d_P_compareQuotients_64 : decode b_P_compareQuotients 64 = .ok (.ldc2_w 67, 3) := by decide +kernel
theorem d_P_compareQuotients_67 : decode b_P_compareQuotients 67 = .ok (.land, 1) := by decide +kernel
theorem d_P_compareQuotients_68 : decode b_P_compareQuotients 68 = .ok (.lload_n 2, 1) := by decide +kernel
theorem d_P_compareQuotients_69 : decode b_P_compareQuotients 69 = .ok (.bipush (30), 2) := by decide +kernel
theorem d_P_compareQuotients_71 : decode b_P_compareQuotients 71 = .ok (.lshr, 1) := by decide +kernel
theorem d_P_compareQuotients_72 : decode b_P_compareQuotients 72 = .ok (.lmul, 1) := by decide +kernel
theorem d_P_compareQuotients_73 : decode b_P_compareQuotients 73 = .ok (.lsub, 1) := by decide +kernel
theorem d_P_compareQuotients_74 : decode b_P_compareQuotients 74 = .ok (.lload 8, 2) := by decide +kernel
theorem d_P_compareQuotients_76 : decode b_P_compareQuotients 76 = .ok (.bipush (30), 2) := by decide +kernel
theorem d_P_compareQuotients_78 : decode b_P_compareQuotients 78 = .ok (.lshr, 1) := by decide +kernel
theorem d_P_compareQuotients_79 : decode b_P_compareQuotients 79 = .ok (.ladd, 1) := by decide +kernel
theorem d_P_compareQuotients_80 : decode b_P_compareQuotients 80 = .ok (.lstore 10, 2) := by decide +kernel
theorem d_P_compareQuotients_82 : decode b_P_compareQuotients 82 = .ok (.lload_n 0, 1) := by decide +kernel
theorem d_P_compareQuotients_83 : decode b_P_compareQuotients 83 = .ok (.bipush (30), 2) := by decide +kernel
theorem d_P_compareQuotients_85 : decode b_P_compareQuotients 85 = .ok (.lshr, 1) := by decide +kernel
theorem d_P_compareQuotients_86 : decode b_P_compareQuotients 86 = .ok (.lload 6, 2) := by decide +kernel
theorem d_P_compareQuotients_88 : decode b_P_compareQuotients 88 = .ok (.bipush (30), 2) := by decide +kernel
theorem d_P_compareQuotients_90 : decode b_P_compareQuotients 90 = .ok (.lshr, 1) := by decide +kernel
theorem d_P_compareQuotients_91 : decode b_P_compareQuotients 91 = .ok (.lmul, 1) := by decide +kernel
theorem d_P_compareQuotients_92 : decode b_P_compareQuotients 92 = .ok (.lload 4, 2) := by decide +kernel
theorem d_P_compareQuotients_94 : decode b_P_compareQuotients 94 = .ok (.bipush (30), 2) := by decide +kernel
theorem d_P_compareQuotients_96 : decode b_P_compareQuotients 96 = .ok (.lshr, 1) := by decide +kernel
theorem d_P_compareQuotients_97 : decode b_P_compareQuotients 97 = .ok (.lload_n 2, 1) := by decide +kernel
theorem d_P_compareQuotients_98 : decode b_P_compareQuotients 98 = .ok (.bipush (30), 2) := by decide +kernel
theorem d_P_compareQuotients_100 : decode b_P_compareQuotients 100 = .ok (.lshr, 1) := by decide +kernel
theorem d_P_compareQuotients_101 : decode b_P_compareQuotients 101 = .ok (.lmul, 1) := by decide +kernel
theorem d_P_compareQuotients_102 : decode b_P_compareQuotients 102 = .ok (.lsub, 1) := by decide +kernel
theorem d_P_compareQuotients_103 : decode b_P_compareQuotients 103 = .ok (.lload 10, 2) := by decide +kernel
theorem d_P_compareQuotients_105 : decode b_P_compareQuotients 105 = .ok (.bipush (30), 2) := by decide +kernel
theorem d_P_compareQuotients_107 : decode b_P_compareQuotients 107 = .ok (.lshr, 1) := by decide +kernel
theorem d_P_compareQuotients_108 : decode b_P_compareQuotients 108 = .ok (.ladd, 1) := by decide +kernel
theorem d_P_compareQuotients_109 : decode b_P_compareQuotients 109 = .ok (.lstore 12, 2) := by decide +kernel
theorem d_P_compareQuotients_111 : decode b_P_compareQuotients 111 = .ok (.lload 12, 2) := by decide +kernel
theorem d_P_compareQuotients_113 : decode b_P_compareQuotients 113 = .ok (.lconst 0, 1) := by decide +kernel
theorem d_P_compareQuotients_114 : decode b_P_compareQuotients 114 = .ok (.lcmp, 1) := by decide +kernel
theorem d_P_compareQuotients_115 : decode b_P_compareQuotients 115 = .ok (.ifCond .eq (16), 3) := by decide +kernel
theorem d_P_compareQuotients_118 : decode b_P_compareQuotients 118 = .ok (.lload 12, 2) := by decide +kernel
theorem d_P_compareQuotients_120 : decode b_P_compareQuotients 120 = .ok (.lconst 0, 1) := by decide +kernel
theorem d_P_compareQuotients_121 : decode b_P_compareQuotients 121 = .ok (.lcmp, 1) := by decide +kernel
theorem d_P_compareQuotients_122 : decode b_P_compareQuotients 122 = .ok (.ifCond .ge (7), 3) := by decide +kernel
theorem d_P_compareQuotients_125 : decode b_P_compareQuotients 125 = .ok (.iconst (-1), 1) := by decide +kernel
theorem d_P_compareQuotients_126 : decode b_P_compareQuotients 126 = .ok (.goto (4), 3) := by decide +kernel
theorem d_P_compareQuotients_129 : decode b_P_compareQuotients 129 = .ok (.iconst 1, 1) := by decide +kernel
theorem d_P_compareQuotients_130 : decode b_P_compareQuotients 130 = .ok (.ireturn, 1) := by decide +kernel
theorem d_P_compareQuotients_131 : decode b_P_compareQuotients 131 = .ok (.lload 10, 2) := by decide +kernel
theorem d_P_compareQuotients_133 : decode b_P_compareQuotients 133 = .ok (.ldc2_w 67, 3) := by decide +kernel
theorem d_P_compareQuotients_136 : decode b_P_compareQuotients 136 = .ok (.land, 1) := by decide +kernel
theorem d_P_compareQuotients_137 : decode b_P_compareQuotients 137 = .ok (.lconst 0, 1) := by decide +kernel
theorem d_P_compareQuotients_138 : decode b_P_compareQuotients 138 = .ok (.lcmp, 1) := by decide +kernel
theorem d_P_compareQuotients_139 : decode b_P_compareQuotients 139 = .ok (.ifCond .ne (18), 3) := by decide +kernel
theorem d_P_compareQuotients_142 : decode b_P_compareQuotients 142 = .ok (.lload 8, 2) := by decide +kernel
theorem d_P_compareQuotients_144 : decode b_P_compareQuotients 144 = .ok (.ldc2_w 67, 3) := by decide +kernel
theorem d_P_compareQuotients_147 : decode b_P_compareQuotients 147 = .ok (.land, 1) := by decide +kernel
theorem d_P_compareQuotients_148 : decode b_P_compareQuotients 148 = .ok (.lconst 0, 1) := by decide +kernel
theorem d_P_compareQuotients_149 : decode b_P_compareQuotients 149 = .ok (.lcmp, 1) := by decide +kernel
theorem d_P_compareQuotients_150 : decode b_P_compareQuotients 150 = .ok (.ifCond .ne (7), 3) := by decide +kernel
theorem d_P_compareQuotients_153 : decode b_P_compareQuotients 153 = .ok (.iconst 0, 1) := by decide +kernel
theorem d_P_compareQuotients_154 : decode b_P_compareQuotients 154 = .ok (.goto (4), 3) := by decide +kernel
theorem d_P_compareQuotients_157 : decode b_P_compareQuotients 157 = .ok (.iconst 1, 1) := by decide +kernel
theorem d_P_compareQuotients_158 : decode b_P_compareQuotients 158 = .ok (.ireturn, 1) := by decide +kernel
theorem d_P_offerPixel_0 : decode b_P_offerPixel 0 = .ok (.aload_n 0, 1) := by decide +kernel
theorem d_P_offerPixel_1 : decode b_P_offerPixel 1 = .ok (.iload_n 1, 1) := by decide +kernel
theorem d_P_offerPixel_2 : decode b_P_offerPixel 2 = .ok (.invokevirtual 63, 3) := by decide +kernel
theorem d_P_offerPixel_5 : decode b_P_offerPixel 5 = .ok (.ifCond .eq (24), 3) := by decide +kernel
theorem d_P_offerPixel_8 : decode b_P_offerPixel 8 = .ok (.lload_n 3, 1) := by decide +kernel
theorem d_P_offerPixel_9 : decode b_P_offerPixel 9 = .ok (.lload 5, 2) := by decide +kernel
theorem d_P_offerPixel_11 : decode b_P_offerPixel 11 = .ok (.aload_n 0, 1) := by decide +kernel
theorem d_P_offerPixel_12 : decode b_P_offerPixel 12 = .ok (.getfield 18, 3) := by decide +kernel
theorem d_P_offerPixel_15 : decode b_P_offerPixel 15 = .ok (.iload_n 1, 1) := by decide +kernel
theorem d_P_offerPixel_16 : decode b_P_offerPixel 16 = .ok (.laload, 1) := by decide +kernel
theorem d_P_offerPixel_17 : decode b_P_offerPixel 17 = .ok (.aload_n 0, 1) := by decide +kernel
theorem d_P_offerPixel_18 : decode b_P_offerPixel 18 = .ok (.getfield 22, 3) := by decide +kernel
theorem d_P_offerPixel_21 : decode b_P_offerPixel 21 = .ok (.iload_n 1, 1) := by decide +kernel
theorem d_P_offerPixel_22 : decode b_P_offerPixel 22 = .ok (.laload, 1) := by decide +kernel
theorem d_P_offerPixel_23 : decode b_P_offerPixel 23 = .ok (.invokestatic 55, 3) := by decide +kernel
theorem d_P_offerPixel_26 : decode b_P_offerPixel 26 = .ok (.ifCond .ge (25), 3) := by decide +kernel
theorem d_P_offerPixel_29 : decode b_P_offerPixel 29 = .ok (.aload_n 0, 1) := by decide +kernel
theorem d_P_offerPixel_30 : decode b_P_offerPixel 30 = .ok (.getfield 15, 3) := by decide +kernel
theorem d_P_offerPixel_33 : decode b_P_offerPixel 33 = .ok (.iload_n 1, 1) := by decide +kernel
theorem d_P_offerPixel_34 : decode b_P_offerPixel 34 = .ok (.iload_n 2, 1) := by decide +kernel
theorem d_P_offerPixel_35 : decode b_P_offerPixel 35 = .ok (.iastore, 1) := by decide +kernel
theorem d_P_offerPixel_36 : decode b_P_offerPixel 36 = .ok (.aload_n 0, 1) := by decide +kernel
theorem d_P_offerPixel_37 : decode b_P_offerPixel 37 = .ok (.getfield 18, 3) := by decide +kernel
theorem d_P_offerPixel_40 : decode b_P_offerPixel 40 = .ok (.iload_n 1, 1) := by decide +kernel
theorem d_P_offerPixel_41 : decode b_P_offerPixel 41 = .ok (.lload_n 3, 1) := by decide +kernel
theorem d_P_offerPixel_42 : decode b_P_offerPixel 42 = .ok (.lastore, 1) := by decide +kernel
theorem d_P_offerPixel_43 : decode b_P_offerPixel 43 = .ok (.aload_n 0, 1) := by decide +kernel
theorem d_P_offerPixel_44 : decode b_P_offerPixel 44 = .ok (.getfield 22, 3) := by decide +kernel
theorem d_P_offerPixel_47 : decode b_P_offerPixel 47 = .ok (.iload_n 1, 1) := by decide +kernel
theorem d_P_offerPixel_48 : decode b_P_offerPixel 48 = .ok (.lload 5, 2) := by decide +kernel
theorem d_P_offerPixel_50 : decode b_P_offerPixel 50 = .ok (.lastore, 1) := by decide +kernel
theorem d_P_offerPixel_51 : decode b_P_offerPixel 51 = .ok (.return_, 1) := by decide +kernel
theorem d_P_offerTriangle_0 : decode b_P_offerTriangle 0 = .ok (.iconst 0, 1) := by decide +kernel
theorem d_P_offerTriangle_1 : decode b_P_offerTriangle 1 = .ok (.istore_n 3, 1) := by decide +kernel
theorem d_P_offerTriangle_2 : decode b_P_offerTriangle 2 = .ok (.iload_n 3, 1) := by decide +kernel
theorem d_P_offerTriangle_3 : decode b_P_offerTriangle 3 = .ok (.bipush (12), 2) := by decide +kernel
theorem d_P_offerTriangle_5 : decode b_P_offerTriangle 5 = .ok (.if_icmp .ge (57), 3) := by decide +kernel
theorem d_P_offerTriangle_8 : decode b_P_offerTriangle 8 = .ok (.iconst 0, 1) := by decide +kernel
theorem d_P_offerTriangle_9 : decode b_P_offerTriangle 9 = .ok (.istore 4, 2) := by decide +kernel
theorem d_P_offerTriangle_11 : decode b_P_offerTriangle 11 = .ok (.iload 4, 2) := by decide +kernel
theorem d_P_offerTriangle_13 : decode b_P_offerTriangle 13 = .ok (.bipush (16), 2) := by decide +kernel
theorem d_P_offerTriangle_15 : decode b_P_offerTriangle 15 = .ok (.if_icmp .ge (41), 3) := by decide +kernel
theorem d_P_offerTriangle_18 : decode b_P_offerTriangle 18 = .ok (.aload_n 2, 1) := by decide +kernel
theorem d_P_offerTriangle_19 : decode b_P_offerTriangle 19 = .ok (.iload 4, 2) := by decide +kernel
theorem d_P_offerTriangle_21 : decode b_P_offerTriangle 21 = .ok (.iload_n 3, 1) := by decide +kernel
theorem d_P_offerTriangle_22 : decode b_P_offerTriangle 22 = .ok (.invokevirtual 33, 3) := by decide +kernel
theorem d_P_offerTriangle_25 : decode b_P_offerTriangle 25 = .ok (.ifCond .eq (25), 3) := by decide +kernel
theorem d_P_offerTriangle_28 : decode b_P_offerTriangle 28 = .ok (.aload_n 0, 1) := by decide +kernel
theorem d_P_offerTriangle_29 : decode b_P_offerTriangle 29 = .ok (.iload 4, 2) := by decide +kernel
theorem d_P_offerTriangle_31 : decode b_P_offerTriangle 31 = .ok (.iload_n 3, 1) := by decide +kernel
theorem d_P_offerTriangle_32 : decode b_P_offerTriangle 32 = .ok (.invokestatic 39, 3) := by decide +kernel
theorem d_P_offerTriangle_35 : decode b_P_offerTriangle 35 = .ok (.iload_n 1, 1) := by decide +kernel
theorem d_P_offerTriangle_36 : decode b_P_offerTriangle 36 = .ok (.aload_n 2, 1) := by decide +kernel
theorem d_P_offerTriangle_37 : decode b_P_offerTriangle 37 = .ok (.iload 4, 2) := by decide +kernel
theorem d_P_offerTriangle_39 : decode b_P_offerTriangle 39 = .ok (.iload_n 3, 1) := by decide +kernel
theorem d_P_offerTriangle_40 : decode b_P_offerTriangle 40 = .ok (.invokevirtual 43, 3) := by decide +kernel
theorem d_P_offerTriangle_43 : decode b_P_offerTriangle 43 = .ok (.aload_n 2, 1) := by decide +kernel
theorem d_P_offerTriangle_44 : decode b_P_offerTriangle 44 = .ok (.getfield 47, 3) := by decide +kernel
theorem d_P_offerTriangle_47 : decode b_P_offerTriangle 47 = .ok (.invokevirtual 51, 3) := by decide +kernel
theorem d_P_offerTriangle_50 : decode b_P_offerTriangle 50 = .ok (.iinc 4 (1), 3) := by decide +kernel
theorem d_P_offerTriangle_53 : decode b_P_offerTriangle 53 = .ok (.goto (-42), 3) := by decide +kernel
theorem d_P_offerTriangle_56 : decode b_P_offerTriangle 56 = .ok (.iinc 3 (1), 3) := by decide +kernel
theorem d_P_offerTriangle_59 : decode b_P_offerTriangle 59 = .ok (.goto (-57), 3) := by decide +kernel
theorem d_P_offerTriangle_62 : decode b_P_offerTriangle 62 = .ok (.return_, 1) := by decide +kernel
theorem d_P_isPixel_0 : decode b_P_isPixel 0 = .ok (.iload_n 0, 1) := by decide +kernel
theorem d_P_isPixel_1 : decode b_P_isPixel 1 = .ok (.iconst 0, 1) := by decide +kernel
theorem d_P_isPixel_2 : decode b_P_isPixel 2 = .ok (.bipush (15), 2) := by decide +kernel
theorem d_P_isPixel_4 : decode b_P_isPixel 4 = .ok (.invokestatic 29, 3) := by decide +kernel
theorem d_P_isPixel_7 : decode b_P_isPixel 7 = .ok (.ifCond .eq (17), 3) := by decide +kernel
theorem d_P_isPixel_10 : decode b_P_isPixel 10 = .ok (.iload_n 1, 1) := by decide +kernel
theorem d_P_isPixel_11 : decode b_P_isPixel 11 = .ok (.iconst 0, 1) := by decide +kernel
theorem d_P_isPixel_12 : decode b_P_isPixel 12 = .ok (.bipush (11), 2) := by decide +kernel
theorem d_P_isPixel_14 : decode b_P_isPixel 14 = .ok (.invokestatic 29, 3) := by decide +kernel
theorem d_P_isPixel_17 : decode b_P_isPixel 17 = .ok (.ifCond .eq (7), 3) := by decide +kernel
theorem d_P_isPixel_20 : decode b_P_isPixel 20 = .ok (.iconst 1, 1) := by decide +kernel
theorem d_P_isPixel_21 : decode b_P_isPixel 21 = .ok (.goto (4), 3) := by decide +kernel
theorem d_P_isPixel_24 : decode b_P_isPixel 24 = .ok (.iconst 0, 1) := by decide +kernel
theorem d_P_isPixel_25 : decode b_P_isPixel 25 = .ok (.ireturn, 1) := by decide +kernel
theorem d_P_compareDepths_0 : decode b_P_compareDepths 0 = .ok (.aload_n 0, 1) := by decide +kernel
theorem d_P_compareDepths_1 : decode b_P_compareDepths 1 = .ok (.getfield 18, 3) := by decide +kernel
theorem d_P_compareDepths_4 : decode b_P_compareDepths 4 = .ok (.iload_n 1, 1) := by decide +kernel
theorem d_P_compareDepths_5 : decode b_P_compareDepths 5 = .ok (.laload, 1) := by decide +kernel
theorem d_P_compareDepths_6 : decode b_P_compareDepths 6 = .ok (.aload_n 0, 1) := by decide +kernel
theorem d_P_compareDepths_7 : decode b_P_compareDepths 7 = .ok (.getfield 22, 3) := by decide +kernel
theorem d_P_compareDepths_10 : decode b_P_compareDepths 10 = .ok (.iload_n 1, 1) := by decide +kernel
theorem d_P_compareDepths_11 : decode b_P_compareDepths 11 = .ok (.laload, 1) := by decide +kernel
theorem d_P_compareDepths_12 : decode b_P_compareDepths 12 = .ok (.aload_n 0, 1) := by decide +kernel
theorem d_P_compareDepths_13 : decode b_P_compareDepths 13 = .ok (.getfield 18, 3) := by decide +kernel
theorem d_P_compareDepths_16 : decode b_P_compareDepths 16 = .ok (.iload_n 2, 1) := by decide +kernel
theorem d_P_compareDepths_17 : decode b_P_compareDepths 17 = .ok (.laload, 1) := by decide +kernel
theorem d_P_compareDepths_18 : decode b_P_compareDepths 18 = .ok (.aload_n 0, 1) := by decide +kernel
theorem d_P_compareDepths_19 : decode b_P_compareDepths 19 = .ok (.getfield 22, 3) := by decide +kernel
theorem d_P_compareDepths_22 : decode b_P_compareDepths 22 = .ok (.iload_n 2, 1) := by decide +kernel
theorem d_P_compareDepths_23 : decode b_P_compareDepths 23 = .ok (.laload, 1) := by decide +kernel
theorem d_P_compareDepths_24 : decode b_P_compareDepths 24 = .ok (.invokestatic 55, 3) := by decide +kernel
theorem d_P_compareDepths_27 : decode b_P_compareDepths 27 = .ok (.ireturn, 1) := by decide +kernel
theorem d_P_wholeDepth_0 : decode b_P_wholeDepth 0 = .ok (.aload_n 0, 1) := by decide +kernel
theorem d_P_wholeDepth_1 : decode b_P_wholeDepth 1 = .ok (.getfield 18, 3) := by decide +kernel
theorem d_P_wholeDepth_4 : decode b_P_wholeDepth 4 = .ok (.iload_n 1, 1) := by decide +kernel
theorem d_P_wholeDepth_5 : decode b_P_wholeDepth 5 = .ok (.laload, 1) := by decide +kernel
theorem d_P_wholeDepth_6 : decode b_P_wholeDepth 6 = .ok (.aload_n 0, 1) := by decide +kernel
theorem d_P_wholeDepth_7 : decode b_P_wholeDepth 7 = .ok (.getfield 22, 3) := by decide +kernel
theorem d_P_wholeDepth_10 : decode b_P_wholeDepth 10 = .ok (.iload_n 1, 1) := by decide +kernel
theorem d_P_wholeDepth_11 : decode b_P_wholeDepth 11 = .ok (.laload, 1) := by decide +kernel
theorem d_P_wholeDepth_12 : decode b_P_wholeDepth 12 = .ok (.invokestatic 59, 3) := by decide +kernel
theorem d_P_wholeDepth_15 : decode b_P_wholeDepth 15 = .ok (.lreturn, 1) := by decide +kernel
def fn_P_wipe_L2 : Nat → xs_M → Int32 → Int32 →  Option (Int32 × xs_M)
  | 0, _, _, _ => none
  | fu + 1, μ, v1, v2 => (if (192 : Int32) ≤ v2 then some ((v2, μ)) else (if xs_in v2 192 = true then ((some (xs_si μ 9 v2.toNatClampNeg (v1))).bind fun μ2 => (if xs_in v2 192 = true then ((some (xs_si μ2 10 v2.toNatClampNeg (-1 : Int32))).bind fun μ4 => fn_P_wipe_L2 fu μ4 v1 (v2 + 1)) else none)) else none))
def fn_P_wipe (μ0 : xs_M) (x0 : Int32) : Option xs_M :=
  ((fn_P_wipe_L2 xs_FU μ0 x0 (0 : Int32)).bind fun z5 => some (z5.2))
set_option maxHeartbeats 4000000 in
set_option maxRecDepth 100000 in
theorem ok_P_wipe (l : Launch) (D : va_G) (ad : Nat → Nat) (cs : xs_cs) (hJ : xs_J ad) {μ0 : xs_M} {x0 : Int32}  {rz : xs_M} (hE : fn_P_wipe μ0 x0 = some rz) : xs_I l D ad cs y_P_wipe b_P_wipe 3 none 0 0 [.ref (ad 8), .int (x0)] μ0 none rz := by
  refine xs_entry hJ (by decide) (Nat.le_of_ble_eq_true rfl) ?_
  intro p e s m below meth c ls X hr hlk G hl
  have X : xs_C p s m c b_P_wipe 3 _ "ExactScene$Picture" := X
  have hx := X.1
  have hb := X.2.1
  have hl : lv_has ls 3 [(0, .ref (ad 8)), (1, .int (x0))] := hl
  have L2 : ∀ (fu : Nat) (μ : xs_M) (v1 : Int32) (v2 : Int32) (H : Heap) (locs : List Loc) (ls : Array Slot) (z : (Int32 × xs_M)), fn_P_wipe_L2 fu μ v1 v2 = some z → xs_G D ad cs s (xs_A ad s.heap.size) s.heap μ H locs → lv_has ls 3 [(0, .ref (ad 8)), (1, .int (v1)), (2, .int (v2))] → (∀ (H : Heap) (locs : List Loc) (ls : Array Slot), xs_G D ad cs s (xs_A ad s.heap.size) s.heap z.2 H locs → lv_has ls 3 [(0, .ref (ad 8)), (1, .int (v1)), (2, .int (z.1))] → W p l e (xs_rm 0 0) s m ([.ref (ad 8), .int (x0)] : List Value).toArray below meth c H locs 0 0 (xs_E below D ad cs [.ref (ad 8), .int (x0)] s none rz) (F0 m 29 ls [])) → W p l e (xs_rm 0 0) s m ([.ref (ad 8), .int (x0)] : List Value).toArray below meth c H locs 0 0 (xs_E below D ad cs [.ref (ad 8), .int (x0)] s none rz) (F0 m 2 ls []) := by
    clear hE hl G
    intro fu
    induction fu with
    | zero =>
      intro μ v1 v2 H locs ls z hE
      rw [fn_P_wipe_L2] at hE
      cases hE
    | succ fu ih =>
      intro μ v1 v2 H locs ls z hE G hl kk
      rw [fn_P_wipe_L2] at hE
      refine lv_iload_n (pc := 2) hx hb d_P_wipe_2 rfl (lv_at hl 2 rfl) ?_
      refine lv_sipush (pc := 3) (v := (192 : Int32)) hx hb d_P_wipe_3 (by decide) ?_
      refine lv_icmp_ge (pc := 6) (tgt := 29) hx hb d_P_wipe_6 (by decide) (fun hc => ?_) (fun hc => ?_)
      · have hE := xs_t hE hc
        cases hE
        exact kk _ _ _ G (lv_sub hl [0, 1, 2] rfl)
      · have hE := xs_f hE hc
        refine lv_aload_n (pc := 9) hx hb d_P_wipe_9 rfl (lv_at hl 0 rfl) ?_
        refine gf_P_11 (pc := 10) X G d_P_wipe_10 ?_
        refine lv_iload_n (pc := 13) hx hb d_P_wipe_13 rfl (lv_at hl 2 rfl) ?_
        refine lv_iload_n (pc := 14) hx hb d_P_wipe_14 rfl (lv_at hl 1 rfl) ?_
        obtain ⟨hi1, hE⟩ := xs_n hE
        refine xs_iast (pc := 15) hx hb G ia_9 (xs_inP hi1) d_P_wipe_15 (fun H locs G => ?_)
        obtain ⟨μ2, hμ2, hE⟩ := xs_b hE
        have G := xs_mv G hμ2
        clear hμ2
        refine lv_aload_n (pc := 16) hx hb d_P_wipe_16 rfl (lv_at hl 0 rfl) ?_
        refine gf_P_15 (pc := 17) X G d_P_wipe_17 ?_
        refine lv_iload_n (pc := 20) hx hb d_P_wipe_20 rfl (lv_at hl 2 rfl) ?_
        refine lv_iconst (pc := 21) (v := (-1 : Int32)) hx hb d_P_wipe_21 (by decide) ?_
        obtain ⟨hi3, hE⟩ := xs_n hE
        refine xs_iast (pc := 22) hx hb G ia_10 (xs_inP hi3) d_P_wipe_22 (fun H locs G => ?_)
        obtain ⟨μ4, hμ4, hE⟩ := xs_b hE
        have G := xs_mv G hμ4
        clear hμ4
        refine lv_iinc (pc := 23) (v := (v2 + 1)) (k := 2) hx hb d_P_wipe_23 hl rfl (xs_inc _) (by decide) (lv' := [(2, .int ((v2 + 1))), (0, .ref (ad 8)), (1, .int (v1))]) rfl (fun ls hl => ?_)
        refine lv_goto (pc := 26) (tgt := 2) hx hb d_P_wipe_26 (by decide) ?_
        exact ih _ _ _ _ _ _ _ hE G (lv_sub hl [1, 2, 0] rfl) kk
  unfold fn_P_wipe at hE
  refine lv_iconst (pc := 0) (v := (0 : Int32)) hx hb d_P_wipe_0 (by decide) ?_
  refine lv_istore_n (pc := 1) hx hb d_P_wipe_1 rfl hl (by decide) (lv' := [(2, .int ((0 : Int32))), (0, .ref (ad 8)), (1, .int (x0))]) rfl (fun ls hl => ?_)
  obtain ⟨z5, hz5, hE⟩ := xs_b hE
  refine L2 _ _ _ _ _ _ _ _ hz5 G (lv_sub hl [1, 2, 0] rfl) (fun H locs ls G hl => ?_)
  cases hE
  exact xs_vret (pc := 29) hx hb hr hlk G d_P_wipe_29
def fn_P_indexOf (μ0 : xs_M) (x0 : Int32) (x1 : Int32) : Option Int32 :=
  some (((x1 * (16 : Int32)) + x0))
set_option maxHeartbeats 4000000 in
set_option maxRecDepth 100000 in
theorem ok_P_indexOf (l : Launch) (D : va_G) (ad : Nat → Nat) (cs : xs_cs) (hJ : xs_J ad) {μ0 : xs_M} {x0 : Int32} {x1 : Int32}  {rz : Int32} (hE : fn_P_indexOf μ0 x0 x1 = some rz) : xs_I l D ad cs y_P_indexOf b_P_indexOf 2 (some .int) 0 0 [.int (x0), .int (x1)] μ0 (some (.int rz)) μ0 := by
  refine xs_entry hJ (by decide) (Nat.le_of_ble_eq_true rfl) ?_
  intro p e s m below meth c ls X hr hlk G hl
  have X : xs_C p s m c b_P_indexOf 2 _ "ExactScene$Picture" := X
  have hx := X.1
  have hb := X.2.1
  have hl : lv_has ls 2 [(0, .int (x0)), (1, .int (x1))] := hl
  unfold fn_P_indexOf at hE
  refine lv_iload_n (pc := 0) hx hb d_P_indexOf_0 rfl (lv_at hl 1 rfl) ?_
  refine lv_bipush (pc := 1) (v := (16 : Int32)) hx hb d_P_indexOf_1 (by decide) ?_
  refine lv_imul (pc := 3) hx hb d_P_indexOf_3 ?_
  refine lv_iload_n (pc := 4) hx hb d_P_indexOf_4 rfl (lv_at hl 0 rfl) ?_
  refine lv_iadd (pc := 5) hx hb d_P_indexOf_5 ?_
  cases hE
  exact xs_iret (pc := 6) hx hb hr hlk G d_P_indexOf_6
def fn_P_isOwned (μ0 : xs_M) (x0 : Int32) : Option Int32 :=
  (if xs_in x0 192 = true then (if (μ0.1 10 x0.toNatClampNeg) = (-1 : Int32) then some ((0 : Int32)) else some ((1 : Int32))) else none)
set_option maxHeartbeats 4000000 in
set_option maxRecDepth 100000 in
theorem ok_P_isOwned (l : Launch) (D : va_G) (ad : Nat → Nat) (cs : xs_cs) (hJ : xs_J ad) {μ0 : xs_M} {x0 : Int32}  {rz : Int32} (hE : fn_P_isOwned μ0 x0 = some rz) : xs_I l D ad cs y_P_isOwned b_P_isOwned 2 (some .boolean) 0 0 [.ref (ad 8), .int (x0)] μ0 (some (.int rz)) μ0 := by
  refine xs_entry hJ (by decide) (Nat.le_of_ble_eq_true rfl) ?_
  intro p e s m below meth c ls X hr hlk G hl
  have X : xs_C p s m c b_P_isOwned 2 _ "ExactScene$Picture" := X
  have hx := X.1
  have hb := X.2.1
  have hl : lv_has ls 2 [(0, .ref (ad 8)), (1, .int (x0))] := hl
  unfold fn_P_isOwned at hE
  refine lv_aload_n (pc := 0) hx hb d_P_isOwned_0 rfl (lv_at hl 0 rfl) ?_
  refine gf_P_15 (pc := 1) X G d_P_isOwned_1 ?_
  refine lv_iload_n (pc := 4) hx hb d_P_isOwned_4 rfl (lv_at hl 1 rfl) ?_
  obtain ⟨hi1, hE⟩ := xs_n hE
  refine xs_iald (pc := 5) hx hb G ia_10 (xs_inP hi1) d_P_isOwned_5 ?_
  refine lv_iconst (pc := 6) (v := (-1 : Int32)) hx hb d_P_isOwned_6 (by decide) ?_
  refine lv_icmp_eq (pc := 7) (tgt := 14) hx hb d_P_isOwned_7 (by decide) (fun hc => ?_) (fun hc => ?_)
  · have hE := xs_t hE hc
    refine lv_iconst (pc := 14) (v := (0 : Int32)) hx hb d_P_isOwned_14 (by decide) ?_
    cases hE
    exact xs_zret (pc := 15) hx hb hr hlk G (Or.inl rfl) d_P_isOwned_15
  · have hE := xs_f hE hc
    refine lv_iconst (pc := 10) (v := (1 : Int32)) hx hb d_P_isOwned_10 (by decide) ?_
    refine lv_goto (pc := 11) (tgt := 15) hx hb d_P_isOwned_11 (by decide) ?_
    cases hE
    exact xs_zret (pc := 15) hx hb hr hlk G (Or.inr rfl) d_P_isOwned_15
def fn_P_compareQuotients (μ0 : xs_M) (x0 : Int64) (x1 : Int64) (x2 : Int64) (x3 : Int64) : Option Int32 :=
  ((some (((x0 &&& (1073741823 : Int64)) * (x3 &&& (1073741823 : Int64))) - ((x2 &&& (1073741823 : Int64)) * (x1 &&& (1073741823 : Int64))))).bind fun a1 => ((some ((((((x0 >>> (((30 : Int32)).toInt64 &&& 63)) * (x3 &&& (1073741823 : Int64))) + ((x0 &&& (1073741823 : Int64)) * (x3 >>> (((30 : Int32)).toInt64 &&& 63)))) - ((x2 >>> (((30 : Int32)).toInt64 &&& 63)) * (x1 &&& (1073741823 : Int64)))) - ((x2 &&& (1073741823 : Int64)) * (x1 >>> (((30 : Int32)).toInt64 &&& 63)))) + (a1 >>> (((30 : Int32)).toInt64 &&& 63)))).bind fun a2 => ((some ((((x0 >>> (((30 : Int32)).toInt64 &&& 63)) * (x3 >>> (((30 : Int32)).toInt64 &&& 63))) - ((x2 >>> (((30 : Int32)).toInt64 &&& 63)) * (x1 >>> (((30 : Int32)).toInt64 &&& 63)))) + (a2 >>> (((30 : Int32)).toInt64 &&& 63)))).bind fun a3 => (if (lg_cmp a3 (0 : Int64)) = 0 then (if (lg_cmp (a2 &&& (1073741823 : Int64)) (0 : Int64)) = 0 then (if (lg_cmp (a1 &&& (1073741823 : Int64)) (0 : Int64)) = 0 then some ((0 : Int32)) else some ((1 : Int32))) else some ((1 : Int32))) else (if 0 ≤ (lg_cmp a3 (0 : Int64)) then some ((1 : Int32)) else some ((-1 : Int32)))))))
set_option maxHeartbeats 4000000 in
set_option maxRecDepth 100000 in
theorem ok_P_compareQuotients (l : Launch) (D : va_G) (ad : Nat → Nat) (cs : xs_cs) (hJ : xs_J ad) {μ0 : xs_M} {x0 : Int64} {x1 : Int64} {x2 : Int64} {x3 : Int64}  {rz : Int32} (hE : fn_P_compareQuotients μ0 x0 x1 x2 x3 = some rz) : xs_I l D ad cs y_P_compareQuotients b_P_compareQuotients 14 (some .int) 0 0 [.long (x0), .long (x1), .long (x2), .long (x3)] μ0 (some (.int rz)) μ0 := by
  refine xs_entry hJ (by decide) (Nat.le_of_ble_eq_true rfl) ?_
  intro p e s m below meth c ls X hr hlk G hl
  have X : xs_C p s m c b_P_compareQuotients 14 _ "ExactScene$Picture" := X
  have hx := X.1
  have hb := X.2.1
  have hl : lv_has ls 14 [(0, .long (x0)), (2, .long (x1)), (4, .long (x2)), (6, .long (x3))] := hl
  unfold fn_P_compareQuotients at hE
  refine lv_lload_n (pc := 0) hx hb d_P_compareQuotients_0 rfl (lv_at hl 0 rfl) ?_
  refine lv_ldc2 (pc := 1) (v := (1073741823 : Int64)) hx hb X.2.2.2.1 (X.2.2.2.2.1 _ cl_P_67) d_P_compareQuotients_1 ?_
  refine lv_land (pc := 4) hx hb d_P_compareQuotients_4 ?_
  refine lv_lload (pc := 5) hx hb d_P_compareQuotients_5 (lv_at hl 3 rfl) ?_
  refine lv_ldc2 (pc := 7) (v := (1073741823 : Int64)) hx hb X.2.2.2.1 (X.2.2.2.2.1 _ cl_P_67) d_P_compareQuotients_7 ?_
  refine lv_land (pc := 10) hx hb d_P_compareQuotients_10 ?_
  refine lv_lmul (pc := 11) hx hb d_P_compareQuotients_11 ?_
  refine lv_lload (pc := 12) hx hb d_P_compareQuotients_12 (lv_at hl 2 rfl) ?_
  refine lv_ldc2 (pc := 14) (v := (1073741823 : Int64)) hx hb X.2.2.2.1 (X.2.2.2.2.1 _ cl_P_67) d_P_compareQuotients_14 ?_
  refine lv_land (pc := 17) hx hb d_P_compareQuotients_17 ?_
  refine lv_lload_n (pc := 18) hx hb d_P_compareQuotients_18 rfl (lv_at hl 1 rfl) ?_
  refine lv_ldc2 (pc := 19) (v := (1073741823 : Int64)) hx hb X.2.2.2.1 (X.2.2.2.2.1 _ cl_P_67) d_P_compareQuotients_19 ?_
  refine lv_land (pc := 22) hx hb d_P_compareQuotients_22 ?_
  refine lv_lmul (pc := 23) hx hb d_P_compareQuotients_23 ?_
  refine lv_lsub (pc := 24) hx hb d_P_compareQuotients_24 ?_
  obtain ⟨a1, ha1, hE⟩ := xs_b hE
  refine xs_tl ha1 ?_
  clear ha1
  refine lv_lstore (pc := 25) hx hb d_P_compareQuotients_25 hl (by decide) (lv' := [(8, .long (a1)), (0, .long (x0)), (2, .long (x1)), (4, .long (x2)), (6, .long (x3))]) rfl (fun ls hl => ?_)
  refine lv_lload_n (pc := 27) hx hb d_P_compareQuotients_27 rfl (lv_at hl 1 rfl) ?_
  refine lv_bipush (pc := 28) (v := (30 : Int32)) hx hb d_P_compareQuotients_28 (by decide) ?_
  refine lv_lshr (pc := 30) hx hb d_P_compareQuotients_30 rfl ?_
  refine lv_lload (pc := 31) hx hb d_P_compareQuotients_31 (lv_at hl 4 rfl) ?_
  refine lv_ldc2 (pc := 33) (v := (1073741823 : Int64)) hx hb X.2.2.2.1 (X.2.2.2.2.1 _ cl_P_67) d_P_compareQuotients_33 ?_
  refine lv_land (pc := 36) hx hb d_P_compareQuotients_36 ?_
  refine lv_lmul (pc := 37) hx hb d_P_compareQuotients_37 ?_
  refine lv_lload_n (pc := 38) hx hb d_P_compareQuotients_38 rfl (lv_at hl 1 rfl) ?_
  refine lv_ldc2 (pc := 39) (v := (1073741823 : Int64)) hx hb X.2.2.2.1 (X.2.2.2.2.1 _ cl_P_67) d_P_compareQuotients_39 ?_
  refine lv_land (pc := 42) hx hb d_P_compareQuotients_42 ?_
  refine lv_lload (pc := 43) hx hb d_P_compareQuotients_43 (lv_at hl 4 rfl) ?_
  refine lv_bipush (pc := 45) (v := (30 : Int32)) hx hb d_P_compareQuotients_45 (by decide) ?_
  refine lv_lshr (pc := 47) hx hb d_P_compareQuotients_47 rfl ?_
  refine lv_lmul (pc := 48) hx hb d_P_compareQuotients_48 ?_
  refine lv_ladd (pc := 49) hx hb d_P_compareQuotients_49 ?_
  refine lv_lload (pc := 50) hx hb d_P_compareQuotients_50 (lv_at hl 3 rfl) ?_
  refine lv_bipush (pc := 52) (v := (30 : Int32)) hx hb d_P_compareQuotients_52 (by decide) ?_
  refine lv_lshr (pc := 54) hx hb d_P_compareQuotients_54 rfl ?_
  refine lv_lload_n (pc := 55) hx hb d_P_compareQuotients_55 rfl (lv_at hl 2 rfl) ?_
  refine lv_ldc2 (pc := 56) (v := (1073741823 : Int64)) hx hb X.2.2.2.1 (X.2.2.2.2.1 _ cl_P_67) d_P_compareQuotients_56 ?_
  refine lv_land (pc := 59) hx hb d_P_compareQuotients_59 ?_
  refine lv_lmul (pc := 60) hx hb d_P_compareQuotients_60 ?_
  refine lv_lsub (pc := 61) hx hb d_P_compareQuotients_61 ?_
  refine lv_lload (pc := 62) hx hb d_P_compareQuotients_62 (lv_at hl 3 rfl) ?_
  refine lv_ldc2 (pc := 64) (v := (1073741823 : Int64)) hx hb X.2.2.2.1 (X.2.2.2.2.1 _ cl_P_67) d_P_compareQuotients_64 ?_
  refine lv_land (pc := 67) hx hb d_P_compareQuotients_67 ?_
  refine lv_lload_n (pc := 68) hx hb d_P_compareQuotients_68 rfl (lv_at hl 2 rfl) ?_
  refine lv_bipush (pc := 69) (v := (30 : Int32)) hx hb d_P_compareQuotients_69 (by decide) ?_
  refine lv_lshr (pc := 71) hx hb d_P_compareQuotients_71 rfl ?_
  refine lv_lmul (pc := 72) hx hb d_P_compareQuotients_72 ?_
  refine lv_lsub (pc := 73) hx hb d_P_compareQuotients_73 ?_
  refine lv_lload (pc := 74) hx hb d_P_compareQuotients_74 (lv_at hl 0 rfl) ?_
  refine lv_bipush (pc := 76) (v := (30 : Int32)) hx hb d_P_compareQuotients_76 (by decide) ?_
  refine lv_lshr (pc := 78) hx hb d_P_compareQuotients_78 rfl ?_
  refine lv_ladd (pc := 79) hx hb d_P_compareQuotients_79 ?_
  obtain ⟨a2, ha2, hE⟩ := xs_b hE
  refine xs_tl ha2 ?_
  clear ha2
  refine lv_lstore (pc := 80) hx hb d_P_compareQuotients_80 hl (by decide) (lv' := [(10, .long (a2)), (8, .long (a1)), (0, .long (x0)), (2, .long (x1)), (4, .long (x2)), (6, .long (x3))]) rfl (fun ls hl => ?_)
  refine lv_lload_n (pc := 82) hx hb d_P_compareQuotients_82 rfl (lv_at hl 2 rfl) ?_
  refine lv_bipush (pc := 83) (v := (30 : Int32)) hx hb d_P_compareQuotients_83 (by decide) ?_
  refine lv_lshr (pc := 85) hx hb d_P_compareQuotients_85 rfl ?_
  refine lv_lload (pc := 86) hx hb d_P_compareQuotients_86 (lv_at hl 5 rfl) ?_
  refine lv_bipush (pc := 88) (v := (30 : Int32)) hx hb d_P_compareQuotients_88 (by decide) ?_
  refine lv_lshr (pc := 90) hx hb d_P_compareQuotients_90 rfl ?_
  refine lv_lmul (pc := 91) hx hb d_P_compareQuotients_91 ?_
  refine lv_lload (pc := 92) hx hb d_P_compareQuotients_92 (lv_at hl 4 rfl) ?_
  refine lv_bipush (pc := 94) (v := (30 : Int32)) hx hb d_P_compareQuotients_94 (by decide) ?_
  refine lv_lshr (pc := 96) hx hb d_P_compareQuotients_96 rfl ?_
  refine lv_lload_n (pc := 97) hx hb d_P_compareQuotients_97 rfl (lv_at hl 3 rfl) ?_
  refine lv_bipush (pc := 98) (v := (30 : Int32)) hx hb d_P_compareQuotients_98 (by decide) ?_
  refine lv_lshr (pc := 100) hx hb d_P_compareQuotients_100 rfl ?_
  refine lv_lmul (pc := 101) hx hb d_P_compareQuotients_101 ?_
  refine lv_lsub (pc := 102) hx hb d_P_compareQuotients_102 ?_
  refine lv_lload (pc := 103) hx hb d_P_compareQuotients_103 (lv_at hl 0 rfl) ?_
  refine lv_bipush (pc := 105) (v := (30 : Int32)) hx hb d_P_compareQuotients_105 (by decide) ?_
  refine lv_lshr (pc := 107) hx hb d_P_compareQuotients_107 rfl ?_
  refine lv_ladd (pc := 108) hx hb d_P_compareQuotients_108 ?_
  obtain ⟨a3, ha3, hE⟩ := xs_b hE
  refine xs_tl ha3 ?_
  clear ha3
  refine lv_lstore (pc := 109) hx hb d_P_compareQuotients_109 hl (by decide) (lv' := [(12, .long (a3)), (10, .long (a2)), (8, .long (a1)), (0, .long (x0)), (2, .long (x1)), (4, .long (x2)), (6, .long (x3))]) rfl (fun ls hl => ?_)
  refine lv_lload (pc := 111) hx hb d_P_compareQuotients_111 (lv_at hl 0 rfl) ?_
  refine lv_lconst (pc := 113) (v := (0 : Int64)) hx hb d_P_compareQuotients_113 (by decide) ?_
  refine W.lcmp (pc := 114) hx hb d_P_compareQuotients_114 ?_
  refine lv_if_eq (pc := 115) (tgt := 131) hx hb d_P_compareQuotients_115 (by decide) (fun hc => ?_) (fun hc => ?_)
  · have hE := xs_t hE hc
    refine lv_lload (pc := 131) hx hb d_P_compareQuotients_131 (lv_at hl 1 rfl) ?_
    refine lv_ldc2 (pc := 133) (v := (1073741823 : Int64)) hx hb X.2.2.2.1 (X.2.2.2.2.1 _ cl_P_67) d_P_compareQuotients_133 ?_
    refine lv_land (pc := 136) hx hb d_P_compareQuotients_136 ?_
    refine lv_lconst (pc := 137) (v := (0 : Int64)) hx hb d_P_compareQuotients_137 (by decide) ?_
    refine W.lcmp (pc := 138) hx hb d_P_compareQuotients_138 ?_
    refine lv_if_ne (pc := 139) (tgt := 157) hx hb d_P_compareQuotients_139 (by decide) (fun hc => ?_) (fun hc => ?_)
    · have hE := xs_f hE hc
      refine lv_iconst (pc := 157) (v := (1 : Int32)) hx hb d_P_compareQuotients_157 (by decide) ?_
      cases hE
      exact xs_iret (pc := 158) hx hb hr hlk G d_P_compareQuotients_158
    · have hE := xs_t hE hc
      refine lv_lload (pc := 142) hx hb d_P_compareQuotients_142 (lv_at hl 2 rfl) ?_
      refine lv_ldc2 (pc := 144) (v := (1073741823 : Int64)) hx hb X.2.2.2.1 (X.2.2.2.2.1 _ cl_P_67) d_P_compareQuotients_144 ?_
      refine lv_land (pc := 147) hx hb d_P_compareQuotients_147 ?_
      refine lv_lconst (pc := 148) (v := (0 : Int64)) hx hb d_P_compareQuotients_148 (by decide) ?_
      refine W.lcmp (pc := 149) hx hb d_P_compareQuotients_149 ?_
      refine lv_if_ne (pc := 150) (tgt := 157) hx hb d_P_compareQuotients_150 (by decide) (fun hc => ?_) (fun hc => ?_)
      · have hE := xs_f hE hc
        refine lv_iconst (pc := 157) (v := (1 : Int32)) hx hb d_P_compareQuotients_157 (by decide) ?_
        cases hE
        exact xs_iret (pc := 158) hx hb hr hlk G d_P_compareQuotients_158
      · have hE := xs_t hE hc
        refine lv_iconst (pc := 153) (v := (0 : Int32)) hx hb d_P_compareQuotients_153 (by decide) ?_
        refine lv_goto (pc := 154) (tgt := 158) hx hb d_P_compareQuotients_154 (by decide) ?_
        cases hE
        exact xs_iret (pc := 158) hx hb hr hlk G d_P_compareQuotients_158
  · have hE := xs_f hE hc
    refine lv_lload (pc := 118) hx hb d_P_compareQuotients_118 (lv_at hl 0 rfl) ?_
    refine lv_lconst (pc := 120) (v := (0 : Int64)) hx hb d_P_compareQuotients_120 (by decide) ?_
    refine W.lcmp (pc := 121) hx hb d_P_compareQuotients_121 ?_
    refine lv_if_ge (pc := 122) (tgt := 129) hx hb d_P_compareQuotients_122 (by decide) (fun hc => ?_) (fun hc => ?_)
    · have hE := xs_t hE hc
      refine lv_iconst (pc := 129) (v := (1 : Int32)) hx hb d_P_compareQuotients_129 (by decide) ?_
      cases hE
      exact xs_iret (pc := 130) hx hb hr hlk G d_P_compareQuotients_130
    · have hE := xs_f hE hc
      refine lv_iconst (pc := 125) (v := (-1 : Int32)) hx hb d_P_compareQuotients_125 (by decide) ?_
      refine lv_goto (pc := 126) (tgt := 130) hx hb d_P_compareQuotients_126 (by decide) ?_
      cases hE
      exact xs_iret (pc := 130) hx hb hr hlk G d_P_compareQuotients_130
def fn_P_offerPixel (μ0 : xs_M) (x0 : Int32) (x1 : Int32) (x2 : Int64) (x3 : Int64) : Option xs_M :=
  ((fn_P_isOwned μ0 x0).bind fun w1 => (if w1 = 0 then (if xs_in x0 192 = true then ((some (xs_si μ0 10 x0.toNatClampNeg (x1))).bind fun μ3 => (if xs_in x0 192 = true then ((some (xs_sl μ3 11 x0.toNatClampNeg (x2))).bind fun μ5 => (if xs_in x0 192 = true then ((some (xs_sl μ5 12 x0.toNatClampNeg (x3))).bind fun μ7 => some (μ7)) else none)) else none)) else none) else (if xs_in x0 192 = true then (if xs_in x0 192 = true then ((fn_P_compareQuotients μ0 x2 x3 (μ0.2 11 x0.toNatClampNeg) (μ0.2 12 x0.toNatClampNeg)).bind fun w10 => (if 0 ≤ w10 then some (μ0) else (if xs_in x0 192 = true then ((some (xs_si μ0 10 x0.toNatClampNeg (x1))).bind fun μ12 => (if xs_in x0 192 = true then ((some (xs_sl μ12 11 x0.toNatClampNeg (x2))).bind fun μ14 => (if xs_in x0 192 = true then ((some (xs_sl μ14 12 x0.toNatClampNeg (x3))).bind fun μ16 => some (μ16)) else none)) else none)) else none))) else none) else none)))
set_option maxHeartbeats 4000000 in
set_option maxRecDepth 100000 in
theorem ok_P_offerPixel (l : Launch) (D : va_G) (ad : Nat → Nat) (cs : xs_cs) (hJ : xs_J ad) {μ0 : xs_M} {x0 : Int32} {x1 : Int32} {x2 : Int64} {x3 : Int64}  {rz : xs_M} (hE : fn_P_offerPixel μ0 x0 x1 x2 x3 = some rz) : xs_I l D ad cs y_P_offerPixel b_P_offerPixel 7 none 1 33 [.ref (ad 8), .int (x0), .int (x1), .long (x2), .long (x3)] μ0 none rz := by
  refine xs_entry hJ (by decide) (Nat.le_of_ble_eq_true rfl) ?_
  intro p e s m below meth c ls X hr hlk G hl
  have X : xs_C p s m c b_P_offerPixel 7 _ "ExactScene$Picture" := X
  have hx := X.1
  have hb := X.2.1
  have hl : lv_has ls 7 [(0, .ref (ad 8)), (1, .int (x0)), (2, .int (x1)), (3, .long (x2)), (5, .long (x3))] := hl
  unfold fn_P_offerPixel at hE
  refine lv_aload_n (pc := 0) hx hb d_P_offerPixel_0 rfl (lv_at hl 0 rfl) ?_
  refine lv_iload_n (pc := 1) hx hb d_P_offerPixel_1 rfl (lv_at hl 1 rfl) ?_
  obtain ⟨w1, hw1, hE⟩ := xs_b hE
  refine xs_callVr (pc := 2) (as := [.int (x0)]) X (ok_P_isOwned l D ad cs hJ hw1) km_P_63 G (xs_wP ad cs _) rfl ⟨by decide, by decide⟩ ⟨Nat.zero_le _, Nat.zero_le _⟩ rfl hl.1 rfl (Nat.le_of_ble_eq_true rfl) d_P_offerPixel_2 (fun H locs G => ?_)
  refine lv_if_eq (pc := 5) (tgt := 29) hx hb d_P_offerPixel_5 (by decide) (fun hc => ?_) (fun hc => ?_)
  · have hE := xs_t hE hc
    refine lv_aload_n (pc := 29) hx hb d_P_offerPixel_29 rfl (lv_at hl 0 rfl) ?_
    refine gf_P_15 (pc := 30) X G d_P_offerPixel_30 ?_
    refine lv_iload_n (pc := 33) hx hb d_P_offerPixel_33 rfl (lv_at hl 1 rfl) ?_
    refine lv_iload_n (pc := 34) hx hb d_P_offerPixel_34 rfl (lv_at hl 2 rfl) ?_
    obtain ⟨hi2, hE⟩ := xs_n hE
    refine xs_iast (pc := 35) hx hb G ia_10 (xs_inP hi2) d_P_offerPixel_35 (fun H locs G => ?_)
    obtain ⟨μ3, hμ3, hE⟩ := xs_b hE
    have G := xs_mv G hμ3
    clear hμ3
    refine lv_aload_n (pc := 36) hx hb d_P_offerPixel_36 rfl (lv_at hl 0 rfl) ?_
    refine gf_P_18 (pc := 37) X G d_P_offerPixel_37 ?_
    refine lv_iload_n (pc := 40) hx hb d_P_offerPixel_40 rfl (lv_at hl 1 rfl) ?_
    refine lv_lload_n (pc := 41) hx hb d_P_offerPixel_41 rfl (lv_at hl 3 rfl) ?_
    obtain ⟨hi4, hE⟩ := xs_n hE
    refine xs_last (pc := 42) hx hb G la_11 (xs_inP hi4) d_P_offerPixel_42 (fun H locs G => ?_)
    obtain ⟨μ5, hμ5, hE⟩ := xs_b hE
    have G := xs_mv G hμ5
    clear hμ5
    refine lv_aload_n (pc := 43) hx hb d_P_offerPixel_43 rfl (lv_at hl 0 rfl) ?_
    refine gf_P_22 (pc := 44) X G d_P_offerPixel_44 ?_
    refine lv_iload_n (pc := 47) hx hb d_P_offerPixel_47 rfl (lv_at hl 1 rfl) ?_
    refine lv_lload (pc := 48) hx hb d_P_offerPixel_48 (lv_at hl 4 rfl) ?_
    obtain ⟨hi6, hE⟩ := xs_n hE
    refine xs_last (pc := 50) hx hb G la_12 (xs_inP hi6) d_P_offerPixel_50 (fun H locs G => ?_)
    obtain ⟨μ7, hμ7, hE⟩ := xs_b hE
    have G := xs_mv G hμ7
    clear hμ7
    cases hE
    exact xs_vret (pc := 51) hx hb hr hlk G d_P_offerPixel_51
  · have hE := xs_f hE hc
    refine lv_lload_n (pc := 8) hx hb d_P_offerPixel_8 rfl (lv_at hl 3 rfl) ?_
    refine lv_lload (pc := 9) hx hb d_P_offerPixel_9 (lv_at hl 4 rfl) ?_
    refine lv_aload_n (pc := 11) hx hb d_P_offerPixel_11 rfl (lv_at hl 0 rfl) ?_
    refine gf_P_18 (pc := 12) X G d_P_offerPixel_12 ?_
    refine lv_iload_n (pc := 15) hx hb d_P_offerPixel_15 rfl (lv_at hl 1 rfl) ?_
    obtain ⟨hi8, hE⟩ := xs_n hE
    refine xs_lald (pc := 16) hx hb G la_11 (xs_inP hi8) d_P_offerPixel_16 ?_
    refine lv_aload_n (pc := 17) hx hb d_P_offerPixel_17 rfl (lv_at hl 0 rfl) ?_
    refine gf_P_22 (pc := 18) X G d_P_offerPixel_18 ?_
    refine lv_iload_n (pc := 21) hx hb d_P_offerPixel_21 rfl (lv_at hl 1 rfl) ?_
    obtain ⟨hi9, hE⟩ := xs_n hE
    refine xs_lald (pc := 22) hx hb G la_12 (xs_inP hi9) d_P_offerPixel_22 ?_
    obtain ⟨w10, hw10, hE⟩ := xs_b hE
    refine xs_callSr (pc := 23) (as := [.long (x2), .long (x3), .long ((μ0.2 11 x0.toNatClampNeg)), .long ((μ0.2 12 x0.toNatClampNeg))]) X (ok_P_compareQuotients l D ad cs hJ hw10) km_P_55 G ⟨by decide, by decide⟩ ⟨Nat.zero_le _, Nat.zero_le _⟩ rfl hl.1 rfl (Nat.le_of_ble_eq_true rfl) d_P_offerPixel_23 (fun H locs G => ?_)
    refine lv_if_ge (pc := 26) (tgt := 51) hx hb d_P_offerPixel_26 (by decide) (fun hc => ?_) (fun hc => ?_)
    · have hE := xs_t hE hc
      cases hE
      exact xs_vret (pc := 51) hx hb hr hlk G d_P_offerPixel_51
    · have hE := xs_f hE hc
      refine lv_aload_n (pc := 29) hx hb d_P_offerPixel_29 rfl (lv_at hl 0 rfl) ?_
      refine gf_P_15 (pc := 30) X G d_P_offerPixel_30 ?_
      refine lv_iload_n (pc := 33) hx hb d_P_offerPixel_33 rfl (lv_at hl 1 rfl) ?_
      refine lv_iload_n (pc := 34) hx hb d_P_offerPixel_34 rfl (lv_at hl 2 rfl) ?_
      obtain ⟨hi11, hE⟩ := xs_n hE
      refine xs_iast (pc := 35) hx hb G ia_10 (xs_inP hi11) d_P_offerPixel_35 (fun H locs G => ?_)
      obtain ⟨μ12, hμ12, hE⟩ := xs_b hE
      have G := xs_mv G hμ12
      clear hμ12
      refine lv_aload_n (pc := 36) hx hb d_P_offerPixel_36 rfl (lv_at hl 0 rfl) ?_
      refine gf_P_18 (pc := 37) X G d_P_offerPixel_37 ?_
      refine lv_iload_n (pc := 40) hx hb d_P_offerPixel_40 rfl (lv_at hl 1 rfl) ?_
      refine lv_lload_n (pc := 41) hx hb d_P_offerPixel_41 rfl (lv_at hl 3 rfl) ?_
      obtain ⟨hi13, hE⟩ := xs_n hE
      refine xs_last (pc := 42) hx hb G la_11 (xs_inP hi13) d_P_offerPixel_42 (fun H locs G => ?_)
      obtain ⟨μ14, hμ14, hE⟩ := xs_b hE
      have G := xs_mv G hμ14
      clear hμ14
      refine lv_aload_n (pc := 43) hx hb d_P_offerPixel_43 rfl (lv_at hl 0 rfl) ?_
      refine gf_P_22 (pc := 44) X G d_P_offerPixel_44 ?_
      refine lv_iload_n (pc := 47) hx hb d_P_offerPixel_47 rfl (lv_at hl 1 rfl) ?_
      refine lv_lload (pc := 48) hx hb d_P_offerPixel_48 (lv_at hl 4 rfl) ?_
      obtain ⟨hi15, hE⟩ := xs_n hE
      refine xs_last (pc := 50) hx hb G la_12 (xs_inP hi15) d_P_offerPixel_50 (fun H locs G => ?_)
      obtain ⟨μ16, hμ16, hE⟩ := xs_b hE
      have G := xs_mv G hμ16
      clear hμ16
      cases hE
      exact xs_vret (pc := 51) hx hb hr hlk G d_P_offerPixel_51
def fn_P_offerTriangle_L11 : Nat → xs_M → Nat → Int32 → Int32 → Int32 →  Option (Int32 × xs_M)
  | 0, _, _, _, _, _ => none
  | fu + 1, μ, k1, v1, v3, v4 => (if (16 : Int32) ≤ v4 then some ((v4, μ)) else ((fn_T_covers μ k1 v4 v3).bind fun w1 => (if w1 = 0 then fn_P_offerTriangle_L11 fu μ k1 v1 v3 (v4 + 1) else ((fn_P_indexOf μ v4 v3).bind fun w2 => ((fn_T_depthOver μ k1 v4 v3).bind fun w3 => ((fn_P_offerPixel μ w2 v1 w3 (μ.2 (14 + 7 * k1) 6)).bind fun w4 => fn_P_offerTriangle_L11 fu w4 k1 v1 v3 (v4 + 1)))))))
def fn_P_offerTriangle_L2 : Nat → xs_M → Nat → Int32 → Int32 →  Option (Int32 × xs_M)
  | 0, _, _, _, _ => none
  | fu + 1, μ, k1, v1, v3 => (if (12 : Int32) ≤ v3 then some ((v3, μ)) else ((fn_P_offerTriangle_L11 xs_FU μ k1 v1 v3 (0 : Int32)).bind fun z5 => fn_P_offerTriangle_L2 fu z5.2 k1 v1 (v3 + 1)))
def fn_P_offerTriangle (μ0 : xs_M) (x0 : Int32) (k1 : Nat) : Option xs_M :=
  ((fn_P_offerTriangle_L2 xs_FU μ0 k1 x0 (0 : Int32)).bind fun z6 => some (z6.2))
set_option maxHeartbeats 4000000 in
set_option maxRecDepth 100000 in
theorem ok_P_offerTriangle (l : Launch) (D : va_G) (ad : Nat → Nat) (cs : xs_cs) (hJ : xs_J ad) {μ0 : xs_M} {x0 : Int32} {k1 : Nat} (hk1 : k1 < 20) {rz : xs_M} (hE : fn_P_offerTriangle μ0 x0 k1 = some rz) : xs_I l D ad cs y_P_offerTriangle b_P_offerTriangle 5 none 2 59 [.ref (ad 8), .int (x0), .ref (ad (14 + 7 * k1))] μ0 none rz := by
  refine xs_entry hJ (by decide) (Nat.le_of_ble_eq_true rfl) ?_
  intro p e s m below meth c ls X hr hlk G hl
  have X : xs_C p s m c b_P_offerTriangle 5 _ "ExactScene$Picture" := X
  have hx := X.1
  have hb := X.2.1
  have hl : lv_has ls 5 [(0, .ref (ad 8)), (1, .int (x0)), (2, .ref (ad (14 + 7 * k1)))] := hl
  have L11 : ∀ (fu : Nat) (μ : xs_M) (v1 : Int32) (v3 : Int32) (v4 : Int32) (H : Heap) (locs : List Loc) (ls : Array Slot) (z : (Int32 × xs_M)), fn_P_offerTriangle_L11 fu μ k1 v1 v3 v4 = some z → xs_G D ad cs s (xs_A ad s.heap.size) s.heap μ H locs → lv_has ls 5 [(0, .ref (ad 8)), (1, .int (v1)), (2, .ref (ad (14 + 7 * k1))), (3, .int (v3)), (4, .int (v4))] → (∀ (H : Heap) (locs : List Loc) (ls : Array Slot), xs_G D ad cs s (xs_A ad s.heap.size) s.heap z.2 H locs → lv_has ls 5 [(0, .ref (ad 8)), (1, .int (v1)), (2, .ref (ad (14 + 7 * k1))), (3, .int (v3)), (4, .int (z.1))] → W p l e (xs_rm 2 59) s m ([.ref (ad 8), .int (x0), .ref (ad (14 + 7 * k1))] : List Value).toArray below meth c H locs 0 0 (xs_E below D ad cs [.ref (ad 8), .int (x0), .ref (ad (14 + 7 * k1))] s none rz) (F0 m 56 ls [])) → W p l e (xs_rm 2 59) s m ([.ref (ad 8), .int (x0), .ref (ad (14 + 7 * k1))] : List Value).toArray below meth c H locs 0 0 (xs_E below D ad cs [.ref (ad 8), .int (x0), .ref (ad (14 + 7 * k1))] s none rz) (F0 m 11 ls []) := by
    clear hE hl G
    intro fu
    induction fu with
    | zero =>
      intro μ v1 v3 v4 H locs ls z hE
      rw [fn_P_offerTriangle_L11] at hE
      cases hE
    | succ fu ih =>
      intro μ v1 v3 v4 H locs ls z hE G hl kk
      rw [fn_P_offerTriangle_L11] at hE
      refine lv_iload (pc := 11) hx hb d_P_offerTriangle_11 (lv_at hl 4 rfl) ?_
      refine lv_bipush (pc := 13) (v := (16 : Int32)) hx hb d_P_offerTriangle_13 (by decide) ?_
      refine lv_icmp_ge (pc := 15) (tgt := 56) hx hb d_P_offerTriangle_15 (by decide) (fun hc => ?_) (fun hc => ?_)
      · have hE := xs_t hE hc
        cases hE
        exact kk _ _ _ G (lv_sub hl [0, 1, 2, 3, 4] rfl)
      · have hE := xs_f hE hc
        refine lv_aload_n (pc := 18) hx hb d_P_offerTriangle_18 rfl (lv_at hl 2 rfl) ?_
        refine lv_iload (pc := 19) hx hb d_P_offerTriangle_19 (lv_at hl 4 rfl) ?_
        refine lv_iload_n (pc := 21) hx hb d_P_offerTriangle_21 rfl (lv_at hl 3 rfl) ?_
        obtain ⟨w1, hw1, hE⟩ := xs_b hE
        refine xs_callVr (pc := 22) (as := [.int (v4), .int (v3)]) X (ok_T_covers l D ad cs hJ hk1 hw1) km_P_33 G (xs_wT ad cs _ hk1) rfl ⟨by decide, by decide⟩ ⟨Nat.zero_le _, Nat.zero_le _⟩ rfl hl.1 rfl (Nat.le_of_ble_eq_true rfl) d_P_offerTriangle_22 (fun H locs G => ?_)
        refine lv_if_eq (pc := 25) (tgt := 50) hx hb d_P_offerTriangle_25 (by decide) (fun hc => ?_) (fun hc => ?_)
        · have hE := xs_t hE hc
          refine lv_iinc (pc := 50) (v := (v4 + 1)) (k := 4) hx hb d_P_offerTriangle_50 hl rfl (xs_inc _) (by decide) (lv' := [(4, .int ((v4 + 1))), (0, .ref (ad 8)), (1, .int (v1)), (2, .ref (ad (14 + 7 * k1))), (3, .int (v3))]) rfl (fun ls hl => ?_)
          refine lv_goto (pc := 53) (tgt := 11) hx hb d_P_offerTriangle_53 (by decide) ?_
          exact ih _ _ _ _ _ _ _ _ hE G (lv_sub hl [1, 2, 3, 4, 0] rfl) kk
        · have hE := xs_f hE hc
          refine lv_aload_n (pc := 28) hx hb d_P_offerTriangle_28 rfl (lv_at hl 0 rfl) ?_
          refine lv_iload (pc := 29) hx hb d_P_offerTriangle_29 (lv_at hl 4 rfl) ?_
          refine lv_iload_n (pc := 31) hx hb d_P_offerTriangle_31 rfl (lv_at hl 3 rfl) ?_
          obtain ⟨w2, hw2, hE⟩ := xs_b hE
          refine xs_callSr (pc := 32) (as := [.int (v4), .int (v3)]) X (ok_P_indexOf l D ad cs hJ hw2) km_P_39 G ⟨by decide, by decide⟩ ⟨Nat.zero_le _, Nat.zero_le _⟩ rfl hl.1 rfl (Nat.le_of_ble_eq_true rfl) d_P_offerTriangle_32 (fun H locs G => ?_)
          refine lv_iload_n (pc := 35) hx hb d_P_offerTriangle_35 rfl (lv_at hl 1 rfl) ?_
          refine lv_aload_n (pc := 36) hx hb d_P_offerTriangle_36 rfl (lv_at hl 2 rfl) ?_
          refine lv_iload (pc := 37) hx hb d_P_offerTriangle_37 (lv_at hl 4 rfl) ?_
          refine lv_iload_n (pc := 39) hx hb d_P_offerTriangle_39 rfl (lv_at hl 3 rfl) ?_
          obtain ⟨w3, hw3, hE⟩ := xs_b hE
          refine xs_callVr (pc := 40) (as := [.int (v4), .int (v3)]) X (ok_T_depthOver l D ad cs hJ hk1 hw3) km_P_43 G (xs_wT ad cs _ hk1) rfl ⟨by decide, by decide⟩ ⟨Nat.zero_le _, Nat.zero_le _⟩ rfl hl.1 rfl (Nat.le_of_ble_eq_true rfl) d_P_offerTriangle_40 (fun H locs G => ?_)
          refine lv_aload_n (pc := 43) hx hb d_P_offerTriangle_43 rfl (lv_at hl 2 rfl) ?_
          refine gf_P_47 (pc := 44) X G hk1 d_P_offerTriangle_44 ?_
          obtain ⟨w4, hw4, hE⟩ := xs_b hE
          refine xs_callVv (pc := 47) (as := [.int (w2), .int (v1), .long (w3), .long ((μ.2 (14 + 7 * k1) 6))]) X (ok_P_offerPixel l D ad cs hJ hw4) km_P_51 G (xs_wP ad cs _) rfl ⟨by decide, by decide⟩ ⟨Nat.zero_le _, Nat.zero_le _⟩ rfl hl.1 rfl (Nat.le_of_ble_eq_true rfl) d_P_offerTriangle_47 (fun H locs G => ?_)
          refine lv_iinc (pc := 50) (v := (v4 + 1)) (k := 4) hx hb d_P_offerTriangle_50 hl rfl (xs_inc _) (by decide) (lv' := [(4, .int ((v4 + 1))), (0, .ref (ad 8)), (1, .int (v1)), (2, .ref (ad (14 + 7 * k1))), (3, .int (v3))]) rfl (fun ls hl => ?_)
          refine lv_goto (pc := 53) (tgt := 11) hx hb d_P_offerTriangle_53 (by decide) ?_
          exact ih _ _ _ _ _ _ _ _ hE G (lv_sub hl [1, 2, 3, 4, 0] rfl) kk
  have L2 : ∀ (fu : Nat) (μ : xs_M) (v1 : Int32) (v3 : Int32) (H : Heap) (locs : List Loc) (ls : Array Slot) (z : (Int32 × xs_M)), fn_P_offerTriangle_L2 fu μ k1 v1 v3 = some z → xs_G D ad cs s (xs_A ad s.heap.size) s.heap μ H locs → lv_has ls 5 [(0, .ref (ad 8)), (1, .int (v1)), (2, .ref (ad (14 + 7 * k1))), (3, .int (v3))] → (∀ (H : Heap) (locs : List Loc) (ls : Array Slot), xs_G D ad cs s (xs_A ad s.heap.size) s.heap z.2 H locs → lv_has ls 5 [(0, .ref (ad 8)), (1, .int (v1)), (2, .ref (ad (14 + 7 * k1))), (3, .int (z.1))] → W p l e (xs_rm 2 59) s m ([.ref (ad 8), .int (x0), .ref (ad (14 + 7 * k1))] : List Value).toArray below meth c H locs 0 0 (xs_E below D ad cs [.ref (ad 8), .int (x0), .ref (ad (14 + 7 * k1))] s none rz) (F0 m 62 ls [])) → W p l e (xs_rm 2 59) s m ([.ref (ad 8), .int (x0), .ref (ad (14 + 7 * k1))] : List Value).toArray below meth c H locs 0 0 (xs_E below D ad cs [.ref (ad 8), .int (x0), .ref (ad (14 + 7 * k1))] s none rz) (F0 m 2 ls []) := by
    clear hE hl G
    intro fu
    induction fu with
    | zero =>
      intro μ v1 v3 H locs ls z hE
      rw [fn_P_offerTriangle_L2] at hE
      cases hE
    | succ fu ih =>
      intro μ v1 v3 H locs ls z hE G hl kk
      rw [fn_P_offerTriangle_L2] at hE
      refine lv_iload_n (pc := 2) hx hb d_P_offerTriangle_2 rfl (lv_at hl 3 rfl) ?_
      refine lv_bipush (pc := 3) (v := (12 : Int32)) hx hb d_P_offerTriangle_3 (by decide) ?_
      refine lv_icmp_ge (pc := 5) (tgt := 62) hx hb d_P_offerTriangle_5 (by decide) (fun hc => ?_) (fun hc => ?_)
      · have hE := xs_t hE hc
        cases hE
        exact kk _ _ _ G (lv_sub hl [0, 1, 2, 3] rfl)
      · have hE := xs_f hE hc
        refine lv_iconst (pc := 8) (v := (0 : Int32)) hx hb d_P_offerTriangle_8 (by decide) ?_
        refine lv_istore (pc := 9) hx hb d_P_offerTriangle_9 hl (by decide) (lv' := [(4, .int ((0 : Int32))), (0, .ref (ad 8)), (1, .int (v1)), (2, .ref (ad (14 + 7 * k1))), (3, .int (v3))]) rfl (fun ls hl => ?_)
        obtain ⟨z5, hz5, hE⟩ := xs_b hE
        refine L11 _ _ _ _ _ _ _ _ _ hz5 G (lv_sub hl [1, 2, 3, 4, 0] rfl) (fun H locs ls G hl => ?_)
        refine lv_iinc (pc := 56) (v := (v3 + 1)) (k := 3) hx hb d_P_offerTriangle_56 hl rfl (xs_inc _) (by decide) (lv' := [(3, .int ((v3 + 1))), (0, .ref (ad 8)), (1, .int (v1)), (2, .ref (ad (14 + 7 * k1))), (4, .int (z5.1))]) rfl (fun ls hl => ?_)
        refine lv_goto (pc := 59) (tgt := 2) hx hb d_P_offerTriangle_59 (by decide) ?_
        exact ih _ _ _ _ _ _ _ hE G (lv_sub hl [1, 2, 3, 0] rfl) kk
  unfold fn_P_offerTriangle at hE
  refine lv_iconst (pc := 0) (v := (0 : Int32)) hx hb d_P_offerTriangle_0 (by decide) ?_
  refine lv_istore_n (pc := 1) hx hb d_P_offerTriangle_1 rfl hl (by decide) (lv' := [(3, .int ((0 : Int32))), (0, .ref (ad 8)), (1, .int (x0)), (2, .ref (ad (14 + 7 * k1)))]) rfl (fun ls hl => ?_)
  obtain ⟨z6, hz6, hE⟩ := xs_b hE
  refine L2 _ _ _ _ _ _ _ _ hz6 G (lv_sub hl [1, 2, 3, 0] rfl) (fun H locs ls G hl => ?_)
  cases hE
  exact xs_vret (pc := 62) hx hb hr hlk G d_P_offerTriangle_62
def fn_P_isPixel (μ0 : xs_M) (x0 : Int32) (x1 : Int32) : Option Int32 :=
  ((fn_S_isWithin μ0 x0 (0 : Int32) (15 : Int32)).bind fun w1 => (if w1 = 0 then some ((0 : Int32)) else ((fn_S_isWithin μ0 x1 (0 : Int32) (11 : Int32)).bind fun w2 => (if w2 = 0 then some ((0 : Int32)) else some ((1 : Int32))))))
set_option maxHeartbeats 4000000 in
set_option maxRecDepth 100000 in
theorem ok_P_isPixel (l : Launch) (D : va_G) (ad : Nat → Nat) (cs : xs_cs) (hJ : xs_J ad) {μ0 : xs_M} {x0 : Int32} {x1 : Int32}  {rz : Int32} (hE : fn_P_isPixel μ0 x0 x1 = some rz) : xs_I l D ad cs y_P_isPixel b_P_isPixel 2 (some .boolean) 1 22 [.int (x0), .int (x1)] μ0 (some (.int rz)) μ0 := by
  refine xs_entry hJ (by decide) (Nat.le_of_ble_eq_true rfl) ?_
  intro p e s m below meth c ls X hr hlk G hl
  have X : xs_C p s m c b_P_isPixel 2 _ "ExactScene$Picture" := X
  have hx := X.1
  have hb := X.2.1
  have hl : lv_has ls 2 [(0, .int (x0)), (1, .int (x1))] := hl
  unfold fn_P_isPixel at hE
  refine lv_iload_n (pc := 0) hx hb d_P_isPixel_0 rfl (lv_at hl 0 rfl) ?_
  refine lv_iconst (pc := 1) (v := (0 : Int32)) hx hb d_P_isPixel_1 (by decide) ?_
  refine lv_bipush (pc := 2) (v := (15 : Int32)) hx hb d_P_isPixel_2 (by decide) ?_
  obtain ⟨w1, hw1, hE⟩ := xs_b hE
  refine xs_callSNr (pc := 4) (as := [.int (x0), .int ((0 : Int32)), .int ((15 : Int32))]) X (ok_S_isWithin l D ad cs hJ hw1) km_P_29 G ⟨by decide, by decide⟩ ⟨Nat.zero_le _, Nat.zero_le _⟩ rfl hl.1 rfl (Nat.le_of_ble_eq_true rfl) d_P_isPixel_4 (fun H locs G => ?_)
  refine lv_if_eq (pc := 7) (tgt := 24) hx hb d_P_isPixel_7 (by decide) (fun hc => ?_) (fun hc => ?_)
  · have hE := xs_t hE hc
    refine lv_iconst (pc := 24) (v := (0 : Int32)) hx hb d_P_isPixel_24 (by decide) ?_
    cases hE
    exact xs_zret (pc := 25) hx hb hr hlk G (Or.inl rfl) d_P_isPixel_25
  · have hE := xs_f hE hc
    refine lv_iload_n (pc := 10) hx hb d_P_isPixel_10 rfl (lv_at hl 1 rfl) ?_
    refine lv_iconst (pc := 11) (v := (0 : Int32)) hx hb d_P_isPixel_11 (by decide) ?_
    refine lv_bipush (pc := 12) (v := (11 : Int32)) hx hb d_P_isPixel_12 (by decide) ?_
    obtain ⟨w2, hw2, hE⟩ := xs_b hE
    refine xs_callSNr (pc := 14) (as := [.int (x1), .int ((0 : Int32)), .int ((11 : Int32))]) X (ok_S_isWithin l D ad cs hJ hw2) km_P_29 G ⟨by decide, by decide⟩ ⟨Nat.zero_le _, Nat.zero_le _⟩ rfl hl.1 rfl (Nat.le_of_ble_eq_true rfl) d_P_isPixel_14 (fun H locs G => ?_)
    refine lv_if_eq (pc := 17) (tgt := 24) hx hb d_P_isPixel_17 (by decide) (fun hc => ?_) (fun hc => ?_)
    · have hE := xs_t hE hc
      refine lv_iconst (pc := 24) (v := (0 : Int32)) hx hb d_P_isPixel_24 (by decide) ?_
      cases hE
      exact xs_zret (pc := 25) hx hb hr hlk G (Or.inl rfl) d_P_isPixel_25
    · have hE := xs_f hE hc
      refine lv_iconst (pc := 20) (v := (1 : Int32)) hx hb d_P_isPixel_20 (by decide) ?_
      refine lv_goto (pc := 21) (tgt := 25) hx hb d_P_isPixel_21 (by decide) ?_
      cases hE
      exact xs_zret (pc := 25) hx hb hr hlk G (Or.inr rfl) d_P_isPixel_25
def fn_P_compareDepths (μ0 : xs_M) (x0 : Int32) (x1 : Int32) : Option Int32 :=
  (if xs_in x0 192 = true then (if xs_in x0 192 = true then (if xs_in x1 192 = true then (if xs_in x1 192 = true then ((fn_P_compareQuotients μ0 (μ0.2 11 x0.toNatClampNeg) (μ0.2 12 x0.toNatClampNeg) (μ0.2 11 x1.toNatClampNeg) (μ0.2 12 x1.toNatClampNeg)).bind fun w5 => some (w5)) else none) else none) else none) else none)
set_option maxHeartbeats 4000000 in
set_option maxRecDepth 100000 in
theorem ok_P_compareDepths (l : Launch) (D : va_G) (ad : Nat → Nat) (cs : xs_cs) (hJ : xs_J ad) {μ0 : xs_M} {x0 : Int32} {x1 : Int32}  {rz : Int32} (hE : fn_P_compareDepths μ0 x0 x1 = some rz) : xs_I l D ad cs y_P_compareDepths b_P_compareDepths 3 (some .int) 1 33 [.ref (ad 8), .int (x0), .int (x1)] μ0 (some (.int rz)) μ0 := by
  refine xs_entry hJ (by decide) (Nat.le_of_ble_eq_true rfl) ?_
  intro p e s m below meth c ls X hr hlk G hl
  have X : xs_C p s m c b_P_compareDepths 3 _ "ExactScene$Picture" := X
  have hx := X.1
  have hb := X.2.1
  have hl : lv_has ls 3 [(0, .ref (ad 8)), (1, .int (x0)), (2, .int (x1))] := hl
  unfold fn_P_compareDepths at hE
  refine lv_aload_n (pc := 0) hx hb d_P_compareDepths_0 rfl (lv_at hl 0 rfl) ?_
  refine gf_P_18 (pc := 1) X G d_P_compareDepths_1 ?_
  refine lv_iload_n (pc := 4) hx hb d_P_compareDepths_4 rfl (lv_at hl 1 rfl) ?_
  obtain ⟨hi1, hE⟩ := xs_n hE
  refine xs_lald (pc := 5) hx hb G la_11 (xs_inP hi1) d_P_compareDepths_5 ?_
  refine lv_aload_n (pc := 6) hx hb d_P_compareDepths_6 rfl (lv_at hl 0 rfl) ?_
  refine gf_P_22 (pc := 7) X G d_P_compareDepths_7 ?_
  refine lv_iload_n (pc := 10) hx hb d_P_compareDepths_10 rfl (lv_at hl 1 rfl) ?_
  obtain ⟨hi2, hE⟩ := xs_n hE
  refine xs_lald (pc := 11) hx hb G la_12 (xs_inP hi2) d_P_compareDepths_11 ?_
  refine lv_aload_n (pc := 12) hx hb d_P_compareDepths_12 rfl (lv_at hl 0 rfl) ?_
  refine gf_P_18 (pc := 13) X G d_P_compareDepths_13 ?_
  refine lv_iload_n (pc := 16) hx hb d_P_compareDepths_16 rfl (lv_at hl 2 rfl) ?_
  obtain ⟨hi3, hE⟩ := xs_n hE
  refine xs_lald (pc := 17) hx hb G la_11 (xs_inP hi3) d_P_compareDepths_17 ?_
  refine lv_aload_n (pc := 18) hx hb d_P_compareDepths_18 rfl (lv_at hl 0 rfl) ?_
  refine gf_P_22 (pc := 19) X G d_P_compareDepths_19 ?_
  refine lv_iload_n (pc := 22) hx hb d_P_compareDepths_22 rfl (lv_at hl 2 rfl) ?_
  obtain ⟨hi4, hE⟩ := xs_n hE
  refine xs_lald (pc := 23) hx hb G la_12 (xs_inP hi4) d_P_compareDepths_23 ?_
  obtain ⟨w5, hw5, hE⟩ := xs_b hE
  refine xs_callSr (pc := 24) (as := [.long ((μ0.2 11 x0.toNatClampNeg)), .long ((μ0.2 12 x0.toNatClampNeg)), .long ((μ0.2 11 x1.toNatClampNeg)), .long ((μ0.2 12 x1.toNatClampNeg))]) X (ok_P_compareQuotients l D ad cs hJ hw5) km_P_55 G ⟨by decide, by decide⟩ ⟨Nat.zero_le _, Nat.zero_le _⟩ rfl hl.1 rfl (Nat.le_of_ble_eq_true rfl) d_P_compareDepths_24 (fun H locs G => ?_)
  cases hE
  exact xs_iret (pc := 27) hx hb hr hlk G d_P_compareDepths_27
def fn_P_wholeDepth (μ0 : xs_M) (x0 : Int32) : Option Int64 :=
  (if xs_in x0 192 = true then (if xs_in x0 192 = true then ((fn_S_cutDown μ0 (μ0.2 11 x0.toNatClampNeg) (μ0.2 12 x0.toNatClampNeg)).bind fun w3 => some (w3)) else none) else none)
set_option maxHeartbeats 4000000 in
set_option maxRecDepth 100000 in
theorem ok_P_wholeDepth (l : Launch) (D : va_G) (ad : Nat → Nat) (cs : xs_cs) (hJ : xs_J ad) {μ0 : xs_M} {x0 : Int32}  {rz : Int64} (hE : fn_P_wholeDepth μ0 x0 = some rz) : xs_I l D ad cs y_P_wholeDepth b_P_wholeDepth 2 (some .long) 2 48 [.ref (ad 8), .int (x0)] μ0 (some (.long rz)) μ0 := by
  refine xs_entry hJ (by decide) (Nat.le_of_ble_eq_true rfl) ?_
  intro p e s m below meth c ls X hr hlk G hl
  have X : xs_C p s m c b_P_wholeDepth 2 _ "ExactScene$Picture" := X
  have hx := X.1
  have hb := X.2.1
  have hl : lv_has ls 2 [(0, .ref (ad 8)), (1, .int (x0))] := hl
  unfold fn_P_wholeDepth at hE
  refine lv_aload_n (pc := 0) hx hb d_P_wholeDepth_0 rfl (lv_at hl 0 rfl) ?_
  refine gf_P_18 (pc := 1) X G d_P_wholeDepth_1 ?_
  refine lv_iload_n (pc := 4) hx hb d_P_wholeDepth_4 rfl (lv_at hl 1 rfl) ?_
  obtain ⟨hi1, hE⟩ := xs_n hE
  refine xs_lald (pc := 5) hx hb G la_11 (xs_inP hi1) d_P_wholeDepth_5 ?_
  refine lv_aload_n (pc := 6) hx hb d_P_wholeDepth_6 rfl (lv_at hl 0 rfl) ?_
  refine gf_P_22 (pc := 7) X G d_P_wholeDepth_7 ?_
  refine lv_iload_n (pc := 10) hx hb d_P_wholeDepth_10 rfl (lv_at hl 1 rfl) ?_
  obtain ⟨hi2, hE⟩ := xs_n hE
  refine xs_lald (pc := 11) hx hb G la_12 (xs_inP hi2) d_P_wholeDepth_11 ?_
  obtain ⟨w3, hw3, hE⟩ := xs_b hE
  refine xs_callSNr (pc := 12) (as := [.long ((μ0.2 11 x0.toNatClampNeg)), .long ((μ0.2 12 x0.toNatClampNeg))]) X (ok_S_cutDown l D ad cs hJ hw3) km_P_59 G ⟨by decide, by decide⟩ ⟨Nat.zero_le _, Nat.zero_le _⟩ rfl hl.1 rfl (Nat.le_of_ble_eq_true rfl) d_P_wholeDepth_12 (fun H locs G => ?_)
  cases hE
  exact xs_lret (pc := 15) hx hb hr hlk G d_P_wholeDepth_15
