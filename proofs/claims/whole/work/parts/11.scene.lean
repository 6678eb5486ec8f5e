theorem d_S_addCorner_0 : decode b_S_addCorner 0 = .ok (.aload_n 0, 1) := by decide +kernel
theorem d_S_addCorner_1 : decode b_S_addCorner 1 = .ok (.getfield 32, 3) := by decide +kernel
theorem d_S_addCorner_4 : decode b_S_addCorner 4 = .ok (.aload_n 0, 1) := by decide +kernel
theorem d_S_addCorner_5 : decode b_S_addCorner 5 = .ok (.getfield 121, 3) := by decide +kernel
theorem d_S_addCorner_8 : decode b_S_addCorner 8 = .ok (.aaload, 1) := by decide +kernel
theorem d_S_addCorner_9 : decode b_S_addCorner 9 = .ok (.astore 6, 2) := by decide +kernel
theorem d_S_addCorner_11 : decode b_S_addCorner 11 = .ok (.aload_n 0, 1) := by decide +kernel
theorem d_S_addCorner_12 : decode b_S_addCorner 12 = .ok (.getfield 10, 3) := by decide +kernel
theorem d_S_addCorner_15 : decode b_S_addCorner 15 = .ok (.iconst 3, 1) := by decide +kernel
theorem d_S_addCorner_16 : decode b_S_addCorner 16 = .ok (.iload_n 1, 1) := by decide +kernel
theorem d_S_addCorner_17 : decode b_S_addCorner 17 = .ok (.iload_n 2, 1) := by decide +kernel
theorem d_S_addCorner_18 : decode b_S_addCorner 18 = .ok (.iload_n 3, 1) := by decide +kernel
theorem d_S_addCorner_19 : decode b_S_addCorner 19 = .ok (.invokevirtual 204, 3) := by decide +kernel
theorem d_S_addCorner_22 : decode b_S_addCorner 22 = .ok (.istore 7, 2) := by decide +kernel
theorem d_S_addCorner_24 : decode b_S_addCorner 24 = .ok (.aload 6, 2) := by decide +kernel
theorem d_S_addCorner_26 : decode b_S_addCorner 26 = .ok (.aload_n 0, 1) := by decide +kernel
theorem d_S_addCorner_27 : decode b_S_addCorner 27 = .ok (.getfield 152, 3) := by decide +kernel
theorem d_S_addCorner_30 : decode b_S_addCorner 30 = .ok (.bipush (16), 2) := by decide +kernel
theorem d_S_addCorner_32 : decode b_S_addCorner 32 = .ok (.aload_n 0, 1) := by decide +kernel
theorem d_S_addCorner_33 : decode b_S_addCorner 33 = .ok (.getfield 10, 3) := by decide +kernel
theorem d_S_addCorner_36 : decode b_S_addCorner 36 = .ok (.iconst 0, 1) := by decide +kernel
theorem d_S_addCorner_37 : decode b_S_addCorner 37 = .ok (.iload_n 1, 1) := by decide +kernel
theorem d_S_addCorner_38 : decode b_S_addCorner 38 = .ok (.iload_n 2, 1) := by decide +kernel
theorem d_S_addCorner_39 : decode b_S_addCorner 39 = .ok (.iload_n 3, 1) := by decide +kernel
theorem d_S_addCorner_40 : decode b_S_addCorner 40 = .ok (.invokevirtual 204, 3) := by decide +kernel
theorem d_S_addCorner_43 : decode b_S_addCorner 43 = .ok (.iload 7, 2) := by decide +kernel
theorem d_S_addCorner_45 : decode b_S_addCorner 45 = .ok (.iadd, 1) := by decide +kernel
theorem d_S_addCorner_46 : decode b_S_addCorner 46 = .ok (.imul, 1) := by decide +kernel
theorem d_S_addCorner_47 : decode b_S_addCorner 47 = .ok (.bipush (12), 2) := by decide +kernel
theorem d_S_addCorner_49 : decode b_S_addCorner 49 = .ok (.aload_n 0, 1) := by decide +kernel
theorem d_S_addCorner_50 : decode b_S_addCorner 50 = .ok (.getfield 10, 3) := by decide +kernel
theorem d_S_addCorner_53 : decode b_S_addCorner 53 = .ok (.iconst 1, 1) := by decide +kernel
theorem d_S_addCorner_54 : decode b_S_addCorner 54 = .ok (.iload_n 1, 1) := by decide +kernel
theorem d_S_addCorner_55 : decode b_S_addCorner 55 = .ok (.iload_n 2, 1) := by decide +kernel
theorem d_S_addCorner_56 : decode b_S_addCorner 56 = .ok (.iload_n 3, 1) := by decide +kernel
theorem d_S_addCorner_57 : decode b_S_addCorner 57 = .ok (.invokevirtual 204, 3) := by decide +kernel
theorem d_S_addCorner_60 : decode b_S_addCorner 60 = .ok (.iload 7, 2) := by decide +kernel
theorem d_S_addCorner_62 : decode b_S_addCorner 62 = .ok (.iadd, 1) := by decide +kernel
theorem d_S_addCorner_63 : decode b_S_addCorner 63 = .ok (.imul, 1) := by decide +kernel
theorem d_S_addCorner_64 : decode b_S_addCorner 64 = .ok (.iload 7, 2) := by decide +kernel
theorem d_S_addCorner_66 : decode b_S_addCorner 66 = .ok (.invokevirtual 208, 3) := by decide +kernel
theorem d_S_addCorner_69 : decode b_S_addCorner 69 = .ok (.aload 6, 2) := by decide +kernel
theorem d_S_addCorner_71 : decode b_S_addCorner 71 = .ok (.aload_n 0, 1) := by decide +kernel
theorem d_S_addCorner_72 : decode b_S_addCorner 72 = .ok (.getfield 152, 3) := by decide +kernel
theorem d_S_addCorner_75 : decode b_S_addCorner 75 = .ok (.aload_n 0, 1) := by decide +kernel
theorem d_S_addCorner_76 : decode b_S_addCorner 76 = .ok (.getfield 10, 3) := by decide +kernel
theorem d_S_addCorner_79 : decode b_S_addCorner 79 = .ok (.iconst 2, 1) := by decide +kernel
theorem d_S_addCorner_80 : decode b_S_addCorner 80 = .ok (.iload_n 1, 1) := by decide +kernel
theorem d_S_addCorner_81 : decode b_S_addCorner 81 = .ok (.iload_n 2, 1) := by decide +kernel
theorem d_S_addCorner_82 : decode b_S_addCorner 82 = .ok (.iload_n 3, 1) := by decide +kernel
theorem d_S_addCorner_83 : decode b_S_addCorner 83 = .ok (.invokevirtual 204, 3) := by decide +kernel
theorem d_S_addCorner_86 : decode b_S_addCorner 86 = .ok (.iload 4, 2) := by decide +kernel
theorem d_S_addCorner_88 : decode b_S_addCorner 88 = .ok (.iload 5, 2) := by decide +kernel
theorem d_S_addCorner_90 : decode b_S_addCorner 90 = .ok (.invokevirtual 212, 3) := by decide +kernel
theorem d_S_addCorner_93 : decode b_S_addCorner 93 = .ok (.aload_n 0, 1) := by decide +kernel
theorem d_S_addCorner_94 : decode b_S_addCorner 94 = .ok (.dup, 1) := by decide +kernel
theorem d_S_addCorner_95 : decode b_S_addCorner 95 = .ok (.getfield 152, 3) := by decide +kernel
theorem d_S_addCorner_98 : decode b_S_addCorner 98 = .ok (.iconst 1, 1) := by decide +kernel
theorem d_S_addCorner_99 : decode b_S_addCorner 99 = .ok (.iadd, 1) := by decide +kernel
theorem d_S_addCorner_100 : decode b_S_addCorner 100 = .ok (.putfield 152, 3) := by decide +kernel
theorem d_S_addCorner_103 : decode b_S_addCorner 103 = .ok (.aload_n 0, 1) := by decide +kernel
theorem d_S_addCorner_104 : decode b_S_addCorner 104 = .ok (.getfield 152, 3) := by decide +kernel
theorem d_S_addCorner_107 : decode b_S_addCorner 107 = .ok (.iconst 3, 1) := by decide +kernel
theorem d_S_addCorner_108 : decode b_S_addCorner 108 = .ok (.if_icmp .ne (35), 3) := by decide +kernel
theorem d_S_addCorner_111 : decode b_S_addCorner 111 = .ok (.aload 6, 2) := by decide +kernel
theorem d_S_addCorner_113 : decode b_S_addCorner 113 = .ok (.aload_n 0, 1) := by decide +kernel
theorem d_S_addCorner_114 : decode b_S_addCorner 114 = .ok (.getfield 133, 3) := by decide +kernel
theorem d_S_addCorner_117 : decode b_S_addCorner 117 = .ok (.aload_n 0, 1) := by decide +kernel
theorem d_S_addCorner_118 : decode b_S_addCorner 118 = .ok (.getfield 136, 3) := by decide +kernel
theorem d_S_addCorner_121 : decode b_S_addCorner 121 = .ok (.aload_n 0, 1) := by decide +kernel
theorem d_S_addCorner_122 : decode b_S_addCorner 122 = .ok (.getfield 139, 3) := by decide +kernel
theorem d_S_addCorner_125 : decode b_S_addCorner 125 = .ok (.invokevirtual 215, 3) := by decide +kernel
theorem d_S_addCorner_128 : decode b_S_addCorner 128 = .ok (.aload_n 0, 1) := by decide +kernel
theorem d_S_addCorner_129 : decode b_S_addCorner 129 = .ok (.dup, 1) := by decide +kernel
theorem d_S_addCorner_130 : decode b_S_addCorner 130 = .ok (.getfield 121, 3) := by decide +kernel
theorem d_S_addCorner_133 : decode b_S_addCorner 133 = .ok (.iconst 1, 1) := by decide +kernel
theorem d_S_addCorner_134 : decode b_S_addCorner 134 = .ok (.iadd, 1) := by decide +kernel
theorem d_S_addCorner_135 : decode b_S_addCorner 135 = .ok (.putfield 121, 3) := by decide +kernel
theorem d_S_addCorner_138 : decode b_S_addCorner 138 = .ok (.aload_n 0, 1) := by decide +kernel
theorem d_S_addCorner_139 : decode b_S_addCorner 139 = .ok (.iconst 0, 1) := by decide +kernel
theorem d_S_addCorner_140 : decode b_S_addCorner 140 = .ok (.putfield 152, 3) := by decide +kernel
theorem d_S_addCorner_143 : decode b_S_addCorner 143 = .ok (.return_, 1) := by decide +kernel
theorem d_S_use_0 : decode b_S_use 0 = .ok (.iload_n 1, 1) := by decide +kernel
theorem d_S_use_1 : decode b_S_use 1 = .ok (.invokestatic 130, 3) := by decide +kernel
theorem d_S_use_4 : decode b_S_use 4 = .ok (.ifCond .eq (21), 3) := by decide +kernel
theorem d_S_use_7 : decode b_S_use 7 = .ok (.iload_n 2, 1) := by decide +kernel
theorem d_S_use_8 : decode b_S_use 8 = .ok (.iconst 0, 1) := by decide +kernel
theorem d_S_use_9 : decode b_S_use 9 = .ok (.iconst 1, 1) := by decide +kernel
theorem d_S_use_10 : decode b_S_use 10 = .ok (.invokestatic 70, 3) := by decide +kernel
theorem d_S_use_13 : decode b_S_use 13 = .ok (.ifCond .eq (12), 3) := by decide +kernel
theorem d_S_use_16 : decode b_S_use 16 = .ok (.iload_n 3, 1) := by decide +kernel
theorem d_S_use_17 : decode b_S_use 17 = .ok (.iconst 0, 1) := by decide +kernel
theorem d_S_use_18 : decode b_S_use 18 = .ok (.iconst 2, 1) := by decide +kernel
theorem d_S_use_19 : decode b_S_use 19 = .ok (.invokestatic 70, 3) := by decide +kernel
theorem d_S_use_22 : decode b_S_use 22 = .ok (.ifCond .ne (5), 3) := by decide +kernel
theorem d_S_use_25 : decode b_S_use 25 = .ok (.iconst 0, 1) := by decide +kernel
theorem d_S_use_26 : decode b_S_use 26 = .ok (.ireturn, 1) := by decide +kernel
theorem d_S_use_27 : decode b_S_use 27 = .ok (.aload_n 0, 1) := by decide +kernel
theorem d_S_use_28 : decode b_S_use 28 = .ok (.iload_n 1, 1) := by decide +kernel
theorem d_S_use_29 : decode b_S_use 29 = .ok (.putfield 133, 3) := by decide +kernel
theorem d_S_use_32 : decode b_S_use 32 = .ok (.aload_n 0, 1) := by decide +kernel
theorem d_S_use_33 : decode b_S_use 33 = .ok (.iload_n 2, 1) := by decide +kernel
theorem d_S_use_34 : decode b_S_use 34 = .ok (.putfield 136, 3) := by decide +kernel
theorem d_S_use_37 : decode b_S_use 37 = .ok (.aload_n 0, 1) := by decide +kernel
theorem d_S_use_38 : decode b_S_use 38 = .ok (.iload_n 3, 1) := by decide +kernel
theorem d_S_use_39 : decode b_S_use 39 = .ok (.putfield 139, 3) := by decide +kernel
theorem d_S_use_42 : decode b_S_use 42 = .ok (.iconst 1, 1) := by decide +kernel
theorem d_S_use_43 : decode b_S_use 43 = .ok (.ireturn, 1) := by decide +kernel
theorem d_S_clear_0 : decode b_S_clear 0 = .ok (.aload_n 0, 1) := by decide +kernel
theorem d_S_clear_1 : decode b_S_clear 1 = .ok (.getfield 121, 3) := by decide +kernel
theorem d_S_clear_4 : decode b_S_clear 4 = .ok (.istore_n 1, 1) := by decide +kernel
theorem d_S_clear_5 : decode b_S_clear 5 = .ok (.aload_n 0, 1) := by decide +kernel
theorem d_S_clear_6 : decode b_S_clear 6 = .ok (.iconst 0, 1) := by decide +kernel
theorem d_S_clear_7 : decode b_S_clear 7 = .ok (.putfield 121, 3) := by decide +kernel
theorem d_S_clear_10 : decode b_S_clear 10 = .ok (.aload_n 0, 1) := by decide +kernel
theorem d_S_clear_11 : decode b_S_clear 11 = .ok (.iconst 0, 1) := by decide +kernel
theorem d_S_clear_12 : decode b_S_clear 12 = .ok (.putfield 152, 3) := by decide +kernel
theorem d_S_clear_15 : decode b_S_clear 15 = .ok (.iload_n 1, 1) := by decide +kernel
theorem d_S_clear_16 : decode b_S_clear 16 = .ok (.ireturn, 1) := by decide +kernel
theorem d_S_textureColour_0 : decode b_S_textureColour 0 = .ok (.aload_n 1, 1) := by decide +kernel
theorem d_S_textureColour_1 : decode b_S_textureColour 1 = .ok (.getfield 223, 3) := by decide +kernel
theorem d_S_textureColour_4 : decode b_S_textureColour 4 = .ok (.aload_n 1, 1) := by decide +kernel
theorem d_S_textureColour_5 : decode b_S_textureColour 5 = .ok (.iload_n 2, 1) := by decide +kernel
theorem d_S_textureColour_6 : decode b_S_textureColour 6 = .ok (.iload_n 3, 1) := by decide +kernel
theorem d_S_textureColour_7 : decode b_S_textureColour 7 = .ok (.invokevirtual 226, 3) := by decide +kernel
theorem d_S_textureColour_10 : decode b_S_textureColour 10 = .ok (.invokestatic 230, 3) := by decide +kernel
theorem d_S_textureColour_13 : decode b_S_textureColour 13 = .ok (.istore 4, 2) := by decide +kernel
theorem d_S_textureColour_15 : decode b_S_textureColour 15 = .ok (.aload_n 1, 1) := by decide +kernel
theorem d_S_textureColour_16 : decode b_S_textureColour 16 = .ok (.getfield 223, 3) := by decide +kernel
theorem d_S_textureColour_19 : decode b_S_textureColour 19 = .ok (.aload_n 1, 1) := by decide +kernel
theorem d_S_textureColour_20 : decode b_S_textureColour 20 = .ok (.iload_n 2, 1) := by decide +kernel
theorem d_S_textureColour_21 : decode b_S_textureColour 21 = .ok (.iload_n 3, 1) := by decide +kernel
theorem d_S_textureColour_22 : decode b_S_textureColour 22 = .ok (.invokevirtual 234, 3) := by decide +kernel
theorem d_S_textureColour_25 : decode b_S_textureColour 25 = .ok (.invokestatic 230, 3) := by decide +kernel
theorem d_S_textureColour_28 : decode b_S_textureColour 28 = .ok (.istore 5, 2) := by decide +kernel
theorem d_S_textureColour_30 : decode b_S_textureColour 30 = .ok (.aload_n 0, 1) := by decide +kernel
theorem d_S_textureColour_31 : decode b_S_textureColour 31 = .ok (.getfield 19, 3) := by decide +kernel
theorem d_S_textureColour_34 : decode b_S_textureColour 34 = .ok (.getfield 237, 3) := by decide +kernel
theorem d_S_textureColour_37 : decode b_S_textureColour 37 = .ok (.aload_n 1, 1) := by decide +kernel
theorem d_S_textureColour_38 : decode b_S_textureColour 38 = .ok (.getfield 240, 3) := by decide +kernel
theorem d_S_textureColour_41 : decode b_S_textureColour 41 = .ok (.iload 4, 2) := by decide +kernel
theorem d_S_textureColour_43 : decode b_S_textureColour 43 = .ok (.iload 5, 2) := by decide +kernel
theorem d_S_textureColour_45 : decode b_S_textureColour 45 = .ok (.invokestatic 145, 3) := by decide +kernel
theorem d_S_textureColour_48 : decode b_S_textureColour 48 = .ok (.iaload, 1) := by decide +kernel
theorem d_S_textureColour_49 : decode b_S_textureColour 49 = .ok (.ireturn, 1) := by decide +kernel
theorem d_S_paintOwnedPixels_0 : decode b_S_paintOwnedPixels 0 = .ok (.iconst 0, 1) := by decide +kernel
theorem d_S_paintOwnedPixels_1 : decode b_S_paintOwnedPixels 1 = .ok (.istore_n 1, 1) := by decide +kernel
theorem d_S_paintOwnedPixels_2 : decode b_S_paintOwnedPixels 2 = .ok (.iconst 0, 1) := by decide +kernel
theorem d_S_paintOwnedPixels_3 : decode b_S_paintOwnedPixels 3 = .ok (.istore_n 2, 1) := by decide +kernel
theorem d_S_paintOwnedPixels_4 : decode b_S_paintOwnedPixels 4 = .ok (.iload_n 2, 1) := by decide +kernel
theorem d_S_paintOwnedPixels_5 : decode b_S_paintOwnedPixels 5 = .ok (.bipush (12), 2) := by decide +kernel
theorem d_S_paintOwnedPixels_7 : decode b_S_paintOwnedPixels 7 = .ok (.if_icmp .ge (76), 3) := by decide +kernel
theorem d_S_paintOwnedPixels_10 : decode b_S_paintOwnedPixels 10 = .ok (.iconst 0, 1) := by decide +kernel
theorem d_S_paintOwnedPixels_11 : decode b_S_paintOwnedPixels 11 = .ok (.istore_n 3, 1) := by decide +kernel
theorem d_S_paintOwnedPixels_12 : decode b_S_paintOwnedPixels 12 = .ok (.iload_n 3, 1) := by decide +kernel
theorem d_S_paintOwnedPixels_13 : decode b_S_paintOwnedPixels 13 = .ok (.bipush (16), 2) := by decide +kernel
theorem d_S_paintOwnedPixels_15 : decode b_S_paintOwnedPixels 15 = .ok (.if_icmp .ge (62), 3) := by decide +kernel
theorem d_S_paintOwnedPixels_18 : decode b_S_paintOwnedPixels 18 = .ok (.iload_n 3, 1) := by decide +kernel
theorem d_S_paintOwnedPixels_19 : decode b_S_paintOwnedPixels 19 = .ok (.iload_n 2, 1) := by decide +kernel
theorem d_S_paintOwnedPixels_20 : decode b_S_paintOwnedPixels 20 = .ok (.invokestatic 180, 3) := by decide +kernel
theorem d_S_paintOwnedPixels_23 : decode b_S_paintOwnedPixels 23 = .ok (.istore 4, 2) := by decide +kernel
theorem d_S_paintOwnedPixels_25 : decode b_S_paintOwnedPixels 25 = .ok (.aload_n 0, 1) := by decide +kernel
theorem d_S_paintOwnedPixels_26 : decode b_S_paintOwnedPixels 26 = .ok (.getfield 26, 3) := by decide +kernel
theorem d_S_paintOwnedPixels_29 : decode b_S_paintOwnedPixels 29 = .ok (.iload 4, 2) := by decide +kernel
theorem d_S_paintOwnedPixels_31 : decode b_S_paintOwnedPixels 31 = .ok (.invokevirtual 185, 3) := by decide +kernel
theorem d_S_paintOwnedPixels_34 : decode b_S_paintOwnedPixels 34 = .ok (.ifCond .eq (37), 3) := by decide +kernel
theorem d_S_paintOwnedPixels_37 : decode b_S_paintOwnedPixels 37 = .ok (.aload_n 0, 1) := by decide +kernel
theorem d_S_paintOwnedPixels_38 : decode b_S_paintOwnedPixels 38 = .ok (.getfield 26, 3) := by decide +kernel
theorem d_S_paintOwnedPixels_41 : decode b_S_paintOwnedPixels 41 = .ok (.getfield 176, 3) := by decide +kernel
theorem d_S_paintOwnedPixels_44 : decode b_S_paintOwnedPixels 44 = .ok (.iload 4, 2) := by decide +kernel
theorem d_S_paintOwnedPixels_46 : decode b_S_paintOwnedPixels 46 = .ok (.aload_n 0, 1) := by decide +kernel
theorem d_S_paintOwnedPixels_47 : decode b_S_paintOwnedPixels 47 = .ok (.aload_n 0, 1) := by decide +kernel
theorem d_S_paintOwnedPixels_48 : decode b_S_paintOwnedPixels 48 = .ok (.getfield 32, 3) := by decide +kernel
theorem d_S_paintOwnedPixels_51 : decode b_S_paintOwnedPixels 51 = .ok (.aload_n 0, 1) := by decide +kernel
theorem d_S_paintOwnedPixels_52 : decode b_S_paintOwnedPixels 52 = .ok (.getfield 26, 3) := by decide +kernel
theorem d_S_paintOwnedPixels_55 : decode b_S_paintOwnedPixels 55 = .ok (.getfield 182, 3) := by decide +kernel
theorem d_S_paintOwnedPixels_58 : decode b_S_paintOwnedPixels 58 = .ok (.iload 4, 2) := by decide +kernel
theorem d_S_paintOwnedPixels_60 : decode b_S_paintOwnedPixels 60 = .ok (.iaload, 1) := by decide +kernel
theorem d_S_paintOwnedPixels_61 : decode b_S_paintOwnedPixels 61 = .ok (.aaload, 1) := by decide +kernel
theorem d_S_paintOwnedPixels_62 : decode b_S_paintOwnedPixels 62 = .ok (.iload_n 3, 1) := by decide +kernel
theorem d_S_paintOwnedPixels_63 : decode b_S_paintOwnedPixels 63 = .ok (.iload_n 2, 1) := by decide +kernel
theorem d_S_paintOwnedPixels_64 : decode b_S_paintOwnedPixels 64 = .ok (.invokevirtual 219, 3) := by decide +kernel
theorem d_S_paintOwnedPixels_67 : decode b_S_paintOwnedPixels 67 = .ok (.iastore, 1) := by decide +kernel
theorem d_S_paintOwnedPixels_68 : decode b_S_paintOwnedPixels 68 = .ok (.iinc 1 (1), 3) := by decide +kernel
theorem d_S_paintOwnedPixels_71 : decode b_S_paintOwnedPixels 71 = .ok (.iinc 3 (1), 3) := by decide +kernel
theorem d_S_paintOwnedPixels_74 : decode b_S_paintOwnedPixels 74 = .ok (.goto (-62), 3) := by decide +kernel
theorem d_S_paintOwnedPixels_77 : decode b_S_paintOwnedPixels 77 = .ok (.iinc 2 (1), 3) := by decide +kernel
theorem d_S_paintOwnedPixels_80 : decode b_S_paintOwnedPixels 80 = .ok (.goto (-76), 3) := by decide +kernel
theorem d_S_paintOwnedPixels_83 : decode b_S_paintOwnedPixels 83 = .ok (.iload_n 1, 1) := by decide +kernel
theorem d_S_paintOwnedPixels_84 : decode b_S_paintOwnedPixels 84 = .ok (.ireturn, 1) := by decide +kernel
theorem d_S_draw_0 : decode b_S_draw 0 = .ok (.aload_n 0, 1) := by decide +kernel
theorem d_S_draw_1 : decode b_S_draw 1 = .ok (.getfield 26, 3) := by decide +kernel
theorem d_S_draw_4 : decode b_S_draw 4 = .ok (.iload_n 1, 1) := by decide +kernel
theorem d_S_draw_5 : decode b_S_draw 5 = .ok (.sipush (255), 3) := by decide +kernel
theorem d_S_draw_8 : decode b_S_draw 8 = .ok (.iand, 1) := by decide +kernel
theorem d_S_draw_9 : decode b_S_draw 9 = .ok (.invokevirtual 155, 3) := by decide +kernel
theorem d_S_draw_12 : decode b_S_draw 12 = .ok (.iconst 0, 1) := by decide +kernel
theorem d_S_draw_13 : decode b_S_draw 13 = .ok (.istore_n 2, 1) := by decide +kernel
theorem d_S_draw_14 : decode b_S_draw 14 = .ok (.iload_n 2, 1) := by decide +kernel
theorem d_S_draw_15 : decode b_S_draw 15 = .ok (.aload_n 0, 1) := by decide +kernel
theorem d_S_draw_16 : decode b_S_draw 16 = .ok (.getfield 121, 3) := by decide +kernel
theorem d_S_draw_19 : decode b_S_draw 19 = .ok (.if_icmp .ge (35), 3) := by decide +kernel
theorem d_S_draw_22 : decode b_S_draw 22 = .ok (.aload_n 0, 1) := by decide +kernel
theorem d_S_draw_23 : decode b_S_draw 23 = .ok (.getfield 32, 3) := by decide +kernel
theorem d_S_draw_26 : decode b_S_draw 26 = .ok (.iload_n 2, 1) := by decide +kernel
theorem d_S_draw_27 : decode b_S_draw 27 = .ok (.aaload, 1) := by decide +kernel
theorem d_S_draw_28 : decode b_S_draw 28 = .ok (.invokevirtual 159, 3) := by decide +kernel
theorem d_S_draw_31 : decode b_S_draw 31 = .ok (.ifCond .eq (17), 3) := by decide +kernel
theorem d_S_draw_34 : decode b_S_draw 34 = .ok (.aload_n 0, 1) := by decide +kernel
theorem d_S_draw_35 : decode b_S_draw 35 = .ok (.getfield 26, 3) := by decide +kernel
theorem d_S_draw_38 : decode b_S_draw 38 = .ok (.iload_n 2, 1) := by decide +kernel
theorem d_S_draw_39 : decode b_S_draw 39 = .ok (.aload_n 0, 1) := by decide +kernel
theorem d_S_draw_40 : decode b_S_draw 40 = .ok (.getfield 32, 3) := by decide +kernel
theorem d_S_draw_43 : decode b_S_draw 43 = .ok (.iload_n 2, 1) := by decide +kernel
theorem d_S_draw_44 : decode b_S_draw 44 = .ok (.aaload, 1) := by decide +kernel
theorem d_S_draw_45 : decode b_S_draw 45 = .ok (.invokevirtual 162, 3) := by decide +kernel
theorem d_S_draw_48 : decode b_S_draw 48 = .ok (.iinc 2 (1), 3) := by decide +kernel
theorem d_S_draw_51 : decode b_S_draw 51 = .ok (.goto (-37), 3) := by decide +kernel
theorem d_S_draw_54 : decode b_S_draw 54 = .ok (.aload_n 0, 1) := by decide +kernel
theorem d_S_draw_55 : decode b_S_draw 55 = .ok (.invokevirtual 166, 3) := by decide +kernel
theorem d_S_draw_58 : decode b_S_draw 58 = .ok (.ireturn, 1) := by decide +kernel
def fn_S_addCorner (μ0 : xs_M) (x0 : Int32) (x1 : Int32) (x2 : Int32) (x3 : Int32) (x4 : Int32) : Option xs_M :=
  (if xs_in (μ0.1 0 4) 20 = true then ((fn_M_rowTimes μ0 (3 : Int32) x0 x1 x2).bind fun w3 => ((fn_M_rowTimes μ0 (0 : Int32) x0 x1 x2).bind fun w4 => ((fn_M_rowTimes μ0 (1 : Int32) x0 x1 x2).bind fun w5 => ((fn_T_setPlace μ0 ((μ0.1 0 4).toNatClampNeg) (μ0.1 0 5) ((16 : Int32) * (w4 + w3)) ((12 : Int32) * (w5 + w3)) w3).bind fun w6 => ((fn_M_rowTimes w6 (2 : Int32) x0 x1 x2).bind fun w7 => ((fn_T_setRest w6 ((μ0.1 0 4).toNatClampNeg) (w6.1 0 5) w7 x3 x4).bind fun w8 => ((some (xs_si w8 0 5 ((w8.1 0 5) + (1 : Int32)))).bind fun μ9 => (if (μ9.1 0 5) = (3 : Int32) then ((fn_T_complete μ9 ((μ0.1 0 4).toNatClampNeg) (μ9.1 0 6) (μ9.1 0 7) (μ9.1 0 8)).bind fun w10 => ((some (xs_si w10 0 4 ((w10.1 0 4) + (1 : Int32)))).bind fun μ11 => ((some (xs_si μ11 0 5 (0 : Int32))).bind fun μ12 => some (μ12)))) else some (μ9))))))))) else none)
set_option maxHeartbeats 4000000 in
set_option maxRecDepth 100000 in
theorem ok_S_addCorner (l : Launch) (D : va_G) (ad : Nat → Nat) (cs : xs_cs) (hJ : xs_J ad) {μ0 : xs_M} {x0 : Int32} {x1 : Int32} {x2 : Int32} {x3 : Int32} {x4 : Int32}  {rz : xs_M} (hE : fn_S_addCorner μ0 x0 x1 x2 x3 x4 = some rz) : xs_I l D ad cs y_S_addCorner b_S_addCorner 8 none 3 68 [.ref (ad 0), .int (x0), .int (x1), .int (x2), .int (x3), .int (x4)] μ0 none rz := by
  refine xs_entry hJ (by decide) (Nat.le_of_ble_eq_true rfl) ?_
  intro p e s m below meth c ls X hr hlk G hl
  have X : xs_C p s m c b_S_addCorner 8 _ "ExactScene" := X
  have hx := X.1
  have hb := X.2.1
  have hl : lv_has ls 8 [(0, .ref (ad 0)), (1, .int (x0)), (2, .int (x1)), (3, .int (x2)), (4, .int (x3)), (5, .int (x4))] := hl
  unfold fn_S_addCorner at hE
  refine lv_aload_n (pc := 0) hx hb d_S_addCorner_0 rfl (lv_at hl 0 rfl) ?_
  refine gf_S_32 (pc := 1) X G d_S_addCorner_1 ?_
  refine lv_aload_n (pc := 4) hx hb d_S_addCorner_4 rfl (lv_at hl 0 rfl) ?_
  refine gf_S_121 (pc := 5) X G d_S_addCorner_5 ?_
  obtain ⟨hi1, hE⟩ := xs_n hE
  refine xs_aald (pc := 8) hx hb G (xs_inP hi1) d_S_addCorner_8 ?_
  have hk2 : (μ0.1 0 4).toNatClampNeg < 20 := xs_inL hi1
  refine lv_astore (pc := 9) hx hb d_S_addCorner_9 hl (by decide) (lv' := [(6, .ref (ad (14 + 7 * (μ0.1 0 4).toNatClampNeg))), (0, .ref (ad 0)), (1, .int (x0)), (2, .int (x1)), (3, .int (x2)), (4, .int (x3)), (5, .int (x4))]) rfl (fun ls hl => ?_)
  refine lv_aload_n (pc := 11) hx hb d_S_addCorner_11 rfl (lv_at hl 1 rfl) ?_
  refine gf_S_10 (pc := 12) X G d_S_addCorner_12 ?_
  refine lv_iconst (pc := 15) (v := (3 : Int32)) hx hb d_S_addCorner_15 (by decide) ?_
  refine lv_iload_n (pc := 16) hx hb d_S_addCorner_16 rfl (lv_at hl 2 rfl) ?_
  refine lv_iload_n (pc := 17) hx hb d_S_addCorner_17 rfl (lv_at hl 3 rfl) ?_
  refine lv_iload_n (pc := 18) hx hb d_S_addCorner_18 rfl (lv_at hl 4 rfl) ?_
  obtain ⟨w3, hw3, hE⟩ := xs_b hE
  refine xs_callVr (pc := 19) (as := [.int ((3 : Int32)), .int (x0), .int (x1), .int (x2)]) X (ok_M_rowTimes l D ad cs hJ hw3) km_S_204 G (xs_wM ad cs _) rfl ⟨by decide, by decide⟩ ⟨Nat.zero_le _, Nat.zero_le _⟩ rfl hl.1 rfl (Nat.le_of_ble_eq_true rfl) d_S_addCorner_19 (fun H locs G => ?_)
  refine lv_istore (pc := 22) hx hb d_S_addCorner_22 hl (by decide) (lv' := [(7, .int (w3)), (6, .ref (ad (14 + 7 * (μ0.1 0 4).toNatClampNeg))), (0, .ref (ad 0)), (1, .int (x0)), (2, .int (x1)), (3, .int (x2)), (4, .int (x3)), (5, .int (x4))]) rfl (fun ls hl => ?_)
  refine lv_aload (pc := 24) hx hb d_S_addCorner_24 (lv_at hl 1 rfl) ?_
  refine lv_aload_n (pc := 26) hx hb d_S_addCorner_26 rfl (lv_at hl 2 rfl) ?_
  refine gf_S_152 (pc := 27) X G d_S_addCorner_27 ?_
  refine lv_bipush (pc := 30) (v := (16 : Int32)) hx hb d_S_addCorner_30 (by decide) ?_
  refine lv_aload_n (pc := 32) hx hb d_S_addCorner_32 rfl (lv_at hl 2 rfl) ?_
  refine gf_S_10 (pc := 33) X G d_S_addCorner_33 ?_
  refine lv_iconst (pc := 36) (v := (0 : Int32)) hx hb d_S_addCorner_36 (by decide) ?_
  refine lv_iload_n (pc := 37) hx hb d_S_addCorner_37 rfl (lv_at hl 3 rfl) ?_
  refine lv_iload_n (pc := 38) hx hb d_S_addCorner_38 rfl (lv_at hl 4 rfl) ?_
  refine lv_iload_n (pc := 39) hx hb d_S_addCorner_39 rfl (lv_at hl 5 rfl) ?_
  obtain ⟨w4, hw4, hE⟩ := xs_b hE
  refine xs_callVr (pc := 40) (as := [.int ((0 : Int32)), .int (x0), .int (x1), .int (x2)]) X (ok_M_rowTimes l D ad cs hJ hw4) km_S_204 G (xs_wM ad cs _) rfl ⟨by decide, by decide⟩ ⟨Nat.zero_le _, Nat.zero_le _⟩ rfl hl.1 rfl (Nat.le_of_ble_eq_true rfl) d_S_addCorner_40 (fun H locs G => ?_)
  refine lv_iload (pc := 43) hx hb d_S_addCorner_43 (lv_at hl 0 rfl) ?_
  refine lv_iadd (pc := 45) hx hb d_S_addCorner_45 ?_
  refine lv_imul (pc := 46) hx hb d_S_addCorner_46 ?_
  refine lv_bipush (pc := 47) (v := (12 : Int32)) hx hb d_S_addCorner_47 (by decide) ?_
  refine lv_aload_n (pc := 49) hx hb d_S_addCorner_49 rfl (lv_at hl 2 rfl) ?_
  refine gf_S_10 (pc := 50) X G d_S_addCorner_50 ?_
  refine lv_iconst (pc := 53) (v := (1 : Int32)) hx hb d_S_addCorner_53 (by decide) ?_
  refine lv_iload_n (pc := 54) hx hb d_S_addCorner_54 rfl (lv_at hl 3 rfl) ?_
  refine lv_iload_n (pc := 55) hx hb d_S_addCorner_55 rfl (lv_at hl 4 rfl) ?_
  refine lv_iload_n (pc := 56) hx hb d_S_addCorner_56 rfl (lv_at hl 5 rfl) ?_
  obtain ⟨w5, hw5, hE⟩ := xs_b hE
  refine xs_callVr (pc := 57) (as := [.int ((1 : Int32)), .int (x0), .int (x1), .int (x2)]) X (ok_M_rowTimes l D ad cs hJ hw5) km_S_204 G (xs_wM ad cs _) rfl ⟨by decide, by decide⟩ ⟨Nat.zero_le _, Nat.zero_le _⟩ rfl hl.1 rfl (Nat.le_of_ble_eq_true rfl) d_S_addCorner_57 (fun H locs G => ?_)
  refine lv_iload (pc := 60) hx hb d_S_addCorner_60 (lv_at hl 0 rfl) ?_
  refine lv_iadd (pc := 62) hx hb d_S_addCorner_62 ?_
  refine lv_imul (pc := 63) hx hb d_S_addCorner_63 ?_
  refine lv_iload (pc := 64) hx hb d_S_addCorner_64 (lv_at hl 0 rfl) ?_
  obtain ⟨w6, hw6, hE⟩ := xs_b hE
  refine xs_callVv (pc := 66) (as := [.int ((μ0.1 0 5)), .int (((16 : Int32) * (w4 + w3))), .int (((12 : Int32) * (w5 + w3))), .int (w3)]) X (ok_T_setPlace l D ad cs hJ hk2 hw6) km_S_208 G (xs_wT ad cs _ hk2) rfl ⟨by decide, by decide⟩ ⟨Nat.zero_le _, Nat.zero_le _⟩ rfl hl.1 rfl (Nat.le_of_ble_eq_true rfl) d_S_addCorner_66 (fun H locs G => ?_)
  refine lv_aload (pc := 69) hx hb d_S_addCorner_69 (lv_at hl 1 rfl) ?_
  refine lv_aload_n (pc := 71) hx hb d_S_addCorner_71 rfl (lv_at hl 2 rfl) ?_
  refine gf_S_152 (pc := 72) X G d_S_addCorner_72 ?_
  refine lv_aload_n (pc := 75) hx hb d_S_addCorner_75 rfl (lv_at hl 2 rfl) ?_
  refine gf_S_10 (pc := 76) X G d_S_addCorner_76 ?_
  refine lv_iconst (pc := 79) (v := (2 : Int32)) hx hb d_S_addCorner_79 (by decide) ?_
  refine lv_iload_n (pc := 80) hx hb d_S_addCorner_80 rfl (lv_at hl 3 rfl) ?_
  refine lv_iload_n (pc := 81) hx hb d_S_addCorner_81 rfl (lv_at hl 4 rfl) ?_
  refine lv_iload_n (pc := 82) hx hb d_S_addCorner_82 rfl (lv_at hl 5 rfl) ?_
  obtain ⟨w7, hw7, hE⟩ := xs_b hE
  refine xs_callVr (pc := 83) (as := [.int ((2 : Int32)), .int (x0), .int (x1), .int (x2)]) X (ok_M_rowTimes l D ad cs hJ hw7) km_S_204 G (xs_wM ad cs _) rfl ⟨by decide, by decide⟩ ⟨Nat.zero_le _, Nat.zero_le _⟩ rfl hl.1 rfl (Nat.le_of_ble_eq_true rfl) d_S_addCorner_83 (fun H locs G => ?_)
  refine lv_iload (pc := 86) hx hb d_S_addCorner_86 (lv_at hl 6 rfl) ?_
  refine lv_iload (pc := 88) hx hb d_S_addCorner_88 (lv_at hl 7 rfl) ?_
  obtain ⟨w8, hw8, hE⟩ := xs_b hE
  refine xs_callVv (pc := 90) (as := [.int ((w6.1 0 5)), .int (w7), .int (x3), .int (x4)]) X (ok_T_setRest l D ad cs hJ hk2 hw8) km_S_212 G (xs_wT ad cs _ hk2) rfl ⟨by decide, by decide⟩ ⟨Nat.zero_le _, Nat.zero_le _⟩ rfl hl.1 rfl (Nat.le_of_ble_eq_true rfl) d_S_addCorner_90 (fun H locs G => ?_)
  refine lv_aload_n (pc := 93) hx hb d_S_addCorner_93 rfl (lv_at hl 2 rfl) ?_
  refine lv_dup (pc := 94) hx hb d_S_addCorner_94 rfl ?_
  refine gf_S_152 (pc := 95) X G d_S_addCorner_95 ?_
  refine lv_iconst (pc := 98) (v := (1 : Int32)) hx hb d_S_addCorner_98 (by decide) ?_
  refine lv_iadd (pc := 99) hx hb d_S_addCorner_99 ?_
  refine pf_S_152 (pc := 100) X G d_S_addCorner_100 (fun H locs G => ?_)
  obtain ⟨μ9, hμ9, hE⟩ := xs_b hE
  have G := xs_mv G hμ9
  clear hμ9
  refine lv_aload_n (pc := 103) hx hb d_S_addCorner_103 rfl (lv_at hl 2 rfl) ?_
  refine gf_S_152 (pc := 104) X G d_S_addCorner_104 ?_
  refine lv_iconst (pc := 107) (v := (3 : Int32)) hx hb d_S_addCorner_107 (by decide) ?_
  refine lv_icmp_ne (pc := 108) (tgt := 143) hx hb d_S_addCorner_108 (by decide) (fun hc => ?_) (fun hc => ?_)
  · have hE := xs_f hE hc
    cases hE
    exact xs_vret (pc := 143) hx hb hr hlk G d_S_addCorner_143
  · have hE := xs_t hE hc
    refine lv_aload (pc := 111) hx hb d_S_addCorner_111 (lv_at hl 1 rfl) ?_
    refine lv_aload_n (pc := 113) hx hb d_S_addCorner_113 rfl (lv_at hl 2 rfl) ?_
    refine gf_S_133 (pc := 114) X G d_S_addCorner_114 ?_
    refine lv_aload_n (pc := 117) hx hb d_S_addCorner_117 rfl (lv_at hl 2 rfl) ?_
    refine gf_S_136 (pc := 118) X G d_S_addCorner_118 ?_
    refine lv_aload_n (pc := 121) hx hb d_S_addCorner_121 rfl (lv_at hl 2 rfl) ?_
    refine gf_S_139 (pc := 122) X G d_S_addCorner_122 ?_
    obtain ⟨w10, hw10, hE⟩ := xs_b hE
    refine xs_callVv (pc := 125) (as := [.int ((μ9.1 0 6)), .int ((μ9.1 0 7)), .int ((μ9.1 0 8))]) X (ok_T_complete l D ad cs hJ hk2 hw10) km_S_215 G (xs_wT ad cs _ hk2) rfl ⟨by decide, by decide⟩ ⟨Nat.zero_le _, Nat.zero_le _⟩ rfl hl.1 rfl (Nat.le_of_ble_eq_true rfl) d_S_addCorner_125 (fun H locs G => ?_)
    refine lv_aload_n (pc := 128) hx hb d_S_addCorner_128 rfl (lv_at hl 2 rfl) ?_
    refine lv_dup (pc := 129) hx hb d_S_addCorner_129 rfl ?_
    refine gf_S_121 (pc := 130) X G d_S_addCorner_130 ?_
    refine lv_iconst (pc := 133) (v := (1 : Int32)) hx hb d_S_addCorner_133 (by decide) ?_
    refine lv_iadd (pc := 134) hx hb d_S_addCorner_134 ?_
    refine pf_S_121 (pc := 135) X G d_S_addCorner_135 (fun H locs G => ?_)
    obtain ⟨μ11, hμ11, hE⟩ := xs_b hE
    have G := xs_mv G hμ11
    clear hμ11
    refine lv_aload_n (pc := 138) hx hb d_S_addCorner_138 rfl (lv_at hl 2 rfl) ?_
    refine lv_iconst (pc := 139) (v := (0 : Int32)) hx hb d_S_addCorner_139 (by decide) ?_
    refine pf_S_152 (pc := 140) X G d_S_addCorner_140 (fun H locs G => ?_)
    obtain ⟨μ12, hμ12, hE⟩ := xs_b hE
    have G := xs_mv G hμ12
    have hfμ12 := xs_fi hμ12
    clear hμ12
    cases hE
    exact xs_vret (pc := 143) hx hb hr hlk G d_S_addCorner_143
def fn_S_use (μ0 : xs_M) (x0 : Int32) (x1 : Int32) (x2 : Int32) : Option (Int32 × xs_M) :=
  ((fn_X_isTexture μ0 x0).bind fun w1 => (if w1 = 0 then some (((0 : Int32), μ0)) else ((fn_S_isWithin μ0 x1 (0 : Int32) (1 : Int32)).bind fun w2 => (if w2 = 0 then some (((0 : Int32), μ0)) else ((fn_S_isWithin μ0 x2 (0 : Int32) (2 : Int32)).bind fun w3 => (if w3 = 0 then some (((0 : Int32), μ0)) else ((some (xs_si μ0 0 6 (x0))).bind fun μ4 => ((some (xs_si μ4 0 7 (x1))).bind fun μ5 => ((some (xs_si μ5 0 8 (x2))).bind fun μ6 => some (((1 : Int32), μ6)))))))))))
set_option maxHeartbeats 4000000 in
set_option maxRecDepth 100000 in
theorem ok_S_use (l : Launch) (D : va_G) (ad : Nat → Nat) (cs : xs_cs) (hJ : xs_J ad) {μ0 : xs_M} {x0 : Int32} {x1 : Int32} {x2 : Int32}  {rz : (Int32 × xs_M)} (hE : fn_S_use μ0 x0 x1 x2 = some rz) : xs_I l D ad cs y_S_use b_S_use 4 (some .boolean) 2 42 [.ref (ad 0), .int (x0), .int (x1), .int (x2)] μ0 (some (.int rz.1)) rz.2 := by
  refine xs_entry hJ (by decide) (Nat.le_of_ble_eq_true rfl) ?_
  intro p e s m below meth c ls X hr hlk G hl
  have X : xs_C p s m c b_S_use 4 _ "ExactScene" := X
  have hx := X.1
  have hb := X.2.1
  have hl : lv_has ls 4 [(0, .ref (ad 0)), (1, .int (x0)), (2, .int (x1)), (3, .int (x2))] := hl
  unfold fn_S_use at hE
  refine lv_iload_n (pc := 0) hx hb d_S_use_0 rfl (lv_at hl 1 rfl) ?_
  obtain ⟨w1, hw1, hE⟩ := xs_b hE
  refine xs_callSr (pc := 1) (as := [.int (x0)]) X (ok_X_isTexture l D ad cs hJ hw1) km_S_130 G ⟨by decide, by decide⟩ ⟨Nat.zero_le _, Nat.zero_le _⟩ rfl hl.1 rfl (Nat.le_of_ble_eq_true rfl) d_S_use_1 (fun H locs G => ?_)
  refine lv_if_eq (pc := 4) (tgt := 25) hx hb d_S_use_4 (by decide) (fun hc => ?_) (fun hc => ?_)
  · have hE := xs_t hE hc
    refine lv_iconst (pc := 25) (v := (0 : Int32)) hx hb d_S_use_25 (by decide) ?_
    cases hE
    exact xs_zret (pc := 26) hx hb hr hlk G (Or.inl rfl) d_S_use_26
  · have hE := xs_f hE hc
    refine lv_iload_n (pc := 7) hx hb d_S_use_7 rfl (lv_at hl 2 rfl) ?_
    refine lv_iconst (pc := 8) (v := (0 : Int32)) hx hb d_S_use_8 (by decide) ?_
    refine lv_iconst (pc := 9) (v := (1 : Int32)) hx hb d_S_use_9 (by decide) ?_
    obtain ⟨w2, hw2, hE⟩ := xs_b hE
    refine xs_callSr (pc := 10) (as := [.int (x1), .int ((0 : Int32)), .int ((1 : Int32))]) X (ok_S_isWithin l D ad cs hJ hw2) km_S_70 G ⟨by decide, by decide⟩ ⟨Nat.zero_le _, Nat.zero_le _⟩ rfl hl.1 rfl (Nat.le_of_ble_eq_true rfl) d_S_use_10 (fun H locs G => ?_)
    refine lv_if_eq (pc := 13) (tgt := 25) hx hb d_S_use_13 (by decide) (fun hc => ?_) (fun hc => ?_)
    · have hE := xs_t hE hc
      refine lv_iconst (pc := 25) (v := (0 : Int32)) hx hb d_S_use_25 (by decide) ?_
      cases hE
      exact xs_zret (pc := 26) hx hb hr hlk G (Or.inl rfl) d_S_use_26
    · have hE := xs_f hE hc
      refine lv_iload_n (pc := 16) hx hb d_S_use_16 rfl (lv_at hl 3 rfl) ?_
      refine lv_iconst (pc := 17) (v := (0 : Int32)) hx hb d_S_use_17 (by decide) ?_
      refine lv_iconst (pc := 18) (v := (2 : Int32)) hx hb d_S_use_18 (by decide) ?_
      obtain ⟨w3, hw3, hE⟩ := xs_b hE
      refine xs_callSr (pc := 19) (as := [.int (x2), .int ((0 : Int32)), .int ((2 : Int32))]) X (ok_S_isWithin l D ad cs hJ hw3) km_S_70 G ⟨by decide, by decide⟩ ⟨Nat.zero_le _, Nat.zero_le _⟩ rfl hl.1 rfl (Nat.le_of_ble_eq_true rfl) d_S_use_19 (fun H locs G => ?_)
      refine lv_if_ne (pc := 22) (tgt := 27) hx hb d_S_use_22 (by decide) (fun hc => ?_) (fun hc => ?_)
      · have hE := xs_f hE hc
        refine lv_aload_n (pc := 27) hx hb d_S_use_27 rfl (lv_at hl 0 rfl) ?_
        refine lv_iload_n (pc := 28) hx hb d_S_use_28 rfl (lv_at hl 1 rfl) ?_
        refine pf_S_133 (pc := 29) X G d_S_use_29 (fun H locs G => ?_)
        obtain ⟨μ4, hμ4, hE⟩ := xs_b hE
        have G := xs_mv G hμ4
        clear hμ4
        refine lv_aload_n (pc := 32) hx hb d_S_use_32 rfl (lv_at hl 0 rfl) ?_
        refine lv_iload_n (pc := 33) hx hb d_S_use_33 rfl (lv_at hl 2 rfl) ?_
        refine pf_S_136 (pc := 34) X G d_S_use_34 (fun H locs G => ?_)
        obtain ⟨μ5, hμ5, hE⟩ := xs_b hE
        have G := xs_mv G hμ5
        clear hμ5
        refine lv_aload_n (pc := 37) hx hb d_S_use_37 rfl (lv_at hl 0 rfl) ?_
        refine lv_iload_n (pc := 38) hx hb d_S_use_38 rfl (lv_at hl 3 rfl) ?_
        refine pf_S_139 (pc := 39) X G d_S_use_39 (fun H locs G => ?_)
        obtain ⟨μ6, hμ6, hE⟩ := xs_b hE
        have G := xs_mv G hμ6
        clear hμ6
        refine lv_iconst (pc := 42) (v := (1 : Int32)) hx hb d_S_use_42 (by decide) ?_
        cases hE
        exact xs_zret (pc := 43) hx hb hr hlk G (Or.inr rfl) d_S_use_43
      · have hE := xs_t hE hc
        refine lv_iconst (pc := 25) (v := (0 : Int32)) hx hb d_S_use_25 (by decide) ?_
        cases hE
        exact xs_zret (pc := 26) hx hb hr hlk G (Or.inl rfl) d_S_use_26
def fn_S_clear (μ0 : xs_M)  : Option (Int32 × xs_M) :=
  ((some (μ0.1 0 4)).bind fun a1 => ((some (xs_si μ0 0 4 (0 : Int32))).bind fun μ2 => ((some (xs_si μ2 0 5 (0 : Int32))).bind fun μ3 => some ((a1, μ3)))))
set_option maxHeartbeats 4000000 in
set_option maxRecDepth 100000 in
theorem ok_S_clear (l : Launch) (D : va_G) (ad : Nat → Nat) (cs : xs_cs) (hJ : xs_J ad) {μ0 : xs_M}   {rz : (Int32 × xs_M)} (hE : fn_S_clear μ0 = some rz) : xs_I l D ad cs y_S_clear b_S_clear 2 (some .int) 0 0 [.ref (ad 0)] μ0 (some (.int rz.1)) rz.2 := by
  refine xs_entry hJ (by decide) (Nat.le_of_ble_eq_true rfl) ?_
  intro p e s m below meth c ls X hr hlk G hl
  have X : xs_C p s m c b_S_clear 2 _ "ExactScene" := X
  have hx := X.1
  have hb := X.2.1
  have hl : lv_has ls 2 [(0, .ref (ad 0))] := hl
  unfold fn_S_clear at hE
  refine lv_aload_n (pc := 0) hx hb d_S_clear_0 rfl (lv_at hl 0 rfl) ?_
  refine gf_S_121 (pc := 1) X G d_S_clear_1 ?_
  obtain ⟨a1, ha1, hE⟩ := xs_b hE
  refine xs_ti ha1 ?_
  clear ha1
  refine lv_istore_n (pc := 4) hx hb d_S_clear_4 rfl hl (by decide) (lv' := [(1, .int (a1)), (0, .ref (ad 0))]) rfl (fun ls hl => ?_)
  refine lv_aload_n (pc := 5) hx hb d_S_clear_5 rfl (lv_at hl 1 rfl) ?_
  refine lv_iconst (pc := 6) (v := (0 : Int32)) hx hb d_S_clear_6 (by decide) ?_
  refine pf_S_121 (pc := 7) X G d_S_clear_7 (fun H locs G => ?_)
  obtain ⟨μ2, hμ2, hE⟩ := xs_b hE
  have G := xs_mv G hμ2
  have hfμ2 := xs_fi hμ2
  clear hμ2
  refine lv_aload_n (pc := 10) hx hb d_S_clear_10 rfl (lv_at hl 1 rfl) ?_
  refine lv_iconst (pc := 11) (v := (0 : Int32)) hx hb d_S_clear_11 (by decide) ?_
  refine pf_S_152 (pc := 12) X G d_S_clear_12 (fun H locs G => ?_)
  obtain ⟨μ3, hμ3, hE⟩ := xs_b hE
  have G := xs_mv G hμ3
  have hfμ3 := xs_fi hμ3
  clear hμ3
  refine lv_iload_n (pc := 15) hx hb d_S_clear_15 rfl (lv_at hl 0 rfl) ?_
  cases hE
  exact xs_iret (pc := 16) hx hb hr hlk G d_S_clear_16
def fn_S_textureColour (μ0 : xs_M) (k0 : Nat) (x1 : Int32) (x2 : Int32) : Option Int32 :=
  ((fn_T_textureU μ0 k0 x1 x2).bind fun w1 => ((fn_X_wrap μ0 (μ0.1 (14 + 7 * k0) 8) w1).bind fun w2 => ((fn_T_textureV μ0 k0 x1 x2).bind fun w3 => ((fn_X_wrap μ0 (μ0.1 (14 + 7 * k0) 8) w3).bind fun w4 => ((fn_X_indexOf μ0 (μ0.1 (14 + 7 * k0) 7) w2 w4).bind fun w5 => (if xs_in w5 128 = true then some ((μ0.1 7 w5.toNatClampNeg)) else none))))))
set_option maxHeartbeats 4000000 in
set_option maxRecDepth 100000 in
theorem ok_S_textureColour (l : Launch) (D : va_G) (ad : Nat → Nat) (cs : xs_cs) (hJ : xs_J ad) {μ0 : xs_M} {k0 : Nat} {x1 : Int32} {x2 : Int32} (hk0 : k0 < 20) {rz : Int32} (hE : fn_S_textureColour μ0 k0 x1 x2 = some rz) : xs_I l D ad cs y_S_textureColour b_S_textureColour 6 (some .int) 4 100 [.ref (ad 0), .ref (ad (14 + 7 * k0)), .int (x1), .int (x2)] μ0 (some (.int rz)) μ0 := by
  refine xs_entry hJ (by decide) (Nat.le_of_ble_eq_true rfl) ?_
  intro p e s m below meth c ls X hr hlk G hl
  have X : xs_C p s m c b_S_textureColour 6 _ "ExactScene" := X
  have hx := X.1
  have hb := X.2.1
  have hl : lv_has ls 6 [(0, .ref (ad 0)), (1, .ref (ad (14 + 7 * k0))), (2, .int (x1)), (3, .int (x2))] := hl
  unfold fn_S_textureColour at hE
  refine lv_aload_n (pc := 0) hx hb d_S_textureColour_0 rfl (lv_at hl 1 rfl) ?_
  refine gf_S_223 (pc := 1) X G hk0 d_S_textureColour_1 ?_
  refine lv_aload_n (pc := 4) hx hb d_S_textureColour_4 rfl (lv_at hl 1 rfl) ?_
  refine lv_iload_n (pc := 5) hx hb d_S_textureColour_5 rfl (lv_at hl 2 rfl) ?_
  refine lv_iload_n (pc := 6) hx hb d_S_textureColour_6 rfl (lv_at hl 3 rfl) ?_
  obtain ⟨w1, hw1, hE⟩ := xs_b hE
  refine xs_callVr (pc := 7) (as := [.int (x1), .int (x2)]) X (ok_T_textureU l D ad cs hJ hk0 hw1) km_S_226 G (xs_wT ad cs _ hk0) rfl ⟨by decide, by decide⟩ ⟨Nat.zero_le _, Nat.zero_le _⟩ rfl hl.1 rfl (Nat.le_of_ble_eq_true rfl) d_S_textureColour_7 (fun H locs G => ?_)
  obtain ⟨w2, hw2, hE⟩ := xs_b hE
  refine xs_callSr (pc := 10) (as := [.int ((μ0.1 (14 + 7 * k0) 8)), .long (w1)]) X (ok_X_wrap l D ad cs hJ hw2) km_S_230 G ⟨by decide, by decide⟩ ⟨Nat.zero_le _, Nat.zero_le _⟩ rfl hl.1 rfl (Nat.le_of_ble_eq_true rfl) d_S_textureColour_10 (fun H locs G => ?_)
  refine lv_istore (pc := 13) hx hb d_S_textureColour_13 hl (by decide) (lv' := [(4, .int (w2)), (0, .ref (ad 0)), (1, .ref (ad (14 + 7 * k0))), (2, .int (x1)), (3, .int (x2))]) rfl (fun ls hl => ?_)
  refine lv_aload_n (pc := 15) hx hb d_S_textureColour_15 rfl (lv_at hl 2 rfl) ?_
  refine gf_S_223 (pc := 16) X G hk0 d_S_textureColour_16 ?_
  refine lv_aload_n (pc := 19) hx hb d_S_textureColour_19 rfl (lv_at hl 2 rfl) ?_
  refine lv_iload_n (pc := 20) hx hb d_S_textureColour_20 rfl (lv_at hl 3 rfl) ?_
  refine lv_iload_n (pc := 21) hx hb d_S_textureColour_21 rfl (lv_at hl 4 rfl) ?_
  obtain ⟨w3, hw3, hE⟩ := xs_b hE
  refine xs_callVr (pc := 22) (as := [.int (x1), .int (x2)]) X (ok_T_textureV l D ad cs hJ hk0 hw3) km_S_234 G (xs_wT ad cs _ hk0) rfl ⟨by decide, by decide⟩ ⟨Nat.zero_le _, Nat.zero_le _⟩ rfl hl.1 rfl (Nat.le_of_ble_eq_true rfl) d_S_textureColour_22 (fun H locs G => ?_)
  obtain ⟨w4, hw4, hE⟩ := xs_b hE
  refine xs_callSr (pc := 25) (as := [.int ((μ0.1 (14 + 7 * k0) 8)), .long (w3)]) X (ok_X_wrap l D ad cs hJ hw4) km_S_230 G ⟨by decide, by decide⟩ ⟨Nat.zero_le _, Nat.zero_le _⟩ rfl hl.1 rfl (Nat.le_of_ble_eq_true rfl) d_S_textureColour_25 (fun H locs G => ?_)
  refine lv_istore (pc := 28) hx hb d_S_textureColour_28 hl (by decide) (lv' := [(5, .int (w4)), (4, .int (w2)), (0, .ref (ad 0)), (1, .ref (ad (14 + 7 * k0))), (2, .int (x1)), (3, .int (x2))]) rfl (fun ls hl => ?_)
  refine lv_aload_n (pc := 30) hx hb d_S_textureColour_30 rfl (lv_at hl 2 rfl) ?_
  refine gf_S_19 (pc := 31) X G d_S_textureColour_31 ?_
  refine gf_S_237 (pc := 34) X G d_S_textureColour_34 ?_
  refine lv_aload_n (pc := 37) hx hb d_S_textureColour_37 rfl (lv_at hl 3 rfl) ?_
  refine gf_S_240 (pc := 38) X G hk0 d_S_textureColour_38 ?_
  refine lv_iload (pc := 41) hx hb d_S_textureColour_41 (lv_at hl 1 rfl) ?_
  refine lv_iload (pc := 43) hx hb d_S_textureColour_43 (lv_at hl 0 rfl) ?_
  obtain ⟨w5, hw5, hE⟩ := xs_b hE
  refine xs_callSr (pc := 45) (as := [.int ((μ0.1 (14 + 7 * k0) 7)), .int (w2), .int (w4)]) X (ok_X_indexOf l D ad cs hJ hw5) km_S_145 G ⟨by decide, by decide⟩ ⟨Nat.zero_le _, Nat.zero_le _⟩ rfl hl.1 rfl (Nat.le_of_ble_eq_true rfl) d_S_textureColour_45 (fun H locs G => ?_)
  obtain ⟨hi6, hE⟩ := xs_n hE
  refine xs_iald (pc := 48) hx hb G ia_7 (xs_inP hi6) d_S_textureColour_48 ?_
  cases hE
  exact xs_iret (pc := 49) hx hb hr hlk G d_S_textureColour_49
def fn_S_paintOwnedPixels_L12 : Nat → xs_M → Int32 → Int32 → Int32 →  Option (Int32 × Int32 × xs_M)
  | 0, _, _, _, _ => none
  | fu + 1, μ, v1, v2, v3 => (if (16 : Int32) ≤ v3 then some ((v1, v3, μ)) else ((fn_P_indexOf μ v3 v2).bind fun w1 => ((fn_P_isOwned μ w1).bind fun w2 => (if w2 = 0 then fn_S_paintOwnedPixels_L12 fu μ v1 v2 (v3 + 1) else (if xs_in w1 192 = true then (if xs_in (μ.1 10 w1.toNatClampNeg) 20 = true then ((fn_S_textureColour μ ((μ.1 10 w1.toNatClampNeg).toNatClampNeg) v3 v2).bind fun w6 => (if xs_in w1 192 = true then ((some (xs_si μ 9 w1.toNatClampNeg (w6))).bind fun μ8 => fn_S_paintOwnedPixels_L12 fu μ8 (v1 + 1) v2 (v3 + 1)) else none)) else none) else none)))))
def fn_S_paintOwnedPixels_L4 : Nat → xs_M → Int32 → Int32 →  Option (Int32 × Int32 × xs_M)
  | 0, _, _, _ => none
  | fu + 1, μ, v1, v2 => (if (12 : Int32) ≤ v2 then some ((v1, v2, μ)) else ((fn_S_paintOwnedPixels_L12 xs_FU μ v1 v2 (0 : Int32)).bind fun z9 => fn_S_paintOwnedPixels_L4 fu z9.2.2 (z9.1) (v2 + 1)))
def fn_S_paintOwnedPixels (μ0 : xs_M)  : Option (Int32 × xs_M) :=
  ((fn_S_paintOwnedPixels_L4 xs_FU μ0 (0 : Int32) (0 : Int32)).bind fun z10 => some ((z10.1, z10.2.2)))
set_option maxHeartbeats 4000000 in
set_option maxRecDepth 100000 in
theorem ok_S_paintOwnedPixels (l : Launch) (D : va_G) (ad : Nat → Nat) (cs : xs_cs) (hJ : xs_J ad) {μ0 : xs_M}   {rz : (Int32 × xs_M)} (hE : fn_S_paintOwnedPixels μ0 = some rz) : xs_I l D ad cs y_S_paintOwnedPixels b_S_paintOwnedPixels 5 (some .int) 5 125 [.ref (ad 0)] μ0 (some (.int rz.1)) rz.2 := by
  refine xs_entry hJ (by decide) (Nat.le_of_ble_eq_true rfl) ?_
  intro p e s m below meth c ls X hr hlk G hl
  have X : xs_C p s m c b_S_paintOwnedPixels 5 _ "ExactScene" := X
  have hx := X.1
  have hb := X.2.1
  have hl : lv_has ls 5 [(0, .ref (ad 0))] := hl
  have L12 : ∀ (fu : Nat) (μ : xs_M) (v1 : Int32) (v2 : Int32) (v3 : Int32) (H : Heap) (locs : List Loc) (ls : Array Slot) (z : (Int32 × Int32 × xs_M)), fn_S_paintOwnedPixels_L12 fu μ v1 v2 v3 = some z → xs_G D ad cs s (xs_A ad s.heap.size) s.heap μ H locs → lv_has ls 5 [(0, .ref (ad 0)), (1, .int (v1)), (2, .int (v2)), (3, .int (v3))] → (∀ (H : Heap) (locs : List Loc) (ls : Array Slot), xs_G D ad cs s (xs_A ad s.heap.size) s.heap z.2.2 H locs → lv_has ls 5 [(0, .ref (ad 0)), (1, .int (z.1)), (2, .int (v2)), (3, .int (z.2.1))] → W p l e (xs_rm 5 125) s m ([.ref (ad 0)] : List Value).toArray below meth c H locs 0 0 (xs_E below D ad cs [.ref (ad 0)] s (some (.int rz.1)) rz.2) (F0 m 77 ls [])) → W p l e (xs_rm 5 125) s m ([.ref (ad 0)] : List Value).toArray below meth c H locs 0 0 (xs_E below D ad cs [.ref (ad 0)] s (some (.int rz.1)) rz.2) (F0 m 12 ls []) := by
    clear hE hl G
    intro fu
    induction fu with
    | zero =>
      intro μ v1 v2 v3 H locs ls z hE
      rw [fn_S_paintOwnedPixels_L12] at hE
      cases hE
    | succ fu ih =>
      intro μ v1 v2 v3 H locs ls z hE G hl kk
      rw [fn_S_paintOwnedPixels_L12] at hE
      refine lv_iload_n (pc := 12) hx hb d_S_paintOwnedPixels_12 rfl (lv_at hl 3 rfl) ?_
      refine lv_bipush (pc := 13) (v := (16 : Int32)) hx hb d_S_paintOwnedPixels_13 (by decide) ?_
      refine lv_icmp_ge (pc := 15) (tgt := 77) hx hb d_S_paintOwnedPixels_15 (by decide) (fun hc => ?_) (fun hc => ?_)
      · have hE := xs_t hE hc
        cases hE
        exact kk _ _ _ G (lv_sub hl [0, 1, 2, 3] rfl)
      · have hE := xs_f hE hc
        refine lv_iload_n (pc := 18) hx hb d_S_paintOwnedPixels_18 rfl (lv_at hl 3 rfl) ?_
        refine lv_iload_n (pc := 19) hx hb d_S_paintOwnedPixels_19 rfl (lv_at hl 2 rfl) ?_
        obtain ⟨w1, hw1, hE⟩ := xs_b hE
        refine xs_callSr (pc := 20) (as := [.int (v3), .int (v2)]) X (ok_P_indexOf l D ad cs hJ hw1) km_S_180 G ⟨by decide, by decide⟩ ⟨Nat.zero_le _, Nat.zero_le _⟩ rfl hl.1 rfl (Nat.le_of_ble_eq_true rfl) d_S_paintOwnedPixels_20 (fun H locs G => ?_)
        refine lv_istore (pc := 23) hx hb d_S_paintOwnedPixels_23 hl (by decide) (lv' := [(4, .int (w1)), (0, .ref (ad 0)), (1, .int (v1)), (2, .int (v2)), (3, .int (v3))]) rfl (fun ls hl => ?_)
        refine lv_aload_n (pc := 25) hx hb d_S_paintOwnedPixels_25 rfl (lv_at hl 1 rfl) ?_
        refine gf_S_26 (pc := 26) X G d_S_paintOwnedPixels_26 ?_
        refine lv_iload (pc := 29) hx hb d_S_paintOwnedPixels_29 (lv_at hl 0 rfl) ?_
        obtain ⟨w2, hw2, hE⟩ := xs_b hE
        refine xs_callVr (pc := 31) (as := [.int (w1)]) X (ok_P_isOwned l D ad cs hJ hw2) km_S_185 G (xs_wP ad cs _) rfl ⟨by decide, by decide⟩ ⟨Nat.zero_le _, Nat.zero_le _⟩ rfl hl.1 rfl (Nat.le_of_ble_eq_true rfl) d_S_paintOwnedPixels_31 (fun H locs G => ?_)
        refine lv_if_eq (pc := 34) (tgt := 71) hx hb d_S_paintOwnedPixels_34 (by decide) (fun hc => ?_) (fun hc => ?_)
        · have hE := xs_t hE hc
          refine lv_iinc (pc := 71) (v := (v3 + 1)) (k := 4) hx hb d_S_paintOwnedPixels_71 hl rfl (xs_inc _) (by decide) (lv' := [(3, .int ((v3 + 1))), (4, .int (w1)), (0, .ref (ad 0)), (1, .int (v1)), (2, .int (v2))]) rfl (fun ls hl => ?_)
          refine lv_goto (pc := 74) (tgt := 12) hx hb d_S_paintOwnedPixels_74 (by decide) ?_
          exact ih _ _ _ _ _ _ _ _ hE G (lv_sub hl [2, 3, 4, 0] rfl) kk
        · have hE := xs_f hE hc
          refine lv_aload_n (pc := 37) hx hb d_S_paintOwnedPixels_37 rfl (lv_at hl 1 rfl) ?_
          refine gf_S_26 (pc := 38) X G d_S_paintOwnedPixels_38 ?_
          refine gf_S_176 (pc := 41) X G d_S_paintOwnedPixels_41 ?_
          refine lv_iload (pc := 44) hx hb d_S_paintOwnedPixels_44 (lv_at hl 0 rfl) ?_
          refine lv_aload_n (pc := 46) hx hb d_S_paintOwnedPixels_46 rfl (lv_at hl 1 rfl) ?_
          refine lv_aload_n (pc := 47) hx hb d_S_paintOwnedPixels_47 rfl (lv_at hl 1 rfl) ?_
          refine gf_S_32 (pc := 48) X G d_S_paintOwnedPixels_48 ?_
          refine lv_aload_n (pc := 51) hx hb d_S_paintOwnedPixels_51 rfl (lv_at hl 1 rfl) ?_
          refine gf_S_26 (pc := 52) X G d_S_paintOwnedPixels_52 ?_
          refine gf_S_182 (pc := 55) X G d_S_paintOwnedPixels_55 ?_
          refine lv_iload (pc := 58) hx hb d_S_paintOwnedPixels_58 (lv_at hl 0 rfl) ?_
          obtain ⟨hi3, hE⟩ := xs_n hE
          refine xs_iald (pc := 60) hx hb G ia_10 (xs_inP hi3) d_S_paintOwnedPixels_60 ?_
          obtain ⟨hi4, hE⟩ := xs_n hE
          refine xs_aald (pc := 61) hx hb G (xs_inP hi4) d_S_paintOwnedPixels_61 ?_
          have hk5 : (μ.1 10 w1.toNatClampNeg).toNatClampNeg < 20 := xs_inL hi4
          refine lv_iload_n (pc := 62) hx hb d_S_paintOwnedPixels_62 rfl (lv_at hl 4 rfl) ?_
          refine lv_iload_n (pc := 63) hx hb d_S_paintOwnedPixels_63 rfl (lv_at hl 3 rfl) ?_
          obtain ⟨w6, hw6, hE⟩ := xs_b hE
          refine xs_callVr (pc := 64) (as := [.ref (ad (14 + 7 * (μ.1 10 w1.toNatClampNeg).toNatClampNeg)), .int (v3), .int (v2)]) X (ok_S_textureColour l D ad cs hJ hk5 hw6) km_S_219 G (xs_wS ad cs _) rfl ⟨by decide, by decide⟩ ⟨Nat.zero_le _, Nat.zero_le _⟩ rfl hl.1 rfl (Nat.le_of_ble_eq_true rfl) d_S_paintOwnedPixels_64 (fun H locs G => ?_)
          obtain ⟨hi7, hE⟩ := xs_n hE
          refine xs_iast (pc := 67) hx hb G ia_9 (xs_inP hi7) d_S_paintOwnedPixels_67 (fun H locs G => ?_)
          obtain ⟨μ8, hμ8, hE⟩ := xs_b hE
          have G := xs_mv G hμ8
          clear hμ8
          refine lv_iinc (pc := 68) (v := (v1 + 1)) (k := 2) hx hb d_S_paintOwnedPixels_68 hl rfl (xs_inc _) (by decide) (lv' := [(1, .int ((v1 + 1))), (4, .int (w1)), (0, .ref (ad 0)), (2, .int (v2)), (3, .int (v3))]) rfl (fun ls hl => ?_)
          refine lv_iinc (pc := 71) (v := (v3 + 1)) (k := 4) hx hb d_S_paintOwnedPixels_71 hl rfl (xs_inc _) (by decide) (lv' := [(3, .int ((v3 + 1))), (1, .int ((v1 + 1))), (4, .int (w1)), (0, .ref (ad 0)), (2, .int (v2))]) rfl (fun ls hl => ?_)
          refine lv_goto (pc := 74) (tgt := 12) hx hb d_S_paintOwnedPixels_74 (by decide) ?_
          exact ih _ _ _ _ _ _ _ _ hE G (lv_sub hl [3, 1, 4, 0] rfl) kk
  have L4 : ∀ (fu : Nat) (μ : xs_M) (v1 : Int32) (v2 : Int32) (H : Heap) (locs : List Loc) (ls : Array Slot) (z : (Int32 × Int32 × xs_M)), fn_S_paintOwnedPixels_L4 fu μ v1 v2 = some z → xs_G D ad cs s (xs_A ad s.heap.size) s.heap μ H locs → lv_has ls 5 [(0, .ref (ad 0)), (1, .int (v1)), (2, .int (v2))] → (∀ (H : Heap) (locs : List Loc) (ls : Array Slot), xs_G D ad cs s (xs_A ad s.heap.size) s.heap z.2.2 H locs → lv_has ls 5 [(0, .ref (ad 0)), (1, .int (z.1)), (2, .int (z.2.1))] → W p l e (xs_rm 5 125) s m ([.ref (ad 0)] : List Value).toArray below meth c H locs 0 0 (xs_E below D ad cs [.ref (ad 0)] s (some (.int rz.1)) rz.2) (F0 m 83 ls [])) → W p l e (xs_rm 5 125) s m ([.ref (ad 0)] : List Value).toArray below meth c H locs 0 0 (xs_E below D ad cs [.ref (ad 0)] s (some (.int rz.1)) rz.2) (F0 m 4 ls []) := by
    clear hE hl G
    intro fu
    induction fu with
    | zero =>
      intro μ v1 v2 H locs ls z hE
      rw [fn_S_paintOwnedPixels_L4] at hE
      cases hE
    | succ fu ih =>
      intro μ v1 v2 H locs ls z hE G hl kk
      rw [fn_S_paintOwnedPixels_L4] at hE
      refine lv_iload_n (pc := 4) hx hb d_S_paintOwnedPixels_4 rfl (lv_at hl 2 rfl) ?_
      refine lv_bipush (pc := 5) (v := (12 : Int32)) hx hb d_S_paintOwnedPixels_5 (by decide) ?_
      refine lv_icmp_ge (pc := 7) (tgt := 83) hx hb d_S_paintOwnedPixels_7 (by decide) (fun hc => ?_) (fun hc => ?_)
      · have hE := xs_t hE hc
        cases hE
        exact kk _ _ _ G (lv_sub hl [0, 1, 2] rfl)
      · have hE := xs_f hE hc
        refine lv_iconst (pc := 10) (v := (0 : Int32)) hx hb d_S_paintOwnedPixels_10 (by decide) ?_
        refine lv_istore_n (pc := 11) hx hb d_S_paintOwnedPixels_11 rfl hl (by decide) (lv' := [(3, .int ((0 : Int32))), (0, .ref (ad 0)), (1, .int (v1)), (2, .int (v2))]) rfl (fun ls hl => ?_)
        obtain ⟨z9, hz9, hE⟩ := xs_b hE
        refine L12 _ _ _ _ _ _ _ _ _ hz9 G (lv_sub hl [1, 2, 3, 0] rfl) (fun H locs ls G hl => ?_)
        refine lv_iinc (pc := 77) (v := (v2 + 1)) (k := 2) hx hb d_S_paintOwnedPixels_77 hl rfl (xs_inc _) (by decide) (lv' := [(2, .int ((v2 + 1))), (0, .ref (ad 0)), (1, .int (z9.1)), (3, .int (z9.2.1))]) rfl (fun ls hl => ?_)
        refine lv_goto (pc := 80) (tgt := 4) hx hb d_S_paintOwnedPixels_80 (by decide) ?_
        exact ih _ _ _ _ _ _ _ hE G (lv_sub hl [1, 2, 0] rfl) kk
  unfold fn_S_paintOwnedPixels at hE
  refine lv_iconst (pc := 0) (v := (0 : Int32)) hx hb d_S_paintOwnedPixels_0 (by decide) ?_
  refine lv_istore_n (pc := 1) hx hb d_S_paintOwnedPixels_1 rfl hl (by decide) (lv' := [(1, .int ((0 : Int32))), (0, .ref (ad 0))]) rfl (fun ls hl => ?_)
  refine lv_iconst (pc := 2) (v := (0 : Int32)) hx hb d_S_paintOwnedPixels_2 (by decide) ?_
  refine lv_istore_n (pc := 3) hx hb d_S_paintOwnedPixels_3 rfl hl (by decide) (lv' := [(2, .int ((0 : Int32))), (1, .int ((0 : Int32))), (0, .ref (ad 0))]) rfl (fun ls hl => ?_)
  obtain ⟨z10, hz10, hE⟩ := xs_b hE
  refine L4 _ _ _ _ _ _ _ _ hz10 G (lv_sub hl [2, 1, 0] rfl) (fun H locs ls G hl => ?_)
  refine lv_iload_n (pc := 83) hx hb d_S_paintOwnedPixels_83 rfl (lv_at hl 1 rfl) ?_
  cases hE
  exact xs_iret (pc := 84) hx hb hr hlk G d_S_paintOwnedPixels_84
def fn_S_draw_L14 : Nat → xs_M → Int32 → Int32 →  Option (Int32 × xs_M)
  | 0, _, _, _ => none
  | fu + 1, μ, v1, v2 => (if (μ.1 0 4) ≤ v2 then some ((v2, μ)) else (if xs_in v2 20 = true then ((fn_T_isShown μ v2.toNatClampNeg).bind fun w4 => (if w4 = 0 then fn_S_draw_L14 fu μ v1 (v2 + 1) else (if xs_in v2 20 = true then ((fn_P_offerTriangle μ v2 v2.toNatClampNeg).bind fun w7 => fn_S_draw_L14 fu w7 v1 (v2 + 1)) else none))) else none))
def fn_S_draw (μ0 : xs_M) (x0 : Int32) : Option (Int32 × xs_M) :=
  ((fn_P_wipe μ0 (x0 &&& (255 : Int32))).bind fun w1 => ((fn_S_draw_L14 xs_FU w1 x0 (0 : Int32)).bind fun z8 => ((fn_S_paintOwnedPixels z8.2).bind fun w9 => some ((w9.1, w9.2)))))
set_option maxHeartbeats 4000000 in
set_option maxRecDepth 100000 in
theorem ok_S_draw (l : Launch) (D : va_G) (ad : Nat → Nat) (cs : xs_cs) (hJ : xs_J ad) {μ0 : xs_M} {x0 : Int32}  {rz : (Int32 × xs_M)} (hE : fn_S_draw μ0 x0 = some rz) : xs_I l D ad cs y_S_draw b_S_draw 3 (some .int) 6 149 [.ref (ad 0), .int (x0)] μ0 (some (.int rz.1)) rz.2 := by
  refine xs_entry hJ (by decide) (Nat.le_of_ble_eq_true rfl) ?_
  intro p e s m below meth c ls X hr hlk G hl
  have X : xs_C p s m c b_S_draw 3 _ "ExactScene" := X
  have hx := X.1
  have hb := X.2.1
  have hl : lv_has ls 3 [(0, .ref (ad 0)), (1, .int (x0))] := hl
  have L14 : ∀ (fu : Nat) (μ : xs_M) (v1 : Int32) (v2 : Int32) (H : Heap) (locs : List Loc) (ls : Array Slot) (z : (Int32 × xs_M)), fn_S_draw_L14 fu μ v1 v2 = some z → xs_G D ad cs s (xs_A ad s.heap.size) s.heap μ H locs → lv_has ls 3 [(0, .ref (ad 0)), (1, .int (v1)), (2, .int (v2))] → (∀ (H : Heap) (locs : List Loc) (ls : Array Slot), xs_G D ad cs s (xs_A ad s.heap.size) s.heap z.2 H locs → lv_has ls 3 [(0, .ref (ad 0)), (1, .int (v1)), (2, .int (z.1))] → W p l e (xs_rm 6 149) s m ([.ref (ad 0), .int (x0)] : List Value).toArray below meth c H locs 0 0 (xs_E below D ad cs [.ref (ad 0), .int (x0)] s (some (.int rz.1)) rz.2) (F0 m 54 ls [])) → W p l e (xs_rm 6 149) s m ([.ref (ad 0), .int (x0)] : List Value).toArray below meth c H locs 0 0 (xs_E below D ad cs [.ref (ad 0), .int (x0)] s (some (.int rz.1)) rz.2) (F0 m 14 ls []) := by
    clear hE hl G
    intro fu
    induction fu with
    | zero =>
      intro μ v1 v2 H locs ls z hE
      rw [fn_S_draw_L14] at hE
      cases hE
    | succ fu ih =>
      intro μ v1 v2 H locs ls z hE G hl kk
      rw [fn_S_draw_L14] at hE
      refine lv_iload_n (pc := 14) hx hb d_S_draw_14 rfl (lv_at hl 2 rfl) ?_
      refine lv_aload_n (pc := 15) hx hb d_S_draw_15 rfl (lv_at hl 0 rfl) ?_
      refine gf_S_121 (pc := 16) X G d_S_draw_16 ?_
      refine lv_icmp_ge (pc := 19) (tgt := 54) hx hb d_S_draw_19 (by decide) (fun hc => ?_) (fun hc => ?_)
      · have hE := xs_t hE hc
        cases hE
        exact kk _ _ _ G (lv_sub hl [0, 1, 2] rfl)
      · have hE := xs_f hE hc
        refine lv_aload_n (pc := 22) hx hb d_S_draw_22 rfl (lv_at hl 0 rfl) ?_
        refine gf_S_32 (pc := 23) X G d_S_draw_23 ?_
        refine lv_iload_n (pc := 26) hx hb d_S_draw_26 rfl (lv_at hl 2 rfl) ?_
        obtain ⟨hi2, hE⟩ := xs_n hE
        refine xs_aald (pc := 27) hx hb G (xs_inP hi2) d_S_draw_27 ?_
        have hk3 : v2.toNatClampNeg < 20 := xs_inL hi2
        obtain ⟨w4, hw4, hE⟩ := xs_b hE
        refine xs_callVr (pc := 28) (as := []) X (ok_T_isShown l D ad cs hJ hk3 hw4) km_S_159 G (xs_wT ad cs _ hk3) rfl ⟨by decide, by decide⟩ ⟨Nat.zero_le _, Nat.zero_le _⟩ rfl hl.1 rfl (Nat.le_of_ble_eq_true rfl) d_S_draw_28 (fun H locs G => ?_)
        refine lv_if_eq (pc := 31) (tgt := 48) hx hb d_S_draw_31 (by decide) (fun hc => ?_) (fun hc => ?_)
        · have hE := xs_t hE hc
          refine lv_iinc (pc := 48) (v := (v2 + 1)) (k := 2) hx hb d_S_draw_48 hl rfl (xs_inc _) (by decide) (lv' := [(2, .int ((v2 + 1))), (0, .ref (ad 0)), (1, .int (v1))]) rfl (fun ls hl => ?_)
          refine lv_goto (pc := 51) (tgt := 14) hx hb d_S_draw_51 (by decide) ?_
          exact ih _ _ _ _ _ _ _ hE G (lv_sub hl [1, 2, 0] rfl) kk
        · have hE := xs_f hE hc
          refine lv_aload_n (pc := 34) hx hb d_S_draw_34 rfl (lv_at hl 0 rfl) ?_
          refine gf_S_26 (pc := 35) X G d_S_draw_35 ?_
          refine lv_iload_n (pc := 38) hx hb d_S_draw_38 rfl (lv_at hl 2 rfl) ?_
          refine lv_aload_n (pc := 39) hx hb d_S_draw_39 rfl (lv_at hl 0 rfl) ?_
          refine gf_S_32 (pc := 40) X G d_S_draw_40 ?_
          refine lv_iload_n (pc := 43) hx hb d_S_draw_43 rfl (lv_at hl 2 rfl) ?_
          obtain ⟨hi5, hE⟩ := xs_n hE
          refine xs_aald (pc := 44) hx hb G (xs_inP hi5) d_S_draw_44 ?_
          have hk6 : v2.toNatClampNeg < 20 := xs_inL hi5
          obtain ⟨w7, hw7, hE⟩ := xs_b hE
          refine xs_callVv (pc := 45) (as := [.int (v2), .ref (ad (14 + 7 * v2.toNatClampNeg))]) X (ok_P_offerTriangle l D ad cs hJ hk6 hw7) km_S_162 G (xs_wP ad cs _) rfl ⟨by decide, by decide⟩ ⟨Nat.zero_le _, Nat.zero_le _⟩ rfl hl.1 rfl (Nat.le_of_ble_eq_true rfl) d_S_draw_45 (fun H locs G => ?_)
          refine lv_iinc (pc := 48) (v := (v2 + 1)) (k := 2) hx hb d_S_draw_48 hl rfl (xs_inc _) (by decide) (lv' := [(2, .int ((v2 + 1))), (0, .ref (ad 0)), (1, .int (v1))]) rfl (fun ls hl => ?_)
          refine lv_goto (pc := 51) (tgt := 14) hx hb d_S_draw_51 (by decide) ?_
          exact ih _ _ _ _ _ _ _ hE G (lv_sub hl [1, 2, 0] rfl) kk
  unfold fn_S_draw at hE
  refine lv_aload_n (pc := 0) hx hb d_S_draw_0 rfl (lv_at hl 0 rfl) ?_
  refine gf_S_26 (pc := 1) X G d_S_draw_1 ?_
  refine lv_iload_n (pc := 4) hx hb d_S_draw_4 rfl (lv_at hl 1 rfl) ?_
  refine lv_sipush (pc := 5) (v := (255 : Int32)) hx hb d_S_draw_5 (by decide) ?_
  refine lv_iand (pc := 8) hx hb d_S_draw_8 ?_
  obtain ⟨w1, hw1, hE⟩ := xs_b hE
  refine xs_callVv (pc := 9) (as := [.int ((x0 &&& (255 : Int32)))]) X (ok_P_wipe l D ad cs hJ hw1) km_S_155 G (xs_wP ad cs _) rfl ⟨by decide, by decide⟩ ⟨Nat.zero_le _, Nat.zero_le _⟩ rfl hl.1 rfl (Nat.le_of_ble_eq_true rfl) d_S_draw_9 (fun H locs G => ?_)
  refine lv_iconst (pc := 12) (v := (0 : Int32)) hx hb d_S_draw_12 (by decide) ?_
  refine lv_istore_n (pc := 13) hx hb d_S_draw_13 rfl hl (by decide) (lv' := [(2, .int ((0 : Int32))), (0, .ref (ad 0)), (1, .int (x0))]) rfl (fun ls hl => ?_)
  obtain ⟨z8, hz8, hE⟩ := xs_b hE
  refine L14 _ _ _ _ _ _ _ _ hz8 G (lv_sub hl [1, 2, 0] rfl) (fun H locs ls G hl => ?_)
  refine lv_aload_n (pc := 54) hx hb d_S_draw_54 rfl (lv_at hl 0 rfl) ?_
  obtain ⟨w9, hw9, hE⟩ := xs_b hE
  refine xs_callVr (pc := 55) (as := []) X (ok_S_paintOwnedPixels l D ad cs hJ hw9) km_S_166 G (xs_wS ad cs _) rfl ⟨by decide, by decide⟩ ⟨Nat.zero_le _, Nat.zero_le _⟩ rfl hl.1 rfl (Nat.le_of_ble_eq_true rfl) d_S_draw_55 (fun H locs G => ?_)
  cases hE
  exact xs_iret (pc := 58) hx hb hr hlk G d_S_draw_58
