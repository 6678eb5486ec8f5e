theorem d_T_setPlace_0 : decode b_T_setPlace 0 = .ok (.aload_n 0, 1) := by decide +kernel
theorem d_T_setPlace_1 : decode b_T_setPlace 1 = .ok (.getfield 11, 3) := by decide +kernel
theorem d_T_setPlace_4 : decode b_T_setPlace 4 = .ok (.iload_n 1, 1) := by decide +kernel
theorem d_T_setPlace_5 : decode b_T_setPlace 5 = .ok (.iconst 4, 1) := by decide +kernel
theorem d_T_setPlace_6 : decode b_T_setPlace 6 = .ok (.imul, 1) := by decide +kernel
theorem d_T_setPlace_7 : decode b_T_setPlace 7 = .ok (.iconst 1, 1) := by decide +kernel
theorem d_T_setPlace_8 : decode b_T_setPlace 8 = .ok (.iadd, 1) := by decide +kernel
theorem d_T_setPlace_9 : decode b_T_setPlace 9 = .ok (.iload_n 2, 1) := by decide +kernel
theorem d_T_setPlace_10 : decode b_T_setPlace 10 = .ok (.i2l, 1) := by decide +kernel
theorem d_T_setPlace_11 : decode b_T_setPlace 11 = .ok (.lastore, 1) := by decide +kernel
theorem d_T_setPlace_12 : decode b_T_setPlace 12 = .ok (.aload_n 0, 1) := by decide +kernel
theorem d_T_setPlace_13 : decode b_T_setPlace 13 = .ok (.getfield 11, 3) := by decide +kernel
theorem d_T_setPlace_16 : decode b_T_setPlace 16 = .ok (.iload_n 1, 1) := by decide +kernel
theorem d_T_setPlace_17 : decode b_T_setPlace 17 = .ok (.iconst 4, 1) := by decide +kernel
theorem d_T_setPlace_18 : decode b_T_setPlace 18 = .ok (.imul, 1) := by decide +kernel
theorem d_T_setPlace_19 : decode b_T_setPlace 19 = .ok (.iconst 2, 1) := by decide +kernel
theorem d_T_setPlace_20 : decode b_T_setPlace 20 = .ok (.iadd, 1) := by decide +kernel
theorem d_T_setPlace_21 : decode b_T_setPlace 21 = .ok (.iload_n 3, 1) := by decide +kernel
theorem d_T_setPlace_22 : decode b_T_setPlace 22 = .ok (.i2l, 1) := by decide +kernel
theorem d_T_setPlace_23 : decode b_T_setPlace 23 = .ok (.lastore, 1) := by decide +kernel
theorem d_T_setPlace_24 : decode b_T_setPlace 24 = .ok (.aload_n 0, 1) := by decide +kernel
theorem d_T_setPlace_25 : decode b_T_setPlace 25 = .ok (.getfield 11, 3) := by decide +kernel
theorem d_T_setPlace_28 : decode b_T_setPlace 28 = .ok (.iload_n 1, 1) := by decide +kernel
theorem d_T_setPlace_29 : decode b_T_setPlace 29 = .ok (.iconst 4, 1) := by decide +kernel
theorem d_T_setPlace_30 : decode b_T_setPlace 30 = .ok (.imul, 1) := by decide +kernel
theorem d_T_setPlace_31 : decode b_T_setPlace 31 = .ok (.iconst 3, 1) := by decide +kernel
theorem d_T_setPlace_32 : decode b_T_setPlace 32 = .ok (.iadd, 1) := by decide +kernel
theorem d_T_setPlace_33 : decode b_T_setPlace 33 = .ok (.iload 4, 2) := by decide +kernel
theorem d_T_setPlace_35 : decode b_T_setPlace 35 = .ok (.i2l, 1) := by decide +kernel
theorem d_T_setPlace_36 : decode b_T_setPlace 36 = .ok (.lastore, 1) := by decide +kernel
theorem d_T_setPlace_37 : decode b_T_setPlace 37 = .ok (.return_, 1) := by decide +kernel
theorem d_T_setRest_0 : decode b_T_setRest 0 = .ok (.aload_n 0, 1) := by decide +kernel
theorem d_T_setRest_1 : decode b_T_setRest 1 = .ok (.getfield 11, 3) := by decide +kernel
theorem d_T_setRest_4 : decode b_T_setRest 4 = .ok (.iload_n 1, 1) := by decide +kernel
theorem d_T_setRest_5 : decode b_T_setRest 5 = .ok (.iconst 4, 1) := by decide +kernel
theorem d_T_setRest_6 : decode b_T_setRest 6 = .ok (.imul, 1) := by decide +kernel
theorem d_T_setRest_7 : decode b_T_setRest 7 = .ok (.iconst 4, 1) := by decide +kernel
theorem d_T_setRest_8 : decode b_T_setRest 8 = .ok (.iadd, 1) := by decide +kernel
theorem d_T_setRest_9 : decode b_T_setRest 9 = .ok (.iload_n 2, 1) := by decide +kernel
theorem d_T_setRest_10 : decode b_T_setRest 10 = .ok (.i2l, 1) := by decide +kernel
theorem d_T_setRest_11 : decode b_T_setRest 11 = .ok (.lastore, 1) := by decide +kernel
theorem d_T_setRest_12 : decode b_T_setRest 12 = .ok (.aload_n 0, 1) := by decide +kernel
theorem d_T_setRest_13 : decode b_T_setRest 13 = .ok (.getfield 15, 3) := by decide +kernel
theorem d_T_setRest_16 : decode b_T_setRest 16 = .ok (.iload_n 1, 1) := by decide +kernel
theorem d_T_setRest_17 : decode b_T_setRest 17 = .ok (.iload_n 3, 1) := by decide +kernel
theorem d_T_setRest_18 : decode b_T_setRest 18 = .ok (.iastore, 1) := by decide +kernel
theorem d_T_setRest_19 : decode b_T_setRest 19 = .ok (.aload_n 0, 1) := by decide +kernel
theorem d_T_setRest_20 : decode b_T_setRest 20 = .ok (.getfield 19, 3) := by decide +kernel
theorem d_T_setRest_23 : decode b_T_setRest 23 = .ok (.iload_n 1, 1) := by decide +kernel
theorem d_T_setRest_24 : decode b_T_setRest 24 = .ok (.iload 4, 2) := by decide +kernel
theorem d_T_setRest_26 : decode b_T_setRest 26 = .ok (.iastore, 1) := by decide +kernel
theorem d_T_setRest_27 : decode b_T_setRest 27 = .ok (.return_, 1) := by decide +kernel
theorem d_T_placeQ_0 : decode b_T_placeQ 0 = .ok (.aload_n 0, 1) := by decide +kernel
theorem d_T_placeQ_1 : decode b_T_placeQ 1 = .ok (.getfield 11, 3) := by decide +kernel
theorem d_T_placeQ_4 : decode b_T_placeQ 4 = .ok (.iload_n 1, 1) := by decide +kernel
theorem d_T_placeQ_5 : decode b_T_placeQ 5 = .ok (.iconst 4, 1) := by decide +kernel
theorem d_T_placeQ_6 : decode b_T_placeQ 6 = .ok (.imul, 1) := by decide +kernel
theorem d_T_placeQ_7 : decode b_T_placeQ 7 = .ok (.iconst 2, 1) := by decide +kernel
theorem d_T_placeQ_8 : decode b_T_placeQ 8 = .ok (.iadd, 1) := by decide +kernel
theorem d_T_placeQ_9 : decode b_T_placeQ 9 = .ok (.laload, 1) := by decide +kernel
theorem d_T_placeQ_10 : decode b_T_placeQ 10 = .ok (.lreturn, 1) := by decide +kernel
theorem d_T_placeW_0 : decode b_T_placeW 0 = .ok (.aload_n 0, 1) := by decide +kernel
theorem d_T_placeW_1 : decode b_T_placeW 1 = .ok (.getfield 11, 3) := by decide +kernel
theorem d_T_placeW_4 : decode b_T_placeW 4 = .ok (.iload_n 1, 1) := by decide +kernel
theorem d_T_placeW_5 : decode b_T_placeW 5 = .ok (.iconst 4, 1) := by decide +kernel
theorem d_T_placeW_6 : decode b_T_placeW 6 = .ok (.imul, 1) := by decide +kernel
theorem d_T_placeW_7 : decode b_T_placeW 7 = .ok (.iconst 3, 1) := by decide +kernel
theorem d_T_placeW_8 : decode b_T_placeW 8 = .ok (.iadd, 1) := by decide +kernel
theorem d_T_placeW_9 : decode b_T_placeW 9 = .ok (.laload, 1) := by decide +kernel
theorem d_T_placeW_10 : decode b_T_placeW 10 = .ok (.lreturn, 1) := by decide +kernel
theorem d_T_placeP_0 : decode b_T_placeP 0 = .ok (.aload_n 0, 1) := by decide +kernel
theorem d_T_placeP_1 : decode b_T_placeP 1 = .ok (.getfield 11, 3) := by decide +kernel
theorem d_T_placeP_4 : decode b_T_placeP 4 = .ok (.iload_n 1, 1) := by decide +kernel
theorem d_T_placeP_5 : decode b_T_placeP 5 = .ok (.iconst 4, 1) := by decide +kernel
theorem d_T_placeP_6 : decode b_T_placeP 6 = .ok (.imul, 1) := by decide +kernel
theorem d_T_placeP_7 : decode b_T_placeP 7 = .ok (.iconst 1, 1) := by decide +kernel
theorem d_T_placeP_8 : decode b_T_placeP 8 = .ok (.iadd, 1) := by decide +kernel
theorem d_T_placeP_9 : decode b_T_placeP 9 = .ok (.laload, 1) := by decide +kernel
theorem d_T_placeP_10 : decode b_T_placeP 10 = .ok (.lreturn, 1) := by decide +kernel
theorem d_T_setEdge_0 : decode b_T_setEdge 0 = .ok (.aload_n 0, 1) := by decide +kernel
theorem d_T_setEdge_1 : decode b_T_setEdge 1 = .ok (.getfield 22, 3) := by decide +kernel
theorem d_T_setEdge_4 : decode b_T_setEdge 4 = .ok (.iload_n 1, 1) := by decide +kernel
theorem d_T_setEdge_5 : decode b_T_setEdge 5 = .ok (.aload_n 0, 1) := by decide +kernel
theorem d_T_setEdge_6 : decode b_T_setEdge 6 = .ok (.iload_n 2, 1) := by decide +kernel
theorem d_T_setEdge_7 : decode b_T_setEdge 7 = .ok (.invokevirtual 49, 3) := by decide +kernel
theorem d_T_setEdge_10 : decode b_T_setEdge 10 = .ok (.aload_n 0, 1) := by decide +kernel
theorem d_T_setEdge_11 : decode b_T_setEdge 11 = .ok (.iload_n 3, 1) := by decide +kernel
theorem d_T_setEdge_12 : decode b_T_setEdge 12 = .ok (.invokevirtual 52, 3) := by decide +kernel
theorem d_T_setEdge_15 : decode b_T_setEdge 15 = .ok (.lmul, 1) := by decide +kernel
theorem d_T_setEdge_16 : decode b_T_setEdge 16 = .ok (.aload_n 0, 1) := by decide +kernel
theorem d_T_setEdge_17 : decode b_T_setEdge 17 = .ok (.iload_n 2, 1) := by decide +kernel
theorem d_T_setEdge_18 : decode b_T_setEdge 18 = .ok (.invokevirtual 52, 3) := by decide +kernel
theorem d_T_setEdge_21 : decode b_T_setEdge 21 = .ok (.aload_n 0, 1) := by decide +kernel
theorem d_T_setEdge_22 : decode b_T_setEdge 22 = .ok (.iload_n 3, 1) := by decide +kernel
theorem d_T_setEdge_23 : decode b_T_setEdge 23 = .ok (.invokevirtual 49, 3) := by decide +kernel
theorem d_T_setEdge_26 : decode b_T_setEdge 26 = .ok (.lmul, 1) := by decide +kernel
theorem d_T_setEdge_27 : decode b_T_setEdge 27 = .ok (.lsub, 1) := by decide +kernel
theorem d_T_setEdge_28 : decode b_T_setEdge 28 = .ok (.lastore, 1) := by decide +kernel
theorem d_T_setEdge_29 : decode b_T_setEdge 29 = .ok (.aload_n 0, 1) := by decide +kernel
theorem d_T_setEdge_30 : decode b_T_setEdge 30 = .ok (.getfield 25, 3) := by decide +kernel
theorem d_T_setEdge_33 : decode b_T_setEdge 33 = .ok (.iload_n 1, 1) := by decide +kernel
theorem d_T_setEdge_34 : decode b_T_setEdge 34 = .ok (.aload_n 0, 1) := by decide +kernel
theorem d_T_setEdge_35 : decode b_T_setEdge 35 = .ok (.iload_n 2, 1) := by decide +kernel
theorem d_T_setEdge_36 : decode b_T_setEdge 36 = .ok (.invokevirtual 52, 3) := by decide +kernel
theorem d_T_setEdge_39 : decode b_T_setEdge 39 = .ok (.aload_n 0, 1) := by decide +kernel
theorem d_T_setEdge_40 : decode b_T_setEdge 40 = .ok (.iload_n 3, 1) := by decide +kernel
theorem d_T_setEdge_41 : decode b_T_setEdge 41 = .ok (.invokevirtual 45, 3) := by decide +kernel
theorem d_T_setEdge_44 : decode b_T_setEdge 44 = .ok (.lmul, 1) := by decide +kernel
theorem d_T_setEdge_45 : decode b_T_setEdge 45 = .ok (.aload_n 0, 1) := by decide +kernel
theorem d_T_setEdge_46 : decode b_T_setEdge 46 = .ok (.iload_n 2, 1) := by decide +kernel
theorem d_T_setEdge_47 : decode b_T_setEdge 47 = .ok (.invokevirtual 45, 3) := by decide +kernel
theorem d_T_setEdge_50 : decode b_T_setEdge 50 = .ok (.aload_n 0, 1) := by decide +kernel
theorem d_T_setEdge_51 : decode b_T_setEdge 51 = .ok (.iload_n 3, 1) := by decide +kernel
theorem d_T_setEdge_52 : decode b_T_setEdge 52 = .ok (.invokevirtual 52, 3) := by decide +kernel
theorem d_T_setEdge_55 : decode b_T_setEdge 55 = .ok (.lmul, 1) := by decide +kernel
theorem d_T_setEdge_56 : decode b_T_setEdge 56 = .ok (.lsub, 1) := by decide +kernel
theorem d_T_setEdge_57 : decode b_T_setEdge 57 = .ok (.lastore, 1) := by decide +kernel
theorem d_T_setEdge_58 : decode b_T_setEdge 58 = .ok (.aload_n 0, 1) := by decide +kernel
theorem d_T_setEdge_59 : decode b_T_setEdge 59 = .ok (.getfield 28, 3) := by decide +kernel
theorem d_T_setEdge_62 : decode b_T_setEdge 62 = .ok (.iload_n 1, 1) := by decide +kernel
theorem d_T_setEdge_63 : decode b_T_setEdge 63 = .ok (.aload_n 0, 1) := by decide +kernel
theorem d_T_setEdge_64 : decode b_T_setEdge 64 = .ok (.iload_n 2, 1) := by decide +kernel
theorem d_T_setEdge_65 : decode b_T_setEdge 65 = .ok (.invokevirtual 45, 3) := by decide +kernel
theorem d_T_setEdge_68 : decode b_T_setEdge 68 = .ok (.aload_n 0, 1) := by decide +kernel
theorem d_T_setEdge_69 : decode b_T_setEdge 69 = .ok (.iload_n 3, 1) := by decide +kernel
theorem d_T_setEdge_70 : decode b_T_setEdge 70 = .ok (.invokevirtual 49, 3) := by decide +kernel
theorem d_T_setEdge_73 : decode b_T_setEdge 73 = .ok (.lmul, 1) := by decide +kernel
theorem d_T_setEdge_74 : decode b_T_setEdge 74 = .ok (.aload_n 0, 1) := by decide +kernel
theorem d_T_setEdge_75 : decode b_T_setEdge 75 = .ok (.iload_n 2, 1) := by decide +kernel
theorem d_T_setEdge_76 : decode b_T_setEdge 76 = .ok (.invokevirtual 49, 3) := by decide +kernel
theorem d_T_setEdge_79 : decode b_T_setEdge 79 = .ok (.aload_n 0, 1) := by decide +kernel
theorem d_T_setEdge_80 : decode b_T_setEdge 80 = .ok (.iload_n 3, 1) := by decide +kernel
theorem d_T_setEdge_81 : decode b_T_setEdge 81 = .ok (.invokevirtual 45, 3) := by decide +kernel
theorem d_T_setEdge_84 : decode b_T_setEdge 84 = .ok (.lmul, 1) := by decide +kernel
theorem d_T_setEdge_85 : decode b_T_setEdge 85 = .ok (.lsub, 1) := by decide +kernel
theorem d_T_setEdge_86 : decode b_T_setEdge 86 = .ok (.lastore, 1) := by decide +kernel
theorem d_T_setEdge_87 : decode b_T_setEdge 87 = .ok (.return_, 1) := by decide +kernel
theorem d_T_turnToNegatives_0 : decode b_T_turnToNegatives 0 = .ok (.aload_n 0, 1) := by decide +kernel
theorem d_T_turnToNegatives_1 : decode b_T_turnToNegatives 1 = .ok (.aload_n 0, 1) := by decide +kernel
theorem d_T_turnToNegatives_2 : decode b_T_turnToNegatives 2 = .ok (.getfield 55, 3) := by decide +kernel
theorem d_T_turnToNegatives_5 : decode b_T_turnToNegatives 5 = .ok (.lneg, 1) := by decide +kernel
theorem d_T_turnToNegatives_6 : decode b_T_turnToNegatives 6 = .ok (.putfield 55, 3) := by decide +kernel
theorem d_T_turnToNegatives_9 : decode b_T_turnToNegatives 9 = .ok (.iconst 0, 1) := by decide +kernel
theorem d_T_turnToNegatives_10 : decode b_T_turnToNegatives 10 = .ok (.istore_n 1, 1) := by decide +kernel
theorem d_T_turnToNegatives_11 : decode b_T_turnToNegatives 11 = .ok (.iload_n 1, 1) := by decide +kernel
theorem d_T_turnToNegatives_12 : decode b_T_turnToNegatives 12 = .ok (.iconst 3, 1) := by decide +kernel
theorem d_T_turnToNegatives_13 : decode b_T_turnToNegatives 13 = .ok (.if_icmp .ge (48), 3) := by decide +kernel
theorem d_T_turnToNegatives_16 : decode b_T_turnToNegatives 16 = .ok (.aload_n 0, 1) := by decide +kernel
theorem d_T_turnToNegatives_17 : decode b_T_turnToNegatives 17 = .ok (.getfield 22, 3) := by decide +kernel
theorem d_T_turnToNegatives_20 : decode b_T_turnToNegatives 20 = .ok (.iload_n 1, 1) := by decide +kernel
theorem d_T_turnToNegatives_21 : decode b_T_turnToNegatives 21 = .ok (.aload_n 0, 1) := by decide +kernel
theorem d_T_turnToNegatives_22 : decode b_T_turnToNegatives 22 = .ok (.getfield 22, 3) := by decide +kernel
theorem d_T_turnToNegatives_25 : decode b_T_turnToNegatives 25 = .ok (.iload_n 1, 1) := by decide +kernel
theorem d_T_turnToNegatives_26 : decode b_T_turnToNegatives 26 = .ok (.laload, 1) := by decide +kernel
theorem d_T_turnToNegatives_27 : decode b_T_turnToNegatives 27 = .ok (.lneg, 1) := by decide +kernel
theorem d_T_turnToNegatives_28 : decode b_T_turnToNegatives 28 = .ok (.lastore, 1) := by decide +kernel
theorem d_T_turnToNegatives_29 : decode b_T_turnToNegatives 29 = .ok (.aload_n 0, 1) := by decide +kernel
theorem d_T_turnToNegatives_30 : decode b_T_turnToNegatives 30 = .ok (.getfield 25, 3) := by decide +kernel
theorem d_T_turnToNegatives_33 : decode b_T_turnToNegatives 33 = .ok (.iload_n 1, 1) := by decide +kernel
theorem d_T_turnToNegatives_34 : decode b_T_turnToNegatives 34 = .ok (.aload_n 0, 1) := by decide +kernel
theorem d_T_turnToNegatives_35 : decode b_T_turnToNegatives 35 = .ok (.getfield 25, 3) := by decide +kernel
theorem d_T_turnToNegatives_38 : decode b_T_turnToNegatives 38 = .ok (.iload_n 1, 1) := by decide +kernel
theorem d_T_turnToNegatives_39 : decode b_T_turnToNegatives 39 = .ok (.laload, 1) := by decide +kernel
theorem d_T_turnToNegatives_40 : decode b_T_turnToNegatives 40 = .ok (.lneg, 1) := by decide +kernel
theorem d_T_turnToNegatives_41 : decode b_T_turnToNegatives 41 = .ok (.lastore, 1) := by decide +kernel
theorem d_T_turnToNegatives_42 : decode b_T_turnToNegatives 42 = .ok (.aload_n 0, 1) := by decide +kernel
theorem d_T_turnToNegatives_43 : decode b_T_turnToNegatives 43 = .ok (.getfield 28, 3) := by decide +kernel
theorem d_T_turnToNegatives_46 : decode b_T_turnToNegatives 46 = .ok (.iload_n 1, 1) := by decide +kernel
theorem d_T_turnToNegatives_47 : decode b_T_turnToNegatives 47 = .ok (.aload_n 0, 1) := by decide +kernel
theorem d_T_turnToNegatives_48 : decode b_T_turnToNegatives 48 = .ok (.getfield 28, 3) := by decide +kernel
theorem d_T_turnToNegatives_51 : decode b_T_turnToNegatives 51 = .ok (.iload_n 1, 1) := by decide +kernel
theorem d_T_turnToNegatives_52 : decode b_T_turnToNegatives 52 = .ok (.laload, 1) := by decide +kernel
theorem d_T_turnToNegatives_53 : decode b_T_turnToNegatives 53 = .ok (.lneg, 1) := by decide +kernel
theorem d_T_turnToNegatives_54 : decode b_T_turnToNegatives 54 = .ok (.lastore, 1) := by decide +kernel
theorem d_T_turnToNegatives_55 : decode b_T_turnToNegatives 55 = .ok (.iinc 1 (1), 3) := by decide +kernel
theorem d_T_turnToNegatives_58 : decode b_T_turnToNegatives 58 = .ok (.goto (-47), 3) := by decide +kernel
theorem d_T_turnToNegatives_61 : decode b_T_turnToNegatives 61 = .ok (.return_, 1) := by decide +kernel
theorem d_T_complete_0 : decode b_T_complete 0 = .ok (.aload_n 0, 1) := by decide +kernel
theorem d_T_complete_1 : decode b_T_complete 1 = .ok (.iload_n 1, 1) := by decide +kernel
theorem d_T_complete_2 : decode b_T_complete 2 = .ok (.putfield 31, 3) := by decide +kernel
theorem d_T_complete_5 : decode b_T_complete 5 = .ok (.aload_n 0, 1) := by decide +kernel
theorem d_T_complete_6 : decode b_T_complete 6 = .ok (.iload_n 2, 1) := by decide +kernel
theorem d_T_complete_7 : decode b_T_complete 7 = .ok (.putfield 35, 3) := by decide +kernel
theorem d_T_complete_10 : decode b_T_complete 10 = .ok (.aload_n 0, 1) := by decide +kernel
theorem d_T_complete_11 : decode b_T_complete 11 = .ok (.iload_n 3, 1) := by decide +kernel
theorem d_T_complete_12 : decode b_T_complete 12 = .ok (.putfield 38, 3) := by decide +kernel
theorem d_T_complete_15 : decode b_T_complete 15 = .ok (.iconst 0, 1) := by decide +kernel
theorem d_T_complete_16 : decode b_T_complete 16 = .ok (.istore 4, 2) := by decide +kernel
theorem d_T_complete_18 : decode b_T_complete 18 = .ok (.iload 4, 2) := by decide +kernel
theorem d_T_complete_20 : decode b_T_complete 20 = .ok (.iconst 3, 1) := by decide +kernel
theorem d_T_complete_21 : decode b_T_complete 21 = .ok (.if_icmp .ge (27), 3) := by decide +kernel
theorem d_T_complete_24 : decode b_T_complete 24 = .ok (.aload_n 0, 1) := by decide +kernel
theorem d_T_complete_25 : decode b_T_complete 25 = .ok (.iload 4, 2) := by decide +kernel
theorem d_T_complete_27 : decode b_T_complete 27 = .ok (.iload 4, 2) := by decide +kernel
theorem d_T_complete_29 : decode b_T_complete 29 = .ok (.iconst 1, 1) := by decide +kernel
theorem d_T_complete_30 : decode b_T_complete 30 = .ok (.iadd, 1) := by decide +kernel
theorem d_T_complete_31 : decode b_T_complete 31 = .ok (.iconst 3, 1) := by decide +kernel
theorem d_T_complete_32 : decode b_T_complete 32 = .ok (.irem, 1) := by decide +kernel
theorem d_T_complete_33 : decode b_T_complete 33 = .ok (.iload 4, 2) := by decide +kernel
theorem d_T_complete_35 : decode b_T_complete 35 = .ok (.iconst 2, 1) := by decide +kernel
theorem d_T_complete_36 : decode b_T_complete 36 = .ok (.iadd, 1) := by decide +kernel
theorem d_T_complete_37 : decode b_T_complete 37 = .ok (.iconst 3, 1) := by decide +kernel
theorem d_T_complete_38 : decode b_T_complete 38 = .ok (.irem, 1) := by decide +kernel
theorem d_T_complete_39 : decode b_T_complete 39 = .ok (.invokevirtual 41, 3) := by decide +kernel
theorem d_T_complete_42 : decode b_T_complete 42 = .ok (.iinc 4 (1), 3) := by decide +kernel
theorem d_T_complete_45 : decode b_T_complete 45 = .ok (.goto (-27), 3) := by decide +kernel
theorem d_T_complete_48 : decode b_T_complete 48 = .ok (.aload_n 0, 1) := by decide +kernel
theorem d_T_complete_49 : decode b_T_complete 49 = .ok (.getfield 11, 3) := by decide +kernel
theorem d_T_complete_52 : decode b_T_complete 52 = .ok (.iconst 0, 1) := by decide +kernel
theorem d_T_complete_53 : decode b_T_complete 53 = .ok (.aload_n 0, 1) := by decide +kernel
theorem d_T_complete_54 : decode b_T_complete 54 = .ok (.iconst 0, 1) := by decide +kernel
theorem d_T_complete_55 : decode b_T_complete 55 = .ok (.invokevirtual 45, 3) := by decide +kernel
theorem d_T_complete_58 : decode b_T_complete 58 = .ok (.aload_n 0, 1) := by decide +kernel
theorem d_T_complete_59 : decode b_T_complete 59 = .ok (.getfield 22, 3) := by decide +kernel
theorem d_T_complete_62 : decode b_T_complete 62 = .ok (.iconst 0, 1) := by decide +kernel
theorem d_T_complete_63 : decode b_T_complete 63 = .ok (.laload, 1) := by decide +kernel
theorem d_T_complete_64 : decode b_T_complete 64 = .ok (.lmul, 1) := by decide +kernel
theorem d_T_complete_65 : decode b_T_complete 65 = .ok (.aload_n 0, 1) := by decide +kernel
theorem d_T_complete_66 : decode b_T_complete 66 = .ok (.iconst 0, 1) := by decide +kernel
theorem d_T_complete_67 : decode b_T_complete 67 = .ok (.invokevirtual 49, 3) := by decide +kernel
theorem d_T_complete_70 : decode b_T_complete 70 = .ok (.aload_n 0, 1) := by decide +kernel
theorem d_T_complete_71 : decode b_T_complete 71 = .ok (.getfield 25, 3) := by decide +kernel
theorem d_T_complete_74 : decode b_T_complete 74 = .ok (.iconst 0, 1) := by decide +kernel
theorem d_T_complete_75 : decode b_T_complete 75 = .ok (.laload, 1) := by decide +kernel
theorem d_T_complete_76 : decode b_T_complete 76 = .ok (.lmul, 1) := by decide +kernel
theorem d_T_complete_77 : decode b_T_complete 77 = .ok (.ladd, 1) := by decide +kernel
theorem d_T_complete_78 : decode b_T_complete 78 = .ok (.aload_n 0, 1) := by decide +kernel
theorem d_T_complete_79 : decode b_T_complete 79 = .ok (.iconst 0, 1) := by decide +kernel
theorem d_T_complete_80 : decode b_T_complete 80 = .ok (.invokevirtual 52, 3) := by decide +kernel
theorem d_T_complete_83 : decode b_T_complete 83 = .ok (.aload_n 0, 1) := by decide +kernel
theorem d_T_complete_84 : decode b_T_complete 84 = .ok (.getfield 28, 3) := by decide +kernel
theorem d_T_complete_87 : decode b_T_complete 87 = .ok (.iconst 0, 1) := by decide +kernel
theorem d_T_complete_88 : decode b_T_complete 88 = .ok (.laload, 1) := by decide +kernel
theorem d_T_complete_89 : decode b_T_complete 89 = .ok (.lmul, 1) := by decide +kernel
theorem d_T_complete_90 : decode b_T_complete 90 = .ok (.ladd, 1) := by decide +kernel
theorem d_T_complete_91 : decode b_T_complete 91 = .ok (.lastore, 1) := by decide +kernel
theorem d_T_complete_92 : decode b_T_complete 92 = .ok (.aload_n 0, 1) := by decide +kernel
theorem d_T_complete_93 : decode b_T_complete 93 = .ok (.aload_n 0, 1) := by decide +kernel
theorem d_T_complete_94 : decode b_T_complete 94 = .ok (.getfield 11, 3) := by decide +kernel
theorem d_T_complete_97 : decode b_T_complete 97 = .ok (.iconst 0, 1) := by decide +kernel
theorem d_T_complete_98 : decode b_T_complete 98 = .ok (.laload, 1) := by decide +kernel
theorem d_T_complete_99 : decode b_T_complete 99 = .ok (.putfield 55, 3) := by decide +kernel
theorem d_T_complete_102 : decode b_T_complete 102 = .ok (.aload_n 0, 1) := by decide +kernel
theorem d_T_complete_103 : decode b_T_complete 103 = .ok (.getfield 55, 3) := by decide +kernel
theorem d_T_complete_106 : decode b_T_complete 106 = .ok (.lconst 0, 1) := by decide +kernel
theorem d_T_complete_107 : decode b_T_complete 107 = .ok (.lcmp, 1) := by decide +kernel
theorem d_T_complete_108 : decode b_T_complete 108 = .ok (.ifCond .ge (7), 3) := by decide +kernel
theorem d_T_complete_111 : decode b_T_complete 111 = .ok (.aload_n 0, 1) := by decide +kernel
theorem d_T_complete_112 : decode b_T_complete 112 = .ok (.invokevirtual 59, 3) := by decide +kernel
theorem d_T_complete_115 : decode b_T_complete 115 = .ok (.return_, 1) := by decide +kernel
theorem d_T_isShown_0 : decode b_T_isShown 0 = .ok (.aload_n 0, 1) := by decide +kernel
theorem d_T_isShown_1 : decode b_T_isShown 1 = .ok (.getfield 55, 3) := by decide +kernel
theorem d_T_isShown_4 : decode b_T_isShown 4 = .ok (.lconst 0, 1) := by decide +kernel
theorem d_T_isShown_5 : decode b_T_isShown 5 = .ok (.lcmp, 1) := by decide +kernel
theorem d_T_isShown_6 : decode b_T_isShown 6 = .ok (.ifCond .ne (5), 3) := by decide +kernel
theorem d_T_isShown_9 : decode b_T_isShown 9 = .ok (.iconst 0, 1) := by decide +kernel
theorem d_T_isShown_10 : decode b_T_isShown 10 = .ok (.ireturn, 1) := by decide +kernel
theorem d_T_isShown_11 : decode b_T_isShown 11 = .ok (.aload_n 0, 1) := by decide +kernel
theorem d_T_isShown_12 : decode b_T_isShown 12 = .ok (.getfield 38, 3) := by decide +kernel
theorem d_T_isShown_15 : decode b_T_isShown 15 = .ok (.ifCond .eq (26), 3) := by decide +kernel
theorem d_T_isShown_18 : decode b_T_isShown 18 = .ok (.aload_n 0, 1) := by decide +kernel
theorem d_T_isShown_19 : decode b_T_isShown 19 = .ok (.getfield 38, 3) := by decide +kernel
theorem d_T_isShown_22 : decode b_T_isShown 22 = .ok (.aload_n 0, 1) := by decide +kernel
theorem d_T_isShown_23 : decode b_T_isShown 23 = .ok (.getfield 11, 3) := by decide +kernel
theorem d_T_isShown_26 : decode b_T_isShown 26 = .ok (.iconst 0, 1) := by decide +kernel
theorem d_T_isShown_27 : decode b_T_isShown 27 = .ok (.laload, 1) := by decide +kernel
theorem d_T_isShown_28 : decode b_T_isShown 28 = .ok (.lconst 0, 1) := by decide +kernel
theorem d_T_isShown_29 : decode b_T_isShown 29 = .ok (.lcmp, 1) := by decide +kernel
theorem d_T_isShown_30 : decode b_T_isShown 30 = .ok (.ifCond .le (7), 3) := by decide +kernel
theorem d_T_isShown_33 : decode b_T_isShown 33 = .ok (.iconst 1, 1) := by decide +kernel
theorem d_T_isShown_34 : decode b_T_isShown 34 = .ok (.goto (4), 3) := by decide +kernel
theorem d_T_isShown_37 : decode b_T_isShown 37 = .ok (.iconst 2, 1) := by decide +kernel
theorem d_T_isShown_38 : decode b_T_isShown 38 = .ok (.if_icmp .ne (7), 3) := by decide +kernel
theorem d_T_isShown_41 : decode b_T_isShown 41 = .ok (.iconst 1, 1) := by decide +kernel
theorem d_T_isShown_42 : decode b_T_isShown 42 = .ok (.goto (4), 3) := by decide +kernel
theorem d_T_isShown_45 : decode b_T_isShown 45 = .ok (.iconst 0, 1) := by decide +kernel
theorem d_T_isShown_46 : decode b_T_isShown 46 = .ok (.ireturn, 1) := by decide +kernel
theorem d_T_weightAt_0 : decode b_T_weightAt 0 = .ok (.aload_n 0, 1) := by decide +kernel
theorem d_T_weightAt_1 : decode b_T_weightAt 1 = .ok (.getfield 22, 3) := by decide +kernel
theorem d_T_weightAt_4 : decode b_T_weightAt 4 = .ok (.iload_n 1, 1) := by decide +kernel
theorem d_T_weightAt_5 : decode b_T_weightAt 5 = .ok (.laload, 1) := by decide +kernel
theorem d_T_weightAt_6 : decode b_T_weightAt 6 = .ok (.iconst 2, 1) := by decide +kernel
theorem d_T_weightAt_7 : decode b_T_weightAt 7 = .ok (.iload_n 2, 1) := by decide +kernel
theorem d_T_weightAt_8 : decode b_T_weightAt 8 = .ok (.imul, 1) := by decide +kernel
theorem d_T_weightAt_9 : decode b_T_weightAt 9 = .ok (.iconst 1, 1) := by decide +kernel
theorem d_T_weightAt_10 : decode b_T_weightAt 10 = .ok (.iadd, 1) := by decide +kernel
theorem d_T_weightAt_11 : decode b_T_weightAt 11 = .ok (.i2l, 1) := by decide +kernel
theorem d_T_weightAt_12 : decode b_T_weightAt 12 = .ok (.lmul, 1) := by decide +kernel
theorem d_T_weightAt_13 : decode b_T_weightAt 13 = .ok (.aload_n 0, 1) := by decide +kernel
theorem d_T_weightAt_14 : decode b_T_weightAt 14 = .ok (.getfield 25, 3) := by decide +kernel
theorem d_T_weightAt_17 : decode b_T_weightAt 17 = .ok (.iload_n 1, 1) := by decide +kernel
theorem d_T_weightAt_18 : decode b_T_weightAt 18 = .ok (.laload, 1) := by decide +kernel
theorem d_T_weightAt_19 : decode b_T_weightAt 19 = .ok (.iconst 2, 1) := by decide +kernel
theorem d_T_weightAt_20 : decode b_T_weightAt 20 = .ok (.iload_n 3, 1) := by decide +kernel
theorem d_T_weightAt_21 : decode b_T_weightAt 21 = .ok (.imul, 1) := by decide +kernel
theorem d_T_weightAt_22 : decode b_T_weightAt 22 = .ok (.iconst 1, 1) := by decide +kernel
theorem d_T_weightAt_23 : decode b_T_weightAt 23 = .ok (.iadd, 1) := by decide +kernel
theorem d_T_weightAt_24 : decode b_T_weightAt 24 = .ok (.i2l, 1) := by decide +kernel
theorem d_T_weightAt_25 : decode b_T_weightAt 25 = .ok (.lmul, 1) := by decide +kernel
theorem d_T_weightAt_26 : decode b_T_weightAt 26 = .ok (.ladd, 1) := by decide +kernel
theorem d_T_weightAt_27 : decode b_T_weightAt 27 = .ok (.aload_n 0, 1) := by decide +kernel
theorem d_T_weightAt_28 : decode b_T_weightAt 28 = .ok (.getfield 28, 3) := by decide +kernel
theorem d_T_weightAt_31 : decode b_T_weightAt 31 = .ok (.iload_n 1, 1) := by decide +kernel
theorem d_T_weightAt_32 : decode b_T_weightAt 32 = .ok (.laload, 1) := by decide +kernel
theorem d_T_weightAt_33 : decode b_T_weightAt 33 = .ok (.ladd, 1) := by decide +kernel
theorem d_T_weightAt_34 : decode b_T_weightAt 34 = .ok (.lreturn, 1) := by decide +kernel
theorem d_T_ownsItsEdge_0 : decode b_T_ownsItsEdge 0 = .ok (.aload_n 0, 1) := by decide +kernel
theorem d_T_ownsItsEdge_1 : decode b_T_ownsItsEdge 1 = .ok (.getfield 22, 3) := by decide +kernel
theorem d_T_ownsItsEdge_4 : decode b_T_ownsItsEdge 4 = .ok (.iload_n 1, 1) := by decide +kernel
theorem d_T_ownsItsEdge_5 : decode b_T_ownsItsEdge 5 = .ok (.laload, 1) := by decide +kernel
theorem d_T_ownsItsEdge_6 : decode b_T_ownsItsEdge 6 = .ok (.lconst 0, 1) := by decide +kernel
theorem d_T_ownsItsEdge_7 : decode b_T_ownsItsEdge 7 = .ok (.lcmp, 1) := by decide +kernel
theorem d_T_ownsItsEdge_8 : decode b_T_ownsItsEdge 8 = .ok (.ifCond .gt (25), 3) := by decide +kernel
theorem d_T_ownsItsEdge_11 : decode b_T_ownsItsEdge 11 = .ok (.aload_n 0, 1) := by decide +kernel
theorem d_T_ownsItsEdge_12 : decode b_T_ownsItsEdge 12 = .ok (.getfield 22, 3) := by decide +kernel
theorem d_T_ownsItsEdge_15 : decode b_T_ownsItsEdge 15 = .ok (.iload_n 1, 1) := by decide +kernel
theorem d_T_ownsItsEdge_16 : decode b_T_ownsItsEdge 16 = .ok (.laload, 1) := by decide +kernel
theorem d_T_ownsItsEdge_17 : decode b_T_ownsItsEdge 17 = .ok (.lconst 0, 1) := by decide +kernel
theorem d_T_ownsItsEdge_18 : decode b_T_ownsItsEdge 18 = .ok (.lcmp, 1) := by decide +kernel
theorem d_T_ownsItsEdge_19 : decode b_T_ownsItsEdge 19 = .ok (.ifCond .ne (18), 3) := by decide +kernel
theorem d_T_ownsItsEdge_22 : decode b_T_ownsItsEdge 22 = .ok (.aload_n 0, 1) := by decide +kernel
theorem d_T_ownsItsEdge_23 : decode b_T_ownsItsEdge 23 = .ok (.getfield 25, 3) := by decide +kernel
theorem d_T_ownsItsEdge_26 : decode b_T_ownsItsEdge 26 = .ok (.iload_n 1, 1) := by decide +kernel
theorem d_T_ownsItsEdge_27 : decode b_T_ownsItsEdge 27 = .ok (.laload, 1) := by decide +kernel
theorem d_T_ownsItsEdge_28 : decode b_T_ownsItsEdge 28 = .ok (.lconst 0, 1) := by decide +kernel
theorem d_T_ownsItsEdge_29 : decode b_T_ownsItsEdge 29 = .ok (.lcmp, 1) := by decide +kernel
theorem d_T_ownsItsEdge_30 : decode b_T_ownsItsEdge 30 = .ok (.ifCond .le (7), 3) := by decide +kernel
theorem d_T_ownsItsEdge_33 : decode b_T_ownsItsEdge 33 = .ok (.iconst 1, 1) := by decide +kernel
theorem d_T_ownsItsEdge_34 : decode b_T_ownsItsEdge 34 = .ok (.goto (4), 3) := by decide +kernel
theorem d_T_ownsItsEdge_37 : decode b_T_ownsItsEdge 37 = .ok (.iconst 0, 1) := by decide +kernel
theorem d_T_ownsItsEdge_38 : decode b_T_ownsItsEdge 38 = .ok (.ireturn, 1) := by decide +kernel
theorem d_T_covers_0 : decode b_T_covers 0 = .ok (.iconst 0, 1) := by decide +kernel
theorem d_T_covers_1 : decode b_T_covers 1 = .ok (.istore_n 3, 1) := by decide +kernel
theorem d_T_covers_2 : decode b_T_covers 2 = .ok (.iload_n 3, 1) := by decide +kernel
theorem d_T_covers_3 : decode b_T_covers 3 = .ok (.iconst 3, 1) := by decide +kernel
theorem d_T_covers_4 : decode b_T_covers 4 = .ok (.if_icmp .ge (42), 3) := by decide +kernel
theorem d_T_covers_7 : decode b_T_covers 7 = .ok (.aload_n 0, 1) := by decide +kernel
theorem d_T_covers_8 : decode b_T_covers 8 = .ok (.iload_n 3, 1) := by decide +kernel
theorem d_T_covers_9 : decode b_T_covers 9 = .ok (.iload_n 1, 1) := by decide +kernel
theorem d_T_covers_10 : decode b_T_covers 10 = .ok (.iload_n 2, 1) := by decide +kernel
theorem d_T_covers_11 : decode b_T_covers 11 = .ok (.invokevirtual 62, 3) := by decide +kernel
theorem d_T_covers_14 : decode b_T_covers 14 = .ok (.lstore 4, 2) := by decide +kernel
theorem d_T_covers_16 : decode b_T_covers 16 = .ok (.lload 4, 2) := by decide +kernel
theorem d_T_covers_18 : decode b_T_covers 18 = .ok (.lconst 0, 1) := by decide +kernel
theorem d_T_covers_19 : decode b_T_covers 19 = .ok (.lcmp, 1) := by decide +kernel
theorem d_T_covers_20 : decode b_T_covers 20 = .ok (.ifCond .lt (18), 3) := by decide +kernel
theorem d_T_covers_23 : decode b_T_covers 23 = .ok (.lload 4, 2) := by decide +kernel
theorem d_T_covers_25 : decode b_T_covers 25 = .ok (.lconst 0, 1) := by decide +kernel
theorem d_T_covers_26 : decode b_T_covers 26 = .ok (.lcmp, 1) := by decide +kernel
theorem d_T_covers_27 : decode b_T_covers 27 = .ok (.ifCond .ne (13), 3) := by decide +kernel
theorem d_T_covers_30 : decode b_T_covers 30 = .ok (.aload_n 0, 1) := by decide +kernel
theorem d_T_covers_31 : decode b_T_covers 31 = .ok (.iload_n 3, 1) := by decide +kernel
theorem d_T_covers_32 : decode b_T_covers 32 = .ok (.invokevirtual 66, 3) := by decide +kernel
theorem d_T_covers_35 : decode b_T_covers 35 = .ok (.ifCond .ne (5), 3) := by decide +kernel
theorem d_T_covers_38 : decode b_T_covers 38 = .ok (.iconst 0, 1) := by decide +kernel
theorem d_T_covers_39 : decode b_T_covers 39 = .ok (.ireturn, 1) := by decide +kernel
theorem d_T_covers_40 : decode b_T_covers 40 = .ok (.iinc 3 (1), 3) := by decide +kernel
theorem d_T_covers_43 : decode b_T_covers 43 = .ok (.goto (-41), 3) := by decide +kernel
theorem d_T_covers_46 : decode b_T_covers 46 = .ok (.iconst 1, 1) := by decide +kernel
theorem d_T_covers_47 : decode b_T_covers 47 = .ok (.ireturn, 1) := by decide +kernel
theorem d_T_depthOver_0 : decode b_T_depthOver 0 = .ok (.lconst 0, 1) := by decide +kernel
theorem d_T_depthOver_1 : decode b_T_depthOver 1 = .ok (.lstore_n 3, 1) := by decide +kernel
theorem d_T_depthOver_2 : decode b_T_depthOver 2 = .ok (.iconst 0, 1) := by decide +kernel
theorem d_T_depthOver_3 : decode b_T_depthOver 3 = .ok (.istore 5, 2) := by decide +kernel
theorem d_T_depthOver_5 : decode b_T_depthOver 5 = .ok (.iload 5, 2) := by decide +kernel
theorem d_T_depthOver_7 : decode b_T_depthOver 7 = .ok (.iconst 3, 1) := by decide +kernel
theorem d_T_depthOver_8 : decode b_T_depthOver 8 = .ok (.if_icmp .ge (32), 3) := by decide +kernel
theorem d_T_depthOver_11 : decode b_T_depthOver 11 = .ok (.lload_n 3, 1) := by decide +kernel
theorem d_T_depthOver_12 : decode b_T_depthOver 12 = .ok (.aload_n 0, 1) := by decide +kernel
theorem d_T_depthOver_13 : decode b_T_depthOver 13 = .ok (.iload 5, 2) := by decide +kernel
theorem d_T_depthOver_15 : decode b_T_depthOver 15 = .ok (.iload_n 1, 1) := by decide +kernel
theorem d_T_depthOver_16 : decode b_T_depthOver 16 = .ok (.iload_n 2, 1) := by decide +kernel
theorem d_T_depthOver_17 : decode b_T_depthOver 17 = .ok (.invokevirtual 62, 3) := by decide +kernel
theorem d_T_depthOver_20 : decode b_T_depthOver 20 = .ok (.aload_n 0, 1) := by decide +kernel
theorem d_T_depthOver_21 : decode b_T_depthOver 21 = .ok (.getfield 11, 3) := by decide +kernel
theorem d_T_depthOver_24 : decode b_T_depthOver 24 = .ok (.iload 5, 2) := by decide +kernel
theorem d_T_depthOver_26 : decode b_T_depthOver 26 = .ok (.iconst 4, 1) := by decide +kernel
theorem d_T_depthOver_27 : decode b_T_depthOver 27 = .ok (.imul, 1) := by decide +kernel
theorem d_T_depthOver_28 : decode b_T_depthOver 28 = .ok (.iconst 4, 1) := by decide +kernel
theorem d_T_depthOver_29 : decode b_T_depthOver 29 = .ok (.iadd, 1) := by decide +kernel
theorem d_T_depthOver_30 : decode b_T_depthOver 30 = .ok (.laload, 1) := by decide +kernel
theorem d_T_depthOver_31 : decode b_T_depthOver 31 = .ok (.lmul, 1) := by decide +kernel
theorem d_T_depthOver_32 : decode b_T_depthOver 32 = .ok (.ladd, 1) := by decide +kernel
theorem d_T_depthOver_33 : decode b_T_depthOver 33 = .ok (.lstore_n 3, 1) := by decide +kernel
theorem d_T_depthOver_34 : decode b_T_depthOver 34 = .ok (.iinc 5 (1), 3) := by decide +kernel
theorem d_T_depthOver_37 : decode b_T_depthOver 37 = .ok (.goto (-32), 3) := by decide +kernel
theorem d_T_depthOver_40 : decode b_T_depthOver 40 = .ok (.lload_n 3, 1) := by decide +kernel
theorem d_T_depthOver_41 : decode b_T_depthOver 41 = .ok (.lreturn, 1) := by decide +kernel
theorem d_T_weigh_0 : decode b_T_weigh 0 = .ok (.lconst 0, 1) := by decide +kernel
theorem d_T_weigh_1 : decode b_T_weigh 1 = .ok (.lstore 4, 2) := by decide +kernel
theorem d_T_weigh_3 : decode b_T_weigh 3 = .ok (.lconst 0, 1) := by decide +kernel
theorem d_T_weigh_4 : decode b_T_weigh 4 = .ok (.lstore 6, 2) := by decide +kernel
theorem d_T_weigh_6 : decode b_T_weigh 6 = .ok (.iconst 0, 1) := by decide +kernel
theorem d_T_weigh_7 : decode b_T_weigh 7 = .ok (.istore 8, 2) := by decide +kernel
theorem d_T_weigh_9 : decode b_T_weigh 9 = .ok (.iload 8, 2) := by decide +kernel
theorem d_T_weigh_11 : decode b_T_weigh 11 = .ok (.iconst 3, 1) := by decide +kernel
theorem d_T_weigh_12 : decode b_T_weigh 12 = .ok (.if_icmp .ge (39), 3) := by decide +kernel
theorem d_T_weigh_15 : decode b_T_weigh 15 = .ok (.aload_n 0, 1) := by decide +kernel
theorem d_T_weigh_16 : decode b_T_weigh 16 = .ok (.iload 8, 2) := by decide +kernel
theorem d_T_weigh_18 : decode b_T_weigh 18 = .ok (.iload_n 2, 1) := by decide +kernel
theorem d_T_weigh_19 : decode b_T_weigh 19 = .ok (.iload_n 3, 1) := by decide +kernel
theorem d_T_weigh_20 : decode b_T_weigh 20 = .ok (.invokevirtual 62, 3) := by decide +kernel
theorem d_T_weigh_23 : decode b_T_weigh 23 = .ok (.lstore 9, 2) := by decide +kernel
theorem d_T_weigh_25 : decode b_T_weigh 25 = .ok (.lload 4, 2) := by decide +kernel
theorem d_T_weigh_27 : decode b_T_weigh 27 = .ok (.lload 9, 2) := by decide +kernel
theorem d_T_weigh_29 : decode b_T_weigh 29 = .ok (.aload_n 1, 1) := by decide +kernel
theorem d_T_weigh_30 : decode b_T_weigh 30 = .ok (.iload 8, 2) := by decide +kernel
theorem d_T_weigh_32 : decode b_T_weigh 32 = .ok (.iaload, 1) := by decide +kernel
theorem d_T_weigh_33 : decode b_T_weigh 33 = .ok (.i2l, 1) := by decide +kernel
theorem d_T_weigh_34 : decode b_T_weigh 34 = .ok (.lmul, 1) := by decide +kernel
theorem d_T_weigh_35 : decode b_T_weigh 35 = .ok (.ladd, 1) := by decide +kernel
theorem d_T_weigh_36 : decode b_T_weigh 36 = .ok (.lstore 4, 2) := by decide +kernel
theorem d_T_weigh_38 : decode b_T_weigh 38 = .ok (.lload 6, 2) := by decide +kernel
theorem d_T_weigh_40 : decode b_T_weigh 40 = .ok (.lload 9, 2) := by decide +kernel
theorem d_T_weigh_42 : decode b_T_weigh 42 = .ok (.ladd, 1) := by decide +kernel
theorem d_T_weigh_43 : decode b_T_weigh 43 = .ok (.lstore 6, 2) := by decide +kernel
theorem d_T_weigh_45 : decode b_T_weigh 45 = .ok (.iinc 8 (1), 3) := by decide +kernel
theorem d_T_weigh_48 : decode b_T_weigh 48 = .ok (.goto (-39), 3) := by decide +kernel
theorem d_T_weigh_51 : decode b_T_weigh 51 = .ok (.lload 4, 2) := by decide +kernel
theorem d_T_weigh_53 : decode b_T_weigh 53 = .ok (.lload 6, 2) := by decide +kernel
theorem d_T_weigh_55 : decode b_T_weigh 55 = .ok (.invokestatic 74, 3) := by decide +kernel
theorem d_T_weigh_58 : decode b_T_weigh 58 = .ok (.lreturn, 1) := by decide +kernel
theorem d_T_textureU_0 : decode b_T_textureU 0 = .ok (.aload_n 0, 1) := by decide +kernel
theorem d_T_textureU_1 : decode b_T_textureU 1 = .ok (.aload_n 0, 1) := by decide +kernel
theorem d_T_textureU_2 : decode b_T_textureU 2 = .ok (.getfield 15, 3) := by decide +kernel
theorem d_T_textureU_5 : decode b_T_textureU 5 = .ok (.iload_n 1, 1) := by decide +kernel
theorem d_T_textureU_6 : decode b_T_textureU 6 = .ok (.iload_n 2, 1) := by decide +kernel
theorem d_T_textureU_7 : decode b_T_textureU 7 = .ok (.invokevirtual 70, 3) := by decide +kernel
theorem d_T_textureU_10 : decode b_T_textureU 10 = .ok (.lreturn, 1) := by decide +kernel
theorem d_T_textureV_0 : decode b_T_textureV 0 = .ok (.aload_n 0, 1) := by decide +kernel
theorem d_T_textureV_1 : decode b_T_textureV 1 = .ok (.aload_n 0, 1) := by decide +kernel
theorem d_T_textureV_2 : decode b_T_textureV 2 = .ok (.getfield 19, 3) := by decide +kernel
theorem d_T_textureV_5 : decode b_T_textureV 5 = .ok (.iload_n 1, 1) := by decide +kernel
theorem d_T_textureV_6 : decode b_T_textureV 6 = .ok (.iload_n 2, 1) := by decide +kernel
theorem d_T_textureV_7 : decode b_T_textureV 7 = .ok (.invokevirtual 70, 3) := by decide +kernel
theorem d_T_textureV_10 : decode b_T_textureV 10 = .ok (.lreturn, 1) := by decide +kernel
theorem d_T_numberAt_0 : decode b_T_numberAt 0 = .ok (.aload_n 0, 1) := by decide +kernel
theorem d_T_numberAt_1 : decode b_T_numberAt 1 = .ok (.getfield 11, 3) := by decide +kernel
theorem d_T_numberAt_4 : decode b_T_numberAt 4 = .ok (.iload_n 1, 1) := by decide +kernel
theorem d_T_numberAt_5 : decode b_T_numberAt 5 = .ok (.laload, 1) := by decide +kernel
theorem d_T_numberAt_6 : decode b_T_numberAt 6 = .ok (.lreturn, 1) := by decide +kernel
def fn_T_setPlace (μ0 : xs_M) (k : Nat) (x0 : Int32) (x1 : Int32) (x2 : Int32) (x3 : Int32) : Option xs_M :=
  (if xs_in ((x0 * (4 : Int32)) + (1 : Int32)) 13 = true then ((some (xs_sl μ0 (14 + 7 * k + 1) ((x0 * (4 : Int32)) + (1 : Int32)).toNatClampNeg (x1).toInt64)).bind fun μ2 => (if xs_in ((x0 * (4 : Int32)) + (2 : Int32)) 13 = true then ((some (xs_sl μ2 (14 + 7 * k + 1) ((x0 * (4 : Int32)) + (2 : Int32)).toNatClampNeg (x2).toInt64)).bind fun μ4 => (if xs_in ((x0 * (4 : Int32)) + (3 : Int32)) 13 = true then ((some (xs_sl μ4 (14 + 7 * k + 1) ((x0 * (4 : Int32)) + (3 : Int32)).toNatClampNeg (x3).toInt64)).bind fun μ6 => some (μ6)) else none)) else none)) else none)
set_option maxHeartbeats 4000000 in
set_option maxRecDepth 100000 in
theorem ok_T_setPlace (l : Launch) (D : va_G) (ad : Nat → Nat) (cs : xs_cs) (hJ : xs_J ad) {μ0 : xs_M} {k : Nat} {x0 : Int32} {x1 : Int32} {x2 : Int32} {x3 : Int32} (hk : k < 20) {rz : xs_M} (hE : fn_T_setPlace μ0 k x0 x1 x2 x3 = some rz) : xs_I l D ad cs y_T_setPlace b_T_setPlace 5 none 0 0 [.ref (ad (14 + 7 * k)), .int (x0), .int (x1), .int (x2), .int (x3)] μ0 none rz := by
  refine xs_entry hJ (by decide) (Nat.le_of_ble_eq_true rfl) ?_
  intro p e s m below meth c ls X hr hlk G hl
  have X : xs_C p s m c b_T_setPlace 5 _ "ExactScene$Triangle" := X
  have hx := X.1
  have hb := X.2.1
  have hl : lv_has ls 5 [(0, .ref (ad (14 + 7 * k))), (1, .int (x0)), (2, .int (x1)), (3, .int (x2)), (4, .int (x3))] := hl
  unfold fn_T_setPlace at hE
  refine lv_aload_n (pc := 0) hx hb d_T_setPlace_0 rfl (lv_at hl 0 rfl) ?_
  refine gf_T_11 (pc := 1) X G hk d_T_setPlace_1 ?_
  refine lv_iload_n (pc := 4) hx hb d_T_setPlace_4 rfl (lv_at hl 1 rfl) ?_
  refine lv_iconst (pc := 5) (v := (4 : Int32)) hx hb d_T_setPlace_5 (by decide) ?_
  refine lv_imul (pc := 6) hx hb d_T_setPlace_6 ?_
  refine lv_iconst (pc := 7) (v := (1 : Int32)) hx hb d_T_setPlace_7 (by decide) ?_
  refine lv_iadd (pc := 8) hx hb d_T_setPlace_8 ?_
  refine lv_iload_n (pc := 9) hx hb d_T_setPlace_9 rfl (lv_at hl 2 rfl) ?_
  refine lv_i2l (pc := 10) hx hb d_T_setPlace_10 rfl ?_
  obtain ⟨hi1, hE⟩ := xs_n hE
  refine xs_last (pc := 11) hx hb G (la_T1 hk) (xs_inP hi1) d_T_setPlace_11 (fun H locs G => ?_)
  obtain ⟨μ2, hμ2, hE⟩ := xs_b hE
  have G := xs_mv G hμ2
  clear hμ2
  refine lv_aload_n (pc := 12) hx hb d_T_setPlace_12 rfl (lv_at hl 0 rfl) ?_
  refine gf_T_11 (pc := 13) X G hk d_T_setPlace_13 ?_
  refine lv_iload_n (pc := 16) hx hb d_T_setPlace_16 rfl (lv_at hl 1 rfl) ?_
  refine lv_iconst (pc := 17) (v := (4 : Int32)) hx hb d_T_setPlace_17 (by decide) ?_
  refine lv_imul (pc := 18) hx hb d_T_setPlace_18 ?_
  refine lv_iconst (pc := 19) (v := (2 : Int32)) hx hb d_T_setPlace_19 (by decide) ?_
  refine lv_iadd (pc := 20) hx hb d_T_setPlace_20 ?_
  refine lv_iload_n (pc := 21) hx hb d_T_setPlace_21 rfl (lv_at hl 3 rfl) ?_
  refine lv_i2l (pc := 22) hx hb d_T_setPlace_22 rfl ?_
  obtain ⟨hi3, hE⟩ := xs_n hE
  refine xs_last (pc := 23) hx hb G (la_T1 hk) (xs_inP hi3) d_T_setPlace_23 (fun H locs G => ?_)
  obtain ⟨μ4, hμ4, hE⟩ := xs_b hE
  have G := xs_mv G hμ4
  clear hμ4
  refine lv_aload_n (pc := 24) hx hb d_T_setPlace_24 rfl (lv_at hl 0 rfl) ?_
  refine gf_T_11 (pc := 25) X G hk d_T_setPlace_25 ?_
  refine lv_iload_n (pc := 28) hx hb d_T_setPlace_28 rfl (lv_at hl 1 rfl) ?_
  refine lv_iconst (pc := 29) (v := (4 : Int32)) hx hb d_T_setPlace_29 (by decide) ?_
  refine lv_imul (pc := 30) hx hb d_T_setPlace_30 ?_
  refine lv_iconst (pc := 31) (v := (3 : Int32)) hx hb d_T_setPlace_31 (by decide) ?_
  refine lv_iadd (pc := 32) hx hb d_T_setPlace_32 ?_
  refine lv_iload (pc := 33) hx hb d_T_setPlace_33 (lv_at hl 4 rfl) ?_
  refine lv_i2l (pc := 35) hx hb d_T_setPlace_35 rfl ?_
  obtain ⟨hi5, hE⟩ := xs_n hE
  refine xs_last (pc := 36) hx hb G (la_T1 hk) (xs_inP hi5) d_T_setPlace_36 (fun H locs G => ?_)
  obtain ⟨μ6, hμ6, hE⟩ := xs_b hE
  have G := xs_mv G hμ6
  clear hμ6
  cases hE
  exact xs_vret (pc := 37) hx hb hr hlk G d_T_setPlace_37
def fn_T_setRest (μ0 : xs_M) (k : Nat) (x0 : Int32) (x1 : Int32) (x2 : Int32) (x3 : Int32) : Option xs_M :=
  (if xs_in ((x0 * (4 : Int32)) + (4 : Int32)) 13 = true then ((some (xs_sl μ0 (14 + 7 * k + 1) ((x0 * (4 : Int32)) + (4 : Int32)).toNatClampNeg (x1).toInt64)).bind fun μ2 => (if xs_in x0 3 = true then ((some (xs_si μ2 (14 + 7 * k + 2) x0.toNatClampNeg (x2))).bind fun μ4 => (if xs_in x0 3 = true then ((some (xs_si μ4 (14 + 7 * k + 3) x0.toNatClampNeg (x3))).bind fun μ6 => some (μ6)) else none)) else none)) else none)
set_option maxHeartbeats 4000000 in
set_option maxRecDepth 100000 in
theorem ok_T_setRest (l : Launch) (D : va_G) (ad : Nat → Nat) (cs : xs_cs) (hJ : xs_J ad) {μ0 : xs_M} {k : Nat} {x0 : Int32} {x1 : Int32} {x2 : Int32} {x3 : Int32} (hk : k < 20) {rz : xs_M} (hE : fn_T_setRest μ0 k x0 x1 x2 x3 = some rz) : xs_I l D ad cs y_T_setRest b_T_setRest 5 none 0 0 [.ref (ad (14 + 7 * k)), .int (x0), .int (x1), .int (x2), .int (x3)] μ0 none rz := by
  refine xs_entry hJ (by decide) (Nat.le_of_ble_eq_true rfl) ?_
  intro p e s m below meth c ls X hr hlk G hl
  have X : xs_C p s m c b_T_setRest 5 _ "ExactScene$Triangle" := X
  have hx := X.1
  have hb := X.2.1
  have hl : lv_has ls 5 [(0, .ref (ad (14 + 7 * k))), (1, .int (x0)), (2, .int (x1)), (3, .int (x2)), (4, .int (x3))] := hl
  unfold fn_T_setRest at hE
  refine lv_aload_n (pc := 0) hx hb d_T_setRest_0 rfl (lv_at hl 0 rfl) ?_
  refine gf_T_11 (pc := 1) X G hk d_T_setRest_1 ?_
  refine lv_iload_n (pc := 4) hx hb d_T_setRest_4 rfl (lv_at hl 1 rfl) ?_
  refine lv_iconst (pc := 5) (v := (4 : Int32)) hx hb d_T_setRest_5 (by decide) ?_
  refine lv_imul (pc := 6) hx hb d_T_setRest_6 ?_
  refine lv_iconst (pc := 7) (v := (4 : Int32)) hx hb d_T_setRest_7 (by decide) ?_
  refine lv_iadd (pc := 8) hx hb d_T_setRest_8 ?_
  refine lv_iload_n (pc := 9) hx hb d_T_setRest_9 rfl (lv_at hl 2 rfl) ?_
  refine lv_i2l (pc := 10) hx hb d_T_setRest_10 rfl ?_
  obtain ⟨hi1, hE⟩ := xs_n hE
  refine xs_last (pc := 11) hx hb G (la_T1 hk) (xs_inP hi1) d_T_setRest_11 (fun H locs G => ?_)
  obtain ⟨μ2, hμ2, hE⟩ := xs_b hE
  have G := xs_mv G hμ2
  clear hμ2
  refine lv_aload_n (pc := 12) hx hb d_T_setRest_12 rfl (lv_at hl 0 rfl) ?_
  refine gf_T_15 (pc := 13) X G hk d_T_setRest_13 ?_
  refine lv_iload_n (pc := 16) hx hb d_T_setRest_16 rfl (lv_at hl 1 rfl) ?_
  refine lv_iload_n (pc := 17) hx hb d_T_setRest_17 rfl (lv_at hl 3 rfl) ?_
  obtain ⟨hi3, hE⟩ := xs_n hE
  refine xs_iast (pc := 18) hx hb G (ia_T2 hk) (xs_inP hi3) d_T_setRest_18 (fun H locs G => ?_)
  obtain ⟨μ4, hμ4, hE⟩ := xs_b hE
  have G := xs_mv G hμ4
  clear hμ4
  refine lv_aload_n (pc := 19) hx hb d_T_setRest_19 rfl (lv_at hl 0 rfl) ?_
  refine gf_T_19 (pc := 20) X G hk d_T_setRest_20 ?_
  refine lv_iload_n (pc := 23) hx hb d_T_setRest_23 rfl (lv_at hl 1 rfl) ?_
  refine lv_iload (pc := 24) hx hb d_T_setRest_24 (lv_at hl 4 rfl) ?_
  obtain ⟨hi5, hE⟩ := xs_n hE
  refine xs_iast (pc := 26) hx hb G (ia_T3 hk) (xs_inP hi5) d_T_setRest_26 (fun H locs G => ?_)
  obtain ⟨μ6, hμ6, hE⟩ := xs_b hE
  have G := xs_mv G hμ6
  clear hμ6
  cases hE
  exact xs_vret (pc := 27) hx hb hr hlk G d_T_setRest_27
def fn_T_placeQ (μ0 : xs_M) (k : Nat) (x0 : Int32) : Option Int64 :=
  (if xs_in ((x0 * (4 : Int32)) + (2 : Int32)) 13 = true then some ((μ0.2 (14 + 7 * k + 1) ((x0 * (4 : Int32)) + (2 : Int32)).toNatClampNeg)) else none)
set_option maxHeartbeats 4000000 in
set_option maxRecDepth 100000 in
theorem ok_T_placeQ (l : Launch) (D : va_G) (ad : Nat → Nat) (cs : xs_cs) (hJ : xs_J ad) {μ0 : xs_M} {k : Nat} {x0 : Int32} (hk : k < 20) {rz : Int64} (hE : fn_T_placeQ μ0 k x0 = some rz) : xs_I l D ad cs y_T_placeQ b_T_placeQ 2 (some .long) 0 0 [.ref (ad (14 + 7 * k)), .int (x0)] μ0 (some (.long rz)) μ0 := by
  refine xs_entry hJ (by decide) (Nat.le_of_ble_eq_true rfl) ?_
  intro p e s m below meth c ls X hr hlk G hl
  have X : xs_C p s m c b_T_placeQ 2 _ "ExactScene$Triangle" := X
  have hx := X.1
  have hb := X.2.1
  have hl : lv_has ls 2 [(0, .ref (ad (14 + 7 * k))), (1, .int (x0))] := hl
  unfold fn_T_placeQ at hE
  refine lv_aload_n (pc := 0) hx hb d_T_placeQ_0 rfl (lv_at hl 0 rfl) ?_
  refine gf_T_11 (pc := 1) X G hk d_T_placeQ_1 ?_
  refine lv_iload_n (pc := 4) hx hb d_T_placeQ_4 rfl (lv_at hl 1 rfl) ?_
  refine lv_iconst (pc := 5) (v := (4 : Int32)) hx hb d_T_placeQ_5 (by decide) ?_
  refine lv_imul (pc := 6) hx hb d_T_placeQ_6 ?_
  refine lv_iconst (pc := 7) (v := (2 : Int32)) hx hb d_T_placeQ_7 (by decide) ?_
  refine lv_iadd (pc := 8) hx hb d_T_placeQ_8 ?_
  obtain ⟨hi1, hE⟩ := xs_n hE
  refine xs_lald (pc := 9) hx hb G (la_T1 hk) (xs_inP hi1) d_T_placeQ_9 ?_
  cases hE
  exact xs_lret (pc := 10) hx hb hr hlk G d_T_placeQ_10
def fn_T_placeW (μ0 : xs_M) (k : Nat) (x0 : Int32) : Option Int64 :=
  (if xs_in ((x0 * (4 : Int32)) + (3 : Int32)) 13 = true then some ((μ0.2 (14 + 7 * k + 1) ((x0 * (4 : Int32)) + (3 : Int32)).toNatClampNeg)) else none)
set_option maxHeartbeats 4000000 in
set_option maxRecDepth 100000 in
theorem ok_T_placeW (l : Launch) (D : va_G) (ad : Nat → Nat) (cs : xs_cs) (hJ : xs_J ad) {μ0 : xs_M} {k : Nat} {x0 : Int32} (hk : k < 20) {rz : Int64} (hE : fn_T_placeW μ0 k x0 = some rz) : xs_I l D ad cs y_T_placeW b_T_placeW 2 (some .long) 0 0 [.ref (ad (14 + 7 * k)), .int (x0)] μ0 (some (.long rz)) μ0 := by
  refine xs_entry hJ (by decide) (Nat.le_of_ble_eq_true rfl) ?_
  intro p e s m below meth c ls X hr hlk G hl
  have X : xs_C p s m c b_T_placeW 2 _ "ExactScene$Triangle" := X
  have hx := X.1
  have hb := X.2.1
  have hl : lv_has ls 2 [(0, .ref (ad (14 + 7 * k))), (1, .int (x0))] := hl
  unfold fn_T_placeW at hE
  refine lv_aload_n (pc := 0) hx hb d_T_placeW_0 rfl (lv_at hl 0 rfl) ?_
  refine gf_T_11 (pc := 1) X G hk d_T_placeW_1 ?_
  refine lv_iload_n (pc := 4) hx hb d_T_placeW_4 rfl (lv_at hl 1 rfl) ?_
  refine lv_iconst (pc := 5) (v := (4 : Int32)) hx hb d_T_placeW_5 (by decide) ?_
  refine lv_imul (pc := 6) hx hb d_T_placeW_6 ?_
  refine lv_iconst (pc := 7) (v := (3 : Int32)) hx hb d_T_placeW_7 (by decide) ?_
  refine lv_iadd (pc := 8) hx hb d_T_placeW_8 ?_
  obtain ⟨hi1, hE⟩ := xs_n hE
  refine xs_lald (pc := 9) hx hb G (la_T1 hk) (xs_inP hi1) d_T_placeW_9 ?_
  cases hE
  exact xs_lret (pc := 10) hx hb hr hlk G d_T_placeW_10
def fn_T_placeP (μ0 : xs_M) (k : Nat) (x0 : Int32) : Option Int64 :=
  (if xs_in ((x0 * (4 : Int32)) + (1 : Int32)) 13 = true then some ((μ0.2 (14 + 7 * k + 1) ((x0 * (4 : Int32)) + (1 : Int32)).toNatClampNeg)) else none)
set_option maxHeartbeats 4000000 in
set_option maxRecDepth 100000 in
theorem ok_T_placeP (l : Launch) (D : va_G) (ad : Nat → Nat) (cs : xs_cs) (hJ : xs_J ad) {μ0 : xs_M} {k : Nat} {x0 : Int32} (hk : k < 20) {rz : Int64} (hE : fn_T_placeP μ0 k x0 = some rz) : xs_I l D ad cs y_T_placeP b_T_placeP 2 (some .long) 0 0 [.ref (ad (14 + 7 * k)), .int (x0)] μ0 (some (.long rz)) μ0 := by
  refine xs_entry hJ (by decide) (Nat.le_of_ble_eq_true rfl) ?_
  intro p e s m below meth c ls X hr hlk G hl
  have X : xs_C p s m c b_T_placeP 2 _ "ExactScene$Triangle" := X
  have hx := X.1
  have hb := X.2.1
  have hl : lv_has ls 2 [(0, .ref (ad (14 + 7 * k))), (1, .int (x0))] := hl
  unfold fn_T_placeP at hE
  refine lv_aload_n (pc := 0) hx hb d_T_placeP_0 rfl (lv_at hl 0 rfl) ?_
  refine gf_T_11 (pc := 1) X G hk d_T_placeP_1 ?_
  refine lv_iload_n (pc := 4) hx hb d_T_placeP_4 rfl (lv_at hl 1 rfl) ?_
  refine lv_iconst (pc := 5) (v := (4 : Int32)) hx hb d_T_placeP_5 (by decide) ?_
  refine lv_imul (pc := 6) hx hb d_T_placeP_6 ?_
  refine lv_iconst (pc := 7) (v := (1 : Int32)) hx hb d_T_placeP_7 (by decide) ?_
  refine lv_iadd (pc := 8) hx hb d_T_placeP_8 ?_
  obtain ⟨hi1, hE⟩ := xs_n hE
  refine xs_lald (pc := 9) hx hb G (la_T1 hk) (xs_inP hi1) d_T_placeP_9 ?_
  cases hE
  exact xs_lret (pc := 10) hx hb hr hlk G d_T_placeP_10
def fn_T_setEdge (μ0 : xs_M) (k : Nat) (x0 : Int32) (x1 : Int32) (x2 : Int32) : Option xs_M :=
  ((fn_T_placeQ μ0 k x1).bind fun w1 => ((fn_T_placeW μ0 k x2).bind fun w2 => ((fn_T_placeW μ0 k x1).bind fun w3 => ((fn_T_placeQ μ0 k x2).bind fun w4 => (if xs_in x0 3 = true then ((some (xs_sl μ0 (14 + 7 * k + 4) x0.toNatClampNeg ((w1 * w2) - (w3 * w4)))).bind fun μ6 => ((fn_T_placeW μ6 k x1).bind fun w7 => ((fn_T_placeP μ6 k x2).bind fun w8 => ((fn_T_placeP μ6 k x1).bind fun w9 => ((fn_T_placeW μ6 k x2).bind fun w10 => (if xs_in x0 3 = true then ((some (xs_sl μ6 (14 + 7 * k + 5) x0.toNatClampNeg ((w7 * w8) - (w9 * w10)))).bind fun μ12 => ((fn_T_placeP μ12 k x1).bind fun w13 => ((fn_T_placeQ μ12 k x2).bind fun w14 => ((fn_T_placeQ μ12 k x1).bind fun w15 => ((fn_T_placeP μ12 k x2).bind fun w16 => (if xs_in x0 3 = true then ((some (xs_sl μ12 (14 + 7 * k + 6) x0.toNatClampNeg ((w13 * w14) - (w15 * w16)))).bind fun μ18 => some (μ18)) else none)))))) else none)))))) else none)))))
set_option maxHeartbeats 4000000 in
set_option maxRecDepth 100000 in
theorem ok_T_setEdge (l : Launch) (D : va_G) (ad : Nat → Nat) (cs : xs_cs) (hJ : xs_J ad) {μ0 : xs_M} {k : Nat} {x0 : Int32} {x1 : Int32} {x2 : Int32} (hk : k < 20) {rz : xs_M} (hE : fn_T_setEdge μ0 k x0 x1 x2 = some rz) : xs_I l D ad cs y_T_setEdge b_T_setEdge 4 none 1 21 [.ref (ad (14 + 7 * k)), .int (x0), .int (x1), .int (x2)] μ0 none rz := by
  refine xs_entry hJ (by decide) (Nat.le_of_ble_eq_true rfl) ?_
  intro p e s m below meth c ls X hr hlk G hl
  have X : xs_C p s m c b_T_setEdge 4 _ "ExactScene$Triangle" := X
  have hx := X.1
  have hb := X.2.1
  have hl : lv_has ls 4 [(0, .ref (ad (14 + 7 * k))), (1, .int (x0)), (2, .int (x1)), (3, .int (x2))] := hl
  unfold fn_T_setEdge at hE
  refine lv_aload_n (pc := 0) hx hb d_T_setEdge_0 rfl (lv_at hl 0 rfl) ?_
  refine gf_T_22 (pc := 1) X G hk d_T_setEdge_1 ?_
  refine lv_iload_n (pc := 4) hx hb d_T_setEdge_4 rfl (lv_at hl 1 rfl) ?_
  refine lv_aload_n (pc := 5) hx hb d_T_setEdge_5 rfl (lv_at hl 0 rfl) ?_
  refine lv_iload_n (pc := 6) hx hb d_T_setEdge_6 rfl (lv_at hl 2 rfl) ?_
  obtain ⟨w1, hw1, hE⟩ := xs_b hE
  refine xs_callVr (pc := 7) (as := [.int (x1)]) X (ok_T_placeQ l D ad cs hJ hk hw1) km_T_49 G (xs_wT ad cs _ hk) rfl ⟨by decide, by decide⟩ ⟨Nat.zero_le _, Nat.zero_le _⟩ rfl hl.1 rfl (Nat.le_of_ble_eq_true rfl) d_T_setEdge_7 (fun H locs G => ?_)
  refine lv_aload_n (pc := 10) hx hb d_T_setEdge_10 rfl (lv_at hl 0 rfl) ?_
  refine lv_iload_n (pc := 11) hx hb d_T_setEdge_11 rfl (lv_at hl 3 rfl) ?_
  obtain ⟨w2, hw2, hE⟩ := xs_b hE
  refine xs_callVr (pc := 12) (as := [.int (x2)]) X (ok_T_placeW l D ad cs hJ hk hw2) km_T_52 G (xs_wT ad cs _ hk) rfl ⟨by decide, by decide⟩ ⟨Nat.zero_le _, Nat.zero_le _⟩ rfl hl.1 rfl (Nat.le_of_ble_eq_true rfl) d_T_setEdge_12 (fun H locs G => ?_)
  refine lv_lmul (pc := 15) hx hb d_T_setEdge_15 ?_
  refine lv_aload_n (pc := 16) hx hb d_T_setEdge_16 rfl (lv_at hl 0 rfl) ?_
  refine lv_iload_n (pc := 17) hx hb d_T_setEdge_17 rfl (lv_at hl 2 rfl) ?_
  obtain ⟨w3, hw3, hE⟩ := xs_b hE
  refine xs_callVr (pc := 18) (as := [.int (x1)]) X (ok_T_placeW l D ad cs hJ hk hw3) km_T_52 G (xs_wT ad cs _ hk) rfl ⟨by decide, by decide⟩ ⟨Nat.zero_le _, Nat.zero_le _⟩ rfl hl.1 rfl (Nat.le_of_ble_eq_true rfl) d_T_setEdge_18 (fun H locs G => ?_)
  refine lv_aload_n (pc := 21) hx hb d_T_setEdge_21 rfl (lv_at hl 0 rfl) ?_
  refine lv_iload_n (pc := 22) hx hb d_T_setEdge_22 rfl (lv_at hl 3 rfl) ?_
  obtain ⟨w4, hw4, hE⟩ := xs_b hE
  refine xs_callVr (pc := 23) (as := [.int (x2)]) X (ok_T_placeQ l D ad cs hJ hk hw4) km_T_49 G (xs_wT ad cs _ hk) rfl ⟨by decide, by decide⟩ ⟨Nat.zero_le _, Nat.zero_le _⟩ rfl hl.1 rfl (Nat.le_of_ble_eq_true rfl) d_T_setEdge_23 (fun H locs G => ?_)
  refine lv_lmul (pc := 26) hx hb d_T_setEdge_26 ?_
  refine lv_lsub (pc := 27) hx hb d_T_setEdge_27 ?_
  obtain ⟨hi5, hE⟩ := xs_n hE
  refine xs_last (pc := 28) hx hb G (la_T4 hk) (xs_inP hi5) d_T_setEdge_28 (fun H locs G => ?_)
  obtain ⟨μ6, hμ6, hE⟩ := xs_b hE
  have G := xs_mv G hμ6
  clear hμ6
  refine lv_aload_n (pc := 29) hx hb d_T_setEdge_29 rfl (lv_at hl 0 rfl) ?_
  refine gf_T_25 (pc := 30) X G hk d_T_setEdge_30 ?_
  refine lv_iload_n (pc := 33) hx hb d_T_setEdge_33 rfl (lv_at hl 1 rfl) ?_
  refine lv_aload_n (pc := 34) hx hb d_T_setEdge_34 rfl (lv_at hl 0 rfl) ?_
  refine lv_iload_n (pc := 35) hx hb d_T_setEdge_35 rfl (lv_at hl 2 rfl) ?_
  obtain ⟨w7, hw7, hE⟩ := xs_b hE
  refine xs_callVr (pc := 36) (as := [.int (x1)]) X (ok_T_placeW l D ad cs hJ hk hw7) km_T_52 G (xs_wT ad cs _ hk) rfl ⟨by decide, by decide⟩ ⟨Nat.zero_le _, Nat.zero_le _⟩ rfl hl.1 rfl (Nat.le_of_ble_eq_true rfl) d_T_setEdge_36 (fun H locs G => ?_)
  refine lv_aload_n (pc := 39) hx hb d_T_setEdge_39 rfl (lv_at hl 0 rfl) ?_
  refine lv_iload_n (pc := 40) hx hb d_T_setEdge_40 rfl (lv_at hl 3 rfl) ?_
  obtain ⟨w8, hw8, hE⟩ := xs_b hE
  refine xs_callVr (pc := 41) (as := [.int (x2)]) X (ok_T_placeP l D ad cs hJ hk hw8) km_T_45 G (xs_wT ad cs _ hk) rfl ⟨by decide, by decide⟩ ⟨Nat.zero_le _, Nat.zero_le _⟩ rfl hl.1 rfl (Nat.le_of_ble_eq_true rfl) d_T_setEdge_41 (fun H locs G => ?_)
  refine lv_lmul (pc := 44) hx hb d_T_setEdge_44 ?_
  refine lv_aload_n (pc := 45) hx hb d_T_setEdge_45 rfl (lv_at hl 0 rfl) ?_
  refine lv_iload_n (pc := 46) hx hb d_T_setEdge_46 rfl (lv_at hl 2 rfl) ?_
  obtain ⟨w9, hw9, hE⟩ := xs_b hE
  refine xs_callVr (pc := 47) (as := [.int (x1)]) X (ok_T_placeP l D ad cs hJ hk hw9) km_T_45 G (xs_wT ad cs _ hk) rfl ⟨by decide, by decide⟩ ⟨Nat.zero_le _, Nat.zero_le _⟩ rfl hl.1 rfl (Nat.le_of_ble_eq_true rfl) d_T_setEdge_47 (fun H locs G => ?_)
  refine lv_aload_n (pc := 50) hx hb d_T_setEdge_50 rfl (lv_at hl 0 rfl) ?_
  refine lv_iload_n (pc := 51) hx hb d_T_setEdge_51 rfl (lv_at hl 3 rfl) ?_
  obtain ⟨w10, hw10, hE⟩ := xs_b hE
  refine xs_callVr (pc := 52) (as := [.int (x2)]) X (ok_T_placeW l D ad cs hJ hk hw10) km_T_52 G (xs_wT ad cs _ hk) rfl ⟨by decide, by decide⟩ ⟨Nat.zero_le _, Nat.zero_le _⟩ rfl hl.1 rfl (Nat.le_of_ble_eq_true rfl) d_T_setEdge_52 (fun H locs G => ?_)
  refine lv_lmul (pc := 55) hx hb d_T_setEdge_55 ?_
  refine lv_lsub (pc := 56) hx hb d_T_setEdge_56 ?_
  obtain ⟨hi11, hE⟩ := xs_n hE
  refine xs_last (pc := 57) hx hb G (la_T5 hk) (xs_inP hi11) d_T_setEdge_57 (fun H locs G => ?_)
  obtain ⟨μ12, hμ12, hE⟩ := xs_b hE
  have G := xs_mv G hμ12
  clear hμ12
  refine lv_aload_n (pc := 58) hx hb d_T_setEdge_58 rfl (lv_at hl 0 rfl) ?_
  refine gf_T_28 (pc := 59) X G hk d_T_setEdge_59 ?_
  refine lv_iload_n (pc := 62) hx hb d_T_setEdge_62 rfl (lv_at hl 1 rfl) ?_
  refine lv_aload_n (pc := 63) hx hb d_T_setEdge_63 rfl (lv_at hl 0 rfl) ?_
  refine lv_iload_n (pc := 64) hx hb d_T_setEdge_64 rfl (lv_at hl 2 rfl) ?_
  obtain ⟨w13, hw13, hE⟩ := xs_b hE
  refine xs_callVr (pc := 65) (as := [.int (x1)]) X (ok_T_placeP l D ad cs hJ hk hw13) km_T_45 G (xs_wT ad cs _ hk) rfl ⟨by decide, by decide⟩ ⟨Nat.zero_le _, Nat.zero_le _⟩ rfl hl.1 rfl (Nat.le_of_ble_eq_true rfl) d_T_setEdge_65 (fun H locs G => ?_)
  refine lv_aload_n (pc := 68) hx hb d_T_setEdge_68 rfl (lv_at hl 0 rfl) ?_
  refine lv_iload_n (pc := 69) hx hb d_T_setEdge_69 rfl (lv_at hl 3 rfl) ?_
  obtain ⟨w14, hw14, hE⟩ := xs_b hE
  refine xs_callVr (pc := 70) (as := [.int (x2)]) X (ok_T_placeQ l D ad cs hJ hk hw14) km_T_49 G (xs_wT ad cs _ hk) rfl ⟨by decide, by decide⟩ ⟨Nat.zero_le _, Nat.zero_le _⟩ rfl hl.1 rfl (Nat.le_of_ble_eq_true rfl) d_T_setEdge_70 (fun H locs G => ?_)
  refine lv_lmul (pc := 73) hx hb d_T_setEdge_73 ?_
  refine lv_aload_n (pc := 74) hx hb d_T_setEdge_74 rfl (lv_at hl 0 rfl) ?_
  refine lv_iload_n (pc := 75) hx hb d_T_setEdge_75 rfl (lv_at hl 2 rfl) ?_
  obtain ⟨w15, hw15, hE⟩ := xs_b hE
  refine xs_callVr (pc := 76) (as := [.int (x1)]) X (ok_T_placeQ l D ad cs hJ hk hw15) km_T_49 G (xs_wT ad cs _ hk) rfl ⟨by decide, by decide⟩ ⟨Nat.zero_le _, Nat.zero_le _⟩ rfl hl.1 rfl (Nat.le_of_ble_eq_true rfl) d_T_setEdge_76 (fun H locs G => ?_)
  refine lv_aload_n (pc := 79) hx hb d_T_setEdge_79 rfl (lv_at hl 0 rfl) ?_
  refine lv_iload_n (pc := 80) hx hb d_T_setEdge_80 rfl (lv_at hl 3 rfl) ?_
  obtain ⟨w16, hw16, hE⟩ := xs_b hE
  refine xs_callVr (pc := 81) (as := [.int (x2)]) X (ok_T_placeP l D ad cs hJ hk hw16) km_T_45 G (xs_wT ad cs _ hk) rfl ⟨by decide, by decide⟩ ⟨Nat.zero_le _, Nat.zero_le _⟩ rfl hl.1 rfl (Nat.le_of_ble_eq_true rfl) d_T_setEdge_81 (fun H locs G => ?_)
  refine lv_lmul (pc := 84) hx hb d_T_setEdge_84 ?_
  refine lv_lsub (pc := 85) hx hb d_T_setEdge_85 ?_
  obtain ⟨hi17, hE⟩ := xs_n hE
  refine xs_last (pc := 86) hx hb G (la_T6 hk) (xs_inP hi17) d_T_setEdge_86 (fun H locs G => ?_)
  obtain ⟨μ18, hμ18, hE⟩ := xs_b hE
  have G := xs_mv G hμ18
  clear hμ18
  cases hE
  exact xs_vret (pc := 87) hx hb hr hlk G d_T_setEdge_87
def fn_T_turnToNegatives_L11 : Nat → xs_M → Nat → Int32 →  Option (Int32 × xs_M)
  | 0, _, _, _ => none
  | fu + 1, μ, k, v1 => (if (3 : Int32) ≤ v1 then some ((v1, μ)) else (if xs_in v1 3 = true then (if xs_in v1 3 = true then ((some (xs_sl μ (14 + 7 * k + 4) v1.toNatClampNeg (-(μ.2 (14 + 7 * k + 4) v1.toNatClampNeg)))).bind fun μ4 => (if xs_in v1 3 = true then (if xs_in v1 3 = true then ((some (xs_sl μ4 (14 + 7 * k + 5) v1.toNatClampNeg (-(μ4.2 (14 + 7 * k + 5) v1.toNatClampNeg)))).bind fun μ7 => (if xs_in v1 3 = true then (if xs_in v1 3 = true then ((some (xs_sl μ7 (14 + 7 * k + 6) v1.toNatClampNeg (-(μ7.2 (14 + 7 * k + 6) v1.toNatClampNeg)))).bind fun μ10 => fn_T_turnToNegatives_L11 fu μ10 k (v1 + 1)) else none) else none)) else none) else none)) else none) else none))
def fn_T_turnToNegatives (μ0 : xs_M) (k : Nat) : Option xs_M :=
  ((some (xs_sl μ0 (14 + 7 * k) 6 (-(μ0.2 (14 + 7 * k) 6)))).bind fun μ1 => ((fn_T_turnToNegatives_L11 xs_FU μ1 k (0 : Int32)).bind fun z11 => some (z11.2)))
set_option maxHeartbeats 4000000 in
set_option maxRecDepth 100000 in
theorem ok_T_turnToNegatives (l : Launch) (D : va_G) (ad : Nat → Nat) (cs : xs_cs) (hJ : xs_J ad) {μ0 : xs_M} {k : Nat} (hk : k < 20) {rz : xs_M} (hE : fn_T_turnToNegatives μ0 k = some rz) : xs_I l D ad cs y_T_turnToNegatives b_T_turnToNegatives 2 none 0 0 [.ref (ad (14 + 7 * k))] μ0 none rz := by
  refine xs_entry hJ (by decide) (Nat.le_of_ble_eq_true rfl) ?_
  intro p e s m below meth c ls X hr hlk G hl
  have X : xs_C p s m c b_T_turnToNegatives 2 _ "ExactScene$Triangle" := X
  have hx := X.1
  have hb := X.2.1
  have hl : lv_has ls 2 [(0, .ref (ad (14 + 7 * k)))] := hl
  have L11 : ∀ (fu : Nat) (μ : xs_M) (v1 : Int32) (H : Heap) (locs : List Loc) (ls : Array Slot) (z : (Int32 × xs_M)), fn_T_turnToNegatives_L11 fu μ k v1 = some z → xs_G D ad cs s (xs_A ad s.heap.size) s.heap μ H locs → lv_has ls 2 [(0, .ref (ad (14 + 7 * k))), (1, .int (v1))] → (∀ (H : Heap) (locs : List Loc) (ls : Array Slot), xs_G D ad cs s (xs_A ad s.heap.size) s.heap z.2 H locs → lv_has ls 2 [(0, .ref (ad (14 + 7 * k))), (1, .int (z.1))] → W p l e (xs_rm 0 0) s m ([.ref (ad (14 + 7 * k))] : List Value).toArray below meth c H locs 0 0 (xs_E below D ad cs [.ref (ad (14 + 7 * k))] s none rz) (F0 m 61 ls [])) → W p l e (xs_rm 0 0) s m ([.ref (ad (14 + 7 * k))] : List Value).toArray below meth c H locs 0 0 (xs_E below D ad cs [.ref (ad (14 + 7 * k))] s none rz) (F0 m 11 ls []) := by
    clear hE hl G
    intro fu
    induction fu with
    | zero =>
      intro μ v1 H locs ls z hE
      rw [fn_T_turnToNegatives_L11] at hE
      cases hE
    | succ fu ih =>
      intro μ v1 H locs ls z hE G hl kk
      rw [fn_T_turnToNegatives_L11] at hE
      refine lv_iload_n (pc := 11) hx hb d_T_turnToNegatives_11 rfl (lv_at hl 1 rfl) ?_
      refine lv_iconst (pc := 12) (v := (3 : Int32)) hx hb d_T_turnToNegatives_12 (by decide) ?_
      refine lv_icmp_ge (pc := 13) (tgt := 61) hx hb d_T_turnToNegatives_13 (by decide) (fun hc => ?_) (fun hc => ?_)
      · have hE := xs_t hE hc
        cases hE
        exact kk _ _ _ G (lv_sub hl [0, 1] rfl)
      · have hE := xs_f hE hc
        refine lv_aload_n (pc := 16) hx hb d_T_turnToNegatives_16 rfl (lv_at hl 0 rfl) ?_
        refine gf_T_22 (pc := 17) X G hk d_T_turnToNegatives_17 ?_
        refine lv_iload_n (pc := 20) hx hb d_T_turnToNegatives_20 rfl (lv_at hl 1 rfl) ?_
        refine lv_aload_n (pc := 21) hx hb d_T_turnToNegatives_21 rfl (lv_at hl 0 rfl) ?_
        refine gf_T_22 (pc := 22) X G hk d_T_turnToNegatives_22 ?_
        refine lv_iload_n (pc := 25) hx hb d_T_turnToNegatives_25 rfl (lv_at hl 1 rfl) ?_
        obtain ⟨hi2, hE⟩ := xs_n hE
        refine xs_lald (pc := 26) hx hb G (la_T4 hk) (xs_inP hi2) d_T_turnToNegatives_26 ?_
        refine lv_lneg (pc := 27) hx hb d_T_turnToNegatives_27 ?_
        obtain ⟨hi3, hE⟩ := xs_n hE
        refine xs_last (pc := 28) hx hb G (la_T4 hk) (xs_inP hi3) d_T_turnToNegatives_28 (fun H locs G => ?_)
        obtain ⟨μ4, hμ4, hE⟩ := xs_b hE
        have G := xs_mv G hμ4
        clear hμ4
        refine lv_aload_n (pc := 29) hx hb d_T_turnToNegatives_29 rfl (lv_at hl 0 rfl) ?_
        refine gf_T_25 (pc := 30) X G hk d_T_turnToNegatives_30 ?_
        refine lv_iload_n (pc := 33) hx hb d_T_turnToNegatives_33 rfl (lv_at hl 1 rfl) ?_
        refine lv_aload_n (pc := 34) hx hb d_T_turnToNegatives_34 rfl (lv_at hl 0 rfl) ?_
        refine gf_T_25 (pc := 35) X G hk d_T_turnToNegatives_35 ?_
        refine lv_iload_n (pc := 38) hx hb d_T_turnToNegatives_38 rfl (lv_at hl 1 rfl) ?_
        obtain ⟨hi5, hE⟩ := xs_n hE
        refine xs_lald (pc := 39) hx hb G (la_T5 hk) (xs_inP hi5) d_T_turnToNegatives_39 ?_
        refine lv_lneg (pc := 40) hx hb d_T_turnToNegatives_40 ?_
        obtain ⟨hi6, hE⟩ := xs_n hE
        refine xs_last (pc := 41) hx hb G (la_T5 hk) (xs_inP hi6) d_T_turnToNegatives_41 (fun H locs G => ?_)
        obtain ⟨μ7, hμ7, hE⟩ := xs_b hE
        have G := xs_mv G hμ7
        clear hμ7
        refine lv_aload_n (pc := 42) hx hb d_T_turnToNegatives_42 rfl (lv_at hl 0 rfl) ?_
        refine gf_T_28 (pc := 43) X G hk d_T_turnToNegatives_43 ?_
        refine lv_iload_n (pc := 46) hx hb d_T_turnToNegatives_46 rfl (lv_at hl 1 rfl) ?_
        refine lv_aload_n (pc := 47) hx hb d_T_turnToNegatives_47 rfl (lv_at hl 0 rfl) ?_
        refine gf_T_28 (pc := 48) X G hk d_T_turnToNegatives_48 ?_
        refine lv_iload_n (pc := 51) hx hb d_T_turnToNegatives_51 rfl (lv_at hl 1 rfl) ?_
        obtain ⟨hi8, hE⟩ := xs_n hE
        refine xs_lald (pc := 52) hx hb G (la_T6 hk) (xs_inP hi8) d_T_turnToNegatives_52 ?_
        refine lv_lneg (pc := 53) hx hb d_T_turnToNegatives_53 ?_
        obtain ⟨hi9, hE⟩ := xs_n hE
        refine xs_last (pc := 54) hx hb G (la_T6 hk) (xs_inP hi9) d_T_turnToNegatives_54 (fun H locs G => ?_)
        obtain ⟨μ10, hμ10, hE⟩ := xs_b hE
        have G := xs_mv G hμ10
        clear hμ10
        refine lv_iinc (pc := 55) (v := (v1 + 1)) (k := 1) hx hb d_T_turnToNegatives_55 hl rfl (xs_inc _) (by decide) (lv' := [(1, .int ((v1 + 1))), (0, .ref (ad (14 + 7 * k)))]) rfl (fun ls hl => ?_)
        refine lv_goto (pc := 58) (tgt := 11) hx hb d_T_turnToNegatives_58 (by decide) ?_
        exact ih _ _ _ _ _ _ hE G (lv_sub hl [1, 0] rfl) kk
  unfold fn_T_turnToNegatives at hE
  refine lv_aload_n (pc := 0) hx hb d_T_turnToNegatives_0 rfl (lv_at hl 0 rfl) ?_
  refine lv_aload_n (pc := 1) hx hb d_T_turnToNegatives_1 rfl (lv_at hl 0 rfl) ?_
  refine gf_T_55 (pc := 2) X G hk d_T_turnToNegatives_2 ?_
  refine lv_lneg (pc := 5) hx hb d_T_turnToNegatives_5 ?_
  refine pf_T_55 (pc := 6) X G hk d_T_turnToNegatives_6 (fun H locs G => ?_)
  obtain ⟨μ1, hμ1, hE⟩ := xs_b hE
  have G := xs_mv G hμ1
  clear hμ1
  refine lv_iconst (pc := 9) (v := (0 : Int32)) hx hb d_T_turnToNegatives_9 (by decide) ?_
  refine lv_istore_n (pc := 10) hx hb d_T_turnToNegatives_10 rfl hl (by decide) (lv' := [(1, .int ((0 : Int32))), (0, .ref (ad (14 + 7 * k)))]) rfl (fun ls hl => ?_)
  obtain ⟨z11, hz11, hE⟩ := xs_b hE
  refine L11 _ _ _ _ _ _ _ hz11 G (lv_sub hl [1, 0] rfl) (fun H locs ls G hl => ?_)
  cases hE
  exact xs_vret (pc := 61) hx hb hr hlk G d_T_turnToNegatives_61
def fn_T_complete_L18 : Nat → xs_M → Nat → Int32 → Int32 → Int32 → Int32 →  Option (Int32 × xs_M)
  | 0, _, _, _, _, _, _ => none
  | fu + 1, μ, k, v1, v2, v3, v4 => (if (3 : Int32) ≤ v4 then some ((v4, μ)) else ((fn_T_setEdge μ k v4 ((v4 + (1 : Int32)) - (v4 + (1 : Int32)) / (3 : Int32) * (3 : Int32)) ((v4 + (2 : Int32)) - (v4 + (2 : Int32)) / (3 : Int32) * (3 : Int32))).bind fun w4 => fn_T_complete_L18 fu w4 k v1 v2 v3 (v4 + 1)))
def fn_T_complete (μ0 : xs_M) (k : Nat) (x0 : Int32) (x1 : Int32) (x2 : Int32) : Option xs_M :=
  ((some (xs_si μ0 (14 + 7 * k) 7 (x0))).bind fun μ1 => ((some (xs_si μ1 (14 + 7 * k) 8 (x1))).bind fun μ2 => ((some (xs_si μ2 (14 + 7 * k) 9 (x2))).bind fun μ3 => ((fn_T_complete_L18 xs_FU μ3 k x0 x1 x2 (0 : Int32)).bind fun z5 => ((fn_T_placeP z5.2 k (0 : Int32)).bind fun w6 => ((fn_T_placeQ z5.2 k (0 : Int32)).bind fun w7 => ((fn_T_placeW z5.2 k (0 : Int32)).bind fun w8 => ((some (xs_sl z5.2 (14 + 7 * k + 1) (0 : Int32).toNatClampNeg (((w6 * (z5.2.2 (14 + 7 * k + 4) (0 : Int32).toNatClampNeg)) + (w7 * (z5.2.2 (14 + 7 * k + 5) (0 : Int32).toNatClampNeg))) + (w8 * (z5.2.2 (14 + 7 * k + 6) (0 : Int32).toNatClampNeg))))).bind fun μ9 => ((some (xs_sl μ9 (14 + 7 * k) 6 (μ9.2 (14 + 7 * k + 1) (0 : Int32).toNatClampNeg))).bind fun μ10 => (if 0 ≤ (lg_cmp (μ10.2 (14 + 7 * k) 6) (0 : Int64)) then some (μ10) else ((fn_T_turnToNegatives μ10 k).bind fun w11 => some (w11))))))))))))
set_option maxHeartbeats 4000000 in
set_option maxRecDepth 100000 in
theorem ok_T_complete (l : Launch) (D : va_G) (ad : Nat → Nat) (cs : xs_cs) (hJ : xs_J ad) {μ0 : xs_M} {k : Nat} {x0 : Int32} {x1 : Int32} {x2 : Int32} (hk : k < 20) {rz : xs_M} (hE : fn_T_complete μ0 k x0 x1 x2 = some rz) : xs_I l D ad cs y_T_complete b_T_complete 5 none 2 44 [.ref (ad (14 + 7 * k)), .int (x0), .int (x1), .int (x2)] μ0 none rz := by
  refine xs_entry hJ (by decide) (Nat.le_of_ble_eq_true rfl) ?_
  intro p e s m below meth c ls X hr hlk G hl
  have X : xs_C p s m c b_T_complete 5 _ "ExactScene$Triangle" := X
  have hx := X.1
  have hb := X.2.1
  have hl : lv_has ls 5 [(0, .ref (ad (14 + 7 * k))), (1, .int (x0)), (2, .int (x1)), (3, .int (x2))] := hl
  have L18 : ∀ (fu : Nat) (μ : xs_M) (v1 : Int32) (v2 : Int32) (v3 : Int32) (v4 : Int32) (H : Heap) (locs : List Loc) (ls : Array Slot) (z : (Int32 × xs_M)), fn_T_complete_L18 fu μ k v1 v2 v3 v4 = some z → xs_G D ad cs s (xs_A ad s.heap.size) s.heap μ H locs → lv_has ls 5 [(0, .ref (ad (14 + 7 * k))), (1, .int (v1)), (2, .int (v2)), (3, .int (v3)), (4, .int (v4))] → (∀ (H : Heap) (locs : List Loc) (ls : Array Slot), xs_G D ad cs s (xs_A ad s.heap.size) s.heap z.2 H locs → lv_has ls 5 [(0, .ref (ad (14 + 7 * k))), (1, .int (v1)), (2, .int (v2)), (3, .int (v3)), (4, .int (z.1))] → W p l e (xs_rm 2 44) s m ([.ref (ad (14 + 7 * k)), .int (x0), .int (x1), .int (x2)] : List Value).toArray below meth c H locs 0 0 (xs_E below D ad cs [.ref (ad (14 + 7 * k)), .int (x0), .int (x1), .int (x2)] s none rz) (F0 m 48 ls [])) → W p l e (xs_rm 2 44) s m ([.ref (ad (14 + 7 * k)), .int (x0), .int (x1), .int (x2)] : List Value).toArray below meth c H locs 0 0 (xs_E below D ad cs [.ref (ad (14 + 7 * k)), .int (x0), .int (x1), .int (x2)] s none rz) (F0 m 18 ls []) := by
    clear hE hl G
    intro fu
    induction fu with
    | zero =>
      intro μ v1 v2 v3 v4 H locs ls z hE
      rw [fn_T_complete_L18] at hE
      cases hE
    | succ fu ih =>
      intro μ v1 v2 v3 v4 H locs ls z hE G hl kk
      rw [fn_T_complete_L18] at hE
      refine lv_iload (pc := 18) hx hb d_T_complete_18 (lv_at hl 4 rfl) ?_
      refine lv_iconst (pc := 20) (v := (3 : Int32)) hx hb d_T_complete_20 (by decide) ?_
      refine lv_icmp_ge (pc := 21) (tgt := 48) hx hb d_T_complete_21 (by decide) (fun hc => ?_) (fun hc => ?_)
      · have hE := xs_t hE hc
        cases hE
        exact kk _ _ _ G (lv_sub hl [0, 1, 2, 3, 4] rfl)
      · have hE := xs_f hE hc
        refine lv_aload_n (pc := 24) hx hb d_T_complete_24 rfl (lv_at hl 0 rfl) ?_
        refine lv_iload (pc := 25) hx hb d_T_complete_25 (lv_at hl 4 rfl) ?_
        refine lv_iload (pc := 27) hx hb d_T_complete_27 (lv_at hl 4 rfl) ?_
        refine lv_iconst (pc := 29) (v := (1 : Int32)) hx hb d_T_complete_29 (by decide) ?_
        refine lv_iadd (pc := 30) hx hb d_T_complete_30 ?_
        refine lv_iconst (pc := 31) (v := (3 : Int32)) hx hb d_T_complete_31 (by decide) ?_
        refine lv_irem (pc := 32) hx hb d_T_complete_32 (by decide) ?_
        refine lv_iload (pc := 33) hx hb d_T_complete_33 (lv_at hl 4 rfl) ?_
        refine lv_iconst (pc := 35) (v := (2 : Int32)) hx hb d_T_complete_35 (by decide) ?_
        refine lv_iadd (pc := 36) hx hb d_T_complete_36 ?_
        refine lv_iconst (pc := 37) (v := (3 : Int32)) hx hb d_T_complete_37 (by decide) ?_
        refine lv_irem (pc := 38) hx hb d_T_complete_38 (by decide) ?_
        obtain ⟨w4, hw4, hE⟩ := xs_b hE
        refine xs_callVv (pc := 39) (as := [.int (v4), .int (((v4 + (1 : Int32)) - (v4 + (1 : Int32)) / (3 : Int32) * (3 : Int32))), .int (((v4 + (2 : Int32)) - (v4 + (2 : Int32)) / (3 : Int32) * (3 : Int32)))]) X (ok_T_setEdge l D ad cs hJ hk hw4) km_T_41 G (xs_wT ad cs _ hk) rfl ⟨by decide, by decide⟩ ⟨Nat.zero_le _, Nat.zero_le _⟩ rfl hl.1 rfl (Nat.le_of_ble_eq_true rfl) d_T_complete_39 (fun H locs G => ?_)
        refine lv_iinc (pc := 42) (v := (v4 + 1)) (k := 4) hx hb d_T_complete_42 hl rfl (xs_inc _) (by decide) (lv' := [(4, .int ((v4 + 1))), (0, .ref (ad (14 + 7 * k))), (1, .int (v1)), (2, .int (v2)), (3, .int (v3))]) rfl (fun ls hl => ?_)
        refine lv_goto (pc := 45) (tgt := 18) hx hb d_T_complete_45 (by decide) ?_
        exact ih _ _ _ _ _ _ _ _ _ hE G (lv_sub hl [1, 2, 3, 4, 0] rfl) kk
  unfold fn_T_complete at hE
  refine lv_aload_n (pc := 0) hx hb d_T_complete_0 rfl (lv_at hl 0 rfl) ?_
  refine lv_iload_n (pc := 1) hx hb d_T_complete_1 rfl (lv_at hl 1 rfl) ?_
  refine pf_T_31 (pc := 2) X G hk d_T_complete_2 (fun H locs G => ?_)
  obtain ⟨μ1, hμ1, hE⟩ := xs_b hE
  have G := xs_mv G hμ1
  clear hμ1
  refine lv_aload_n (pc := 5) hx hb d_T_complete_5 rfl (lv_at hl 0 rfl) ?_
  refine lv_iload_n (pc := 6) hx hb d_T_complete_6 rfl (lv_at hl 2 rfl) ?_
  refine pf_T_35 (pc := 7) X G hk d_T_complete_7 (fun H locs G => ?_)
  obtain ⟨μ2, hμ2, hE⟩ := xs_b hE
  have G := xs_mv G hμ2
  clear hμ2
  refine lv_aload_n (pc := 10) hx hb d_T_complete_10 rfl (lv_at hl 0 rfl) ?_
  refine lv_iload_n (pc := 11) hx hb d_T_complete_11 rfl (lv_at hl 3 rfl) ?_
  refine pf_T_38 (pc := 12) X G hk d_T_complete_12 (fun H locs G => ?_)
  obtain ⟨μ3, hμ3, hE⟩ := xs_b hE
  have G := xs_mv G hμ3
  clear hμ3
  refine lv_iconst (pc := 15) (v := (0 : Int32)) hx hb d_T_complete_15 (by decide) ?_
  refine lv_istore (pc := 16) hx hb d_T_complete_16 hl (by decide) (lv' := [(4, .int ((0 : Int32))), (0, .ref (ad (14 + 7 * k))), (1, .int (x0)), (2, .int (x1)), (3, .int (x2))]) rfl (fun ls hl => ?_)
  obtain ⟨z5, hz5, hE⟩ := xs_b hE
  refine L18 _ _ _ _ _ _ _ _ _ _ hz5 G (lv_sub hl [1, 2, 3, 4, 0] rfl) (fun H locs ls G hl => ?_)
  refine lv_aload_n (pc := 48) hx hb d_T_complete_48 rfl (lv_at hl 0 rfl) ?_
  refine gf_T_11 (pc := 49) X G hk d_T_complete_49 ?_
  refine lv_iconst (pc := 52) (v := (0 : Int32)) hx hb d_T_complete_52 (by decide) ?_
  refine lv_aload_n (pc := 53) hx hb d_T_complete_53 rfl (lv_at hl 0 rfl) ?_
  refine lv_iconst (pc := 54) (v := (0 : Int32)) hx hb d_T_complete_54 (by decide) ?_
  obtain ⟨w6, hw6, hE⟩ := xs_b hE
  refine xs_callVr (pc := 55) (as := [.int ((0 : Int32))]) X (ok_T_placeP l D ad cs hJ hk hw6) km_T_45 G (xs_wT ad cs _ hk) rfl ⟨by decide, by decide⟩ ⟨Nat.zero_le _, Nat.zero_le _⟩ rfl hl.1 rfl (Nat.le_of_ble_eq_true rfl) d_T_complete_55 (fun H locs G => ?_)
  refine lv_aload_n (pc := 58) hx hb d_T_complete_58 rfl (lv_at hl 0 rfl) ?_
  refine gf_T_22 (pc := 59) X G hk d_T_complete_59 ?_
  refine lv_iconst (pc := 62) (v := (0 : Int32)) hx hb d_T_complete_62 (by decide) ?_
  refine xs_lald (pc := 63) hx hb G (la_T4 hk) (xs_inP (by decide)) d_T_complete_63 ?_
  refine lv_lmul (pc := 64) hx hb d_T_complete_64 ?_
  refine lv_aload_n (pc := 65) hx hb d_T_complete_65 rfl (lv_at hl 0 rfl) ?_
  refine lv_iconst (pc := 66) (v := (0 : Int32)) hx hb d_T_complete_66 (by decide) ?_
  obtain ⟨w7, hw7, hE⟩ := xs_b hE
  refine xs_callVr (pc := 67) (as := [.int ((0 : Int32))]) X (ok_T_placeQ l D ad cs hJ hk hw7) km_T_49 G (xs_wT ad cs _ hk) rfl ⟨by decide, by decide⟩ ⟨Nat.zero_le _, Nat.zero_le _⟩ rfl hl.1 rfl (Nat.le_of_ble_eq_true rfl) d_T_complete_67 (fun H locs G => ?_)
  refine lv_aload_n (pc := 70) hx hb d_T_complete_70 rfl (lv_at hl 0 rfl) ?_
  refine gf_T_25 (pc := 71) X G hk d_T_complete_71 ?_
  refine lv_iconst (pc := 74) (v := (0 : Int32)) hx hb d_T_complete_74 (by decide) ?_
  refine xs_lald (pc := 75) hx hb G (la_T5 hk) (xs_inP (by decide)) d_T_complete_75 ?_
  refine lv_lmul (pc := 76) hx hb d_T_complete_76 ?_
  refine lv_ladd (pc := 77) hx hb d_T_complete_77 ?_
  refine lv_aload_n (pc := 78) hx hb d_T_complete_78 rfl (lv_at hl 0 rfl) ?_
  refine lv_iconst (pc := 79) (v := (0 : Int32)) hx hb d_T_complete_79 (by decide) ?_
  obtain ⟨w8, hw8, hE⟩ := xs_b hE
  refine xs_callVr (pc := 80) (as := [.int ((0 : Int32))]) X (ok_T_placeW l D ad cs hJ hk hw8) km_T_52 G (xs_wT ad cs _ hk) rfl ⟨by decide, by decide⟩ ⟨Nat.zero_le _, Nat.zero_le _⟩ rfl hl.1 rfl (Nat.le_of_ble_eq_true rfl) d_T_complete_80 (fun H locs G => ?_)
  refine lv_aload_n (pc := 83) hx hb d_T_complete_83 rfl (lv_at hl 0 rfl) ?_
  refine gf_T_28 (pc := 84) X G hk d_T_complete_84 ?_
  refine lv_iconst (pc := 87) (v := (0 : Int32)) hx hb d_T_complete_87 (by decide) ?_
  refine xs_lald (pc := 88) hx hb G (la_T6 hk) (xs_inP (by decide)) d_T_complete_88 ?_
  refine lv_lmul (pc := 89) hx hb d_T_complete_89 ?_
  refine lv_ladd (pc := 90) hx hb d_T_complete_90 ?_
  refine xs_last (pc := 91) hx hb G (la_T1 hk) (xs_inP (by decide)) d_T_complete_91 (fun H locs G => ?_)
  obtain ⟨μ9, hμ9, hE⟩ := xs_b hE
  have G := xs_mv G hμ9
  clear hμ9
  refine lv_aload_n (pc := 92) hx hb d_T_complete_92 rfl (lv_at hl 0 rfl) ?_
  refine lv_aload_n (pc := 93) hx hb d_T_complete_93 rfl (lv_at hl 0 rfl) ?_
  refine gf_T_11 (pc := 94) X G hk d_T_complete_94 ?_
  refine lv_iconst (pc := 97) (v := (0 : Int32)) hx hb d_T_complete_97 (by decide) ?_
  refine xs_lald (pc := 98) hx hb G (la_T1 hk) (xs_inP (by decide)) d_T_complete_98 ?_
  refine pf_T_55 (pc := 99) X G hk d_T_complete_99 (fun H locs G => ?_)
  obtain ⟨μ10, hμ10, hE⟩ := xs_b hE
  have G := xs_mv G hμ10
  clear hμ10
  refine lv_aload_n (pc := 102) hx hb d_T_complete_102 rfl (lv_at hl 0 rfl) ?_
  refine gf_T_55 (pc := 103) X G hk d_T_complete_103 ?_
  refine lv_lconst (pc := 106) (v := (0 : Int64)) hx hb d_T_complete_106 (by decide) ?_
  refine W.lcmp (pc := 107) hx hb d_T_complete_107 ?_
  refine lv_if_ge (pc := 108) (tgt := 115) hx hb d_T_complete_108 (by decide) (fun hc => ?_) (fun hc => ?_)
  · have hE := xs_t hE hc
    cases hE
    exact xs_vret (pc := 115) hx hb hr hlk G d_T_complete_115
  · have hE := xs_f hE hc
    refine lv_aload_n (pc := 111) hx hb d_T_complete_111 rfl (lv_at hl 0 rfl) ?_
    obtain ⟨w11, hw11, hE⟩ := xs_b hE
    refine xs_callVv (pc := 112) (as := []) X (ok_T_turnToNegatives l D ad cs hJ hk hw11) km_T_59 G (xs_wT ad cs _ hk) rfl ⟨by decide, by decide⟩ ⟨Nat.zero_le _, Nat.zero_le _⟩ rfl hl.1 rfl (Nat.le_of_ble_eq_true rfl) d_T_complete_112 (fun H locs G => ?_)
    cases hE
    exact xs_vret (pc := 115) hx hb hr hlk G d_T_complete_115
def fn_T_isShown (μ0 : xs_M) (k : Nat) : Option Int32 :=
  (if (lg_cmp (μ0.2 (14 + 7 * k) 6) (0 : Int64)) = 0 then some ((0 : Int32)) else (if (μ0.1 (14 + 7 * k) 9) = 0 then some ((1 : Int32)) else (if (lg_cmp (μ0.2 (14 + 7 * k + 1) (0 : Int32).toNatClampNeg) (0 : Int64)) ≤ 0 then (if (μ0.1 (14 + 7 * k) 9) = (2 : Int32) then some ((1 : Int32)) else some ((0 : Int32))) else (if (μ0.1 (14 + 7 * k) 9) = (1 : Int32) then some ((1 : Int32)) else some ((0 : Int32))))))
set_option maxHeartbeats 4000000 in
set_option maxRecDepth 100000 in
theorem ok_T_isShown (l : Launch) (D : va_G) (ad : Nat → Nat) (cs : xs_cs) (hJ : xs_J ad) {μ0 : xs_M} {k : Nat} (hk : k < 20) {rz : Int32} (hE : fn_T_isShown μ0 k = some rz) : xs_I l D ad cs y_T_isShown b_T_isShown 1 (some .boolean) 0 0 [.ref (ad (14 + 7 * k))] μ0 (some (.int rz)) μ0 := by
  refine xs_entry hJ (by decide) (Nat.le_of_ble_eq_true rfl) ?_
  intro p e s m below meth c ls X hr hlk G hl
  have X : xs_C p s m c b_T_isShown 1 _ "ExactScene$Triangle" := X
  have hx := X.1
  have hb := X.2.1
  have hl : lv_has ls 1 [(0, .ref (ad (14 + 7 * k)))] := hl
  unfold fn_T_isShown at hE
  refine lv_aload_n (pc := 0) hx hb d_T_isShown_0 rfl (lv_at hl 0 rfl) ?_
  refine gf_T_55 (pc := 1) X G hk d_T_isShown_1 ?_
  refine lv_lconst (pc := 4) (v := (0 : Int64)) hx hb d_T_isShown_4 (by decide) ?_
  refine W.lcmp (pc := 5) hx hb d_T_isShown_5 ?_
  refine lv_if_ne (pc := 6) (tgt := 11) hx hb d_T_isShown_6 (by decide) (fun hc => ?_) (fun hc => ?_)
  · have hE := xs_f hE hc
    refine lv_aload_n (pc := 11) hx hb d_T_isShown_11 rfl (lv_at hl 0 rfl) ?_
    refine gf_T_38 (pc := 12) X G hk d_T_isShown_12 ?_
    refine lv_if_eq (pc := 15) (tgt := 41) hx hb d_T_isShown_15 (by decide) (fun hc => ?_) (fun hc => ?_)
    · have hE := xs_t hE hc
      refine lv_iconst (pc := 41) (v := (1 : Int32)) hx hb d_T_isShown_41 (by decide) ?_
      refine lv_goto (pc := 42) (tgt := 46) hx hb d_T_isShown_42 (by decide) ?_
      cases hE
      exact xs_zret (pc := 46) hx hb hr hlk G (Or.inr rfl) d_T_isShown_46
    · have hE := xs_f hE hc
      refine lv_aload_n (pc := 18) hx hb d_T_isShown_18 rfl (lv_at hl 0 rfl) ?_
      refine gf_T_38 (pc := 19) X G hk d_T_isShown_19 ?_
      refine lv_aload_n (pc := 22) hx hb d_T_isShown_22 rfl (lv_at hl 0 rfl) ?_
      refine gf_T_11 (pc := 23) X G hk d_T_isShown_23 ?_
      refine lv_iconst (pc := 26) (v := (0 : Int32)) hx hb d_T_isShown_26 (by decide) ?_
      refine xs_lald (pc := 27) hx hb G (la_T1 hk) (xs_inP (by decide)) d_T_isShown_27 ?_
      refine lv_lconst (pc := 28) (v := (0 : Int64)) hx hb d_T_isShown_28 (by decide) ?_
      refine W.lcmp (pc := 29) hx hb d_T_isShown_29 ?_
      refine lv_if_le (pc := 30) (tgt := 37) hx hb d_T_isShown_30 (by decide) (fun hc => ?_) (fun hc => ?_)
      · have hE := xs_t hE hc
        refine lv_iconst (pc := 37) (v := (2 : Int32)) hx hb d_T_isShown_37 (by decide) ?_
        refine lv_icmp_ne (pc := 38) (tgt := 45) hx hb d_T_isShown_38 (by decide) (fun hc => ?_) (fun hc => ?_)
        · have hE := xs_f hE hc
          refine lv_iconst (pc := 45) (v := (0 : Int32)) hx hb d_T_isShown_45 (by decide) ?_
          cases hE
          exact xs_zret (pc := 46) hx hb hr hlk G (Or.inl rfl) d_T_isShown_46
        · have hE := xs_t hE hc
          refine lv_iconst (pc := 41) (v := (1 : Int32)) hx hb d_T_isShown_41 (by decide) ?_
          refine lv_goto (pc := 42) (tgt := 46) hx hb d_T_isShown_42 (by decide) ?_
          cases hE
          exact xs_zret (pc := 46) hx hb hr hlk G (Or.inr rfl) d_T_isShown_46
      · have hE := xs_f hE hc
        refine lv_iconst (pc := 33) (v := (1 : Int32)) hx hb d_T_isShown_33 (by decide) ?_
        refine lv_goto (pc := 34) (tgt := 38) hx hb d_T_isShown_34 (by decide) ?_
        refine lv_icmp_ne (pc := 38) (tgt := 45) hx hb d_T_isShown_38 (by decide) (fun hc => ?_) (fun hc => ?_)
        · have hE := xs_f hE hc
          refine lv_iconst (pc := 45) (v := (0 : Int32)) hx hb d_T_isShown_45 (by decide) ?_
          cases hE
          exact xs_zret (pc := 46) hx hb hr hlk G (Or.inl rfl) d_T_isShown_46
        · have hE := xs_t hE hc
          refine lv_iconst (pc := 41) (v := (1 : Int32)) hx hb d_T_isShown_41 (by decide) ?_
          refine lv_goto (pc := 42) (tgt := 46) hx hb d_T_isShown_42 (by decide) ?_
          cases hE
          exact xs_zret (pc := 46) hx hb hr hlk G (Or.inr rfl) d_T_isShown_46
  · have hE := xs_t hE hc
    refine lv_iconst (pc := 9) (v := (0 : Int32)) hx hb d_T_isShown_9 (by decide) ?_
    cases hE
    exact xs_zret (pc := 10) hx hb hr hlk G (Or.inl rfl) d_T_isShown_10
def fn_T_weightAt (μ0 : xs_M) (k : Nat) (x0 : Int32) (x1 : Int32) (x2 : Int32) : Option Int64 :=
  (if xs_in x0 3 = true then (if xs_in x0 3 = true then (if xs_in x0 3 = true then some (((((μ0.2 (14 + 7 * k + 4) x0.toNatClampNeg) * ((((2 : Int32) * x1) + (1 : Int32))).toInt64) + ((μ0.2 (14 + 7 * k + 5) x0.toNatClampNeg) * ((((2 : Int32) * x2) + (1 : Int32))).toInt64)) + (μ0.2 (14 + 7 * k + 6) x0.toNatClampNeg))) else none) else none) else none)
set_option maxHeartbeats 4000000 in
set_option maxRecDepth 100000 in
theorem ok_T_weightAt (l : Launch) (D : va_G) (ad : Nat → Nat) (cs : xs_cs) (hJ : xs_J ad) {μ0 : xs_M} {k : Nat} {x0 : Int32} {x1 : Int32} {x2 : Int32} (hk : k < 20) {rz : Int64} (hE : fn_T_weightAt μ0 k x0 x1 x2 = some rz) : xs_I l D ad cs y_T_weightAt b_T_weightAt 4 (some .long) 0 0 [.ref (ad (14 + 7 * k)), .int (x0), .int (x1), .int (x2)] μ0 (some (.long rz)) μ0 := by
  refine xs_entry hJ (by decide) (Nat.le_of_ble_eq_true rfl) ?_
  intro p e s m below meth c ls X hr hlk G hl
  have X : xs_C p s m c b_T_weightAt 4 _ "ExactScene$Triangle" := X
  have hx := X.1
  have hb := X.2.1
  have hl : lv_has ls 4 [(0, .ref (ad (14 + 7 * k))), (1, .int (x0)), (2, .int (x1)), (3, .int (x2))] := hl
  unfold fn_T_weightAt at hE
  refine lv_aload_n (pc := 0) hx hb d_T_weightAt_0 rfl (lv_at hl 0 rfl) ?_
  refine gf_T_22 (pc := 1) X G hk d_T_weightAt_1 ?_
  refine lv_iload_n (pc := 4) hx hb d_T_weightAt_4 rfl (lv_at hl 1 rfl) ?_
  obtain ⟨hi1, hE⟩ := xs_n hE
  refine xs_lald (pc := 5) hx hb G (la_T4 hk) (xs_inP hi1) d_T_weightAt_5 ?_
  refine lv_iconst (pc := 6) (v := (2 : Int32)) hx hb d_T_weightAt_6 (by decide) ?_
  refine lv_iload_n (pc := 7) hx hb d_T_weightAt_7 rfl (lv_at hl 2 rfl) ?_
  refine lv_imul (pc := 8) hx hb d_T_weightAt_8 ?_
  refine lv_iconst (pc := 9) (v := (1 : Int32)) hx hb d_T_weightAt_9 (by decide) ?_
  refine lv_iadd (pc := 10) hx hb d_T_weightAt_10 ?_
  refine lv_i2l (pc := 11) hx hb d_T_weightAt_11 rfl ?_
  refine lv_lmul (pc := 12) hx hb d_T_weightAt_12 ?_
  refine lv_aload_n (pc := 13) hx hb d_T_weightAt_13 rfl (lv_at hl 0 rfl) ?_
  refine gf_T_25 (pc := 14) X G hk d_T_weightAt_14 ?_
  refine lv_iload_n (pc := 17) hx hb d_T_weightAt_17 rfl (lv_at hl 1 rfl) ?_
  obtain ⟨hi2, hE⟩ := xs_n hE
  refine xs_lald (pc := 18) hx hb G (la_T5 hk) (xs_inP hi2) d_T_weightAt_18 ?_
  refine lv_iconst (pc := 19) (v := (2 : Int32)) hx hb d_T_weightAt_19 (by decide) ?_
  refine lv_iload_n (pc := 20) hx hb d_T_weightAt_20 rfl (lv_at hl 3 rfl) ?_
  refine lv_imul (pc := 21) hx hb d_T_weightAt_21 ?_
  refine lv_iconst (pc := 22) (v := (1 : Int32)) hx hb d_T_weightAt_22 (by decide) ?_
  refine lv_iadd (pc := 23) hx hb d_T_weightAt_23 ?_
  refine lv_i2l (pc := 24) hx hb d_T_weightAt_24 rfl ?_
  refine lv_lmul (pc := 25) hx hb d_T_weightAt_25 ?_
  refine lv_ladd (pc := 26) hx hb d_T_weightAt_26 ?_
  refine lv_aload_n (pc := 27) hx hb d_T_weightAt_27 rfl (lv_at hl 0 rfl) ?_
  refine gf_T_28 (pc := 28) X G hk d_T_weightAt_28 ?_
  refine lv_iload_n (pc := 31) hx hb d_T_weightAt_31 rfl (lv_at hl 1 rfl) ?_
  obtain ⟨hi3, hE⟩ := xs_n hE
  refine xs_lald (pc := 32) hx hb G (la_T6 hk) (xs_inP hi3) d_T_weightAt_32 ?_
  refine lv_ladd (pc := 33) hx hb d_T_weightAt_33 ?_
  cases hE
  exact xs_lret (pc := 34) hx hb hr hlk G d_T_weightAt_34
def fn_T_ownsItsEdge (μ0 : xs_M) (k : Nat) (x0 : Int32) : Option Int32 :=
  (if xs_in x0 3 = true then (if 0 < (lg_cmp (μ0.2 (14 + 7 * k + 4) x0.toNatClampNeg) (0 : Int64)) then some ((1 : Int32)) else (if xs_in x0 3 = true then (if (lg_cmp (μ0.2 (14 + 7 * k + 4) x0.toNatClampNeg) (0 : Int64)) = 0 then (if xs_in x0 3 = true then (if (lg_cmp (μ0.2 (14 + 7 * k + 5) x0.toNatClampNeg) (0 : Int64)) ≤ 0 then some ((0 : Int32)) else some ((1 : Int32))) else none) else some ((0 : Int32))) else none)) else none)
set_option maxHeartbeats 4000000 in
set_option maxRecDepth 100000 in
theorem ok_T_ownsItsEdge (l : Launch) (D : va_G) (ad : Nat → Nat) (cs : xs_cs) (hJ : xs_J ad) {μ0 : xs_M} {k : Nat} {x0 : Int32} (hk : k < 20) {rz : Int32} (hE : fn_T_ownsItsEdge μ0 k x0 = some rz) : xs_I l D ad cs y_T_ownsItsEdge b_T_ownsItsEdge 2 (some .boolean) 0 0 [.ref (ad (14 + 7 * k)), .int (x0)] μ0 (some (.int rz)) μ0 := by
  refine xs_entry hJ (by decide) (Nat.le_of_ble_eq_true rfl) ?_
  intro p e s m below meth c ls X hr hlk G hl
  have X : xs_C p s m c b_T_ownsItsEdge 2 _ "ExactScene$Triangle" := X
  have hx := X.1
  have hb := X.2.1
  have hl : lv_has ls 2 [(0, .ref (ad (14 + 7 * k))), (1, .int (x0))] := hl
  unfold fn_T_ownsItsEdge at hE
  refine lv_aload_n (pc := 0) hx hb d_T_ownsItsEdge_0 rfl (lv_at hl 0 rfl) ?_
  refine gf_T_22 (pc := 1) X G hk d_T_ownsItsEdge_1 ?_
  refine lv_iload_n (pc := 4) hx hb d_T_ownsItsEdge_4 rfl (lv_at hl 1 rfl) ?_
  obtain ⟨hi1, hE⟩ := xs_n hE
  refine xs_lald (pc := 5) hx hb G (la_T4 hk) (xs_inP hi1) d_T_ownsItsEdge_5 ?_
  refine lv_lconst (pc := 6) (v := (0 : Int64)) hx hb d_T_ownsItsEdge_6 (by decide) ?_
  refine W.lcmp (pc := 7) hx hb d_T_ownsItsEdge_7 ?_
  refine lv_if_gt (pc := 8) (tgt := 33) hx hb d_T_ownsItsEdge_8 (by decide) (fun hc => ?_) (fun hc => ?_)
  · have hE := xs_t hE hc
    refine lv_iconst (pc := 33) (v := (1 : Int32)) hx hb d_T_ownsItsEdge_33 (by decide) ?_
    refine lv_goto (pc := 34) (tgt := 38) hx hb d_T_ownsItsEdge_34 (by decide) ?_
    cases hE
    exact xs_zret (pc := 38) hx hb hr hlk G (Or.inr rfl) d_T_ownsItsEdge_38
  · have hE := xs_f hE hc
    refine lv_aload_n (pc := 11) hx hb d_T_ownsItsEdge_11 rfl (lv_at hl 0 rfl) ?_
    refine gf_T_22 (pc := 12) X G hk d_T_ownsItsEdge_12 ?_
    refine lv_iload_n (pc := 15) hx hb d_T_ownsItsEdge_15 rfl (lv_at hl 1 rfl) ?_
    obtain ⟨hi2, hE⟩ := xs_n hE
    refine xs_lald (pc := 16) hx hb G (la_T4 hk) (xs_inP hi2) d_T_ownsItsEdge_16 ?_
    refine lv_lconst (pc := 17) (v := (0 : Int64)) hx hb d_T_ownsItsEdge_17 (by decide) ?_
    refine W.lcmp (pc := 18) hx hb d_T_ownsItsEdge_18 ?_
    refine lv_if_ne (pc := 19) (tgt := 37) hx hb d_T_ownsItsEdge_19 (by decide) (fun hc => ?_) (fun hc => ?_)
    · have hE := xs_f hE hc
      refine lv_iconst (pc := 37) (v := (0 : Int32)) hx hb d_T_ownsItsEdge_37 (by decide) ?_
      cases hE
      exact xs_zret (pc := 38) hx hb hr hlk G (Or.inl rfl) d_T_ownsItsEdge_38
    · have hE := xs_t hE hc
      refine lv_aload_n (pc := 22) hx hb d_T_ownsItsEdge_22 rfl (lv_at hl 0 rfl) ?_
      refine gf_T_25 (pc := 23) X G hk d_T_ownsItsEdge_23 ?_
      refine lv_iload_n (pc := 26) hx hb d_T_ownsItsEdge_26 rfl (lv_at hl 1 rfl) ?_
      obtain ⟨hi3, hE⟩ := xs_n hE
      refine xs_lald (pc := 27) hx hb G (la_T5 hk) (xs_inP hi3) d_T_ownsItsEdge_27 ?_
      refine lv_lconst (pc := 28) (v := (0 : Int64)) hx hb d_T_ownsItsEdge_28 (by decide) ?_
      refine W.lcmp (pc := 29) hx hb d_T_ownsItsEdge_29 ?_
      refine lv_if_le (pc := 30) (tgt := 37) hx hb d_T_ownsItsEdge_30 (by decide) (fun hc => ?_) (fun hc => ?_)
      · have hE := xs_t hE hc
        refine lv_iconst (pc := 37) (v := (0 : Int32)) hx hb d_T_ownsItsEdge_37 (by decide) ?_
        cases hE
        exact xs_zret (pc := 38) hx hb hr hlk G (Or.inl rfl) d_T_ownsItsEdge_38
      · have hE := xs_f hE hc
        refine lv_iconst (pc := 33) (v := (1 : Int32)) hx hb d_T_ownsItsEdge_33 (by decide) ?_
        refine lv_goto (pc := 34) (tgt := 38) hx hb d_T_ownsItsEdge_34 (by decide) ?_
        cases hE
        exact xs_zret (pc := 38) hx hb hr hlk G (Or.inr rfl) d_T_ownsItsEdge_38
def fn_T_covers_L2 : Nat → xs_M → Nat → Int32 → Int32 → Int32 →  Option ((Int32) ⊕ Int32)
  | 0, _, _, _, _, _ => none
  | fu + 1, μ0, k, v1, v2, v3 => (if (3 : Int32) ≤ v3 then some (.inl (v3)) else ((fn_T_weightAt μ0 k v3 v1 v2).bind fun w1 => (if (lg_cmp w1 (0 : Int64)) < 0 then some (.inr ((0 : Int32))) else (if (lg_cmp w1 (0 : Int64)) = 0 then ((fn_T_ownsItsEdge μ0 k v3).bind fun w2 => (if w2 = 0 then some (.inr ((0 : Int32))) else fn_T_covers_L2 fu μ0 k v1 v2 (v3 + 1))) else fn_T_covers_L2 fu μ0 k v1 v2 (v3 + 1)))))
def fn_T_covers (μ0 : xs_M) (k : Nat) (x0 : Int32) (x1 : Int32) : Option Int32 :=
  ((fn_T_covers_L2 xs_FU μ0 k x0 x1 (0 : Int32)).bind fun z3 => Sum.elim (fun ez3 => some ((1 : Int32))) (fun er => some er) z3)
set_option maxHeartbeats 4000000 in
set_option maxRecDepth 100000 in
theorem ok_T_covers (l : Launch) (D : va_G) (ad : Nat → Nat) (cs : xs_cs) (hJ : xs_J ad) {μ0 : xs_M} {k : Nat} {x0 : Int32} {x1 : Int32} (hk : k < 20) {rz : Int32} (hE : fn_T_covers μ0 k x0 x1 = some rz) : xs_I l D ad cs y_T_covers b_T_covers 6 (some .boolean) 1 23 [.ref (ad (14 + 7 * k)), .int (x0), .int (x1)] μ0 (some (.int rz)) μ0 := by
  refine xs_entry hJ (by decide) (Nat.le_of_ble_eq_true rfl) ?_
  intro p e s m below meth c ls X hr hlk G hl
  have X : xs_C p s m c b_T_covers 6 _ "ExactScene$Triangle" := X
  have hx := X.1
  have hb := X.2.1
  have hl : lv_has ls 6 [(0, .ref (ad (14 + 7 * k))), (1, .int (x0)), (2, .int (x1))] := hl
  have L2 : ∀ (fu : Nat) (v1 : Int32) (v2 : Int32) (v3 : Int32) (H : Heap) (locs : List Loc) (ls : Array Slot) (z : ((Int32) ⊕ Int32)), fn_T_covers_L2 fu μ0 k v1 v2 v3 = some z → xs_G D ad cs s (xs_A ad s.heap.size) s.heap μ0 H locs → lv_has ls 6 [(0, .ref (ad (14 + 7 * k))), (1, .int (v1)), (2, .int (v2)), (3, .int (v3))] → (∀ er, z = .inr er → er = rz) → (∀ ez, z = .inl ez → ∀ (H : Heap) (locs : List Loc) (ls : Array Slot), xs_G D ad cs s (xs_A ad s.heap.size) s.heap μ0 H locs → lv_has ls 6 [(0, .ref (ad (14 + 7 * k))), (1, .int (v1)), (2, .int (v2)), (3, .int (ez))] → W p l e (xs_rm 1 23) s m ([.ref (ad (14 + 7 * k)), .int (x0), .int (x1)] : List Value).toArray below meth c H locs 0 0 (xs_E below D ad cs [.ref (ad (14 + 7 * k)), .int (x0), .int (x1)] s (some (.int rz)) μ0) (F0 m 46 ls [])) → W p l e (xs_rm 1 23) s m ([.ref (ad (14 + 7 * k)), .int (x0), .int (x1)] : List Value).toArray below meth c H locs 0 0 (xs_E below D ad cs [.ref (ad (14 + 7 * k)), .int (x0), .int (x1)] s (some (.int rz)) μ0) (F0 m 2 ls []) := by
    clear hE hl G
    intro fu
    induction fu with
    | zero =>
      intro v1 v2 v3 H locs ls z hE
      rw [fn_T_covers_L2] at hE
      cases hE
    | succ fu ih =>
      intro v1 v2 v3 H locs ls z hE G hl kr kk
      rw [fn_T_covers_L2] at hE
      refine lv_iload_n (pc := 2) hx hb d_T_covers_2 rfl (lv_at hl 3 rfl) ?_
      refine lv_iconst (pc := 3) (v := (3 : Int32)) hx hb d_T_covers_3 (by decide) ?_
      refine lv_icmp_ge (pc := 4) (tgt := 46) hx hb d_T_covers_4 (by decide) (fun hc => ?_) (fun hc => ?_)
      · have hE := xs_t hE hc
        exact kk _ (Option.some.inj hE).symm _ _ _ G (lv_sub hl [0, 1, 2, 3] rfl)
      · have hE := xs_f hE hc
        refine lv_aload_n (pc := 7) hx hb d_T_covers_7 rfl (lv_at hl 0 rfl) ?_
        refine lv_iload_n (pc := 8) hx hb d_T_covers_8 rfl (lv_at hl 3 rfl) ?_
        refine lv_iload_n (pc := 9) hx hb d_T_covers_9 rfl (lv_at hl 1 rfl) ?_
        refine lv_iload_n (pc := 10) hx hb d_T_covers_10 rfl (lv_at hl 2 rfl) ?_
        obtain ⟨w1, hw1, hE⟩ := xs_b hE
        refine xs_callVr (pc := 11) (as := [.int (v3), .int (v1), .int (v2)]) X (ok_T_weightAt l D ad cs hJ hk hw1) km_T_62 G (xs_wT ad cs _ hk) rfl ⟨by decide, by decide⟩ ⟨Nat.zero_le _, Nat.zero_le _⟩ rfl hl.1 rfl (Nat.le_of_ble_eq_true rfl) d_T_covers_11 (fun H locs G => ?_)
        refine lv_lstore (pc := 14) hx hb d_T_covers_14 hl (by decide) (lv' := [(4, .long (w1)), (0, .ref (ad (14 + 7 * k))), (1, .int (v1)), (2, .int (v2)), (3, .int (v3))]) rfl (fun ls hl => ?_)
        refine lv_lload (pc := 16) hx hb d_T_covers_16 (lv_at hl 0 rfl) ?_
        refine lv_lconst (pc := 18) (v := (0 : Int64)) hx hb d_T_covers_18 (by decide) ?_
        refine W.lcmp (pc := 19) hx hb d_T_covers_19 ?_
        refine lv_if_lt (pc := 20) (tgt := 38) hx hb d_T_covers_20 (by decide) (fun hc => ?_) (fun hc => ?_)
        · have hE := xs_t hE hc
          refine lv_iconst (pc := 38) (v := (0 : Int32)) hx hb d_T_covers_38 (by decide) ?_
          have er := kr _ (Option.some.inj hE).symm
          rw [← er]
          exact xs_zret (pc := 39) hx hb hr hlk G (Or.inl rfl) d_T_covers_39
        · have hE := xs_f hE hc
          refine lv_lload (pc := 23) hx hb d_T_covers_23 (lv_at hl 0 rfl) ?_
          refine lv_lconst (pc := 25) (v := (0 : Int64)) hx hb d_T_covers_25 (by decide) ?_
          refine W.lcmp (pc := 26) hx hb d_T_covers_26 ?_
          refine lv_if_ne (pc := 27) (tgt := 40) hx hb d_T_covers_27 (by decide) (fun hc => ?_) (fun hc => ?_)
          · have hE := xs_f hE hc
            refine lv_iinc (pc := 40) (v := (v3 + 1)) (k := 4) hx hb d_T_covers_40 hl rfl (xs_inc _) (by decide) (lv' := [(3, .int ((v3 + 1))), (4, .long (w1)), (0, .ref (ad (14 + 7 * k))), (1, .int (v1)), (2, .int (v2))]) rfl (fun ls hl => ?_)
            refine lv_goto (pc := 43) (tgt := 2) hx hb d_T_covers_43 (by decide) ?_
            exact ih _ _ _ _ _ _ _ hE G (lv_sub hl [2, 3, 4, 0] rfl) kr kk
          · have hE := xs_t hE hc
            refine lv_aload_n (pc := 30) hx hb d_T_covers_30 rfl (lv_at hl 1 rfl) ?_
            refine lv_iload_n (pc := 31) hx hb d_T_covers_31 rfl (lv_at hl 4 rfl) ?_
            obtain ⟨w2, hw2, hE⟩ := xs_b hE
            refine xs_callVr (pc := 32) (as := [.int (v3)]) X (ok_T_ownsItsEdge l D ad cs hJ hk hw2) km_T_66 G (xs_wT ad cs _ hk) rfl ⟨by decide, by decide⟩ ⟨Nat.zero_le _, Nat.zero_le _⟩ rfl hl.1 rfl (Nat.le_of_ble_eq_true rfl) d_T_covers_32 (fun H locs G => ?_)
            refine lv_if_ne (pc := 35) (tgt := 40) hx hb d_T_covers_35 (by decide) (fun hc => ?_) (fun hc => ?_)
            · have hE := xs_f hE hc
              refine lv_iinc (pc := 40) (v := (v3 + 1)) (k := 4) hx hb d_T_covers_40 hl rfl (xs_inc _) (by decide) (lv' := [(3, .int ((v3 + 1))), (4, .long (w1)), (0, .ref (ad (14 + 7 * k))), (1, .int (v1)), (2, .int (v2))]) rfl (fun ls hl => ?_)
              refine lv_goto (pc := 43) (tgt := 2) hx hb d_T_covers_43 (by decide) ?_
              exact ih _ _ _ _ _ _ _ hE G (lv_sub hl [2, 3, 4, 0] rfl) kr kk
            · have hE := xs_t hE hc
              refine lv_iconst (pc := 38) (v := (0 : Int32)) hx hb d_T_covers_38 (by decide) ?_
              have er := kr _ (Option.some.inj hE).symm
              rw [← er]
              exact xs_zret (pc := 39) hx hb hr hlk G (Or.inl rfl) d_T_covers_39
  unfold fn_T_covers at hE
  refine lv_iconst (pc := 0) (v := (0 : Int32)) hx hb d_T_covers_0 (by decide) ?_
  refine lv_istore_n (pc := 1) hx hb d_T_covers_1 rfl hl (by decide) (lv' := [(3, .int ((0 : Int32))), (0, .ref (ad (14 + 7 * k))), (1, .int (x0)), (2, .int (x1))]) rfl (fun ls hl => ?_)
  obtain ⟨z3, hz3, hE⟩ := xs_b hE
  refine L2 _ _ _ _ _ _ _ _ hz3 G (lv_sub hl [1, 2, 3, 0] rfl) (fun er h => xs_er1 hE h) (fun ez3 he H locs ls G hl => ?_)
  have hE := xs_el hE he
  refine lv_iconst (pc := 46) (v := (1 : Int32)) hx hb d_T_covers_46 (by decide) ?_
  cases hE
  exact xs_zret (pc := 47) hx hb hr hlk G (Or.inr rfl) d_T_covers_47
def fn_T_depthOver_L5 : Nat → xs_M → Nat → Int32 → Int32 → Int64 → Int32 →  Option (Int64 × Int32)
  | 0, _, _, _, _, _, _ => none
  | fu + 1, μ0, k, v1, v2, v3, v5 => (if (3 : Int32) ≤ v5 then some ((v3, v5)) else ((fn_T_weightAt μ0 k v5 v1 v2).bind fun w1 => (if xs_in ((v5 * (4 : Int32)) + (4 : Int32)) 13 = true then ((some (v3 + (w1 * (μ0.2 (14 + 7 * k + 1) ((v5 * (4 : Int32)) + (4 : Int32)).toNatClampNeg)))).bind fun a3 => fn_T_depthOver_L5 fu μ0 k v1 v2 a3 (v5 + 1)) else none)))
def fn_T_depthOver (μ0 : xs_M) (k : Nat) (x0 : Int32) (x1 : Int32) : Option Int64 :=
  ((fn_T_depthOver_L5 xs_FU μ0 k x0 x1 (0 : Int64) (0 : Int32)).bind fun z4 => some (z4.1))
set_option maxHeartbeats 4000000 in
set_option maxRecDepth 100000 in
theorem ok_T_depthOver (l : Launch) (D : va_G) (ad : Nat → Nat) (cs : xs_cs) (hJ : xs_J ad) {μ0 : xs_M} {k : Nat} {x0 : Int32} {x1 : Int32} (hk : k < 20) {rz : Int64} (hE : fn_T_depthOver μ0 k x0 x1 = some rz) : xs_I l D ad cs y_T_depthOver b_T_depthOver 6 (some .long) 1 23 [.ref (ad (14 + 7 * k)), .int (x0), .int (x1)] μ0 (some (.long rz)) μ0 := by
  refine xs_entry hJ (by decide) (Nat.le_of_ble_eq_true rfl) ?_
  intro p e s m below meth c ls X hr hlk G hl
  have X : xs_C p s m c b_T_depthOver 6 _ "ExactScene$Triangle" := X
  have hx := X.1
  have hb := X.2.1
  have hl : lv_has ls 6 [(0, .ref (ad (14 + 7 * k))), (1, .int (x0)), (2, .int (x1))] := hl
  have L5 : ∀ (fu : Nat) (v1 : Int32) (v2 : Int32) (v3 : Int64) (v5 : Int32) (H : Heap) (locs : List Loc) (ls : Array Slot) (z : (Int64 × Int32)), fn_T_depthOver_L5 fu μ0 k v1 v2 v3 v5 = some z → xs_G D ad cs s (xs_A ad s.heap.size) s.heap μ0 H locs → lv_has ls 6 [(0, .ref (ad (14 + 7 * k))), (1, .int (v1)), (2, .int (v2)), (3, .long (v3)), (5, .int (v5))] → (∀ (H : Heap) (locs : List Loc) (ls : Array Slot), xs_G D ad cs s (xs_A ad s.heap.size) s.heap μ0 H locs → lv_has ls 6 [(0, .ref (ad (14 + 7 * k))), (1, .int (v1)), (2, .int (v2)), (3, .long (z.1)), (5, .int (z.2))] → W p l e (xs_rm 1 23) s m ([.ref (ad (14 + 7 * k)), .int (x0), .int (x1)] : List Value).toArray below meth c H locs 0 0 (xs_E below D ad cs [.ref (ad (14 + 7 * k)), .int (x0), .int (x1)] s (some (.long rz)) μ0) (F0 m 40 ls [])) → W p l e (xs_rm 1 23) s m ([.ref (ad (14 + 7 * k)), .int (x0), .int (x1)] : List Value).toArray below meth c H locs 0 0 (xs_E below D ad cs [.ref (ad (14 + 7 * k)), .int (x0), .int (x1)] s (some (.long rz)) μ0) (F0 m 5 ls []) := by
    clear hE hl G
    intro fu
    induction fu with
    | zero =>
      intro v1 v2 v3 v5 H locs ls z hE
      rw [fn_T_depthOver_L5] at hE
      cases hE
    | succ fu ih =>
      intro v1 v2 v3 v5 H locs ls z hE G hl kk
      rw [fn_T_depthOver_L5] at hE
      refine lv_iload (pc := 5) hx hb d_T_depthOver_5 (lv_at hl 4 rfl) ?_
      refine lv_iconst (pc := 7) (v := (3 : Int32)) hx hb d_T_depthOver_7 (by decide) ?_
      refine lv_icmp_ge (pc := 8) (tgt := 40) hx hb d_T_depthOver_8 (by decide) (fun hc => ?_) (fun hc => ?_)
      · have hE := xs_t hE hc
        cases hE
        exact kk _ _ _ G (lv_sub hl [0, 1, 2, 3, 4] rfl)
      · have hE := xs_f hE hc
        refine lv_lload_n (pc := 11) hx hb d_T_depthOver_11 rfl (lv_at hl 3 rfl) ?_
        refine lv_aload_n (pc := 12) hx hb d_T_depthOver_12 rfl (lv_at hl 0 rfl) ?_
        refine lv_iload (pc := 13) hx hb d_T_depthOver_13 (lv_at hl 4 rfl) ?_
        refine lv_iload_n (pc := 15) hx hb d_T_depthOver_15 rfl (lv_at hl 1 rfl) ?_
        refine lv_iload_n (pc := 16) hx hb d_T_depthOver_16 rfl (lv_at hl 2 rfl) ?_
        obtain ⟨w1, hw1, hE⟩ := xs_b hE
        refine xs_callVr (pc := 17) (as := [.int (v5), .int (v1), .int (v2)]) X (ok_T_weightAt l D ad cs hJ hk hw1) km_T_62 G (xs_wT ad cs _ hk) rfl ⟨by decide, by decide⟩ ⟨Nat.zero_le _, Nat.zero_le _⟩ rfl hl.1 rfl (Nat.le_of_ble_eq_true rfl) d_T_depthOver_17 (fun H locs G => ?_)
        refine lv_aload_n (pc := 20) hx hb d_T_depthOver_20 rfl (lv_at hl 0 rfl) ?_
        refine gf_T_11 (pc := 21) X G hk d_T_depthOver_21 ?_
        refine lv_iload (pc := 24) hx hb d_T_depthOver_24 (lv_at hl 4 rfl) ?_
        refine lv_iconst (pc := 26) (v := (4 : Int32)) hx hb d_T_depthOver_26 (by decide) ?_
        refine lv_imul (pc := 27) hx hb d_T_depthOver_27 ?_
        refine lv_iconst (pc := 28) (v := (4 : Int32)) hx hb d_T_depthOver_28 (by decide) ?_
        refine lv_iadd (pc := 29) hx hb d_T_depthOver_29 ?_
        obtain ⟨hi2, hE⟩ := xs_n hE
        refine xs_lald (pc := 30) hx hb G (la_T1 hk) (xs_inP hi2) d_T_depthOver_30 ?_
        refine lv_lmul (pc := 31) hx hb d_T_depthOver_31 ?_
        refine lv_ladd (pc := 32) hx hb d_T_depthOver_32 ?_
        obtain ⟨a3, ha3, hE⟩ := xs_b hE
        refine xs_tl ha3 ?_
        clear ha3
        refine lv_lstore_n (pc := 33) hx hb d_T_depthOver_33 rfl hl (by decide) (lv' := [(3, .long (a3)), (0, .ref (ad (14 + 7 * k))), (1, .int (v1)), (2, .int (v2)), (5, .int (v5))]) rfl (fun ls hl => ?_)
        refine lv_iinc (pc := 34) (v := (v5 + 1)) (k := 4) hx hb d_T_depthOver_34 hl rfl (xs_inc _) (by decide) (lv' := [(5, .int ((v5 + 1))), (3, .long (a3)), (0, .ref (ad (14 + 7 * k))), (1, .int (v1)), (2, .int (v2))]) rfl (fun ls hl => ?_)
        refine lv_goto (pc := 37) (tgt := 5) hx hb d_T_depthOver_37 (by decide) ?_
        exact ih _ _ _ _ _ _ _ _ hE G (lv_sub hl [2, 3, 4, 1, 0] rfl) kk
  unfold fn_T_depthOver at hE
  refine lv_lconst (pc := 0) (v := (0 : Int64)) hx hb d_T_depthOver_0 (by decide) ?_
  refine lv_lstore_n (pc := 1) hx hb d_T_depthOver_1 rfl hl (by decide) (lv' := [(3, .long ((0 : Int64))), (0, .ref (ad (14 + 7 * k))), (1, .int (x0)), (2, .int (x1))]) rfl (fun ls hl => ?_)
  refine lv_iconst (pc := 2) (v := (0 : Int32)) hx hb d_T_depthOver_2 (by decide) ?_
  refine lv_istore (pc := 3) hx hb d_T_depthOver_3 hl (by decide) (lv' := [(5, .int ((0 : Int32))), (3, .long ((0 : Int64))), (0, .ref (ad (14 + 7 * k))), (1, .int (x0)), (2, .int (x1))]) rfl (fun ls hl => ?_)
  obtain ⟨z4, hz4, hE⟩ := xs_b hE
  refine L5 _ _ _ _ _ _ _ _ _ hz4 G (lv_sub hl [2, 3, 4, 1, 0] rfl) (fun H locs ls G hl => ?_)
  refine lv_lload_n (pc := 40) hx hb d_T_depthOver_40 rfl (lv_at hl 3 rfl) ?_
  cases hE
  exact xs_lret (pc := 41) hx hb hr hlk G d_T_depthOver_41
def fn_T_weigh_L9 : Nat → xs_M → Nat → Nat → Int32 → Int32 → Int64 → Int64 → Int32 →  Option (Int64 × Int64 × Int32)
  | 0, _, _, _, _, _, _, _, _ => none
  | fu + 1, μ0, k, q0, v2, v3, v4, v6, v8 => (if (3 : Int32) ≤ v8 then some ((v4, v6, v8)) else ((fn_T_weightAt μ0 k v8 v2 v3).bind fun w1 => (if xs_in v8 3 = true then ((some (v4 + (w1 * ((μ0.1 q0 v8.toNatClampNeg)).toInt64))).bind fun a3 => ((some (v6 + w1)).bind fun a4 => fn_T_weigh_L9 fu μ0 k q0 v2 v3 a3 a4 (v8 + 1))) else none)))
def fn_T_weigh (μ0 : xs_M) (k : Nat) (q0 : Nat) (x1 : Int32) (x2 : Int32) : Option Int64 :=
  ((fn_T_weigh_L9 xs_FU μ0 k q0 x1 x2 (0 : Int64) (0 : Int64) (0 : Int32)).bind fun z5 => ((fn_S_cutDown μ0 z5.1 z5.2.1).bind fun w6 => some (w6)))
set_option maxHeartbeats 4000000 in
set_option maxRecDepth 100000 in
theorem ok_T_weigh (l : Launch) (D : va_G) (ad : Nat → Nat) (cs : xs_cs) (hJ : xs_J ad) {μ0 : xs_M} {k : Nat} {q0 : Nat} {x1 : Int32} {x2 : Int32} (hk : k < 20) (hq0 : xs_IA ad cs q0 3) {rz : Int64} (hE : fn_T_weigh μ0 k q0 x1 x2 = some rz) : xs_I l D ad cs y_T_weigh b_T_weigh 11 (some .long) 2 48 [.ref (ad (14 + 7 * k)), .ref (ad q0), .int (x1), .int (x2)] μ0 (some (.long rz)) μ0 := by
  refine xs_entry hJ (by decide) (Nat.le_of_ble_eq_true rfl) ?_
  intro p e s m below meth c ls X hr hlk G hl
  have X : xs_C p s m c b_T_weigh 11 _ "ExactScene$Triangle" := X
  have hx := X.1
  have hb := X.2.1
  have hl : lv_has ls 11 [(0, .ref (ad (14 + 7 * k))), (1, .ref (ad q0)), (2, .int (x1)), (3, .int (x2))] := hl
  have L9 : ∀ (fu : Nat) (v2 : Int32) (v3 : Int32) (v4 : Int64) (v6 : Int64) (v8 : Int32) (H : Heap) (locs : List Loc) (ls : Array Slot) (z : (Int64 × Int64 × Int32)), fn_T_weigh_L9 fu μ0 k q0 v2 v3 v4 v6 v8 = some z → xs_G D ad cs s (xs_A ad s.heap.size) s.heap μ0 H locs → lv_has ls 11 [(0, .ref (ad (14 + 7 * k))), (1, .ref (ad q0)), (2, .int (v2)), (3, .int (v3)), (4, .long (v4)), (6, .long (v6)), (8, .int (v8))] → (∀ (H : Heap) (locs : List Loc) (ls : Array Slot), xs_G D ad cs s (xs_A ad s.heap.size) s.heap μ0 H locs → lv_has ls 11 [(0, .ref (ad (14 + 7 * k))), (1, .ref (ad q0)), (2, .int (v2)), (3, .int (v3)), (4, .long (z.1)), (6, .long (z.2.1)), (8, .int (z.2.2))] → W p l e (xs_rm 2 48) s m ([.ref (ad (14 + 7 * k)), .ref (ad q0), .int (x1), .int (x2)] : List Value).toArray below meth c H locs 0 0 (xs_E below D ad cs [.ref (ad (14 + 7 * k)), .ref (ad q0), .int (x1), .int (x2)] s (some (.long rz)) μ0) (F0 m 51 ls [])) → W p l e (xs_rm 2 48) s m ([.ref (ad (14 + 7 * k)), .ref (ad q0), .int (x1), .int (x2)] : List Value).toArray below meth c H locs 0 0 (xs_E below D ad cs [.ref (ad (14 + 7 * k)), .ref (ad q0), .int (x1), .int (x2)] s (some (.long rz)) μ0) (F0 m 9 ls []) := by
    clear hE hl G
    intro fu
    induction fu with
    | zero =>
      intro v2 v3 v4 v6 v8 H locs ls z hE
      rw [fn_T_weigh_L9] at hE
      cases hE
    | succ fu ih =>
      intro v2 v3 v4 v6 v8 H locs ls z hE G hl kk
      rw [fn_T_weigh_L9] at hE
      refine lv_iload (pc := 9) hx hb d_T_weigh_9 (lv_at hl 6 rfl) ?_
      refine lv_iconst (pc := 11) (v := (3 : Int32)) hx hb d_T_weigh_11 (by decide) ?_
      refine lv_icmp_ge (pc := 12) (tgt := 51) hx hb d_T_weigh_12 (by decide) (fun hc => ?_) (fun hc => ?_)
      · have hE := xs_t hE hc
        cases hE
        exact kk _ _ _ G (lv_sub hl [0, 1, 2, 3, 4, 5, 6] rfl)
      · have hE := xs_f hE hc
        refine lv_aload_n (pc := 15) hx hb d_T_weigh_15 rfl (lv_at hl 0 rfl) ?_
        refine lv_iload (pc := 16) hx hb d_T_weigh_16 (lv_at hl 6 rfl) ?_
        refine lv_iload_n (pc := 18) hx hb d_T_weigh_18 rfl (lv_at hl 2 rfl) ?_
        refine lv_iload_n (pc := 19) hx hb d_T_weigh_19 rfl (lv_at hl 3 rfl) ?_
        obtain ⟨w1, hw1, hE⟩ := xs_b hE
        refine xs_callVr (pc := 20) (as := [.int (v8), .int (v2), .int (v3)]) X (ok_T_weightAt l D ad cs hJ hk hw1) km_T_62 G (xs_wT ad cs _ hk) rfl ⟨by decide, by decide⟩ ⟨Nat.zero_le _, Nat.zero_le _⟩ rfl hl.1 rfl (Nat.le_of_ble_eq_true rfl) d_T_weigh_20 (fun H locs G => ?_)
        refine lv_lstore (pc := 23) hx hb d_T_weigh_23 hl (by decide) (lv' := [(9, .long (w1)), (0, .ref (ad (14 + 7 * k))), (1, .ref (ad q0)), (2, .int (v2)), (3, .int (v3)), (4, .long (v4)), (6, .long (v6)), (8, .int (v8))]) rfl (fun ls hl => ?_)
        refine lv_lload (pc := 25) hx hb d_T_weigh_25 (lv_at hl 5 rfl) ?_
        refine lv_lload (pc := 27) hx hb d_T_weigh_27 (lv_at hl 0 rfl) ?_
        refine lv_aload_n (pc := 29) hx hb d_T_weigh_29 rfl (lv_at hl 2 rfl) ?_
        refine lv_iload (pc := 30) hx hb d_T_weigh_30 (lv_at hl 7 rfl) ?_
        obtain ⟨hi2, hE⟩ := xs_n hE
        refine xs_iald (pc := 32) hx hb G hq0 (xs_inP hi2) d_T_weigh_32 ?_
        refine lv_i2l (pc := 33) hx hb d_T_weigh_33 rfl ?_
        refine lv_lmul (pc := 34) hx hb d_T_weigh_34 ?_
        refine lv_ladd (pc := 35) hx hb d_T_weigh_35 ?_
        obtain ⟨a3, ha3, hE⟩ := xs_b hE
        refine xs_tl ha3 ?_
        clear ha3
        refine lv_lstore (pc := 36) hx hb d_T_weigh_36 hl (by decide) (lv' := [(4, .long (a3)), (9, .long (w1)), (0, .ref (ad (14 + 7 * k))), (1, .ref (ad q0)), (2, .int (v2)), (3, .int (v3)), (6, .long (v6)), (8, .int (v8))]) rfl (fun ls hl => ?_)
        refine lv_lload (pc := 38) hx hb d_T_weigh_38 (lv_at hl 6 rfl) ?_
        refine lv_lload (pc := 40) hx hb d_T_weigh_40 (lv_at hl 1 rfl) ?_
        refine lv_ladd (pc := 42) hx hb d_T_weigh_42 ?_
        obtain ⟨a4, ha4, hE⟩ := xs_b hE
        refine xs_tl ha4 ?_
        clear ha4
        refine lv_lstore (pc := 43) hx hb d_T_weigh_43 hl (by decide) (lv' := [(6, .long (a4)), (4, .long (a3)), (9, .long (w1)), (0, .ref (ad (14 + 7 * k))), (1, .ref (ad q0)), (2, .int (v2)), (3, .int (v3)), (8, .int (v8))]) rfl (fun ls hl => ?_)
        refine lv_iinc (pc := 45) (v := (v8 + 1)) (k := 7) hx hb d_T_weigh_45 hl rfl (xs_inc _) (by decide) (lv' := [(8, .int ((v8 + 1))), (6, .long (a4)), (4, .long (a3)), (9, .long (w1)), (0, .ref (ad (14 + 7 * k))), (1, .ref (ad q0)), (2, .int (v2)), (3, .int (v3))]) rfl (fun ls hl => ?_)
        refine lv_goto (pc := 48) (tgt := 9) hx hb d_T_weigh_48 (by decide) ?_
        exact ih _ _ _ _ _ _ _ _ _ hE G (lv_sub hl [4, 5, 6, 7, 2, 1, 0] rfl) kk
  unfold fn_T_weigh at hE
  refine lv_lconst (pc := 0) (v := (0 : Int64)) hx hb d_T_weigh_0 (by decide) ?_
  refine lv_lstore (pc := 1) hx hb d_T_weigh_1 hl (by decide) (lv' := [(4, .long ((0 : Int64))), (0, .ref (ad (14 + 7 * k))), (1, .ref (ad q0)), (2, .int (x1)), (3, .int (x2))]) rfl (fun ls hl => ?_)
  refine lv_lconst (pc := 3) (v := (0 : Int64)) hx hb d_T_weigh_3 (by decide) ?_
  refine lv_lstore (pc := 4) hx hb d_T_weigh_4 hl (by decide) (lv' := [(6, .long ((0 : Int64))), (4, .long ((0 : Int64))), (0, .ref (ad (14 + 7 * k))), (1, .ref (ad q0)), (2, .int (x1)), (3, .int (x2))]) rfl (fun ls hl => ?_)
  refine lv_iconst (pc := 6) (v := (0 : Int32)) hx hb d_T_weigh_6 (by decide) ?_
  refine lv_istore (pc := 7) hx hb d_T_weigh_7 hl (by decide) (lv' := [(8, .int ((0 : Int32))), (6, .long ((0 : Int64))), (4, .long ((0 : Int64))), (0, .ref (ad (14 + 7 * k))), (1, .ref (ad q0)), (2, .int (x1)), (3, .int (x2))]) rfl (fun ls hl => ?_)
  obtain ⟨z5, hz5, hE⟩ := xs_b hE
  refine L9 _ _ _ _ _ _ _ _ _ _ hz5 G (lv_sub hl [3, 4, 5, 6, 2, 1, 0] rfl) (fun H locs ls G hl => ?_)
  refine lv_lload (pc := 51) hx hb d_T_weigh_51 (lv_at hl 4 rfl) ?_
  refine lv_lload (pc := 53) hx hb d_T_weigh_53 (lv_at hl 5 rfl) ?_
  obtain ⟨w6, hw6, hE⟩ := xs_b hE
  refine xs_callSNr (pc := 55) (as := [.long (z5.1), .long (z5.2.1)]) X (ok_S_cutDown l D ad cs hJ hw6) km_T_74 G ⟨by decide, by decide⟩ ⟨Nat.zero_le _, Nat.zero_le _⟩ rfl hl.1 rfl (Nat.le_of_ble_eq_true rfl) d_T_weigh_55 (fun H locs G => ?_)
  cases hE
  exact xs_lret (pc := 58) hx hb hr hlk G d_T_weigh_58
def fn_T_textureU (μ0 : xs_M) (k : Nat) (x0 : Int32) (x1 : Int32) : Option Int64 :=
  ((fn_T_weigh μ0 k (14 + 7 * k + 2) x0 x1).bind fun w1 => some (w1))
set_option maxHeartbeats 4000000 in
set_option maxRecDepth 100000 in
theorem ok_T_textureU (l : Launch) (D : va_G) (ad : Nat → Nat) (cs : xs_cs) (hJ : xs_J ad) {μ0 : xs_M} {k : Nat} {x0 : Int32} {x1 : Int32} (hk : k < 20) {rz : Int64} (hE : fn_T_textureU μ0 k x0 x1 = some rz) : xs_I l D ad cs y_T_textureU b_T_textureU 3 (some .long) 3 78 [.ref (ad (14 + 7 * k)), .int (x0), .int (x1)] μ0 (some (.long rz)) μ0 := by
  refine xs_entry hJ (by decide) (Nat.le_of_ble_eq_true rfl) ?_
  intro p e s m below meth c ls X hr hlk G hl
  have X : xs_C p s m c b_T_textureU 3 _ "ExactScene$Triangle" := X
  have hx := X.1
  have hb := X.2.1
  have hl : lv_has ls 3 [(0, .ref (ad (14 + 7 * k))), (1, .int (x0)), (2, .int (x1))] := hl
  unfold fn_T_textureU at hE
  refine lv_aload_n (pc := 0) hx hb d_T_textureU_0 rfl (lv_at hl 0 rfl) ?_
  refine lv_aload_n (pc := 1) hx hb d_T_textureU_1 rfl (lv_at hl 0 rfl) ?_
  refine gf_T_15 (pc := 2) X G hk d_T_textureU_2 ?_
  refine lv_iload_n (pc := 5) hx hb d_T_textureU_5 rfl (lv_at hl 1 rfl) ?_
  refine lv_iload_n (pc := 6) hx hb d_T_textureU_6 rfl (lv_at hl 2 rfl) ?_
  obtain ⟨w1, hw1, hE⟩ := xs_b hE
  refine xs_callVr (pc := 7) (as := [.ref (ad (14 + 7 * k + 2)), .int (x0), .int (x1)]) X (ok_T_weigh l D ad cs hJ hk (ia_T2 hk) hw1) km_T_70 G (xs_wT ad cs _ hk) rfl ⟨by decide, by decide⟩ ⟨Nat.zero_le _, Nat.zero_le _⟩ rfl hl.1 rfl (Nat.le_of_ble_eq_true rfl) d_T_textureU_7 (fun H locs G => ?_)
  cases hE
  exact xs_lret (pc := 10) hx hb hr hlk G d_T_textureU_10
def fn_T_textureV (μ0 : xs_M) (k : Nat) (x0 : Int32) (x1 : Int32) : Option Int64 :=
  ((fn_T_weigh μ0 k (14 + 7 * k + 3) x0 x1).bind fun w1 => some (w1))
set_option maxHeartbeats 4000000 in
set_option maxRecDepth 100000 in
theorem ok_T_textureV (l : Launch) (D : va_G) (ad : Nat → Nat) (cs : xs_cs) (hJ : xs_J ad) {μ0 : xs_M} {k : Nat} {x0 : Int32} {x1 : Int32} (hk : k < 20) {rz : Int64} (hE : fn_T_textureV μ0 k x0 x1 = some rz) : xs_I l D ad cs y_T_textureV b_T_textureV 3 (some .long) 3 78 [.ref (ad (14 + 7 * k)), .int (x0), .int (x1)] μ0 (some (.long rz)) μ0 := by
  refine xs_entry hJ (by decide) (Nat.le_of_ble_eq_true rfl) ?_
  intro p e s m below meth c ls X hr hlk G hl
  have X : xs_C p s m c b_T_textureV 3 _ "ExactScene$Triangle" := X
  have hx := X.1
  have hb := X.2.1
  have hl : lv_has ls 3 [(0, .ref (ad (14 + 7 * k))), (1, .int (x0)), (2, .int (x1))] := hl
  unfold fn_T_textureV at hE
  refine lv_aload_n (pc := 0) hx hb d_T_textureV_0 rfl (lv_at hl 0 rfl) ?_
  refine lv_aload_n (pc := 1) hx hb d_T_textureV_1 rfl (lv_at hl 0 rfl) ?_
  refine gf_T_19 (pc := 2) X G hk d_T_textureV_2 ?_
  refine lv_iload_n (pc := 5) hx hb d_T_textureV_5 rfl (lv_at hl 1 rfl) ?_
  refine lv_iload_n (pc := 6) hx hb d_T_textureV_6 rfl (lv_at hl 2 rfl) ?_
  obtain ⟨w1, hw1, hE⟩ := xs_b hE
  refine xs_callVr (pc := 7) (as := [.ref (ad (14 + 7 * k + 3)), .int (x0), .int (x1)]) X (ok_T_weigh l D ad cs hJ hk (ia_T3 hk) hw1) km_T_70 G (xs_wT ad cs _ hk) rfl ⟨by decide, by decide⟩ ⟨Nat.zero_le _, Nat.zero_le _⟩ rfl hl.1 rfl (Nat.le_of_ble_eq_true rfl) d_T_textureV_7 (fun H locs G => ?_)
  cases hE
  exact xs_lret (pc := 10) hx hb hr hlk G d_T_textureV_10
def fn_T_numberAt (μ0 : xs_M) (k : Nat) (x0 : Int32) : Option Int64 :=
  (if xs_in x0 13 = true then some ((μ0.2 (14 + 7 * k + 1) x0.toNatClampNeg)) else none)
set_option maxHeartbeats 4000000 in
set_option maxRecDepth 100000 in
theorem ok_T_numberAt (l : Launch) (D : va_G) (ad : Nat → Nat) (cs : xs_cs) (hJ : xs_J ad) {μ0 : xs_M} {k : Nat} {x0 : Int32} (hk : k < 20) {rz : Int64} (hE : fn_T_numberAt μ0 k x0 = some rz) : xs_I l D ad cs y_T_numberAt b_T_numberAt 2 (some .long) 0 0 [.ref (ad (14 + 7 * k)), .int (x0)] μ0 (some (.long rz)) μ0 := by
  refine xs_entry hJ (by decide) (Nat.le_of_ble_eq_true rfl) ?_
  intro p e s m below meth c ls X hr hlk G hl
  have X : xs_C p s m c b_T_numberAt 2 _ "ExactScene$Triangle" := X
  have hx := X.1
  have hb := X.2.1
  have hl : lv_has ls 2 [(0, .ref (ad (14 + 7 * k))), (1, .int (x0))] := hl
  unfold fn_T_numberAt at hE
  refine lv_aload_n (pc := 0) hx hb d_T_numberAt_0 rfl (lv_at hl 0 rfl) ?_
  refine gf_T_11 (pc := 1) X G hk d_T_numberAt_1 ?_
  refine lv_iload_n (pc := 4) hx hb d_T_numberAt_4 rfl (lv_at hl 1 rfl) ?_
  obtain ⟨hi1, hE⟩ := xs_n hE
  refine xs_lald (pc := 5) hx hb G (la_T1 hk) (xs_inP hi1) d_T_numberAt_5 ?_
  cases hE
  exact xs_lret (pc := 6) hx hb hr hlk G d_T_numberAt_6
