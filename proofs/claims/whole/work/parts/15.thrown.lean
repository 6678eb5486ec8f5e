/-! fields, calls, constants: a row for each place of a pool -/
section XSG
variable {p : Program} {l : Launch} {e : Env} {R : Room} {s : State} {m : MethodId} {args : Array Value} {below : List Frame} {meth : Method} {c : Code} {H : Heap} {locs : List Loc} {cells slots : Nat} {Q : State → Prop}
variable {cc : ByteArray} {pc : Nat} {ls : Array Slot} {rest : List Value} {D : va_G} {ad : Nat → Nat} {cs : xs_cs} {A : Nat → Prop} {H0 : Heap} {μ : xs_M} {nL : Nat}

end XSG
theorem km_S_37 : xs_kS "ExactScene" 37 y_M_isLine b_M_isLine 1 (some .boolean) 1 := ⟨xs_tg 265 (by decide +kernel) (by decide +kernel), ws_M_isLine, wi_M, wc_M_isLine, by decide, by decide, by decide +kernel⟩
theorem km_S_48 : xs_kS "ExactScene" 48 y_M_isEntry b_M_isEntry 2 (some .boolean) 1 := ⟨xs_tg 338 (by decide +kernel) (by decide +kernel), ws_M_isEntry, wi_M, wc_M_isEntry, by decide, by decide, by decide +kernel⟩
theorem km_S_54 : xs_kV "ExactScene" 54 y_M_setRow b_M_setRow 6 none 5 := ⟨xs_tg 344 (by decide +kernel) (by decide +kernel), ⟨ws_M_setRow, wl_M_setRow⟩, wi_M, wc_M_setRow, by decide, by decide, by decide +kernel⟩
theorem km_S_58 : xs_kV "ExactScene" 58 y_M_multiplyByMove b_M_multiplyByMove 4 (some .boolean) 3 := ⟨xs_tg 356 (by decide +kernel) (by decide +kernel), ⟨ws_M_multiplyByMove, wl_M_multiplyByMove⟩, wi_M, wc_M_multiplyByMove, by decide, by decide, by decide +kernel⟩
theorem km_S_67 : xs_kV "ExactScene" 67 y_M_multiplyByStretch b_M_multiplyByStretch 4 (some .boolean) 3 := ⟨xs_tg 395 (by decide +kernel) (by decide +kernel), ⟨ws_M_multiplyByStretch, wl_M_multiplyByStretch⟩, wi_M, wc_M_multiplyByStretch, by decide, by decide, by decide +kernel⟩
theorem km_S_75 : xs_kV "ExactScene" 75 y_M_quarterTurn b_M_quarterTurn 5 none 2 := ⟨xs_tg 407 (by decide +kernel) (by decide +kernel), ⟨ws_M_quarterTurn, wl_M_quarterTurn⟩, wi_M, wc_M_quarterTurn, by decide, by decide, by decide +kernel⟩
theorem km_S_79 : xs_kV "ExactScene" 79 y_M_isPileEmpty b_M_isPileEmpty 1 (some .boolean) 0 := ⟨xs_tg 419 (by decide +kernel) (by decide +kernel), ⟨ws_M_isPileEmpty, wl_M_isPileEmpty⟩, wi_M, wc_M_isPileEmpty, by decide, by decide, by decide +kernel⟩
theorem km_S_88 : xs_kV "ExactScene" 88 y_M_multiplyLatestByCurrent b_M_multiplyLatestByCurrent 2 (some .boolean) 0 := ⟨xs_tg 439 (by decide +kernel) (by decide +kernel), ⟨ws_M_multiplyLatestByCurrent, wl_M_multiplyLatestByCurrent⟩, wi_M, wc_M_multiplyLatestByCurrent, by decide, by decide, by decide +kernel⟩
theorem km_S_91 : xs_kV "ExactScene" 91 y_M_isPileFull b_M_isPileFull 1 (some .boolean) 0 := ⟨xs_tg 450 (by decide +kernel) (by decide +kernel), ⟨ws_M_isPileFull, wl_M_isPileFull⟩, wi_M, wc_M_isPileFull, by decide, by decide, by decide +kernel⟩
theorem km_S_96 : xs_kV "ExactScene" 96 y_M_save b_M_save 1 none 0 := ⟨xs_tg 455 (by decide +kernel) (by decide +kernel), ⟨ws_M_save, wl_M_save⟩, wi_M, wc_M_save, by decide, by decide, by decide +kernel⟩
theorem km_S_99 : xs_kV "ExactScene" 99 y_M_restore b_M_restore 1 none 0 := ⟨xs_tg 466 (by decide +kernel) (by decide +kernel), ⟨ws_M_restore, wl_M_restore⟩, wi_M, wc_M_restore, by decide, by decide, by decide +kernel⟩
theorem km_S_107 : xs_kV "ExactScene" 107 y_M_entryAt b_M_entryAt 3 (some .int) 2 := ⟨xs_tg 494 (by decide +kernel) (by decide +kernel), ⟨ws_M_entryAt, wl_M_entryAt⟩, wi_M, wc_M_entryAt, by decide, by decide, by decide +kernel⟩
theorem km_S_111 : xs_kS "ExactScene" 111 y_S_isPlace b_S_isPlace 1 (some .boolean) 1 := ⟨xs_tg 505 (by decide +kernel) (by decide +kernel), ws_S_isPlace, wi_S, wc_S_isPlace, by decide, by decide, by decide +kernel⟩
theorem km_S_116 : xs_kS "ExactScene" 116 y_S_isTexturePlace b_S_isTexturePlace 1 (some .boolean) 1 := ⟨xs_tg 509 (by decide +kernel) (by decide +kernel), ws_S_isTexturePlace, wi_S, wc_S_isTexturePlace, by decide, by decide, by decide +kernel⟩
theorem km_S_127 : xs_kV "ExactScene" 127 y_S_addCorner b_S_addCorner 8 none 5 := ⟨xs_tg 514 (by decide +kernel) (by decide +kernel), ⟨ws_S_addCorner, wl_S_addCorner⟩, wi_S, wc_S_addCorner, by decide, by decide, by decide +kernel⟩
theorem km_S_142 : xs_kS "ExactScene" 142 y_X_isLine b_X_isLine 1 (some .boolean) 1 := ⟨xs_tg 562 (by decide +kernel) (by decide +kernel), ws_X_isLine, wi_X, wc_X_isLine, by decide, by decide, by decide +kernel⟩
theorem km_S_149 : xs_kV "ExactScene" 149 y_X_exchange b_X_exchange 4 (some .int) 2 := ⟨xs_tg 566 (by decide +kernel) (by decide +kernel), ⟨ws_X_exchange, wl_X_exchange⟩, wi_X, wc_X_exchange, by decide, by decide, by decide +kernel⟩
theorem km_S_170 : xs_kS "ExactScene" 170 y_P_isPixel b_P_isPixel 2 (some .boolean) 2 := ⟨xs_tg 577 (by decide +kernel) (by decide +kernel), ws_P_isPixel, wi_P, wc_P_isPixel, by decide, by decide, by decide +kernel⟩
theorem km_S_190 : xs_kV "ExactScene" 190 y_P_compareDepths b_P_compareDepths 3 (some .int) 2 := ⟨xs_tg 597 (by decide +kernel) (by decide +kernel), ⟨ws_P_compareDepths, wl_P_compareDepths⟩, wi_P, wc_P_compareDepths, by decide, by decide, by decide +kernel⟩
theorem km_S_195 : xs_kV "ExactScene" 195 y_P_wholeDepth b_P_wholeDepth 2 (some .long) 1 := ⟨xs_tg 609 (by decide +kernel) (by decide +kernel), ⟨ws_P_wholeDepth, wl_P_wholeDepth⟩, wi_P, wc_P_wholeDepth, by decide, by decide, by decide +kernel⟩
theorem km_S_201 : xs_kV "ExactScene" 201 y_T_numberAt b_T_numberAt 2 (some .long) 1 := ⟨xs_tg 622 (by decide +kernel) (by decide +kernel), ⟨ws_T_numberAt, wl_T_numberAt⟩, wi_T, wc_T_numberAt, by decide, by decide, by decide +kernel⟩
/-! words of the throws -/
theorem wk_41 : Cond.classLink "ExactScene" 41 "java/lang/IllegalArgumentException" ∈ xs_TG := xs_tg 269 (by decide +kernel) (by decide +kernel)
theorem wi9_41 : Cond.initialized "java/lang/IllegalArgumentException" ∈ xs_TG := xs_tg 10 (by decide +kernel) (by decide +kernel)
theorem wa_45 : ∀ w ∈ (Bundle.ownAtoms "ExactScene" 45 "java/lang/IllegalArgumentException" ["java/lang/RuntimeException", "java/lang/Exception"]).filter xt_no, w ∈ xs_TG ∨ w ∈ xs_TF := fun w hw => of_decide_eq_true (List.all_eq_true.mp (show ((Bundle.ownAtoms "ExactScene" 45 "java/lang/IllegalArgumentException" ["java/lang/RuntimeException", "java/lang/Exception"]).filter xt_no).all (fun w => decide (w ∈ xs_TG ∨ w ∈ xs_TF)) = true by decide +kernel) w hw)
theorem wk_62 : Cond.classLink "ExactScene" 62 "java/lang/ArithmeticException" ∈ xs_TG := xs_tg 372 (by decide +kernel) (by decide +kernel)
theorem wi9_62 : Cond.initialized "java/lang/ArithmeticException" ∈ xs_TG := xs_tg 12 (by decide +kernel) (by decide +kernel)
theorem wa_66 : ∀ w ∈ (Bundle.ownAtoms "ExactScene" 66 "java/lang/ArithmeticException" ["java/lang/RuntimeException", "java/lang/Exception"]).filter xt_no, w ∈ xs_TG ∨ w ∈ xs_TF := fun w hw => of_decide_eq_true (List.all_eq_true.mp (show ((Bundle.ownAtoms "ExactScene" 66 "java/lang/ArithmeticException" ["java/lang/RuntimeException", "java/lang/Exception"]).filter xt_no).all (fun w => decide (w ∈ xs_TG ∨ w ∈ xs_TF)) = true by decide +kernel) w hw)
theorem wk_83 : Cond.classLink "ExactScene" 83 "java/lang/IllegalStateException" ∈ xs_TG := xs_tg 423 (by decide +kernel) (by decide +kernel)
theorem wi9_83 : Cond.initialized "java/lang/IllegalStateException" ∈ xs_TG := xs_tg 13 (by decide +kernel) (by decide +kernel)
theorem wa_87 : ∀ w ∈ (Bundle.ownAtoms "ExactScene" 87 "java/lang/IllegalStateException" ["java/lang/RuntimeException", "java/lang/Exception"]).filter xt_no, w ∈ xs_TG ∨ w ∈ xs_TF := fun w hw => of_decide_eq_true (List.all_eq_true.mp (show ((Bundle.ownAtoms "ExactScene" 87 "java/lang/IllegalStateException" ["java/lang/RuntimeException", "java/lang/Exception"]).filter xt_no).all (fun w => decide (w ∈ xs_TG ∨ w ∈ xs_TF)) = true by decide +kernel) w hw)
theorem wk_102 : Cond.classLink "ExactScene" 102 "java/lang/IndexOutOfBoundsException" ∈ xs_TG := xs_tg 478 (by decide +kernel) (by decide +kernel)
theorem wi9_102 : Cond.initialized "java/lang/IndexOutOfBoundsException" ∈ xs_TG := xs_tg 14 (by decide +kernel) (by decide +kernel)
theorem wa_106 : ∀ w ∈ (Bundle.ownAtoms "ExactScene" 106 "java/lang/IndexOutOfBoundsException" ["java/lang/RuntimeException", "java/lang/Exception"]).filter xt_no, w ∈ xs_TG ∨ w ∈ xs_TF := fun w hw => of_decide_eq_true (List.all_eq_true.mp (show ((Bundle.ownAtoms "ExactScene" 106 "java/lang/IndexOutOfBoundsException" ["java/lang/RuntimeException", "java/lang/Exception"]).filter xt_no).all (fun w => decide (w ∈ xs_TG ∨ w ∈ xs_TF)) = true by decide +kernel) w hw)
theorem d_S_row_0 : decode b_S_row 0 = .ok (.iload_n 1, 1) := by decide +kernel
theorem d_S_row_1 : decode b_S_row 1 = .ok (.invokestatic 37, 3) := by decide +kernel
theorem d_S_row_4 : decode b_S_row 4 = .ok (.ifCond .ne (13), 3) := by decide +kernel
theorem d_S_row_7 : decode b_S_row 7 = .ok (.new 41, 3) := by decide +kernel
theorem d_S_row_10 : decode b_S_row 10 = .ok (.dup, 1) := by decide +kernel
theorem d_S_row_11 : decode b_S_row 11 = .ok (.ldc 43, 2) := by decide +kernel
theorem d_S_row_13 : decode b_S_row 13 = .ok (.invokespecial 45, 3) := by decide +kernel
theorem d_S_row_16 : decode b_S_row 16 = .ok (.athrow, 1) := by decide +kernel
theorem d_S_row_17 : decode b_S_row 17 = .ok (.iload_n 2, 1) := by decide +kernel
theorem d_S_row_18 : decode b_S_row 18 = .ok (.i2l, 1) := by decide +kernel
theorem d_S_row_19 : decode b_S_row 19 = .ok (.invokestatic 48, 3) := by decide +kernel
theorem d_S_row_22 : decode b_S_row 22 = .ok (.ifCond .eq (29), 3) := by decide +kernel
theorem d_S_row_25 : decode b_S_row 25 = .ok (.iload_n 3, 1) := by decide +kernel
theorem d_S_row_26 : decode b_S_row 26 = .ok (.i2l, 1) := by decide +kernel
theorem d_S_row_27 : decode b_S_row 27 = .ok (.invokestatic 48, 3) := by decide +kernel
theorem d_S_row_30 : decode b_S_row 30 = .ok (.ifCond .eq (21), 3) := by decide +kernel
theorem d_S_row_33 : decode b_S_row 33 = .ok (.iload 4, 2) := by decide +kernel
theorem d_S_row_35 : decode b_S_row 35 = .ok (.i2l, 1) := by decide +kernel
theorem d_S_row_36 : decode b_S_row 36 = .ok (.invokestatic 48, 3) := by decide +kernel
theorem d_S_row_39 : decode b_S_row 39 = .ok (.ifCond .eq (12), 3) := by decide +kernel
theorem d_S_row_42 : decode b_S_row 42 = .ok (.iload 5, 2) := by decide +kernel
theorem d_S_row_44 : decode b_S_row 44 = .ok (.i2l, 1) := by decide +kernel
theorem d_S_row_45 : decode b_S_row 45 = .ok (.invokestatic 48, 3) := by decide +kernel
theorem d_S_row_48 : decode b_S_row 48 = .ok (.ifCond .ne (13), 3) := by decide +kernel
theorem d_S_row_51 : decode b_S_row 51 = .ok (.new 41, 3) := by decide +kernel
theorem d_S_row_54 : decode b_S_row 54 = .ok (.dup, 1) := by decide +kernel
theorem d_S_row_55 : decode b_S_row 55 = .ok (.ldc 52, 2) := by decide +kernel
theorem d_S_row_57 : decode b_S_row 57 = .ok (.invokespecial 45, 3) := by decide +kernel
theorem d_S_row_60 : decode b_S_row 60 = .ok (.athrow, 1) := by decide +kernel
theorem d_S_row_61 : decode b_S_row 61 = .ok (.aload_n 0, 1) := by decide +kernel
theorem d_S_row_62 : decode b_S_row 62 = .ok (.getfield 10, 3) := by decide +kernel
theorem d_S_row_65 : decode b_S_row 65 = .ok (.iload_n 1, 1) := by decide +kernel
theorem d_S_row_66 : decode b_S_row 66 = .ok (.iload_n 2, 1) := by decide +kernel
theorem d_S_row_67 : decode b_S_row 67 = .ok (.iload_n 3, 1) := by decide +kernel
theorem d_S_row_68 : decode b_S_row 68 = .ok (.iload 4, 2) := by decide +kernel
theorem d_S_row_70 : decode b_S_row 70 = .ok (.iload 5, 2) := by decide +kernel
theorem d_S_row_72 : decode b_S_row 72 = .ok (.invokevirtual 54, 3) := by decide +kernel
theorem d_S_row_75 : decode b_S_row 75 = .ok (.return_, 1) := by decide +kernel
theorem d_S_move_0 : decode b_S_move 0 = .ok (.aload_n 0, 1) := by decide +kernel
theorem d_S_move_1 : decode b_S_move 1 = .ok (.getfield 10, 3) := by decide +kernel
theorem d_S_move_4 : decode b_S_move 4 = .ok (.iload_n 1, 1) := by decide +kernel
theorem d_S_move_5 : decode b_S_move 5 = .ok (.iload_n 2, 1) := by decide +kernel
theorem d_S_move_6 : decode b_S_move 6 = .ok (.iload_n 3, 1) := by decide +kernel
theorem d_S_move_7 : decode b_S_move 7 = .ok (.invokevirtual 58, 3) := by decide +kernel
theorem d_S_move_10 : decode b_S_move 10 = .ok (.ifCond .ne (13), 3) := by decide +kernel
theorem d_S_move_13 : decode b_S_move 13 = .ok (.new 62, 3) := by decide +kernel
theorem d_S_move_16 : decode b_S_move 16 = .ok (.dup, 1) := by decide +kernel
theorem d_S_move_17 : decode b_S_move 17 = .ok (.ldc 64, 2) := by decide +kernel
theorem d_S_move_19 : decode b_S_move 19 = .ok (.invokespecial 66, 3) := by decide +kernel
theorem d_S_move_22 : decode b_S_move 22 = .ok (.athrow, 1) := by decide +kernel
theorem d_S_move_23 : decode b_S_move 23 = .ok (.return_, 1) := by decide +kernel
theorem d_S_stretch_0 : decode b_S_stretch 0 = .ok (.aload_n 0, 1) := by decide +kernel
theorem d_S_stretch_1 : decode b_S_stretch 1 = .ok (.getfield 10, 3) := by decide +kernel
theorem d_S_stretch_4 : decode b_S_stretch 4 = .ok (.iload_n 1, 1) := by decide +kernel
theorem d_S_stretch_5 : decode b_S_stretch 5 = .ok (.iload_n 2, 1) := by decide +kernel
theorem d_S_stretch_6 : decode b_S_stretch 6 = .ok (.iload_n 3, 1) := by decide +kernel
theorem d_S_stretch_7 : decode b_S_stretch 7 = .ok (.invokevirtual 67, 3) := by decide +kernel
theorem d_S_stretch_10 : decode b_S_stretch 10 = .ok (.ifCond .ne (13), 3) := by decide +kernel
theorem d_S_stretch_13 : decode b_S_stretch 13 = .ok (.new 62, 3) := by decide +kernel
theorem d_S_stretch_16 : decode b_S_stretch 16 = .ok (.dup, 1) := by decide +kernel
theorem d_S_stretch_17 : decode b_S_stretch 17 = .ok (.ldc 64, 2) := by decide +kernel
theorem d_S_stretch_19 : decode b_S_stretch 19 = .ok (.invokespecial 66, 3) := by decide +kernel
theorem d_S_stretch_22 : decode b_S_stretch 22 = .ok (.athrow, 1) := by decide +kernel
theorem d_S_stretch_23 : decode b_S_stretch 23 = .ok (.return_, 1) := by decide +kernel
theorem d_S_turn_0 : decode b_S_turn 0 = .ok (.iload_n 1, 1) := by decide +kernel
theorem d_S_turn_1 : decode b_S_turn 1 = .ok (.iconst 0, 1) := by decide +kernel
theorem d_S_turn_2 : decode b_S_turn 2 = .ok (.iconst 2, 1) := by decide +kernel
theorem d_S_turn_3 : decode b_S_turn 3 = .ok (.invokestatic 70, 3) := by decide +kernel
theorem d_S_turn_6 : decode b_S_turn 6 = .ok (.ifCond .ne (13), 3) := by decide +kernel
theorem d_S_turn_9 : decode b_S_turn 9 = .ok (.new 41, 3) := by decide +kernel
theorem d_S_turn_12 : decode b_S_turn 12 = .ok (.dup, 1) := by decide +kernel
theorem d_S_turn_13 : decode b_S_turn 13 = .ok (.ldc 73, 2) := by decide +kernel
theorem d_S_turn_15 : decode b_S_turn 15 = .ok (.invokespecial 45, 3) := by decide +kernel
theorem d_S_turn_18 : decode b_S_turn 18 = .ok (.athrow, 1) := by decide +kernel
theorem d_S_turn_19 : decode b_S_turn 19 = .ok (.aload_n 0, 1) := by decide +kernel
theorem d_S_turn_20 : decode b_S_turn 20 = .ok (.getfield 10, 3) := by decide +kernel
theorem d_S_turn_23 : decode b_S_turn 23 = .ok (.iload_n 1, 1) := by decide +kernel
theorem d_S_turn_24 : decode b_S_turn 24 = .ok (.iconst 1, 1) := by decide +kernel
theorem d_S_turn_25 : decode b_S_turn 25 = .ok (.iadd, 1) := by decide +kernel
theorem d_S_turn_26 : decode b_S_turn 26 = .ok (.iconst 3, 1) := by decide +kernel
theorem d_S_turn_27 : decode b_S_turn 27 = .ok (.irem, 1) := by decide +kernel
theorem d_S_turn_28 : decode b_S_turn 28 = .ok (.iload_n 1, 1) := by decide +kernel
theorem d_S_turn_29 : decode b_S_turn 29 = .ok (.iconst 2, 1) := by decide +kernel
theorem d_S_turn_30 : decode b_S_turn 30 = .ok (.iadd, 1) := by decide +kernel
theorem d_S_turn_31 : decode b_S_turn 31 = .ok (.iconst 3, 1) := by decide +kernel
theorem d_S_turn_32 : decode b_S_turn 32 = .ok (.irem, 1) := by decide +kernel
theorem d_S_turn_33 : decode b_S_turn 33 = .ok (.invokevirtual 75, 3) := by decide +kernel
theorem d_S_turn_36 : decode b_S_turn 36 = .ok (.return_, 1) := by decide +kernel
theorem d_S_join_0 : decode b_S_join 0 = .ok (.aload_n 0, 1) := by decide +kernel
theorem d_S_join_1 : decode b_S_join 1 = .ok (.getfield 10, 3) := by decide +kernel
theorem d_S_join_4 : decode b_S_join 4 = .ok (.invokevirtual 79, 3) := by decide +kernel
theorem d_S_join_7 : decode b_S_join 7 = .ok (.ifCond .eq (13), 3) := by decide +kernel
theorem d_S_join_10 : decode b_S_join 10 = .ok (.new 83, 3) := by decide +kernel
theorem d_S_join_13 : decode b_S_join 13 = .ok (.dup, 1) := by decide +kernel
theorem d_S_join_14 : decode b_S_join 14 = .ok (.ldc 85, 2) := by decide +kernel
theorem d_S_join_16 : decode b_S_join 16 = .ok (.invokespecial 87, 3) := by decide +kernel
theorem d_S_join_19 : decode b_S_join 19 = .ok (.athrow, 1) := by decide +kernel
theorem d_S_join_20 : decode b_S_join 20 = .ok (.aload_n 0, 1) := by decide +kernel
theorem d_S_join_21 : decode b_S_join 21 = .ok (.getfield 10, 3) := by decide +kernel
theorem d_S_join_24 : decode b_S_join 24 = .ok (.invokevirtual 88, 3) := by decide +kernel
theorem d_S_join_27 : decode b_S_join 27 = .ok (.ifCond .ne (13), 3) := by decide +kernel
theorem d_S_join_30 : decode b_S_join 30 = .ok (.new 62, 3) := by decide +kernel
theorem d_S_join_33 : decode b_S_join 33 = .ok (.dup, 1) := by decide +kernel
theorem d_S_join_34 : decode b_S_join 34 = .ok (.ldc 64, 2) := by decide +kernel
theorem d_S_join_36 : decode b_S_join 36 = .ok (.invokespecial 66, 3) := by decide +kernel
theorem d_S_join_39 : decode b_S_join 39 = .ok (.athrow, 1) := by decide +kernel
theorem d_S_join_40 : decode b_S_join 40 = .ok (.return_, 1) := by decide +kernel
theorem d_S_push_0 : decode b_S_push 0 = .ok (.aload_n 0, 1) := by decide +kernel
theorem d_S_push_1 : decode b_S_push 1 = .ok (.getfield 10, 3) := by decide +kernel
theorem d_S_push_4 : decode b_S_push 4 = .ok (.invokevirtual 91, 3) := by decide +kernel
theorem d_S_push_7 : decode b_S_push 7 = .ok (.ifCond .eq (13), 3) := by decide +kernel
theorem d_S_push_10 : decode b_S_push 10 = .ok (.new 83, 3) := by decide +kernel
theorem d_S_push_13 : decode b_S_push 13 = .ok (.dup, 1) := by decide +kernel
theorem d_S_push_14 : decode b_S_push 14 = .ok (.ldc 94, 2) := by decide +kernel
theorem d_S_push_16 : decode b_S_push 16 = .ok (.invokespecial 87, 3) := by decide +kernel
theorem d_S_push_19 : decode b_S_push 19 = .ok (.athrow, 1) := by decide +kernel
theorem d_S_push_20 : decode b_S_push 20 = .ok (.aload_n 0, 1) := by decide +kernel
theorem d_S_push_21 : decode b_S_push 21 = .ok (.getfield 10, 3) := by decide +kernel
theorem d_S_push_24 : decode b_S_push 24 = .ok (.invokevirtual 96, 3) := by decide +kernel
theorem d_S_push_27 : decode b_S_push 27 = .ok (.return_, 1) := by decide +kernel
theorem d_S_pop_0 : decode b_S_pop 0 = .ok (.aload_n 0, 1) := by decide +kernel
theorem d_S_pop_1 : decode b_S_pop 1 = .ok (.getfield 10, 3) := by decide +kernel
theorem d_S_pop_4 : decode b_S_pop 4 = .ok (.invokevirtual 79, 3) := by decide +kernel
theorem d_S_pop_7 : decode b_S_pop 7 = .ok (.ifCond .eq (13), 3) := by decide +kernel
theorem d_S_pop_10 : decode b_S_pop 10 = .ok (.new 83, 3) := by decide +kernel
theorem d_S_pop_13 : decode b_S_pop 13 = .ok (.dup, 1) := by decide +kernel
theorem d_S_pop_14 : decode b_S_pop 14 = .ok (.ldc 85, 2) := by decide +kernel
theorem d_S_pop_16 : decode b_S_pop 16 = .ok (.invokespecial 87, 3) := by decide +kernel
theorem d_S_pop_19 : decode b_S_pop 19 = .ok (.athrow, 1) := by decide +kernel
theorem d_S_pop_20 : decode b_S_pop 20 = .ok (.aload_n 0, 1) := by decide +kernel
theorem d_S_pop_21 : decode b_S_pop 21 = .ok (.getfield 10, 3) := by decide +kernel
theorem d_S_pop_24 : decode b_S_pop 24 = .ok (.invokevirtual 99, 3) := by decide +kernel
theorem d_S_pop_27 : decode b_S_pop 27 = .ok (.return_, 1) := by decide +kernel
theorem d_S_entry_0 : decode b_S_entry 0 = .ok (.iload_n 1, 1) := by decide +kernel
theorem d_S_entry_1 : decode b_S_entry 1 = .ok (.invokestatic 37, 3) := by decide +kernel
theorem d_S_entry_4 : decode b_S_entry 4 = .ok (.ifCond .eq (10), 3) := by decide +kernel
theorem d_S_entry_7 : decode b_S_entry 7 = .ok (.iload_n 2, 1) := by decide +kernel
theorem d_S_entry_8 : decode b_S_entry 8 = .ok (.invokestatic 37, 3) := by decide +kernel
theorem d_S_entry_11 : decode b_S_entry 11 = .ok (.ifCond .ne (13), 3) := by decide +kernel
theorem d_S_entry_14 : decode b_S_entry 14 = .ok (.new 102, 3) := by decide +kernel
theorem d_S_entry_17 : decode b_S_entry 17 = .ok (.dup, 1) := by decide +kernel
theorem d_S_entry_18 : decode b_S_entry 18 = .ok (.ldc 104, 2) := by decide +kernel
theorem d_S_entry_20 : decode b_S_entry 20 = .ok (.invokespecial 106, 3) := by decide +kernel
theorem d_S_entry_23 : decode b_S_entry 23 = .ok (.athrow, 1) := by decide +kernel
theorem d_S_entry_24 : decode b_S_entry 24 = .ok (.aload_n 0, 1) := by decide +kernel
theorem d_S_entry_25 : decode b_S_entry 25 = .ok (.getfield 10, 3) := by decide +kernel
theorem d_S_entry_28 : decode b_S_entry 28 = .ok (.iload_n 1, 1) := by decide +kernel
theorem d_S_entry_29 : decode b_S_entry 29 = .ok (.iload_n 2, 1) := by decide +kernel
theorem d_S_entry_30 : decode b_S_entry 30 = .ok (.invokevirtual 107, 3) := by decide +kernel
theorem d_S_entry_33 : decode b_S_entry 33 = .ok (.ireturn, 1) := by decide +kernel
theorem d_S_vertex_0 : decode b_S_vertex 0 = .ok (.iload_n 1, 1) := by decide +kernel
theorem d_S_vertex_1 : decode b_S_vertex 1 = .ok (.invokestatic 111, 3) := by decide +kernel
theorem d_S_vertex_4 : decode b_S_vertex 4 = .ok (.ifCond .eq (17), 3) := by decide +kernel
theorem d_S_vertex_7 : decode b_S_vertex 7 = .ok (.iload_n 2, 1) := by decide +kernel
theorem d_S_vertex_8 : decode b_S_vertex 8 = .ok (.invokestatic 111, 3) := by decide +kernel
theorem d_S_vertex_11 : decode b_S_vertex 11 = .ok (.ifCond .eq (10), 3) := by decide +kernel
theorem d_S_vertex_14 : decode b_S_vertex 14 = .ok (.iload_n 3, 1) := by decide +kernel
theorem d_S_vertex_15 : decode b_S_vertex 15 = .ok (.invokestatic 111, 3) := by decide +kernel
theorem d_S_vertex_18 : decode b_S_vertex 18 = .ok (.ifCond .ne (13), 3) := by decide +kernel
theorem d_S_vertex_21 : decode b_S_vertex 21 = .ok (.new 41, 3) := by decide +kernel
theorem d_S_vertex_24 : decode b_S_vertex 24 = .ok (.dup, 1) := by decide +kernel
theorem d_S_vertex_25 : decode b_S_vertex 25 = .ok (.ldc 114, 2) := by decide +kernel
theorem d_S_vertex_27 : decode b_S_vertex 27 = .ok (.invokespecial 45, 3) := by decide +kernel
theorem d_S_vertex_30 : decode b_S_vertex 30 = .ok (.athrow, 1) := by decide +kernel
theorem d_S_vertex_31 : decode b_S_vertex 31 = .ok (.iload 4, 2) := by decide +kernel
theorem d_S_vertex_33 : decode b_S_vertex 33 = .ok (.invokestatic 116, 3) := by decide +kernel
theorem d_S_vertex_36 : decode b_S_vertex 36 = .ok (.ifCond .eq (11), 3) := by decide +kernel
theorem d_S_vertex_39 : decode b_S_vertex 39 = .ok (.iload 5, 2) := by decide +kernel
theorem d_S_vertex_41 : decode b_S_vertex 41 = .ok (.invokestatic 116, 3) := by decide +kernel
theorem d_S_vertex_44 : decode b_S_vertex 44 = .ok (.ifCond .ne (13), 3) := by decide +kernel
theorem d_S_vertex_47 : decode b_S_vertex 47 = .ok (.new 41, 3) := by decide +kernel
theorem d_S_vertex_50 : decode b_S_vertex 50 = .ok (.dup, 1) := by decide +kernel
theorem d_S_vertex_51 : decode b_S_vertex 51 = .ok (.ldc 119, 2) := by decide +kernel
theorem d_S_vertex_53 : decode b_S_vertex 53 = .ok (.invokespecial 45, 3) := by decide +kernel
theorem d_S_vertex_56 : decode b_S_vertex 56 = .ok (.athrow, 1) := by decide +kernel
theorem d_S_vertex_57 : decode b_S_vertex 57 = .ok (.aload_n 0, 1) := by decide +kernel
theorem d_S_vertex_58 : decode b_S_vertex 58 = .ok (.getfield 121, 3) := by decide +kernel
theorem d_S_vertex_61 : decode b_S_vertex 61 = .ok (.bipush (20), 2) := by decide +kernel
theorem d_S_vertex_63 : decode b_S_vertex 63 = .ok (.if_icmp .lt (13), 3) := by decide +kernel
theorem d_S_vertex_66 : decode b_S_vertex 66 = .ok (.new 83, 3) := by decide +kernel
theorem d_S_vertex_69 : decode b_S_vertex 69 = .ok (.dup, 1) := by decide +kernel
theorem d_S_vertex_70 : decode b_S_vertex 70 = .ok (.ldc 125, 2) := by decide +kernel
theorem d_S_vertex_72 : decode b_S_vertex 72 = .ok (.invokespecial 87, 3) := by decide +kernel
theorem d_S_vertex_75 : decode b_S_vertex 75 = .ok (.athrow, 1) := by decide +kernel
theorem d_S_vertex_76 : decode b_S_vertex 76 = .ok (.aload_n 0, 1) := by decide +kernel
theorem d_S_vertex_77 : decode b_S_vertex 77 = .ok (.iload_n 1, 1) := by decide +kernel
theorem d_S_vertex_78 : decode b_S_vertex 78 = .ok (.iload_n 2, 1) := by decide +kernel
theorem d_S_vertex_79 : decode b_S_vertex 79 = .ok (.iload_n 3, 1) := by decide +kernel
theorem d_S_vertex_80 : decode b_S_vertex 80 = .ok (.iload 4, 2) := by decide +kernel
theorem d_S_vertex_82 : decode b_S_vertex 82 = .ok (.iload 5, 2) := by decide +kernel
theorem d_S_vertex_84 : decode b_S_vertex 84 = .ok (.invokevirtual 127, 3) := by decide +kernel
theorem d_S_vertex_87 : decode b_S_vertex 87 = .ok (.aload_n 0, 1) := by decide +kernel
theorem d_S_vertex_88 : decode b_S_vertex 88 = .ok (.getfield 121, 3) := by decide +kernel
theorem d_S_vertex_91 : decode b_S_vertex 91 = .ok (.ireturn, 1) := by decide +kernel
theorem d_S_texel_0 : decode b_S_texel 0 = .ok (.iload_n 1, 1) := by decide +kernel
theorem d_S_texel_1 : decode b_S_texel 1 = .ok (.invokestatic 130, 3) := by decide +kernel
theorem d_S_texel_4 : decode b_S_texel 4 = .ok (.ifCond .eq (17), 3) := by decide +kernel
theorem d_S_texel_7 : decode b_S_texel 7 = .ok (.iload_n 2, 1) := by decide +kernel
theorem d_S_texel_8 : decode b_S_texel 8 = .ok (.invokestatic 142, 3) := by decide +kernel
theorem d_S_texel_11 : decode b_S_texel 11 = .ok (.ifCond .eq (10), 3) := by decide +kernel
theorem d_S_texel_14 : decode b_S_texel 14 = .ok (.iload_n 3, 1) := by decide +kernel
theorem d_S_texel_15 : decode b_S_texel 15 = .ok (.invokestatic 142, 3) := by decide +kernel
theorem d_S_texel_18 : decode b_S_texel 18 = .ok (.ifCond .ne (13), 3) := by decide +kernel
theorem d_S_texel_21 : decode b_S_texel 21 = .ok (.new 102, 3) := by decide +kernel
theorem d_S_texel_24 : decode b_S_texel 24 = .ok (.dup, 1) := by decide +kernel
theorem d_S_texel_25 : decode b_S_texel 25 = .ok (.ldc 143, 2) := by decide +kernel
theorem d_S_texel_27 : decode b_S_texel 27 = .ok (.invokespecial 106, 3) := by decide +kernel
theorem d_S_texel_30 : decode b_S_texel 30 = .ok (.athrow, 1) := by decide +kernel
theorem d_S_texel_31 : decode b_S_texel 31 = .ok (.aload_n 0, 1) := by decide +kernel
theorem d_S_texel_32 : decode b_S_texel 32 = .ok (.getfield 19, 3) := by decide +kernel
theorem d_S_texel_35 : decode b_S_texel 35 = .ok (.iload_n 1, 1) := by decide +kernel
theorem d_S_texel_36 : decode b_S_texel 36 = .ok (.iload_n 2, 1) := by decide +kernel
theorem d_S_texel_37 : decode b_S_texel 37 = .ok (.iload_n 3, 1) := by decide +kernel
theorem d_S_texel_38 : decode b_S_texel 38 = .ok (.invokestatic 145, 3) := by decide +kernel
theorem d_S_texel_41 : decode b_S_texel 41 = .ok (.iload 4, 2) := by decide +kernel
theorem d_S_texel_43 : decode b_S_texel 43 = .ok (.sipush (255), 3) := by decide +kernel
theorem d_S_texel_46 : decode b_S_texel 46 = .ok (.iand, 1) := by decide +kernel
theorem d_S_texel_47 : decode b_S_texel 47 = .ok (.invokevirtual 149, 3) := by decide +kernel
theorem d_S_texel_50 : decode b_S_texel 50 = .ok (.ireturn, 1) := by decide +kernel
theorem d_S_colour_0 : decode b_S_colour 0 = .ok (.iload_n 1, 1) := by decide +kernel
theorem d_S_colour_1 : decode b_S_colour 1 = .ok (.iload_n 2, 1) := by decide +kernel
theorem d_S_colour_2 : decode b_S_colour 2 = .ok (.invokestatic 170, 3) := by decide +kernel
theorem d_S_colour_5 : decode b_S_colour 5 = .ok (.ifCond .ne (13), 3) := by decide +kernel
theorem d_S_colour_8 : decode b_S_colour 8 = .ok (.new 102, 3) := by decide +kernel
theorem d_S_colour_11 : decode b_S_colour 11 = .ok (.dup, 1) := by decide +kernel
theorem d_S_colour_12 : decode b_S_colour 12 = .ok (.ldc 174, 2) := by decide +kernel
theorem d_S_colour_14 : decode b_S_colour 14 = .ok (.invokespecial 106, 3) := by decide +kernel
theorem d_S_colour_17 : decode b_S_colour 17 = .ok (.athrow, 1) := by decide +kernel
theorem d_S_colour_18 : decode b_S_colour 18 = .ok (.aload_n 0, 1) := by decide +kernel
theorem d_S_colour_19 : decode b_S_colour 19 = .ok (.getfield 26, 3) := by decide +kernel
theorem d_S_colour_22 : decode b_S_colour 22 = .ok (.getfield 176, 3) := by decide +kernel
theorem d_S_colour_25 : decode b_S_colour 25 = .ok (.iload_n 1, 1) := by decide +kernel
theorem d_S_colour_26 : decode b_S_colour 26 = .ok (.iload_n 2, 1) := by decide +kernel
theorem d_S_colour_27 : decode b_S_colour 27 = .ok (.invokestatic 180, 3) := by decide +kernel
theorem d_S_colour_30 : decode b_S_colour 30 = .ok (.iaload, 1) := by decide +kernel
theorem d_S_colour_31 : decode b_S_colour 31 = .ok (.ireturn, 1) := by decide +kernel
theorem d_S_owner_0 : decode b_S_owner 0 = .ok (.iload_n 1, 1) := by decide +kernel
theorem d_S_owner_1 : decode b_S_owner 1 = .ok (.iload_n 2, 1) := by decide +kernel
theorem d_S_owner_2 : decode b_S_owner 2 = .ok (.invokestatic 170, 3) := by decide +kernel
theorem d_S_owner_5 : decode b_S_owner 5 = .ok (.ifCond .ne (13), 3) := by decide +kernel
theorem d_S_owner_8 : decode b_S_owner 8 = .ok (.new 102, 3) := by decide +kernel
theorem d_S_owner_11 : decode b_S_owner 11 = .ok (.dup, 1) := by decide +kernel
theorem d_S_owner_12 : decode b_S_owner 12 = .ok (.ldc 174, 2) := by decide +kernel
theorem d_S_owner_14 : decode b_S_owner 14 = .ok (.invokespecial 106, 3) := by decide +kernel
theorem d_S_owner_17 : decode b_S_owner 17 = .ok (.athrow, 1) := by decide +kernel
theorem d_S_owner_18 : decode b_S_owner 18 = .ok (.aload_n 0, 1) := by decide +kernel
theorem d_S_owner_19 : decode b_S_owner 19 = .ok (.getfield 26, 3) := by decide +kernel
theorem d_S_owner_22 : decode b_S_owner 22 = .ok (.getfield 182, 3) := by decide +kernel
theorem d_S_owner_25 : decode b_S_owner 25 = .ok (.iload_n 1, 1) := by decide +kernel
theorem d_S_owner_26 : decode b_S_owner 26 = .ok (.iload_n 2, 1) := by decide +kernel
theorem d_S_owner_27 : decode b_S_owner 27 = .ok (.invokestatic 180, 3) := by decide +kernel
theorem d_S_owner_30 : decode b_S_owner 30 = .ok (.iaload, 1) := by decide +kernel
theorem d_S_owner_31 : decode b_S_owner 31 = .ok (.ireturn, 1) := by decide +kernel
theorem d_S_compare_0 : decode b_S_compare 0 = .ok (.iload_n 1, 1) := by decide +kernel
theorem d_S_compare_1 : decode b_S_compare 1 = .ok (.iload_n 2, 1) := by decide +kernel
theorem d_S_compare_2 : decode b_S_compare 2 = .ok (.invokestatic 170, 3) := by decide +kernel
theorem d_S_compare_5 : decode b_S_compare 5 = .ok (.ifCond .eq (12), 3) := by decide +kernel
theorem d_S_compare_8 : decode b_S_compare 8 = .ok (.iload_n 3, 1) := by decide +kernel
theorem d_S_compare_9 : decode b_S_compare 9 = .ok (.iload 4, 2) := by decide +kernel
theorem d_S_compare_11 : decode b_S_compare 11 = .ok (.invokestatic 170, 3) := by decide +kernel
theorem d_S_compare_14 : decode b_S_compare 14 = .ok (.ifCond .ne (13), 3) := by decide +kernel
theorem d_S_compare_17 : decode b_S_compare 17 = .ok (.new 102, 3) := by decide +kernel
theorem d_S_compare_20 : decode b_S_compare 20 = .ok (.dup, 1) := by decide +kernel
theorem d_S_compare_21 : decode b_S_compare 21 = .ok (.ldc 174, 2) := by decide +kernel
theorem d_S_compare_23 : decode b_S_compare 23 = .ok (.invokespecial 106, 3) := by decide +kernel
theorem d_S_compare_26 : decode b_S_compare 26 = .ok (.athrow, 1) := by decide +kernel
theorem d_S_compare_27 : decode b_S_compare 27 = .ok (.iload_n 1, 1) := by decide +kernel
theorem d_S_compare_28 : decode b_S_compare 28 = .ok (.iload_n 2, 1) := by decide +kernel
theorem d_S_compare_29 : decode b_S_compare 29 = .ok (.invokestatic 180, 3) := by decide +kernel
theorem d_S_compare_32 : decode b_S_compare 32 = .ok (.istore 5, 2) := by decide +kernel
theorem d_S_compare_34 : decode b_S_compare 34 = .ok (.iload_n 3, 1) := by decide +kernel
theorem d_S_compare_35 : decode b_S_compare 35 = .ok (.iload 4, 2) := by decide +kernel
theorem d_S_compare_37 : decode b_S_compare 37 = .ok (.invokestatic 180, 3) := by decide +kernel
theorem d_S_compare_40 : decode b_S_compare 40 = .ok (.istore 6, 2) := by decide +kernel
theorem d_S_compare_42 : decode b_S_compare 42 = .ok (.aload_n 0, 1) := by decide +kernel
theorem d_S_compare_43 : decode b_S_compare 43 = .ok (.getfield 26, 3) := by decide +kernel
theorem d_S_compare_46 : decode b_S_compare 46 = .ok (.iload 5, 2) := by decide +kernel
theorem d_S_compare_48 : decode b_S_compare 48 = .ok (.invokevirtual 185, 3) := by decide +kernel
theorem d_S_compare_51 : decode b_S_compare 51 = .ok (.ifCond .eq (15), 3) := by decide +kernel
theorem d_S_compare_54 : decode b_S_compare 54 = .ok (.aload_n 0, 1) := by decide +kernel
theorem d_S_compare_55 : decode b_S_compare 55 = .ok (.getfield 26, 3) := by decide +kernel
theorem d_S_compare_58 : decode b_S_compare 58 = .ok (.iload 6, 2) := by decide +kernel
theorem d_S_compare_60 : decode b_S_compare 60 = .ok (.invokevirtual 185, 3) := by decide +kernel
theorem d_S_compare_63 : decode b_S_compare 63 = .ok (.ifCond .ne (13), 3) := by decide +kernel
theorem d_S_compare_66 : decode b_S_compare 66 = .ok (.new 83, 3) := by decide +kernel
theorem d_S_compare_69 : decode b_S_compare 69 = .ok (.dup, 1) := by decide +kernel
theorem d_S_compare_70 : decode b_S_compare 70 = .ok (.ldc 188, 2) := by decide +kernel
theorem d_S_compare_72 : decode b_S_compare 72 = .ok (.invokespecial 87, 3) := by decide +kernel
theorem d_S_compare_75 : decode b_S_compare 75 = .ok (.athrow, 1) := by decide +kernel
theorem d_S_compare_76 : decode b_S_compare 76 = .ok (.aload_n 0, 1) := by decide +kernel
theorem d_S_compare_77 : decode b_S_compare 77 = .ok (.getfield 26, 3) := by decide +kernel
theorem d_S_compare_80 : decode b_S_compare 80 = .ok (.iload 5, 2) := by decide +kernel
theorem d_S_compare_82 : decode b_S_compare 82 = .ok (.iload 6, 2) := by decide +kernel
theorem d_S_compare_84 : decode b_S_compare 84 = .ok (.invokevirtual 190, 3) := by decide +kernel
theorem d_S_compare_87 : decode b_S_compare 87 = .ok (.ireturn, 1) := by decide +kernel
theorem d_S_depth_0 : decode b_S_depth 0 = .ok (.iload_n 1, 1) := by decide +kernel
theorem d_S_depth_1 : decode b_S_depth 1 = .ok (.iload_n 2, 1) := by decide +kernel
theorem d_S_depth_2 : decode b_S_depth 2 = .ok (.invokestatic 170, 3) := by decide +kernel
theorem d_S_depth_5 : decode b_S_depth 5 = .ok (.ifCond .ne (13), 3) := by decide +kernel
theorem d_S_depth_8 : decode b_S_depth 8 = .ok (.new 102, 3) := by decide +kernel
theorem d_S_depth_11 : decode b_S_depth 11 = .ok (.dup, 1) := by decide +kernel
theorem d_S_depth_12 : decode b_S_depth 12 = .ok (.ldc 174, 2) := by decide +kernel
theorem d_S_depth_14 : decode b_S_depth 14 = .ok (.invokespecial 106, 3) := by decide +kernel
theorem d_S_depth_17 : decode b_S_depth 17 = .ok (.athrow, 1) := by decide +kernel
theorem d_S_depth_18 : decode b_S_depth 18 = .ok (.iload_n 1, 1) := by decide +kernel
theorem d_S_depth_19 : decode b_S_depth 19 = .ok (.iload_n 2, 1) := by decide +kernel
theorem d_S_depth_20 : decode b_S_depth 20 = .ok (.invokestatic 180, 3) := by decide +kernel
theorem d_S_depth_23 : decode b_S_depth 23 = .ok (.istore_n 3, 1) := by decide +kernel
theorem d_S_depth_24 : decode b_S_depth 24 = .ok (.aload_n 0, 1) := by decide +kernel
theorem d_S_depth_25 : decode b_S_depth 25 = .ok (.getfield 26, 3) := by decide +kernel
theorem d_S_depth_28 : decode b_S_depth 28 = .ok (.iload_n 3, 1) := by decide +kernel
theorem d_S_depth_29 : decode b_S_depth 29 = .ok (.invokevirtual 185, 3) := by decide +kernel
theorem d_S_depth_32 : decode b_S_depth 32 = .ok (.ifCond .ne (13), 3) := by decide +kernel
theorem d_S_depth_35 : decode b_S_depth 35 = .ok (.new 83, 3) := by decide +kernel
theorem d_S_depth_38 : decode b_S_depth 38 = .ok (.dup, 1) := by decide +kernel
theorem d_S_depth_39 : decode b_S_depth 39 = .ok (.ldc 193, 2) := by decide +kernel
theorem d_S_depth_41 : decode b_S_depth 41 = .ok (.invokespecial 87, 3) := by decide +kernel
theorem d_S_depth_44 : decode b_S_depth 44 = .ok (.athrow, 1) := by decide +kernel
theorem d_S_depth_45 : decode b_S_depth 45 = .ok (.aload_n 0, 1) := by decide +kernel
theorem d_S_depth_46 : decode b_S_depth 46 = .ok (.getfield 26, 3) := by decide +kernel
theorem d_S_depth_49 : decode b_S_depth 49 = .ok (.iload_n 3, 1) := by decide +kernel
theorem d_S_depth_50 : decode b_S_depth 50 = .ok (.invokevirtual 195, 3) := by decide +kernel
theorem d_S_depth_53 : decode b_S_depth 53 = .ok (.lreturn, 1) := by decide +kernel
theorem d_S_triangle_0 : decode b_S_triangle 0 = .ok (.iload_n 1, 1) := by decide +kernel
theorem d_S_triangle_1 : decode b_S_triangle 1 = .ok (.iconst 0, 1) := by decide +kernel
theorem d_S_triangle_2 : decode b_S_triangle 2 = .ok (.aload_n 0, 1) := by decide +kernel
theorem d_S_triangle_3 : decode b_S_triangle 3 = .ok (.getfield 121, 3) := by decide +kernel
theorem d_S_triangle_6 : decode b_S_triangle 6 = .ok (.iconst 1, 1) := by decide +kernel
theorem d_S_triangle_7 : decode b_S_triangle 7 = .ok (.isub, 1) := by decide +kernel
theorem d_S_triangle_8 : decode b_S_triangle 8 = .ok (.invokestatic 70, 3) := by decide +kernel
theorem d_S_triangle_11 : decode b_S_triangle 11 = .ok (.ifCond .eq (13), 3) := by decide +kernel
theorem d_S_triangle_14 : decode b_S_triangle 14 = .ok (.iload_n 2, 1) := by decide +kernel
theorem d_S_triangle_15 : decode b_S_triangle 15 = .ok (.iconst 0, 1) := by decide +kernel
theorem d_S_triangle_16 : decode b_S_triangle 16 = .ok (.bipush (12), 2) := by decide +kernel
theorem d_S_triangle_18 : decode b_S_triangle 18 = .ok (.invokestatic 70, 3) := by decide +kernel
theorem d_S_triangle_21 : decode b_S_triangle 21 = .ok (.ifCond .ne (13), 3) := by decide +kernel
theorem d_S_triangle_24 : decode b_S_triangle 24 = .ok (.new 102, 3) := by decide +kernel
theorem d_S_triangle_27 : decode b_S_triangle 27 = .ok (.dup, 1) := by decide +kernel
theorem d_S_triangle_28 : decode b_S_triangle 28 = .ok (.ldc 199, 2) := by decide +kernel
theorem d_S_triangle_30 : decode b_S_triangle 30 = .ok (.invokespecial 106, 3) := by decide +kernel
theorem d_S_triangle_33 : decode b_S_triangle 33 = .ok (.athrow, 1) := by decide +kernel
theorem d_S_triangle_34 : decode b_S_triangle 34 = .ok (.aload_n 0, 1) := by decide +kernel
theorem d_S_triangle_35 : decode b_S_triangle 35 = .ok (.getfield 32, 3) := by decide +kernel
theorem d_S_triangle_38 : decode b_S_triangle 38 = .ok (.iload_n 1, 1) := by decide +kernel
theorem d_S_triangle_39 : decode b_S_triangle 39 = .ok (.aaload, 1) := by decide +kernel
theorem d_S_triangle_40 : decode b_S_triangle 40 = .ok (.iload_n 2, 1) := by decide +kernel
theorem d_S_triangle_41 : decode b_S_triangle 41 = .ok (.invokevirtual 201, 3) := by decide +kernel
theorem d_S_triangle_44 : decode b_S_triangle 44 = .ok (.lreturn, 1) := by decide +kernel
def fn_S_row (μ0 : xs_M) (x0 : Int32) (x1 : Int32) (x2 : Int32) (x3 : Int32) (x4 : Int32) : Option (xs_M ⊕ (String × xs_M)) :=
  ((fn_M_isLine μ0 x0).bind fun w1 => (if w1 = 0 then some (.inr ("java/lang/IllegalArgumentException", μ0)) else ((fn_M_isEntry μ0 ((x1).toInt64)).bind fun w2 => (if w2 = 0 then some (.inr ("java/lang/IllegalArgumentException", μ0)) else ((fn_M_isEntry μ0 ((x2).toInt64)).bind fun w3 => (if w3 = 0 then some (.inr ("java/lang/IllegalArgumentException", μ0)) else ((fn_M_isEntry μ0 ((x3).toInt64)).bind fun w4 => (if w4 = 0 then some (.inr ("java/lang/IllegalArgumentException", μ0)) else ((fn_M_isEntry μ0 ((x4).toInt64)).bind fun w5 => (if w5 = 0 then some (.inr ("java/lang/IllegalArgumentException", μ0)) else ((fn_M_setRow μ0 x0 x1 x2 x3 x4).bind fun w6 => some (.inl (w6)))))))))))))
set_option maxHeartbeats 4000000 in
set_option maxRecDepth 100000 in
theorem ok_S_row (l : Launch) (D : va_G) (ad : Nat → Nat) (cs : xs_cs) (hJ : xs_J ad) {μ0 : xs_M} {x0 : Int32} {x1 : Int32} {x2 : Int32} {x3 : Int32} {x4 : Int32}  {rz : xs_M} (hE : fn_S_row μ0 x0 x1 x2 x3 x4 = some (.inl rz)) : xs_I l D ad cs y_S_row b_S_row 6 none 2 42 [.ref (ad 0), .int (x0), .int (x1), .int (x2), .int (x3), .int (x4)] μ0 none rz := by
  refine xs_entry hJ (by decide) (Nat.le_of_ble_eq_true rfl) ?_
  intro p e s m below meth c ls X hr hlk G hl
  have X : xs_C p s m c b_S_row 6 _ "ExactScene" := X
  have hx := X.1
  have hb := X.2.1
  have hl : lv_has ls 6 [(0, .ref (ad 0)), (1, .int (x0)), (2, .int (x1)), (3, .int (x2)), (4, .int (x3)), (5, .int (x4))] := hl
  unfold fn_S_row at hE
  refine lv_iload_n (pc := 0) hx hb d_S_row_0 rfl (lv_at hl 1 rfl) ?_
  obtain ⟨w1, hw1, hE⟩ := xs_b hE
  refine xs_callSr (pc := 1) (as := [.int (x0)]) X (ok_M_isLine l D ad cs hJ hw1) km_S_37 G ⟨by decide, by decide⟩ ⟨Nat.zero_le _, Nat.zero_le _⟩ rfl hl.1 rfl (Nat.le_of_ble_eq_true rfl) d_S_row_1 (fun H locs G => ?_)
  refine lv_if_ne (pc := 4) (tgt := 17) hx hb d_S_row_4 (by decide) (fun hc => ?_) (fun hc => ?_)
  · have hE := xs_f hE hc
    refine lv_iload_n (pc := 17) hx hb d_S_row_17 rfl (lv_at hl 2 rfl) ?_
    refine lv_i2l (pc := 18) hx hb d_S_row_18 rfl ?_
    obtain ⟨w2, hw2, hE⟩ := xs_b hE
    refine xs_callSr (pc := 19) (as := [.long ((x1).toInt64)]) X (ok_M_isEntry l D ad cs hJ hw2) km_S_48 G ⟨by decide, by decide⟩ ⟨Nat.zero_le _, Nat.zero_le _⟩ rfl hl.1 rfl (Nat.le_of_ble_eq_true rfl) d_S_row_19 (fun H locs G => ?_)
    refine lv_if_eq (pc := 22) (tgt := 51) hx hb d_S_row_22 (by decide) (fun hc => ?_) (fun hc => ?_)
    · have hE := xs_t hE hc
      cases hE
    · have hE := xs_f hE hc
      refine lv_iload_n (pc := 25) hx hb d_S_row_25 rfl (lv_at hl 3 rfl) ?_
      refine lv_i2l (pc := 26) hx hb d_S_row_26 rfl ?_
      obtain ⟨w3, hw3, hE⟩ := xs_b hE
      refine xs_callSr (pc := 27) (as := [.long ((x2).toInt64)]) X (ok_M_isEntry l D ad cs hJ hw3) km_S_48 G ⟨by decide, by decide⟩ ⟨Nat.zero_le _, Nat.zero_le _⟩ rfl hl.1 rfl (Nat.le_of_ble_eq_true rfl) d_S_row_27 (fun H locs G => ?_)
      refine lv_if_eq (pc := 30) (tgt := 51) hx hb d_S_row_30 (by decide) (fun hc => ?_) (fun hc => ?_)
      · have hE := xs_t hE hc
        cases hE
      · have hE := xs_f hE hc
        refine lv_iload (pc := 33) hx hb d_S_row_33 (lv_at hl 4 rfl) ?_
        refine lv_i2l (pc := 35) hx hb d_S_row_35 rfl ?_
        obtain ⟨w4, hw4, hE⟩ := xs_b hE
        refine xs_callSr (pc := 36) (as := [.long ((x3).toInt64)]) X (ok_M_isEntry l D ad cs hJ hw4) km_S_48 G ⟨by decide, by decide⟩ ⟨Nat.zero_le _, Nat.zero_le _⟩ rfl hl.1 rfl (Nat.le_of_ble_eq_true rfl) d_S_row_36 (fun H locs G => ?_)
        refine lv_if_eq (pc := 39) (tgt := 51) hx hb d_S_row_39 (by decide) (fun hc => ?_) (fun hc => ?_)
        · have hE := xs_t hE hc
          cases hE
        · have hE := xs_f hE hc
          refine lv_iload (pc := 42) hx hb d_S_row_42 (lv_at hl 5 rfl) ?_
          refine lv_i2l (pc := 44) hx hb d_S_row_44 rfl ?_
          obtain ⟨w5, hw5, hE⟩ := xs_b hE
          refine xs_callSr (pc := 45) (as := [.long ((x4).toInt64)]) X (ok_M_isEntry l D ad cs hJ hw5) km_S_48 G ⟨by decide, by decide⟩ ⟨Nat.zero_le _, Nat.zero_le _⟩ rfl hl.1 rfl (Nat.le_of_ble_eq_true rfl) d_S_row_45 (fun H locs G => ?_)
          refine lv_if_ne (pc := 48) (tgt := 61) hx hb d_S_row_48 (by decide) (fun hc => ?_) (fun hc => ?_)
          · have hE := xs_f hE hc
            refine lv_aload_n (pc := 61) hx hb d_S_row_61 rfl (lv_at hl 0 rfl) ?_
            refine gf_S_10 (pc := 62) X G d_S_row_62 ?_
            refine lv_iload_n (pc := 65) hx hb d_S_row_65 rfl (lv_at hl 1 rfl) ?_
            refine lv_iload_n (pc := 66) hx hb d_S_row_66 rfl (lv_at hl 2 rfl) ?_
            refine lv_iload_n (pc := 67) hx hb d_S_row_67 rfl (lv_at hl 3 rfl) ?_
            refine lv_iload (pc := 68) hx hb d_S_row_68 (lv_at hl 4 rfl) ?_
            refine lv_iload (pc := 70) hx hb d_S_row_70 (lv_at hl 5 rfl) ?_
            obtain ⟨w6, hw6, hE⟩ := xs_b hE
            refine xs_callVv (pc := 72) (as := [.int (x0), .int (x1), .int (x2), .int (x3), .int (x4)]) X (ok_M_setRow l D ad cs hJ hw6) km_S_54 G (xs_wM ad cs _) rfl ⟨by decide, by decide⟩ ⟨Nat.zero_le _, Nat.zero_le _⟩ rfl hl.1 rfl (Nat.le_of_ble_eq_true rfl) d_S_row_72 (fun H locs G => ?_)
            cases hE
            exact xs_vret (pc := 75) hx hb hr hlk G d_S_row_75
          · have hE := xs_t hE hc
            cases hE
  · have hE := xs_t hE hc
    cases hE
set_option maxHeartbeats 4000000 in
set_option maxRecDepth 100000 in
theorem th_S_row (l : Launch) (hlt : l.stackTraces = false) (D : va_G) (ad : Nat → Nat) (cs : xs_cs) (hJ : xs_J ad) {μ0 : xs_M} {x0 : Int32} {x1 : Int32} {x2 : Int32} {x3 : Int32} {x4 : Int32}  {ez : String × xs_M} (hE : fn_S_row μ0 x0 x1 x2 x3 x4 = some (.inr ez)) : xt_I l D ad cs y_S_row b_S_row 6 none 6 90 [.ref (ad 0), .int (x0), .int (x1), .int (x2), .int (x3), .int (x4)] μ0 ez.1 ez.2 := by
  refine xt_entry hJ (by decide) (Nat.le_of_ble_eq_true rfl) ?_
  intro p e s m below meth c ls X hlk hem hT G hl
  have X : xs_C p s m c b_S_row 6 _ "ExactScene" := X
  have hx := X.1
  have hb := X.2.1
  have hl : lv_has ls 6 [(0, .ref (ad 0)), (1, .int (x0)), (2, .int (x1)), (3, .int (x2)), (4, .int (x3)), (5, .int (x4))] := hl
  unfold fn_S_row at hE
  refine lv_iload_n (pc := 0) hx hb d_S_row_0 rfl (lv_at hl 1 rfl) ?_
  obtain ⟨w1, hw1, hE⟩ := xs_b hE
  refine xs_callSr (pc := 1) (as := [.int (x0)]) X (ok_M_isLine l D ad cs hJ hw1) km_S_37 G ⟨by decide, by decide⟩ ⟨Nat.zero_le _, Nat.zero_le _⟩ rfl hl.1 rfl (Nat.le_of_ble_eq_true rfl) d_S_row_1 (fun H locs G => ?_)
  refine lv_if_ne (pc := 4) (tgt := 17) hx hb d_S_row_4 (by decide) (fun hc => ?_) (fun hc => ?_)
  · have hE := xs_f hE hc
    refine lv_iload_n (pc := 17) hx hb d_S_row_17 rfl (lv_at hl 2 rfl) ?_
    refine lv_i2l (pc := 18) hx hb d_S_row_18 rfl ?_
    obtain ⟨w2, hw2, hE⟩ := xs_b hE
    refine xs_callSr (pc := 19) (as := [.long ((x1).toInt64)]) X (ok_M_isEntry l D ad cs hJ hw2) km_S_48 G ⟨by decide, by decide⟩ ⟨Nat.zero_le _, Nat.zero_le _⟩ rfl hl.1 rfl (Nat.le_of_ble_eq_true rfl) d_S_row_19 (fun H locs G => ?_)
    refine lv_if_eq (pc := 22) (tgt := 51) hx hb d_S_row_22 (by decide) (fun hc => ?_) (fun hc => ?_)
    · have hE := xs_t hE hc
      cases hE
      exact xt_throw (pc := 51) (cls := "java/lang/IllegalArgumentException") (names := ["java/lang/RuntimeException", "java/lang/Exception"]) (is := 52) (text := "an entry is not -511 .. 511") X hlt hlk hem hT G (by decide +kernel) (by decide +kernel) wk_41 wi9_41 wa_45 (by decide) hl.1 d_S_row_51 d_S_row_54 d_S_row_55 d_S_row_57 d_S_row_60 (by decide) (Nat.le_of_ble_eq_true rfl) (by decide) (by decide)
    · have hE := xs_f hE hc
      refine lv_iload_n (pc := 25) hx hb d_S_row_25 rfl (lv_at hl 3 rfl) ?_
      refine lv_i2l (pc := 26) hx hb d_S_row_26 rfl ?_
      obtain ⟨w3, hw3, hE⟩ := xs_b hE
      refine xs_callSr (pc := 27) (as := [.long ((x2).toInt64)]) X (ok_M_isEntry l D ad cs hJ hw3) km_S_48 G ⟨by decide, by decide⟩ ⟨Nat.zero_le _, Nat.zero_le _⟩ rfl hl.1 rfl (Nat.le_of_ble_eq_true rfl) d_S_row_27 (fun H locs G => ?_)
      refine lv_if_eq (pc := 30) (tgt := 51) hx hb d_S_row_30 (by decide) (fun hc => ?_) (fun hc => ?_)
      · have hE := xs_t hE hc
        cases hE
        exact xt_throw (pc := 51) (cls := "java/lang/IllegalArgumentException") (names := ["java/lang/RuntimeException", "java/lang/Exception"]) (is := 52) (text := "an entry is not -511 .. 511") X hlt hlk hem hT G (by decide +kernel) (by decide +kernel) wk_41 wi9_41 wa_45 (by decide) hl.1 d_S_row_51 d_S_row_54 d_S_row_55 d_S_row_57 d_S_row_60 (by decide) (Nat.le_of_ble_eq_true rfl) (by decide) (by decide)
      · have hE := xs_f hE hc
        refine lv_iload (pc := 33) hx hb d_S_row_33 (lv_at hl 4 rfl) ?_
        refine lv_i2l (pc := 35) hx hb d_S_row_35 rfl ?_
        obtain ⟨w4, hw4, hE⟩ := xs_b hE
        refine xs_callSr (pc := 36) (as := [.long ((x3).toInt64)]) X (ok_M_isEntry l D ad cs hJ hw4) km_S_48 G ⟨by decide, by decide⟩ ⟨Nat.zero_le _, Nat.zero_le _⟩ rfl hl.1 rfl (Nat.le_of_ble_eq_true rfl) d_S_row_36 (fun H locs G => ?_)
        refine lv_if_eq (pc := 39) (tgt := 51) hx hb d_S_row_39 (by decide) (fun hc => ?_) (fun hc => ?_)
        · have hE := xs_t hE hc
          cases hE
          exact xt_throw (pc := 51) (cls := "java/lang/IllegalArgumentException") (names := ["java/lang/RuntimeException", "java/lang/Exception"]) (is := 52) (text := "an entry is not -511 .. 511") X hlt hlk hem hT G (by decide +kernel) (by decide +kernel) wk_41 wi9_41 wa_45 (by decide) hl.1 d_S_row_51 d_S_row_54 d_S_row_55 d_S_row_57 d_S_row_60 (by decide) (Nat.le_of_ble_eq_true rfl) (by decide) (by decide)
        · have hE := xs_f hE hc
          refine lv_iload (pc := 42) hx hb d_S_row_42 (lv_at hl 5 rfl) ?_
          refine lv_i2l (pc := 44) hx hb d_S_row_44 rfl ?_
          obtain ⟨w5, hw5, hE⟩ := xs_b hE
          refine xs_callSr (pc := 45) (as := [.long ((x4).toInt64)]) X (ok_M_isEntry l D ad cs hJ hw5) km_S_48 G ⟨by decide, by decide⟩ ⟨Nat.zero_le _, Nat.zero_le _⟩ rfl hl.1 rfl (Nat.le_of_ble_eq_true rfl) d_S_row_45 (fun H locs G => ?_)
          refine lv_if_ne (pc := 48) (tgt := 61) hx hb d_S_row_48 (by decide) (fun hc => ?_) (fun hc => ?_)
          · have hE := xs_f hE hc
            refine lv_aload_n (pc := 61) hx hb d_S_row_61 rfl (lv_at hl 0 rfl) ?_
            refine gf_S_10 (pc := 62) X G d_S_row_62 ?_
            refine lv_iload_n (pc := 65) hx hb d_S_row_65 rfl (lv_at hl 1 rfl) ?_
            refine lv_iload_n (pc := 66) hx hb d_S_row_66 rfl (lv_at hl 2 rfl) ?_
            refine lv_iload_n (pc := 67) hx hb d_S_row_67 rfl (lv_at hl 3 rfl) ?_
            refine lv_iload (pc := 68) hx hb d_S_row_68 (lv_at hl 4 rfl) ?_
            refine lv_iload (pc := 70) hx hb d_S_row_70 (lv_at hl 5 rfl) ?_
            obtain ⟨w6, hw6, hE⟩ := xs_b hE
            refine xs_callVv (pc := 72) (as := [.int (x0), .int (x1), .int (x2), .int (x3), .int (x4)]) X (ok_M_setRow l D ad cs hJ hw6) km_S_54 G (xs_wM ad cs _) rfl ⟨by decide, by decide⟩ ⟨Nat.zero_le _, Nat.zero_le _⟩ rfl hl.1 rfl (Nat.le_of_ble_eq_true rfl) d_S_row_72 (fun H locs G => ?_)
            cases hE
          · have hE := xs_t hE hc
            cases hE
            exact xt_throw (pc := 51) (cls := "java/lang/IllegalArgumentException") (names := ["java/lang/RuntimeException", "java/lang/Exception"]) (is := 52) (text := "an entry is not -511 .. 511") X hlt hlk hem hT G (by decide +kernel) (by decide +kernel) wk_41 wi9_41 wa_45 (by decide) hl.1 d_S_row_51 d_S_row_54 d_S_row_55 d_S_row_57 d_S_row_60 (by decide) (Nat.le_of_ble_eq_true rfl) (by decide) (by decide)
  · have hE := xs_t hE hc
    cases hE
    exact xt_throw (pc := 7) (cls := "java/lang/IllegalArgumentException") (names := ["java/lang/RuntimeException", "java/lang/Exception"]) (is := 43) (text := "there is no such row") X hlt hlk hem hT G (by decide +kernel) (by decide +kernel) wk_41 wi9_41 wa_45 (by decide) hl.1 d_S_row_7 d_S_row_10 d_S_row_11 d_S_row_13 d_S_row_16 (by decide) (Nat.le_of_ble_eq_true rfl) (by decide) (by decide)
def fn_S_move (μ0 : xs_M) (x0 : Int32) (x1 : Int32) (x2 : Int32) : Option (xs_M ⊕ (String × xs_M)) :=
  ((fn_M_multiplyByMove μ0 x0 x1 x2).bind fun w1 => (if w1.1 = 0 then some (.inr ("java/lang/ArithmeticException", w1.2)) else some (.inl (w1.2))))
set_option maxHeartbeats 4000000 in
set_option maxRecDepth 100000 in
theorem ok_S_move (l : Launch) (D : va_G) (ad : Nat → Nat) (cs : xs_cs) (hJ : xs_J ad) {μ0 : xs_M} {x0 : Int32} {x1 : Int32} {x2 : Int32}  {rz : xs_M} (hE : fn_S_move μ0 x0 x1 x2 = some (.inl rz)) : xs_I l D ad cs y_S_move b_S_move 4 none 3 77 [.ref (ad 0), .int (x0), .int (x1), .int (x2)] μ0 none rz := by
  refine xs_entry hJ (by decide) (Nat.le_of_ble_eq_true rfl) ?_
  intro p e s m below meth c ls X hr hlk G hl
  have X : xs_C p s m c b_S_move 4 _ "ExactScene" := X
  have hx := X.1
  have hb := X.2.1
  have hl : lv_has ls 4 [(0, .ref (ad 0)), (1, .int (x0)), (2, .int (x1)), (3, .int (x2))] := hl
  unfold fn_S_move at hE
  refine lv_aload_n (pc := 0) hx hb d_S_move_0 rfl (lv_at hl 0 rfl) ?_
  refine gf_S_10 (pc := 1) X G d_S_move_1 ?_
  refine lv_iload_n (pc := 4) hx hb d_S_move_4 rfl (lv_at hl 1 rfl) ?_
  refine lv_iload_n (pc := 5) hx hb d_S_move_5 rfl (lv_at hl 2 rfl) ?_
  refine lv_iload_n (pc := 6) hx hb d_S_move_6 rfl (lv_at hl 3 rfl) ?_
  obtain ⟨w1, hw1, hE⟩ := xs_b hE
  refine xs_callVr (pc := 7) (as := [.int (x0), .int (x1), .int (x2)]) X (ok_M_multiplyByMove l D ad cs hJ hw1) km_S_58 G (xs_wM ad cs _) rfl ⟨by decide, by decide⟩ ⟨Nat.zero_le _, Nat.zero_le _⟩ rfl hl.1 rfl (Nat.le_of_ble_eq_true rfl) d_S_move_7 (fun H locs G => ?_)
  refine lv_if_ne (pc := 10) (tgt := 23) hx hb d_S_move_10 (by decide) (fun hc => ?_) (fun hc => ?_)
  · have hE := xs_f hE hc
    cases hE
    exact xs_vret (pc := 23) hx hb hr hlk G d_S_move_23
  · have hE := xs_t hE hc
    cases hE
set_option maxHeartbeats 4000000 in
set_option maxRecDepth 100000 in
theorem th_S_move (l : Launch) (hlt : l.stackTraces = false) (D : va_G) (ad : Nat → Nat) (cs : xs_cs) (hJ : xs_J ad) {μ0 : xs_M} {x0 : Int32} {x1 : Int32} {x2 : Int32}  {ez : String × xs_M} (hE : fn_S_move μ0 x0 x1 x2 = some (.inr ez)) : xt_I l D ad cs y_S_move b_S_move 4 none 6 90 [.ref (ad 0), .int (x0), .int (x1), .int (x2)] μ0 ez.1 ez.2 := by
  refine xt_entry hJ (by decide) (Nat.le_of_ble_eq_true rfl) ?_
  intro p e s m below meth c ls X hlk hem hT G hl
  have X : xs_C p s m c b_S_move 4 _ "ExactScene" := X
  have hx := X.1
  have hb := X.2.1
  have hl : lv_has ls 4 [(0, .ref (ad 0)), (1, .int (x0)), (2, .int (x1)), (3, .int (x2))] := hl
  unfold fn_S_move at hE
  refine lv_aload_n (pc := 0) hx hb d_S_move_0 rfl (lv_at hl 0 rfl) ?_
  refine gf_S_10 (pc := 1) X G d_S_move_1 ?_
  refine lv_iload_n (pc := 4) hx hb d_S_move_4 rfl (lv_at hl 1 rfl) ?_
  refine lv_iload_n (pc := 5) hx hb d_S_move_5 rfl (lv_at hl 2 rfl) ?_
  refine lv_iload_n (pc := 6) hx hb d_S_move_6 rfl (lv_at hl 3 rfl) ?_
  obtain ⟨w1, hw1, hE⟩ := xs_b hE
  refine xs_callVr (pc := 7) (as := [.int (x0), .int (x1), .int (x2)]) X (ok_M_multiplyByMove l D ad cs hJ hw1) km_S_58 G (xs_wM ad cs _) rfl ⟨by decide, by decide⟩ ⟨Nat.zero_le _, Nat.zero_le _⟩ rfl hl.1 rfl (Nat.le_of_ble_eq_true rfl) d_S_move_7 (fun H locs G => ?_)
  refine lv_if_ne (pc := 10) (tgt := 23) hx hb d_S_move_10 (by decide) (fun hc => ?_) (fun hc => ?_)
  · have hE := xs_f hE hc
    cases hE
  · have hE := xs_t hE hc
    cases hE
    exact xt_throw (pc := 13) (cls := "java/lang/ArithmeticException") (names := ["java/lang/RuntimeException", "java/lang/Exception"]) (is := 64) (text := "an entry would not be -511 .. 511") X hlt hlk hem hT G (by decide +kernel) (by decide +kernel) wk_62 wi9_62 wa_66 (by decide) hl.1 d_S_move_13 d_S_move_16 d_S_move_17 d_S_move_19 d_S_move_22 (by decide) (Nat.le_of_ble_eq_true rfl) (by decide) (by decide)
def fn_S_stretch (μ0 : xs_M) (x0 : Int32) (x1 : Int32) (x2 : Int32) : Option (xs_M ⊕ (String × xs_M)) :=
  ((fn_M_multiplyByStretch μ0 x0 x1 x2).bind fun w1 => (if w1.1 = 0 then some (.inr ("java/lang/ArithmeticException", w1.2)) else some (.inl (w1.2))))
set_option maxHeartbeats 4000000 in
set_option maxRecDepth 100000 in
theorem ok_S_stretch (l : Launch) (D : va_G) (ad : Nat → Nat) (cs : xs_cs) (hJ : xs_J ad) {μ0 : xs_M} {x0 : Int32} {x1 : Int32} {x2 : Int32}  {rz : xs_M} (hE : fn_S_stretch μ0 x0 x1 x2 = some (.inl rz)) : xs_I l D ad cs y_S_stretch b_S_stretch 4 none 3 77 [.ref (ad 0), .int (x0), .int (x1), .int (x2)] μ0 none rz := by
  refine xs_entry hJ (by decide) (Nat.le_of_ble_eq_true rfl) ?_
  intro p e s m below meth c ls X hr hlk G hl
  have X : xs_C p s m c b_S_stretch 4 _ "ExactScene" := X
  have hx := X.1
  have hb := X.2.1
  have hl : lv_has ls 4 [(0, .ref (ad 0)), (1, .int (x0)), (2, .int (x1)), (3, .int (x2))] := hl
  unfold fn_S_stretch at hE
  refine lv_aload_n (pc := 0) hx hb d_S_stretch_0 rfl (lv_at hl 0 rfl) ?_
  refine gf_S_10 (pc := 1) X G d_S_stretch_1 ?_
  refine lv_iload_n (pc := 4) hx hb d_S_stretch_4 rfl (lv_at hl 1 rfl) ?_
  refine lv_iload_n (pc := 5) hx hb d_S_stretch_5 rfl (lv_at hl 2 rfl) ?_
  refine lv_iload_n (pc := 6) hx hb d_S_stretch_6 rfl (lv_at hl 3 rfl) ?_
  obtain ⟨w1, hw1, hE⟩ := xs_b hE
  refine xs_callVr (pc := 7) (as := [.int (x0), .int (x1), .int (x2)]) X (ok_M_multiplyByStretch l D ad cs hJ hw1) km_S_67 G (xs_wM ad cs _) rfl ⟨by decide, by decide⟩ ⟨Nat.zero_le _, Nat.zero_le _⟩ rfl hl.1 rfl (Nat.le_of_ble_eq_true rfl) d_S_stretch_7 (fun H locs G => ?_)
  refine lv_if_ne (pc := 10) (tgt := 23) hx hb d_S_stretch_10 (by decide) (fun hc => ?_) (fun hc => ?_)
  · have hE := xs_f hE hc
    cases hE
    exact xs_vret (pc := 23) hx hb hr hlk G d_S_stretch_23
  · have hE := xs_t hE hc
    cases hE
set_option maxHeartbeats 4000000 in
set_option maxRecDepth 100000 in
theorem th_S_stretch (l : Launch) (hlt : l.stackTraces = false) (D : va_G) (ad : Nat → Nat) (cs : xs_cs) (hJ : xs_J ad) {μ0 : xs_M} {x0 : Int32} {x1 : Int32} {x2 : Int32}  {ez : String × xs_M} (hE : fn_S_stretch μ0 x0 x1 x2 = some (.inr ez)) : xt_I l D ad cs y_S_stretch b_S_stretch 4 none 6 90 [.ref (ad 0), .int (x0), .int (x1), .int (x2)] μ0 ez.1 ez.2 := by
  refine xt_entry hJ (by decide) (Nat.le_of_ble_eq_true rfl) ?_
  intro p e s m below meth c ls X hlk hem hT G hl
  have X : xs_C p s m c b_S_stretch 4 _ "ExactScene" := X
  have hx := X.1
  have hb := X.2.1
  have hl : lv_has ls 4 [(0, .ref (ad 0)), (1, .int (x0)), (2, .int (x1)), (3, .int (x2))] := hl
  unfold fn_S_stretch at hE
  refine lv_aload_n (pc := 0) hx hb d_S_stretch_0 rfl (lv_at hl 0 rfl) ?_
  refine gf_S_10 (pc := 1) X G d_S_stretch_1 ?_
  refine lv_iload_n (pc := 4) hx hb d_S_stretch_4 rfl (lv_at hl 1 rfl) ?_
  refine lv_iload_n (pc := 5) hx hb d_S_stretch_5 rfl (lv_at hl 2 rfl) ?_
  refine lv_iload_n (pc := 6) hx hb d_S_stretch_6 rfl (lv_at hl 3 rfl) ?_
  obtain ⟨w1, hw1, hE⟩ := xs_b hE
  refine xs_callVr (pc := 7) (as := [.int (x0), .int (x1), .int (x2)]) X (ok_M_multiplyByStretch l D ad cs hJ hw1) km_S_67 G (xs_wM ad cs _) rfl ⟨by decide, by decide⟩ ⟨Nat.zero_le _, Nat.zero_le _⟩ rfl hl.1 rfl (Nat.le_of_ble_eq_true rfl) d_S_stretch_7 (fun H locs G => ?_)
  refine lv_if_ne (pc := 10) (tgt := 23) hx hb d_S_stretch_10 (by decide) (fun hc => ?_) (fun hc => ?_)
  · have hE := xs_f hE hc
    cases hE
  · have hE := xs_t hE hc
    cases hE
    exact xt_throw (pc := 13) (cls := "java/lang/ArithmeticException") (names := ["java/lang/RuntimeException", "java/lang/Exception"]) (is := 64) (text := "an entry would not be -511 .. 511") X hlt hlk hem hT G (by decide +kernel) (by decide +kernel) wk_62 wi9_62 wa_66 (by decide) hl.1 d_S_stretch_13 d_S_stretch_16 d_S_stretch_17 d_S_stretch_19 d_S_stretch_22 (by decide) (Nat.le_of_ble_eq_true rfl) (by decide) (by decide)
def fn_S_turn (μ0 : xs_M) (x0 : Int32) : Option (xs_M ⊕ (String × xs_M)) :=
  ((fn_S_isWithin μ0 x0 (0 : Int32) (2 : Int32)).bind fun w1 => (if w1 = 0 then some (.inr ("java/lang/IllegalArgumentException", μ0)) else ((fn_M_quarterTurn μ0 ((x0 + (1 : Int32)) - (x0 + (1 : Int32)) / (3 : Int32) * (3 : Int32)) ((x0 + (2 : Int32)) - (x0 + (2 : Int32)) / (3 : Int32) * (3 : Int32))).bind fun w2 => some (.inl (w2)))))
set_option maxHeartbeats 4000000 in
set_option maxRecDepth 100000 in
theorem ok_S_turn (l : Launch) (D : va_G) (ad : Nat → Nat) (cs : xs_cs) (hJ : xs_J ad) {μ0 : xs_M} {x0 : Int32}  {rz : xs_M} (hE : fn_S_turn μ0 x0 = some (.inl rz)) : xs_I l D ad cs y_S_turn b_S_turn 2 none 1 26 [.ref (ad 0), .int (x0)] μ0 none rz := by
  refine xs_entry hJ (by decide) (Nat.le_of_ble_eq_true rfl) ?_
  intro p e s m below meth c ls X hr hlk G hl
  have X : xs_C p s m c b_S_turn 2 _ "ExactScene" := X
  have hx := X.1
  have hb := X.2.1
  have hl : lv_has ls 2 [(0, .ref (ad 0)), (1, .int (x0))] := hl
  unfold fn_S_turn at hE
  refine lv_iload_n (pc := 0) hx hb d_S_turn_0 rfl (lv_at hl 1 rfl) ?_
  refine lv_iconst (pc := 1) (v := (0 : Int32)) hx hb d_S_turn_1 (by decide) ?_
  refine lv_iconst (pc := 2) (v := (2 : Int32)) hx hb d_S_turn_2 (by decide) ?_
  obtain ⟨w1, hw1, hE⟩ := xs_b hE
  refine xs_callSr (pc := 3) (as := [.int (x0), .int ((0 : Int32)), .int ((2 : Int32))]) X (ok_S_isWithin l D ad cs hJ hw1) km_S_70 G ⟨by decide, by decide⟩ ⟨Nat.zero_le _, Nat.zero_le _⟩ rfl hl.1 rfl (Nat.le_of_ble_eq_true rfl) d_S_turn_3 (fun H locs G => ?_)
  refine lv_if_ne (pc := 6) (tgt := 19) hx hb d_S_turn_6 (by decide) (fun hc => ?_) (fun hc => ?_)
  · have hE := xs_f hE hc
    refine lv_aload_n (pc := 19) hx hb d_S_turn_19 rfl (lv_at hl 0 rfl) ?_
    refine gf_S_10 (pc := 20) X G d_S_turn_20 ?_
    refine lv_iload_n (pc := 23) hx hb d_S_turn_23 rfl (lv_at hl 1 rfl) ?_
    refine lv_iconst (pc := 24) (v := (1 : Int32)) hx hb d_S_turn_24 (by decide) ?_
    refine lv_iadd (pc := 25) hx hb d_S_turn_25 ?_
    refine lv_iconst (pc := 26) (v := (3 : Int32)) hx hb d_S_turn_26 (by decide) ?_
    refine lv_irem (pc := 27) hx hb d_S_turn_27 (by decide) ?_
    refine lv_iload_n (pc := 28) hx hb d_S_turn_28 rfl (lv_at hl 1 rfl) ?_
    refine lv_iconst (pc := 29) (v := (2 : Int32)) hx hb d_S_turn_29 (by decide) ?_
    refine lv_iadd (pc := 30) hx hb d_S_turn_30 ?_
    refine lv_iconst (pc := 31) (v := (3 : Int32)) hx hb d_S_turn_31 (by decide) ?_
    refine lv_irem (pc := 32) hx hb d_S_turn_32 (by decide) ?_
    obtain ⟨w2, hw2, hE⟩ := xs_b hE
    refine xs_callVv (pc := 33) (as := [.int (((x0 + (1 : Int32)) - (x0 + (1 : Int32)) / (3 : Int32) * (3 : Int32))), .int (((x0 + (2 : Int32)) - (x0 + (2 : Int32)) / (3 : Int32) * (3 : Int32)))]) X (ok_M_quarterTurn l D ad cs hJ hw2) km_S_75 G (xs_wM ad cs _) rfl ⟨by decide, by decide⟩ ⟨Nat.zero_le _, Nat.zero_le _⟩ rfl hl.1 rfl (Nat.le_of_ble_eq_true rfl) d_S_turn_33 (fun H locs G => ?_)
    cases hE
    exact xs_vret (pc := 36) hx hb hr hlk G d_S_turn_36
  · have hE := xs_t hE hc
    cases hE
set_option maxHeartbeats 4000000 in
set_option maxRecDepth 100000 in
theorem th_S_turn (l : Launch) (hlt : l.stackTraces = false) (D : va_G) (ad : Nat → Nat) (cs : xs_cs) (hJ : xs_J ad) {μ0 : xs_M} {x0 : Int32}  {ez : String × xs_M} (hE : fn_S_turn μ0 x0 = some (.inr ez)) : xt_I l D ad cs y_S_turn b_S_turn 2 none 6 90 [.ref (ad 0), .int (x0)] μ0 ez.1 ez.2 := by
  refine xt_entry hJ (by decide) (Nat.le_of_ble_eq_true rfl) ?_
  intro p e s m below meth c ls X hlk hem hT G hl
  have X : xs_C p s m c b_S_turn 2 _ "ExactScene" := X
  have hx := X.1
  have hb := X.2.1
  have hl : lv_has ls 2 [(0, .ref (ad 0)), (1, .int (x0))] := hl
  unfold fn_S_turn at hE
  refine lv_iload_n (pc := 0) hx hb d_S_turn_0 rfl (lv_at hl 1 rfl) ?_
  refine lv_iconst (pc := 1) (v := (0 : Int32)) hx hb d_S_turn_1 (by decide) ?_
  refine lv_iconst (pc := 2) (v := (2 : Int32)) hx hb d_S_turn_2 (by decide) ?_
  obtain ⟨w1, hw1, hE⟩ := xs_b hE
  refine xs_callSr (pc := 3) (as := [.int (x0), .int ((0 : Int32)), .int ((2 : Int32))]) X (ok_S_isWithin l D ad cs hJ hw1) km_S_70 G ⟨by decide, by decide⟩ ⟨Nat.zero_le _, Nat.zero_le _⟩ rfl hl.1 rfl (Nat.le_of_ble_eq_true rfl) d_S_turn_3 (fun H locs G => ?_)
  refine lv_if_ne (pc := 6) (tgt := 19) hx hb d_S_turn_6 (by decide) (fun hc => ?_) (fun hc => ?_)
  · have hE := xs_f hE hc
    refine lv_aload_n (pc := 19) hx hb d_S_turn_19 rfl (lv_at hl 0 rfl) ?_
    refine gf_S_10 (pc := 20) X G d_S_turn_20 ?_
    refine lv_iload_n (pc := 23) hx hb d_S_turn_23 rfl (lv_at hl 1 rfl) ?_
    refine lv_iconst (pc := 24) (v := (1 : Int32)) hx hb d_S_turn_24 (by decide) ?_
    refine lv_iadd (pc := 25) hx hb d_S_turn_25 ?_
    refine lv_iconst (pc := 26) (v := (3 : Int32)) hx hb d_S_turn_26 (by decide) ?_
    refine lv_irem (pc := 27) hx hb d_S_turn_27 (by decide) ?_
    refine lv_iload_n (pc := 28) hx hb d_S_turn_28 rfl (lv_at hl 1 rfl) ?_
    refine lv_iconst (pc := 29) (v := (2 : Int32)) hx hb d_S_turn_29 (by decide) ?_
    refine lv_iadd (pc := 30) hx hb d_S_turn_30 ?_
    refine lv_iconst (pc := 31) (v := (3 : Int32)) hx hb d_S_turn_31 (by decide) ?_
    refine lv_irem (pc := 32) hx hb d_S_turn_32 (by decide) ?_
    obtain ⟨w2, hw2, hE⟩ := xs_b hE
    refine xs_callVv (pc := 33) (as := [.int (((x0 + (1 : Int32)) - (x0 + (1 : Int32)) / (3 : Int32) * (3 : Int32))), .int (((x0 + (2 : Int32)) - (x0 + (2 : Int32)) / (3 : Int32) * (3 : Int32)))]) X (ok_M_quarterTurn l D ad cs hJ hw2) km_S_75 G (xs_wM ad cs _) rfl ⟨by decide, by decide⟩ ⟨Nat.zero_le _, Nat.zero_le _⟩ rfl hl.1 rfl (Nat.le_of_ble_eq_true rfl) d_S_turn_33 (fun H locs G => ?_)
    cases hE
  · have hE := xs_t hE hc
    cases hE
    exact xt_throw (pc := 9) (cls := "java/lang/IllegalArgumentException") (names := ["java/lang/RuntimeException", "java/lang/Exception"]) (is := 73) (text := "axis is not 0 .. 2") X hlt hlk hem hT G (by decide +kernel) (by decide +kernel) wk_41 wi9_41 wa_45 (by decide) hl.1 d_S_turn_9 d_S_turn_12 d_S_turn_13 d_S_turn_15 d_S_turn_18 (by decide) (Nat.le_of_ble_eq_true rfl) (by decide) (by decide)
def fn_S_join (μ0 : xs_M)  : Option (xs_M ⊕ (String × xs_M)) :=
  ((fn_M_isPileEmpty μ0).bind fun w1 => (if w1 = 0 then ((fn_M_multiplyLatestByCurrent μ0).bind fun w2 => (if w2.1 = 0 then some (.inr ("java/lang/ArithmeticException", w2.2)) else some (.inl (w2.2)))) else some (.inr ("java/lang/IllegalStateException", μ0))))
set_option maxHeartbeats 4000000 in
set_option maxRecDepth 100000 in
theorem ok_S_join (l : Launch) (D : va_G) (ad : Nat → Nat) (cs : xs_cs) (hJ : xs_J ad) {μ0 : xs_M}   {rz : xs_M} (hE : fn_S_join μ0 = some (.inl rz)) : xs_I l D ad cs y_S_join b_S_join 1 none 3 75 [.ref (ad 0)] μ0 none rz := by
  refine xs_entry hJ (by decide) (Nat.le_of_ble_eq_true rfl) ?_
  intro p e s m below meth c ls X hr hlk G hl
  have X : xs_C p s m c b_S_join 1 _ "ExactScene" := X
  have hx := X.1
  have hb := X.2.1
  have hl : lv_has ls 1 [(0, .ref (ad 0))] := hl
  unfold fn_S_join at hE
  refine lv_aload_n (pc := 0) hx hb d_S_join_0 rfl (lv_at hl 0 rfl) ?_
  refine gf_S_10 (pc := 1) X G d_S_join_1 ?_
  obtain ⟨w1, hw1, hE⟩ := xs_b hE
  refine xs_callVr (pc := 4) (as := []) X (ok_M_isPileEmpty l D ad cs hJ hw1) km_S_79 G (xs_wM ad cs _) rfl ⟨by decide, by decide⟩ ⟨Nat.zero_le _, Nat.zero_le _⟩ rfl hl.1 rfl (Nat.le_of_ble_eq_true rfl) d_S_join_4 (fun H locs G => ?_)
  refine lv_if_eq (pc := 7) (tgt := 20) hx hb d_S_join_7 (by decide) (fun hc => ?_) (fun hc => ?_)
  · have hE := xs_t hE hc
    refine lv_aload_n (pc := 20) hx hb d_S_join_20 rfl (lv_at hl 0 rfl) ?_
    refine gf_S_10 (pc := 21) X G d_S_join_21 ?_
    obtain ⟨w2, hw2, hE⟩ := xs_b hE
    refine xs_callVr (pc := 24) (as := []) X (ok_M_multiplyLatestByCurrent l D ad cs hJ hw2) km_S_88 G (xs_wM ad cs _) rfl ⟨by decide, by decide⟩ ⟨Nat.zero_le _, Nat.zero_le _⟩ rfl hl.1 rfl (Nat.le_of_ble_eq_true rfl) d_S_join_24 (fun H locs G => ?_)
    refine lv_if_ne (pc := 27) (tgt := 40) hx hb d_S_join_27 (by decide) (fun hc => ?_) (fun hc => ?_)
    · have hE := xs_f hE hc
      cases hE
      exact xs_vret (pc := 40) hx hb hr hlk G d_S_join_40
    · have hE := xs_t hE hc
      cases hE
  · have hE := xs_f hE hc
    cases hE
set_option maxHeartbeats 4000000 in
set_option maxRecDepth 100000 in
theorem th_S_join (l : Launch) (hlt : l.stackTraces = false) (D : va_G) (ad : Nat → Nat) (cs : xs_cs) (hJ : xs_J ad) {μ0 : xs_M}   {ez : String × xs_M} (hE : fn_S_join μ0 = some (.inr ez)) : xt_I l D ad cs y_S_join b_S_join 1 none 6 90 [.ref (ad 0)] μ0 ez.1 ez.2 := by
  refine xt_entry hJ (by decide) (Nat.le_of_ble_eq_true rfl) ?_
  intro p e s m below meth c ls X hlk hem hT G hl
  have X : xs_C p s m c b_S_join 1 _ "ExactScene" := X
  have hx := X.1
  have hb := X.2.1
  have hl : lv_has ls 1 [(0, .ref (ad 0))] := hl
  unfold fn_S_join at hE
  refine lv_aload_n (pc := 0) hx hb d_S_join_0 rfl (lv_at hl 0 rfl) ?_
  refine gf_S_10 (pc := 1) X G d_S_join_1 ?_
  obtain ⟨w1, hw1, hE⟩ := xs_b hE
  refine xs_callVr (pc := 4) (as := []) X (ok_M_isPileEmpty l D ad cs hJ hw1) km_S_79 G (xs_wM ad cs _) rfl ⟨by decide, by decide⟩ ⟨Nat.zero_le _, Nat.zero_le _⟩ rfl hl.1 rfl (Nat.le_of_ble_eq_true rfl) d_S_join_4 (fun H locs G => ?_)
  refine lv_if_eq (pc := 7) (tgt := 20) hx hb d_S_join_7 (by decide) (fun hc => ?_) (fun hc => ?_)
  · have hE := xs_t hE hc
    refine lv_aload_n (pc := 20) hx hb d_S_join_20 rfl (lv_at hl 0 rfl) ?_
    refine gf_S_10 (pc := 21) X G d_S_join_21 ?_
    obtain ⟨w2, hw2, hE⟩ := xs_b hE
    refine xs_callVr (pc := 24) (as := []) X (ok_M_multiplyLatestByCurrent l D ad cs hJ hw2) km_S_88 G (xs_wM ad cs _) rfl ⟨by decide, by decide⟩ ⟨Nat.zero_le _, Nat.zero_le _⟩ rfl hl.1 rfl (Nat.le_of_ble_eq_true rfl) d_S_join_24 (fun H locs G => ?_)
    refine lv_if_ne (pc := 27) (tgt := 40) hx hb d_S_join_27 (by decide) (fun hc => ?_) (fun hc => ?_)
    · have hE := xs_f hE hc
      cases hE
    · have hE := xs_t hE hc
      cases hE
      exact xt_throw (pc := 30) (cls := "java/lang/ArithmeticException") (names := ["java/lang/RuntimeException", "java/lang/Exception"]) (is := 64) (text := "an entry would not be -511 .. 511") X hlt hlk hem hT G (by decide +kernel) (by decide +kernel) wk_62 wi9_62 wa_66 (by decide) hl.1 d_S_join_30 d_S_join_33 d_S_join_34 d_S_join_36 d_S_join_39 (by decide) (Nat.le_of_ble_eq_true rfl) (by decide) (by decide)
  · have hE := xs_f hE hc
    cases hE
    exact xt_throw (pc := 10) (cls := "java/lang/IllegalStateException") (names := ["java/lang/RuntimeException", "java/lang/Exception"]) (is := 85) (text := "the pile is empty") X hlt hlk hem hT G (by decide +kernel) (by decide +kernel) wk_83 wi9_83 wa_87 (by decide) hl.1 d_S_join_10 d_S_join_13 d_S_join_14 d_S_join_16 d_S_join_19 (by decide) (Nat.le_of_ble_eq_true rfl) (by decide) (by decide)
def fn_S_push (μ0 : xs_M)  : Option (xs_M ⊕ (String × xs_M)) :=
  ((fn_M_isPileFull μ0).bind fun w1 => (if w1 = 0 then ((fn_M_save μ0).bind fun w2 => some (.inl (w2))) else some (.inr ("java/lang/IllegalStateException", μ0))))
set_option maxHeartbeats 4000000 in
set_option maxRecDepth 100000 in
theorem ok_S_push (l : Launch) (D : va_G) (ad : Nat → Nat) (cs : xs_cs) (hJ : xs_J ad) {μ0 : xs_M}   {rz : xs_M} (hE : fn_S_push μ0 = some (.inl rz)) : xs_I l D ad cs y_S_push b_S_push 1 none 2 46 [.ref (ad 0)] μ0 none rz := by
  refine xs_entry hJ (by decide) (Nat.le_of_ble_eq_true rfl) ?_
  intro p e s m below meth c ls X hr hlk G hl
  have X : xs_C p s m c b_S_push 1 _ "ExactScene" := X
  have hx := X.1
  have hb := X.2.1
  have hl : lv_has ls 1 [(0, .ref (ad 0))] := hl
  unfold fn_S_push at hE
  refine lv_aload_n (pc := 0) hx hb d_S_push_0 rfl (lv_at hl 0 rfl) ?_
  refine gf_S_10 (pc := 1) X G d_S_push_1 ?_
  obtain ⟨w1, hw1, hE⟩ := xs_b hE
  refine xs_callVr (pc := 4) (as := []) X (ok_M_isPileFull l D ad cs hJ hw1) km_S_91 G (xs_wM ad cs _) rfl ⟨by decide, by decide⟩ ⟨Nat.zero_le _, Nat.zero_le _⟩ rfl hl.1 rfl (Nat.le_of_ble_eq_true rfl) d_S_push_4 (fun H locs G => ?_)
  refine lv_if_eq (pc := 7) (tgt := 20) hx hb d_S_push_7 (by decide) (fun hc => ?_) (fun hc => ?_)
  · have hE := xs_t hE hc
    refine lv_aload_n (pc := 20) hx hb d_S_push_20 rfl (lv_at hl 0 rfl) ?_
    refine gf_S_10 (pc := 21) X G d_S_push_21 ?_
    obtain ⟨w2, hw2, hE⟩ := xs_b hE
    refine xs_callVv (pc := 24) (as := []) X (ok_M_save l D ad cs hJ hw2) km_S_96 G (xs_wM ad cs _) rfl ⟨by decide, by decide⟩ ⟨Nat.zero_le _, Nat.zero_le _⟩ rfl hl.1 rfl (Nat.le_of_ble_eq_true rfl) d_S_push_24 (fun H locs G => ?_)
    cases hE
    exact xs_vret (pc := 27) hx hb hr hlk G d_S_push_27
  · have hE := xs_f hE hc
    cases hE
set_option maxHeartbeats 4000000 in
set_option maxRecDepth 100000 in
theorem th_S_push (l : Launch) (hlt : l.stackTraces = false) (D : va_G) (ad : Nat → Nat) (cs : xs_cs) (hJ : xs_J ad) {μ0 : xs_M}   {ez : String × xs_M} (hE : fn_S_push μ0 = some (.inr ez)) : xt_I l D ad cs y_S_push b_S_push 1 none 6 90 [.ref (ad 0)] μ0 ez.1 ez.2 := by
  refine xt_entry hJ (by decide) (Nat.le_of_ble_eq_true rfl) ?_
  intro p e s m below meth c ls X hlk hem hT G hl
  have X : xs_C p s m c b_S_push 1 _ "ExactScene" := X
  have hx := X.1
  have hb := X.2.1
  have hl : lv_has ls 1 [(0, .ref (ad 0))] := hl
  unfold fn_S_push at hE
  refine lv_aload_n (pc := 0) hx hb d_S_push_0 rfl (lv_at hl 0 rfl) ?_
  refine gf_S_10 (pc := 1) X G d_S_push_1 ?_
  obtain ⟨w1, hw1, hE⟩ := xs_b hE
  refine xs_callVr (pc := 4) (as := []) X (ok_M_isPileFull l D ad cs hJ hw1) km_S_91 G (xs_wM ad cs _) rfl ⟨by decide, by decide⟩ ⟨Nat.zero_le _, Nat.zero_le _⟩ rfl hl.1 rfl (Nat.le_of_ble_eq_true rfl) d_S_push_4 (fun H locs G => ?_)
  refine lv_if_eq (pc := 7) (tgt := 20) hx hb d_S_push_7 (by decide) (fun hc => ?_) (fun hc => ?_)
  · have hE := xs_t hE hc
    refine lv_aload_n (pc := 20) hx hb d_S_push_20 rfl (lv_at hl 0 rfl) ?_
    refine gf_S_10 (pc := 21) X G d_S_push_21 ?_
    obtain ⟨w2, hw2, hE⟩ := xs_b hE
    refine xs_callVv (pc := 24) (as := []) X (ok_M_save l D ad cs hJ hw2) km_S_96 G (xs_wM ad cs _) rfl ⟨by decide, by decide⟩ ⟨Nat.zero_le _, Nat.zero_le _⟩ rfl hl.1 rfl (Nat.le_of_ble_eq_true rfl) d_S_push_24 (fun H locs G => ?_)
    cases hE
  · have hE := xs_f hE hc
    cases hE
    exact xt_throw (pc := 10) (cls := "java/lang/IllegalStateException") (names := ["java/lang/RuntimeException", "java/lang/Exception"]) (is := 94) (text := "there are four on the pile") X hlt hlk hem hT G (by decide +kernel) (by decide +kernel) wk_83 wi9_83 wa_87 (by decide) hl.1 d_S_push_10 d_S_push_13 d_S_push_14 d_S_push_16 d_S_push_19 (by decide) (Nat.le_of_ble_eq_true rfl) (by decide) (by decide)
def fn_S_pop (μ0 : xs_M)  : Option (xs_M ⊕ (String × xs_M)) :=
  ((fn_M_isPileEmpty μ0).bind fun w1 => (if w1 = 0 then ((fn_M_restore μ0).bind fun w2 => some (.inl (w2))) else some (.inr ("java/lang/IllegalStateException", μ0))))
set_option maxHeartbeats 4000000 in
set_option maxRecDepth 100000 in
theorem ok_S_pop (l : Launch) (D : va_G) (ad : Nat → Nat) (cs : xs_cs) (hJ : xs_J ad) {μ0 : xs_M}   {rz : xs_M} (hE : fn_S_pop μ0 = some (.inl rz)) : xs_I l D ad cs y_S_pop b_S_pop 1 none 2 46 [.ref (ad 0)] μ0 none rz := by
  refine xs_entry hJ (by decide) (Nat.le_of_ble_eq_true rfl) ?_
  intro p e s m below meth c ls X hr hlk G hl
  have X : xs_C p s m c b_S_pop 1 _ "ExactScene" := X
  have hx := X.1
  have hb := X.2.1
  have hl : lv_has ls 1 [(0, .ref (ad 0))] := hl
  unfold fn_S_pop at hE
  refine lv_aload_n (pc := 0) hx hb d_S_pop_0 rfl (lv_at hl 0 rfl) ?_
  refine gf_S_10 (pc := 1) X G d_S_pop_1 ?_
  obtain ⟨w1, hw1, hE⟩ := xs_b hE
  refine xs_callVr (pc := 4) (as := []) X (ok_M_isPileEmpty l D ad cs hJ hw1) km_S_79 G (xs_wM ad cs _) rfl ⟨by decide, by decide⟩ ⟨Nat.zero_le _, Nat.zero_le _⟩ rfl hl.1 rfl (Nat.le_of_ble_eq_true rfl) d_S_pop_4 (fun H locs G => ?_)
  refine lv_if_eq (pc := 7) (tgt := 20) hx hb d_S_pop_7 (by decide) (fun hc => ?_) (fun hc => ?_)
  · have hE := xs_t hE hc
    refine lv_aload_n (pc := 20) hx hb d_S_pop_20 rfl (lv_at hl 0 rfl) ?_
    refine gf_S_10 (pc := 21) X G d_S_pop_21 ?_
    obtain ⟨w2, hw2, hE⟩ := xs_b hE
    refine xs_callVv (pc := 24) (as := []) X (ok_M_restore l D ad cs hJ hw2) km_S_99 G (xs_wM ad cs _) rfl ⟨by decide, by decide⟩ ⟨Nat.zero_le _, Nat.zero_le _⟩ rfl hl.1 rfl (Nat.le_of_ble_eq_true rfl) d_S_pop_24 (fun H locs G => ?_)
    cases hE
    exact xs_vret (pc := 27) hx hb hr hlk G d_S_pop_27
  · have hE := xs_f hE hc
    cases hE
set_option maxHeartbeats 4000000 in
set_option maxRecDepth 100000 in
theorem th_S_pop (l : Launch) (hlt : l.stackTraces = false) (D : va_G) (ad : Nat → Nat) (cs : xs_cs) (hJ : xs_J ad) {μ0 : xs_M}   {ez : String × xs_M} (hE : fn_S_pop μ0 = some (.inr ez)) : xt_I l D ad cs y_S_pop b_S_pop 1 none 6 90 [.ref (ad 0)] μ0 ez.1 ez.2 := by
  refine xt_entry hJ (by decide) (Nat.le_of_ble_eq_true rfl) ?_
  intro p e s m below meth c ls X hlk hem hT G hl
  have X : xs_C p s m c b_S_pop 1 _ "ExactScene" := X
  have hx := X.1
  have hb := X.2.1
  have hl : lv_has ls 1 [(0, .ref (ad 0))] := hl
  unfold fn_S_pop at hE
  refine lv_aload_n (pc := 0) hx hb d_S_pop_0 rfl (lv_at hl 0 rfl) ?_
  refine gf_S_10 (pc := 1) X G d_S_pop_1 ?_
  obtain ⟨w1, hw1, hE⟩ := xs_b hE
  refine xs_callVr (pc := 4) (as := []) X (ok_M_isPileEmpty l D ad cs hJ hw1) km_S_79 G (xs_wM ad cs _) rfl ⟨by decide, by decide⟩ ⟨Nat.zero_le _, Nat.zero_le _⟩ rfl hl.1 rfl (Nat.le_of_ble_eq_true rfl) d_S_pop_4 (fun H locs G => ?_)
  refine lv_if_eq (pc := 7) (tgt := 20) hx hb d_S_pop_7 (by decide) (fun hc => ?_) (fun hc => ?_)
  · have hE := xs_t hE hc
    refine lv_aload_n (pc := 20) hx hb d_S_pop_20 rfl (lv_at hl 0 rfl) ?_
    refine gf_S_10 (pc := 21) X G d_S_pop_21 ?_
    obtain ⟨w2, hw2, hE⟩ := xs_b hE
    refine xs_callVv (pc := 24) (as := []) X (ok_M_restore l D ad cs hJ hw2) km_S_99 G (xs_wM ad cs _) rfl ⟨by decide, by decide⟩ ⟨Nat.zero_le _, Nat.zero_le _⟩ rfl hl.1 rfl (Nat.le_of_ble_eq_true rfl) d_S_pop_24 (fun H locs G => ?_)
    cases hE
  · have hE := xs_f hE hc
    cases hE
    exact xt_throw (pc := 10) (cls := "java/lang/IllegalStateException") (names := ["java/lang/RuntimeException", "java/lang/Exception"]) (is := 85) (text := "the pile is empty") X hlt hlk hem hT G (by decide +kernel) (by decide +kernel) wk_83 wi9_83 wa_87 (by decide) hl.1 d_S_pop_10 d_S_pop_13 d_S_pop_14 d_S_pop_16 d_S_pop_19 (by decide) (Nat.le_of_ble_eq_true rfl) (by decide) (by decide)
def fn_S_entry (μ0 : xs_M) (x0 : Int32) (x1 : Int32) : Option ((Int32 × xs_M) ⊕ (String × xs_M)) :=
  ((fn_M_isLine μ0 x0).bind fun w1 => (if w1 = 0 then some (.inr ("java/lang/IndexOutOfBoundsException", μ0)) else ((fn_M_isLine μ0 x1).bind fun w2 => (if w2 = 0 then some (.inr ("java/lang/IndexOutOfBoundsException", μ0)) else ((fn_M_entryAt μ0 x0 x1).bind fun w3 => some (.inl (w3, μ0)))))))
set_option maxHeartbeats 4000000 in
set_option maxRecDepth 100000 in
theorem ok_S_entry (l : Launch) (D : va_G) (ad : Nat → Nat) (cs : xs_cs) (hJ : xs_J ad) {μ0 : xs_M} {x0 : Int32} {x1 : Int32}  {rz : (Int32 × xs_M)} (hE : fn_S_entry μ0 x0 x1 = some (.inl rz)) : xs_I l D ad cs y_S_entry b_S_entry 3 (some .int) 2 42 [.ref (ad 0), .int (x0), .int (x1)] μ0 (some (.int rz.1)) rz.2 := by
  refine xs_entry hJ (by decide) (Nat.le_of_ble_eq_true rfl) ?_
  intro p e s m below meth c ls X hr hlk G hl
  have X : xs_C p s m c b_S_entry 3 _ "ExactScene" := X
  have hx := X.1
  have hb := X.2.1
  have hl : lv_has ls 3 [(0, .ref (ad 0)), (1, .int (x0)), (2, .int (x1))] := hl
  unfold fn_S_entry at hE
  refine lv_iload_n (pc := 0) hx hb d_S_entry_0 rfl (lv_at hl 1 rfl) ?_
  obtain ⟨w1, hw1, hE⟩ := xs_b hE
  refine xs_callSr (pc := 1) (as := [.int (x0)]) X (ok_M_isLine l D ad cs hJ hw1) km_S_37 G ⟨by decide, by decide⟩ ⟨Nat.zero_le _, Nat.zero_le _⟩ rfl hl.1 rfl (Nat.le_of_ble_eq_true rfl) d_S_entry_1 (fun H locs G => ?_)
  refine lv_if_eq (pc := 4) (tgt := 14) hx hb d_S_entry_4 (by decide) (fun hc => ?_) (fun hc => ?_)
  · have hE := xs_t hE hc
    cases hE
  · have hE := xs_f hE hc
    refine lv_iload_n (pc := 7) hx hb d_S_entry_7 rfl (lv_at hl 2 rfl) ?_
    obtain ⟨w2, hw2, hE⟩ := xs_b hE
    refine xs_callSr (pc := 8) (as := [.int (x1)]) X (ok_M_isLine l D ad cs hJ hw2) km_S_37 G ⟨by decide, by decide⟩ ⟨Nat.zero_le _, Nat.zero_le _⟩ rfl hl.1 rfl (Nat.le_of_ble_eq_true rfl) d_S_entry_8 (fun H locs G => ?_)
    refine lv_if_ne (pc := 11) (tgt := 24) hx hb d_S_entry_11 (by decide) (fun hc => ?_) (fun hc => ?_)
    · have hE := xs_f hE hc
      refine lv_aload_n (pc := 24) hx hb d_S_entry_24 rfl (lv_at hl 0 rfl) ?_
      refine gf_S_10 (pc := 25) X G d_S_entry_25 ?_
      refine lv_iload_n (pc := 28) hx hb d_S_entry_28 rfl (lv_at hl 1 rfl) ?_
      refine lv_iload_n (pc := 29) hx hb d_S_entry_29 rfl (lv_at hl 2 rfl) ?_
      obtain ⟨w3, hw3, hE⟩ := xs_b hE
      refine xs_callVr (pc := 30) (as := [.int (x0), .int (x1)]) X (ok_M_entryAt l D ad cs hJ hw3) km_S_107 G (xs_wM ad cs _) rfl ⟨by decide, by decide⟩ ⟨Nat.zero_le _, Nat.zero_le _⟩ rfl hl.1 rfl (Nat.le_of_ble_eq_true rfl) d_S_entry_30 (fun H locs G => ?_)
      cases hE
      exact xs_iret (pc := 33) hx hb hr hlk G d_S_entry_33
    · have hE := xs_t hE hc
      cases hE
set_option maxHeartbeats 4000000 in
set_option maxRecDepth 100000 in
theorem th_S_entry (l : Launch) (hlt : l.stackTraces = false) (D : va_G) (ad : Nat → Nat) (cs : xs_cs) (hJ : xs_J ad) {μ0 : xs_M} {x0 : Int32} {x1 : Int32}  {ez : String × xs_M} (hE : fn_S_entry μ0 x0 x1 = some (.inr ez)) : xt_I l D ad cs y_S_entry b_S_entry 3 (some .int) 6 90 [.ref (ad 0), .int (x0), .int (x1)] μ0 ez.1 ez.2 := by
  refine xt_entry hJ (by decide) (Nat.le_of_ble_eq_true rfl) ?_
  intro p e s m below meth c ls X hlk hem hT G hl
  have X : xs_C p s m c b_S_entry 3 _ "ExactScene" := X
  have hx := X.1
  have hb := X.2.1
  have hl : lv_has ls 3 [(0, .ref (ad 0)), (1, .int (x0)), (2, .int (x1))] := hl
  unfold fn_S_entry at hE
  refine lv_iload_n (pc := 0) hx hb d_S_entry_0 rfl (lv_at hl 1 rfl) ?_
  obtain ⟨w1, hw1, hE⟩ := xs_b hE
  refine xs_callSr (pc := 1) (as := [.int (x0)]) X (ok_M_isLine l D ad cs hJ hw1) km_S_37 G ⟨by decide, by decide⟩ ⟨Nat.zero_le _, Nat.zero_le _⟩ rfl hl.1 rfl (Nat.le_of_ble_eq_true rfl) d_S_entry_1 (fun H locs G => ?_)
  refine lv_if_eq (pc := 4) (tgt := 14) hx hb d_S_entry_4 (by decide) (fun hc => ?_) (fun hc => ?_)
  · have hE := xs_t hE hc
    cases hE
    exact xt_throw (pc := 14) (cls := "java/lang/IndexOutOfBoundsException") (names := ["java/lang/RuntimeException", "java/lang/Exception"]) (is := 104) (text := "there is no such entry") X hlt hlk hem hT G (by decide +kernel) (by decide +kernel) wk_102 wi9_102 wa_106 (by decide) hl.1 d_S_entry_14 d_S_entry_17 d_S_entry_18 d_S_entry_20 d_S_entry_23 (by decide) (Nat.le_of_ble_eq_true rfl) (by decide) (by decide)
  · have hE := xs_f hE hc
    refine lv_iload_n (pc := 7) hx hb d_S_entry_7 rfl (lv_at hl 2 rfl) ?_
    obtain ⟨w2, hw2, hE⟩ := xs_b hE
    refine xs_callSr (pc := 8) (as := [.int (x1)]) X (ok_M_isLine l D ad cs hJ hw2) km_S_37 G ⟨by decide, by decide⟩ ⟨Nat.zero_le _, Nat.zero_le _⟩ rfl hl.1 rfl (Nat.le_of_ble_eq_true rfl) d_S_entry_8 (fun H locs G => ?_)
    refine lv_if_ne (pc := 11) (tgt := 24) hx hb d_S_entry_11 (by decide) (fun hc => ?_) (fun hc => ?_)
    · have hE := xs_f hE hc
      refine lv_aload_n (pc := 24) hx hb d_S_entry_24 rfl (lv_at hl 0 rfl) ?_
      refine gf_S_10 (pc := 25) X G d_S_entry_25 ?_
      refine lv_iload_n (pc := 28) hx hb d_S_entry_28 rfl (lv_at hl 1 rfl) ?_
      refine lv_iload_n (pc := 29) hx hb d_S_entry_29 rfl (lv_at hl 2 rfl) ?_
      obtain ⟨w3, hw3, hE⟩ := xs_b hE
      refine xs_callVr (pc := 30) (as := [.int (x0), .int (x1)]) X (ok_M_entryAt l D ad cs hJ hw3) km_S_107 G (xs_wM ad cs _) rfl ⟨by decide, by decide⟩ ⟨Nat.zero_le _, Nat.zero_le _⟩ rfl hl.1 rfl (Nat.le_of_ble_eq_true rfl) d_S_entry_30 (fun H locs G => ?_)
      cases hE
    · have hE := xs_t hE hc
      cases hE
      exact xt_throw (pc := 14) (cls := "java/lang/IndexOutOfBoundsException") (names := ["java/lang/RuntimeException", "java/lang/Exception"]) (is := 104) (text := "there is no such entry") X hlt hlk hem hT G (by decide +kernel) (by decide +kernel) wk_102 wi9_102 wa_106 (by decide) hl.1 d_S_entry_14 d_S_entry_17 d_S_entry_18 d_S_entry_20 d_S_entry_23 (by decide) (Nat.le_of_ble_eq_true rfl) (by decide) (by decide)
def fn_S_vertex (μ0 : xs_M) (x0 : Int32) (x1 : Int32) (x2 : Int32) (x3 : Int32) (x4 : Int32) : Option ((Int32 × xs_M) ⊕ (String × xs_M)) :=
  ((fn_S_isPlace μ0 x0).bind fun w1 => (if w1 = 0 then some (.inr ("java/lang/IllegalArgumentException", μ0)) else ((fn_S_isPlace μ0 x1).bind fun w2 => (if w2 = 0 then some (.inr ("java/lang/IllegalArgumentException", μ0)) else ((fn_S_isPlace μ0 x2).bind fun w3 => (if w3 = 0 then some (.inr ("java/lang/IllegalArgumentException", μ0)) else ((fn_S_isTexturePlace μ0 x3).bind fun w4 => (if w4 = 0 then some (.inr ("java/lang/IllegalArgumentException", μ0)) else ((fn_S_isTexturePlace μ0 x4).bind fun w5 => (if w5 = 0 then some (.inr ("java/lang/IllegalArgumentException", μ0)) else (if (μ0.1 0 4) < (20 : Int32) then ((fn_S_addCorner μ0 x0 x1 x2 x3 x4).bind fun w6 => some (.inl ((w6.1 0 4), w6))) else some (.inr ("java/lang/IllegalStateException", μ0)))))))))))))
set_option maxHeartbeats 4000000 in
set_option maxRecDepth 100000 in
theorem ok_S_vertex (l : Launch) (D : va_G) (ad : Nat → Nat) (cs : xs_cs) (hJ : xs_J ad) {μ0 : xs_M} {x0 : Int32} {x1 : Int32} {x2 : Int32} {x3 : Int32} {x4 : Int32}  {rz : (Int32 × xs_M)} (hE : fn_S_vertex μ0 x0 x1 x2 x3 x4 = some (.inl rz)) : xs_I l D ad cs y_S_vertex b_S_vertex 6 (some .int) 4 95 [.ref (ad 0), .int (x0), .int (x1), .int (x2), .int (x3), .int (x4)] μ0 (some (.int rz.1)) rz.2 := by
  refine xs_entry hJ (by decide) (Nat.le_of_ble_eq_true rfl) ?_
  intro p e s m below meth c ls X hr hlk G hl
  have X : xs_C p s m c b_S_vertex 6 _ "ExactScene" := X
  have hx := X.1
  have hb := X.2.1
  have hl : lv_has ls 6 [(0, .ref (ad 0)), (1, .int (x0)), (2, .int (x1)), (3, .int (x2)), (4, .int (x3)), (5, .int (x4))] := hl
  unfold fn_S_vertex at hE
  refine lv_iload_n (pc := 0) hx hb d_S_vertex_0 rfl (lv_at hl 1 rfl) ?_
  obtain ⟨w1, hw1, hE⟩ := xs_b hE
  refine xs_callSr (pc := 1) (as := [.int (x0)]) X (ok_S_isPlace l D ad cs hJ hw1) km_S_111 G ⟨by decide, by decide⟩ ⟨Nat.zero_le _, Nat.zero_le _⟩ rfl hl.1 rfl (Nat.le_of_ble_eq_true rfl) d_S_vertex_1 (fun H locs G => ?_)
  refine lv_if_eq (pc := 4) (tgt := 21) hx hb d_S_vertex_4 (by decide) (fun hc => ?_) (fun hc => ?_)
  · have hE := xs_t hE hc
    cases hE
  · have hE := xs_f hE hc
    refine lv_iload_n (pc := 7) hx hb d_S_vertex_7 rfl (lv_at hl 2 rfl) ?_
    obtain ⟨w2, hw2, hE⟩ := xs_b hE
    refine xs_callSr (pc := 8) (as := [.int (x1)]) X (ok_S_isPlace l D ad cs hJ hw2) km_S_111 G ⟨by decide, by decide⟩ ⟨Nat.zero_le _, Nat.zero_le _⟩ rfl hl.1 rfl (Nat.le_of_ble_eq_true rfl) d_S_vertex_8 (fun H locs G => ?_)
    refine lv_if_eq (pc := 11) (tgt := 21) hx hb d_S_vertex_11 (by decide) (fun hc => ?_) (fun hc => ?_)
    · have hE := xs_t hE hc
      cases hE
    · have hE := xs_f hE hc
      refine lv_iload_n (pc := 14) hx hb d_S_vertex_14 rfl (lv_at hl 3 rfl) ?_
      obtain ⟨w3, hw3, hE⟩ := xs_b hE
      refine xs_callSr (pc := 15) (as := [.int (x2)]) X (ok_S_isPlace l D ad cs hJ hw3) km_S_111 G ⟨by decide, by decide⟩ ⟨Nat.zero_le _, Nat.zero_le _⟩ rfl hl.1 rfl (Nat.le_of_ble_eq_true rfl) d_S_vertex_15 (fun H locs G => ?_)
      refine lv_if_ne (pc := 18) (tgt := 31) hx hb d_S_vertex_18 (by decide) (fun hc => ?_) (fun hc => ?_)
      · have hE := xs_f hE hc
        refine lv_iload (pc := 31) hx hb d_S_vertex_31 (lv_at hl 4 rfl) ?_
        obtain ⟨w4, hw4, hE⟩ := xs_b hE
        refine xs_callSr (pc := 33) (as := [.int (x3)]) X (ok_S_isTexturePlace l D ad cs hJ hw4) km_S_116 G ⟨by decide, by decide⟩ ⟨Nat.zero_le _, Nat.zero_le _⟩ rfl hl.1 rfl (Nat.le_of_ble_eq_true rfl) d_S_vertex_33 (fun H locs G => ?_)
        refine lv_if_eq (pc := 36) (tgt := 47) hx hb d_S_vertex_36 (by decide) (fun hc => ?_) (fun hc => ?_)
        · have hE := xs_t hE hc
          cases hE
        · have hE := xs_f hE hc
          refine lv_iload (pc := 39) hx hb d_S_vertex_39 (lv_at hl 5 rfl) ?_
          obtain ⟨w5, hw5, hE⟩ := xs_b hE
          refine xs_callSr (pc := 41) (as := [.int (x4)]) X (ok_S_isTexturePlace l D ad cs hJ hw5) km_S_116 G ⟨by decide, by decide⟩ ⟨Nat.zero_le _, Nat.zero_le _⟩ rfl hl.1 rfl (Nat.le_of_ble_eq_true rfl) d_S_vertex_41 (fun H locs G => ?_)
          refine lv_if_ne (pc := 44) (tgt := 57) hx hb d_S_vertex_44 (by decide) (fun hc => ?_) (fun hc => ?_)
          · have hE := xs_f hE hc
            refine lv_aload_n (pc := 57) hx hb d_S_vertex_57 rfl (lv_at hl 0 rfl) ?_
            refine gf_S_121 (pc := 58) X G d_S_vertex_58 ?_
            refine lv_bipush (pc := 61) (v := (20 : Int32)) hx hb d_S_vertex_61 (by decide) ?_
            refine lv_icmp_lt (pc := 63) (tgt := 76) hx hb d_S_vertex_63 (by decide) (fun hc => ?_) (fun hc => ?_)
            · have hE := xs_t hE hc
              refine lv_aload_n (pc := 76) hx hb d_S_vertex_76 rfl (lv_at hl 0 rfl) ?_
              refine lv_iload_n (pc := 77) hx hb d_S_vertex_77 rfl (lv_at hl 1 rfl) ?_
              refine lv_iload_n (pc := 78) hx hb d_S_vertex_78 rfl (lv_at hl 2 rfl) ?_
              refine lv_iload_n (pc := 79) hx hb d_S_vertex_79 rfl (lv_at hl 3 rfl) ?_
              refine lv_iload (pc := 80) hx hb d_S_vertex_80 (lv_at hl 4 rfl) ?_
              refine lv_iload (pc := 82) hx hb d_S_vertex_82 (lv_at hl 5 rfl) ?_
              obtain ⟨w6, hw6, hE⟩ := xs_b hE
              refine xs_callVv (pc := 84) (as := [.int (x0), .int (x1), .int (x2), .int (x3), .int (x4)]) X (ok_S_addCorner l D ad cs hJ hw6) km_S_127 G (xs_wS ad cs _) rfl ⟨by decide, by decide⟩ ⟨Nat.zero_le _, Nat.zero_le _⟩ rfl hl.1 rfl (Nat.le_of_ble_eq_true rfl) d_S_vertex_84 (fun H locs G => ?_)
              refine lv_aload_n (pc := 87) hx hb d_S_vertex_87 rfl (lv_at hl 0 rfl) ?_
              refine gf_S_121 (pc := 88) X G d_S_vertex_88 ?_
              cases hE
              exact xs_iret (pc := 91) hx hb hr hlk G d_S_vertex_91
            · have hE := xs_f hE hc
              cases hE
          · have hE := xs_t hE hc
            cases hE
      · have hE := xs_t hE hc
        cases hE
set_option maxHeartbeats 4000000 in
set_option maxRecDepth 100000 in
theorem th_S_vertex (l : Launch) (hlt : l.stackTraces = false) (D : va_G) (ad : Nat → Nat) (cs : xs_cs) (hJ : xs_J ad) {μ0 : xs_M} {x0 : Int32} {x1 : Int32} {x2 : Int32} {x3 : Int32} {x4 : Int32}  {ez : String × xs_M} (hE : fn_S_vertex μ0 x0 x1 x2 x3 x4 = some (.inr ez)) : xt_I l D ad cs y_S_vertex b_S_vertex 6 (some .int) 6 95 [.ref (ad 0), .int (x0), .int (x1), .int (x2), .int (x3), .int (x4)] μ0 ez.1 ez.2 := by
  refine xt_entry hJ (by decide) (Nat.le_of_ble_eq_true rfl) ?_
  intro p e s m below meth c ls X hlk hem hT G hl
  have X : xs_C p s m c b_S_vertex 6 _ "ExactScene" := X
  have hx := X.1
  have hb := X.2.1
  have hl : lv_has ls 6 [(0, .ref (ad 0)), (1, .int (x0)), (2, .int (x1)), (3, .int (x2)), (4, .int (x3)), (5, .int (x4))] := hl
  unfold fn_S_vertex at hE
  refine lv_iload_n (pc := 0) hx hb d_S_vertex_0 rfl (lv_at hl 1 rfl) ?_
  obtain ⟨w1, hw1, hE⟩ := xs_b hE
  refine xs_callSr (pc := 1) (as := [.int (x0)]) X (ok_S_isPlace l D ad cs hJ hw1) km_S_111 G ⟨by decide, by decide⟩ ⟨Nat.zero_le _, Nat.zero_le _⟩ rfl hl.1 rfl (Nat.le_of_ble_eq_true rfl) d_S_vertex_1 (fun H locs G => ?_)
  refine lv_if_eq (pc := 4) (tgt := 21) hx hb d_S_vertex_4 (by decide) (fun hc => ?_) (fun hc => ?_)
  · have hE := xs_t hE hc
    cases hE
    exact xt_throw (pc := 21) (cls := "java/lang/IllegalArgumentException") (names := ["java/lang/RuntimeException", "java/lang/Exception"]) (is := 114) (text := "x, y or z is not -31 .. 31") X hlt hlk hem hT G (by decide +kernel) (by decide +kernel) wk_41 wi9_41 wa_45 (by decide) hl.1 d_S_vertex_21 d_S_vertex_24 d_S_vertex_25 d_S_vertex_27 d_S_vertex_30 (by decide) (Nat.le_of_ble_eq_true rfl) (by decide) (by decide)
  · have hE := xs_f hE hc
    refine lv_iload_n (pc := 7) hx hb d_S_vertex_7 rfl (lv_at hl 2 rfl) ?_
    obtain ⟨w2, hw2, hE⟩ := xs_b hE
    refine xs_callSr (pc := 8) (as := [.int (x1)]) X (ok_S_isPlace l D ad cs hJ hw2) km_S_111 G ⟨by decide, by decide⟩ ⟨Nat.zero_le _, Nat.zero_le _⟩ rfl hl.1 rfl (Nat.le_of_ble_eq_true rfl) d_S_vertex_8 (fun H locs G => ?_)
    refine lv_if_eq (pc := 11) (tgt := 21) hx hb d_S_vertex_11 (by decide) (fun hc => ?_) (fun hc => ?_)
    · have hE := xs_t hE hc
      cases hE
      exact xt_throw (pc := 21) (cls := "java/lang/IllegalArgumentException") (names := ["java/lang/RuntimeException", "java/lang/Exception"]) (is := 114) (text := "x, y or z is not -31 .. 31") X hlt hlk hem hT G (by decide +kernel) (by decide +kernel) wk_41 wi9_41 wa_45 (by decide) hl.1 d_S_vertex_21 d_S_vertex_24 d_S_vertex_25 d_S_vertex_27 d_S_vertex_30 (by decide) (Nat.le_of_ble_eq_true rfl) (by decide) (by decide)
    · have hE := xs_f hE hc
      refine lv_iload_n (pc := 14) hx hb d_S_vertex_14 rfl (lv_at hl 3 rfl) ?_
      obtain ⟨w3, hw3, hE⟩ := xs_b hE
      refine xs_callSr (pc := 15) (as := [.int (x2)]) X (ok_S_isPlace l D ad cs hJ hw3) km_S_111 G ⟨by decide, by decide⟩ ⟨Nat.zero_le _, Nat.zero_le _⟩ rfl hl.1 rfl (Nat.le_of_ble_eq_true rfl) d_S_vertex_15 (fun H locs G => ?_)
      refine lv_if_ne (pc := 18) (tgt := 31) hx hb d_S_vertex_18 (by decide) (fun hc => ?_) (fun hc => ?_)
      · have hE := xs_f hE hc
        refine lv_iload (pc := 31) hx hb d_S_vertex_31 (lv_at hl 4 rfl) ?_
        obtain ⟨w4, hw4, hE⟩ := xs_b hE
        refine xs_callSr (pc := 33) (as := [.int (x3)]) X (ok_S_isTexturePlace l D ad cs hJ hw4) km_S_116 G ⟨by decide, by decide⟩ ⟨Nat.zero_le _, Nat.zero_le _⟩ rfl hl.1 rfl (Nat.le_of_ble_eq_true rfl) d_S_vertex_33 (fun H locs G => ?_)
        refine lv_if_eq (pc := 36) (tgt := 47) hx hb d_S_vertex_36 (by decide) (fun hc => ?_) (fun hc => ?_)
        · have hE := xs_t hE hc
          cases hE
          exact xt_throw (pc := 47) (cls := "java/lang/IllegalArgumentException") (names := ["java/lang/RuntimeException", "java/lang/Exception"]) (is := 119) (text := "u or v is not -127 .. 127") X hlt hlk hem hT G (by decide +kernel) (by decide +kernel) wk_41 wi9_41 wa_45 (by decide) hl.1 d_S_vertex_47 d_S_vertex_50 d_S_vertex_51 d_S_vertex_53 d_S_vertex_56 (by decide) (Nat.le_of_ble_eq_true rfl) (by decide) (by decide)
        · have hE := xs_f hE hc
          refine lv_iload (pc := 39) hx hb d_S_vertex_39 (lv_at hl 5 rfl) ?_
          obtain ⟨w5, hw5, hE⟩ := xs_b hE
          refine xs_callSr (pc := 41) (as := [.int (x4)]) X (ok_S_isTexturePlace l D ad cs hJ hw5) km_S_116 G ⟨by decide, by decide⟩ ⟨Nat.zero_le _, Nat.zero_le _⟩ rfl hl.1 rfl (Nat.le_of_ble_eq_true rfl) d_S_vertex_41 (fun H locs G => ?_)
          refine lv_if_ne (pc := 44) (tgt := 57) hx hb d_S_vertex_44 (by decide) (fun hc => ?_) (fun hc => ?_)
          · have hE := xs_f hE hc
            refine lv_aload_n (pc := 57) hx hb d_S_vertex_57 rfl (lv_at hl 0 rfl) ?_
            refine gf_S_121 (pc := 58) X G d_S_vertex_58 ?_
            refine lv_bipush (pc := 61) (v := (20 : Int32)) hx hb d_S_vertex_61 (by decide) ?_
            refine lv_icmp_lt (pc := 63) (tgt := 76) hx hb d_S_vertex_63 (by decide) (fun hc => ?_) (fun hc => ?_)
            · have hE := xs_t hE hc
              refine lv_aload_n (pc := 76) hx hb d_S_vertex_76 rfl (lv_at hl 0 rfl) ?_
              refine lv_iload_n (pc := 77) hx hb d_S_vertex_77 rfl (lv_at hl 1 rfl) ?_
              refine lv_iload_n (pc := 78) hx hb d_S_vertex_78 rfl (lv_at hl 2 rfl) ?_
              refine lv_iload_n (pc := 79) hx hb d_S_vertex_79 rfl (lv_at hl 3 rfl) ?_
              refine lv_iload (pc := 80) hx hb d_S_vertex_80 (lv_at hl 4 rfl) ?_
              refine lv_iload (pc := 82) hx hb d_S_vertex_82 (lv_at hl 5 rfl) ?_
              obtain ⟨w6, hw6, hE⟩ := xs_b hE
              refine xs_callVv (pc := 84) (as := [.int (x0), .int (x1), .int (x2), .int (x3), .int (x4)]) X (ok_S_addCorner l D ad cs hJ hw6) km_S_127 G (xs_wS ad cs _) rfl ⟨by decide, by decide⟩ ⟨Nat.zero_le _, Nat.zero_le _⟩ rfl hl.1 rfl (Nat.le_of_ble_eq_true rfl) d_S_vertex_84 (fun H locs G => ?_)
              refine lv_aload_n (pc := 87) hx hb d_S_vertex_87 rfl (lv_at hl 0 rfl) ?_
              refine gf_S_121 (pc := 88) X G d_S_vertex_88 ?_
              cases hE
            · have hE := xs_f hE hc
              cases hE
              exact xt_throw (pc := 66) (cls := "java/lang/IllegalStateException") (names := ["java/lang/RuntimeException", "java/lang/Exception"]) (is := 125) (text := "there are 20 triangles") X hlt hlk hem hT G (by decide +kernel) (by decide +kernel) wk_83 wi9_83 wa_87 (by decide) hl.1 d_S_vertex_66 d_S_vertex_69 d_S_vertex_70 d_S_vertex_72 d_S_vertex_75 (by decide) (Nat.le_of_ble_eq_true rfl) (by decide) (by decide)
          · have hE := xs_t hE hc
            cases hE
            exact xt_throw (pc := 47) (cls := "java/lang/IllegalArgumentException") (names := ["java/lang/RuntimeException", "java/lang/Exception"]) (is := 119) (text := "u or v is not -127 .. 127") X hlt hlk hem hT G (by decide +kernel) (by decide +kernel) wk_41 wi9_41 wa_45 (by decide) hl.1 d_S_vertex_47 d_S_vertex_50 d_S_vertex_51 d_S_vertex_53 d_S_vertex_56 (by decide) (Nat.le_of_ble_eq_true rfl) (by decide) (by decide)
      · have hE := xs_t hE hc
        cases hE
        exact xt_throw (pc := 21) (cls := "java/lang/IllegalArgumentException") (names := ["java/lang/RuntimeException", "java/lang/Exception"]) (is := 114) (text := "x, y or z is not -31 .. 31") X hlt hlk hem hT G (by decide +kernel) (by decide +kernel) wk_41 wi9_41 wa_45 (by decide) hl.1 d_S_vertex_21 d_S_vertex_24 d_S_vertex_25 d_S_vertex_27 d_S_vertex_30 (by decide) (Nat.le_of_ble_eq_true rfl) (by decide) (by decide)
def fn_S_texel (μ0 : xs_M) (x0 : Int32) (x1 : Int32) (x2 : Int32) (x3 : Int32) : Option ((Int32 × xs_M) ⊕ (String × xs_M)) :=
  ((fn_X_isTexture μ0 x0).bind fun w1 => (if w1 = 0 then some (.inr ("java/lang/IndexOutOfBoundsException", μ0)) else ((fn_X_isLine μ0 x1).bind fun w2 => (if w2 = 0 then some (.inr ("java/lang/IndexOutOfBoundsException", μ0)) else ((fn_X_isLine μ0 x2).bind fun w3 => (if w3 = 0 then some (.inr ("java/lang/IndexOutOfBoundsException", μ0)) else ((fn_X_indexOf μ0 x0 x1 x2).bind fun w4 => ((fn_X_exchange μ0 w4 (x3 &&& (255 : Int32))).bind fun w5 => some (.inl (w5.1, w5.2))))))))))
set_option maxHeartbeats 4000000 in
set_option maxRecDepth 100000 in
theorem ok_S_texel (l : Launch) (D : va_G) (ad : Nat → Nat) (cs : xs_cs) (hJ : xs_J ad) {μ0 : xs_M} {x0 : Int32} {x1 : Int32} {x2 : Int32} {x3 : Int32}  {rz : (Int32 × xs_M)} (hE : fn_S_texel μ0 x0 x1 x2 x3 = some (.inl rz)) : xs_I l D ad cs y_S_texel b_S_texel 5 (some .int) 2 42 [.ref (ad 0), .int (x0), .int (x1), .int (x2), .int (x3)] μ0 (some (.int rz.1)) rz.2 := by
  refine xs_entry hJ (by decide) (Nat.le_of_ble_eq_true rfl) ?_
  intro p e s m below meth c ls X hr hlk G hl
  have X : xs_C p s m c b_S_texel 5 _ "ExactScene" := X
  have hx := X.1
  have hb := X.2.1
  have hl : lv_has ls 5 [(0, .ref (ad 0)), (1, .int (x0)), (2, .int (x1)), (3, .int (x2)), (4, .int (x3))] := hl
  unfold fn_S_texel at hE
  refine lv_iload_n (pc := 0) hx hb d_S_texel_0 rfl (lv_at hl 1 rfl) ?_
  obtain ⟨w1, hw1, hE⟩ := xs_b hE
  refine xs_callSr (pc := 1) (as := [.int (x0)]) X (ok_X_isTexture l D ad cs hJ hw1) km_S_130 G ⟨by decide, by decide⟩ ⟨Nat.zero_le _, Nat.zero_le _⟩ rfl hl.1 rfl (Nat.le_of_ble_eq_true rfl) d_S_texel_1 (fun H locs G => ?_)
  refine lv_if_eq (pc := 4) (tgt := 21) hx hb d_S_texel_4 (by decide) (fun hc => ?_) (fun hc => ?_)
  · have hE := xs_t hE hc
    cases hE
  · have hE := xs_f hE hc
    refine lv_iload_n (pc := 7) hx hb d_S_texel_7 rfl (lv_at hl 2 rfl) ?_
    obtain ⟨w2, hw2, hE⟩ := xs_b hE
    refine xs_callSr (pc := 8) (as := [.int (x1)]) X (ok_X_isLine l D ad cs hJ hw2) km_S_142 G ⟨by decide, by decide⟩ ⟨Nat.zero_le _, Nat.zero_le _⟩ rfl hl.1 rfl (Nat.le_of_ble_eq_true rfl) d_S_texel_8 (fun H locs G => ?_)
    refine lv_if_eq (pc := 11) (tgt := 21) hx hb d_S_texel_11 (by decide) (fun hc => ?_) (fun hc => ?_)
    · have hE := xs_t hE hc
      cases hE
    · have hE := xs_f hE hc
      refine lv_iload_n (pc := 14) hx hb d_S_texel_14 rfl (lv_at hl 3 rfl) ?_
      obtain ⟨w3, hw3, hE⟩ := xs_b hE
      refine xs_callSr (pc := 15) (as := [.int (x2)]) X (ok_X_isLine l D ad cs hJ hw3) km_S_142 G ⟨by decide, by decide⟩ ⟨Nat.zero_le _, Nat.zero_le _⟩ rfl hl.1 rfl (Nat.le_of_ble_eq_true rfl) d_S_texel_15 (fun H locs G => ?_)
      refine lv_if_ne (pc := 18) (tgt := 31) hx hb d_S_texel_18 (by decide) (fun hc => ?_) (fun hc => ?_)
      · have hE := xs_f hE hc
        refine lv_aload_n (pc := 31) hx hb d_S_texel_31 rfl (lv_at hl 0 rfl) ?_
        refine gf_S_19 (pc := 32) X G d_S_texel_32 ?_
        refine lv_iload_n (pc := 35) hx hb d_S_texel_35 rfl (lv_at hl 1 rfl) ?_
        refine lv_iload_n (pc := 36) hx hb d_S_texel_36 rfl (lv_at hl 2 rfl) ?_
        refine lv_iload_n (pc := 37) hx hb d_S_texel_37 rfl (lv_at hl 3 rfl) ?_
        obtain ⟨w4, hw4, hE⟩ := xs_b hE
        refine xs_callSr (pc := 38) (as := [.int (x0), .int (x1), .int (x2)]) X (ok_X_indexOf l D ad cs hJ hw4) km_S_145 G ⟨by decide, by decide⟩ ⟨Nat.zero_le _, Nat.zero_le _⟩ rfl hl.1 rfl (Nat.le_of_ble_eq_true rfl) d_S_texel_38 (fun H locs G => ?_)
        refine lv_iload (pc := 41) hx hb d_S_texel_41 (lv_at hl 4 rfl) ?_
        refine lv_sipush (pc := 43) (v := (255 : Int32)) hx hb d_S_texel_43 (by decide) ?_
        refine lv_iand (pc := 46) hx hb d_S_texel_46 ?_
        obtain ⟨w5, hw5, hE⟩ := xs_b hE
        refine xs_callVr (pc := 47) (as := [.int (w4), .int ((x3 &&& (255 : Int32)))]) X (ok_X_exchange l D ad cs hJ hw5) km_S_149 G (xs_wX ad cs _) rfl ⟨by decide, by decide⟩ ⟨Nat.zero_le _, Nat.zero_le _⟩ rfl hl.1 rfl (Nat.le_of_ble_eq_true rfl) d_S_texel_47 (fun H locs G => ?_)
        cases hE
        exact xs_iret (pc := 50) hx hb hr hlk G d_S_texel_50
      · have hE := xs_t hE hc
        cases hE
set_option maxHeartbeats 4000000 in
set_option maxRecDepth 100000 in
theorem th_S_texel (l : Launch) (hlt : l.stackTraces = false) (D : va_G) (ad : Nat → Nat) (cs : xs_cs) (hJ : xs_J ad) {μ0 : xs_M} {x0 : Int32} {x1 : Int32} {x2 : Int32} {x3 : Int32}  {ez : String × xs_M} (hE : fn_S_texel μ0 x0 x1 x2 x3 = some (.inr ez)) : xt_I l D ad cs y_S_texel b_S_texel 5 (some .int) 6 90 [.ref (ad 0), .int (x0), .int (x1), .int (x2), .int (x3)] μ0 ez.1 ez.2 := by
  refine xt_entry hJ (by decide) (Nat.le_of_ble_eq_true rfl) ?_
  intro p e s m below meth c ls X hlk hem hT G hl
  have X : xs_C p s m c b_S_texel 5 _ "ExactScene" := X
  have hx := X.1
  have hb := X.2.1
  have hl : lv_has ls 5 [(0, .ref (ad 0)), (1, .int (x0)), (2, .int (x1)), (3, .int (x2)), (4, .int (x3))] := hl
  unfold fn_S_texel at hE
  refine lv_iload_n (pc := 0) hx hb d_S_texel_0 rfl (lv_at hl 1 rfl) ?_
  obtain ⟨w1, hw1, hE⟩ := xs_b hE
  refine xs_callSr (pc := 1) (as := [.int (x0)]) X (ok_X_isTexture l D ad cs hJ hw1) km_S_130 G ⟨by decide, by decide⟩ ⟨Nat.zero_le _, Nat.zero_le _⟩ rfl hl.1 rfl (Nat.le_of_ble_eq_true rfl) d_S_texel_1 (fun H locs G => ?_)
  refine lv_if_eq (pc := 4) (tgt := 21) hx hb d_S_texel_4 (by decide) (fun hc => ?_) (fun hc => ?_)
  · have hE := xs_t hE hc
    cases hE
    exact xt_throw (pc := 21) (cls := "java/lang/IndexOutOfBoundsException") (names := ["java/lang/RuntimeException", "java/lang/Exception"]) (is := 143) (text := "there is no such texel") X hlt hlk hem hT G (by decide +kernel) (by decide +kernel) wk_102 wi9_102 wa_106 (by decide) hl.1 d_S_texel_21 d_S_texel_24 d_S_texel_25 d_S_texel_27 d_S_texel_30 (by decide) (Nat.le_of_ble_eq_true rfl) (by decide) (by decide)
  · have hE := xs_f hE hc
    refine lv_iload_n (pc := 7) hx hb d_S_texel_7 rfl (lv_at hl 2 rfl) ?_
    obtain ⟨w2, hw2, hE⟩ := xs_b hE
    refine xs_callSr (pc := 8) (as := [.int (x1)]) X (ok_X_isLine l D ad cs hJ hw2) km_S_142 G ⟨by decide, by decide⟩ ⟨Nat.zero_le _, Nat.zero_le _⟩ rfl hl.1 rfl (Nat.le_of_ble_eq_true rfl) d_S_texel_8 (fun H locs G => ?_)
    refine lv_if_eq (pc := 11) (tgt := 21) hx hb d_S_texel_11 (by decide) (fun hc => ?_) (fun hc => ?_)
    · have hE := xs_t hE hc
      cases hE
      exact xt_throw (pc := 21) (cls := "java/lang/IndexOutOfBoundsException") (names := ["java/lang/RuntimeException", "java/lang/Exception"]) (is := 143) (text := "there is no such texel") X hlt hlk hem hT G (by decide +kernel) (by decide +kernel) wk_102 wi9_102 wa_106 (by decide) hl.1 d_S_texel_21 d_S_texel_24 d_S_texel_25 d_S_texel_27 d_S_texel_30 (by decide) (Nat.le_of_ble_eq_true rfl) (by decide) (by decide)
    · have hE := xs_f hE hc
      refine lv_iload_n (pc := 14) hx hb d_S_texel_14 rfl (lv_at hl 3 rfl) ?_
      obtain ⟨w3, hw3, hE⟩ := xs_b hE
      refine xs_callSr (pc := 15) (as := [.int (x2)]) X (ok_X_isLine l D ad cs hJ hw3) km_S_142 G ⟨by decide, by decide⟩ ⟨Nat.zero_le _, Nat.zero_le _⟩ rfl hl.1 rfl (Nat.le_of_ble_eq_true rfl) d_S_texel_15 (fun H locs G => ?_)
      refine lv_if_ne (pc := 18) (tgt := 31) hx hb d_S_texel_18 (by decide) (fun hc => ?_) (fun hc => ?_)
      · have hE := xs_f hE hc
        refine lv_aload_n (pc := 31) hx hb d_S_texel_31 rfl (lv_at hl 0 rfl) ?_
        refine gf_S_19 (pc := 32) X G d_S_texel_32 ?_
        refine lv_iload_n (pc := 35) hx hb d_S_texel_35 rfl (lv_at hl 1 rfl) ?_
        refine lv_iload_n (pc := 36) hx hb d_S_texel_36 rfl (lv_at hl 2 rfl) ?_
        refine lv_iload_n (pc := 37) hx hb d_S_texel_37 rfl (lv_at hl 3 rfl) ?_
        obtain ⟨w4, hw4, hE⟩ := xs_b hE
        refine xs_callSr (pc := 38) (as := [.int (x0), .int (x1), .int (x2)]) X (ok_X_indexOf l D ad cs hJ hw4) km_S_145 G ⟨by decide, by decide⟩ ⟨Nat.zero_le _, Nat.zero_le _⟩ rfl hl.1 rfl (Nat.le_of_ble_eq_true rfl) d_S_texel_38 (fun H locs G => ?_)
        refine lv_iload (pc := 41) hx hb d_S_texel_41 (lv_at hl 4 rfl) ?_
        refine lv_sipush (pc := 43) (v := (255 : Int32)) hx hb d_S_texel_43 (by decide) ?_
        refine lv_iand (pc := 46) hx hb d_S_texel_46 ?_
        obtain ⟨w5, hw5, hE⟩ := xs_b hE
        refine xs_callVr (pc := 47) (as := [.int (w4), .int ((x3 &&& (255 : Int32)))]) X (ok_X_exchange l D ad cs hJ hw5) km_S_149 G (xs_wX ad cs _) rfl ⟨by decide, by decide⟩ ⟨Nat.zero_le _, Nat.zero_le _⟩ rfl hl.1 rfl (Nat.le_of_ble_eq_true rfl) d_S_texel_47 (fun H locs G => ?_)
        cases hE
      · have hE := xs_t hE hc
        cases hE
        exact xt_throw (pc := 21) (cls := "java/lang/IndexOutOfBoundsException") (names := ["java/lang/RuntimeException", "java/lang/Exception"]) (is := 143) (text := "there is no such texel") X hlt hlk hem hT G (by decide +kernel) (by decide +kernel) wk_102 wi9_102 wa_106 (by decide) hl.1 d_S_texel_21 d_S_texel_24 d_S_texel_25 d_S_texel_27 d_S_texel_30 (by decide) (Nat.le_of_ble_eq_true rfl) (by decide) (by decide)
def fn_S_colour (μ0 : xs_M) (x0 : Int32) (x1 : Int32) : Option ((Int32 × xs_M) ⊕ (String × xs_M)) :=
  ((fn_P_isPixel μ0 x0 x1).bind fun w1 => (if w1 = 0 then some (.inr ("java/lang/IndexOutOfBoundsException", μ0)) else ((fn_P_indexOf μ0 x0 x1).bind fun w2 => (if xs_in w2 192 = true then some (.inl ((μ0.1 9 w2.toNatClampNeg), μ0)) else none))))
set_option maxHeartbeats 4000000 in
set_option maxRecDepth 100000 in
theorem ok_S_colour (l : Launch) (D : va_G) (ad : Nat → Nat) (cs : xs_cs) (hJ : xs_J ad) {μ0 : xs_M} {x0 : Int32} {x1 : Int32}  {rz : (Int32 × xs_M)} (hE : fn_S_colour μ0 x0 x1 = some (.inl rz)) : xs_I l D ad cs y_S_colour b_S_colour 3 (some .int) 2 43 [.ref (ad 0), .int (x0), .int (x1)] μ0 (some (.int rz.1)) rz.2 := by
  refine xs_entry hJ (by decide) (Nat.le_of_ble_eq_true rfl) ?_
  intro p e s m below meth c ls X hr hlk G hl
  have X : xs_C p s m c b_S_colour 3 _ "ExactScene" := X
  have hx := X.1
  have hb := X.2.1
  have hl : lv_has ls 3 [(0, .ref (ad 0)), (1, .int (x0)), (2, .int (x1))] := hl
  unfold fn_S_colour at hE
  refine lv_iload_n (pc := 0) hx hb d_S_colour_0 rfl (lv_at hl 1 rfl) ?_
  refine lv_iload_n (pc := 1) hx hb d_S_colour_1 rfl (lv_at hl 2 rfl) ?_
  obtain ⟨w1, hw1, hE⟩ := xs_b hE
  refine xs_callSr (pc := 2) (as := [.int (x0), .int (x1)]) X (ok_P_isPixel l D ad cs hJ hw1) km_S_170 G ⟨by decide, by decide⟩ ⟨Nat.zero_le _, Nat.zero_le _⟩ rfl hl.1 rfl (Nat.le_of_ble_eq_true rfl) d_S_colour_2 (fun H locs G => ?_)
  refine lv_if_ne (pc := 5) (tgt := 18) hx hb d_S_colour_5 (by decide) (fun hc => ?_) (fun hc => ?_)
  · have hE := xs_f hE hc
    refine lv_aload_n (pc := 18) hx hb d_S_colour_18 rfl (lv_at hl 0 rfl) ?_
    refine gf_S_26 (pc := 19) X G d_S_colour_19 ?_
    refine gf_S_176 (pc := 22) X G d_S_colour_22 ?_
    refine lv_iload_n (pc := 25) hx hb d_S_colour_25 rfl (lv_at hl 1 rfl) ?_
    refine lv_iload_n (pc := 26) hx hb d_S_colour_26 rfl (lv_at hl 2 rfl) ?_
    obtain ⟨w2, hw2, hE⟩ := xs_b hE
    refine xs_callSr (pc := 27) (as := [.int (x0), .int (x1)]) X (ok_P_indexOf l D ad cs hJ hw2) km_S_180 G ⟨by decide, by decide⟩ ⟨Nat.zero_le _, Nat.zero_le _⟩ rfl hl.1 rfl (Nat.le_of_ble_eq_true rfl) d_S_colour_27 (fun H locs G => ?_)
    obtain ⟨hi3, hE⟩ := xs_n hE
    refine xs_iald (pc := 30) hx hb G ia_9 (xs_inP hi3) d_S_colour_30 ?_
    cases hE
    exact xs_iret (pc := 31) hx hb hr hlk G d_S_colour_31
  · have hE := xs_t hE hc
    cases hE
set_option maxHeartbeats 4000000 in
set_option maxRecDepth 100000 in
theorem th_S_colour (l : Launch) (hlt : l.stackTraces = false) (D : va_G) (ad : Nat → Nat) (cs : xs_cs) (hJ : xs_J ad) {μ0 : xs_M} {x0 : Int32} {x1 : Int32}  {ez : String × xs_M} (hE : fn_S_colour μ0 x0 x1 = some (.inr ez)) : xt_I l D ad cs y_S_colour b_S_colour 3 (some .int) 6 90 [.ref (ad 0), .int (x0), .int (x1)] μ0 ez.1 ez.2 := by
  refine xt_entry hJ (by decide) (Nat.le_of_ble_eq_true rfl) ?_
  intro p e s m below meth c ls X hlk hem hT G hl
  have X : xs_C p s m c b_S_colour 3 _ "ExactScene" := X
  have hx := X.1
  have hb := X.2.1
  have hl : lv_has ls 3 [(0, .ref (ad 0)), (1, .int (x0)), (2, .int (x1))] := hl
  unfold fn_S_colour at hE
  refine lv_iload_n (pc := 0) hx hb d_S_colour_0 rfl (lv_at hl 1 rfl) ?_
  refine lv_iload_n (pc := 1) hx hb d_S_colour_1 rfl (lv_at hl 2 rfl) ?_
  obtain ⟨w1, hw1, hE⟩ := xs_b hE
  refine xs_callSr (pc := 2) (as := [.int (x0), .int (x1)]) X (ok_P_isPixel l D ad cs hJ hw1) km_S_170 G ⟨by decide, by decide⟩ ⟨Nat.zero_le _, Nat.zero_le _⟩ rfl hl.1 rfl (Nat.le_of_ble_eq_true rfl) d_S_colour_2 (fun H locs G => ?_)
  refine lv_if_ne (pc := 5) (tgt := 18) hx hb d_S_colour_5 (by decide) (fun hc => ?_) (fun hc => ?_)
  · have hE := xs_f hE hc
    refine lv_aload_n (pc := 18) hx hb d_S_colour_18 rfl (lv_at hl 0 rfl) ?_
    refine gf_S_26 (pc := 19) X G d_S_colour_19 ?_
    refine gf_S_176 (pc := 22) X G d_S_colour_22 ?_
    refine lv_iload_n (pc := 25) hx hb d_S_colour_25 rfl (lv_at hl 1 rfl) ?_
    refine lv_iload_n (pc := 26) hx hb d_S_colour_26 rfl (lv_at hl 2 rfl) ?_
    obtain ⟨w2, hw2, hE⟩ := xs_b hE
    refine xs_callSr (pc := 27) (as := [.int (x0), .int (x1)]) X (ok_P_indexOf l D ad cs hJ hw2) km_S_180 G ⟨by decide, by decide⟩ ⟨Nat.zero_le _, Nat.zero_le _⟩ rfl hl.1 rfl (Nat.le_of_ble_eq_true rfl) d_S_colour_27 (fun H locs G => ?_)
    obtain ⟨hi3, hE⟩ := xs_n hE
    refine xs_iald (pc := 30) hx hb G ia_9 (xs_inP hi3) d_S_colour_30 ?_
    cases hE
  · have hE := xs_t hE hc
    cases hE
    exact xt_throw (pc := 8) (cls := "java/lang/IndexOutOfBoundsException") (names := ["java/lang/RuntimeException", "java/lang/Exception"]) (is := 174) (text := "there is no such pixel") X hlt hlk hem hT G (by decide +kernel) (by decide +kernel) wk_102 wi9_102 wa_106 (by decide) hl.1 d_S_colour_8 d_S_colour_11 d_S_colour_12 d_S_colour_14 d_S_colour_17 (by decide) (Nat.le_of_ble_eq_true rfl) (by decide) (by decide)
def fn_S_owner (μ0 : xs_M) (x0 : Int32) (x1 : Int32) : Option ((Int32 × xs_M) ⊕ (String × xs_M)) :=
  ((fn_P_isPixel μ0 x0 x1).bind fun w1 => (if w1 = 0 then some (.inr ("java/lang/IndexOutOfBoundsException", μ0)) else ((fn_P_indexOf μ0 x0 x1).bind fun w2 => (if xs_in w2 192 = true then some (.inl ((μ0.1 10 w2.toNatClampNeg), μ0)) else none))))
set_option maxHeartbeats 4000000 in
set_option maxRecDepth 100000 in
theorem ok_S_owner (l : Launch) (D : va_G) (ad : Nat → Nat) (cs : xs_cs) (hJ : xs_J ad) {μ0 : xs_M} {x0 : Int32} {x1 : Int32}  {rz : (Int32 × xs_M)} (hE : fn_S_owner μ0 x0 x1 = some (.inl rz)) : xs_I l D ad cs y_S_owner b_S_owner 3 (some .int) 2 43 [.ref (ad 0), .int (x0), .int (x1)] μ0 (some (.int rz.1)) rz.2 := by
  refine xs_entry hJ (by decide) (Nat.le_of_ble_eq_true rfl) ?_
  intro p e s m below meth c ls X hr hlk G hl
  have X : xs_C p s m c b_S_owner 3 _ "ExactScene" := X
  have hx := X.1
  have hb := X.2.1
  have hl : lv_has ls 3 [(0, .ref (ad 0)), (1, .int (x0)), (2, .int (x1))] := hl
  unfold fn_S_owner at hE
  refine lv_iload_n (pc := 0) hx hb d_S_owner_0 rfl (lv_at hl 1 rfl) ?_
  refine lv_iload_n (pc := 1) hx hb d_S_owner_1 rfl (lv_at hl 2 rfl) ?_
  obtain ⟨w1, hw1, hE⟩ := xs_b hE
  refine xs_callSr (pc := 2) (as := [.int (x0), .int (x1)]) X (ok_P_isPixel l D ad cs hJ hw1) km_S_170 G ⟨by decide, by decide⟩ ⟨Nat.zero_le _, Nat.zero_le _⟩ rfl hl.1 rfl (Nat.le_of_ble_eq_true rfl) d_S_owner_2 (fun H locs G => ?_)
  refine lv_if_ne (pc := 5) (tgt := 18) hx hb d_S_owner_5 (by decide) (fun hc => ?_) (fun hc => ?_)
  · have hE := xs_f hE hc
    refine lv_aload_n (pc := 18) hx hb d_S_owner_18 rfl (lv_at hl 0 rfl) ?_
    refine gf_S_26 (pc := 19) X G d_S_owner_19 ?_
    refine gf_S_182 (pc := 22) X G d_S_owner_22 ?_
    refine lv_iload_n (pc := 25) hx hb d_S_owner_25 rfl (lv_at hl 1 rfl) ?_
    refine lv_iload_n (pc := 26) hx hb d_S_owner_26 rfl (lv_at hl 2 rfl) ?_
    obtain ⟨w2, hw2, hE⟩ := xs_b hE
    refine xs_callSr (pc := 27) (as := [.int (x0), .int (x1)]) X (ok_P_indexOf l D ad cs hJ hw2) km_S_180 G ⟨by decide, by decide⟩ ⟨Nat.zero_le _, Nat.zero_le _⟩ rfl hl.1 rfl (Nat.le_of_ble_eq_true rfl) d_S_owner_27 (fun H locs G => ?_)
    obtain ⟨hi3, hE⟩ := xs_n hE
    refine xs_iald (pc := 30) hx hb G ia_10 (xs_inP hi3) d_S_owner_30 ?_
    cases hE
    exact xs_iret (pc := 31) hx hb hr hlk G d_S_owner_31
  · have hE := xs_t hE hc
    cases hE
set_option maxHeartbeats 4000000 in
set_option maxRecDepth 100000 in
theorem th_S_owner (l : Launch) (hlt : l.stackTraces = false) (D : va_G) (ad : Nat → Nat) (cs : xs_cs) (hJ : xs_J ad) {μ0 : xs_M} {x0 : Int32} {x1 : Int32}  {ez : String × xs_M} (hE : fn_S_owner μ0 x0 x1 = some (.inr ez)) : xt_I l D ad cs y_S_owner b_S_owner 3 (some .int) 6 90 [.ref (ad 0), .int (x0), .int (x1)] μ0 ez.1 ez.2 := by
  refine xt_entry hJ (by decide) (Nat.le_of_ble_eq_true rfl) ?_
  intro p e s m below meth c ls X hlk hem hT G hl
  have X : xs_C p s m c b_S_owner 3 _ "ExactScene" := X
  have hx := X.1
  have hb := X.2.1
  have hl : lv_has ls 3 [(0, .ref (ad 0)), (1, .int (x0)), (2, .int (x1))] := hl
  unfold fn_S_owner at hE
  refine lv_iload_n (pc := 0) hx hb d_S_owner_0 rfl (lv_at hl 1 rfl) ?_
  refine lv_iload_n (pc := 1) hx hb d_S_owner_1 rfl (lv_at hl 2 rfl) ?_
  obtain ⟨w1, hw1, hE⟩ := xs_b hE
  refine xs_callSr (pc := 2) (as := [.int (x0), .int (x1)]) X (ok_P_isPixel l D ad cs hJ hw1) km_S_170 G ⟨by decide, by decide⟩ ⟨Nat.zero_le _, Nat.zero_le _⟩ rfl hl.1 rfl (Nat.le_of_ble_eq_true rfl) d_S_owner_2 (fun H locs G => ?_)
  refine lv_if_ne (pc := 5) (tgt := 18) hx hb d_S_owner_5 (by decide) (fun hc => ?_) (fun hc => ?_)
  · have hE := xs_f hE hc
    refine lv_aload_n (pc := 18) hx hb d_S_owner_18 rfl (lv_at hl 0 rfl) ?_
    refine gf_S_26 (pc := 19) X G d_S_owner_19 ?_
    refine gf_S_182 (pc := 22) X G d_S_owner_22 ?_
    refine lv_iload_n (pc := 25) hx hb d_S_owner_25 rfl (lv_at hl 1 rfl) ?_
    refine lv_iload_n (pc := 26) hx hb d_S_owner_26 rfl (lv_at hl 2 rfl) ?_
    obtain ⟨w2, hw2, hE⟩ := xs_b hE
    refine xs_callSr (pc := 27) (as := [.int (x0), .int (x1)]) X (ok_P_indexOf l D ad cs hJ hw2) km_S_180 G ⟨by decide, by decide⟩ ⟨Nat.zero_le _, Nat.zero_le _⟩ rfl hl.1 rfl (Nat.le_of_ble_eq_true rfl) d_S_owner_27 (fun H locs G => ?_)
    obtain ⟨hi3, hE⟩ := xs_n hE
    refine xs_iald (pc := 30) hx hb G ia_10 (xs_inP hi3) d_S_owner_30 ?_
    cases hE
  · have hE := xs_t hE hc
    cases hE
    exact xt_throw (pc := 8) (cls := "java/lang/IndexOutOfBoundsException") (names := ["java/lang/RuntimeException", "java/lang/Exception"]) (is := 174) (text := "there is no such pixel") X hlt hlk hem hT G (by decide +kernel) (by decide +kernel) wk_102 wi9_102 wa_106 (by decide) hl.1 d_S_owner_8 d_S_owner_11 d_S_owner_12 d_S_owner_14 d_S_owner_17 (by decide) (Nat.le_of_ble_eq_true rfl) (by decide) (by decide)
def fn_S_compare (μ0 : xs_M) (x0 : Int32) (x1 : Int32) (x2 : Int32) (x3 : Int32) : Option ((Int32 × xs_M) ⊕ (String × xs_M)) :=
  ((fn_P_isPixel μ0 x0 x1).bind fun w1 => (if w1 = 0 then some (.inr ("java/lang/IndexOutOfBoundsException", μ0)) else ((fn_P_isPixel μ0 x2 x3).bind fun w2 => (if w2 = 0 then some (.inr ("java/lang/IndexOutOfBoundsException", μ0)) else ((fn_P_indexOf μ0 x0 x1).bind fun w3 => ((fn_P_indexOf μ0 x2 x3).bind fun w4 => ((fn_P_isOwned μ0 w3).bind fun w5 => (if w5 = 0 then some (.inr ("java/lang/IllegalStateException", μ0)) else ((fn_P_isOwned μ0 w4).bind fun w6 => (if w6 = 0 then some (.inr ("java/lang/IllegalStateException", μ0)) else ((fn_P_compareDepths μ0 w3 w4).bind fun w7 => some (.inl (w7, μ0)))))))))))))
set_option maxHeartbeats 4000000 in
set_option maxRecDepth 100000 in
theorem ok_S_compare (l : Launch) (D : va_G) (ad : Nat → Nat) (cs : xs_cs) (hJ : xs_J ad) {μ0 : xs_M} {x0 : Int32} {x1 : Int32} {x2 : Int32} {x3 : Int32}  {rz : (Int32 × xs_M)} (hE : fn_S_compare μ0 x0 x1 x2 x3 = some (.inl rz)) : xs_I l D ad cs y_S_compare b_S_compare 7 (some .int) 2 55 [.ref (ad 0), .int (x0), .int (x1), .int (x2), .int (x3)] μ0 (some (.int rz.1)) rz.2 := by
  refine xs_entry hJ (by decide) (Nat.le_of_ble_eq_true rfl) ?_
  intro p e s m below meth c ls X hr hlk G hl
  have X : xs_C p s m c b_S_compare 7 _ "ExactScene" := X
  have hx := X.1
  have hb := X.2.1
  have hl : lv_has ls 7 [(0, .ref (ad 0)), (1, .int (x0)), (2, .int (x1)), (3, .int (x2)), (4, .int (x3))] := hl
  unfold fn_S_compare at hE
  refine lv_iload_n (pc := 0) hx hb d_S_compare_0 rfl (lv_at hl 1 rfl) ?_
  refine lv_iload_n (pc := 1) hx hb d_S_compare_1 rfl (lv_at hl 2 rfl) ?_
  obtain ⟨w1, hw1, hE⟩ := xs_b hE
  refine xs_callSr (pc := 2) (as := [.int (x0), .int (x1)]) X (ok_P_isPixel l D ad cs hJ hw1) km_S_170 G ⟨by decide, by decide⟩ ⟨Nat.zero_le _, Nat.zero_le _⟩ rfl hl.1 rfl (Nat.le_of_ble_eq_true rfl) d_S_compare_2 (fun H locs G => ?_)
  refine lv_if_eq (pc := 5) (tgt := 17) hx hb d_S_compare_5 (by decide) (fun hc => ?_) (fun hc => ?_)
  · have hE := xs_t hE hc
    cases hE
  · have hE := xs_f hE hc
    refine lv_iload_n (pc := 8) hx hb d_S_compare_8 rfl (lv_at hl 3 rfl) ?_
    refine lv_iload (pc := 9) hx hb d_S_compare_9 (lv_at hl 4 rfl) ?_
    obtain ⟨w2, hw2, hE⟩ := xs_b hE
    refine xs_callSr (pc := 11) (as := [.int (x2), .int (x3)]) X (ok_P_isPixel l D ad cs hJ hw2) km_S_170 G ⟨by decide, by decide⟩ ⟨Nat.zero_le _, Nat.zero_le _⟩ rfl hl.1 rfl (Nat.le_of_ble_eq_true rfl) d_S_compare_11 (fun H locs G => ?_)
    refine lv_if_ne (pc := 14) (tgt := 27) hx hb d_S_compare_14 (by decide) (fun hc => ?_) (fun hc => ?_)
    · have hE := xs_f hE hc
      refine lv_iload_n (pc := 27) hx hb d_S_compare_27 rfl (lv_at hl 1 rfl) ?_
      refine lv_iload_n (pc := 28) hx hb d_S_compare_28 rfl (lv_at hl 2 rfl) ?_
      obtain ⟨w3, hw3, hE⟩ := xs_b hE
      refine xs_callSr (pc := 29) (as := [.int (x0), .int (x1)]) X (ok_P_indexOf l D ad cs hJ hw3) km_S_180 G ⟨by decide, by decide⟩ ⟨Nat.zero_le _, Nat.zero_le _⟩ rfl hl.1 rfl (Nat.le_of_ble_eq_true rfl) d_S_compare_29 (fun H locs G => ?_)
      refine lv_istore (pc := 32) hx hb d_S_compare_32 hl (by decide) (lv' := [(5, .int (w3)), (0, .ref (ad 0)), (1, .int (x0)), (2, .int (x1)), (3, .int (x2)), (4, .int (x3))]) rfl (fun ls hl => ?_)
      refine lv_iload_n (pc := 34) hx hb d_S_compare_34 rfl (lv_at hl 4 rfl) ?_
      refine lv_iload (pc := 35) hx hb d_S_compare_35 (lv_at hl 5 rfl) ?_
      obtain ⟨w4, hw4, hE⟩ := xs_b hE
      refine xs_callSr (pc := 37) (as := [.int (x2), .int (x3)]) X (ok_P_indexOf l D ad cs hJ hw4) km_S_180 G ⟨by decide, by decide⟩ ⟨Nat.zero_le _, Nat.zero_le _⟩ rfl hl.1 rfl (Nat.le_of_ble_eq_true rfl) d_S_compare_37 (fun H locs G => ?_)
      refine lv_istore (pc := 40) hx hb d_S_compare_40 hl (by decide) (lv' := [(6, .int (w4)), (5, .int (w3)), (0, .ref (ad 0)), (1, .int (x0)), (2, .int (x1)), (3, .int (x2)), (4, .int (x3))]) rfl (fun ls hl => ?_)
      refine lv_aload_n (pc := 42) hx hb d_S_compare_42 rfl (lv_at hl 2 rfl) ?_
      refine gf_S_26 (pc := 43) X G d_S_compare_43 ?_
      refine lv_iload (pc := 46) hx hb d_S_compare_46 (lv_at hl 1 rfl) ?_
      obtain ⟨w5, hw5, hE⟩ := xs_b hE
      refine xs_callVr (pc := 48) (as := [.int (w3)]) X (ok_P_isOwned l D ad cs hJ hw5) km_S_185 G (xs_wP ad cs _) rfl ⟨by decide, by decide⟩ ⟨Nat.zero_le _, Nat.zero_le _⟩ rfl hl.1 rfl (Nat.le_of_ble_eq_true rfl) d_S_compare_48 (fun H locs G => ?_)
      refine lv_if_eq (pc := 51) (tgt := 66) hx hb d_S_compare_51 (by decide) (fun hc => ?_) (fun hc => ?_)
      · have hE := xs_t hE hc
        cases hE
      · have hE := xs_f hE hc
        refine lv_aload_n (pc := 54) hx hb d_S_compare_54 rfl (lv_at hl 2 rfl) ?_
        refine gf_S_26 (pc := 55) X G d_S_compare_55 ?_
        refine lv_iload (pc := 58) hx hb d_S_compare_58 (lv_at hl 0 rfl) ?_
        obtain ⟨w6, hw6, hE⟩ := xs_b hE
        refine xs_callVr (pc := 60) (as := [.int (w4)]) X (ok_P_isOwned l D ad cs hJ hw6) km_S_185 G (xs_wP ad cs _) rfl ⟨by decide, by decide⟩ ⟨Nat.zero_le _, Nat.zero_le _⟩ rfl hl.1 rfl (Nat.le_of_ble_eq_true rfl) d_S_compare_60 (fun H locs G => ?_)
        refine lv_if_ne (pc := 63) (tgt := 76) hx hb d_S_compare_63 (by decide) (fun hc => ?_) (fun hc => ?_)
        · have hE := xs_f hE hc
          refine lv_aload_n (pc := 76) hx hb d_S_compare_76 rfl (lv_at hl 2 rfl) ?_
          refine gf_S_26 (pc := 77) X G d_S_compare_77 ?_
          refine lv_iload (pc := 80) hx hb d_S_compare_80 (lv_at hl 1 rfl) ?_
          refine lv_iload (pc := 82) hx hb d_S_compare_82 (lv_at hl 0 rfl) ?_
          obtain ⟨w7, hw7, hE⟩ := xs_b hE
          refine xs_callVr (pc := 84) (as := [.int (w3), .int (w4)]) X (ok_P_compareDepths l D ad cs hJ hw7) km_S_190 G (xs_wP ad cs _) rfl ⟨by decide, by decide⟩ ⟨Nat.zero_le _, Nat.zero_le _⟩ rfl hl.1 rfl (Nat.le_of_ble_eq_true rfl) d_S_compare_84 (fun H locs G => ?_)
          cases hE
          exact xs_iret (pc := 87) hx hb hr hlk G d_S_compare_87
        · have hE := xs_t hE hc
          cases hE
    · have hE := xs_t hE hc
      cases hE
set_option maxHeartbeats 4000000 in
set_option maxRecDepth 100000 in
theorem th_S_compare (l : Launch) (hlt : l.stackTraces = false) (D : va_G) (ad : Nat → Nat) (cs : xs_cs) (hJ : xs_J ad) {μ0 : xs_M} {x0 : Int32} {x1 : Int32} {x2 : Int32} {x3 : Int32}  {ez : String × xs_M} (hE : fn_S_compare μ0 x0 x1 x2 x3 = some (.inr ez)) : xt_I l D ad cs y_S_compare b_S_compare 7 (some .int) 6 90 [.ref (ad 0), .int (x0), .int (x1), .int (x2), .int (x3)] μ0 ez.1 ez.2 := by
  refine xt_entry hJ (by decide) (Nat.le_of_ble_eq_true rfl) ?_
  intro p e s m below meth c ls X hlk hem hT G hl
  have X : xs_C p s m c b_S_compare 7 _ "ExactScene" := X
  have hx := X.1
  have hb := X.2.1
  have hl : lv_has ls 7 [(0, .ref (ad 0)), (1, .int (x0)), (2, .int (x1)), (3, .int (x2)), (4, .int (x3))] := hl
  unfold fn_S_compare at hE
  refine lv_iload_n (pc := 0) hx hb d_S_compare_0 rfl (lv_at hl 1 rfl) ?_
  refine lv_iload_n (pc := 1) hx hb d_S_compare_1 rfl (lv_at hl 2 rfl) ?_
  obtain ⟨w1, hw1, hE⟩ := xs_b hE
  refine xs_callSr (pc := 2) (as := [.int (x0), .int (x1)]) X (ok_P_isPixel l D ad cs hJ hw1) km_S_170 G ⟨by decide, by decide⟩ ⟨Nat.zero_le _, Nat.zero_le _⟩ rfl hl.1 rfl (Nat.le_of_ble_eq_true rfl) d_S_compare_2 (fun H locs G => ?_)
  refine lv_if_eq (pc := 5) (tgt := 17) hx hb d_S_compare_5 (by decide) (fun hc => ?_) (fun hc => ?_)
  · have hE := xs_t hE hc
    cases hE
    exact xt_throw (pc := 17) (cls := "java/lang/IndexOutOfBoundsException") (names := ["java/lang/RuntimeException", "java/lang/Exception"]) (is := 174) (text := "there is no such pixel") X hlt hlk hem hT G (by decide +kernel) (by decide +kernel) wk_102 wi9_102 wa_106 (by decide) hl.1 d_S_compare_17 d_S_compare_20 d_S_compare_21 d_S_compare_23 d_S_compare_26 (by decide) (Nat.le_of_ble_eq_true rfl) (by decide) (by decide)
  · have hE := xs_f hE hc
    refine lv_iload_n (pc := 8) hx hb d_S_compare_8 rfl (lv_at hl 3 rfl) ?_
    refine lv_iload (pc := 9) hx hb d_S_compare_9 (lv_at hl 4 rfl) ?_
    obtain ⟨w2, hw2, hE⟩ := xs_b hE
    refine xs_callSr (pc := 11) (as := [.int (x2), .int (x3)]) X (ok_P_isPixel l D ad cs hJ hw2) km_S_170 G ⟨by decide, by decide⟩ ⟨Nat.zero_le _, Nat.zero_le _⟩ rfl hl.1 rfl (Nat.le_of_ble_eq_true rfl) d_S_compare_11 (fun H locs G => ?_)
    refine lv_if_ne (pc := 14) (tgt := 27) hx hb d_S_compare_14 (by decide) (fun hc => ?_) (fun hc => ?_)
    · have hE := xs_f hE hc
      refine lv_iload_n (pc := 27) hx hb d_S_compare_27 rfl (lv_at hl 1 rfl) ?_
      refine lv_iload_n (pc := 28) hx hb d_S_compare_28 rfl (lv_at hl 2 rfl) ?_
      obtain ⟨w3, hw3, hE⟩ := xs_b hE
      refine xs_callSr (pc := 29) (as := [.int (x0), .int (x1)]) X (ok_P_indexOf l D ad cs hJ hw3) km_S_180 G ⟨by decide, by decide⟩ ⟨Nat.zero_le _, Nat.zero_le _⟩ rfl hl.1 rfl (Nat.le_of_ble_eq_true rfl) d_S_compare_29 (fun H locs G => ?_)
      refine lv_istore (pc := 32) hx hb d_S_compare_32 hl (by decide) (lv' := [(5, .int (w3)), (0, .ref (ad 0)), (1, .int (x0)), (2, .int (x1)), (3, .int (x2)), (4, .int (x3))]) rfl (fun ls hl => ?_)
      refine lv_iload_n (pc := 34) hx hb d_S_compare_34 rfl (lv_at hl 4 rfl) ?_
      refine lv_iload (pc := 35) hx hb d_S_compare_35 (lv_at hl 5 rfl) ?_
      obtain ⟨w4, hw4, hE⟩ := xs_b hE
      refine xs_callSr (pc := 37) (as := [.int (x2), .int (x3)]) X (ok_P_indexOf l D ad cs hJ hw4) km_S_180 G ⟨by decide, by decide⟩ ⟨Nat.zero_le _, Nat.zero_le _⟩ rfl hl.1 rfl (Nat.le_of_ble_eq_true rfl) d_S_compare_37 (fun H locs G => ?_)
      refine lv_istore (pc := 40) hx hb d_S_compare_40 hl (by decide) (lv' := [(6, .int (w4)), (5, .int (w3)), (0, .ref (ad 0)), (1, .int (x0)), (2, .int (x1)), (3, .int (x2)), (4, .int (x3))]) rfl (fun ls hl => ?_)
      refine lv_aload_n (pc := 42) hx hb d_S_compare_42 rfl (lv_at hl 2 rfl) ?_
      refine gf_S_26 (pc := 43) X G d_S_compare_43 ?_
      refine lv_iload (pc := 46) hx hb d_S_compare_46 (lv_at hl 1 rfl) ?_
      obtain ⟨w5, hw5, hE⟩ := xs_b hE
      refine xs_callVr (pc := 48) (as := [.int (w3)]) X (ok_P_isOwned l D ad cs hJ hw5) km_S_185 G (xs_wP ad cs _) rfl ⟨by decide, by decide⟩ ⟨Nat.zero_le _, Nat.zero_le _⟩ rfl hl.1 rfl (Nat.le_of_ble_eq_true rfl) d_S_compare_48 (fun H locs G => ?_)
      refine lv_if_eq (pc := 51) (tgt := 66) hx hb d_S_compare_51 (by decide) (fun hc => ?_) (fun hc => ?_)
      · have hE := xs_t hE hc
        cases hE
        exact xt_throw (pc := 66) (cls := "java/lang/IllegalStateException") (names := ["java/lang/RuntimeException", "java/lang/Exception"]) (is := 188) (text := "a pixel had no owner") X hlt hlk hem hT G (by decide +kernel) (by decide +kernel) wk_83 wi9_83 wa_87 (by decide) hl.1 d_S_compare_66 d_S_compare_69 d_S_compare_70 d_S_compare_72 d_S_compare_75 (by decide) (Nat.le_of_ble_eq_true rfl) (by decide) (by decide)
      · have hE := xs_f hE hc
        refine lv_aload_n (pc := 54) hx hb d_S_compare_54 rfl (lv_at hl 2 rfl) ?_
        refine gf_S_26 (pc := 55) X G d_S_compare_55 ?_
        refine lv_iload (pc := 58) hx hb d_S_compare_58 (lv_at hl 0 rfl) ?_
        obtain ⟨w6, hw6, hE⟩ := xs_b hE
        refine xs_callVr (pc := 60) (as := [.int (w4)]) X (ok_P_isOwned l D ad cs hJ hw6) km_S_185 G (xs_wP ad cs _) rfl ⟨by decide, by decide⟩ ⟨Nat.zero_le _, Nat.zero_le _⟩ rfl hl.1 rfl (Nat.le_of_ble_eq_true rfl) d_S_compare_60 (fun H locs G => ?_)
        refine lv_if_ne (pc := 63) (tgt := 76) hx hb d_S_compare_63 (by decide) (fun hc => ?_) (fun hc => ?_)
        · have hE := xs_f hE hc
          refine lv_aload_n (pc := 76) hx hb d_S_compare_76 rfl (lv_at hl 2 rfl) ?_
          refine gf_S_26 (pc := 77) X G d_S_compare_77 ?_
          refine lv_iload (pc := 80) hx hb d_S_compare_80 (lv_at hl 1 rfl) ?_
          refine lv_iload (pc := 82) hx hb d_S_compare_82 (lv_at hl 0 rfl) ?_
          obtain ⟨w7, hw7, hE⟩ := xs_b hE
          refine xs_callVr (pc := 84) (as := [.int (w3), .int (w4)]) X (ok_P_compareDepths l D ad cs hJ hw7) km_S_190 G (xs_wP ad cs _) rfl ⟨by decide, by decide⟩ ⟨Nat.zero_le _, Nat.zero_le _⟩ rfl hl.1 rfl (Nat.le_of_ble_eq_true rfl) d_S_compare_84 (fun H locs G => ?_)
          cases hE
        · have hE := xs_t hE hc
          cases hE
          exact xt_throw (pc := 66) (cls := "java/lang/IllegalStateException") (names := ["java/lang/RuntimeException", "java/lang/Exception"]) (is := 188) (text := "a pixel had no owner") X hlt hlk hem hT G (by decide +kernel) (by decide +kernel) wk_83 wi9_83 wa_87 (by decide) hl.1 d_S_compare_66 d_S_compare_69 d_S_compare_70 d_S_compare_72 d_S_compare_75 (by decide) (Nat.le_of_ble_eq_true rfl) (by decide) (by decide)
    · have hE := xs_t hE hc
      cases hE
      exact xt_throw (pc := 17) (cls := "java/lang/IndexOutOfBoundsException") (names := ["java/lang/RuntimeException", "java/lang/Exception"]) (is := 174) (text := "there is no such pixel") X hlt hlk hem hT G (by decide +kernel) (by decide +kernel) wk_102 wi9_102 wa_106 (by decide) hl.1 d_S_compare_17 d_S_compare_20 d_S_compare_21 d_S_compare_23 d_S_compare_26 (by decide) (Nat.le_of_ble_eq_true rfl) (by decide) (by decide)
def fn_S_depth (μ0 : xs_M) (x0 : Int32) (x1 : Int32) : Option ((Int64 × xs_M) ⊕ (String × xs_M)) :=
  ((fn_P_isPixel μ0 x0 x1).bind fun w1 => (if w1 = 0 then some (.inr ("java/lang/IndexOutOfBoundsException", μ0)) else ((fn_P_indexOf μ0 x0 x1).bind fun w2 => ((fn_P_isOwned μ0 w2).bind fun w3 => (if w3 = 0 then some (.inr ("java/lang/IllegalStateException", μ0)) else ((fn_P_wholeDepth μ0 w2).bind fun w4 => some (.inl (w4, μ0))))))))
set_option maxHeartbeats 4000000 in
set_option maxRecDepth 100000 in
theorem ok_S_depth (l : Launch) (D : va_G) (ad : Nat → Nat) (cs : xs_cs) (hJ : xs_J ad) {μ0 : xs_M} {x0 : Int32} {x1 : Int32}  {rz : (Int64 × xs_M)} (hE : fn_S_depth μ0 x0 x1 = some (.inl rz)) : xs_I l D ad cs y_S_depth b_S_depth 4 (some .long) 3 69 [.ref (ad 0), .int (x0), .int (x1)] μ0 (some (.long rz.1)) rz.2 := by
  refine xs_entry hJ (by decide) (Nat.le_of_ble_eq_true rfl) ?_
  intro p e s m below meth c ls X hr hlk G hl
  have X : xs_C p s m c b_S_depth 4 _ "ExactScene" := X
  have hx := X.1
  have hb := X.2.1
  have hl : lv_has ls 4 [(0, .ref (ad 0)), (1, .int (x0)), (2, .int (x1))] := hl
  unfold fn_S_depth at hE
  refine lv_iload_n (pc := 0) hx hb d_S_depth_0 rfl (lv_at hl 1 rfl) ?_
  refine lv_iload_n (pc := 1) hx hb d_S_depth_1 rfl (lv_at hl 2 rfl) ?_
  obtain ⟨w1, hw1, hE⟩ := xs_b hE
  refine xs_callSr (pc := 2) (as := [.int (x0), .int (x1)]) X (ok_P_isPixel l D ad cs hJ hw1) km_S_170 G ⟨by decide, by decide⟩ ⟨Nat.zero_le _, Nat.zero_le _⟩ rfl hl.1 rfl (Nat.le_of_ble_eq_true rfl) d_S_depth_2 (fun H locs G => ?_)
  refine lv_if_ne (pc := 5) (tgt := 18) hx hb d_S_depth_5 (by decide) (fun hc => ?_) (fun hc => ?_)
  · have hE := xs_f hE hc
    refine lv_iload_n (pc := 18) hx hb d_S_depth_18 rfl (lv_at hl 1 rfl) ?_
    refine lv_iload_n (pc := 19) hx hb d_S_depth_19 rfl (lv_at hl 2 rfl) ?_
    obtain ⟨w2, hw2, hE⟩ := xs_b hE
    refine xs_callSr (pc := 20) (as := [.int (x0), .int (x1)]) X (ok_P_indexOf l D ad cs hJ hw2) km_S_180 G ⟨by decide, by decide⟩ ⟨Nat.zero_le _, Nat.zero_le _⟩ rfl hl.1 rfl (Nat.le_of_ble_eq_true rfl) d_S_depth_20 (fun H locs G => ?_)
    refine lv_istore_n (pc := 23) hx hb d_S_depth_23 rfl hl (by decide) (lv' := [(3, .int (w2)), (0, .ref (ad 0)), (1, .int (x0)), (2, .int (x1))]) rfl (fun ls hl => ?_)
    refine lv_aload_n (pc := 24) hx hb d_S_depth_24 rfl (lv_at hl 1 rfl) ?_
    refine gf_S_26 (pc := 25) X G d_S_depth_25 ?_
    refine lv_iload_n (pc := 28) hx hb d_S_depth_28 rfl (lv_at hl 0 rfl) ?_
    obtain ⟨w3, hw3, hE⟩ := xs_b hE
    refine xs_callVr (pc := 29) (as := [.int (w2)]) X (ok_P_isOwned l D ad cs hJ hw3) km_S_185 G (xs_wP ad cs _) rfl ⟨by decide, by decide⟩ ⟨Nat.zero_le _, Nat.zero_le _⟩ rfl hl.1 rfl (Nat.le_of_ble_eq_true rfl) d_S_depth_29 (fun H locs G => ?_)
    refine lv_if_ne (pc := 32) (tgt := 45) hx hb d_S_depth_32 (by decide) (fun hc => ?_) (fun hc => ?_)
    · have hE := xs_f hE hc
      refine lv_aload_n (pc := 45) hx hb d_S_depth_45 rfl (lv_at hl 1 rfl) ?_
      refine gf_S_26 (pc := 46) X G d_S_depth_46 ?_
      refine lv_iload_n (pc := 49) hx hb d_S_depth_49 rfl (lv_at hl 0 rfl) ?_
      obtain ⟨w4, hw4, hE⟩ := xs_b hE
      refine xs_callVr (pc := 50) (as := [.int (w2)]) X (ok_P_wholeDepth l D ad cs hJ hw4) km_S_195 G (xs_wP ad cs _) rfl ⟨by decide, by decide⟩ ⟨Nat.zero_le _, Nat.zero_le _⟩ rfl hl.1 rfl (Nat.le_of_ble_eq_true rfl) d_S_depth_50 (fun H locs G => ?_)
      cases hE
      exact xs_lret (pc := 53) hx hb hr hlk G d_S_depth_53
    · have hE := xs_t hE hc
      cases hE
  · have hE := xs_t hE hc
    cases hE
set_option maxHeartbeats 4000000 in
set_option maxRecDepth 100000 in
theorem th_S_depth (l : Launch) (hlt : l.stackTraces = false) (D : va_G) (ad : Nat → Nat) (cs : xs_cs) (hJ : xs_J ad) {μ0 : xs_M} {x0 : Int32} {x1 : Int32}  {ez : String × xs_M} (hE : fn_S_depth μ0 x0 x1 = some (.inr ez)) : xt_I l D ad cs y_S_depth b_S_depth 4 (some .long) 6 90 [.ref (ad 0), .int (x0), .int (x1)] μ0 ez.1 ez.2 := by
  refine xt_entry hJ (by decide) (Nat.le_of_ble_eq_true rfl) ?_
  intro p e s m below meth c ls X hlk hem hT G hl
  have X : xs_C p s m c b_S_depth 4 _ "ExactScene" := X
  have hx := X.1
  have hb := X.2.1
  have hl : lv_has ls 4 [(0, .ref (ad 0)), (1, .int (x0)), (2, .int (x1))] := hl
  unfold fn_S_depth at hE
  refine lv_iload_n (pc := 0) hx hb d_S_depth_0 rfl (lv_at hl 1 rfl) ?_
  refine lv_iload_n (pc := 1) hx hb d_S_depth_1 rfl (lv_at hl 2 rfl) ?_
  obtain ⟨w1, hw1, hE⟩ := xs_b hE
  refine xs_callSr (pc := 2) (as := [.int (x0), .int (x1)]) X (ok_P_isPixel l D ad cs hJ hw1) km_S_170 G ⟨by decide, by decide⟩ ⟨Nat.zero_le _, Nat.zero_le _⟩ rfl hl.1 rfl (Nat.le_of_ble_eq_true rfl) d_S_depth_2 (fun H locs G => ?_)
  refine lv_if_ne (pc := 5) (tgt := 18) hx hb d_S_depth_5 (by decide) (fun hc => ?_) (fun hc => ?_)
  · have hE := xs_f hE hc
    refine lv_iload_n (pc := 18) hx hb d_S_depth_18 rfl (lv_at hl 1 rfl) ?_
    refine lv_iload_n (pc := 19) hx hb d_S_depth_19 rfl (lv_at hl 2 rfl) ?_
    obtain ⟨w2, hw2, hE⟩ := xs_b hE
    refine xs_callSr (pc := 20) (as := [.int (x0), .int (x1)]) X (ok_P_indexOf l D ad cs hJ hw2) km_S_180 G ⟨by decide, by decide⟩ ⟨Nat.zero_le _, Nat.zero_le _⟩ rfl hl.1 rfl (Nat.le_of_ble_eq_true rfl) d_S_depth_20 (fun H locs G => ?_)
    refine lv_istore_n (pc := 23) hx hb d_S_depth_23 rfl hl (by decide) (lv' := [(3, .int (w2)), (0, .ref (ad 0)), (1, .int (x0)), (2, .int (x1))]) rfl (fun ls hl => ?_)
    refine lv_aload_n (pc := 24) hx hb d_S_depth_24 rfl (lv_at hl 1 rfl) ?_
    refine gf_S_26 (pc := 25) X G d_S_depth_25 ?_
    refine lv_iload_n (pc := 28) hx hb d_S_depth_28 rfl (lv_at hl 0 rfl) ?_
    obtain ⟨w3, hw3, hE⟩ := xs_b hE
    refine xs_callVr (pc := 29) (as := [.int (w2)]) X (ok_P_isOwned l D ad cs hJ hw3) km_S_185 G (xs_wP ad cs _) rfl ⟨by decide, by decide⟩ ⟨Nat.zero_le _, Nat.zero_le _⟩ rfl hl.1 rfl (Nat.le_of_ble_eq_true rfl) d_S_depth_29 (fun H locs G => ?_)
    refine lv_if_ne (pc := 32) (tgt := 45) hx hb d_S_depth_32 (by decide) (fun hc => ?_) (fun hc => ?_)
    · have hE := xs_f hE hc
      refine lv_aload_n (pc := 45) hx hb d_S_depth_45 rfl (lv_at hl 1 rfl) ?_
      refine gf_S_26 (pc := 46) X G d_S_depth_46 ?_
      refine lv_iload_n (pc := 49) hx hb d_S_depth_49 rfl (lv_at hl 0 rfl) ?_
      obtain ⟨w4, hw4, hE⟩ := xs_b hE
      refine xs_callVr (pc := 50) (as := [.int (w2)]) X (ok_P_wholeDepth l D ad cs hJ hw4) km_S_195 G (xs_wP ad cs _) rfl ⟨by decide, by decide⟩ ⟨Nat.zero_le _, Nat.zero_le _⟩ rfl hl.1 rfl (Nat.le_of_ble_eq_true rfl) d_S_depth_50 (fun H locs G => ?_)
      cases hE
    · have hE := xs_t hE hc
      cases hE
      exact xt_throw (pc := 35) (cls := "java/lang/IllegalStateException") (names := ["java/lang/RuntimeException", "java/lang/Exception"]) (is := 193) (text := "the pixel had no owner") X hlt hlk hem hT G (by decide +kernel) (by decide +kernel) wk_83 wi9_83 wa_87 (by decide) hl.1 d_S_depth_35 d_S_depth_38 d_S_depth_39 d_S_depth_41 d_S_depth_44 (by decide) (Nat.le_of_ble_eq_true rfl) (by decide) (by decide)
  · have hE := xs_t hE hc
    cases hE
    exact xt_throw (pc := 8) (cls := "java/lang/IndexOutOfBoundsException") (names := ["java/lang/RuntimeException", "java/lang/Exception"]) (is := 174) (text := "there is no such pixel") X hlt hlk hem hT G (by decide +kernel) (by decide +kernel) wk_102 wi9_102 wa_106 (by decide) hl.1 d_S_depth_8 d_S_depth_11 d_S_depth_12 d_S_depth_14 d_S_depth_17 (by decide) (Nat.le_of_ble_eq_true rfl) (by decide) (by decide)
def fn_S_triangle (μ0 : xs_M) (x0 : Int32) (x1 : Int32) : Option ((Int64 × xs_M) ⊕ (String × xs_M)) :=
  ((fn_S_isWithin μ0 x0 (0 : Int32) ((μ0.1 0 4) - (1 : Int32))).bind fun w1 => (if w1 = 0 then some (.inr ("java/lang/IndexOutOfBoundsException", μ0)) else ((fn_S_isWithin μ0 x1 (0 : Int32) (12 : Int32)).bind fun w2 => (if w2 = 0 then some (.inr ("java/lang/IndexOutOfBoundsException", μ0)) else (if xs_in x0 20 = true then ((fn_T_numberAt μ0 x0.toNatClampNeg x1).bind fun w5 => some (.inl (w5, μ0))) else none)))))
set_option maxHeartbeats 4000000 in
set_option maxRecDepth 100000 in
theorem ok_S_triangle (l : Launch) (D : va_G) (ad : Nat → Nat) (cs : xs_cs) (hJ : xs_J ad) {μ0 : xs_M} {x0 : Int32} {x1 : Int32}  {rz : (Int64 × xs_M)} (hE : fn_S_triangle μ0 x0 x1 = some (.inl rz)) : xs_I l D ad cs y_S_triangle b_S_triangle 3 (some .long) 1 26 [.ref (ad 0), .int (x0), .int (x1)] μ0 (some (.long rz.1)) rz.2 := by
  refine xs_entry hJ (by decide) (Nat.le_of_ble_eq_true rfl) ?_
  intro p e s m below meth c ls X hr hlk G hl
  have X : xs_C p s m c b_S_triangle 3 _ "ExactScene" := X
  have hx := X.1
  have hb := X.2.1
  have hl : lv_has ls 3 [(0, .ref (ad 0)), (1, .int (x0)), (2, .int (x1))] := hl
  unfold fn_S_triangle at hE
  refine lv_iload_n (pc := 0) hx hb d_S_triangle_0 rfl (lv_at hl 1 rfl) ?_
  refine lv_iconst (pc := 1) (v := (0 : Int32)) hx hb d_S_triangle_1 (by decide) ?_
  refine lv_aload_n (pc := 2) hx hb d_S_triangle_2 rfl (lv_at hl 0 rfl) ?_
  refine gf_S_121 (pc := 3) X G d_S_triangle_3 ?_
  refine lv_iconst (pc := 6) (v := (1 : Int32)) hx hb d_S_triangle_6 (by decide) ?_
  refine lv_isub (pc := 7) hx hb d_S_triangle_7 ?_
  obtain ⟨w1, hw1, hE⟩ := xs_b hE
  refine xs_callSr (pc := 8) (as := [.int (x0), .int ((0 : Int32)), .int (((μ0.1 0 4) - (1 : Int32)))]) X (ok_S_isWithin l D ad cs hJ hw1) km_S_70 G ⟨by decide, by decide⟩ ⟨Nat.zero_le _, Nat.zero_le _⟩ rfl hl.1 rfl (Nat.le_of_ble_eq_true rfl) d_S_triangle_8 (fun H locs G => ?_)
  refine lv_if_eq (pc := 11) (tgt := 24) hx hb d_S_triangle_11 (by decide) (fun hc => ?_) (fun hc => ?_)
  · have hE := xs_t hE hc
    cases hE
  · have hE := xs_f hE hc
    refine lv_iload_n (pc := 14) hx hb d_S_triangle_14 rfl (lv_at hl 2 rfl) ?_
    refine lv_iconst (pc := 15) (v := (0 : Int32)) hx hb d_S_triangle_15 (by decide) ?_
    refine lv_bipush (pc := 16) (v := (12 : Int32)) hx hb d_S_triangle_16 (by decide) ?_
    obtain ⟨w2, hw2, hE⟩ := xs_b hE
    refine xs_callSr (pc := 18) (as := [.int (x1), .int ((0 : Int32)), .int ((12 : Int32))]) X (ok_S_isWithin l D ad cs hJ hw2) km_S_70 G ⟨by decide, by decide⟩ ⟨Nat.zero_le _, Nat.zero_le _⟩ rfl hl.1 rfl (Nat.le_of_ble_eq_true rfl) d_S_triangle_18 (fun H locs G => ?_)
    refine lv_if_ne (pc := 21) (tgt := 34) hx hb d_S_triangle_21 (by decide) (fun hc => ?_) (fun hc => ?_)
    · have hE := xs_f hE hc
      refine lv_aload_n (pc := 34) hx hb d_S_triangle_34 rfl (lv_at hl 0 rfl) ?_
      refine gf_S_32 (pc := 35) X G d_S_triangle_35 ?_
      refine lv_iload_n (pc := 38) hx hb d_S_triangle_38 rfl (lv_at hl 1 rfl) ?_
      obtain ⟨hi3, hE⟩ := xs_n hE
      refine xs_aald (pc := 39) hx hb G (xs_inP hi3) d_S_triangle_39 ?_
      have hk4 : x0.toNatClampNeg < 20 := xs_inL hi3
      refine lv_iload_n (pc := 40) hx hb d_S_triangle_40 rfl (lv_at hl 2 rfl) ?_
      obtain ⟨w5, hw5, hE⟩ := xs_b hE
      refine xs_callVr (pc := 41) (as := [.int (x1)]) X (ok_T_numberAt l D ad cs hJ hk4 hw5) km_S_201 G (xs_wT ad cs _ hk4) rfl ⟨by decide, by decide⟩ ⟨Nat.zero_le _, Nat.zero_le _⟩ rfl hl.1 rfl (Nat.le_of_ble_eq_true rfl) d_S_triangle_41 (fun H locs G => ?_)
      cases hE
      exact xs_lret (pc := 44) hx hb hr hlk G d_S_triangle_44
    · have hE := xs_t hE hc
      cases hE
set_option maxHeartbeats 4000000 in
set_option maxRecDepth 100000 in
theorem th_S_triangle (l : Launch) (hlt : l.stackTraces = false) (D : va_G) (ad : Nat → Nat) (cs : xs_cs) (hJ : xs_J ad) {μ0 : xs_M} {x0 : Int32} {x1 : Int32}  {ez : String × xs_M} (hE : fn_S_triangle μ0 x0 x1 = some (.inr ez)) : xt_I l D ad cs y_S_triangle b_S_triangle 3 (some .long) 6 90 [.ref (ad 0), .int (x0), .int (x1)] μ0 ez.1 ez.2 := by
  refine xt_entry hJ (by decide) (Nat.le_of_ble_eq_true rfl) ?_
  intro p e s m below meth c ls X hlk hem hT G hl
  have X : xs_C p s m c b_S_triangle 3 _ "ExactScene" := X
  have hx := X.1
  have hb := X.2.1
  have hl : lv_has ls 3 [(0, .ref (ad 0)), (1, .int (x0)), (2, .int (x1))] := hl
  unfold fn_S_triangle at hE
  refine lv_iload_n (pc := 0) hx hb d_S_triangle_0 rfl (lv_at hl 1 rfl) ?_
  refine lv_iconst (pc := 1) (v := (0 : Int32)) hx hb d_S_triangle_1 (by decide) ?_
  refine lv_aload_n (pc := 2) hx hb d_S_triangle_2 rfl (lv_at hl 0 rfl) ?_
  refine gf_S_121 (pc := 3) X G d_S_triangle_3 ?_
  refine lv_iconst (pc := 6) (v := (1 : Int32)) hx hb d_S_triangle_6 (by decide) ?_
  refine lv_isub (pc := 7) hx hb d_S_triangle_7 ?_
  obtain ⟨w1, hw1, hE⟩ := xs_b hE
  refine xs_callSr (pc := 8) (as := [.int (x0), .int ((0 : Int32)), .int (((μ0.1 0 4) - (1 : Int32)))]) X (ok_S_isWithin l D ad cs hJ hw1) km_S_70 G ⟨by decide, by decide⟩ ⟨Nat.zero_le _, Nat.zero_le _⟩ rfl hl.1 rfl (Nat.le_of_ble_eq_true rfl) d_S_triangle_8 (fun H locs G => ?_)
  refine lv_if_eq (pc := 11) (tgt := 24) hx hb d_S_triangle_11 (by decide) (fun hc => ?_) (fun hc => ?_)
  · have hE := xs_t hE hc
    cases hE
    exact xt_throw (pc := 24) (cls := "java/lang/IndexOutOfBoundsException") (names := ["java/lang/RuntimeException", "java/lang/Exception"]) (is := 199) (text := "there is no such number of a triangle") X hlt hlk hem hT G (by decide +kernel) (by decide +kernel) wk_102 wi9_102 wa_106 (by decide) hl.1 d_S_triangle_24 d_S_triangle_27 d_S_triangle_28 d_S_triangle_30 d_S_triangle_33 (by decide) (Nat.le_of_ble_eq_true rfl) (by decide) (by decide)
  · have hE := xs_f hE hc
    refine lv_iload_n (pc := 14) hx hb d_S_triangle_14 rfl (lv_at hl 2 rfl) ?_
    refine lv_iconst (pc := 15) (v := (0 : Int32)) hx hb d_S_triangle_15 (by decide) ?_
    refine lv_bipush (pc := 16) (v := (12 : Int32)) hx hb d_S_triangle_16 (by decide) ?_
    obtain ⟨w2, hw2, hE⟩ := xs_b hE
    refine xs_callSr (pc := 18) (as := [.int (x1), .int ((0 : Int32)), .int ((12 : Int32))]) X (ok_S_isWithin l D ad cs hJ hw2) km_S_70 G ⟨by decide, by decide⟩ ⟨Nat.zero_le _, Nat.zero_le _⟩ rfl hl.1 rfl (Nat.le_of_ble_eq_true rfl) d_S_triangle_18 (fun H locs G => ?_)
    refine lv_if_ne (pc := 21) (tgt := 34) hx hb d_S_triangle_21 (by decide) (fun hc => ?_) (fun hc => ?_)
    · have hE := xs_f hE hc
      refine lv_aload_n (pc := 34) hx hb d_S_triangle_34 rfl (lv_at hl 0 rfl) ?_
      refine gf_S_32 (pc := 35) X G d_S_triangle_35 ?_
      refine lv_iload_n (pc := 38) hx hb d_S_triangle_38 rfl (lv_at hl 1 rfl) ?_
      obtain ⟨hi3, hE⟩ := xs_n hE
      refine xs_aald (pc := 39) hx hb G (xs_inP hi3) d_S_triangle_39 ?_
      have hk4 : x0.toNatClampNeg < 20 := xs_inL hi3
      refine lv_iload_n (pc := 40) hx hb d_S_triangle_40 rfl (lv_at hl 2 rfl) ?_
      obtain ⟨w5, hw5, hE⟩ := xs_b hE
      refine xs_callVr (pc := 41) (as := [.int (x1)]) X (ok_T_numberAt l D ad cs hJ hk4 hw5) km_S_201 G (xs_wT ad cs _ hk4) rfl ⟨by decide, by decide⟩ ⟨Nat.zero_le _, Nat.zero_le _⟩ rfl hl.1 rfl (Nat.le_of_ble_eq_true rfl) d_S_triangle_41 (fun H locs G => ?_)
      cases hE
    · have hE := xs_t hE hc
      cases hE
      exact xt_throw (pc := 24) (cls := "java/lang/IndexOutOfBoundsException") (names := ["java/lang/RuntimeException", "java/lang/Exception"]) (is := 199) (text := "there is no such number of a triangle") X hlt hlk hem hT G (by decide +kernel) (by decide +kernel) wk_102 wi9_102 wa_106 (by decide) hl.1 d_S_triangle_24 d_S_triangle_27 d_S_triangle_28 d_S_triangle_30 d_S_triangle_33 (by decide) (Nat.le_of_ble_eq_true rfl) (by decide) (by decide)
