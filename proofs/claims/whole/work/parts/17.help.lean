/-! fields, calls, constants: a row for each place of a pool -/
section XSH
variable {p : Program} {l : Launch} {e : Env} {R : Room} {s : State} {m : MethodId} {args : Array Value} {below : List Frame} {meth : Method} {c : Code} {H : Heap} {locs : List Loc} {cells slots : Nat} {Q : State → Prop}
variable {cc : ByteArray} {pc : Nat} {ls : Array Slot} {rest : List Value} {D : va_G} {ad : Nat → Nat} {cs : xs_cs} {A : Nat → Prop} {H0 : Heap} {μ : xs_M} {nL : Nat}

end XSH
theorem km_L_7 : xs_kV "ExactSceneLaw" 7 y_S_row b_S_row 6 none 5 := ⟨xs_tg 261 (by decide +kernel) (by decide +kernel), ⟨ws_S_row, wl_S_row⟩, wi_S, wc_S_row, by decide, by decide, by decide +kernel⟩
theorem km_L_15 : xs_kV "ExactSceneLaw" 15 y_S_move b_S_move 4 none 3 := ⟨xs_tg 352 (by decide +kernel) (by decide +kernel), ⟨ws_S_move, wl_S_move⟩, wi_S, wc_S_move, by decide, by decide, by decide +kernel⟩
theorem km_L_21 : xs_kV "ExactSceneLaw" 21 y_S_stretch b_S_stretch 4 none 3 := ⟨xs_tg 391 (by decide +kernel) (by decide +kernel), ⟨ws_S_stretch, wl_S_stretch⟩, wi_S, wc_S_stretch, by decide, by decide, by decide +kernel⟩
theorem km_L_24 : xs_kV "ExactSceneLaw" 24 y_S_turn b_S_turn 2 none 1 := ⟨xs_tg 402 (by decide +kernel) (by decide +kernel), ⟨ws_S_turn, wl_S_turn⟩, wi_S, wc_S_turn, by decide, by decide, by decide +kernel⟩
theorem km_L_28 : xs_kV "ExactSceneLaw" 28 y_S_join b_S_join 1 none 0 := ⟨xs_tg 415 (by decide +kernel) (by decide +kernel), ⟨ws_S_join, wl_S_join⟩, wi_S, wc_S_join, by decide, by decide, by decide +kernel⟩
theorem km_L_33 : xs_kV "ExactSceneLaw" 33 y_S_push b_S_push 1 none 0 := ⟨xs_tg 446 (by decide +kernel) (by decide +kernel), ⟨ws_S_push, wl_S_push⟩, wi_S, wc_S_push, by decide, by decide, by decide +kernel⟩
theorem km_L_36 : xs_kV "ExactSceneLaw" 36 y_S_pop b_S_pop 1 none 0 := ⟨xs_tg 462 (by decide +kernel) (by decide +kernel), ⟨ws_S_pop, wl_S_pop⟩, wi_S, wc_S_pop, by decide, by decide, by decide +kernel⟩
theorem km_L_39 : xs_kV "ExactSceneLaw" 39 y_S_entry b_S_entry 3 (some .int) 2 := ⟨xs_tg 474 (by decide +kernel) (by decide +kernel), ⟨ws_S_entry, wl_S_entry⟩, wi_S, wc_S_entry, by decide, by decide, by decide +kernel⟩
theorem km_L_45 : xs_kV "ExactSceneLaw" 45 y_S_vertex b_S_vertex 6 (some .int) 5 := ⟨xs_tg 501 (by decide +kernel) (by decide +kernel), ⟨ws_S_vertex, wl_S_vertex⟩, wi_S, wc_S_vertex, by decide, by decide, by decide +kernel⟩
theorem km_L_49 : xs_kV "ExactSceneLaw" 49 y_S_texel b_S_texel 5 (some .int) 4 := ⟨xs_tg 558 (by decide +kernel) (by decide +kernel), ⟨ws_S_texel, wl_S_texel⟩, wi_S, wc_S_texel, by decide, by decide, by decide +kernel⟩
theorem km_L_53 : xs_kV "ExactSceneLaw" 53 y_S_colour b_S_colour 3 (some .int) 2 := ⟨xs_tg 573 (by decide +kernel) (by decide +kernel), ⟨ws_S_colour, wl_S_colour⟩, wi_S, wc_S_colour, by decide, by decide, by decide +kernel⟩
theorem km_L_56 : xs_kV "ExactSceneLaw" 56 y_S_owner b_S_owner 3 (some .int) 2 := ⟨xs_tg 585 (by decide +kernel) (by decide +kernel), ⟨ws_S_owner, wl_S_owner⟩, wi_S, wc_S_owner, by decide, by decide, by decide +kernel⟩
theorem km_L_59 : xs_kV "ExactSceneLaw" 59 y_S_compare b_S_compare 7 (some .int) 4 := ⟨xs_tg 592 (by decide +kernel) (by decide +kernel), ⟨ws_S_compare, wl_S_compare⟩, wi_S, wc_S_compare, by decide, by decide, by decide +kernel⟩
theorem km_L_62 : xs_kV "ExactSceneLaw" 62 y_S_depth b_S_depth 4 (some .long) 2 := ⟨xs_tg 604 (by decide +kernel) (by decide +kernel), ⟨ws_S_depth, wl_S_depth⟩, wi_S, wc_S_depth, by decide, by decide, by decide +kernel⟩
theorem km_L_66 : xs_kV "ExactSceneLaw" 66 y_S_triangle b_S_triangle 3 (some .long) 2 := ⟨xs_tg 617 (by decide +kernel) (by decide +kernel), ⟨ws_S_triangle, wl_S_triangle⟩, wi_S, wc_S_triangle, by decide, by decide, by decide +kernel⟩
/-! words of the catches -/
theorem wkL_13 : Cond.classLink "ExactSceneLaw" 13 "java/lang/IllegalArgumentException" ∈ xs_TG := xs_tg 260 (by decide +kernel) (by decide +kernel)
theorem wkc_13 : Cond.castable "java/lang/IllegalArgumentException" "java/lang/IllegalArgumentException" ∈ xs_TF := xt_tf 271 (by decide +kernel) (by decide +kernel)
theorem wkL_19 : Cond.classLink "ExactSceneLaw" 19 "java/lang/ArithmeticException" ∈ xs_TG := xs_tg 351 (by decide +kernel) (by decide +kernel)
theorem wkc_19 : Cond.castable "java/lang/ArithmeticException" "java/lang/ArithmeticException" ∈ xs_TF := xt_tf 374 (by decide +kernel) (by decide +kernel)
theorem wkL_31 : Cond.classLink "ExactSceneLaw" 31 "java/lang/IllegalStateException" ∈ xs_TG := xs_tg 414 (by decide +kernel) (by decide +kernel)
theorem wkc_31 : Cond.castable "java/lang/IllegalStateException" "java/lang/IllegalStateException" ∈ xs_TF := xt_tf 425 (by decide +kernel) (by decide +kernel)
theorem wkL_43 : Cond.classLink "ExactSceneLaw" 43 "java/lang/IndexOutOfBoundsException" ∈ xs_TG := xs_tg 473 (by decide +kernel) (by decide +kernel)
theorem wkc_43 : Cond.castable "java/lang/IndexOutOfBoundsException" "java/lang/IndexOutOfBoundsException" ∈ xs_TF := xt_tf 480 (by decide +kernel) (by decide +kernel)
theorem wi_L : Cond.initialized "ExactSceneLaw" ∈ xs_TG := xs_tg 0 (by decide +kernel) (by decide +kernel)
theorem wc_L_row : Cond.codeWith y_L_row b_L_row 7 (some .int) [(0, 11, 14, 13)] ∈ xs_TG := xs_tg 259 (by decide +kernel) (by decide +kernel)
theorem ws_L_row : Cond.static y_L_row ∈ xs_TG := xs_tg 258 (by decide +kernel) (by decide +kernel)
theorem wc_L_move : Cond.codeWith y_L_move b_L_move 5 (some .int) [(0, 7, 10, 19)] ∈ xs_TG := xs_tg 350 (by decide +kernel) (by decide +kernel)
theorem ws_L_move : Cond.static y_L_move ∈ xs_TG := xs_tg 349 (by decide +kernel) (by decide +kernel)
theorem wc_L_stretch : Cond.codeWith y_L_stretch b_L_stretch 5 (some .int) [(0, 7, 10, 19)] ∈ xs_TG := xs_tg 390 (by decide +kernel) (by decide +kernel)
theorem ws_L_stretch : Cond.static y_L_stretch ∈ xs_TG := xs_tg 389 (by decide +kernel) (by decide +kernel)
theorem wc_L_turn : Cond.codeWith y_L_turn b_L_turn 3 (some .int) [(0, 5, 8, 13)] ∈ xs_TG := xs_tg 401 (by decide +kernel) (by decide +kernel)
theorem ws_L_turn : Cond.static y_L_turn ∈ xs_TG := xs_tg 400 (by decide +kernel) (by decide +kernel)
theorem wc_L_join : Cond.codeWith y_L_join b_L_join 2 (some .int) [(0, 4, 7, 31), (0, 4, 10, 19)] ∈ xs_TG := xs_tg 413 (by decide +kernel) (by decide +kernel)
theorem ws_L_join : Cond.static y_L_join ∈ xs_TG := xs_tg 412 (by decide +kernel) (by decide +kernel)
theorem wc_L_push : Cond.codeWith y_L_push b_L_push 2 (some .int) [(0, 4, 7, 31)] ∈ xs_TG := xs_tg 445 (by decide +kernel) (by decide +kernel)
theorem ws_L_push : Cond.static y_L_push ∈ xs_TG := xs_tg 444 (by decide +kernel) (by decide +kernel)
theorem wc_L_pop : Cond.codeWith y_L_pop b_L_pop 2 (some .int) [(0, 4, 7, 31)] ∈ xs_TG := xs_tg 461 (by decide +kernel) (by decide +kernel)
theorem ws_L_pop : Cond.static y_L_pop ∈ xs_TG := xs_tg 460 (by decide +kernel) (by decide +kernel)
theorem wc_L_entry : Cond.codeWith y_L_entry b_L_entry 5 (some .int) [(0, 10, 13, 43)] ∈ xs_TG := xs_tg 472 (by decide +kernel) (by decide +kernel)
theorem ws_L_entry : Cond.static y_L_entry ∈ xs_TG := xs_tg 471 (by decide +kernel) (by decide +kernel)
theorem wc_L_vertex : Cond.codeWith y_L_vertex b_L_vertex 8 (some .int) [(0, 16, 19, 13), (0, 16, 23, 31)] ∈ xs_TG := xs_tg 500 (by decide +kernel) (by decide +kernel)
theorem ws_L_vertex : Cond.static y_L_vertex ∈ xs_TG := xs_tg 499 (by decide +kernel) (by decide +kernel)
theorem wc_L_texel : Cond.codeWith y_L_texel b_L_texel 7 (some .int) [(0, 14, 17, 43)] ∈ xs_TG := xs_tg 557 (by decide +kernel) (by decide +kernel)
theorem ws_L_texel : Cond.static y_L_texel ∈ xs_TG := xs_tg 556 (by decide +kernel) (by decide +kernel)
theorem wc_L_colour : Cond.codeWith y_L_colour b_L_colour 5 (some .int) [(0, 10, 13, 43)] ∈ xs_TG := xs_tg 572 (by decide +kernel) (by decide +kernel)
theorem ws_L_colour : Cond.static y_L_colour ∈ xs_TG := xs_tg 571 (by decide +kernel) (by decide +kernel)
theorem wc_L_owner : Cond.codeWith y_L_owner b_L_owner 5 (some .int) [(0, 10, 13, 43)] ∈ xs_TG := xs_tg 584 (by decide +kernel) (by decide +kernel)
theorem ws_L_owner : Cond.static y_L_owner ∈ xs_TG := xs_tg 583 (by decide +kernel) (by decide +kernel)
theorem wc_L_compare : Cond.codeWith y_L_compare b_L_compare 7 (some .int) [(0, 14, 17, 43), (0, 14, 21, 31)] ∈ xs_TG := xs_tg 591 (by decide +kernel) (by decide +kernel)
theorem ws_L_compare : Cond.static y_L_compare ∈ xs_TG := xs_tg 590 (by decide +kernel) (by decide +kernel)
theorem wc_L_depth : Cond.codeWith y_L_depth b_L_depth 5 (some .int) [(0, 9, 12, 43), (0, 9, 16, 31)] ∈ xs_TG := xs_tg 603 (by decide +kernel) (by decide +kernel)
theorem ws_L_depth : Cond.static y_L_depth ∈ xs_TG := xs_tg 602 (by decide +kernel) (by decide +kernel)
theorem wc_L_triangle : Cond.codeWith y_L_triangle b_L_triangle 5 (some .int) [(0, 9, 12, 43)] ∈ xs_TG := xs_tg 616 (by decide +kernel) (by decide +kernel)
theorem ws_L_triangle : Cond.static y_L_triangle ∈ xs_TG := xs_tg 615 (by decide +kernel) (by decide +kernel)
theorem d_L_row_0 : decode b_L_row 0 = .ok (.aload_n 0, 1) := by decide +kernel
theorem d_L_row_1 : decode b_L_row 1 = .ok (.iload_n 1, 1) := by decide +kernel
theorem d_L_row_2 : decode b_L_row 2 = .ok (.iload_n 2, 1) := by decide +kernel
theorem d_L_row_3 : decode b_L_row 3 = .ok (.iload_n 3, 1) := by decide +kernel
theorem d_L_row_4 : decode b_L_row 4 = .ok (.iload 4, 2) := by decide +kernel
theorem d_L_row_6 : decode b_L_row 6 = .ok (.iload 5, 2) := by decide +kernel
theorem d_L_row_8 : decode b_L_row 8 = .ok (.invokevirtual 7, 3) := by decide +kernel
theorem d_L_row_11 : decode b_L_row 11 = .ok (.goto (7), 3) := by decide +kernel
theorem d_L_row_14 : decode b_L_row 14 = .ok (.astore 6, 2) := by decide +kernel
theorem d_L_row_16 : decode b_L_row 16 = .ok (.iconst 1, 1) := by decide +kernel
theorem d_L_row_17 : decode b_L_row 17 = .ok (.ireturn, 1) := by decide +kernel
theorem d_L_row_18 : decode b_L_row 18 = .ok (.iconst 0, 1) := by decide +kernel
theorem d_L_row_19 : decode b_L_row 19 = .ok (.ireturn, 1) := by decide +kernel
theorem d_L_move_0 : decode b_L_move 0 = .ok (.aload_n 0, 1) := by decide +kernel
theorem d_L_move_1 : decode b_L_move 1 = .ok (.iload_n 1, 1) := by decide +kernel
theorem d_L_move_2 : decode b_L_move 2 = .ok (.iload_n 2, 1) := by decide +kernel
theorem d_L_move_3 : decode b_L_move 3 = .ok (.iload_n 3, 1) := by decide +kernel
theorem d_L_move_4 : decode b_L_move 4 = .ok (.invokevirtual 15, 3) := by decide +kernel
theorem d_L_move_7 : decode b_L_move 7 = .ok (.goto (7), 3) := by decide +kernel
theorem d_L_move_10 : decode b_L_move 10 = .ok (.astore 4, 2) := by decide +kernel
theorem d_L_move_12 : decode b_L_move 12 = .ok (.iconst 1, 1) := by decide +kernel
theorem d_L_move_13 : decode b_L_move 13 = .ok (.ireturn, 1) := by decide +kernel
theorem d_L_move_14 : decode b_L_move 14 = .ok (.iconst 0, 1) := by decide +kernel
theorem d_L_move_15 : decode b_L_move 15 = .ok (.ireturn, 1) := by decide +kernel
theorem d_L_stretch_0 : decode b_L_stretch 0 = .ok (.aload_n 0, 1) := by decide +kernel
theorem d_L_stretch_1 : decode b_L_stretch 1 = .ok (.iload_n 1, 1) := by decide +kernel
theorem d_L_stretch_2 : decode b_L_stretch 2 = .ok (.iload_n 2, 1) := by decide +kernel
theorem d_L_stretch_3 : decode b_L_stretch 3 = .ok (.iload_n 3, 1) := by decide +kernel
theorem d_L_stretch_4 : decode b_L_stretch 4 = .ok (.invokevirtual 21, 3) := by decide +kernel
theorem d_L_stretch_7 : decode b_L_stretch 7 = .ok (.goto (7), 3) := by decide +kernel
theorem d_L_stretch_10 : decode b_L_stretch 10 = .ok (.astore 4, 2) := by decide +kernel
theorem d_L_stretch_12 : decode b_L_stretch 12 = .ok (.iconst 1, 1) := by decide +kernel
theorem d_L_stretch_13 : decode b_L_stretch 13 = .ok (.ireturn, 1) := by decide +kernel
theorem d_L_stretch_14 : decode b_L_stretch 14 = .ok (.iconst 0, 1) := by decide +kernel
theorem d_L_stretch_15 : decode b_L_stretch 15 = .ok (.ireturn, 1) := by decide +kernel
theorem d_L_turn_0 : decode b_L_turn 0 = .ok (.aload_n 0, 1) := by decide +kernel
theorem d_L_turn_1 : decode b_L_turn 1 = .ok (.iload_n 1, 1) := by decide +kernel
theorem d_L_turn_2 : decode b_L_turn 2 = .ok (.invokevirtual 24, 3) := by decide +kernel
theorem d_L_turn_5 : decode b_L_turn 5 = .ok (.goto (6), 3) := by decide +kernel
theorem d_L_turn_8 : decode b_L_turn 8 = .ok (.astore_n 2, 1) := by decide +kernel
theorem d_L_turn_9 : decode b_L_turn 9 = .ok (.iconst 1, 1) := by decide +kernel
theorem d_L_turn_10 : decode b_L_turn 10 = .ok (.ireturn, 1) := by decide +kernel
theorem d_L_turn_11 : decode b_L_turn 11 = .ok (.iconst 0, 1) := by decide +kernel
theorem d_L_turn_12 : decode b_L_turn 12 = .ok (.ireturn, 1) := by decide +kernel
theorem d_L_join_0 : decode b_L_join 0 = .ok (.aload_n 0, 1) := by decide +kernel
theorem d_L_join_1 : decode b_L_join 1 = .ok (.invokevirtual 28, 3) := by decide +kernel
theorem d_L_join_4 : decode b_L_join 4 = .ok (.goto (9), 3) := by decide +kernel
theorem d_L_join_7 : decode b_L_join 7 = .ok (.astore_n 1, 1) := by decide +kernel
theorem d_L_join_8 : decode b_L_join 8 = .ok (.iconst 1, 1) := by decide +kernel
theorem d_L_join_9 : decode b_L_join 9 = .ok (.ireturn, 1) := by decide +kernel
theorem d_L_join_10 : decode b_L_join 10 = .ok (.astore_n 1, 1) := by decide +kernel
theorem d_L_join_11 : decode b_L_join 11 = .ok (.iconst 2, 1) := by decide +kernel
theorem d_L_join_12 : decode b_L_join 12 = .ok (.ireturn, 1) := by decide +kernel
theorem d_L_join_13 : decode b_L_join 13 = .ok (.iconst 0, 1) := by decide +kernel
theorem d_L_join_14 : decode b_L_join 14 = .ok (.ireturn, 1) := by decide +kernel
theorem d_L_push_0 : decode b_L_push 0 = .ok (.aload_n 0, 1) := by decide +kernel
theorem d_L_push_1 : decode b_L_push 1 = .ok (.invokevirtual 33, 3) := by decide +kernel
theorem d_L_push_4 : decode b_L_push 4 = .ok (.goto (6), 3) := by decide +kernel
theorem d_L_push_7 : decode b_L_push 7 = .ok (.astore_n 1, 1) := by decide +kernel
theorem d_L_push_8 : decode b_L_push 8 = .ok (.iconst 1, 1) := by decide +kernel
theorem d_L_push_9 : decode b_L_push 9 = .ok (.ireturn, 1) := by decide +kernel
theorem d_L_push_10 : decode b_L_push 10 = .ok (.iconst 0, 1) := by decide +kernel
theorem d_L_push_11 : decode b_L_push 11 = .ok (.ireturn, 1) := by decide +kernel
theorem d_L_pop_0 : decode b_L_pop 0 = .ok (.aload_n 0, 1) := by decide +kernel
theorem d_L_pop_1 : decode b_L_pop 1 = .ok (.invokevirtual 36, 3) := by decide +kernel
theorem d_L_pop_4 : decode b_L_pop 4 = .ok (.goto (6), 3) := by decide +kernel
theorem d_L_pop_7 : decode b_L_pop 7 = .ok (.astore_n 1, 1) := by decide +kernel
theorem d_L_pop_8 : decode b_L_pop 8 = .ok (.iconst 1, 1) := by decide +kernel
theorem d_L_pop_9 : decode b_L_pop 9 = .ok (.ireturn, 1) := by decide +kernel
theorem d_L_pop_10 : decode b_L_pop 10 = .ok (.iconst 0, 1) := by decide +kernel
theorem d_L_pop_11 : decode b_L_pop 11 = .ok (.ireturn, 1) := by decide +kernel
theorem d_L_entry_0 : decode b_L_entry 0 = .ok (.aload_n 3, 1) := by decide +kernel
theorem d_L_entry_1 : decode b_L_entry 1 = .ok (.iconst 0, 1) := by decide +kernel
theorem d_L_entry_2 : decode b_L_entry 2 = .ok (.aload_n 0, 1) := by decide +kernel
theorem d_L_entry_3 : decode b_L_entry 3 = .ok (.iload_n 1, 1) := by decide +kernel
theorem d_L_entry_4 : decode b_L_entry 4 = .ok (.iload_n 2, 1) := by decide +kernel
theorem d_L_entry_5 : decode b_L_entry 5 = .ok (.invokevirtual 39, 3) := by decide +kernel
theorem d_L_entry_8 : decode b_L_entry 8 = .ok (.i2l, 1) := by decide +kernel
theorem d_L_entry_9 : decode b_L_entry 9 = .ok (.lastore, 1) := by decide +kernel
theorem d_L_entry_10 : decode b_L_entry 10 = .ok (.goto (7), 3) := by decide +kernel
theorem d_L_entry_13 : decode b_L_entry 13 = .ok (.astore 4, 2) := by decide +kernel
theorem d_L_entry_15 : decode b_L_entry 15 = .ok (.iconst 1, 1) := by decide +kernel
theorem d_L_entry_16 : decode b_L_entry 16 = .ok (.ireturn, 1) := by decide +kernel
theorem d_L_entry_17 : decode b_L_entry 17 = .ok (.iconst 0, 1) := by decide +kernel
theorem d_L_entry_18 : decode b_L_entry 18 = .ok (.ireturn, 1) := by decide +kernel
theorem d_L_vertex_0 : decode b_L_vertex 0 = .ok (.aload 6, 2) := by decide +kernel
theorem d_L_vertex_2 : decode b_L_vertex 2 = .ok (.iconst 0, 1) := by decide +kernel
theorem d_L_vertex_3 : decode b_L_vertex 3 = .ok (.aload_n 0, 1) := by decide +kernel
theorem d_L_vertex_4 : decode b_L_vertex 4 = .ok (.iload_n 1, 1) := by decide +kernel
theorem d_L_vertex_5 : decode b_L_vertex 5 = .ok (.iload_n 2, 1) := by decide +kernel
theorem d_L_vertex_6 : decode b_L_vertex 6 = .ok (.iload_n 3, 1) := by decide +kernel
theorem d_L_vertex_7 : decode b_L_vertex 7 = .ok (.iload 4, 2) := by decide +kernel
theorem d_L_vertex_9 : decode b_L_vertex 9 = .ok (.iload 5, 2) := by decide +kernel
theorem d_L_vertex_11 : decode b_L_vertex 11 = .ok (.invokevirtual 45, 3) := by decide +kernel
theorem d_L_vertex_14 : decode b_L_vertex 14 = .ok (.i2l, 1) := by decide +kernel
theorem d_L_vertex_15 : decode b_L_vertex 15 = .ok (.lastore, 1) := by decide +kernel
theorem d_L_vertex_16 : decode b_L_vertex 16 = .ok (.goto (11), 3) := by decide +kernel
theorem d_L_vertex_19 : decode b_L_vertex 19 = .ok (.astore 7, 2) := by decide +kernel
theorem d_L_vertex_21 : decode b_L_vertex 21 = .ok (.iconst 1, 1) := by decide +kernel
theorem d_L_vertex_22 : decode b_L_vertex 22 = .ok (.ireturn, 1) := by decide +kernel
theorem d_L_vertex_23 : decode b_L_vertex 23 = .ok (.astore 7, 2) := by decide +kernel
theorem d_L_vertex_25 : decode b_L_vertex 25 = .ok (.iconst 2, 1) := by decide +kernel
theorem d_L_vertex_26 : decode b_L_vertex 26 = .ok (.ireturn, 1) := by decide +kernel
theorem d_L_vertex_27 : decode b_L_vertex 27 = .ok (.iconst 0, 1) := by decide +kernel
theorem d_L_vertex_28 : decode b_L_vertex 28 = .ok (.ireturn, 1) := by decide +kernel
theorem d_L_texel_0 : decode b_L_texel 0 = .ok (.aload 5, 2) := by decide +kernel
theorem d_L_texel_2 : decode b_L_texel 2 = .ok (.iconst 0, 1) := by decide +kernel
theorem d_L_texel_3 : decode b_L_texel 3 = .ok (.aload_n 0, 1) := by decide +kernel
theorem d_L_texel_4 : decode b_L_texel 4 = .ok (.iload_n 1, 1) := by decide +kernel
theorem d_L_texel_5 : decode b_L_texel 5 = .ok (.iload_n 2, 1) := by decide +kernel
theorem d_L_texel_6 : decode b_L_texel 6 = .ok (.iload_n 3, 1) := by decide +kernel
theorem d_L_texel_7 : decode b_L_texel 7 = .ok (.iload 4, 2) := by decide +kernel
theorem d_L_texel_9 : decode b_L_texel 9 = .ok (.invokevirtual 49, 3) := by decide +kernel
theorem d_L_texel_12 : decode b_L_texel 12 = .ok (.i2l, 1) := by decide +kernel
theorem d_L_texel_13 : decode b_L_texel 13 = .ok (.lastore, 1) := by decide +kernel
theorem d_L_texel_14 : decode b_L_texel 14 = .ok (.goto (7), 3) := by decide +kernel
theorem d_L_texel_17 : decode b_L_texel 17 = .ok (.astore 6, 2) := by decide +kernel
theorem d_L_texel_19 : decode b_L_texel 19 = .ok (.iconst 1, 1) := by decide +kernel
theorem d_L_texel_20 : decode b_L_texel 20 = .ok (.ireturn, 1) := by decide +kernel
theorem d_L_texel_21 : decode b_L_texel 21 = .ok (.iconst 0, 1) := by decide +kernel
theorem d_L_texel_22 : decode b_L_texel 22 = .ok (.ireturn, 1) := by decide +kernel
theorem d_L_colour_0 : decode b_L_colour 0 = .ok (.aload_n 3, 1) := by decide +kernel
theorem d_L_colour_1 : decode b_L_colour 1 = .ok (.iconst 0, 1) := by decide +kernel
theorem d_L_colour_2 : decode b_L_colour 2 = .ok (.aload_n 0, 1) := by decide +kernel
theorem d_L_colour_3 : decode b_L_colour 3 = .ok (.iload_n 1, 1) := by decide +kernel
theorem d_L_colour_4 : decode b_L_colour 4 = .ok (.iload_n 2, 1) := by decide +kernel
theorem d_L_colour_5 : decode b_L_colour 5 = .ok (.invokevirtual 53, 3) := by decide +kernel
theorem d_L_colour_8 : decode b_L_colour 8 = .ok (.i2l, 1) := by decide +kernel
theorem d_L_colour_9 : decode b_L_colour 9 = .ok (.lastore, 1) := by decide +kernel
theorem d_L_colour_10 : decode b_L_colour 10 = .ok (.goto (7), 3) := by decide +kernel
theorem d_L_colour_13 : decode b_L_colour 13 = .ok (.astore 4, 2) := by decide +kernel
theorem d_L_colour_15 : decode b_L_colour 15 = .ok (.iconst 1, 1) := by decide +kernel
theorem d_L_colour_16 : decode b_L_colour 16 = .ok (.ireturn, 1) := by decide +kernel
theorem d_L_colour_17 : decode b_L_colour 17 = .ok (.iconst 0, 1) := by decide +kernel
theorem d_L_colour_18 : decode b_L_colour 18 = .ok (.ireturn, 1) := by decide +kernel
theorem d_L_owner_0 : decode b_L_owner 0 = .ok (.aload_n 3, 1) := by decide +kernel
theorem d_L_owner_1 : decode b_L_owner 1 = .ok (.iconst 0, 1) := by decide +kernel
theorem d_L_owner_2 : decode b_L_owner 2 = .ok (.aload_n 0, 1) := by decide +kernel
theorem d_L_owner_3 : decode b_L_owner 3 = .ok (.iload_n 1, 1) := by decide +kernel
theorem d_L_owner_4 : decode b_L_owner 4 = .ok (.iload_n 2, 1) := by decide +kernel
theorem d_L_owner_5 : decode b_L_owner 5 = .ok (.invokevirtual 56, 3) := by decide +kernel
theorem d_L_owner_8 : decode b_L_owner 8 = .ok (.i2l, 1) := by decide +kernel
theorem d_L_owner_9 : decode b_L_owner 9 = .ok (.lastore, 1) := by decide +kernel
theorem d_L_owner_10 : decode b_L_owner 10 = .ok (.goto (7), 3) := by decide +kernel
theorem d_L_owner_13 : decode b_L_owner 13 = .ok (.astore 4, 2) := by decide +kernel
theorem d_L_owner_15 : decode b_L_owner 15 = .ok (.iconst 1, 1) := by decide +kernel
theorem d_L_owner_16 : decode b_L_owner 16 = .ok (.ireturn, 1) := by decide +kernel
theorem d_L_owner_17 : decode b_L_owner 17 = .ok (.iconst 0, 1) := by decide +kernel
theorem d_L_owner_18 : decode b_L_owner 18 = .ok (.ireturn, 1) := by decide +kernel
theorem d_L_compare_0 : decode b_L_compare 0 = .ok (.aload 5, 2) := by decide +kernel
theorem d_L_compare_2 : decode b_L_compare 2 = .ok (.iconst 0, 1) := by decide +kernel
theorem d_L_compare_3 : decode b_L_compare 3 = .ok (.aload_n 0, 1) := by decide +kernel
theorem d_L_compare_4 : decode b_L_compare 4 = .ok (.iload_n 1, 1) := by decide +kernel
theorem d_L_compare_5 : decode b_L_compare 5 = .ok (.iload_n 2, 1) := by decide +kernel
theorem d_L_compare_6 : decode b_L_compare 6 = .ok (.iload_n 3, 1) := by decide +kernel
theorem d_L_compare_7 : decode b_L_compare 7 = .ok (.iload 4, 2) := by decide +kernel
theorem d_L_compare_9 : decode b_L_compare 9 = .ok (.invokevirtual 59, 3) := by decide +kernel
theorem d_L_compare_12 : decode b_L_compare 12 = .ok (.i2l, 1) := by decide +kernel
theorem d_L_compare_13 : decode b_L_compare 13 = .ok (.lastore, 1) := by decide +kernel
theorem d_L_compare_14 : decode b_L_compare 14 = .ok (.goto (11), 3) := by decide +kernel
theorem d_L_compare_17 : decode b_L_compare 17 = .ok (.astore 6, 2) := by decide +kernel
theorem d_L_compare_19 : decode b_L_compare 19 = .ok (.iconst 1, 1) := by decide +kernel
theorem d_L_compare_20 : decode b_L_compare 20 = .ok (.ireturn, 1) := by decide +kernel
theorem d_L_compare_21 : decode b_L_compare 21 = .ok (.astore 6, 2) := by decide +kernel
theorem d_L_compare_23 : decode b_L_compare 23 = .ok (.iconst 2, 1) := by decide +kernel
theorem d_L_compare_24 : decode b_L_compare 24 = .ok (.ireturn, 1) := by decide +kernel
theorem d_L_compare_25 : decode b_L_compare 25 = .ok (.iconst 0, 1) := by decide +kernel
theorem d_L_compare_26 : decode b_L_compare 26 = .ok (.ireturn, 1) := by decide +kernel
theorem d_L_depth_0 : decode b_L_depth 0 = .ok (.aload_n 3, 1) := by decide +kernel
theorem d_L_depth_1 : decode b_L_depth 1 = .ok (.iconst 0, 1) := by decide +kernel
theorem d_L_depth_2 : decode b_L_depth 2 = .ok (.aload_n 0, 1) := by decide +kernel
theorem d_L_depth_3 : decode b_L_depth 3 = .ok (.iload_n 1, 1) := by decide +kernel
theorem d_L_depth_4 : decode b_L_depth 4 = .ok (.iload_n 2, 1) := by decide +kernel
theorem d_L_depth_5 : decode b_L_depth 5 = .ok (.invokevirtual 62, 3) := by decide +kernel
theorem d_L_depth_8 : decode b_L_depth 8 = .ok (.lastore, 1) := by decide +kernel
theorem d_L_depth_9 : decode b_L_depth 9 = .ok (.goto (11), 3) := by decide +kernel
theorem d_L_depth_12 : decode b_L_depth 12 = .ok (.astore 4, 2) := by decide +kernel
theorem d_L_depth_14 : decode b_L_depth 14 = .ok (.iconst 1, 1) := by decide +kernel
theorem d_L_depth_15 : decode b_L_depth 15 = .ok (.ireturn, 1) := by decide +kernel
theorem d_L_depth_16 : decode b_L_depth 16 = .ok (.astore 4, 2) := by decide +kernel
theorem d_L_depth_18 : decode b_L_depth 18 = .ok (.iconst 2, 1) := by decide +kernel
theorem d_L_depth_19 : decode b_L_depth 19 = .ok (.ireturn, 1) := by decide +kernel
theorem d_L_depth_20 : decode b_L_depth 20 = .ok (.iconst 0, 1) := by decide +kernel
theorem d_L_depth_21 : decode b_L_depth 21 = .ok (.ireturn, 1) := by decide +kernel
theorem d_L_triangle_0 : decode b_L_triangle 0 = .ok (.aload_n 3, 1) := by decide +kernel
theorem d_L_triangle_1 : decode b_L_triangle 1 = .ok (.iconst 0, 1) := by decide +kernel
theorem d_L_triangle_2 : decode b_L_triangle 2 = .ok (.aload_n 0, 1) := by decide +kernel
theorem d_L_triangle_3 : decode b_L_triangle 3 = .ok (.iload_n 1, 1) := by decide +kernel
theorem d_L_triangle_4 : decode b_L_triangle 4 = .ok (.iload_n 2, 1) := by decide +kernel
theorem d_L_triangle_5 : decode b_L_triangle 5 = .ok (.invokevirtual 66, 3) := by decide +kernel
theorem d_L_triangle_8 : decode b_L_triangle 8 = .ok (.lastore, 1) := by decide +kernel
theorem d_L_triangle_9 : decode b_L_triangle 9 = .ok (.goto (7), 3) := by decide +kernel
theorem d_L_triangle_12 : decode b_L_triangle 12 = .ok (.astore 4, 2) := by decide +kernel
theorem d_L_triangle_14 : decode b_L_triangle 14 = .ok (.iconst 1, 1) := by decide +kernel
theorem d_L_triangle_15 : decode b_L_triangle 15 = .ok (.ireturn, 1) := by decide +kernel
theorem d_L_triangle_16 : decode b_L_triangle 16 = .ok (.iconst 0, 1) := by decide +kernel
theorem d_L_triangle_17 : decode b_L_triangle 17 = .ok (.ireturn, 1) := by decide +kernel
def fn_L_row (μ0 : xs_M) (x1 : Int32) (x2 : Int32) (x3 : Int32) (x4 : Int32) (x5 : Int32) : Option (Int32 × xs_M) :=
  ((fn_S_row μ0 x1 x2 x3 x4 x5).bind fun w1 => Sum.elim (fun rv2 => some (((0 : Int32), rv2))) (fun ev3 => (if ev3.1 = "java/lang/IllegalArgumentException" then some (((1 : Int32), ev3.2)) else none)) w1)
set_option maxHeartbeats 4000000 in
set_option maxRecDepth 100000 in
theorem ok_L_row (l : Launch) (hlt : l.stackTraces = false) (D : va_G) (ad : Nat → Nat) (cs : xs_cs) (hJ : xs_J ad) {μ0 : xs_M} {x1 : Int32} {x2 : Int32} {x3 : Int32} {x4 : Int32} {x5 : Int32}  {rz : (Int32 × xs_M)} (hE : fn_L_row μ0 x1 x2 x3 x4 x5 = some rz) : xh_I l D ad cs y_L_row b_L_row 7 [(0, 11, 14, 13)] 7 115 [.ref (ad 0), .int (x1), .int (x2), .int (x3), .int (x4), .int (x5)] μ0 (some (.int rz.1)) rz.2 := by
  refine xh_entry hJ (by decide) (Nat.le_of_ble_eq_true rfl) ?_
  intro p e s m below meth c ls X hr hlk hexc hT G hl
  have X : xs_C p s m c b_L_row 7 _ "ExactSceneLaw" := X
  have hx := X.1
  have hb := X.2.1
  have hl : lv_has ls 7 [(0, .ref (ad 0)), (1, .int (x1)), (2, .int (x2)), (3, .int (x3)), (4, .int (x4)), (5, .int (x5))] := hl
  unfold fn_L_row at hE
  refine lv_aload_n (pc := 0) hx hb d_L_row_0 rfl (lv_at hl 0 rfl) ?_
  refine lv_iload_n (pc := 1) hx hb d_L_row_1 rfl (lv_at hl 1 rfl) ?_
  refine lv_iload_n (pc := 2) hx hb d_L_row_2 rfl (lv_at hl 2 rfl) ?_
  refine lv_iload_n (pc := 3) hx hb d_L_row_3 rfl (lv_at hl 3 rfl) ?_
  refine lv_iload (pc := 4) hx hb d_L_row_4 (lv_at hl 4 rfl) ?_
  refine lv_iload (pc := 6) hx hb d_L_row_6 (lv_at hl 5 rfl) ?_
  obtain ⟨w1, hw1, hE⟩ := xs_b hE
  rcases w1 with rv2 | ev3
  · have hE := xs_el hE rfl
    refine xs_callVv (pc := 8) (as := [.int (x1), .int (x2), .int (x3), .int (x4), .int (x5)]) X (ok_S_row l D ad cs hJ hw1) km_L_7 G (xs_wS ad cs _) rfl ⟨by decide, by decide⟩ ⟨Nat.zero_le _, Nat.zero_le _⟩ rfl hl.1 rfl (Nat.le_of_ble_eq_true rfl) d_L_row_8 (fun H locs G => ?_)
    refine lv_goto (pc := 11) (tgt := 18) hx hb d_L_row_11 (by decide) ?_
    refine lv_iconst (pc := 18) (v := (0 : Int32)) hx hb d_L_row_18 (by decide) ?_
    cases hE
    exact xh_iret (pc := 19) hx hb hr hlk G ⟨by decide, by decide⟩ d_L_row_19
  · have hE := xs_er hE rfl
    by_cases he : ev3.1 = "java/lang/IllegalArgumentException"
    · have hE := xs_t hE he
      have hM := th_S_row l hlt D ad cs hJ hw1
      rw [he] at hM
      refine xt_callV (pc := 8) (as := [.int (x1), .int (x2), .int (x3), .int (x4), .int (x5)]) X hM km_L_7 hT G (xs_wS ad cs _) rfl ⟨by decide, by decide⟩ ⟨by decide, by decide⟩ rfl hl.1 rfl (Nat.le_of_ble_eq_true rfl) d_L_row_8 (fun q4 ce H locs G hce hcv hcl => ?_)
      refine xt_catch1 X hT hexc (by decide) (by decide) wkL_13 wkc_13 hce hcv hcl ?_
      refine lv_astore (pc := 14) hx hb d_L_row_14 hl (by decide) (lv' := [(6, .ref q4), (0, .ref (ad 0)), (1, .int (x1)), (2, .int (x2)), (3, .int (x3)), (4, .int (x4)), (5, .int (x5))]) rfl (fun ls hl => ?_)
      refine lv_iconst (pc := 16) (v := (1 : Int32)) hx hb d_L_row_16 (by decide) ?_
      cases hE
      exact xh_iret (pc := 17) hx hb hr hlk G ⟨by decide, by decide⟩ d_L_row_17
    · have hE := xs_f hE he
      cases hE
def fn_L_move (μ0 : xs_M) (x1 : Int32) (x2 : Int32) (x3 : Int32) : Option (Int32 × xs_M) :=
  ((fn_S_move μ0 x1 x2 x3).bind fun w1 => Sum.elim (fun rv2 => some (((0 : Int32), rv2))) (fun ev3 => (if ev3.1 = "java/lang/ArithmeticException" then some (((1 : Int32), ev3.2)) else none)) w1)
set_option maxHeartbeats 4000000 in
set_option maxRecDepth 100000 in
theorem ok_L_move (l : Launch) (hlt : l.stackTraces = false) (D : va_G) (ad : Nat → Nat) (cs : xs_cs) (hJ : xs_J ad) {μ0 : xs_M} {x1 : Int32} {x2 : Int32} {x3 : Int32}  {rz : (Int32 × xs_M)} (hE : fn_L_move μ0 x1 x2 x3 = some rz) : xh_I l D ad cs y_L_move b_L_move 5 [(0, 7, 10, 19)] 7 113 [.ref (ad 0), .int (x1), .int (x2), .int (x3)] μ0 (some (.int rz.1)) rz.2 := by
  refine xh_entry hJ (by decide) (Nat.le_of_ble_eq_true rfl) ?_
  intro p e s m below meth c ls X hr hlk hexc hT G hl
  have X : xs_C p s m c b_L_move 5 _ "ExactSceneLaw" := X
  have hx := X.1
  have hb := X.2.1
  have hl : lv_has ls 5 [(0, .ref (ad 0)), (1, .int (x1)), (2, .int (x2)), (3, .int (x3))] := hl
  unfold fn_L_move at hE
  refine lv_aload_n (pc := 0) hx hb d_L_move_0 rfl (lv_at hl 0 rfl) ?_
  refine lv_iload_n (pc := 1) hx hb d_L_move_1 rfl (lv_at hl 1 rfl) ?_
  refine lv_iload_n (pc := 2) hx hb d_L_move_2 rfl (lv_at hl 2 rfl) ?_
  refine lv_iload_n (pc := 3) hx hb d_L_move_3 rfl (lv_at hl 3 rfl) ?_
  obtain ⟨w1, hw1, hE⟩ := xs_b hE
  rcases w1 with rv2 | ev3
  · have hE := xs_el hE rfl
    refine xs_callVv (pc := 4) (as := [.int (x1), .int (x2), .int (x3)]) X (ok_S_move l D ad cs hJ hw1) km_L_15 G (xs_wS ad cs _) rfl ⟨by decide, by decide⟩ ⟨Nat.zero_le _, Nat.zero_le _⟩ rfl hl.1 rfl (Nat.le_of_ble_eq_true rfl) d_L_move_4 (fun H locs G => ?_)
    refine lv_goto (pc := 7) (tgt := 14) hx hb d_L_move_7 (by decide) ?_
    refine lv_iconst (pc := 14) (v := (0 : Int32)) hx hb d_L_move_14 (by decide) ?_
    cases hE
    exact xh_iret (pc := 15) hx hb hr hlk G ⟨by decide, by decide⟩ d_L_move_15
  · have hE := xs_er hE rfl
    by_cases he : ev3.1 = "java/lang/ArithmeticException"
    · have hE := xs_t hE he
      have hM := th_S_move l hlt D ad cs hJ hw1
      rw [he] at hM
      refine xt_callV (pc := 4) (as := [.int (x1), .int (x2), .int (x3)]) X hM km_L_15 hT G (xs_wS ad cs _) rfl ⟨by decide, by decide⟩ ⟨by decide, by decide⟩ rfl hl.1 rfl (Nat.le_of_ble_eq_true rfl) d_L_move_4 (fun q4 ce H locs G hce hcv hcl => ?_)
      refine xt_catch1 X hT hexc (by decide) (by decide) wkL_19 wkc_19 hce hcv hcl ?_
      refine lv_astore (pc := 10) hx hb d_L_move_10 hl (by decide) (lv' := [(4, .ref q4), (0, .ref (ad 0)), (1, .int (x1)), (2, .int (x2)), (3, .int (x3))]) rfl (fun ls hl => ?_)
      refine lv_iconst (pc := 12) (v := (1 : Int32)) hx hb d_L_move_12 (by decide) ?_
      cases hE
      exact xh_iret (pc := 13) hx hb hr hlk G ⟨by decide, by decide⟩ d_L_move_13
    · have hE := xs_f hE he
      cases hE
def fn_L_stretch (μ0 : xs_M) (x1 : Int32) (x2 : Int32) (x3 : Int32) : Option (Int32 × xs_M) :=
  ((fn_S_stretch μ0 x1 x2 x3).bind fun w1 => Sum.elim (fun rv2 => some (((0 : Int32), rv2))) (fun ev3 => (if ev3.1 = "java/lang/ArithmeticException" then some (((1 : Int32), ev3.2)) else none)) w1)
set_option maxHeartbeats 4000000 in
set_option maxRecDepth 100000 in
theorem ok_L_stretch (l : Launch) (hlt : l.stackTraces = false) (D : va_G) (ad : Nat → Nat) (cs : xs_cs) (hJ : xs_J ad) {μ0 : xs_M} {x1 : Int32} {x2 : Int32} {x3 : Int32}  {rz : (Int32 × xs_M)} (hE : fn_L_stretch μ0 x1 x2 x3 = some rz) : xh_I l D ad cs y_L_stretch b_L_stretch 5 [(0, 7, 10, 19)] 7 113 [.ref (ad 0), .int (x1), .int (x2), .int (x3)] μ0 (some (.int rz.1)) rz.2 := by
  refine xh_entry hJ (by decide) (Nat.le_of_ble_eq_true rfl) ?_
  intro p e s m below meth c ls X hr hlk hexc hT G hl
  have X : xs_C p s m c b_L_stretch 5 _ "ExactSceneLaw" := X
  have hx := X.1
  have hb := X.2.1
  have hl : lv_has ls 5 [(0, .ref (ad 0)), (1, .int (x1)), (2, .int (x2)), (3, .int (x3))] := hl
  unfold fn_L_stretch at hE
  refine lv_aload_n (pc := 0) hx hb d_L_stretch_0 rfl (lv_at hl 0 rfl) ?_
  refine lv_iload_n (pc := 1) hx hb d_L_stretch_1 rfl (lv_at hl 1 rfl) ?_
  refine lv_iload_n (pc := 2) hx hb d_L_stretch_2 rfl (lv_at hl 2 rfl) ?_
  refine lv_iload_n (pc := 3) hx hb d_L_stretch_3 rfl (lv_at hl 3 rfl) ?_
  obtain ⟨w1, hw1, hE⟩ := xs_b hE
  rcases w1 with rv2 | ev3
  · have hE := xs_el hE rfl
    refine xs_callVv (pc := 4) (as := [.int (x1), .int (x2), .int (x3)]) X (ok_S_stretch l D ad cs hJ hw1) km_L_21 G (xs_wS ad cs _) rfl ⟨by decide, by decide⟩ ⟨Nat.zero_le _, Nat.zero_le _⟩ rfl hl.1 rfl (Nat.le_of_ble_eq_true rfl) d_L_stretch_4 (fun H locs G => ?_)
    refine lv_goto (pc := 7) (tgt := 14) hx hb d_L_stretch_7 (by decide) ?_
    refine lv_iconst (pc := 14) (v := (0 : Int32)) hx hb d_L_stretch_14 (by decide) ?_
    cases hE
    exact xh_iret (pc := 15) hx hb hr hlk G ⟨by decide, by decide⟩ d_L_stretch_15
  · have hE := xs_er hE rfl
    by_cases he : ev3.1 = "java/lang/ArithmeticException"
    · have hE := xs_t hE he
      have hM := th_S_stretch l hlt D ad cs hJ hw1
      rw [he] at hM
      refine xt_callV (pc := 4) (as := [.int (x1), .int (x2), .int (x3)]) X hM km_L_21 hT G (xs_wS ad cs _) rfl ⟨by decide, by decide⟩ ⟨by decide, by decide⟩ rfl hl.1 rfl (Nat.le_of_ble_eq_true rfl) d_L_stretch_4 (fun q4 ce H locs G hce hcv hcl => ?_)
      refine xt_catch1 X hT hexc (by decide) (by decide) wkL_19 wkc_19 hce hcv hcl ?_
      refine lv_astore (pc := 10) hx hb d_L_stretch_10 hl (by decide) (lv' := [(4, .ref q4), (0, .ref (ad 0)), (1, .int (x1)), (2, .int (x2)), (3, .int (x3))]) rfl (fun ls hl => ?_)
      refine lv_iconst (pc := 12) (v := (1 : Int32)) hx hb d_L_stretch_12 (by decide) ?_
      cases hE
      exact xh_iret (pc := 13) hx hb hr hlk G ⟨by decide, by decide⟩ d_L_stretch_13
    · have hE := xs_f hE he
      cases hE
def fn_L_turn (μ0 : xs_M) (x1 : Int32) : Option (Int32 × xs_M) :=
  ((fn_S_turn μ0 x1).bind fun w1 => Sum.elim (fun rv2 => some (((0 : Int32), rv2))) (fun ev3 => (if ev3.1 = "java/lang/IllegalArgumentException" then some (((1 : Int32), ev3.2)) else none)) w1)
set_option maxHeartbeats 4000000 in
set_option maxRecDepth 100000 in
theorem ok_L_turn (l : Launch) (hlt : l.stackTraces = false) (D : va_G) (ad : Nat → Nat) (cs : xs_cs) (hJ : xs_J ad) {μ0 : xs_M} {x1 : Int32}  {rz : (Int32 × xs_M)} (hE : fn_L_turn μ0 x1 = some rz) : xh_I l D ad cs y_L_turn b_L_turn 3 [(0, 5, 8, 13)] 7 111 [.ref (ad 0), .int (x1)] μ0 (some (.int rz.1)) rz.2 := by
  refine xh_entry hJ (by decide) (Nat.le_of_ble_eq_true rfl) ?_
  intro p e s m below meth c ls X hr hlk hexc hT G hl
  have X : xs_C p s m c b_L_turn 3 _ "ExactSceneLaw" := X
  have hx := X.1
  have hb := X.2.1
  have hl : lv_has ls 3 [(0, .ref (ad 0)), (1, .int (x1))] := hl
  unfold fn_L_turn at hE
  refine lv_aload_n (pc := 0) hx hb d_L_turn_0 rfl (lv_at hl 0 rfl) ?_
  refine lv_iload_n (pc := 1) hx hb d_L_turn_1 rfl (lv_at hl 1 rfl) ?_
  obtain ⟨w1, hw1, hE⟩ := xs_b hE
  rcases w1 with rv2 | ev3
  · have hE := xs_el hE rfl
    refine xs_callVv (pc := 2) (as := [.int (x1)]) X (ok_S_turn l D ad cs hJ hw1) km_L_24 G (xs_wS ad cs _) rfl ⟨by decide, by decide⟩ ⟨Nat.zero_le _, Nat.zero_le _⟩ rfl hl.1 rfl (Nat.le_of_ble_eq_true rfl) d_L_turn_2 (fun H locs G => ?_)
    refine lv_goto (pc := 5) (tgt := 11) hx hb d_L_turn_5 (by decide) ?_
    refine lv_iconst (pc := 11) (v := (0 : Int32)) hx hb d_L_turn_11 (by decide) ?_
    cases hE
    exact xh_iret (pc := 12) hx hb hr hlk G ⟨by decide, by decide⟩ d_L_turn_12
  · have hE := xs_er hE rfl
    by_cases he : ev3.1 = "java/lang/IllegalArgumentException"
    · have hE := xs_t hE he
      have hM := th_S_turn l hlt D ad cs hJ hw1
      rw [he] at hM
      refine xt_callV (pc := 2) (as := [.int (x1)]) X hM km_L_24 hT G (xs_wS ad cs _) rfl ⟨by decide, by decide⟩ ⟨by decide, by decide⟩ rfl hl.1 rfl (Nat.le_of_ble_eq_true rfl) d_L_turn_2 (fun q4 ce H locs G hce hcv hcl => ?_)
      refine xt_catch1 X hT hexc (by decide) (by decide) wkL_13 wkc_13 hce hcv hcl ?_
      refine lv_astore_n (pc := 8) hx hb d_L_turn_8 rfl hl (by decide) (lv' := [(2, .ref q4), (0, .ref (ad 0)), (1, .int (x1))]) rfl (fun ls hl => ?_)
      refine lv_iconst (pc := 9) (v := (1 : Int32)) hx hb d_L_turn_9 (by decide) ?_
      cases hE
      exact xh_iret (pc := 10) hx hb hr hlk G ⟨by decide, by decide⟩ d_L_turn_10
    · have hE := xs_f hE he
      cases hE
def fn_L_join (μ0 : xs_M)  : Option (Int32 × xs_M) :=
  ((fn_S_join μ0).bind fun w1 => Sum.elim (fun rv2 => some (((0 : Int32), rv2))) (fun ev3 => (if ev3.1 = "java/lang/IllegalStateException" then some (((1 : Int32), ev3.2)) else (if ev3.1 = "java/lang/ArithmeticException" then some (((2 : Int32), ev3.2)) else none))) w1)
set_option maxHeartbeats 4000000 in
set_option maxRecDepth 100000 in
theorem ok_L_join (l : Launch) (hlt : l.stackTraces = false) (D : va_G) (ad : Nat → Nat) (cs : xs_cs) (hJ : xs_J ad) {μ0 : xs_M}   {rz : (Int32 × xs_M)} (hE : fn_L_join μ0 = some rz) : xh_I l D ad cs y_L_join b_L_join 2 [(0, 4, 7, 31), (0, 4, 10, 19)] 7 110 [.ref (ad 0)] μ0 (some (.int rz.1)) rz.2 := by
  refine xh_entry hJ (by decide) (Nat.le_of_ble_eq_true rfl) ?_
  intro p e s m below meth c ls X hr hlk hexc hT G hl
  have X : xs_C p s m c b_L_join 2 _ "ExactSceneLaw" := X
  have hx := X.1
  have hb := X.2.1
  have hl : lv_has ls 2 [(0, .ref (ad 0))] := hl
  unfold fn_L_join at hE
  refine lv_aload_n (pc := 0) hx hb d_L_join_0 rfl (lv_at hl 0 rfl) ?_
  obtain ⟨w1, hw1, hE⟩ := xs_b hE
  rcases w1 with rv2 | ev3
  · have hE := xs_el hE rfl
    refine xs_callVv (pc := 1) (as := []) X (ok_S_join l D ad cs hJ hw1) km_L_28 G (xs_wS ad cs _) rfl ⟨by decide, by decide⟩ ⟨Nat.zero_le _, Nat.zero_le _⟩ rfl hl.1 rfl (Nat.le_of_ble_eq_true rfl) d_L_join_1 (fun H locs G => ?_)
    refine lv_goto (pc := 4) (tgt := 13) hx hb d_L_join_4 (by decide) ?_
    refine lv_iconst (pc := 13) (v := (0 : Int32)) hx hb d_L_join_13 (by decide) ?_
    cases hE
    exact xh_iret (pc := 14) hx hb hr hlk G ⟨by decide, by decide⟩ d_L_join_14
  · have hE := xs_er hE rfl
    by_cases he : ev3.1 = "java/lang/IllegalStateException"
    · have hE := xs_t hE he
      have hM := th_S_join l hlt D ad cs hJ hw1
      rw [he] at hM
      refine xt_callV (pc := 1) (as := []) X hM km_L_28 hT G (xs_wS ad cs _) rfl ⟨by decide, by decide⟩ ⟨by decide, by decide⟩ rfl hl.1 rfl (Nat.le_of_ble_eq_true rfl) d_L_join_1 (fun q5 ce H locs G hce hcv hcl => ?_)
      refine xt_catch1 X hT hexc (by decide) (by decide) wkL_31 wkc_31 hce hcv hcl ?_
      refine lv_astore_n (pc := 7) hx hb d_L_join_7 rfl hl (by decide) (lv' := [(1, .ref q5), (0, .ref (ad 0))]) rfl (fun ls hl => ?_)
      refine lv_iconst (pc := 8) (v := (1 : Int32)) hx hb d_L_join_8 (by decide) ?_
      cases hE
      exact xh_iret (pc := 9) hx hb hr hlk G ⟨by decide, by decide⟩ d_L_join_9
    · have hE := xs_f hE he
      by_cases he : ev3.1 = "java/lang/ArithmeticException"
      · have hE := xs_t hE he
        have hM := th_S_join l hlt D ad cs hJ hw1
        rw [he] at hM
        refine xt_callV (pc := 1) (as := []) X hM km_L_28 hT G (xs_wS ad cs _) rfl ⟨by decide, by decide⟩ ⟨by decide, by decide⟩ rfl hl.1 rfl (Nat.le_of_ble_eq_true rfl) d_L_join_1 (fun q4 ce H locs G hce hcv hcl => ?_)
        refine xt_catch2 X hT hexc (by decide) (by decide) (by decide) (by decide) wkL_31 (by decide) wkL_19 wkc_19 hce hcv hcl ?_
        refine lv_astore_n (pc := 10) hx hb d_L_join_10 rfl hl (by decide) (lv' := [(1, .ref q4), (0, .ref (ad 0))]) rfl (fun ls hl => ?_)
        refine lv_iconst (pc := 11) (v := (2 : Int32)) hx hb d_L_join_11 (by decide) ?_
        cases hE
        exact xh_iret (pc := 12) hx hb hr hlk G ⟨by decide, by decide⟩ d_L_join_12
      · have hE := xs_f hE he
        cases hE
def fn_L_push (μ0 : xs_M)  : Option (Int32 × xs_M) :=
  ((fn_S_push μ0).bind fun w1 => Sum.elim (fun rv2 => some (((0 : Int32), rv2))) (fun ev3 => (if ev3.1 = "java/lang/IllegalStateException" then some (((1 : Int32), ev3.2)) else none)) w1)
set_option maxHeartbeats 4000000 in
set_option maxRecDepth 100000 in
theorem ok_L_push (l : Launch) (hlt : l.stackTraces = false) (D : va_G) (ad : Nat → Nat) (cs : xs_cs) (hJ : xs_J ad) {μ0 : xs_M}   {rz : (Int32 × xs_M)} (hE : fn_L_push μ0 = some rz) : xh_I l D ad cs y_L_push b_L_push 2 [(0, 4, 7, 31)] 7 110 [.ref (ad 0)] μ0 (some (.int rz.1)) rz.2 := by
  refine xh_entry hJ (by decide) (Nat.le_of_ble_eq_true rfl) ?_
  intro p e s m below meth c ls X hr hlk hexc hT G hl
  have X : xs_C p s m c b_L_push 2 _ "ExactSceneLaw" := X
  have hx := X.1
  have hb := X.2.1
  have hl : lv_has ls 2 [(0, .ref (ad 0))] := hl
  unfold fn_L_push at hE
  refine lv_aload_n (pc := 0) hx hb d_L_push_0 rfl (lv_at hl 0 rfl) ?_
  obtain ⟨w1, hw1, hE⟩ := xs_b hE
  rcases w1 with rv2 | ev3
  · have hE := xs_el hE rfl
    refine xs_callVv (pc := 1) (as := []) X (ok_S_push l D ad cs hJ hw1) km_L_33 G (xs_wS ad cs _) rfl ⟨by decide, by decide⟩ ⟨Nat.zero_le _, Nat.zero_le _⟩ rfl hl.1 rfl (Nat.le_of_ble_eq_true rfl) d_L_push_1 (fun H locs G => ?_)
    refine lv_goto (pc := 4) (tgt := 10) hx hb d_L_push_4 (by decide) ?_
    refine lv_iconst (pc := 10) (v := (0 : Int32)) hx hb d_L_push_10 (by decide) ?_
    cases hE
    exact xh_iret (pc := 11) hx hb hr hlk G ⟨by decide, by decide⟩ d_L_push_11
  · have hE := xs_er hE rfl
    by_cases he : ev3.1 = "java/lang/IllegalStateException"
    · have hE := xs_t hE he
      have hM := th_S_push l hlt D ad cs hJ hw1
      rw [he] at hM
      refine xt_callV (pc := 1) (as := []) X hM km_L_33 hT G (xs_wS ad cs _) rfl ⟨by decide, by decide⟩ ⟨by decide, by decide⟩ rfl hl.1 rfl (Nat.le_of_ble_eq_true rfl) d_L_push_1 (fun q4 ce H locs G hce hcv hcl => ?_)
      refine xt_catch1 X hT hexc (by decide) (by decide) wkL_31 wkc_31 hce hcv hcl ?_
      refine lv_astore_n (pc := 7) hx hb d_L_push_7 rfl hl (by decide) (lv' := [(1, .ref q4), (0, .ref (ad 0))]) rfl (fun ls hl => ?_)
      refine lv_iconst (pc := 8) (v := (1 : Int32)) hx hb d_L_push_8 (by decide) ?_
      cases hE
      exact xh_iret (pc := 9) hx hb hr hlk G ⟨by decide, by decide⟩ d_L_push_9
    · have hE := xs_f hE he
      cases hE
def fn_L_pop (μ0 : xs_M)  : Option (Int32 × xs_M) :=
  ((fn_S_pop μ0).bind fun w1 => Sum.elim (fun rv2 => some (((0 : Int32), rv2))) (fun ev3 => (if ev3.1 = "java/lang/IllegalStateException" then some (((1 : Int32), ev3.2)) else none)) w1)
set_option maxHeartbeats 4000000 in
set_option maxRecDepth 100000 in
theorem ok_L_pop (l : Launch) (hlt : l.stackTraces = false) (D : va_G) (ad : Nat → Nat) (cs : xs_cs) (hJ : xs_J ad) {μ0 : xs_M}   {rz : (Int32 × xs_M)} (hE : fn_L_pop μ0 = some rz) : xh_I l D ad cs y_L_pop b_L_pop 2 [(0, 4, 7, 31)] 7 110 [.ref (ad 0)] μ0 (some (.int rz.1)) rz.2 := by
  refine xh_entry hJ (by decide) (Nat.le_of_ble_eq_true rfl) ?_
  intro p e s m below meth c ls X hr hlk hexc hT G hl
  have X : xs_C p s m c b_L_pop 2 _ "ExactSceneLaw" := X
  have hx := X.1
  have hb := X.2.1
  have hl : lv_has ls 2 [(0, .ref (ad 0))] := hl
  unfold fn_L_pop at hE
  refine lv_aload_n (pc := 0) hx hb d_L_pop_0 rfl (lv_at hl 0 rfl) ?_
  obtain ⟨w1, hw1, hE⟩ := xs_b hE
  rcases w1 with rv2 | ev3
  · have hE := xs_el hE rfl
    refine xs_callVv (pc := 1) (as := []) X (ok_S_pop l D ad cs hJ hw1) km_L_36 G (xs_wS ad cs _) rfl ⟨by decide, by decide⟩ ⟨Nat.zero_le _, Nat.zero_le _⟩ rfl hl.1 rfl (Nat.le_of_ble_eq_true rfl) d_L_pop_1 (fun H locs G => ?_)
    refine lv_goto (pc := 4) (tgt := 10) hx hb d_L_pop_4 (by decide) ?_
    refine lv_iconst (pc := 10) (v := (0 : Int32)) hx hb d_L_pop_10 (by decide) ?_
    cases hE
    exact xh_iret (pc := 11) hx hb hr hlk G ⟨by decide, by decide⟩ d_L_pop_11
  · have hE := xs_er hE rfl
    by_cases he : ev3.1 = "java/lang/IllegalStateException"
    · have hE := xs_t hE he
      have hM := th_S_pop l hlt D ad cs hJ hw1
      rw [he] at hM
      refine xt_callV (pc := 1) (as := []) X hM km_L_36 hT G (xs_wS ad cs _) rfl ⟨by decide, by decide⟩ ⟨by decide, by decide⟩ rfl hl.1 rfl (Nat.le_of_ble_eq_true rfl) d_L_pop_1 (fun q4 ce H locs G hce hcv hcl => ?_)
      refine xt_catch1 X hT hexc (by decide) (by decide) wkL_31 wkc_31 hce hcv hcl ?_
      refine lv_astore_n (pc := 7) hx hb d_L_pop_7 rfl hl (by decide) (lv' := [(1, .ref q4), (0, .ref (ad 0))]) rfl (fun ls hl => ?_)
      refine lv_iconst (pc := 8) (v := (1 : Int32)) hx hb d_L_pop_8 (by decide) ?_
      cases hE
      exact xh_iret (pc := 9) hx hb hr hlk G ⟨by decide, by decide⟩ d_L_pop_9
    · have hE := xs_f hE he
      cases hE
def fn_L_entry (μ0 : xs_M) (x1 : Int32) (x2 : Int32) : Option (Int32 × xs_M) :=
  ((fn_S_entry μ0 x1 x2).bind fun w1 => Sum.elim (fun rv2 => ((some (xs_sl rv2.2 171 (0 : Int32).toNatClampNeg (rv2.1).toInt64)).bind fun μ4 => some (((0 : Int32), μ4)))) (fun ev3 => (if ev3.1 = "java/lang/IndexOutOfBoundsException" then some (((1 : Int32), ev3.2)) else none)) w1)
set_option maxHeartbeats 4000000 in
set_option maxRecDepth 100000 in
theorem ok_L_entry (l : Launch) (hlt : l.stackTraces = false) (D : va_G) (ad : Nat → Nat) (cs : xs_cs) (hJ : xs_J ad) {μ0 : xs_M} {x1 : Int32} {x2 : Int32}  {rz : (Int32 × xs_M)} (hE : fn_L_entry μ0 x1 x2 = some rz) : xh_I l D ad cs y_L_entry b_L_entry 5 [(0, 10, 13, 43)] 7 112 [.ref (ad 0), .int (x1), .int (x2), .ref (ad 171)] μ0 (some (.int rz.1)) rz.2 := by
  refine xh_entry hJ (by decide) (Nat.le_of_ble_eq_true rfl) ?_
  intro p e s m below meth c ls X hr hlk hexc hT G hl
  have X : xs_C p s m c b_L_entry 5 _ "ExactSceneLaw" := X
  have hx := X.1
  have hb := X.2.1
  have hl : lv_has ls 5 [(0, .ref (ad 0)), (1, .int (x1)), (2, .int (x2)), (3, .ref (ad 171))] := hl
  unfold fn_L_entry at hE
  refine lv_aload_n (pc := 0) hx hb d_L_entry_0 rfl (lv_at hl 3 rfl) ?_
  refine lv_iconst (pc := 1) (v := (0 : Int32)) hx hb d_L_entry_1 (by decide) ?_
  refine lv_aload_n (pc := 2) hx hb d_L_entry_2 rfl (lv_at hl 0 rfl) ?_
  refine lv_iload_n (pc := 3) hx hb d_L_entry_3 rfl (lv_at hl 1 rfl) ?_
  refine lv_iload_n (pc := 4) hx hb d_L_entry_4 rfl (lv_at hl 2 rfl) ?_
  obtain ⟨w1, hw1, hE⟩ := xs_b hE
  rcases w1 with rv2 | ev3
  · have hE := xs_el hE rfl
    refine xs_callVr (pc := 5) (as := [.int (x1), .int (x2)]) X (ok_S_entry l D ad cs hJ hw1) km_L_39 G (xs_wS ad cs _) rfl ⟨by decide, by decide⟩ ⟨Nat.zero_le _, Nat.zero_le _⟩ rfl hl.1 rfl (Nat.le_of_ble_eq_true rfl) d_L_entry_5 (fun H locs G => ?_)
    refine lv_i2l (pc := 8) hx hb d_L_entry_8 rfl ?_
    refine xs_last (pc := 9) hx hb G la_171 (xs_inP (by decide)) d_L_entry_9 (fun H locs G => ?_)
    obtain ⟨μ4, hμ4, hE⟩ := xs_b hE
    have G := xs_mv G hμ4
    clear hμ4
    refine lv_goto (pc := 10) (tgt := 17) hx hb d_L_entry_10 (by decide) ?_
    refine lv_iconst (pc := 17) (v := (0 : Int32)) hx hb d_L_entry_17 (by decide) ?_
    cases hE
    exact xh_iret (pc := 18) hx hb hr hlk G ⟨by decide, by decide⟩ d_L_entry_18
  · have hE := xs_er hE rfl
    by_cases he : ev3.1 = "java/lang/IndexOutOfBoundsException"
    · have hE := xs_t hE he
      have hM := th_S_entry l hlt D ad cs hJ hw1
      rw [he] at hM
      refine xt_callV (pc := 5) (as := [.int (x1), .int (x2)]) X hM km_L_39 hT G (xs_wS ad cs _) rfl ⟨by decide, by decide⟩ ⟨by decide, by decide⟩ rfl hl.1 rfl (Nat.le_of_ble_eq_true rfl) d_L_entry_5 (fun q5 ce H locs G hce hcv hcl => ?_)
      refine xt_catch1 X hT hexc (by decide) (by decide) wkL_43 wkc_43 hce hcv hcl ?_
      refine lv_astore (pc := 13) hx hb d_L_entry_13 hl (by decide) (lv' := [(4, .ref q5), (0, .ref (ad 0)), (1, .int (x1)), (2, .int (x2)), (3, .ref (ad 171))]) rfl (fun ls hl => ?_)
      refine lv_iconst (pc := 15) (v := (1 : Int32)) hx hb d_L_entry_15 (by decide) ?_
      cases hE
      exact xh_iret (pc := 16) hx hb hr hlk G ⟨by decide, by decide⟩ d_L_entry_16
    · have hE := xs_f hE he
      cases hE
def fn_L_vertex (μ0 : xs_M) (x1 : Int32) (x2 : Int32) (x3 : Int32) (x4 : Int32) (x5 : Int32) : Option (Int32 × xs_M) :=
  ((fn_S_vertex μ0 x1 x2 x3 x4 x5).bind fun w1 => Sum.elim (fun rv2 => ((some (xs_sl rv2.2 171 (0 : Int32).toNatClampNeg (rv2.1).toInt64)).bind fun μ4 => some (((0 : Int32), μ4)))) (fun ev3 => (if ev3.1 = "java/lang/IllegalArgumentException" then some (((1 : Int32), ev3.2)) else (if ev3.1 = "java/lang/IllegalStateException" then some (((2 : Int32), ev3.2)) else none))) w1)
set_option maxHeartbeats 4000000 in
set_option maxRecDepth 100000 in
theorem ok_L_vertex (l : Launch) (hlt : l.stackTraces = false) (D : va_G) (ad : Nat → Nat) (cs : xs_cs) (hJ : xs_J ad) {μ0 : xs_M} {x1 : Int32} {x2 : Int32} {x3 : Int32} {x4 : Int32} {x5 : Int32}  {rz : (Int32 × xs_M)} (hE : fn_L_vertex μ0 x1 x2 x3 x4 x5 = some rz) : xh_I l D ad cs y_L_vertex b_L_vertex 8 [(0, 16, 19, 13), (0, 16, 23, 31)] 7 120 [.ref (ad 0), .int (x1), .int (x2), .int (x3), .int (x4), .int (x5), .ref (ad 171)] μ0 (some (.int rz.1)) rz.2 := by
  refine xh_entry hJ (by decide) (Nat.le_of_ble_eq_true rfl) ?_
  intro p e s m below meth c ls X hr hlk hexc hT G hl
  have X : xs_C p s m c b_L_vertex 8 _ "ExactSceneLaw" := X
  have hx := X.1
  have hb := X.2.1
  have hl : lv_has ls 8 [(0, .ref (ad 0)), (1, .int (x1)), (2, .int (x2)), (3, .int (x3)), (4, .int (x4)), (5, .int (x5)), (6, .ref (ad 171))] := hl
  unfold fn_L_vertex at hE
  refine lv_aload (pc := 0) hx hb d_L_vertex_0 (lv_at hl 6 rfl) ?_
  refine lv_iconst (pc := 2) (v := (0 : Int32)) hx hb d_L_vertex_2 (by decide) ?_
  refine lv_aload_n (pc := 3) hx hb d_L_vertex_3 rfl (lv_at hl 0 rfl) ?_
  refine lv_iload_n (pc := 4) hx hb d_L_vertex_4 rfl (lv_at hl 1 rfl) ?_
  refine lv_iload_n (pc := 5) hx hb d_L_vertex_5 rfl (lv_at hl 2 rfl) ?_
  refine lv_iload_n (pc := 6) hx hb d_L_vertex_6 rfl (lv_at hl 3 rfl) ?_
  refine lv_iload (pc := 7) hx hb d_L_vertex_7 (lv_at hl 4 rfl) ?_
  refine lv_iload (pc := 9) hx hb d_L_vertex_9 (lv_at hl 5 rfl) ?_
  obtain ⟨w1, hw1, hE⟩ := xs_b hE
  rcases w1 with rv2 | ev3
  · have hE := xs_el hE rfl
    refine xs_callVr (pc := 11) (as := [.int (x1), .int (x2), .int (x3), .int (x4), .int (x5)]) X (ok_S_vertex l D ad cs hJ hw1) km_L_45 G (xs_wS ad cs _) rfl ⟨by decide, by decide⟩ ⟨Nat.zero_le _, Nat.zero_le _⟩ rfl hl.1 rfl (Nat.le_of_ble_eq_true rfl) d_L_vertex_11 (fun H locs G => ?_)
    refine lv_i2l (pc := 14) hx hb d_L_vertex_14 rfl ?_
    refine xs_last (pc := 15) hx hb G la_171 (xs_inP (by decide)) d_L_vertex_15 (fun H locs G => ?_)
    obtain ⟨μ4, hμ4, hE⟩ := xs_b hE
    have G := xs_mv G hμ4
    clear hμ4
    refine lv_goto (pc := 16) (tgt := 27) hx hb d_L_vertex_16 (by decide) ?_
    refine lv_iconst (pc := 27) (v := (0 : Int32)) hx hb d_L_vertex_27 (by decide) ?_
    cases hE
    exact xh_iret (pc := 28) hx hb hr hlk G ⟨by decide, by decide⟩ d_L_vertex_28
  · have hE := xs_er hE rfl
    by_cases he : ev3.1 = "java/lang/IllegalArgumentException"
    · have hE := xs_t hE he
      have hM := th_S_vertex l hlt D ad cs hJ hw1
      rw [he] at hM
      refine xt_callV (pc := 11) (as := [.int (x1), .int (x2), .int (x3), .int (x4), .int (x5)]) X hM km_L_45 hT G (xs_wS ad cs _) rfl ⟨by decide, by decide⟩ ⟨by decide, by decide⟩ rfl hl.1 rfl (Nat.le_of_ble_eq_true rfl) d_L_vertex_11 (fun q6 ce H locs G hce hcv hcl => ?_)
      refine xt_catch1 X hT hexc (by decide) (by decide) wkL_13 wkc_13 hce hcv hcl ?_
      refine lv_astore (pc := 19) hx hb d_L_vertex_19 hl (by decide) (lv' := [(7, .ref q6), (0, .ref (ad 0)), (1, .int (x1)), (2, .int (x2)), (3, .int (x3)), (4, .int (x4)), (5, .int (x5)), (6, .ref (ad 171))]) rfl (fun ls hl => ?_)
      refine lv_iconst (pc := 21) (v := (1 : Int32)) hx hb d_L_vertex_21 (by decide) ?_
      cases hE
      exact xh_iret (pc := 22) hx hb hr hlk G ⟨by decide, by decide⟩ d_L_vertex_22
    · have hE := xs_f hE he
      by_cases he : ev3.1 = "java/lang/IllegalStateException"
      · have hE := xs_t hE he
        have hM := th_S_vertex l hlt D ad cs hJ hw1
        rw [he] at hM
        refine xt_callV (pc := 11) (as := [.int (x1), .int (x2), .int (x3), .int (x4), .int (x5)]) X hM km_L_45 hT G (xs_wS ad cs _) rfl ⟨by decide, by decide⟩ ⟨by decide, by decide⟩ rfl hl.1 rfl (Nat.le_of_ble_eq_true rfl) d_L_vertex_11 (fun q5 ce H locs G hce hcv hcl => ?_)
        refine xt_catch2 X hT hexc (by decide) (by decide) (by decide) (by decide) wkL_13 (by decide) wkL_31 wkc_31 hce hcv hcl ?_
        refine lv_astore (pc := 23) hx hb d_L_vertex_23 hl (by decide) (lv' := [(7, .ref q5), (0, .ref (ad 0)), (1, .int (x1)), (2, .int (x2)), (3, .int (x3)), (4, .int (x4)), (5, .int (x5)), (6, .ref (ad 171))]) rfl (fun ls hl => ?_)
        refine lv_iconst (pc := 25) (v := (2 : Int32)) hx hb d_L_vertex_25 (by decide) ?_
        cases hE
        exact xh_iret (pc := 26) hx hb hr hlk G ⟨by decide, by decide⟩ d_L_vertex_26
      · have hE := xs_f hE he
        cases hE
def fn_L_texel (μ0 : xs_M) (x1 : Int32) (x2 : Int32) (x3 : Int32) (x4 : Int32) : Option (Int32 × xs_M) :=
  ((fn_S_texel μ0 x1 x2 x3 x4).bind fun w1 => Sum.elim (fun rv2 => ((some (xs_sl rv2.2 171 (0 : Int32).toNatClampNeg (rv2.1).toInt64)).bind fun μ4 => some (((0 : Int32), μ4)))) (fun ev3 => (if ev3.1 = "java/lang/IndexOutOfBoundsException" then some (((1 : Int32), ev3.2)) else none)) w1)
set_option maxHeartbeats 4000000 in
set_option maxRecDepth 100000 in
theorem ok_L_texel (l : Launch) (hlt : l.stackTraces = false) (D : va_G) (ad : Nat → Nat) (cs : xs_cs) (hJ : xs_J ad) {μ0 : xs_M} {x1 : Int32} {x2 : Int32} {x3 : Int32} {x4 : Int32}  {rz : (Int32 × xs_M)} (hE : fn_L_texel μ0 x1 x2 x3 x4 = some rz) : xh_I l D ad cs y_L_texel b_L_texel 7 [(0, 14, 17, 43)] 7 114 [.ref (ad 0), .int (x1), .int (x2), .int (x3), .int (x4), .ref (ad 171)] μ0 (some (.int rz.1)) rz.2 := by
  refine xh_entry hJ (by decide) (Nat.le_of_ble_eq_true rfl) ?_
  intro p e s m below meth c ls X hr hlk hexc hT G hl
  have X : xs_C p s m c b_L_texel 7 _ "ExactSceneLaw" := X
  have hx := X.1
  have hb := X.2.1
  have hl : lv_has ls 7 [(0, .ref (ad 0)), (1, .int (x1)), (2, .int (x2)), (3, .int (x3)), (4, .int (x4)), (5, .ref (ad 171))] := hl
  unfold fn_L_texel at hE
  refine lv_aload (pc := 0) hx hb d_L_texel_0 (lv_at hl 5 rfl) ?_
  refine lv_iconst (pc := 2) (v := (0 : Int32)) hx hb d_L_texel_2 (by decide) ?_
  refine lv_aload_n (pc := 3) hx hb d_L_texel_3 rfl (lv_at hl 0 rfl) ?_
  refine lv_iload_n (pc := 4) hx hb d_L_texel_4 rfl (lv_at hl 1 rfl) ?_
  refine lv_iload_n (pc := 5) hx hb d_L_texel_5 rfl (lv_at hl 2 rfl) ?_
  refine lv_iload_n (pc := 6) hx hb d_L_texel_6 rfl (lv_at hl 3 rfl) ?_
  refine lv_iload (pc := 7) hx hb d_L_texel_7 (lv_at hl 4 rfl) ?_
  obtain ⟨w1, hw1, hE⟩ := xs_b hE
  rcases w1 with rv2 | ev3
  · have hE := xs_el hE rfl
    refine xs_callVr (pc := 9) (as := [.int (x1), .int (x2), .int (x3), .int (x4)]) X (ok_S_texel l D ad cs hJ hw1) km_L_49 G (xs_wS ad cs _) rfl ⟨by decide, by decide⟩ ⟨Nat.zero_le _, Nat.zero_le _⟩ rfl hl.1 rfl (Nat.le_of_ble_eq_true rfl) d_L_texel_9 (fun H locs G => ?_)
    refine lv_i2l (pc := 12) hx hb d_L_texel_12 rfl ?_
    refine xs_last (pc := 13) hx hb G la_171 (xs_inP (by decide)) d_L_texel_13 (fun H locs G => ?_)
    obtain ⟨μ4, hμ4, hE⟩ := xs_b hE
    have G := xs_mv G hμ4
    clear hμ4
    refine lv_goto (pc := 14) (tgt := 21) hx hb d_L_texel_14 (by decide) ?_
    refine lv_iconst (pc := 21) (v := (0 : Int32)) hx hb d_L_texel_21 (by decide) ?_
    cases hE
    exact xh_iret (pc := 22) hx hb hr hlk G ⟨by decide, by decide⟩ d_L_texel_22
  · have hE := xs_er hE rfl
    by_cases he : ev3.1 = "java/lang/IndexOutOfBoundsException"
    · have hE := xs_t hE he
      have hM := th_S_texel l hlt D ad cs hJ hw1
      rw [he] at hM
      refine xt_callV (pc := 9) (as := [.int (x1), .int (x2), .int (x3), .int (x4)]) X hM km_L_49 hT G (xs_wS ad cs _) rfl ⟨by decide, by decide⟩ ⟨by decide, by decide⟩ rfl hl.1 rfl (Nat.le_of_ble_eq_true rfl) d_L_texel_9 (fun q5 ce H locs G hce hcv hcl => ?_)
      refine xt_catch1 X hT hexc (by decide) (by decide) wkL_43 wkc_43 hce hcv hcl ?_
      refine lv_astore (pc := 17) hx hb d_L_texel_17 hl (by decide) (lv' := [(6, .ref q5), (0, .ref (ad 0)), (1, .int (x1)), (2, .int (x2)), (3, .int (x3)), (4, .int (x4)), (5, .ref (ad 171))]) rfl (fun ls hl => ?_)
      refine lv_iconst (pc := 19) (v := (1 : Int32)) hx hb d_L_texel_19 (by decide) ?_
      cases hE
      exact xh_iret (pc := 20) hx hb hr hlk G ⟨by decide, by decide⟩ d_L_texel_20
    · have hE := xs_f hE he
      cases hE
def fn_L_colour (μ0 : xs_M) (x1 : Int32) (x2 : Int32) : Option (Int32 × xs_M) :=
  ((fn_S_colour μ0 x1 x2).bind fun w1 => Sum.elim (fun rv2 => ((some (xs_sl rv2.2 171 (0 : Int32).toNatClampNeg (rv2.1).toInt64)).bind fun μ4 => some (((0 : Int32), μ4)))) (fun ev3 => (if ev3.1 = "java/lang/IndexOutOfBoundsException" then some (((1 : Int32), ev3.2)) else none)) w1)
set_option maxHeartbeats 4000000 in
set_option maxRecDepth 100000 in
theorem ok_L_colour (l : Launch) (hlt : l.stackTraces = false) (D : va_G) (ad : Nat → Nat) (cs : xs_cs) (hJ : xs_J ad) {μ0 : xs_M} {x1 : Int32} {x2 : Int32}  {rz : (Int32 × xs_M)} (hE : fn_L_colour μ0 x1 x2 = some rz) : xh_I l D ad cs y_L_colour b_L_colour 5 [(0, 10, 13, 43)] 7 112 [.ref (ad 0), .int (x1), .int (x2), .ref (ad 171)] μ0 (some (.int rz.1)) rz.2 := by
  refine xh_entry hJ (by decide) (Nat.le_of_ble_eq_true rfl) ?_
  intro p e s m below meth c ls X hr hlk hexc hT G hl
  have X : xs_C p s m c b_L_colour 5 _ "ExactSceneLaw" := X
  have hx := X.1
  have hb := X.2.1
  have hl : lv_has ls 5 [(0, .ref (ad 0)), (1, .int (x1)), (2, .int (x2)), (3, .ref (ad 171))] := hl
  unfold fn_L_colour at hE
  refine lv_aload_n (pc := 0) hx hb d_L_colour_0 rfl (lv_at hl 3 rfl) ?_
  refine lv_iconst (pc := 1) (v := (0 : Int32)) hx hb d_L_colour_1 (by decide) ?_
  refine lv_aload_n (pc := 2) hx hb d_L_colour_2 rfl (lv_at hl 0 rfl) ?_
  refine lv_iload_n (pc := 3) hx hb d_L_colour_3 rfl (lv_at hl 1 rfl) ?_
  refine lv_iload_n (pc := 4) hx hb d_L_colour_4 rfl (lv_at hl 2 rfl) ?_
  obtain ⟨w1, hw1, hE⟩ := xs_b hE
  rcases w1 with rv2 | ev3
  · have hE := xs_el hE rfl
    refine xs_callVr (pc := 5) (as := [.int (x1), .int (x2)]) X (ok_S_colour l D ad cs hJ hw1) km_L_53 G (xs_wS ad cs _) rfl ⟨by decide, by decide⟩ ⟨Nat.zero_le _, Nat.zero_le _⟩ rfl hl.1 rfl (Nat.le_of_ble_eq_true rfl) d_L_colour_5 (fun H locs G => ?_)
    refine lv_i2l (pc := 8) hx hb d_L_colour_8 rfl ?_
    refine xs_last (pc := 9) hx hb G la_171 (xs_inP (by decide)) d_L_colour_9 (fun H locs G => ?_)
    obtain ⟨μ4, hμ4, hE⟩ := xs_b hE
    have G := xs_mv G hμ4
    clear hμ4
    refine lv_goto (pc := 10) (tgt := 17) hx hb d_L_colour_10 (by decide) ?_
    refine lv_iconst (pc := 17) (v := (0 : Int32)) hx hb d_L_colour_17 (by decide) ?_
    cases hE
    exact xh_iret (pc := 18) hx hb hr hlk G ⟨by decide, by decide⟩ d_L_colour_18
  · have hE := xs_er hE rfl
    by_cases he : ev3.1 = "java/lang/IndexOutOfBoundsException"
    · have hE := xs_t hE he
      have hM := th_S_colour l hlt D ad cs hJ hw1
      rw [he] at hM
      refine xt_callV (pc := 5) (as := [.int (x1), .int (x2)]) X hM km_L_53 hT G (xs_wS ad cs _) rfl ⟨by decide, by decide⟩ ⟨by decide, by decide⟩ rfl hl.1 rfl (Nat.le_of_ble_eq_true rfl) d_L_colour_5 (fun q5 ce H locs G hce hcv hcl => ?_)
      refine xt_catch1 X hT hexc (by decide) (by decide) wkL_43 wkc_43 hce hcv hcl ?_
      refine lv_astore (pc := 13) hx hb d_L_colour_13 hl (by decide) (lv' := [(4, .ref q5), (0, .ref (ad 0)), (1, .int (x1)), (2, .int (x2)), (3, .ref (ad 171))]) rfl (fun ls hl => ?_)
      refine lv_iconst (pc := 15) (v := (1 : Int32)) hx hb d_L_colour_15 (by decide) ?_
      cases hE
      exact xh_iret (pc := 16) hx hb hr hlk G ⟨by decide, by decide⟩ d_L_colour_16
    · have hE := xs_f hE he
      cases hE
def fn_L_owner (μ0 : xs_M) (x1 : Int32) (x2 : Int32) : Option (Int32 × xs_M) :=
  ((fn_S_owner μ0 x1 x2).bind fun w1 => Sum.elim (fun rv2 => ((some (xs_sl rv2.2 171 (0 : Int32).toNatClampNeg (rv2.1).toInt64)).bind fun μ4 => some (((0 : Int32), μ4)))) (fun ev3 => (if ev3.1 = "java/lang/IndexOutOfBoundsException" then some (((1 : Int32), ev3.2)) else none)) w1)
set_option maxHeartbeats 4000000 in
set_option maxRecDepth 100000 in
theorem ok_L_owner (l : Launch) (hlt : l.stackTraces = false) (D : va_G) (ad : Nat → Nat) (cs : xs_cs) (hJ : xs_J ad) {μ0 : xs_M} {x1 : Int32} {x2 : Int32}  {rz : (Int32 × xs_M)} (hE : fn_L_owner μ0 x1 x2 = some rz) : xh_I l D ad cs y_L_owner b_L_owner 5 [(0, 10, 13, 43)] 7 112 [.ref (ad 0), .int (x1), .int (x2), .ref (ad 171)] μ0 (some (.int rz.1)) rz.2 := by
  refine xh_entry hJ (by decide) (Nat.le_of_ble_eq_true rfl) ?_
  intro p e s m below meth c ls X hr hlk hexc hT G hl
  have X : xs_C p s m c b_L_owner 5 _ "ExactSceneLaw" := X
  have hx := X.1
  have hb := X.2.1
  have hl : lv_has ls 5 [(0, .ref (ad 0)), (1, .int (x1)), (2, .int (x2)), (3, .ref (ad 171))] := hl
  unfold fn_L_owner at hE
  refine lv_aload_n (pc := 0) hx hb d_L_owner_0 rfl (lv_at hl 3 rfl) ?_
  refine lv_iconst (pc := 1) (v := (0 : Int32)) hx hb d_L_owner_1 (by decide) ?_
  refine lv_aload_n (pc := 2) hx hb d_L_owner_2 rfl (lv_at hl 0 rfl) ?_
  refine lv_iload_n (pc := 3) hx hb d_L_owner_3 rfl (lv_at hl 1 rfl) ?_
  refine lv_iload_n (pc := 4) hx hb d_L_owner_4 rfl (lv_at hl 2 rfl) ?_
  obtain ⟨w1, hw1, hE⟩ := xs_b hE
  rcases w1 with rv2 | ev3
  · have hE := xs_el hE rfl
    refine xs_callVr (pc := 5) (as := [.int (x1), .int (x2)]) X (ok_S_owner l D ad cs hJ hw1) km_L_56 G (xs_wS ad cs _) rfl ⟨by decide, by decide⟩ ⟨Nat.zero_le _, Nat.zero_le _⟩ rfl hl.1 rfl (Nat.le_of_ble_eq_true rfl) d_L_owner_5 (fun H locs G => ?_)
    refine lv_i2l (pc := 8) hx hb d_L_owner_8 rfl ?_
    refine xs_last (pc := 9) hx hb G la_171 (xs_inP (by decide)) d_L_owner_9 (fun H locs G => ?_)
    obtain ⟨μ4, hμ4, hE⟩ := xs_b hE
    have G := xs_mv G hμ4
    clear hμ4
    refine lv_goto (pc := 10) (tgt := 17) hx hb d_L_owner_10 (by decide) ?_
    refine lv_iconst (pc := 17) (v := (0 : Int32)) hx hb d_L_owner_17 (by decide) ?_
    cases hE
    exact xh_iret (pc := 18) hx hb hr hlk G ⟨by decide, by decide⟩ d_L_owner_18
  · have hE := xs_er hE rfl
    by_cases he : ev3.1 = "java/lang/IndexOutOfBoundsException"
    · have hE := xs_t hE he
      have hM := th_S_owner l hlt D ad cs hJ hw1
      rw [he] at hM
      refine xt_callV (pc := 5) (as := [.int (x1), .int (x2)]) X hM km_L_56 hT G (xs_wS ad cs _) rfl ⟨by decide, by decide⟩ ⟨by decide, by decide⟩ rfl hl.1 rfl (Nat.le_of_ble_eq_true rfl) d_L_owner_5 (fun q5 ce H locs G hce hcv hcl => ?_)
      refine xt_catch1 X hT hexc (by decide) (by decide) wkL_43 wkc_43 hce hcv hcl ?_
      refine lv_astore (pc := 13) hx hb d_L_owner_13 hl (by decide) (lv' := [(4, .ref q5), (0, .ref (ad 0)), (1, .int (x1)), (2, .int (x2)), (3, .ref (ad 171))]) rfl (fun ls hl => ?_)
      refine lv_iconst (pc := 15) (v := (1 : Int32)) hx hb d_L_owner_15 (by decide) ?_
      cases hE
      exact xh_iret (pc := 16) hx hb hr hlk G ⟨by decide, by decide⟩ d_L_owner_16
    · have hE := xs_f hE he
      cases hE
def fn_L_compare (μ0 : xs_M) (x1 : Int32) (x2 : Int32) (x3 : Int32) (x4 : Int32) : Option (Int32 × xs_M) :=
  ((fn_S_compare μ0 x1 x2 x3 x4).bind fun w1 => Sum.elim (fun rv2 => ((some (xs_sl rv2.2 171 (0 : Int32).toNatClampNeg (rv2.1).toInt64)).bind fun μ4 => some (((0 : Int32), μ4)))) (fun ev3 => (if ev3.1 = "java/lang/IndexOutOfBoundsException" then some (((1 : Int32), ev3.2)) else (if ev3.1 = "java/lang/IllegalStateException" then some (((2 : Int32), ev3.2)) else none))) w1)
set_option maxHeartbeats 4000000 in
set_option maxRecDepth 100000 in
theorem ok_L_compare (l : Launch) (hlt : l.stackTraces = false) (D : va_G) (ad : Nat → Nat) (cs : xs_cs) (hJ : xs_J ad) {μ0 : xs_M} {x1 : Int32} {x2 : Int32} {x3 : Int32} {x4 : Int32}  {rz : (Int32 × xs_M)} (hE : fn_L_compare μ0 x1 x2 x3 x4 = some rz) : xh_I l D ad cs y_L_compare b_L_compare 7 [(0, 14, 17, 43), (0, 14, 21, 31)] 7 116 [.ref (ad 0), .int (x1), .int (x2), .int (x3), .int (x4), .ref (ad 171)] μ0 (some (.int rz.1)) rz.2 := by
  refine xh_entry hJ (by decide) (Nat.le_of_ble_eq_true rfl) ?_
  intro p e s m below meth c ls X hr hlk hexc hT G hl
  have X : xs_C p s m c b_L_compare 7 _ "ExactSceneLaw" := X
  have hx := X.1
  have hb := X.2.1
  have hl : lv_has ls 7 [(0, .ref (ad 0)), (1, .int (x1)), (2, .int (x2)), (3, .int (x3)), (4, .int (x4)), (5, .ref (ad 171))] := hl
  unfold fn_L_compare at hE
  refine lv_aload (pc := 0) hx hb d_L_compare_0 (lv_at hl 5 rfl) ?_
  refine lv_iconst (pc := 2) (v := (0 : Int32)) hx hb d_L_compare_2 (by decide) ?_
  refine lv_aload_n (pc := 3) hx hb d_L_compare_3 rfl (lv_at hl 0 rfl) ?_
  refine lv_iload_n (pc := 4) hx hb d_L_compare_4 rfl (lv_at hl 1 rfl) ?_
  refine lv_iload_n (pc := 5) hx hb d_L_compare_5 rfl (lv_at hl 2 rfl) ?_
  refine lv_iload_n (pc := 6) hx hb d_L_compare_6 rfl (lv_at hl 3 rfl) ?_
  refine lv_iload (pc := 7) hx hb d_L_compare_7 (lv_at hl 4 rfl) ?_
  obtain ⟨w1, hw1, hE⟩ := xs_b hE
  rcases w1 with rv2 | ev3
  · have hE := xs_el hE rfl
    refine xs_callVr (pc := 9) (as := [.int (x1), .int (x2), .int (x3), .int (x4)]) X (ok_S_compare l D ad cs hJ hw1) km_L_59 G (xs_wS ad cs _) rfl ⟨by decide, by decide⟩ ⟨Nat.zero_le _, Nat.zero_le _⟩ rfl hl.1 rfl (Nat.le_of_ble_eq_true rfl) d_L_compare_9 (fun H locs G => ?_)
    refine lv_i2l (pc := 12) hx hb d_L_compare_12 rfl ?_
    refine xs_last (pc := 13) hx hb G la_171 (xs_inP (by decide)) d_L_compare_13 (fun H locs G => ?_)
    obtain ⟨μ4, hμ4, hE⟩ := xs_b hE
    have G := xs_mv G hμ4
    clear hμ4
    refine lv_goto (pc := 14) (tgt := 25) hx hb d_L_compare_14 (by decide) ?_
    refine lv_iconst (pc := 25) (v := (0 : Int32)) hx hb d_L_compare_25 (by decide) ?_
    cases hE
    exact xh_iret (pc := 26) hx hb hr hlk G ⟨by decide, by decide⟩ d_L_compare_26
  · have hE := xs_er hE rfl
    by_cases he : ev3.1 = "java/lang/IndexOutOfBoundsException"
    · have hE := xs_t hE he
      have hM := th_S_compare l hlt D ad cs hJ hw1
      rw [he] at hM
      refine xt_callV (pc := 9) (as := [.int (x1), .int (x2), .int (x3), .int (x4)]) X hM km_L_59 hT G (xs_wS ad cs _) rfl ⟨by decide, by decide⟩ ⟨by decide, by decide⟩ rfl hl.1 rfl (Nat.le_of_ble_eq_true rfl) d_L_compare_9 (fun q6 ce H locs G hce hcv hcl => ?_)
      refine xt_catch1 X hT hexc (by decide) (by decide) wkL_43 wkc_43 hce hcv hcl ?_
      refine lv_astore (pc := 17) hx hb d_L_compare_17 hl (by decide) (lv' := [(6, .ref q6), (0, .ref (ad 0)), (1, .int (x1)), (2, .int (x2)), (3, .int (x3)), (4, .int (x4)), (5, .ref (ad 171))]) rfl (fun ls hl => ?_)
      refine lv_iconst (pc := 19) (v := (1 : Int32)) hx hb d_L_compare_19 (by decide) ?_
      cases hE
      exact xh_iret (pc := 20) hx hb hr hlk G ⟨by decide, by decide⟩ d_L_compare_20
    · have hE := xs_f hE he
      by_cases he : ev3.1 = "java/lang/IllegalStateException"
      · have hE := xs_t hE he
        have hM := th_S_compare l hlt D ad cs hJ hw1
        rw [he] at hM
        refine xt_callV (pc := 9) (as := [.int (x1), .int (x2), .int (x3), .int (x4)]) X hM km_L_59 hT G (xs_wS ad cs _) rfl ⟨by decide, by decide⟩ ⟨by decide, by decide⟩ rfl hl.1 rfl (Nat.le_of_ble_eq_true rfl) d_L_compare_9 (fun q5 ce H locs G hce hcv hcl => ?_)
        refine xt_catch2 X hT hexc (by decide) (by decide) (by decide) (by decide) wkL_43 (by decide) wkL_31 wkc_31 hce hcv hcl ?_
        refine lv_astore (pc := 21) hx hb d_L_compare_21 hl (by decide) (lv' := [(6, .ref q5), (0, .ref (ad 0)), (1, .int (x1)), (2, .int (x2)), (3, .int (x3)), (4, .int (x4)), (5, .ref (ad 171))]) rfl (fun ls hl => ?_)
        refine lv_iconst (pc := 23) (v := (2 : Int32)) hx hb d_L_compare_23 (by decide) ?_
        cases hE
        exact xh_iret (pc := 24) hx hb hr hlk G ⟨by decide, by decide⟩ d_L_compare_24
      · have hE := xs_f hE he
        cases hE
def fn_L_depth (μ0 : xs_M) (x1 : Int32) (x2 : Int32) : Option (Int32 × xs_M) :=
  ((fn_S_depth μ0 x1 x2).bind fun w1 => Sum.elim (fun rv2 => ((some (xs_sl rv2.2 171 (0 : Int32).toNatClampNeg (rv2.1))).bind fun μ4 => some (((0 : Int32), μ4)))) (fun ev3 => (if ev3.1 = "java/lang/IndexOutOfBoundsException" then some (((1 : Int32), ev3.2)) else (if ev3.1 = "java/lang/IllegalStateException" then some (((2 : Int32), ev3.2)) else none))) w1)
set_option maxHeartbeats 4000000 in
set_option maxRecDepth 100000 in
theorem ok_L_depth (l : Launch) (hlt : l.stackTraces = false) (D : va_G) (ad : Nat → Nat) (cs : xs_cs) (hJ : xs_J ad) {μ0 : xs_M} {x1 : Int32} {x2 : Int32}  {rz : (Int32 × xs_M)} (hE : fn_L_depth μ0 x1 x2 = some rz) : xh_I l D ad cs y_L_depth b_L_depth 5 [(0, 9, 12, 43), (0, 9, 16, 31)] 7 113 [.ref (ad 0), .int (x1), .int (x2), .ref (ad 171)] μ0 (some (.int rz.1)) rz.2 := by
  refine xh_entry hJ (by decide) (Nat.le_of_ble_eq_true rfl) ?_
  intro p e s m below meth c ls X hr hlk hexc hT G hl
  have X : xs_C p s m c b_L_depth 5 _ "ExactSceneLaw" := X
  have hx := X.1
  have hb := X.2.1
  have hl : lv_has ls 5 [(0, .ref (ad 0)), (1, .int (x1)), (2, .int (x2)), (3, .ref (ad 171))] := hl
  unfold fn_L_depth at hE
  refine lv_aload_n (pc := 0) hx hb d_L_depth_0 rfl (lv_at hl 3 rfl) ?_
  refine lv_iconst (pc := 1) (v := (0 : Int32)) hx hb d_L_depth_1 (by decide) ?_
  refine lv_aload_n (pc := 2) hx hb d_L_depth_2 rfl (lv_at hl 0 rfl) ?_
  refine lv_iload_n (pc := 3) hx hb d_L_depth_3 rfl (lv_at hl 1 rfl) ?_
  refine lv_iload_n (pc := 4) hx hb d_L_depth_4 rfl (lv_at hl 2 rfl) ?_
  obtain ⟨w1, hw1, hE⟩ := xs_b hE
  rcases w1 with rv2 | ev3
  · have hE := xs_el hE rfl
    refine xs_callVr (pc := 5) (as := [.int (x1), .int (x2)]) X (ok_S_depth l D ad cs hJ hw1) km_L_62 G (xs_wS ad cs _) rfl ⟨by decide, by decide⟩ ⟨Nat.zero_le _, Nat.zero_le _⟩ rfl hl.1 rfl (Nat.le_of_ble_eq_true rfl) d_L_depth_5 (fun H locs G => ?_)
    refine xs_last (pc := 8) hx hb G la_171 (xs_inP (by decide)) d_L_depth_8 (fun H locs G => ?_)
    obtain ⟨μ4, hμ4, hE⟩ := xs_b hE
    have G := xs_mv G hμ4
    clear hμ4
    refine lv_goto (pc := 9) (tgt := 20) hx hb d_L_depth_9 (by decide) ?_
    refine lv_iconst (pc := 20) (v := (0 : Int32)) hx hb d_L_depth_20 (by decide) ?_
    cases hE
    exact xh_iret (pc := 21) hx hb hr hlk G ⟨by decide, by decide⟩ d_L_depth_21
  · have hE := xs_er hE rfl
    by_cases he : ev3.1 = "java/lang/IndexOutOfBoundsException"
    · have hE := xs_t hE he
      have hM := th_S_depth l hlt D ad cs hJ hw1
      rw [he] at hM
      refine xt_callV (pc := 5) (as := [.int (x1), .int (x2)]) X hM km_L_62 hT G (xs_wS ad cs _) rfl ⟨by decide, by decide⟩ ⟨by decide, by decide⟩ rfl hl.1 rfl (Nat.le_of_ble_eq_true rfl) d_L_depth_5 (fun q6 ce H locs G hce hcv hcl => ?_)
      refine xt_catch1 X hT hexc (by decide) (by decide) wkL_43 wkc_43 hce hcv hcl ?_
      refine lv_astore (pc := 12) hx hb d_L_depth_12 hl (by decide) (lv' := [(4, .ref q6), (0, .ref (ad 0)), (1, .int (x1)), (2, .int (x2)), (3, .ref (ad 171))]) rfl (fun ls hl => ?_)
      refine lv_iconst (pc := 14) (v := (1 : Int32)) hx hb d_L_depth_14 (by decide) ?_
      cases hE
      exact xh_iret (pc := 15) hx hb hr hlk G ⟨by decide, by decide⟩ d_L_depth_15
    · have hE := xs_f hE he
      by_cases he : ev3.1 = "java/lang/IllegalStateException"
      · have hE := xs_t hE he
        have hM := th_S_depth l hlt D ad cs hJ hw1
        rw [he] at hM
        refine xt_callV (pc := 5) (as := [.int (x1), .int (x2)]) X hM km_L_62 hT G (xs_wS ad cs _) rfl ⟨by decide, by decide⟩ ⟨by decide, by decide⟩ rfl hl.1 rfl (Nat.le_of_ble_eq_true rfl) d_L_depth_5 (fun q5 ce H locs G hce hcv hcl => ?_)
        refine xt_catch2 X hT hexc (by decide) (by decide) (by decide) (by decide) wkL_43 (by decide) wkL_31 wkc_31 hce hcv hcl ?_
        refine lv_astore (pc := 16) hx hb d_L_depth_16 hl (by decide) (lv' := [(4, .ref q5), (0, .ref (ad 0)), (1, .int (x1)), (2, .int (x2)), (3, .ref (ad 171))]) rfl (fun ls hl => ?_)
        refine lv_iconst (pc := 18) (v := (2 : Int32)) hx hb d_L_depth_18 (by decide) ?_
        cases hE
        exact xh_iret (pc := 19) hx hb hr hlk G ⟨by decide, by decide⟩ d_L_depth_19
      · have hE := xs_f hE he
        cases hE
def fn_L_triangle (μ0 : xs_M) (x1 : Int32) (x2 : Int32) : Option (Int32 × xs_M) :=
  ((fn_S_triangle μ0 x1 x2).bind fun w1 => Sum.elim (fun rv2 => ((some (xs_sl rv2.2 171 (0 : Int32).toNatClampNeg (rv2.1))).bind fun μ4 => some (((0 : Int32), μ4)))) (fun ev3 => (if ev3.1 = "java/lang/IndexOutOfBoundsException" then some (((1 : Int32), ev3.2)) else none)) w1)
set_option maxHeartbeats 4000000 in
set_option maxRecDepth 100000 in
theorem ok_L_triangle (l : Launch) (hlt : l.stackTraces = false) (D : va_G) (ad : Nat → Nat) (cs : xs_cs) (hJ : xs_J ad) {μ0 : xs_M} {x1 : Int32} {x2 : Int32}  {rz : (Int32 × xs_M)} (hE : fn_L_triangle μ0 x1 x2 = some rz) : xh_I l D ad cs y_L_triangle b_L_triangle 5 [(0, 9, 12, 43)] 7 112 [.ref (ad 0), .int (x1), .int (x2), .ref (ad 171)] μ0 (some (.int rz.1)) rz.2 := by
  refine xh_entry hJ (by decide) (Nat.le_of_ble_eq_true rfl) ?_
  intro p e s m below meth c ls X hr hlk hexc hT G hl
  have X : xs_C p s m c b_L_triangle 5 _ "ExactSceneLaw" := X
  have hx := X.1
  have hb := X.2.1
  have hl : lv_has ls 5 [(0, .ref (ad 0)), (1, .int (x1)), (2, .int (x2)), (3, .ref (ad 171))] := hl
  unfold fn_L_triangle at hE
  refine lv_aload_n (pc := 0) hx hb d_L_triangle_0 rfl (lv_at hl 3 rfl) ?_
  refine lv_iconst (pc := 1) (v := (0 : Int32)) hx hb d_L_triangle_1 (by decide) ?_
  refine lv_aload_n (pc := 2) hx hb d_L_triangle_2 rfl (lv_at hl 0 rfl) ?_
  refine lv_iload_n (pc := 3) hx hb d_L_triangle_3 rfl (lv_at hl 1 rfl) ?_
  refine lv_iload_n (pc := 4) hx hb d_L_triangle_4 rfl (lv_at hl 2 rfl) ?_
  obtain ⟨w1, hw1, hE⟩ := xs_b hE
  rcases w1 with rv2 | ev3
  · have hE := xs_el hE rfl
    refine xs_callVr (pc := 5) (as := [.int (x1), .int (x2)]) X (ok_S_triangle l D ad cs hJ hw1) km_L_66 G (xs_wS ad cs _) rfl ⟨by decide, by decide⟩ ⟨Nat.zero_le _, Nat.zero_le _⟩ rfl hl.1 rfl (Nat.le_of_ble_eq_true rfl) d_L_triangle_5 (fun H locs G => ?_)
    refine xs_last (pc := 8) hx hb G la_171 (xs_inP (by decide)) d_L_triangle_8 (fun H locs G => ?_)
    obtain ⟨μ4, hμ4, hE⟩ := xs_b hE
    have G := xs_mv G hμ4
    clear hμ4
    refine lv_goto (pc := 9) (tgt := 16) hx hb d_L_triangle_9 (by decide) ?_
    refine lv_iconst (pc := 16) (v := (0 : Int32)) hx hb d_L_triangle_16 (by decide) ?_
    cases hE
    exact xh_iret (pc := 17) hx hb hr hlk G ⟨by decide, by decide⟩ d_L_triangle_17
  · have hE := xs_er hE rfl
    by_cases he : ev3.1 = "java/lang/IndexOutOfBoundsException"
    · have hE := xs_t hE he
      have hM := th_S_triangle l hlt D ad cs hJ hw1
      rw [he] at hM
      refine xt_callV (pc := 5) (as := [.int (x1), .int (x2)]) X hM km_L_66 hT G (xs_wS ad cs _) rfl ⟨by decide, by decide⟩ ⟨by decide, by decide⟩ rfl hl.1 rfl (Nat.le_of_ble_eq_true rfl) d_L_triangle_5 (fun q5 ce H locs G hce hcv hcl => ?_)
      refine xt_catch1 X hT hexc (by decide) (by decide) wkL_43 wkc_43 hce hcv hcl ?_
      refine lv_astore (pc := 12) hx hb d_L_triangle_12 hl (by decide) (lv' := [(4, .ref q5), (0, .ref (ad 0)), (1, .int (x1)), (2, .int (x2)), (3, .ref (ad 171))]) rfl (fun ls hl => ?_)
      refine lv_iconst (pc := 14) (v := (1 : Int32)) hx hb d_L_triangle_14 (by decide) ?_
      cases hE
      exact xh_iret (pc := 15) hx hb hr hlk G ⟨by decide, by decide⟩ d_L_triangle_15
    · have hE := xs_f hE he
      cases hE
