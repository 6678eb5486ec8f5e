/-! words of the constructors -/
theorem wo2 : Cond.instanceMethod Lib.objectInit ∈ xs_TG := xs_tg 22 (by decide +kernel) (by decide +kernel)
theorem wo3 : Cond.code Lib.objectInit { data := #[177] } 1 none ∈ xs_TG := xs_tg 23 (by decide +kernel) (by decide +kernel)
theorem wai : Cond.arrayClass .int ∈ xs_TG := xs_tg 46 (by decide +kernel) (by decide +kernel)
theorem wal : Cond.arrayClass .long ∈ xs_TG := xs_tg 83 (by decide +kernel) (by decide +kernel)
theorem wo_S : Cond.methodLink R_S 1 Lib.objectInit ∈ xs_TG := xs_tg 21 (by decide +kernel) (by decide +kernel)
theorem wc_S_init : Cond.code y_S_init b_S_init 2 none ∈ xs_TG := xs_tg 20 (by decide +kernel) (by decide +kernel)
theorem ws_S_init : Cond.instanceMethod y_S_init ∈ xs_TG := xs_tg 19 (by decide +kernel) (by decide +kernel)
theorem wn_S : Cond.instantiable R_S 9 ∈ xs_TG := xs_tg 17 (by decide +kernel) (by decide +kernel)
def f0_S : List Value := [.null, .null, .null, .null, .int 0, .int 0, .int 0, .int 0, .int 0]
theorem f0_S_ok : ∀ j, j < 9 → defaultValue (ty_S j) = vp_V f0_S j := by decide +kernel
theorem wo_M : Cond.methodLink R_M 3 Lib.objectInit ∈ xs_TG := xs_tg 29 (by decide +kernel) (by decide +kernel)
theorem wc_M_init : Cond.code y_M_init b_M_init 2 none ∈ xs_TG := xs_tg 28 (by decide +kernel) (by decide +kernel)
theorem ws_M_init : Cond.instanceMethod y_M_init ∈ xs_TG := xs_tg 27 (by decide +kernel) (by decide +kernel)
theorem wn_M : Cond.instantiable R_M 5 ∈ xs_TG := xs_tg 25 (by decide +kernel) (by decide +kernel)
def f0_M : List Value := [.null, .null, .null, .null, .int 0]
theorem f0_M_ok : ∀ j, j < 5 → defaultValue (ty_M j) = vp_V f0_M j := by decide +kernel
theorem wo_X : Cond.methodLink R_X 1 Lib.objectInit ∈ xs_TG := xs_tg 52 (by decide +kernel) (by decide +kernel)
theorem wc_X_init : Cond.code y_X_init b_X_init 1 none ∈ xs_TG := xs_tg 51 (by decide +kernel) (by decide +kernel)
theorem ws_X_init : Cond.instanceMethod y_X_init ∈ xs_TG := xs_tg 50 (by decide +kernel) (by decide +kernel)
theorem wn_X : Cond.instantiable R_X 1 ∈ xs_TG := xs_tg 48 (by decide +kernel) (by decide +kernel)
def f0_X : List Value := [.null]
theorem f0_X_ok : ∀ j, j < 1 → defaultValue (ty_X j) = vp_V f0_X j := by decide +kernel
theorem wo_T : Cond.methodLink R_T 3 Lib.objectInit ∈ xs_TG := xs_tg 90 (by decide +kernel) (by decide +kernel)
theorem wc_T_init : Cond.code y_T_init b_T_init 1 none ∈ xs_TG := xs_tg 89 (by decide +kernel) (by decide +kernel)
theorem ws_T_init : Cond.instanceMethod y_T_init ∈ xs_TG := xs_tg 88 (by decide +kernel) (by decide +kernel)
theorem wn_T : Cond.instantiable R_T 10 ∈ xs_TG := xs_tg 86 (by decide +kernel) (by decide +kernel)
def f0_T : List Value := [.null, .null, .null, .null, .null, .null, .long 0, .int 0, .int 0, .int 0]
theorem f0_T_ok : ∀ j, j < 10 → defaultValue (ty_T j) = vp_V f0_T j := by decide +kernel
theorem wo_P : Cond.methodLink R_P 5 Lib.objectInit ∈ xs_TG := xs_tg 63 (by decide +kernel) (by decide +kernel)
theorem wc_P_init : Cond.code y_P_init b_P_init 1 none ∈ xs_TG := xs_tg 62 (by decide +kernel) (by decide +kernel)
theorem ws_P_init : Cond.instanceMethod y_P_init ∈ xs_TG := xs_tg 61 (by decide +kernel) (by decide +kernel)
theorem wn_P : Cond.instantiable R_P 4 ∈ xs_TG := xs_tg 59 (by decide +kernel) (by decide +kernel)
def f0_P : List Value := [.null, .null, .null, .null]
theorem f0_P_ok : ∀ j, j < 4 → defaultValue (ty_P j) = vp_V f0_P j := by decide +kernel
theorem wo_R : Cond.methodLink R_R 1 Lib.objectInit ∈ xs_TG := xs_tg 631 (by decide +kernel) (by decide +kernel)
theorem wc_R_init : Cond.code y_R_init b_R_init 2 none ∈ xs_TG := xs_tg 630 (by decide +kernel) (by decide +kernel)
theorem ws_R_init : Cond.instanceMethod y_R_init ∈ xs_TG := xs_tg 629 (by decide +kernel) (by decide +kernel)
theorem wn_R : Cond.instantiable R_R 23 ∈ xs_TG := xs_tg 627 (by decide +kernel) (by decide +kernel)
def f0_R : List Value := [.int 0, .null, .null, .null, .int 0, .int 0, .int 0, .int 0, .null, .int 0, .null, .null, .null, .null, .long 0, .null, .null, .null, .null, .null, .null, .null, .null]
theorem f0_R_ok : ∀ j, j < 23 → defaultValue (ty_R j) = vp_V f0_R j := by decide +kernel
theorem kc_S_9 : xc_k "ExactScene" 9 y_M_init b_M_init 2 := ⟨xs_tg 26 (by decide +kernel) (by decide +kernel), ws_M_init, wi_M, wc_M_init, rfl, by decide, by decide, by decide +kernel⟩
theorem kc_S_18 : xc_kN "ExactScene" 18 y_X_init "ExactScene" b_X_init 1 := ⟨xs_nw 49 (by decide +kernel) (by decide +kernel), ws_X_init, wi_X, wc_X_init, rfl, by decide, by decide, by decide +kernel⟩
theorem kc_S_25 : xc_k "ExactScene" 25 y_P_init b_P_init 1 := ⟨xs_tg 60 (by decide +kernel) (by decide +kernel), ws_P_init, wi_P, wc_P_init, rfl, by decide, by decide, by decide +kernel⟩
theorem kc_S_36 : xc_kN "ExactScene" 36 y_T_init "ExactScene" b_T_init 1 := ⟨xs_nw 87 (by decide +kernel) (by decide +kernel), ws_T_init, wi_T, wc_T_init, rfl, by decide, by decide, by decide +kernel⟩
theorem kc_L_69 : xc_k "ExactSceneLaw" 69 y_S_init b_S_init 2 := ⟨xs_tg 18 (by decide +kernel) (by decide +kernel), ws_S_init, wi_S, wc_S_init, rfl, by decide, by decide, by decide +kernel⟩
theorem kc_L_72 : xc_k "ExactSceneLaw" 72 y_R_init b_R_init 2 := ⟨xs_tg 628 (by decide +kernel) (by decide +kernel), ws_R_init, wi_R, wc_R_init, rfl, by decide, by decide, by decide +kernel⟩
theorem wk_S_7 : Cond.classLink "ExactScene" 7 R_M ∈ xs_TG := xs_tg 24 (by decide +kernel) (by decide +kernel)
theorem wk_S_16 : Cond.classLink "ExactScene" 16 R_X ∈ xs_TG := xs_tg 47 (by decide +kernel) (by decide +kernel)
theorem wk_S_23 : Cond.classLink "ExactScene" 23 R_P ∈ xs_TG := xs_tg 58 (by decide +kernel) (by decide +kernel)
theorem wk_S_30 : Cond.classLink "ExactScene" 30 R_T ∈ xs_TG := xs_tg 84 (by decide +kernel) (by decide +kernel)
theorem wk_L_8 : Cond.classLink "ExactSceneLaw" 8 R_S ∈ xs_TG := xs_tg 16 (by decide +kernel) (by decide +kernel)
theorem wk_L_70 : Cond.classLink "ExactSceneLaw" 70 R_R ∈ xs_TG := xs_tg 626 (by decide +kernel) (by decide +kernel)
theorem d_T_init_0 : decode b_T_init 0 = .ok (.aload_n 0, 1) := by decide +kernel
theorem d_T_init_1 : decode b_T_init 1 = .ok (.invokespecial 3, 3) := by decide +kernel
theorem d_T_init_4 : decode b_T_init 4 = .ok (.aload_n 0, 1) := by decide +kernel
theorem d_T_init_5 : decode b_T_init 5 = .ok (.bipush (13), 2) := by decide +kernel
theorem d_T_init_7 : decode b_T_init 7 = .ok (.newarray .long, 2) := by decide +kernel
theorem d_T_init_9 : decode b_T_init 9 = .ok (.putfield 11, 3) := by decide +kernel
theorem d_T_init_12 : decode b_T_init 12 = .ok (.aload_n 0, 1) := by decide +kernel
theorem d_T_init_13 : decode b_T_init 13 = .ok (.iconst 3, 1) := by decide +kernel
theorem d_T_init_14 : decode b_T_init 14 = .ok (.newarray .int, 2) := by decide +kernel
theorem d_T_init_16 : decode b_T_init 16 = .ok (.putfield 15, 3) := by decide +kernel
theorem d_T_init_19 : decode b_T_init 19 = .ok (.aload_n 0, 1) := by decide +kernel
theorem d_T_init_20 : decode b_T_init 20 = .ok (.iconst 3, 1) := by decide +kernel
theorem d_T_init_21 : decode b_T_init 21 = .ok (.newarray .int, 2) := by decide +kernel
theorem d_T_init_23 : decode b_T_init 23 = .ok (.putfield 19, 3) := by decide +kernel
theorem d_T_init_26 : decode b_T_init 26 = .ok (.aload_n 0, 1) := by decide +kernel
theorem d_T_init_27 : decode b_T_init 27 = .ok (.iconst 3, 1) := by decide +kernel
theorem d_T_init_28 : decode b_T_init 28 = .ok (.newarray .long, 2) := by decide +kernel
theorem d_T_init_30 : decode b_T_init 30 = .ok (.putfield 22, 3) := by decide +kernel
theorem d_T_init_33 : decode b_T_init 33 = .ok (.aload_n 0, 1) := by decide +kernel
theorem d_T_init_34 : decode b_T_init 34 = .ok (.iconst 3, 1) := by decide +kernel
theorem d_T_init_35 : decode b_T_init 35 = .ok (.newarray .long, 2) := by decide +kernel
theorem d_T_init_37 : decode b_T_init 37 = .ok (.putfield 25, 3) := by decide +kernel
theorem d_T_init_40 : decode b_T_init 40 = .ok (.aload_n 0, 1) := by decide +kernel
theorem d_T_init_41 : decode b_T_init 41 = .ok (.iconst 3, 1) := by decide +kernel
theorem d_T_init_42 : decode b_T_init 42 = .ok (.newarray .long, 2) := by decide +kernel
theorem d_T_init_44 : decode b_T_init 44 = .ok (.putfield 28, 3) := by decide +kernel
theorem d_T_init_47 : decode b_T_init 47 = .ok (.return_, 1) := by decide +kernel
theorem d_X_init_0 : decode b_X_init 0 = .ok (.aload_n 0, 1) := by decide +kernel
theorem d_X_init_1 : decode b_X_init 1 = .ok (.invokespecial 1, 3) := by decide +kernel
theorem d_X_init_4 : decode b_X_init 4 = .ok (.aload_n 0, 1) := by decide +kernel
theorem d_X_init_5 : decode b_X_init 5 = .ok (.sipush (128), 3) := by decide +kernel
theorem d_X_init_8 : decode b_X_init 8 = .ok (.newarray .int, 2) := by decide +kernel
theorem d_X_init_10 : decode b_X_init 10 = .ok (.putfield 9, 3) := by decide +kernel
theorem d_X_init_13 : decode b_X_init 13 = .ok (.return_, 1) := by decide +kernel
theorem d_M_init_0 : decode b_M_init 0 = .ok (.aload_n 0, 1) := by decide +kernel
theorem d_M_init_1 : decode b_M_init 1 = .ok (.invokespecial 3, 3) := by decide +kernel
theorem d_M_init_4 : decode b_M_init 4 = .ok (.aload_n 0, 1) := by decide +kernel
theorem d_M_init_5 : decode b_M_init 5 = .ok (.bipush (16), 2) := by decide +kernel
theorem d_M_init_7 : decode b_M_init 7 = .ok (.newarray .int, 2) := by decide +kernel
theorem d_M_init_9 : decode b_M_init 9 = .ok (.putfield 9, 3) := by decide +kernel
theorem d_M_init_12 : decode b_M_init 12 = .ok (.aload_n 0, 1) := by decide +kernel
theorem d_M_init_13 : decode b_M_init 13 = .ok (.bipush (64), 2) := by decide +kernel
theorem d_M_init_15 : decode b_M_init 15 = .ok (.newarray .int, 2) := by decide +kernel
theorem d_M_init_17 : decode b_M_init 17 = .ok (.putfield 13, 3) := by decide +kernel
theorem d_M_init_20 : decode b_M_init 20 = .ok (.aload_n 0, 1) := by decide +kernel
theorem d_M_init_21 : decode b_M_init 21 = .ok (.bipush (16), 2) := by decide +kernel
theorem d_M_init_23 : decode b_M_init 23 = .ok (.newarray .int, 2) := by decide +kernel
theorem d_M_init_25 : decode b_M_init 25 = .ok (.putfield 16, 3) := by decide +kernel
theorem d_M_init_28 : decode b_M_init 28 = .ok (.aload_n 0, 1) := by decide +kernel
theorem d_M_init_29 : decode b_M_init 29 = .ok (.bipush (16), 2) := by decide +kernel
theorem d_M_init_31 : decode b_M_init 31 = .ok (.newarray .int, 2) := by decide +kernel
theorem d_M_init_33 : decode b_M_init 33 = .ok (.putfield 19, 3) := by decide +kernel
theorem d_M_init_36 : decode b_M_init 36 = .ok (.iconst 0, 1) := by decide +kernel
theorem d_M_init_37 : decode b_M_init 37 = .ok (.istore_n 1, 1) := by decide +kernel
theorem d_M_init_38 : decode b_M_init 38 = .ok (.iload_n 1, 1) := by decide +kernel
theorem d_M_init_39 : decode b_M_init 39 = .ok (.iconst 4, 1) := by decide +kernel
theorem d_M_init_40 : decode b_M_init 40 = .ok (.if_icmp .ge (20), 3) := by decide +kernel
theorem d_M_init_43 : decode b_M_init 43 = .ok (.aload_n 0, 1) := by decide +kernel
theorem d_M_init_44 : decode b_M_init 44 = .ok (.getfield 9, 3) := by decide +kernel
theorem d_M_init_47 : decode b_M_init 47 = .ok (.iload_n 1, 1) := by decide +kernel
theorem d_M_init_48 : decode b_M_init 48 = .ok (.iconst 4, 1) := by decide +kernel
theorem d_M_init_49 : decode b_M_init 49 = .ok (.imul, 1) := by decide +kernel
theorem d_M_init_50 : decode b_M_init 50 = .ok (.iload_n 1, 1) := by decide +kernel
theorem d_M_init_51 : decode b_M_init 51 = .ok (.iadd, 1) := by decide +kernel
theorem d_M_init_52 : decode b_M_init 52 = .ok (.iconst 1, 1) := by decide +kernel
theorem d_M_init_53 : decode b_M_init 53 = .ok (.iastore, 1) := by decide +kernel
theorem d_M_init_54 : decode b_M_init 54 = .ok (.iinc 1 (1), 3) := by decide +kernel
theorem d_M_init_57 : decode b_M_init 57 = .ok (.goto (-19), 3) := by decide +kernel
theorem d_M_init_60 : decode b_M_init 60 = .ok (.return_, 1) := by decide +kernel
theorem d_P_init_0 : decode b_P_init 0 = .ok (.aload_n 0, 1) := by decide +kernel
theorem d_P_init_1 : decode b_P_init 1 = .ok (.invokespecial 5, 3) := by decide +kernel
theorem d_P_init_4 : decode b_P_init 4 = .ok (.aload_n 0, 1) := by decide +kernel
theorem d_P_init_5 : decode b_P_init 5 = .ok (.sipush (192), 3) := by decide +kernel
theorem d_P_init_8 : decode b_P_init 8 = .ok (.newarray .int, 2) := by decide +kernel
theorem d_P_init_10 : decode b_P_init 10 = .ok (.putfield 11, 3) := by decide +kernel
theorem d_P_init_13 : decode b_P_init 13 = .ok (.aload_n 0, 1) := by decide +kernel
theorem d_P_init_14 : decode b_P_init 14 = .ok (.sipush (192), 3) := by decide +kernel
theorem d_P_init_17 : decode b_P_init 17 = .ok (.newarray .int, 2) := by decide +kernel
theorem d_P_init_19 : decode b_P_init 19 = .ok (.putfield 15, 3) := by decide +kernel
theorem d_P_init_22 : decode b_P_init 22 = .ok (.aload_n 0, 1) := by decide +kernel
theorem d_P_init_23 : decode b_P_init 23 = .ok (.sipush (192), 3) := by decide +kernel
theorem d_P_init_26 : decode b_P_init 26 = .ok (.newarray .long, 2) := by decide +kernel
theorem d_P_init_28 : decode b_P_init 28 = .ok (.putfield 18, 3) := by decide +kernel
theorem d_P_init_31 : decode b_P_init 31 = .ok (.aload_n 0, 1) := by decide +kernel
theorem d_P_init_32 : decode b_P_init 32 = .ok (.sipush (192), 3) := by decide +kernel
theorem d_P_init_35 : decode b_P_init 35 = .ok (.newarray .long, 2) := by decide +kernel
theorem d_P_init_37 : decode b_P_init 37 = .ok (.putfield 22, 3) := by decide +kernel
theorem d_P_init_40 : decode b_P_init 40 = .ok (.aload_n 0, 1) := by decide +kernel
theorem d_P_init_41 : decode b_P_init 41 = .ok (.iconst 0, 1) := by decide +kernel
theorem d_P_init_42 : decode b_P_init 42 = .ok (.invokevirtual 25, 3) := by decide +kernel
theorem d_P_init_45 : decode b_P_init 45 = .ok (.return_, 1) := by decide +kernel
theorem d_R_init_0 : decode b_R_init 0 = .ok (.aload_n 0, 1) := by decide +kernel
theorem d_R_init_1 : decode b_R_init 1 = .ok (.invokespecial 1, 3) := by decide +kernel
theorem d_R_init_4 : decode b_R_init 4 = .ok (.aload_n 0, 1) := by decide +kernel
theorem d_R_init_5 : decode b_R_init 5 = .ok (.bipush (16), 2) := by decide +kernel
theorem d_R_init_7 : decode b_R_init 7 = .ok (.newarray .int, 2) := by decide +kernel
theorem d_R_init_9 : decode b_R_init 9 = .ok (.putfield 7, 3) := by decide +kernel
theorem d_R_init_12 : decode b_R_init 12 = .ok (.aload_n 0, 1) := by decide +kernel
theorem d_R_init_13 : decode b_R_init 13 = .ok (.bipush (16), 2) := by decide +kernel
theorem d_R_init_15 : decode b_R_init 15 = .ok (.newarray .int, 2) := by decide +kernel
theorem d_R_init_17 : decode b_R_init 17 = .ok (.putfield 13, 3) := by decide +kernel
theorem d_R_init_20 : decode b_R_init 20 = .ok (.aload_n 0, 1) := by decide +kernel
theorem d_R_init_21 : decode b_R_init 21 = .ok (.bipush (64), 2) := by decide +kernel
theorem d_R_init_23 : decode b_R_init 23 = .ok (.newarray .int, 2) := by decide +kernel
theorem d_R_init_25 : decode b_R_init 25 = .ok (.putfield 16, 3) := by decide +kernel
theorem d_R_init_28 : decode b_R_init 28 = .ok (.aload_n 0, 1) := by decide +kernel
theorem d_R_init_29 : decode b_R_init 29 = .ok (.sipush (128), 3) := by decide +kernel
theorem d_R_init_32 : decode b_R_init 32 = .ok (.newarray .int, 2) := by decide +kernel
theorem d_R_init_34 : decode b_R_init 34 = .ok (.putfield 19, 3) := by decide +kernel
theorem d_R_init_37 : decode b_R_init 37 = .ok (.aload_n 0, 1) := by decide +kernel
theorem d_R_init_38 : decode b_R_init 38 = .ok (.sipush (360), 3) := by decide +kernel
theorem d_R_init_41 : decode b_R_init 41 = .ok (.newarray .int, 2) := by decide +kernel
theorem d_R_init_43 : decode b_R_init 43 = .ok (.putfield 22, 3) := by decide +kernel
theorem d_R_init_46 : decode b_R_init 46 = .ok (.aload_n 0, 1) := by decide +kernel
theorem d_R_init_47 : decode b_R_init 47 = .ok (.bipush (20), 2) := by decide +kernel
theorem d_R_init_49 : decode b_R_init 49 = .ok (.newarray .int, 2) := by decide +kernel
theorem d_R_init_51 : decode b_R_init 51 = .ok (.putfield 25, 3) := by decide +kernel
theorem d_R_init_54 : decode b_R_init 54 = .ok (.aload_n 0, 1) := by decide +kernel
theorem d_R_init_55 : decode b_R_init 55 = .ok (.bipush (20), 2) := by decide +kernel
theorem d_R_init_57 : decode b_R_init 57 = .ok (.newarray .int, 2) := by decide +kernel
theorem d_R_init_59 : decode b_R_init 59 = .ok (.putfield 28, 3) := by decide +kernel
theorem d_R_init_62 : decode b_R_init 62 = .ok (.aload_n 0, 1) := by decide +kernel
theorem d_R_init_63 : decode b_R_init 63 = .ok (.bipush (20), 2) := by decide +kernel
theorem d_R_init_65 : decode b_R_init 65 = .ok (.newarray .int, 2) := by decide +kernel
theorem d_R_init_67 : decode b_R_init 67 = .ok (.putfield 31, 3) := by decide +kernel
theorem d_R_init_70 : decode b_R_init 70 = .ok (.aload_n 0, 1) := by decide +kernel
theorem d_R_init_71 : decode b_R_init 71 = .ok (.iconst 3, 1) := by decide +kernel
theorem d_R_init_72 : decode b_R_init 72 = .ok (.newarray .long, 2) := by decide +kernel
theorem d_R_init_74 : decode b_R_init 74 = .ok (.putfield 34, 3) := by decide +kernel
theorem d_R_init_77 : decode b_R_init 77 = .ok (.aload_n 0, 1) := by decide +kernel
theorem d_R_init_78 : decode b_R_init 78 = .ok (.iconst 3, 1) := by decide +kernel
theorem d_R_init_79 : decode b_R_init 79 = .ok (.newarray .long, 2) := by decide +kernel
theorem d_R_init_81 : decode b_R_init 81 = .ok (.putfield 38, 3) := by decide +kernel
theorem d_R_init_84 : decode b_R_init 84 = .ok (.aload_n 0, 1) := by decide +kernel
theorem d_R_init_85 : decode b_R_init 85 = .ok (.iconst 3, 1) := by decide +kernel
theorem d_R_init_86 : decode b_R_init 86 = .ok (.newarray .long, 2) := by decide +kernel
theorem d_R_init_88 : decode b_R_init 88 = .ok (.putfield 41, 3) := by decide +kernel
theorem d_R_init_91 : decode b_R_init 91 = .ok (.aload_n 0, 1) := by decide +kernel
theorem d_R_init_92 : decode b_R_init 92 = .ok (.iconst 3, 1) := by decide +kernel
theorem d_R_init_93 : decode b_R_init 93 = .ok (.newarray .long, 2) := by decide +kernel
theorem d_R_init_95 : decode b_R_init 95 = .ok (.putfield 44, 3) := by decide +kernel
theorem d_R_init_98 : decode b_R_init 98 = .ok (.aload_n 0, 1) := by decide +kernel
theorem d_R_init_99 : decode b_R_init 99 = .ok (.sipush (192), 3) := by decide +kernel
theorem d_R_init_102 : decode b_R_init 102 = .ok (.newarray .int, 2) := by decide +kernel
theorem d_R_init_104 : decode b_R_init 104 = .ok (.putfield 47, 3) := by decide +kernel
theorem d_R_init_107 : decode b_R_init 107 = .ok (.aload_n 0, 1) := by decide +kernel
theorem d_R_init_108 : decode b_R_init 108 = .ok (.sipush (192), 3) := by decide +kernel
theorem d_R_init_111 : decode b_R_init 111 = .ok (.newarray .int, 2) := by decide +kernel
theorem d_R_init_113 : decode b_R_init 113 = .ok (.putfield 50, 3) := by decide +kernel
theorem d_R_init_116 : decode b_R_init 116 = .ok (.aload_n 0, 1) := by decide +kernel
theorem d_R_init_117 : decode b_R_init 117 = .ok (.sipush (192), 3) := by decide +kernel
theorem d_R_init_120 : decode b_R_init 120 = .ok (.newarray .long, 2) := by decide +kernel
theorem d_R_init_122 : decode b_R_init 122 = .ok (.putfield 53, 3) := by decide +kernel
theorem d_R_init_125 : decode b_R_init 125 = .ok (.aload_n 0, 1) := by decide +kernel
theorem d_R_init_126 : decode b_R_init 126 = .ok (.sipush (192), 3) := by decide +kernel
theorem d_R_init_129 : decode b_R_init 129 = .ok (.newarray .long, 2) := by decide +kernel
theorem d_R_init_131 : decode b_R_init 131 = .ok (.putfield 56, 3) := by decide +kernel
theorem d_R_init_134 : decode b_R_init 134 = .ok (.iconst 0, 1) := by decide +kernel
theorem d_R_init_135 : decode b_R_init 135 = .ok (.istore_n 1, 1) := by decide +kernel
theorem d_R_init_136 : decode b_R_init 136 = .ok (.iload_n 1, 1) := by decide +kernel
theorem d_R_init_137 : decode b_R_init 137 = .ok (.iconst 4, 1) := by decide +kernel
theorem d_R_init_138 : decode b_R_init 138 = .ok (.if_icmp .ge (18), 3) := by decide +kernel
theorem d_R_init_141 : decode b_R_init 141 = .ok (.aload_n 0, 1) := by decide +kernel
theorem d_R_init_142 : decode b_R_init 142 = .ok (.getfield 7, 3) := by decide +kernel
theorem d_R_init_145 : decode b_R_init 145 = .ok (.iconst 5, 1) := by decide +kernel
theorem d_R_init_146 : decode b_R_init 146 = .ok (.iload_n 1, 1) := by decide +kernel
theorem d_R_init_147 : decode b_R_init 147 = .ok (.imul, 1) := by decide +kernel
theorem d_R_init_148 : decode b_R_init 148 = .ok (.iconst 1, 1) := by decide +kernel
theorem d_R_init_149 : decode b_R_init 149 = .ok (.iastore, 1) := by decide +kernel
theorem d_R_init_150 : decode b_R_init 150 = .ok (.iinc 1 (1), 3) := by decide +kernel
theorem d_R_init_153 : decode b_R_init 153 = .ok (.goto (-17), 3) := by decide +kernel
theorem d_R_init_156 : decode b_R_init 156 = .ok (.iconst 0, 1) := by decide +kernel
theorem d_R_init_157 : decode b_R_init 157 = .ok (.istore_n 1, 1) := by decide +kernel
theorem d_R_init_158 : decode b_R_init 158 = .ok (.iload_n 1, 1) := by decide +kernel
theorem d_R_init_159 : decode b_R_init 159 = .ok (.sipush (192), 3) := by decide +kernel
theorem d_R_init_162 : decode b_R_init 162 = .ok (.if_icmp .ge (16), 3) := by decide +kernel
theorem d_R_init_165 : decode b_R_init 165 = .ok (.aload_n 0, 1) := by decide +kernel
theorem d_R_init_166 : decode b_R_init 166 = .ok (.getfield 47, 3) := by decide +kernel
theorem d_R_init_169 : decode b_R_init 169 = .ok (.iload_n 1, 1) := by decide +kernel
theorem d_R_init_170 : decode b_R_init 170 = .ok (.iconst (-1), 1) := by decide +kernel
theorem d_R_init_171 : decode b_R_init 171 = .ok (.iastore, 1) := by decide +kernel
theorem d_R_init_172 : decode b_R_init 172 = .ok (.iinc 1 (1), 3) := by decide +kernel
theorem d_R_init_175 : decode b_R_init 175 = .ok (.goto (-17), 3) := by decide +kernel
theorem d_R_init_178 : decode b_R_init 178 = .ok (.return_, 1) := by decide +kernel
theorem d_S_init_0 : decode b_S_init 0 = .ok (.aload_n 0, 1) := by decide +kernel
theorem d_S_init_1 : decode b_S_init 1 = .ok (.invokespecial 1, 3) := by decide +kernel
theorem d_S_init_4 : decode b_S_init 4 = .ok (.aload_n 0, 1) := by decide +kernel
theorem d_S_init_5 : decode b_S_init 5 = .ok (.new 7, 3) := by decide +kernel
theorem d_S_init_8 : decode b_S_init 8 = .ok (.dup, 1) := by decide +kernel
theorem d_S_init_9 : decode b_S_init 9 = .ok (.invokespecial 9, 3) := by decide +kernel
theorem d_S_init_12 : decode b_S_init 12 = .ok (.putfield 10, 3) := by decide +kernel
theorem d_S_init_15 : decode b_S_init 15 = .ok (.aload_n 0, 1) := by decide +kernel
theorem d_S_init_16 : decode b_S_init 16 = .ok (.new 16, 3) := by decide +kernel
theorem d_S_init_19 : decode b_S_init 19 = .ok (.dup, 1) := by decide +kernel
theorem d_S_init_20 : decode b_S_init 20 = .ok (.invokespecial 18, 3) := by decide +kernel
theorem d_S_init_23 : decode b_S_init 23 = .ok (.putfield 19, 3) := by decide +kernel
theorem d_S_init_26 : decode b_S_init 26 = .ok (.aload_n 0, 1) := by decide +kernel
theorem d_S_init_27 : decode b_S_init 27 = .ok (.new 23, 3) := by decide +kernel
theorem d_S_init_30 : decode b_S_init 30 = .ok (.dup, 1) := by decide +kernel
theorem d_S_init_31 : decode b_S_init 31 = .ok (.invokespecial 25, 3) := by decide +kernel
theorem d_S_init_34 : decode b_S_init 34 = .ok (.putfield 26, 3) := by decide +kernel
theorem d_S_init_37 : decode b_S_init 37 = .ok (.aload_n 0, 1) := by decide +kernel
theorem d_S_init_38 : decode b_S_init 38 = .ok (.bipush (20), 2) := by decide +kernel
theorem d_S_init_40 : decode b_S_init 40 = .ok (.anewarray 30, 3) := by decide +kernel
theorem d_S_init_43 : decode b_S_init 43 = .ok (.putfield 32, 3) := by decide +kernel
theorem d_S_init_46 : decode b_S_init 46 = .ok (.iconst 0, 1) := by decide +kernel
theorem d_S_init_47 : decode b_S_init 47 = .ok (.istore_n 1, 1) := by decide +kernel
theorem d_S_init_48 : decode b_S_init 48 = .ok (.iload_n 1, 1) := by decide +kernel
theorem d_S_init_49 : decode b_S_init 49 = .ok (.bipush (20), 2) := by decide +kernel
theorem d_S_init_51 : decode b_S_init 51 = .ok (.if_icmp .ge (22), 3) := by decide +kernel
theorem d_S_init_54 : decode b_S_init 54 = .ok (.aload_n 0, 1) := by decide +kernel
theorem d_S_init_55 : decode b_S_init 55 = .ok (.getfield 32, 3) := by decide +kernel
theorem d_S_init_58 : decode b_S_init 58 = .ok (.iload_n 1, 1) := by decide +kernel
theorem d_S_init_59 : decode b_S_init 59 = .ok (.new 30, 3) := by decide +kernel
theorem d_S_init_62 : decode b_S_init 62 = .ok (.dup, 1) := by decide +kernel
theorem d_S_init_63 : decode b_S_init 63 = .ok (.invokespecial 36, 3) := by decide +kernel
theorem d_S_init_66 : decode b_S_init 66 = .ok (.aastore, 1) := by decide +kernel
theorem d_S_init_67 : decode b_S_init 67 = .ok (.iinc 1 (1), 3) := by decide +kernel
theorem d_S_init_70 : decode b_S_init 70 = .ok (.goto (-22), 3) := by decide +kernel
theorem d_S_init_73 : decode b_S_init 73 = .ok (.return_, 1) := by decide +kernel
theorem xc_T_init (l : Launch) (D : va_G) (cs : xs_cs) (N q : Nat) (ct : Nat → va_E) : xc_I l D cs y_T_init b_T_init 1 1 12 6 28 [.ref (N + q)] N (q + 1) (xc_L ct q [.inr (3, f0_T)]) (q + 7) (xc_L ct q (xs_L3 (fun i => N + i) cs q (fun _ => 0) (fun _ => 0))) := by
  refine xc_entry (by decide) (Nat.le_of_ble_eq_true rfl) ?_
  intro p e s m below meth c ls X hr hlk hnm hO G hl
  have X : xs_C p s m c b_T_init 1 _ R_T := X
  have hx := X.1
  have hb := X.2.1
  have hl : lv_has ls 1 [(0, .ref (N + (q + 0)))] := hl
  have G : xc_G D cs s (fun z => N ≤ z) s.heap N (q + 1) (xc_L ct q [.inr (3, [.null, .null, .null, .null, .null, .null, .long 0, .int 0, .int 0, .int 0])]) s.heap [] := G
  refine lv_aload_n (pc := 0) hx hb d_T_init_0 rfl (lv_at hl 0 rfl) ?_
  refine xl_obj (pc := 1) X wo_T wo2 wo3 hl.1 d_T_init_1 (Nat.le_of_ble_eq_true rfl) (Nat.le_of_ble_eq_true rfl) ?_
  refine lv_aload_n (pc := 4) hx hb d_T_init_4 rfl (lv_at hl 0 rfl) ?_
  refine lv_bipush (pc := 5) (v := (13 : Int32)) hx hb d_T_init_5 (by decide) ?_
  refine xl_newl (pc := 7) (k := 1) (len := 13) rfl X G wal (by decide) (by decide) (by decide) (Nat.le_of_ble_eq_true rfl) (Nat.le_of_ble_eq_true rfl) d_T_init_7 (fun H G => ?_)
  refine xl_putF (pc := 9) (k := 2) (j := 0) (f := 0) (ci := 3) (ty := ty_T 0) rfl X G hnm in_T ty_T_ok nm_T rfl rfl (by decide) (xs_tg 91 (by decide +kernel) (by decide +kernel)) rfl rfl (ty_T_ok 0 (by decide)) rfl rfl (Nat.le_of_ble_eq_true rfl) d_T_init_9 (fun H locs G => ?_)
  have G : xc_G D cs s (fun z => N ≤ z) s.heap N (q + 2) (xc_L ct q [.inr (3, [.ref (N + (q + 1)), .null, .null, .null, .null, .null, .long 0, .int 0, .int 0, .int 0]), xs_al cs 13 (fun _ => 0)]) H locs := G
  refine lv_aload_n (pc := 12) hx hb d_T_init_12 rfl (lv_at hl 0 rfl) ?_
  refine lv_iconst (pc := 13) (v := (3 : Int32)) hx hb d_T_init_13 (by decide) ?_
  refine xl_newi (pc := 14) (k := 2) (len := 3) rfl X G wai (by decide) (by decide) (by decide) (Nat.le_of_ble_eq_true rfl) (Nat.le_of_ble_eq_true rfl) d_T_init_14 (fun H G => ?_)
  refine xl_putF (pc := 16) (k := 3) (j := 0) (f := 1) (ci := 3) (ty := ty_T 1) rfl X G hnm in_T ty_T_ok nm_T rfl rfl (by decide) (xs_tg 92 (by decide +kernel) (by decide +kernel)) rfl rfl (ty_T_ok 1 (by decide)) rfl rfl (Nat.le_of_ble_eq_true rfl) d_T_init_16 (fun H locs G => ?_)
  have G : xc_G D cs s (fun z => N ≤ z) s.heap N (q + 3) (xc_L ct q [.inr (3, [.ref (N + (q + 1)), .ref (N + (q + 2)), .null, .null, .null, .null, .long 0, .int 0, .int 0, .int 0]), xs_al cs 13 (fun _ => 0), xs_ai cs 3 (fun _ => 0)]) H locs := G
  refine lv_aload_n (pc := 19) hx hb d_T_init_19 rfl (lv_at hl 0 rfl) ?_
  refine lv_iconst (pc := 20) (v := (3 : Int32)) hx hb d_T_init_20 (by decide) ?_
  refine xl_newi (pc := 21) (k := 3) (len := 3) rfl X G wai (by decide) (by decide) (by decide) (Nat.le_of_ble_eq_true rfl) (Nat.le_of_ble_eq_true rfl) d_T_init_21 (fun H G => ?_)
  refine xl_putF (pc := 23) (k := 4) (j := 0) (f := 2) (ci := 3) (ty := ty_T 2) rfl X G hnm in_T ty_T_ok nm_T rfl rfl (by decide) (xs_tg 93 (by decide +kernel) (by decide +kernel)) rfl rfl (ty_T_ok 2 (by decide)) rfl rfl (Nat.le_of_ble_eq_true rfl) d_T_init_23 (fun H locs G => ?_)
  have G : xc_G D cs s (fun z => N ≤ z) s.heap N (q + 4) (xc_L ct q [.inr (3, [.ref (N + (q + 1)), .ref (N + (q + 2)), .ref (N + (q + 3)), .null, .null, .null, .long 0, .int 0, .int 0, .int 0]), xs_al cs 13 (fun _ => 0), xs_ai cs 3 (fun _ => 0), xs_ai cs 3 (fun _ => 0)]) H locs := G
  refine lv_aload_n (pc := 26) hx hb d_T_init_26 rfl (lv_at hl 0 rfl) ?_
  refine lv_iconst (pc := 27) (v := (3 : Int32)) hx hb d_T_init_27 (by decide) ?_
  refine xl_newl (pc := 28) (k := 4) (len := 3) rfl X G wal (by decide) (by decide) (by decide) (Nat.le_of_ble_eq_true rfl) (Nat.le_of_ble_eq_true rfl) d_T_init_28 (fun H G => ?_)
  refine xl_putF (pc := 30) (k := 5) (j := 0) (f := 3) (ci := 3) (ty := ty_T 3) rfl X G hnm in_T ty_T_ok nm_T rfl rfl (by decide) (xs_tg 94 (by decide +kernel) (by decide +kernel)) rfl rfl (ty_T_ok 3 (by decide)) rfl rfl (Nat.le_of_ble_eq_true rfl) d_T_init_30 (fun H locs G => ?_)
  have G : xc_G D cs s (fun z => N ≤ z) s.heap N (q + 5) (xc_L ct q [.inr (3, [.ref (N + (q + 1)), .ref (N + (q + 2)), .ref (N + (q + 3)), .ref (N + (q + 4)), .null, .null, .long 0, .int 0, .int 0, .int 0]), xs_al cs 13 (fun _ => 0), xs_ai cs 3 (fun _ => 0), xs_ai cs 3 (fun _ => 0), xs_al cs 3 (fun _ => 0)]) H locs := G
  refine lv_aload_n (pc := 33) hx hb d_T_init_33 rfl (lv_at hl 0 rfl) ?_
  refine lv_iconst (pc := 34) (v := (3 : Int32)) hx hb d_T_init_34 (by decide) ?_
  refine xl_newl (pc := 35) (k := 5) (len := 3) rfl X G wal (by decide) (by decide) (by decide) (Nat.le_of_ble_eq_true rfl) (Nat.le_of_ble_eq_true rfl) d_T_init_35 (fun H G => ?_)
  refine xl_putF (pc := 37) (k := 6) (j := 0) (f := 4) (ci := 3) (ty := ty_T 4) rfl X G hnm in_T ty_T_ok nm_T rfl rfl (by decide) (xs_tg 95 (by decide +kernel) (by decide +kernel)) rfl rfl (ty_T_ok 4 (by decide)) rfl rfl (Nat.le_of_ble_eq_true rfl) d_T_init_37 (fun H locs G => ?_)
  have G : xc_G D cs s (fun z => N ≤ z) s.heap N (q + 6) (xc_L ct q [.inr (3, [.ref (N + (q + 1)), .ref (N + (q + 2)), .ref (N + (q + 3)), .ref (N + (q + 4)), .ref (N + (q + 5)), .null, .long 0, .int 0, .int 0, .int 0]), xs_al cs 13 (fun _ => 0), xs_ai cs 3 (fun _ => 0), xs_ai cs 3 (fun _ => 0), xs_al cs 3 (fun _ => 0), xs_al cs 3 (fun _ => 0)]) H locs := G
  refine lv_aload_n (pc := 40) hx hb d_T_init_40 rfl (lv_at hl 0 rfl) ?_
  refine lv_iconst (pc := 41) (v := (3 : Int32)) hx hb d_T_init_41 (by decide) ?_
  refine xl_newl (pc := 42) (k := 6) (len := 3) rfl X G wal (by decide) (by decide) (by decide) (Nat.le_of_ble_eq_true rfl) (Nat.le_of_ble_eq_true rfl) d_T_init_42 (fun H G => ?_)
  refine xl_putF (pc := 44) (k := 7) (j := 0) (f := 5) (ci := 3) (ty := ty_T 5) rfl X G hnm in_T ty_T_ok nm_T rfl rfl (by decide) (xs_tg 96 (by decide +kernel) (by decide +kernel)) rfl rfl (ty_T_ok 5 (by decide)) rfl rfl (Nat.le_of_ble_eq_true rfl) d_T_init_44 (fun H locs G => ?_)
  have G : xc_G D cs s (fun z => N ≤ z) s.heap N (q + 7) (xc_L ct q [.inr (3, [.ref (N + (q + 1)), .ref (N + (q + 2)), .ref (N + (q + 3)), .ref (N + (q + 4)), .ref (N + (q + 5)), .ref (N + (q + 6)), .long 0, .int 0, .int 0, .int 0]), xs_al cs 13 (fun _ => 0), xs_ai cs 3 (fun _ => 0), xs_ai cs 3 (fun _ => 0), xs_al cs 3 (fun _ => 0), xs_al cs 3 (fun _ => 0), xs_al cs 3 (fun _ => 0)]) H locs := G
  exact xc_vret hx hb hr hlk G (fun i _ => rfl) rfl rfl d_T_init_47
theorem xc_X_init (l : Launch) (D : va_G) (cs : xs_cs) (N q : Nat) (ct : Nat → va_E) : xc_I l D cs y_X_init b_X_init 1 1 12 1 128 [.ref (N + q)] N (q + 1) (xc_L ct q [.inr (2, f0_X)]) (q + 2) (xc_L ct q [.inr (2, [.ref (N + (q + 1))]), xs_ai cs 128 (fun _ => 0)]) := by
  refine xc_entry (by decide) (Nat.le_of_ble_eq_true rfl) ?_
  intro p e s m below meth c ls X hr hlk hnm hO G hl
  have X : xs_C p s m c b_X_init 1 _ R_X := X
  have hx := X.1
  have hb := X.2.1
  have hl : lv_has ls 1 [(0, .ref (N + (q + 0)))] := hl
  have G : xc_G D cs s (fun z => N ≤ z) s.heap N (q + 1) (xc_L ct q [.inr (2, [.null])]) s.heap [] := G
  refine lv_aload_n (pc := 0) hx hb d_X_init_0 rfl (lv_at hl 0 rfl) ?_
  refine xl_obj (pc := 1) X wo_X wo2 wo3 hl.1 d_X_init_1 (Nat.le_of_ble_eq_true rfl) (Nat.le_of_ble_eq_true rfl) ?_
  refine lv_aload_n (pc := 4) hx hb d_X_init_4 rfl (lv_at hl 0 rfl) ?_
  refine lv_sipush (pc := 5) (v := (128 : Int32)) hx hb d_X_init_5 (by decide) ?_
  refine xl_newi (pc := 8) (k := 1) (len := 128) rfl X G wai (by decide) (by decide) (by decide) (Nat.le_of_ble_eq_true rfl) (Nat.le_of_ble_eq_true rfl) d_X_init_8 (fun H G => ?_)
  refine xl_putF (pc := 10) (k := 2) (j := 0) (f := 0) (ci := 2) (ty := ty_X 0) rfl X G hnm in_X ty_X_ok nm_X rfl rfl (by decide) (xs_tg 53 (by decide +kernel) (by decide +kernel)) rfl rfl (ty_X_ok 0 (by decide)) rfl rfl (Nat.le_of_ble_eq_true rfl) d_X_init_10 (fun H locs G => ?_)
  have G : xc_G D cs s (fun z => N ≤ z) s.heap N (q + 2) (xc_L ct q [.inr (2, [.ref (N + (q + 1))]), xs_ai cs 128 (fun _ => 0)]) H locs := G
  exact xc_vret hx hb hr hlk G (fun i _ => rfl) rfl rfl d_X_init_13
def xc_I4 : Nat → Int32 := upd (upd (upd (upd (fun _ => 0) 0 1) 5 1) 10 1) 15 1
theorem xc_M_init (l : Launch) (D : va_G) (cs : xs_cs) (N q : Nat) (ct : Nat → va_E) : xc_I l D cs y_M_init b_M_init 2 1 12 4 112 [.ref (N + q)] N (q + 1) (xc_L ct q [.inr (1, f0_M)]) (q + 5) (xc_L ct q [.inr (1, [.ref (N + (q + 1)), .ref (N + (q + 2)), .ref (N + (q + 3)), .ref (N + (q + 4)), .int 0]), xs_ai cs 16 xc_I4, xs_ai cs 64 (fun _ => 0), xs_ai cs 16 (fun _ => 0), xs_ai cs 16 (fun _ => 0)]) := by
  refine xc_entry (by decide) (Nat.le_of_ble_eq_true rfl) ?_
  intro p e s m below meth c ls X hr hlk hnm hO G hl
  have X : xs_C p s m c b_M_init 2 _ R_M := X
  have hx := X.1
  have hb := X.2.1
  have hl : lv_has ls 2 [(0, .ref (N + (q + 0)))] := hl
  have G : xc_G D cs s (fun z => N ≤ z) s.heap N (q + 1) (xc_L ct q [.inr (1, [.null, .null, .null, .null, .int 0])]) s.heap [] := G
  refine lv_aload_n (pc := 0) hx hb d_M_init_0 rfl (lv_at hl 0 rfl) ?_
  refine xl_obj (pc := 1) X wo_M wo2 wo3 hl.1 d_M_init_1 (Nat.le_of_ble_eq_true rfl) (Nat.le_of_ble_eq_true rfl) ?_
  refine lv_aload_n (pc := 4) hx hb d_M_init_4 rfl (lv_at hl 0 rfl) ?_
  refine lv_bipush (pc := 5) (v := (16 : Int32)) hx hb d_M_init_5 (by decide) ?_
  refine xl_newi (pc := 7) (k := 1) (len := 16) rfl X G wai (by decide) (by decide) (by decide) (Nat.le_of_ble_eq_true rfl) (Nat.le_of_ble_eq_true rfl) d_M_init_7 (fun H G => ?_)
  refine xl_putF (pc := 9) (k := 2) (j := 0) (f := 0) (ci := 1) (ty := ty_M 0) rfl X G hnm in_M ty_M_ok nm_M rfl rfl (by decide) (xs_tg 30 (by decide +kernel) (by decide +kernel)) rfl rfl (ty_M_ok 0 (by decide)) rfl rfl (Nat.le_of_ble_eq_true rfl) d_M_init_9 (fun H locs G => ?_)
  have G : xc_G D cs s (fun z => N ≤ z) s.heap N (q + 2) (xc_L ct q [.inr (1, [.ref (N + (q + 1)), .null, .null, .null, .int 0]), xs_ai cs 16 (fun _ => 0)]) H locs := G
  refine lv_aload_n (pc := 12) hx hb d_M_init_12 rfl (lv_at hl 0 rfl) ?_
  refine lv_bipush (pc := 13) (v := (64 : Int32)) hx hb d_M_init_13 (by decide) ?_
  refine xl_newi (pc := 15) (k := 2) (len := 64) rfl X G wai (by decide) (by decide) (by decide) (Nat.le_of_ble_eq_true rfl) (Nat.le_of_ble_eq_true rfl) d_M_init_15 (fun H G => ?_)
  refine xl_putF (pc := 17) (k := 3) (j := 0) (f := 1) (ci := 1) (ty := ty_M 1) rfl X G hnm in_M ty_M_ok nm_M rfl rfl (by decide) (xs_tg 31 (by decide +kernel) (by decide +kernel)) rfl rfl (ty_M_ok 1 (by decide)) rfl rfl (Nat.le_of_ble_eq_true rfl) d_M_init_17 (fun H locs G => ?_)
  have G : xc_G D cs s (fun z => N ≤ z) s.heap N (q + 3) (xc_L ct q [.inr (1, [.ref (N + (q + 1)), .ref (N + (q + 2)), .null, .null, .int 0]), xs_ai cs 16 (fun _ => 0), xs_ai cs 64 (fun _ => 0)]) H locs := G
  refine lv_aload_n (pc := 20) hx hb d_M_init_20 rfl (lv_at hl 0 rfl) ?_
  refine lv_bipush (pc := 21) (v := (16 : Int32)) hx hb d_M_init_21 (by decide) ?_
  refine xl_newi (pc := 23) (k := 3) (len := 16) rfl X G wai (by decide) (by decide) (by decide) (Nat.le_of_ble_eq_true rfl) (Nat.le_of_ble_eq_true rfl) d_M_init_23 (fun H G => ?_)
  refine xl_putF (pc := 25) (k := 4) (j := 0) (f := 2) (ci := 1) (ty := ty_M 2) rfl X G hnm in_M ty_M_ok nm_M rfl rfl (by decide) (xs_tg 32 (by decide +kernel) (by decide +kernel)) rfl rfl (ty_M_ok 2 (by decide)) rfl rfl (Nat.le_of_ble_eq_true rfl) d_M_init_25 (fun H locs G => ?_)
  have G : xc_G D cs s (fun z => N ≤ z) s.heap N (q + 4) (xc_L ct q [.inr (1, [.ref (N + (q + 1)), .ref (N + (q + 2)), .ref (N + (q + 3)), .null, .int 0]), xs_ai cs 16 (fun _ => 0), xs_ai cs 64 (fun _ => 0), xs_ai cs 16 (fun _ => 0)]) H locs := G
  refine lv_aload_n (pc := 28) hx hb d_M_init_28 rfl (lv_at hl 0 rfl) ?_
  refine lv_bipush (pc := 29) (v := (16 : Int32)) hx hb d_M_init_29 (by decide) ?_
  refine xl_newi (pc := 31) (k := 4) (len := 16) rfl X G wai (by decide) (by decide) (by decide) (Nat.le_of_ble_eq_true rfl) (Nat.le_of_ble_eq_true rfl) d_M_init_31 (fun H G => ?_)
  refine xl_putF (pc := 33) (k := 5) (j := 0) (f := 3) (ci := 1) (ty := ty_M 3) rfl X G hnm in_M ty_M_ok nm_M rfl rfl (by decide) (xs_tg 33 (by decide +kernel) (by decide +kernel)) rfl rfl (ty_M_ok 3 (by decide)) rfl rfl (Nat.le_of_ble_eq_true rfl) d_M_init_33 (fun H locs G => ?_)
  have G : xc_G D cs s (fun z => N ≤ z) s.heap N (q + 5) (xc_L ct q [.inr (1, [.ref (N + (q + 1)), .ref (N + (q + 2)), .ref (N + (q + 3)), .ref (N + (q + 4)), .int 0]), xs_ai cs 16 (fun _ => 0), xs_ai cs 64 (fun _ => 0), xs_ai cs 16 (fun _ => 0), xs_ai cs 16 (fun _ => 0)]) H locs := G
  refine lv_iconst (pc := 36) (v := (0 : Int32)) hx hb d_M_init_36 (by decide) ?_
  refine lv_istore_n (pc := 37) hx hb d_M_init_37 rfl hl (by decide) (lv' := [(1, .int (0 : Int32)), (0, .ref (N + (q + 0)))]) rfl (fun ls hl => ?_)
  have hl := lv_sub hl [1, 0] rfl
  have hl : lv_has ls 2 [(0, .ref (N + (q + 0))), (1, .int (0 : Int32))] := hl
  refine lv_iload_n (pc := 38) hx hb d_M_init_38 rfl (lv_at hl 1 rfl) ?_
  refine lv_iconst (pc := 39) (v := (4 : Int32)) hx hb d_M_init_39 (by decide) ?_
  refine lv_icmp_ge (pc := 40) (tgt := 60) hx hb d_M_init_40 (by decide) (fun hc => absurd hc (by decide)) (fun hc => ?_)
  refine lv_aload_n (pc := 43) hx hb d_M_init_43 rfl (lv_at hl 0 rfl) ?_
  refine xl_get1 (pc := 44) (k := 5) (j := 0) (f := 0) (ci := 1) rfl X G in_M rfl rfl (by decide) (xs_tg 30 (by decide +kernel) (by decide +kernel)) rfl d_M_init_44 ?_
  refine lv_iload_n (pc := 47) hx hb d_M_init_47 rfl (lv_at hl 1 rfl) ?_
  refine lv_iconst (pc := 48) (v := (4 : Int32)) hx hb d_M_init_48 (by decide) ?_
  refine lv_imul (pc := 49) hx hb d_M_init_49 ?_
  refine lv_iload_n (pc := 50) hx hb d_M_init_50 rfl (lv_at hl 1 rfl) ?_
  refine lv_iadd (pc := 51) hx hb d_M_init_51 ?_
  refine lv_iconst (pc := 52) (v := (1 : Int32)) hx hb d_M_init_52 (by decide) ?_
  refine xl_iast (pc := 53) (k := 5) (j := 1) (len := 16) rfl hx hb G rfl (xs_inP (by decide)) d_M_init_53 (fun H locs G => ?_)
  rw [show ((0 : Int32) * 4 + 0).toNatClampNeg = 0 by decide] at G
  have G : xc_G D cs s (fun z => N ≤ z) s.heap N (q + 5) (xc_L ct q [.inr (1, [.ref (N + (q + 1)), .ref (N + (q + 2)), .ref (N + (q + 3)), .ref (N + (q + 4)), .int 0]), xs_ai cs 16 (upd (fun _ => 0) 0 1), xs_ai cs 64 (fun _ => 0), xs_ai cs 16 (fun _ => 0), xs_ai cs 16 (fun _ => 0)]) H locs := G
  refine lv_iinc (pc := 54) (v := (1 : Int32)) (k := 1) hx hb d_M_init_54 hl rfl (by decide) (by decide) (lv' := [(1, .int (1 : Int32)), (0, .ref (N + (q + 0)))]) rfl (fun ls hl => ?_)
  have hl := lv_sub hl [1, 0] rfl
  refine lv_goto (pc := 57) (tgt := 38) hx hb d_M_init_57 (by decide) ?_
  have hl : lv_has ls 2 [(0, .ref (N + (q + 0))), (1, .int (1 : Int32))] := hl
  refine lv_iload_n (pc := 38) hx hb d_M_init_38 rfl (lv_at hl 1 rfl) ?_
  refine lv_iconst (pc := 39) (v := (4 : Int32)) hx hb d_M_init_39 (by decide) ?_
  refine lv_icmp_ge (pc := 40) (tgt := 60) hx hb d_M_init_40 (by decide) (fun hc => absurd hc (by decide)) (fun hc => ?_)
  refine lv_aload_n (pc := 43) hx hb d_M_init_43 rfl (lv_at hl 0 rfl) ?_
  refine xl_get1 (pc := 44) (k := 5) (j := 0) (f := 0) (ci := 1) rfl X G in_M rfl rfl (by decide) (xs_tg 30 (by decide +kernel) (by decide +kernel)) rfl d_M_init_44 ?_
  refine lv_iload_n (pc := 47) hx hb d_M_init_47 rfl (lv_at hl 1 rfl) ?_
  refine lv_iconst (pc := 48) (v := (4 : Int32)) hx hb d_M_init_48 (by decide) ?_
  refine lv_imul (pc := 49) hx hb d_M_init_49 ?_
  refine lv_iload_n (pc := 50) hx hb d_M_init_50 rfl (lv_at hl 1 rfl) ?_
  refine lv_iadd (pc := 51) hx hb d_M_init_51 ?_
  refine lv_iconst (pc := 52) (v := (1 : Int32)) hx hb d_M_init_52 (by decide) ?_
  refine xl_iast (pc := 53) (k := 5) (j := 1) (len := 16) rfl hx hb G rfl (xs_inP (by decide)) d_M_init_53 (fun H locs G => ?_)
  rw [show ((1 : Int32) * 4 + 1).toNatClampNeg = 5 by decide] at G
  have G : xc_G D cs s (fun z => N ≤ z) s.heap N (q + 5) (xc_L ct q [.inr (1, [.ref (N + (q + 1)), .ref (N + (q + 2)), .ref (N + (q + 3)), .ref (N + (q + 4)), .int 0]), xs_ai cs 16 (upd (upd (fun _ => 0) 0 1) 5 1), xs_ai cs 64 (fun _ => 0), xs_ai cs 16 (fun _ => 0), xs_ai cs 16 (fun _ => 0)]) H locs := G
  refine lv_iinc (pc := 54) (v := (2 : Int32)) (k := 1) hx hb d_M_init_54 hl rfl (by decide) (by decide) (lv' := [(1, .int (2 : Int32)), (0, .ref (N + (q + 0)))]) rfl (fun ls hl => ?_)
  have hl := lv_sub hl [1, 0] rfl
  refine lv_goto (pc := 57) (tgt := 38) hx hb d_M_init_57 (by decide) ?_
  have hl : lv_has ls 2 [(0, .ref (N + (q + 0))), (1, .int (2 : Int32))] := hl
  refine lv_iload_n (pc := 38) hx hb d_M_init_38 rfl (lv_at hl 1 rfl) ?_
  refine lv_iconst (pc := 39) (v := (4 : Int32)) hx hb d_M_init_39 (by decide) ?_
  refine lv_icmp_ge (pc := 40) (tgt := 60) hx hb d_M_init_40 (by decide) (fun hc => absurd hc (by decide)) (fun hc => ?_)
  refine lv_aload_n (pc := 43) hx hb d_M_init_43 rfl (lv_at hl 0 rfl) ?_
  refine xl_get1 (pc := 44) (k := 5) (j := 0) (f := 0) (ci := 1) rfl X G in_M rfl rfl (by decide) (xs_tg 30 (by decide +kernel) (by decide +kernel)) rfl d_M_init_44 ?_
  refine lv_iload_n (pc := 47) hx hb d_M_init_47 rfl (lv_at hl 1 rfl) ?_
  refine lv_iconst (pc := 48) (v := (4 : Int32)) hx hb d_M_init_48 (by decide) ?_
  refine lv_imul (pc := 49) hx hb d_M_init_49 ?_
  refine lv_iload_n (pc := 50) hx hb d_M_init_50 rfl (lv_at hl 1 rfl) ?_
  refine lv_iadd (pc := 51) hx hb d_M_init_51 ?_
  refine lv_iconst (pc := 52) (v := (1 : Int32)) hx hb d_M_init_52 (by decide) ?_
  refine xl_iast (pc := 53) (k := 5) (j := 1) (len := 16) rfl hx hb G rfl (xs_inP (by decide)) d_M_init_53 (fun H locs G => ?_)
  rw [show ((2 : Int32) * 4 + 2).toNatClampNeg = 10 by decide] at G
  have G : xc_G D cs s (fun z => N ≤ z) s.heap N (q + 5) (xc_L ct q [.inr (1, [.ref (N + (q + 1)), .ref (N + (q + 2)), .ref (N + (q + 3)), .ref (N + (q + 4)), .int 0]), xs_ai cs 16 (upd (upd (upd (fun _ => 0) 0 1) 5 1) 10 1), xs_ai cs 64 (fun _ => 0), xs_ai cs 16 (fun _ => 0), xs_ai cs 16 (fun _ => 0)]) H locs := G
  refine lv_iinc (pc := 54) (v := (3 : Int32)) (k := 1) hx hb d_M_init_54 hl rfl (by decide) (by decide) (lv' := [(1, .int (3 : Int32)), (0, .ref (N + (q + 0)))]) rfl (fun ls hl => ?_)
  have hl := lv_sub hl [1, 0] rfl
  refine lv_goto (pc := 57) (tgt := 38) hx hb d_M_init_57 (by decide) ?_
  have hl : lv_has ls 2 [(0, .ref (N + (q + 0))), (1, .int (3 : Int32))] := hl
  refine lv_iload_n (pc := 38) hx hb d_M_init_38 rfl (lv_at hl 1 rfl) ?_
  refine lv_iconst (pc := 39) (v := (4 : Int32)) hx hb d_M_init_39 (by decide) ?_
  refine lv_icmp_ge (pc := 40) (tgt := 60) hx hb d_M_init_40 (by decide) (fun hc => absurd hc (by decide)) (fun hc => ?_)
  refine lv_aload_n (pc := 43) hx hb d_M_init_43 rfl (lv_at hl 0 rfl) ?_
  refine xl_get1 (pc := 44) (k := 5) (j := 0) (f := 0) (ci := 1) rfl X G in_M rfl rfl (by decide) (xs_tg 30 (by decide +kernel) (by decide +kernel)) rfl d_M_init_44 ?_
  refine lv_iload_n (pc := 47) hx hb d_M_init_47 rfl (lv_at hl 1 rfl) ?_
  refine lv_iconst (pc := 48) (v := (4 : Int32)) hx hb d_M_init_48 (by decide) ?_
  refine lv_imul (pc := 49) hx hb d_M_init_49 ?_
  refine lv_iload_n (pc := 50) hx hb d_M_init_50 rfl (lv_at hl 1 rfl) ?_
  refine lv_iadd (pc := 51) hx hb d_M_init_51 ?_
  refine lv_iconst (pc := 52) (v := (1 : Int32)) hx hb d_M_init_52 (by decide) ?_
  refine xl_iast (pc := 53) (k := 5) (j := 1) (len := 16) rfl hx hb G rfl (xs_inP (by decide)) d_M_init_53 (fun H locs G => ?_)
  rw [show ((3 : Int32) * 4 + 3).toNatClampNeg = 15 by decide] at G
  have G : xc_G D cs s (fun z => N ≤ z) s.heap N (q + 5) (xc_L ct q [.inr (1, [.ref (N + (q + 1)), .ref (N + (q + 2)), .ref (N + (q + 3)), .ref (N + (q + 4)), .int 0]), xs_ai cs 16 (upd (upd (upd (upd (fun _ => 0) 0 1) 5 1) 10 1) 15 1), xs_ai cs 64 (fun _ => 0), xs_ai cs 16 (fun _ => 0), xs_ai cs 16 (fun _ => 0)]) H locs := G
  refine lv_iinc (pc := 54) (v := (4 : Int32)) (k := 1) hx hb d_M_init_54 hl rfl (by decide) (by decide) (lv' := [(1, .int (4 : Int32)), (0, .ref (N + (q + 0)))]) rfl (fun ls hl => ?_)
  have hl := lv_sub hl [1, 0] rfl
  refine lv_goto (pc := 57) (tgt := 38) hx hb d_M_init_57 (by decide) ?_
  have hl : lv_has ls 2 [(0, .ref (N + (q + 0))), (1, .int (4 : Int32))] := hl
  refine lv_iload_n (pc := 38) hx hb d_M_init_38 rfl (lv_at hl 1 rfl) ?_
  refine lv_iconst (pc := 39) (v := (4 : Int32)) hx hb d_M_init_39 (by decide) ?_
  refine lv_icmp_ge (pc := 40) (tgt := 60) hx hb d_M_init_40 (by decide) (fun hc => ?_) (fun hc => absurd (show (4 : Int32) ≤ 4 by decide) hc)
  exact xc_vret hx hb hr hlk G (fun i _ => rfl) rfl rfl d_M_init_60
