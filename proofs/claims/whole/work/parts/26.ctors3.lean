/-! Picture(), ExactSceneModel() -/
theorem km_P_25 : xs_kV "ExactScene$Picture" 25 y_P_wipe b_P_wipe 3 none 1 := ⟨xs_tg 64 (by decide +kernel) (by decide +kernel), ⟨ws_P_wipe, wl_P_wipe⟩, wi_P, wc_P_wipe, by decide, by decide, by decide +kernel⟩
theorem xc_wl_n (x : Int32) : xc_wl x 0 = fun _ => 0 := by funext j; unfold xc_wl; rw [if_neg (Nat.not_lt_zero j)]
theorem xc_LP_0 (cs : xs_cs) (N q : Nat) : xc_LP cs N q 0 0 = [.inr (4, [.ref (N + (q + 1)), .ref (N + (q + 2)), .ref (N + (q + 3)), .ref (N + (q + 4))]), xs_ai cs 192 (fun _ => 0), xs_ai cs 192 (fun _ => 0), xs_al cs 192 (fun _ => 0), xs_al cs 192 (fun _ => 0)] := by
  unfold xc_LP; rw [xc_wl_n, xc_wl_n]
theorem xc_P_init (l : Launch) (D : va_G) (cs : xs_cs) (N q : Nat) (ct : Nat → va_E) : xc_I l D cs y_P_init b_P_init 1 1 22 4 768 [.ref (N + q)] N (q + 1) (xc_L ct q [.inr (4, f0_P)]) (q + 5) (xc_L ct q (xc_LP cs N q 192 0)) := by
  refine xc_entry (by decide) (Nat.le_of_ble_eq_true rfl) ?_
  intro p e s m below meth c ls X hr hlk hnm hO G hl
  have X : xs_C p s m c b_P_init 1 _ R_P := X
  have hx := X.1
  have hb := X.2.1
  have hl : lv_has ls 1 [(0, .ref (N + (q + 0)))] := hl
  have G : xc_G D cs s (fun z => N ≤ z) s.heap N (q + 1) (xc_L ct q [.inr (4, [.null, .null, .null, .null])]) s.heap [] := G
  refine lv_aload_n (pc := 0) hx hb d_P_init_0 rfl (lv_at hl 0 rfl) ?_
  refine xl_obj (pc := 1) X wo_P wo2 wo3 hl.1 d_P_init_1 (Nat.le_of_ble_eq_true rfl) (Nat.le_of_ble_eq_true rfl) ?_
  refine lv_aload_n (pc := 4) hx hb d_P_init_4 rfl (lv_at hl 0 rfl) ?_
  refine lv_sipush (pc := 5) (v := (192 : Int32)) hx hb d_P_init_5 (by decide) ?_
  refine xl_newi (pc := 8) (k := 1) (len := 192) rfl X G wai (by decide) (by decide) (by decide) (Nat.le_of_ble_eq_true rfl) (Nat.le_of_ble_eq_true rfl) d_P_init_8 (fun H G => ?_)
  refine xl_putF (pc := 10) (k := 2) (j := 0) (f := 0) (ci := 4) (ty := ty_P 0) rfl X G hnm in_P ty_P_ok nm_P rfl rfl (by decide) (xs_tg 68 (by decide +kernel) (by decide +kernel)) rfl rfl (ty_P_ok 0 (by decide)) rfl rfl (Nat.le_of_ble_eq_true rfl) d_P_init_10 (fun H locs G => ?_)
  have G : xc_G D cs s (fun z => N ≤ z) s.heap N (q + 2) (xc_L ct q [.inr (4, [.ref (N + (q + 1)), .null, .null, .null]), xs_ai cs 192 (fun _ => 0)]) H locs := G
  refine lv_aload_n (pc := 13) hx hb d_P_init_13 rfl (lv_at hl 0 rfl) ?_
  refine lv_sipush (pc := 14) (v := (192 : Int32)) hx hb d_P_init_14 (by decide) ?_
  refine xl_newi (pc := 17) (k := 2) (len := 192) rfl X G wai (by decide) (by decide) (by decide) (Nat.le_of_ble_eq_true rfl) (Nat.le_of_ble_eq_true rfl) d_P_init_17 (fun H G => ?_)
  refine xl_putF (pc := 19) (k := 3) (j := 0) (f := 1) (ci := 4) (ty := ty_P 1) rfl X G hnm in_P ty_P_ok nm_P rfl rfl (by decide) (xs_tg 70 (by decide +kernel) (by decide +kernel)) rfl rfl (ty_P_ok 1 (by decide)) rfl rfl (Nat.le_of_ble_eq_true rfl) d_P_init_19 (fun H locs G => ?_)
  have G : xc_G D cs s (fun z => N ≤ z) s.heap N (q + 3) (xc_L ct q [.inr (4, [.ref (N + (q + 1)), .ref (N + (q + 2)), .null, .null]), xs_ai cs 192 (fun _ => 0), xs_ai cs 192 (fun _ => 0)]) H locs := G
  refine lv_aload_n (pc := 22) hx hb d_P_init_22 rfl (lv_at hl 0 rfl) ?_
  refine lv_sipush (pc := 23) (v := (192 : Int32)) hx hb d_P_init_23 (by decide) ?_
  refine xl_newl (pc := 26) (k := 3) (len := 192) rfl X G wal (by decide) (by decide) (by decide) (Nat.le_of_ble_eq_true rfl) (Nat.le_of_ble_eq_true rfl) d_P_init_26 (fun H G => ?_)
  refine xl_putF (pc := 28) (k := 4) (j := 0) (f := 2) (ci := 4) (ty := ty_P 2) rfl X G hnm in_P ty_P_ok nm_P rfl rfl (by decide) (xs_tg 72 (by decide +kernel) (by decide +kernel)) rfl rfl (ty_P_ok 2 (by decide)) rfl rfl (Nat.le_of_ble_eq_true rfl) d_P_init_28 (fun H locs G => ?_)
  have G : xc_G D cs s (fun z => N ≤ z) s.heap N (q + 4) (xc_L ct q [.inr (4, [.ref (N + (q + 1)), .ref (N + (q + 2)), .ref (N + (q + 3)), .null]), xs_ai cs 192 (fun _ => 0), xs_ai cs 192 (fun _ => 0), xs_al cs 192 (fun _ => 0)]) H locs := G
  refine lv_aload_n (pc := 31) hx hb d_P_init_31 rfl (lv_at hl 0 rfl) ?_
  refine lv_sipush (pc := 32) (v := (192 : Int32)) hx hb d_P_init_32 (by decide) ?_
  refine xl_newl (pc := 35) (k := 4) (len := 192) rfl X G wal (by decide) (by decide) (by decide) (Nat.le_of_ble_eq_true rfl) (Nat.le_of_ble_eq_true rfl) d_P_init_35 (fun H G => ?_)
  refine xl_putF (pc := 37) (k := 5) (j := 0) (f := 3) (ci := 4) (ty := ty_P 3) rfl X G hnm in_P ty_P_ok nm_P rfl rfl (by decide) (xs_tg 73 (by decide +kernel) (by decide +kernel)) rfl rfl (ty_P_ok 3 (by decide)) rfl rfl (Nat.le_of_ble_eq_true rfl) d_P_init_37 (fun H locs G => ?_)
  have G : xc_G D cs s (fun z => N ≤ z) s.heap N (q + 5) (xc_L ct q [.inr (4, [.ref (N + (q + 1)), .ref (N + (q + 2)), .ref (N + (q + 3)), .ref (N + (q + 4))]), xs_ai cs 192 (fun _ => 0), xs_ai cs 192 (fun _ => 0), xs_al cs 192 (fun _ => 0), xs_al cs 192 (fun _ => 0)]) H locs := G
  rw [← xc_LP_0] at G
  refine lv_aload_n (pc := 40) hx hb d_P_init_40 rfl (lv_at hl 0 rfl) ?_
  refine lv_iconst (pc := 41) (v := (0 : Int32)) hx hb d_P_init_41 (by decide) ?_
  refine xc_callV (pc := 42) (j := q + 0) (ci := 4) X hO (xc_P_wipe l D cs N q ct 0) km_P_25 G (by omega) (xc_L_get (j := 0) rfl) rfl ⟨Nat.le_of_ble_eq_true rfl, Nat.le_of_ble_eq_true rfl⟩ ⟨Nat.le_of_ble_eq_true rfl, Nat.le_of_ble_eq_true rfl⟩ hl.1 (Nat.le_of_ble_eq_true rfl) d_P_init_42 (fun H locs G => ?_)
  exact xc_vret hx hb hr hlk G (fun i _ => rfl) rfl rfl d_P_init_45
def xc_LR (cs : xs_cs) (N q n : Nat) : List va_E := [.inr (5, [.int 0, .ref (N + (q + 1)), .ref (N + (q + 2)), .ref (N + (q + 3)), .int 0, .int 0, .int 0, .int 0, .ref (N + (q + 4)), .int 0, .ref (N + (q + 5)), .ref (N + (q + 6)), .ref (N + (q + 7)), .ref (N + (q + 8)), .long 0, .ref (N + (q + 9)), .ref (N + (q + 10)), .ref (N + (q + 11)), .ref (N + (q + 12)), .ref (N + (q + 13)), .ref (N + (q + 14)), .ref (N + (q + 15)), .ref (N + (q + 16))]), xs_ai cs 16 xc_I4, xs_ai cs 16 (fun _ => 0), xs_ai cs 64 (fun _ => 0), xs_ai cs 128 (fun _ => 0), xs_ai cs 360 (fun _ => 0), xs_ai cs 20 (fun _ => 0), xs_ai cs 20 (fun _ => 0), xs_ai cs 20 (fun _ => 0), xs_al cs 3 (fun _ => 0), xs_al cs 3 (fun _ => 0), xs_al cs 3 (fun _ => 0), xs_al cs 3 (fun _ => 0), xs_ai cs 192 (xc_wl (-1) n), xs_ai cs 192 (fun _ => 0), xs_al cs 192 (fun _ => 0), xs_al cs 192 (fun _ => 0)]
theorem xc_R_init (l : Launch) (D : va_G) (cs : xs_cs) (N q : Nat) (ct : Nat → va_E) : xc_I l D cs y_R_init b_R_init 2 1 12 16 1424 [.ref (N + q)] N (q + 1) (xc_L ct q [.inr (5, f0_R)]) (q + 17) (xc_L ct q (xc_LR cs N q 192)) := by
  refine xc_entry (by decide) (Nat.le_of_ble_eq_true rfl) ?_
  intro p e s m below meth c ls X hr hlk hnm hO G hl
  have X : xs_C p s m c b_R_init 2 _ R_R := X
  have hx := X.1
  have hb := X.2.1
  have hl : lv_has ls 2 [(0, .ref (N + (q + 0)))] := hl
  have G : xc_G D cs s (fun z => N ≤ z) s.heap N (q + 1) (xc_L ct q [.inr (5, [.int 0, .null, .null, .null, .int 0, .int 0, .int 0, .int 0, .null, .int 0, .null, .null, .null, .null, .long 0, .null, .null, .null, .null, .null, .null, .null, .null])]) s.heap [] := G
  refine lv_aload_n (pc := 0) hx hb d_R_init_0 rfl (lv_at hl 0 rfl) ?_
  refine xl_obj (pc := 1) X wo_R wo2 wo3 hl.1 d_R_init_1 (Nat.le_of_ble_eq_true rfl) (Nat.le_of_ble_eq_true rfl) ?_
  refine lv_aload_n (pc := 4) hx hb d_R_init_4 rfl (lv_at hl 0 rfl) ?_
  refine lv_bipush (pc := 5) (v := (16 : Int32)) hx hb d_R_init_5 (by decide) ?_
  refine xl_newi (pc := 7) (k := 1) (len := 16) rfl X G wai (by decide) (by decide) (by decide) (Nat.le_of_ble_eq_true rfl) (Nat.le_of_ble_eq_true rfl) d_R_init_7 (fun H G => ?_)
  refine xl_putF (pc := 9) (k := 2) (j := 0) (f := 1) (ci := 5) (ty := ty_R 1) rfl X G hnm in_R ty_R_ok nm_R rfl rfl (by decide) (xs_tg 633 (by decide +kernel) (by decide +kernel)) rfl rfl (ty_R_ok 1 (by decide)) rfl rfl (Nat.le_of_ble_eq_true rfl) d_R_init_9 (fun H locs G => ?_)
  have G : xc_G D cs s (fun z => N ≤ z) s.heap N (q + 2) (xc_L ct q [.inr (5, [.int 0, .ref (N + (q + 1)), .null, .null, .int 0, .int 0, .int 0, .int 0, .null, .int 0, .null, .null, .null, .null, .long 0, .null, .null, .null, .null, .null, .null, .null, .null]), xs_ai cs 16 (fun _ => 0)]) H locs := G
  refine lv_aload_n (pc := 12) hx hb d_R_init_12 rfl (lv_at hl 0 rfl) ?_
  refine lv_bipush (pc := 13) (v := (16 : Int32)) hx hb d_R_init_13 (by decide) ?_
  refine xl_newi (pc := 15) (k := 2) (len := 16) rfl X G wai (by decide) (by decide) (by decide) (Nat.le_of_ble_eq_true rfl) (Nat.le_of_ble_eq_true rfl) d_R_init_15 (fun H G => ?_)
  refine xl_putF (pc := 17) (k := 3) (j := 0) (f := 2) (ci := 5) (ty := ty_R 2) rfl X G hnm in_R ty_R_ok nm_R rfl rfl (by decide) (xs_tg 634 (by decide +kernel) (by decide +kernel)) rfl rfl (ty_R_ok 2 (by decide)) rfl rfl (Nat.le_of_ble_eq_true rfl) d_R_init_17 (fun H locs G => ?_)
  have G : xc_G D cs s (fun z => N ≤ z) s.heap N (q + 3) (xc_L ct q [.inr (5, [.int 0, .ref (N + (q + 1)), .ref (N + (q + 2)), .null, .int 0, .int 0, .int 0, .int 0, .null, .int 0, .null, .null, .null, .null, .long 0, .null, .null, .null, .null, .null, .null, .null, .null]), xs_ai cs 16 (fun _ => 0), xs_ai cs 16 (fun _ => 0)]) H locs := G
  refine lv_aload_n (pc := 20) hx hb d_R_init_20 rfl (lv_at hl 0 rfl) ?_
  refine lv_bipush (pc := 21) (v := (64 : Int32)) hx hb d_R_init_21 (by decide) ?_
  refine xl_newi (pc := 23) (k := 3) (len := 64) rfl X G wai (by decide) (by decide) (by decide) (Nat.le_of_ble_eq_true rfl) (Nat.le_of_ble_eq_true rfl) d_R_init_23 (fun H G => ?_)
  refine xl_putF (pc := 25) (k := 4) (j := 0) (f := 3) (ci := 5) (ty := ty_R 3) rfl X G hnm in_R ty_R_ok nm_R rfl rfl (by decide) (xs_tg 635 (by decide +kernel) (by decide +kernel)) rfl rfl (ty_R_ok 3 (by decide)) rfl rfl (Nat.le_of_ble_eq_true rfl) d_R_init_25 (fun H locs G => ?_)
  have G : xc_G D cs s (fun z => N ≤ z) s.heap N (q + 4) (xc_L ct q [.inr (5, [.int 0, .ref (N + (q + 1)), .ref (N + (q + 2)), .ref (N + (q + 3)), .int 0, .int 0, .int 0, .int 0, .null, .int 0, .null, .null, .null, .null, .long 0, .null, .null, .null, .null, .null, .null, .null, .null]), xs_ai cs 16 (fun _ => 0), xs_ai cs 16 (fun _ => 0), xs_ai cs 64 (fun _ => 0)]) H locs := G
  refine lv_aload_n (pc := 28) hx hb d_R_init_28 rfl (lv_at hl 0 rfl) ?_
  refine lv_sipush (pc := 29) (v := (128 : Int32)) hx hb d_R_init_29 (by decide) ?_
  refine xl_newi (pc := 32) (k := 4) (len := 128) rfl X G wai (by decide) (by decide) (by decide) (Nat.le_of_ble_eq_true rfl) (Nat.le_of_ble_eq_true rfl) d_R_init_32 (fun H G => ?_)
  refine xl_putF (pc := 34) (k := 5) (j := 0) (f := 8) (ci := 5) (ty := ty_R 8) rfl X G hnm in_R ty_R_ok nm_R rfl rfl (by decide) (xs_tg 640 (by decide +kernel) (by decide +kernel)) rfl rfl (ty_R_ok 8 (by decide)) rfl rfl (Nat.le_of_ble_eq_true rfl) d_R_init_34 (fun H locs G => ?_)
  have G : xc_G D cs s (fun z => N ≤ z) s.heap N (q + 5) (xc_L ct q [.inr (5, [.int 0, .ref (N + (q + 1)), .ref (N + (q + 2)), .ref (N + (q + 3)), .int 0, .int 0, .int 0, .int 0, .ref (N + (q + 4)), .int 0, .null, .null, .null, .null, .long 0, .null, .null, .null, .null, .null, .null, .null, .null]), xs_ai cs 16 (fun _ => 0), xs_ai cs 16 (fun _ => 0), xs_ai cs 64 (fun _ => 0), xs_ai cs 128 (fun _ => 0)]) H locs := G
  refine lv_aload_n (pc := 37) hx hb d_R_init_37 rfl (lv_at hl 0 rfl) ?_
  refine lv_sipush (pc := 38) (v := (360 : Int32)) hx hb d_R_init_38 (by decide) ?_
  refine xl_newi (pc := 41) (k := 5) (len := 360) rfl X G wai (by decide) (by decide) (by decide) (Nat.le_of_ble_eq_true rfl) (Nat.le_of_ble_eq_true rfl) d_R_init_41 (fun H G => ?_)
  refine xl_putF (pc := 43) (k := 6) (j := 0) (f := 10) (ci := 5) (ty := ty_R 10) rfl X G hnm in_R ty_R_ok nm_R rfl rfl (by decide) (xs_tg 642 (by decide +kernel) (by decide +kernel)) rfl rfl (ty_R_ok 10 (by decide)) rfl rfl (Nat.le_of_ble_eq_true rfl) d_R_init_43 (fun H locs G => ?_)
  have G : xc_G D cs s (fun z => N ≤ z) s.heap N (q + 6) (xc_L ct q [.inr (5, [.int 0, .ref (N + (q + 1)), .ref (N + (q + 2)), .ref (N + (q + 3)), .int 0, .int 0, .int 0, .int 0, .ref (N + (q + 4)), .int 0, .ref (N + (q + 5)), .null, .null, .null, .long 0, .null, .null, .null, .null, .null, .null, .null, .null]), xs_ai cs 16 (fun _ => 0), xs_ai cs 16 (fun _ => 0), xs_ai cs 64 (fun _ => 0), xs_ai cs 128 (fun _ => 0), xs_ai cs 360 (fun _ => 0)]) H locs := G
  refine lv_aload_n (pc := 46) hx hb d_R_init_46 rfl (lv_at hl 0 rfl) ?_
  refine lv_bipush (pc := 47) (v := (20 : Int32)) hx hb d_R_init_47 (by decide) ?_
  refine xl_newi (pc := 49) (k := 6) (len := 20) rfl X G wai (by decide) (by decide) (by decide) (Nat.le_of_ble_eq_true rfl) (Nat.le_of_ble_eq_true rfl) d_R_init_49 (fun H G => ?_)
  refine xl_putF (pc := 51) (k := 7) (j := 0) (f := 11) (ci := 5) (ty := ty_R 11) rfl X G hnm in_R ty_R_ok nm_R rfl rfl (by decide) (xs_tg 643 (by decide +kernel) (by decide +kernel)) rfl rfl (ty_R_ok 11 (by decide)) rfl rfl (Nat.le_of_ble_eq_true rfl) d_R_init_51 (fun H locs G => ?_)
  have G : xc_G D cs s (fun z => N ≤ z) s.heap N (q + 7) (xc_L ct q [.inr (5, [.int 0, .ref (N + (q + 1)), .ref (N + (q + 2)), .ref (N + (q + 3)), .int 0, .int 0, .int 0, .int 0, .ref (N + (q + 4)), .int 0, .ref (N + (q + 5)), .ref (N + (q + 6)), .null, .null, .long 0, .null, .null, .null, .null, .null, .null, .null, .null]), xs_ai cs 16 (fun _ => 0), xs_ai cs 16 (fun _ => 0), xs_ai cs 64 (fun _ => 0), xs_ai cs 128 (fun _ => 0), xs_ai cs 360 (fun _ => 0), xs_ai cs 20 (fun _ => 0)]) H locs := G
  refine lv_aload_n (pc := 54) hx hb d_R_init_54 rfl (lv_at hl 0 rfl) ?_
  refine lv_bipush (pc := 55) (v := (20 : Int32)) hx hb d_R_init_55 (by decide) ?_
  refine xl_newi (pc := 57) (k := 7) (len := 20) rfl X G wai (by decide) (by decide) (by decide) (Nat.le_of_ble_eq_true rfl) (Nat.le_of_ble_eq_true rfl) d_R_init_57 (fun H G => ?_)
  refine xl_putF (pc := 59) (k := 8) (j := 0) (f := 12) (ci := 5) (ty := ty_R 12) rfl X G hnm in_R ty_R_ok nm_R rfl rfl (by decide) (xs_tg 644 (by decide +kernel) (by decide +kernel)) rfl rfl (ty_R_ok 12 (by decide)) rfl rfl (Nat.le_of_ble_eq_true rfl) d_R_init_59 (fun H locs G => ?_)
  have G : xc_G D cs s (fun z => N ≤ z) s.heap N (q + 8) (xc_L ct q [.inr (5, [.int 0, .ref (N + (q + 1)), .ref (N + (q + 2)), .ref (N + (q + 3)), .int 0, .int 0, .int 0, .int 0, .ref (N + (q + 4)), .int 0, .ref (N + (q + 5)), .ref (N + (q + 6)), .ref (N + (q + 7)), .null, .long 0, .null, .null, .null, .null, .null, .null, .null, .null]), xs_ai cs 16 (fun _ => 0), xs_ai cs 16 (fun _ => 0), xs_ai cs 64 (fun _ => 0), xs_ai cs 128 (fun _ => 0), xs_ai cs 360 (fun _ => 0), xs_ai cs 20 (fun _ => 0), xs_ai cs 20 (fun _ => 0)]) H locs := G
  refine lv_aload_n (pc := 62) hx hb d_R_init_62 rfl (lv_at hl 0 rfl) ?_
  refine lv_bipush (pc := 63) (v := (20 : Int32)) hx hb d_R_init_63 (by decide) ?_
  refine xl_newi (pc := 65) (k := 8) (len := 20) rfl X G wai (by decide) (by decide) (by decide) (Nat.le_of_ble_eq_true rfl) (Nat.le_of_ble_eq_true rfl) d_R_init_65 (fun H G => ?_)
  refine xl_putF (pc := 67) (k := 9) (j := 0) (f := 13) (ci := 5) (ty := ty_R 13) rfl X G hnm in_R ty_R_ok nm_R rfl rfl (by decide) (xs_tg 645 (by decide +kernel) (by decide +kernel)) rfl rfl (ty_R_ok 13 (by decide)) rfl rfl (Nat.le_of_ble_eq_true rfl) d_R_init_67 (fun H locs G => ?_)
  have G : xc_G D cs s (fun z => N ≤ z) s.heap N (q + 9) (xc_L ct q [.inr (5, [.int 0, .ref (N + (q + 1)), .ref (N + (q + 2)), .ref (N + (q + 3)), .int 0, .int 0, .int 0, .int 0, .ref (N + (q + 4)), .int 0, .ref (N + (q + 5)), .ref (N + (q + 6)), .ref (N + (q + 7)), .ref (N + (q + 8)), .long 0, .null, .null, .null, .null, .null, .null, .null, .null]), xs_ai cs 16 (fun _ => 0), xs_ai cs 16 (fun _ => 0), xs_ai cs 64 (fun _ => 0), xs_ai cs 128 (fun _ => 0), xs_ai cs 360 (fun _ => 0), xs_ai cs 20 (fun _ => 0), xs_ai cs 20 (fun _ => 0), xs_ai cs 20 (fun _ => 0)]) H locs := G
  refine lv_aload_n (pc := 70) hx hb d_R_init_70 rfl (lv_at hl 0 rfl) ?_
  refine lv_iconst (pc := 71) (v := (3 : Int32)) hx hb d_R_init_71 (by decide) ?_
  refine xl_newl (pc := 72) (k := 9) (len := 3) rfl X G wal (by decide) (by decide) (by decide) (Nat.le_of_ble_eq_true rfl) (Nat.le_of_ble_eq_true rfl) d_R_init_72 (fun H G => ?_)
  refine xl_putF (pc := 74) (k := 10) (j := 0) (f := 15) (ci := 5) (ty := ty_R 15) rfl X G hnm in_R ty_R_ok nm_R rfl rfl (by decide) (xs_tg 647 (by decide +kernel) (by decide +kernel)) rfl rfl (ty_R_ok 15 (by decide)) rfl rfl (Nat.le_of_ble_eq_true rfl) d_R_init_74 (fun H locs G => ?_)
  have G : xc_G D cs s (fun z => N ≤ z) s.heap N (q + 10) (xc_L ct q [.inr (5, [.int 0, .ref (N + (q + 1)), .ref (N + (q + 2)), .ref (N + (q + 3)), .int 0, .int 0, .int 0, .int 0, .ref (N + (q + 4)), .int 0, .ref (N + (q + 5)), .ref (N + (q + 6)), .ref (N + (q + 7)), .ref (N + (q + 8)), .long 0, .ref (N + (q + 9)), .null, .null, .null, .null, .null, .null, .null]), xs_ai cs 16 (fun _ => 0), xs_ai cs 16 (fun _ => 0), xs_ai cs 64 (fun _ => 0), xs_ai cs 128 (fun _ => 0), xs_ai cs 360 (fun _ => 0), xs_ai cs 20 (fun _ => 0), xs_ai cs 20 (fun _ => 0), xs_ai cs 20 (fun _ => 0), xs_al cs 3 (fun _ => 0)]) H locs := G
  refine lv_aload_n (pc := 77) hx hb d_R_init_77 rfl (lv_at hl 0 rfl) ?_
  refine lv_iconst (pc := 78) (v := (3 : Int32)) hx hb d_R_init_78 (by decide) ?_
  refine xl_newl (pc := 79) (k := 10) (len := 3) rfl X G wal (by decide) (by decide) (by decide) (Nat.le_of_ble_eq_true rfl) (Nat.le_of_ble_eq_true rfl) d_R_init_79 (fun H G => ?_)
  refine xl_putF (pc := 81) (k := 11) (j := 0) (f := 16) (ci := 5) (ty := ty_R 16) rfl X G hnm in_R ty_R_ok nm_R rfl rfl (by decide) (xs_tg 648 (by decide +kernel) (by decide +kernel)) rfl rfl (ty_R_ok 16 (by decide)) rfl rfl (Nat.le_of_ble_eq_true rfl) d_R_init_81 (fun H locs G => ?_)
  have G : xc_G D cs s (fun z => N ≤ z) s.heap N (q + 11) (xc_L ct q [.inr (5, [.int 0, .ref (N + (q + 1)), .ref (N + (q + 2)), .ref (N + (q + 3)), .int 0, .int 0, .int 0, .int 0, .ref (N + (q + 4)), .int 0, .ref (N + (q + 5)), .ref (N + (q + 6)), .ref (N + (q + 7)), .ref (N + (q + 8)), .long 0, .ref (N + (q + 9)), .ref (N + (q + 10)), .null, .null, .null, .null, .null, .null]), xs_ai cs 16 (fun _ => 0), xs_ai cs 16 (fun _ => 0), xs_ai cs 64 (fun _ => 0), xs_ai cs 128 (fun _ => 0), xs_ai cs 360 (fun _ => 0), xs_ai cs 20 (fun _ => 0), xs_ai cs 20 (fun _ => 0), xs_ai cs 20 (fun _ => 0), xs_al cs 3 (fun _ => 0), xs_al cs 3 (fun _ => 0)]) H locs := G
  refine lv_aload_n (pc := 84) hx hb d_R_init_84 rfl (lv_at hl 0 rfl) ?_
  refine lv_iconst (pc := 85) (v := (3 : Int32)) hx hb d_R_init_85 (by decide) ?_
  refine xl_newl (pc := 86) (k := 11) (len := 3) rfl X G wal (by decide) (by decide) (by decide) (Nat.le_of_ble_eq_true rfl) (Nat.le_of_ble_eq_true rfl) d_R_init_86 (fun H G => ?_)
  refine xl_putF (pc := 88) (k := 12) (j := 0) (f := 17) (ci := 5) (ty := ty_R 17) rfl X G hnm in_R ty_R_ok nm_R rfl rfl (by decide) (xs_tg 649 (by decide +kernel) (by decide +kernel)) rfl rfl (ty_R_ok 17 (by decide)) rfl rfl (Nat.le_of_ble_eq_true rfl) d_R_init_88 (fun H locs G => ?_)
  have G : xc_G D cs s (fun z => N ≤ z) s.heap N (q + 12) (xc_L ct q [.inr (5, [.int 0, .ref (N + (q + 1)), .ref (N + (q + 2)), .ref (N + (q + 3)), .int 0, .int 0, .int 0, .int 0, .ref (N + (q + 4)), .int 0, .ref (N + (q + 5)), .ref (N + (q + 6)), .ref (N + (q + 7)), .ref (N + (q + 8)), .long 0, .ref (N + (q + 9)), .ref (N + (q + 10)), .ref (N + (q + 11)), .null, .null, .null, .null, .null]), xs_ai cs 16 (fun _ => 0), xs_ai cs 16 (fun _ => 0), xs_ai cs 64 (fun _ => 0), xs_ai cs 128 (fun _ => 0), xs_ai cs 360 (fun _ => 0), xs_ai cs 20 (fun _ => 0), xs_ai cs 20 (fun _ => 0), xs_ai cs 20 (fun _ => 0), xs_al cs 3 (fun _ => 0), xs_al cs 3 (fun _ => 0), xs_al cs 3 (fun _ => 0)]) H locs := G
  refine lv_aload_n (pc := 91) hx hb d_R_init_91 rfl (lv_at hl 0 rfl) ?_
  refine lv_iconst (pc := 92) (v := (3 : Int32)) hx hb d_R_init_92 (by decide) ?_
  refine xl_newl (pc := 93) (k := 12) (len := 3) rfl X G wal (by decide) (by decide) (by decide) (Nat.le_of_ble_eq_true rfl) (Nat.le_of_ble_eq_true rfl) d_R_init_93 (fun H G => ?_)
  refine xl_putF (pc := 95) (k := 13) (j := 0) (f := 18) (ci := 5) (ty := ty_R 18) rfl X G hnm in_R ty_R_ok nm_R rfl rfl (by decide) (xs_tg 650 (by decide +kernel) (by decide +kernel)) rfl rfl (ty_R_ok 18 (by decide)) rfl rfl (Nat.le_of_ble_eq_true rfl) d_R_init_95 (fun H locs G => ?_)
  have G : xc_G D cs s (fun z => N ≤ z) s.heap N (q + 13) (xc_L ct q [.inr (5, [.int 0, .ref (N + (q + 1)), .ref (N + (q + 2)), .ref (N + (q + 3)), .int 0, .int 0, .int 0, .int 0, .ref (N + (q + 4)), .int 0, .ref (N + (q + 5)), .ref (N + (q + 6)), .ref (N + (q + 7)), .ref (N + (q + 8)), .long 0, .ref (N + (q + 9)), .ref (N + (q + 10)), .ref (N + (q + 11)), .ref (N + (q + 12)), .null, .null, .null, .null]), xs_ai cs 16 (fun _ => 0), xs_ai cs 16 (fun _ => 0), xs_ai cs 64 (fun _ => 0), xs_ai cs 128 (fun _ => 0), xs_ai cs 360 (fun _ => 0), xs_ai cs 20 (fun _ => 0), xs_ai cs 20 (fun _ => 0), xs_ai cs 20 (fun _ => 0), xs_al cs 3 (fun _ => 0), xs_al cs 3 (fun _ => 0), xs_al cs 3 (fun _ => 0), xs_al cs 3 (fun _ => 0)]) H locs := G
  refine lv_aload_n (pc := 98) hx hb d_R_init_98 rfl (lv_at hl 0 rfl) ?_
  refine lv_sipush (pc := 99) (v := (192 : Int32)) hx hb d_R_init_99 (by decide) ?_
  refine xl_newi (pc := 102) (k := 13) (len := 192) rfl X G wai (by decide) (by decide) (by decide) (Nat.le_of_ble_eq_true rfl) (Nat.le_of_ble_eq_true rfl) d_R_init_102 (fun H G => ?_)
  refine xl_putF (pc := 104) (k := 14) (j := 0) (f := 19) (ci := 5) (ty := ty_R 19) rfl X G hnm in_R ty_R_ok nm_R rfl rfl (by decide) (xs_tg 651 (by decide +kernel) (by decide +kernel)) rfl rfl (ty_R_ok 19 (by decide)) rfl rfl (Nat.le_of_ble_eq_true rfl) d_R_init_104 (fun H locs G => ?_)
  have G : xc_G D cs s (fun z => N ≤ z) s.heap N (q + 14) (xc_L ct q [.inr (5, [.int 0, .ref (N + (q + 1)), .ref (N + (q + 2)), .ref (N + (q + 3)), .int 0, .int 0, .int 0, .int 0, .ref (N + (q + 4)), .int 0, .ref (N + (q + 5)), .ref (N + (q + 6)), .ref (N + (q + 7)), .ref (N + (q + 8)), .long 0, .ref (N + (q + 9)), .ref (N + (q + 10)), .ref (N + (q + 11)), .ref (N + (q + 12)), .ref (N + (q + 13)), .null, .null, .null]), xs_ai cs 16 (fun _ => 0), xs_ai cs 16 (fun _ => 0), xs_ai cs 64 (fun _ => 0), xs_ai cs 128 (fun _ => 0), xs_ai cs 360 (fun _ => 0), xs_ai cs 20 (fun _ => 0), xs_ai cs 20 (fun _ => 0), xs_ai cs 20 (fun _ => 0), xs_al cs 3 (fun _ => 0), xs_al cs 3 (fun _ => 0), xs_al cs 3 (fun _ => 0), xs_al cs 3 (fun _ => 0), xs_ai cs 192 (fun _ => 0)]) H locs := G
  refine lv_aload_n (pc := 107) hx hb d_R_init_107 rfl (lv_at hl 0 rfl) ?_
  refine lv_sipush (pc := 108) (v := (192 : Int32)) hx hb d_R_init_108 (by decide) ?_
  refine xl_newi (pc := 111) (k := 14) (len := 192) rfl X G wai (by decide) (by decide) (by decide) (Nat.le_of_ble_eq_true rfl) (Nat.le_of_ble_eq_true rfl) d_R_init_111 (fun H G => ?_)
  refine xl_putF (pc := 113) (k := 15) (j := 0) (f := 20) (ci := 5) (ty := ty_R 20) rfl X G hnm in_R ty_R_ok nm_R rfl rfl (by decide) (xs_tg 652 (by decide +kernel) (by decide +kernel)) rfl rfl (ty_R_ok 20 (by decide)) rfl rfl (Nat.le_of_ble_eq_true rfl) d_R_init_113 (fun H locs G => ?_)
  have G : xc_G D cs s (fun z => N ≤ z) s.heap N (q + 15) (xc_L ct q [.inr (5, [.int 0, .ref (N + (q + 1)), .ref (N + (q + 2)), .ref (N + (q + 3)), .int 0, .int 0, .int 0, .int 0, .ref (N + (q + 4)), .int 0, .ref (N + (q + 5)), .ref (N + (q + 6)), .ref (N + (q + 7)), .ref (N + (q + 8)), .long 0, .ref (N + (q + 9)), .ref (N + (q + 10)), .ref (N + (q + 11)), .ref (N + (q + 12)), .ref (N + (q + 13)), .ref (N + (q + 14)), .null, .null]), xs_ai cs 16 (fun _ => 0), xs_ai cs 16 (fun _ => 0), xs_ai cs 64 (fun _ => 0), xs_ai cs 128 (fun _ => 0), xs_ai cs 360 (fun _ => 0), xs_ai cs 20 (fun _ => 0), xs_ai cs 20 (fun _ => 0), xs_ai cs 20 (fun _ => 0), xs_al cs 3 (fun _ => 0), xs_al cs 3 (fun _ => 0), xs_al cs 3 (fun _ => 0), xs_al cs 3 (fun _ => 0), xs_ai cs 192 (fun _ => 0), xs_ai cs 192 (fun _ => 0)]) H locs := G
  refine lv_aload_n (pc := 116) hx hb d_R_init_116 rfl (lv_at hl 0 rfl) ?_
  refine lv_sipush (pc := 117) (v := (192 : Int32)) hx hb d_R_init_117 (by decide) ?_
  refine xl_newl (pc := 120) (k := 15) (len := 192) rfl X G wal (by decide) (by decide) (by decide) (Nat.le_of_ble_eq_true rfl) (Nat.le_of_ble_eq_true rfl) d_R_init_120 (fun H G => ?_)
  refine xl_putF (pc := 122) (k := 16) (j := 0) (f := 21) (ci := 5) (ty := ty_R 21) rfl X G hnm in_R ty_R_ok nm_R rfl rfl (by decide) (xs_tg 653 (by decide +kernel) (by decide +kernel)) rfl rfl (ty_R_ok 21 (by decide)) rfl rfl (Nat.le_of_ble_eq_true rfl) d_R_init_122 (fun H locs G => ?_)
  have G : xc_G D cs s (fun z => N ≤ z) s.heap N (q + 16) (xc_L ct q [.inr (5, [.int 0, .ref (N + (q + 1)), .ref (N + (q + 2)), .ref (N + (q + 3)), .int 0, .int 0, .int 0, .int 0, .ref (N + (q + 4)), .int 0, .ref (N + (q + 5)), .ref (N + (q + 6)), .ref (N + (q + 7)), .ref (N + (q + 8)), .long 0, .ref (N + (q + 9)), .ref (N + (q + 10)), .ref (N + (q + 11)), .ref (N + (q + 12)), .ref (N + (q + 13)), .ref (N + (q + 14)), .ref (N + (q + 15)), .null]), xs_ai cs 16 (fun _ => 0), xs_ai cs 16 (fun _ => 0), xs_ai cs 64 (fun _ => 0), xs_ai cs 128 (fun _ => 0), xs_ai cs 360 (fun _ => 0), xs_ai cs 20 (fun _ => 0), xs_ai cs 20 (fun _ => 0), xs_ai cs 20 (fun _ => 0), xs_al cs 3 (fun _ => 0), xs_al cs 3 (fun _ => 0), xs_al cs 3 (fun _ => 0), xs_al cs 3 (fun _ => 0), xs_ai cs 192 (fun _ => 0), xs_ai cs 192 (fun _ => 0), xs_al cs 192 (fun _ => 0)]) H locs := G
  refine lv_aload_n (pc := 125) hx hb d_R_init_125 rfl (lv_at hl 0 rfl) ?_
  refine lv_sipush (pc := 126) (v := (192 : Int32)) hx hb d_R_init_126 (by decide) ?_
  refine xl_newl (pc := 129) (k := 16) (len := 192) rfl X G wal (by decide) (by decide) (by decide) (Nat.le_of_ble_eq_true rfl) (Nat.le_of_ble_eq_true rfl) d_R_init_129 (fun H G => ?_)
  refine xl_putF (pc := 131) (k := 17) (j := 0) (f := 22) (ci := 5) (ty := ty_R 22) rfl X G hnm in_R ty_R_ok nm_R rfl rfl (by decide) (xs_tg 654 (by decide +kernel) (by decide +kernel)) rfl rfl (ty_R_ok 22 (by decide)) rfl rfl (Nat.le_of_ble_eq_true rfl) d_R_init_131 (fun H locs G => ?_)
  have G : xc_G D cs s (fun z => N ≤ z) s.heap N (q + 17) (xc_L ct q [.inr (5, [.int 0, .ref (N + (q + 1)), .ref (N + (q + 2)), .ref (N + (q + 3)), .int 0, .int 0, .int 0, .int 0, .ref (N + (q + 4)), .int 0, .ref (N + (q + 5)), .ref (N + (q + 6)), .ref (N + (q + 7)), .ref (N + (q + 8)), .long 0, .ref (N + (q + 9)), .ref (N + (q + 10)), .ref (N + (q + 11)), .ref (N + (q + 12)), .ref (N + (q + 13)), .ref (N + (q + 14)), .ref (N + (q + 15)), .ref (N + (q + 16))]), xs_ai cs 16 (fun _ => 0), xs_ai cs 16 (fun _ => 0), xs_ai cs 64 (fun _ => 0), xs_ai cs 128 (fun _ => 0), xs_ai cs 360 (fun _ => 0), xs_ai cs 20 (fun _ => 0), xs_ai cs 20 (fun _ => 0), xs_ai cs 20 (fun _ => 0), xs_al cs 3 (fun _ => 0), xs_al cs 3 (fun _ => 0), xs_al cs 3 (fun _ => 0), xs_al cs 3 (fun _ => 0), xs_ai cs 192 (fun _ => 0), xs_ai cs 192 (fun _ => 0), xs_al cs 192 (fun _ => 0), xs_al cs 192 (fun _ => 0)]) H locs := G
  refine lv_iconst (pc := 134) (v := (0 : Int32)) hx hb d_R_init_134 (by decide) ?_
  refine lv_istore_n (pc := 135) hx hb d_R_init_135 rfl hl (by decide) (lv' := [(1, .int (0 : Int32)), (0, .ref (N + (q + 0)))]) rfl (fun ls hl => ?_)
  have hl := lv_sub hl [1, 0] rfl
  have hl : lv_has ls 2 [(0, .ref (N + (q + 0))), (1, .int (0 : Int32))] := hl
  refine lv_iload_n (pc := 136) hx hb d_R_init_136 rfl (lv_at hl 1 rfl) ?_
  refine lv_iconst (pc := 137) (v := (4 : Int32)) hx hb d_R_init_137 (by decide) ?_
  refine lv_icmp_ge (pc := 138) (tgt := 156) hx hb d_R_init_138 (by decide) (fun hc => absurd hc (by decide)) (fun hc => ?_)
  refine lv_aload_n (pc := 141) hx hb d_R_init_141 rfl (lv_at hl 0 rfl) ?_
  refine xl_get1 (pc := 142) (k := 17) (j := 0) (f := 1) (ci := 5) rfl X G in_R rfl rfl (by decide) (xs_tg 633 (by decide +kernel) (by decide +kernel)) rfl d_R_init_142 ?_
  refine lv_iconst (pc := 145) (v := (5 : Int32)) hx hb d_R_init_145 (by decide) ?_
  refine lv_iload_n (pc := 146) hx hb d_R_init_146 rfl (lv_at hl 1 rfl) ?_
  refine lv_imul (pc := 147) hx hb d_R_init_147 ?_
  refine lv_iconst (pc := 148) (v := (1 : Int32)) hx hb d_R_init_148 (by decide) ?_
  refine xl_iast (pc := 149) (k := 17) (j := 1) (len := 16) rfl hx hb G rfl (xs_inP (by decide)) d_R_init_149 (fun H locs G => ?_)
  rw [show ((5 : Int32) * 0).toNatClampNeg = 0 by decide] at G
  have G : xc_G D cs s (fun z => N ≤ z) s.heap N (q + 17) (xc_L ct q [.inr (5, [.int 0, .ref (N + (q + 1)), .ref (N + (q + 2)), .ref (N + (q + 3)), .int 0, .int 0, .int 0, .int 0, .ref (N + (q + 4)), .int 0, .ref (N + (q + 5)), .ref (N + (q + 6)), .ref (N + (q + 7)), .ref (N + (q + 8)), .long 0, .ref (N + (q + 9)), .ref (N + (q + 10)), .ref (N + (q + 11)), .ref (N + (q + 12)), .ref (N + (q + 13)), .ref (N + (q + 14)), .ref (N + (q + 15)), .ref (N + (q + 16))]), xs_ai cs 16 (upd (fun _ => 0) 0 1), xs_ai cs 16 (fun _ => 0), xs_ai cs 64 (fun _ => 0), xs_ai cs 128 (fun _ => 0), xs_ai cs 360 (fun _ => 0), xs_ai cs 20 (fun _ => 0), xs_ai cs 20 (fun _ => 0), xs_ai cs 20 (fun _ => 0), xs_al cs 3 (fun _ => 0), xs_al cs 3 (fun _ => 0), xs_al cs 3 (fun _ => 0), xs_al cs 3 (fun _ => 0), xs_ai cs 192 (fun _ => 0), xs_ai cs 192 (fun _ => 0), xs_al cs 192 (fun _ => 0), xs_al cs 192 (fun _ => 0)]) H locs := G
  refine lv_iinc (pc := 150) (v := (1 : Int32)) (k := 1) hx hb d_R_init_150 hl rfl (by decide) (by decide) (lv' := [(1, .int (1 : Int32)), (0, .ref (N + (q + 0)))]) rfl (fun ls hl => ?_)
  have hl := lv_sub hl [1, 0] rfl
  refine lv_goto (pc := 153) (tgt := 136) hx hb d_R_init_153 (by decide) ?_
  have hl : lv_has ls 2 [(0, .ref (N + (q + 0))), (1, .int (1 : Int32))] := hl
  refine lv_iload_n (pc := 136) hx hb d_R_init_136 rfl (lv_at hl 1 rfl) ?_
  refine lv_iconst (pc := 137) (v := (4 : Int32)) hx hb d_R_init_137 (by decide) ?_
  refine lv_icmp_ge (pc := 138) (tgt := 156) hx hb d_R_init_138 (by decide) (fun hc => absurd hc (by decide)) (fun hc => ?_)
  refine lv_aload_n (pc := 141) hx hb d_R_init_141 rfl (lv_at hl 0 rfl) ?_
  refine xl_get1 (pc := 142) (k := 17) (j := 0) (f := 1) (ci := 5) rfl X G in_R rfl rfl (by decide) (xs_tg 633 (by decide +kernel) (by decide +kernel)) rfl d_R_init_142 ?_
  refine lv_iconst (pc := 145) (v := (5 : Int32)) hx hb d_R_init_145 (by decide) ?_
  refine lv_iload_n (pc := 146) hx hb d_R_init_146 rfl (lv_at hl 1 rfl) ?_
  refine lv_imul (pc := 147) hx hb d_R_init_147 ?_
  refine lv_iconst (pc := 148) (v := (1 : Int32)) hx hb d_R_init_148 (by decide) ?_
  refine xl_iast (pc := 149) (k := 17) (j := 1) (len := 16) rfl hx hb G rfl (xs_inP (by decide)) d_R_init_149 (fun H locs G => ?_)
  rw [show ((5 : Int32) * 1).toNatClampNeg = 5 by decide] at G
  have G : xc_G D cs s (fun z => N ≤ z) s.heap N (q + 17) (xc_L ct q [.inr (5, [.int 0, .ref (N + (q + 1)), .ref (N + (q + 2)), .ref (N + (q + 3)), .int 0, .int 0, .int 0, .int 0, .ref (N + (q + 4)), .int 0, .ref (N + (q + 5)), .ref (N + (q + 6)), .ref (N + (q + 7)), .ref (N + (q + 8)), .long 0, .ref (N + (q + 9)), .ref (N + (q + 10)), .ref (N + (q + 11)), .ref (N + (q + 12)), .ref (N + (q + 13)), .ref (N + (q + 14)), .ref (N + (q + 15)), .ref (N + (q + 16))]), xs_ai cs 16 (upd (upd (fun _ => 0) 0 1) 5 1), xs_ai cs 16 (fun _ => 0), xs_ai cs 64 (fun _ => 0), xs_ai cs 128 (fun _ => 0), xs_ai cs 360 (fun _ => 0), xs_ai cs 20 (fun _ => 0), xs_ai cs 20 (fun _ => 0), xs_ai cs 20 (fun _ => 0), xs_al cs 3 (fun _ => 0), xs_al cs 3 (fun _ => 0), xs_al cs 3 (fun _ => 0), xs_al cs 3 (fun _ => 0), xs_ai cs 192 (fun _ => 0), xs_ai cs 192 (fun _ => 0), xs_al cs 192 (fun _ => 0), xs_al cs 192 (fun _ => 0)]) H locs := G
  refine lv_iinc (pc := 150) (v := (2 : Int32)) (k := 1) hx hb d_R_init_150 hl rfl (by decide) (by decide) (lv' := [(1, .int (2 : Int32)), (0, .ref (N + (q + 0)))]) rfl (fun ls hl => ?_)
  have hl := lv_sub hl [1, 0] rfl
  refine lv_goto (pc := 153) (tgt := 136) hx hb d_R_init_153 (by decide) ?_
  have hl : lv_has ls 2 [(0, .ref (N + (q + 0))), (1, .int (2 : Int32))] := hl
  refine lv_iload_n (pc := 136) hx hb d_R_init_136 rfl (lv_at hl 1 rfl) ?_
  refine lv_iconst (pc := 137) (v := (4 : Int32)) hx hb d_R_init_137 (by decide) ?_
  refine lv_icmp_ge (pc := 138) (tgt := 156) hx hb d_R_init_138 (by decide) (fun hc => absurd hc (by decide)) (fun hc => ?_)
  refine lv_aload_n (pc := 141) hx hb d_R_init_141 rfl (lv_at hl 0 rfl) ?_
  refine xl_get1 (pc := 142) (k := 17) (j := 0) (f := 1) (ci := 5) rfl X G in_R rfl rfl (by decide) (xs_tg 633 (by decide +kernel) (by decide +kernel)) rfl d_R_init_142 ?_
  refine lv_iconst (pc := 145) (v := (5 : Int32)) hx hb d_R_init_145 (by decide) ?_
  refine lv_iload_n (pc := 146) hx hb d_R_init_146 rfl (lv_at hl 1 rfl) ?_
  refine lv_imul (pc := 147) hx hb d_R_init_147 ?_
  refine lv_iconst (pc := 148) (v := (1 : Int32)) hx hb d_R_init_148 (by decide) ?_
  refine xl_iast (pc := 149) (k := 17) (j := 1) (len := 16) rfl hx hb G rfl (xs_inP (by decide)) d_R_init_149 (fun H locs G => ?_)
  rw [show ((5 : Int32) * 2).toNatClampNeg = 10 by decide] at G
  have G : xc_G D cs s (fun z => N ≤ z) s.heap N (q + 17) (xc_L ct q [.inr (5, [.int 0, .ref (N + (q + 1)), .ref (N + (q + 2)), .ref (N + (q + 3)), .int 0, .int 0, .int 0, .int 0, .ref (N + (q + 4)), .int 0, .ref (N + (q + 5)), .ref (N + (q + 6)), .ref (N + (q + 7)), .ref (N + (q + 8)), .long 0, .ref (N + (q + 9)), .ref (N + (q + 10)), .ref (N + (q + 11)), .ref (N + (q + 12)), .ref (N + (q + 13)), .ref (N + (q + 14)), .ref (N + (q + 15)), .ref (N + (q + 16))]), xs_ai cs 16 (upd (upd (upd (fun _ => 0) 0 1) 5 1) 10 1), xs_ai cs 16 (fun _ => 0), xs_ai cs 64 (fun _ => 0), xs_ai cs 128 (fun _ => 0), xs_ai cs 360 (fun _ => 0), xs_ai cs 20 (fun _ => 0), xs_ai cs 20 (fun _ => 0), xs_ai cs 20 (fun _ => 0), xs_al cs 3 (fun _ => 0), xs_al cs 3 (fun _ => 0), xs_al cs 3 (fun _ => 0), xs_al cs 3 (fun _ => 0), xs_ai cs 192 (fun _ => 0), xs_ai cs 192 (fun _ => 0), xs_al cs 192 (fun _ => 0), xs_al cs 192 (fun _ => 0)]) H locs := G
  refine lv_iinc (pc := 150) (v := (3 : Int32)) (k := 1) hx hb d_R_init_150 hl rfl (by decide) (by decide) (lv' := [(1, .int (3 : Int32)), (0, .ref (N + (q + 0)))]) rfl (fun ls hl => ?_)
  have hl := lv_sub hl [1, 0] rfl
  refine lv_goto (pc := 153) (tgt := 136) hx hb d_R_init_153 (by decide) ?_
  have hl : lv_has ls 2 [(0, .ref (N + (q + 0))), (1, .int (3 : Int32))] := hl
  refine lv_iload_n (pc := 136) hx hb d_R_init_136 rfl (lv_at hl 1 rfl) ?_
  refine lv_iconst (pc := 137) (v := (4 : Int32)) hx hb d_R_init_137 (by decide) ?_
  refine lv_icmp_ge (pc := 138) (tgt := 156) hx hb d_R_init_138 (by decide) (fun hc => absurd hc (by decide)) (fun hc => ?_)
  refine lv_aload_n (pc := 141) hx hb d_R_init_141 rfl (lv_at hl 0 rfl) ?_
  refine xl_get1 (pc := 142) (k := 17) (j := 0) (f := 1) (ci := 5) rfl X G in_R rfl rfl (by decide) (xs_tg 633 (by decide +kernel) (by decide +kernel)) rfl d_R_init_142 ?_
  refine lv_iconst (pc := 145) (v := (5 : Int32)) hx hb d_R_init_145 (by decide) ?_
  refine lv_iload_n (pc := 146) hx hb d_R_init_146 rfl (lv_at hl 1 rfl) ?_
  refine lv_imul (pc := 147) hx hb d_R_init_147 ?_
  refine lv_iconst (pc := 148) (v := (1 : Int32)) hx hb d_R_init_148 (by decide) ?_
  refine xl_iast (pc := 149) (k := 17) (j := 1) (len := 16) rfl hx hb G rfl (xs_inP (by decide)) d_R_init_149 (fun H locs G => ?_)
  rw [show ((5 : Int32) * 3).toNatClampNeg = 15 by decide] at G
  have G : xc_G D cs s (fun z => N ≤ z) s.heap N (q + 17) (xc_L ct q [.inr (5, [.int 0, .ref (N + (q + 1)), .ref (N + (q + 2)), .ref (N + (q + 3)), .int 0, .int 0, .int 0, .int 0, .ref (N + (q + 4)), .int 0, .ref (N + (q + 5)), .ref (N + (q + 6)), .ref (N + (q + 7)), .ref (N + (q + 8)), .long 0, .ref (N + (q + 9)), .ref (N + (q + 10)), .ref (N + (q + 11)), .ref (N + (q + 12)), .ref (N + (q + 13)), .ref (N + (q + 14)), .ref (N + (q + 15)), .ref (N + (q + 16))]), xs_ai cs 16 (upd (upd (upd (upd (fun _ => 0) 0 1) 5 1) 10 1) 15 1), xs_ai cs 16 (fun _ => 0), xs_ai cs 64 (fun _ => 0), xs_ai cs 128 (fun _ => 0), xs_ai cs 360 (fun _ => 0), xs_ai cs 20 (fun _ => 0), xs_ai cs 20 (fun _ => 0), xs_ai cs 20 (fun _ => 0), xs_al cs 3 (fun _ => 0), xs_al cs 3 (fun _ => 0), xs_al cs 3 (fun _ => 0), xs_al cs 3 (fun _ => 0), xs_ai cs 192 (fun _ => 0), xs_ai cs 192 (fun _ => 0), xs_al cs 192 (fun _ => 0), xs_al cs 192 (fun _ => 0)]) H locs := G
  refine lv_iinc (pc := 150) (v := (4 : Int32)) (k := 1) hx hb d_R_init_150 hl rfl (by decide) (by decide) (lv' := [(1, .int (4 : Int32)), (0, .ref (N + (q + 0)))]) rfl (fun ls hl => ?_)
  have hl := lv_sub hl [1, 0] rfl
  refine lv_goto (pc := 153) (tgt := 136) hx hb d_R_init_153 (by decide) ?_
  have hl : lv_has ls 2 [(0, .ref (N + (q + 0))), (1, .int (4 : Int32))] := hl
  refine lv_iload_n (pc := 136) hx hb d_R_init_136 rfl (lv_at hl 1 rfl) ?_
  refine lv_iconst (pc := 137) (v := (4 : Int32)) hx hb d_R_init_137 (by decide) ?_
  refine lv_icmp_ge (pc := 138) (tgt := 156) hx hb d_R_init_138 (by decide) (fun hc => ?_) (fun hc => absurd (show (4 : Int32) ≤ 4 by decide) hc)
  have G : xc_G D cs s (fun z => N ≤ z) s.heap N (q + 17) (xc_L ct q (xc_LR cs N q 0)) H locs := by
    unfold xc_LR; rw [xc_wl_n]; exact G
  have L2 : ∀ (r n : Nat) (H : Heap) (locs : List Loc) (ls : Array Slot), n + r = 192 → xc_G D cs s (fun z => N ≤ z) s.heap N (q + 17) (xc_L ct q (xc_LR cs N q n)) H locs → lv_has ls 2 [(0, .ref (N + (q + 0))), (1, .int (Int32.ofNat n))] →
      W p l e (xc_rm 1 12 16 1424) s m [Value.ref (N + q)].toArray below meth c H locs 16 1424 (xc_E below D [.ref (N + q)] s N (q + 17) (xc_L ct q (xc_LR cs N q 192)) 16 1424) (F0 m 158 ls []) := by
    clear G hl hc
    intro r
    induction r with
    | zero =>
      intro n H locs ls hn G hl
      have hn : n = 192 := by omega
      subst hn
      refine lv_iload_n (pc := 158) hx hb d_R_init_158 rfl (lv_at hl 1 rfl) ?_
      refine lv_sipush (pc := 159) (v := (192 : Int32)) hx hb d_R_init_159 (by decide) ?_
      refine lv_icmp_ge (pc := 162) (tgt := 178) hx hb d_R_init_162 (by decide) (fun hc => ?_) (fun hc => absurd (show (192 : Int32) ≤ Int32.ofNat 192 by decide) hc)
      exact xc_vret hx hb hr hlk G (fun i _ => rfl) rfl rfl d_R_init_178
    | succ r ih =>
      intro n H locs ls hn G hl
      have hlt : n < 192 := by omega
      have hcl : (Int32.ofNat n).toNatClampNeg = n := Int32.toNatClampNeg_ofNat_of_lt (by omega)
      have hge : ¬ (192 : Int32) ≤ Int32.ofNat n := by
        rw [show (192 : Int32) = Int32.ofNat 192 from rfl, Int32.le_iff_toInt_le, Int32.toInt_ofNat_of_lt (by decide), Int32.toInt_ofNat_of_lt (by omega)]; omega
      have hin : vp_in (Int32.ofNat n) 192 := by
        rintro (h | h)
        · rw [Int32.lt_iff_toInt_lt, Int32.toInt_ofNat_of_lt (by omega)] at h
          have h : (n : Int) < 0 := h
          omega
        · rw [hcl] at h; omega
      refine lv_iload_n (pc := 158) hx hb d_R_init_158 rfl (lv_at hl 1 rfl) ?_
      refine lv_sipush (pc := 159) (v := (192 : Int32)) hx hb d_R_init_159 (by decide) ?_
      refine lv_icmp_ge (pc := 162) (tgt := 178) hx hb d_R_init_162 (by decide) (fun hc => absurd hc hge) (fun hc => ?_)
      refine lv_aload_n (pc := 165) hx hb d_R_init_165 rfl (lv_at hl 0 rfl) ?_
      refine xl_get1 (pc := 166) (k := 17) (j := 0) (f := 19) (ci := 5) rfl X G in_R rfl rfl (by decide) (xs_tg 651 (by decide +kernel) (by decide +kernel)) rfl d_R_init_166 ?_
      refine lv_iload_n (pc := 169) hx hb d_R_init_169 rfl (lv_at hl 1 rfl) ?_
      refine lv_iconst (pc := 170) (v := (-1 : Int32)) hx hb d_R_init_170 (by decide) ?_
      refine xl_iast (pc := 171) (k := 17) (j := 13) (len := 192) rfl hx hb G rfl hin d_R_init_171 (fun H locs G => ?_)
      rw [hcl, xc_wl_s] at G
      refine lv_iinc (pc := 172) (v := Int32.ofNat (n + 1)) (k := 1) hx hb d_R_init_172 hl rfl (xs_inc _ |>.trans (Int32.ofNat_add n 1).symm) (by decide) (lv' := [(1, .int (Int32.ofNat (n + 1))), (0, .ref (N + (q + 0)))]) rfl (fun ls hl => ?_)
      refine lv_goto (pc := 175) (tgt := 158) hx hb d_R_init_175 (by decide) ?_
      exact ih (n + 1) H locs ls (by omega) G (lv_sub hl [1, 0] rfl)
  refine lv_iconst (pc := 156) (v := (0 : Int32)) hx hb d_R_init_156 (by decide) ?_
  refine lv_istore_n (pc := 157) hx hb d_R_init_157 rfl hl (by decide) (lv' := [(1, .int (0 : Int32)), (0, .ref (N + (q + 0)))]) rfl (fun ls hl => ?_)
  exact L2 192 0 _ _ ls (by omega) G (lv_sub hl [1, 0] rfl)
