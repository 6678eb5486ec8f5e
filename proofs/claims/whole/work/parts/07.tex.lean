theorem d_X_isTexture_0 : decode b_X_isTexture 0 = .ok (.iload_n 0, 1) := by decide +kernel
theorem d_X_isTexture_1 : decode b_X_isTexture 1 = .ok (.iconst 0, 1) := by decide +kernel
theorem d_X_isTexture_2 : decode b_X_isTexture 2 = .ok (.iconst 1, 1) := by decide +kernel
theorem d_X_isTexture_3 : decode b_X_isTexture 3 = .ok (.invokestatic 13, 3) := by decide +kernel
theorem d_X_isTexture_6 : decode b_X_isTexture 6 = .ok (.ireturn, 1) := by decide +kernel
theorem d_X_isLine_0 : decode b_X_isLine 0 = .ok (.iload_n 0, 1) := by decide +kernel
theorem d_X_isLine_1 : decode b_X_isLine 1 = .ok (.iconst 0, 1) := by decide +kernel
theorem d_X_isLine_2 : decode b_X_isLine 2 = .ok (.bipush (7), 2) := by decide +kernel
theorem d_X_isLine_4 : decode b_X_isLine 4 = .ok (.invokestatic 13, 3) := by decide +kernel
theorem d_X_isLine_7 : decode b_X_isLine 7 = .ok (.ireturn, 1) := by decide +kernel
theorem d_X_indexOf_0 : decode b_X_indexOf 0 = .ok (.iload_n 0, 1) := by decide +kernel
theorem d_X_indexOf_1 : decode b_X_indexOf 1 = .ok (.bipush (8), 2) := by decide +kernel
theorem d_X_indexOf_3 : decode b_X_indexOf 3 = .ok (.imul, 1) := by decide +kernel
theorem d_X_indexOf_4 : decode b_X_indexOf 4 = .ok (.iload_n 2, 1) := by decide +kernel
theorem d_X_indexOf_5 : decode b_X_indexOf 5 = .ok (.iadd, 1) := by decide +kernel
theorem d_X_indexOf_6 : decode b_X_indexOf 6 = .ok (.bipush (8), 2) := by decide +kernel
theorem d_X_indexOf_8 : decode b_X_indexOf 8 = .ok (.imul, 1) := by decide +kernel
theorem d_X_indexOf_9 : decode b_X_indexOf 9 = .ok (.iload_n 1, 1) := by decide +kernel
theorem d_X_indexOf_10 : decode b_X_indexOf 10 = .ok (.iadd, 1) := by decide +kernel
theorem d_X_indexOf_11 : decode b_X_indexOf 11 = .ok (.ireturn, 1) := by decide +kernel
theorem d_X_exchange_0 : decode b_X_exchange 0 = .ok (.aload_n 0, 1) := by decide +kernel
theorem d_X_exchange_1 : decode b_X_exchange 1 = .ok (.getfield 9, 3) := by decide +kernel
theorem d_X_exchange_4 : decode b_X_exchange 4 = .ok (.iload_n 1, 1) := by decide +kernel
theorem d_X_exchange_5 : decode b_X_exchange 5 = .ok (.iaload, 1) := by decide +kernel
theorem d_X_exchange_6 : decode b_X_exchange 6 = .ok (.istore_n 3, 1) := by decide +kernel
theorem d_X_exchange_7 : decode b_X_exchange 7 = .ok (.aload_n 0, 1) := by decide +kernel
theorem d_X_exchange_8 : decode b_X_exchange 8 = .ok (.getfield 9, 3) := by decide +kernel
theorem d_X_exchange_11 : decode b_X_exchange 11 = .ok (.iload_n 1, 1) := by decide +kernel
theorem d_X_exchange_12 : decode b_X_exchange 12 = .ok (.iload_n 2, 1) := by decide +kernel
theorem d_X_exchange_13 : decode b_X_exchange 13 = .ok (.iastore, 1) := by decide +kernel
theorem d_X_exchange_14 : decode b_X_exchange 14 = .ok (.iload_n 3, 1) := by decide +kernel
theorem d_X_exchange_15 : decode b_X_exchange 15 = .ok (.ireturn, 1) := by decide +kernel
theorem d_X_wrap_0 : decode b_X_wrap 0 = .ok (.iload_n 0, 1) := by decide +kernel
theorem d_X_wrap_1 : decode b_X_wrap 1 = .ok (.ifCond .ne (12), 3) := by decide +kernel
theorem d_X_wrap_4 : decode b_X_wrap 4 = .ok (.lload_n 1, 1) := by decide +kernel
theorem d_X_wrap_5 : decode b_X_wrap 5 = .ok (.ldc2_w 19, 3) := by decide +kernel
theorem d_X_wrap_8 : decode b_X_wrap 8 = .ok (.invokestatic 21, 3) := by decide +kernel
theorem d_X_wrap_11 : decode b_X_wrap 11 = .ok (.l2i, 1) := by decide +kernel
theorem d_X_wrap_12 : decode b_X_wrap 12 = .ok (.ireturn, 1) := by decide +kernel
theorem d_X_wrap_13 : decode b_X_wrap 13 = .ok (.lconst 0, 1) := by decide +kernel
theorem d_X_wrap_14 : decode b_X_wrap 14 = .ok (.lload_n 1, 1) := by decide +kernel
theorem d_X_wrap_15 : decode b_X_wrap 15 = .ok (.ldc2_w 27, 3) := by decide +kernel
theorem d_X_wrap_18 : decode b_X_wrap 18 = .ok (.invokestatic 29, 3) := by decide +kernel
theorem d_X_wrap_21 : decode b_X_wrap 21 = .ok (.invokestatic 32, 3) := by decide +kernel
theorem d_X_wrap_24 : decode b_X_wrap 24 = .ok (.l2i, 1) := by decide +kernel
theorem d_X_wrap_25 : decode b_X_wrap 25 = .ok (.ireturn, 1) := by decide +kernel
def fn_X_isTexture (μ0 : xs_M) (x0 : Int32) : Option Int32 :=
  ((fn_S_isWithin μ0 x0 (0 : Int32) (1 : Int32)).bind fun w1 => (if w1 = 0 ∨ w1 = 1 then some (w1) else none))
set_option maxHeartbeats 4000000 in
set_option maxRecDepth 100000 in
theorem ok_X_isTexture (l : Launch) (D : va_G) (ad : Nat → Nat) (cs : xs_cs) (hJ : xs_J ad) {μ0 : xs_M} {x0 : Int32}  {rz : Int32} (hE : fn_X_isTexture μ0 x0 = some rz) : xs_I l D ad cs y_X_isTexture b_X_isTexture 1 (some .boolean) 1 22 [.int (x0)] μ0 (some (.int rz)) μ0 := by
  refine xs_entry hJ (by decide) (Nat.le_of_ble_eq_true rfl) ?_
  intro p e s m below meth c ls X hr hlk G hl
  have X : xs_C p s m c b_X_isTexture 1 _ "ExactScene$Textures" := X
  have hx := X.1
  have hb := X.2.1
  have hl : lv_has ls 1 [(0, .int (x0))] := hl
  unfold fn_X_isTexture at hE
  refine lv_iload_n (pc := 0) hx hb d_X_isTexture_0 rfl (lv_at hl 0 rfl) ?_
  refine lv_iconst (pc := 1) (v := (0 : Int32)) hx hb d_X_isTexture_1 (by decide) ?_
  refine lv_iconst (pc := 2) (v := (1 : Int32)) hx hb d_X_isTexture_2 (by decide) ?_
  obtain ⟨w1, hw1, hE⟩ := xs_b hE
  refine xs_callSNr (pc := 3) (as := [.int (x0), .int ((0 : Int32)), .int ((1 : Int32))]) X (ok_S_isWithin l D ad cs hJ hw1) km_X_13 G ⟨by decide, by decide⟩ ⟨Nat.zero_le _, Nat.zero_le _⟩ rfl hl.1 rfl (Nat.le_of_ble_eq_true rfl) d_X_isTexture_3 (fun H locs G => ?_)
  obtain ⟨hz2, hE⟩ := xs_n hE
  cases hE
  exact xs_zret (pc := 6) hx hb hr hlk G hz2 d_X_isTexture_6
def fn_X_isLine (μ0 : xs_M) (x0 : Int32) : Option Int32 :=
  ((fn_S_isWithin μ0 x0 (0 : Int32) (7 : Int32)).bind fun w1 => (if w1 = 0 ∨ w1 = 1 then some (w1) else none))
set_option maxHeartbeats 4000000 in
set_option maxRecDepth 100000 in
theorem ok_X_isLine (l : Launch) (D : va_G) (ad : Nat → Nat) (cs : xs_cs) (hJ : xs_J ad) {μ0 : xs_M} {x0 : Int32}  {rz : Int32} (hE : fn_X_isLine μ0 x0 = some rz) : xs_I l D ad cs y_X_isLine b_X_isLine 1 (some .boolean) 1 22 [.int (x0)] μ0 (some (.int rz)) μ0 := by
  refine xs_entry hJ (by decide) (Nat.le_of_ble_eq_true rfl) ?_
  intro p e s m below meth c ls X hr hlk G hl
  have X : xs_C p s m c b_X_isLine 1 _ "ExactScene$Textures" := X
  have hx := X.1
  have hb := X.2.1
  have hl : lv_has ls 1 [(0, .int (x0))] := hl
  unfold fn_X_isLine at hE
  refine lv_iload_n (pc := 0) hx hb d_X_isLine_0 rfl (lv_at hl 0 rfl) ?_
  refine lv_iconst (pc := 1) (v := (0 : Int32)) hx hb d_X_isLine_1 (by decide) ?_
  refine lv_bipush (pc := 2) (v := (7 : Int32)) hx hb d_X_isLine_2 (by decide) ?_
  obtain ⟨w1, hw1, hE⟩ := xs_b hE
  refine xs_callSNr (pc := 4) (as := [.int (x0), .int ((0 : Int32)), .int ((7 : Int32))]) X (ok_S_isWithin l D ad cs hJ hw1) km_X_13 G ⟨by decide, by decide⟩ ⟨Nat.zero_le _, Nat.zero_le _⟩ rfl hl.1 rfl (Nat.le_of_ble_eq_true rfl) d_X_isLine_4 (fun H locs G => ?_)
  obtain ⟨hz2, hE⟩ := xs_n hE
  cases hE
  exact xs_zret (pc := 7) hx hb hr hlk G hz2 d_X_isLine_7
def fn_X_indexOf (μ0 : xs_M) (x0 : Int32) (x1 : Int32) (x2 : Int32) : Option Int32 :=
  some (((((x0 * (8 : Int32)) + x2) * (8 : Int32)) + x1))
set_option maxHeartbeats 4000000 in
set_option maxRecDepth 100000 in
theorem ok_X_indexOf (l : Launch) (D : va_G) (ad : Nat → Nat) (cs : xs_cs) (hJ : xs_J ad) {μ0 : xs_M} {x0 : Int32} {x1 : Int32} {x2 : Int32}  {rz : Int32} (hE : fn_X_indexOf μ0 x0 x1 x2 = some rz) : xs_I l D ad cs y_X_indexOf b_X_indexOf 3 (some .int) 0 0 [.int (x0), .int (x1), .int (x2)] μ0 (some (.int rz)) μ0 := by
  refine xs_entry hJ (by decide) (Nat.le_of_ble_eq_true rfl) ?_
  intro p e s m below meth c ls X hr hlk G hl
  have X : xs_C p s m c b_X_indexOf 3 _ "ExactScene$Textures" := X
  have hx := X.1
  have hb := X.2.1
  have hl : lv_has ls 3 [(0, .int (x0)), (1, .int (x1)), (2, .int (x2))] := hl
  unfold fn_X_indexOf at hE
  refine lv_iload_n (pc := 0) hx hb d_X_indexOf_0 rfl (lv_at hl 0 rfl) ?_
  refine lv_bipush (pc := 1) (v := (8 : Int32)) hx hb d_X_indexOf_1 (by decide) ?_
  refine lv_imul (pc := 3) hx hb d_X_indexOf_3 ?_
  refine lv_iload_n (pc := 4) hx hb d_X_indexOf_4 rfl (lv_at hl 2 rfl) ?_
  refine lv_iadd (pc := 5) hx hb d_X_indexOf_5 ?_
  refine lv_bipush (pc := 6) (v := (8 : Int32)) hx hb d_X_indexOf_6 (by decide) ?_
  refine lv_imul (pc := 8) hx hb d_X_indexOf_8 ?_
  refine lv_iload_n (pc := 9) hx hb d_X_indexOf_9 rfl (lv_at hl 1 rfl) ?_
  refine lv_iadd (pc := 10) hx hb d_X_indexOf_10 ?_
  cases hE
  exact xs_iret (pc := 11) hx hb hr hlk G d_X_indexOf_11
def fn_X_exchange (μ0 : xs_M) (x0 : Int32) (x1 : Int32) : Option (Int32 × xs_M) :=
  (if xs_in x0 128 = true then ((some (μ0.1 7 x0.toNatClampNeg)).bind fun a2 => (if xs_in x0 128 = true then ((some (xs_si μ0 7 x0.toNatClampNeg (x1))).bind fun μ4 => some ((a2, μ4))) else none)) else none)
set_option maxHeartbeats 4000000 in
set_option maxRecDepth 100000 in
theorem ok_X_exchange (l : Launch) (D : va_G) (ad : Nat → Nat) (cs : xs_cs) (hJ : xs_J ad) {μ0 : xs_M} {x0 : Int32} {x1 : Int32}  {rz : (Int32 × xs_M)} (hE : fn_X_exchange μ0 x0 x1 = some rz) : xs_I l D ad cs y_X_exchange b_X_exchange 4 (some .int) 0 0 [.ref (ad 6), .int (x0), .int (x1)] μ0 (some (.int rz.1)) rz.2 := by
  refine xs_entry hJ (by decide) (Nat.le_of_ble_eq_true rfl) ?_
  intro p e s m below meth c ls X hr hlk G hl
  have X : xs_C p s m c b_X_exchange 4 _ "ExactScene$Textures" := X
  have hx := X.1
  have hb := X.2.1
  have hl : lv_has ls 4 [(0, .ref (ad 6)), (1, .int (x0)), (2, .int (x1))] := hl
  unfold fn_X_exchange at hE
  refine lv_aload_n (pc := 0) hx hb d_X_exchange_0 rfl (lv_at hl 0 rfl) ?_
  refine gf_X_9 (pc := 1) X G d_X_exchange_1 ?_
  refine lv_iload_n (pc := 4) hx hb d_X_exchange_4 rfl (lv_at hl 1 rfl) ?_
  obtain ⟨hi1, hE⟩ := xs_n hE
  refine xs_iald (pc := 5) hx hb G ia_7 (xs_inP hi1) d_X_exchange_5 ?_
  obtain ⟨a2, ha2, hE⟩ := xs_b hE
  refine xs_ti ha2 ?_
  clear ha2
  refine lv_istore_n (pc := 6) hx hb d_X_exchange_6 rfl hl (by decide) (lv' := [(3, .int (a2)), (0, .ref (ad 6)), (1, .int (x0)), (2, .int (x1))]) rfl (fun ls hl => ?_)
  refine lv_aload_n (pc := 7) hx hb d_X_exchange_7 rfl (lv_at hl 1 rfl) ?_
  refine gf_X_9 (pc := 8) X G d_X_exchange_8 ?_
  refine lv_iload_n (pc := 11) hx hb d_X_exchange_11 rfl (lv_at hl 2 rfl) ?_
  refine lv_iload_n (pc := 12) hx hb d_X_exchange_12 rfl (lv_at hl 3 rfl) ?_
  obtain ⟨hi3, hE⟩ := xs_n hE
  refine xs_iast (pc := 13) hx hb G ia_7 (xs_inP hi3) d_X_exchange_13 (fun H locs G => ?_)
  obtain ⟨μ4, hμ4, hE⟩ := xs_b hE
  have G := xs_mv G hμ4
  clear hμ4
  refine lv_iload_n (pc := 14) hx hb d_X_exchange_14 rfl (lv_at hl 0 rfl) ?_
  cases hE
  exact xs_iret (pc := 15) hx hb hr hlk G d_X_exchange_15
def fn_X_wrap (μ0 : xs_M) (x0 : Int32) (x1 : Int64) : Option Int32 :=
  (if x0 = 0 then ((fn_J_floorMod μ0 x1 (8 : Int64)).bind fun w3 => some ((w3).toInt32)) else ((fn_J_min μ0 x1 (7 : Int64)).bind fun w1 => ((fn_J_max μ0 (0 : Int64) w1).bind fun w2 => some ((w2).toInt32))))
set_option maxHeartbeats 4000000 in
set_option maxRecDepth 100000 in
theorem ok_X_wrap (l : Launch) (D : va_G) (ad : Nat → Nat) (cs : xs_cs) (hJ : xs_J ad) {μ0 : xs_M} {x0 : Int32} {x1 : Int64}  {rz : Int32} (hE : fn_X_wrap μ0 x0 x1 = some rz) : xs_I l D ad cs y_X_wrap b_X_wrap 3 (some .int) 1 25 [.int (x0), .long (x1)] μ0 (some (.int rz)) μ0 := by
  refine xs_entry hJ (by decide) (Nat.le_of_ble_eq_true rfl) ?_
  intro p e s m below meth c ls X hr hlk G hl
  have X : xs_C p s m c b_X_wrap 3 _ "ExactScene$Textures" := X
  have hx := X.1
  have hb := X.2.1
  have hl : lv_has ls 3 [(0, .int (x0)), (1, .long (x1))] := hl
  unfold fn_X_wrap at hE
  refine lv_iload_n (pc := 0) hx hb d_X_wrap_0 rfl (lv_at hl 0 rfl) ?_
  refine lv_if_ne (pc := 1) (tgt := 13) hx hb d_X_wrap_1 (by decide) (fun hc => ?_) (fun hc => ?_)
  · have hE := xs_f hE hc
    refine lv_lconst (pc := 13) (v := (0 : Int64)) hx hb d_X_wrap_13 (by decide) ?_
    refine lv_lload_n (pc := 14) hx hb d_X_wrap_14 rfl (lv_at hl 1 rfl) ?_
    refine lv_ldc2 (pc := 15) (v := (7 : Int64)) hx hb X.2.2.2.1 (X.2.2.2.2.1 _ cl_X_27) d_X_wrap_15 ?_
    obtain ⟨w1, hw1, hE⟩ := xs_b hE
    refine xs_callSr (pc := 18) (as := [.long (x1), .long ((7 : Int64))]) X (ok_J_min l D ad cs hJ hw1) km_X_29 G ⟨by decide, by decide⟩ ⟨Nat.zero_le _, Nat.zero_le _⟩ rfl hl.1 rfl (Nat.le_of_ble_eq_true rfl) d_X_wrap_18 (fun H locs G => ?_)
    obtain ⟨w2, hw2, hE⟩ := xs_b hE
    refine xs_callSr (pc := 21) (as := [.long ((0 : Int64)), .long (w1)]) X (ok_J_max l D ad cs hJ hw2) km_X_32 G ⟨by decide, by decide⟩ ⟨Nat.zero_le _, Nat.zero_le _⟩ rfl hl.1 rfl (Nat.le_of_ble_eq_true rfl) d_X_wrap_21 (fun H locs G => ?_)
    refine lv_l2i (pc := 24) hx hb d_X_wrap_24 rfl ?_
    cases hE
    exact xs_iret (pc := 25) hx hb hr hlk G d_X_wrap_25
  · have hE := xs_t hE hc
    refine lv_lload_n (pc := 4) hx hb d_X_wrap_4 rfl (lv_at hl 1 rfl) ?_
    refine lv_ldc2 (pc := 5) (v := (8 : Int64)) hx hb X.2.2.2.1 (X.2.2.2.2.1 _ cl_X_19) d_X_wrap_5 ?_
    obtain ⟨w3, hw3, hE⟩ := xs_b hE
    refine xs_callSr (pc := 8) (as := [.long (x1), .long ((8 : Int64))]) X (ok_J_floorMod l D ad cs hJ hw3) km_X_21 G ⟨by decide, by decide⟩ ⟨Nat.zero_le _, Nat.zero_le _⟩ rfl hl.1 rfl (Nat.le_of_ble_eq_true rfl) d_X_wrap_8 (fun H locs G => ?_)
    refine lv_l2i (pc := 11) hx hb d_X_wrap_11 rfl ?_
    cases hE
    exact xs_iret (pc := 12) hx hb hr hlk G d_X_wrap_12
