/-! a method of a class of the JDK's that the machine has entries for -/
theorem xs_entryF {l : Launch} {D : va_G} {ad : Nat → Nat} {cs : xs_cs} {y : MethodName} {bc : ByteArray} {mL : Nat} {rt : Option FieldType} {d w : Nat} {as : List Value} {μ : xs_M} {r : Option Value} {μ2 : xs_M} (hJ : xs_J ad) (hy : plainFor y = true) (hn : (lg_sl as).length ≤ mL)
    (body : ∀ (p : Program) (e : Env) (s : State) (m : MethodId) (below : List Frame) (meth : Method) (c : Code) (ls : Array Slot), xs_C p s m c bc mL as.toArray y.cls → meth.sig.returnType = rt → meth.locks = false → xs_G D ad cs s (xs_A ad s.heap.size) s.heap μ s.heap [] → lv_has ls mL (lv_args 0 as) →
      W p l e (xs_rm d w) s m as.toArray below meth c s.heap [] 0 0 (xs_E below D ad cs as s r μ2) (F0 m 0 ls [])) : xs_I l D ad cs y bc mL rt d w as μ r μ2 := by
  intro sz
  refine va_MetF (cc := bc) (maxL := mL) (ret := rt) hy rfl ?_
  intro p e s m args below meth c s₁ B hml hv
  obtain ⟨rfl, hsz, hP, hK, hN⟩ := hv
  subst hsz
  have hts := atoms_spec (ws := .code y bc mL rt :: xs_TG) B.pre
  have hown : s.vm.findClass y.cls = some m.cls := findClass_of_methodNamed B.named
  have hl := lv_entry as (n := mL) hn
  rw [lg_entry_eq]
  exact body p e s m below meth c _ ⟨B.exec, B.bytes, hml, hown, fun w h => hts w (List.mem_cons_of_mem _ h), hN⟩ B.returns B.notSynchronized ⟨hK, hP, ⟨hJ, fun i hi => Or.inl ⟨i, hi, rfl⟩⟩, va_S.rf, fun q h => Or.inr h⟩ hl
theorem d_J_floorDiv_0 : decode b_J_floorDiv 0 = .ok (.lload_n 0, 1) := by decide +kernel
theorem d_J_floorDiv_1 : decode b_J_floorDiv 1 = .ok (.lload_n 2, 1) := by decide +kernel
theorem d_J_floorDiv_2 : decode b_J_floorDiv 2 = .ok (.ldiv, 1) := by decide +kernel
theorem d_J_floorDiv_3 : decode b_J_floorDiv 3 = .ok (.lstore 4, 2) := by decide +kernel
theorem d_J_floorDiv_5 : decode b_J_floorDiv 5 = .ok (.lload_n 0, 1) := by decide +kernel
theorem d_J_floorDiv_6 : decode b_J_floorDiv 6 = .ok (.lload_n 2, 1) := by decide +kernel
theorem d_J_floorDiv_7 : decode b_J_floorDiv 7 = .ok (.lxor, 1) := by decide +kernel
theorem d_J_floorDiv_8 : decode b_J_floorDiv 8 = .ok (.lconst 0, 1) := by decide +kernel
theorem d_J_floorDiv_9 : decode b_J_floorDiv 9 = .ok (.lcmp, 1) := by decide +kernel
theorem d_J_floorDiv_10 : decode b_J_floorDiv 10 = .ok (.ifCond .ge (17), 3) := by decide +kernel
theorem d_J_floorDiv_13 : decode b_J_floorDiv 13 = .ok (.lload 4, 2) := by decide +kernel
theorem d_J_floorDiv_15 : decode b_J_floorDiv 15 = .ok (.lload_n 2, 1) := by decide +kernel
theorem d_J_floorDiv_16 : decode b_J_floorDiv 16 = .ok (.lmul, 1) := by decide +kernel
theorem d_J_floorDiv_17 : decode b_J_floorDiv 17 = .ok (.lload_n 0, 1) := by decide +kernel
theorem d_J_floorDiv_18 : decode b_J_floorDiv 18 = .ok (.lcmp, 1) := by decide +kernel
theorem d_J_floorDiv_19 : decode b_J_floorDiv 19 = .ok (.ifCond .eq (8), 3) := by decide +kernel
theorem d_J_floorDiv_22 : decode b_J_floorDiv 22 = .ok (.lload 4, 2) := by decide +kernel
theorem d_J_floorDiv_24 : decode b_J_floorDiv 24 = .ok (.lconst 1, 1) := by decide +kernel
theorem d_J_floorDiv_25 : decode b_J_floorDiv 25 = .ok (.lsub, 1) := by decide +kernel
theorem d_J_floorDiv_26 : decode b_J_floorDiv 26 = .ok (.lreturn, 1) := by decide +kernel
theorem d_J_floorDiv_27 : decode b_J_floorDiv 27 = .ok (.lload 4, 2) := by decide +kernel
theorem d_J_floorDiv_29 : decode b_J_floorDiv 29 = .ok (.lreturn, 1) := by decide +kernel
theorem d_J_floorMod_0 : decode b_J_floorMod 0 = .ok (.lload_n 0, 1) := by decide +kernel
theorem d_J_floorMod_1 : decode b_J_floorMod 1 = .ok (.lload_n 2, 1) := by decide +kernel
theorem d_J_floorMod_2 : decode b_J_floorMod 2 = .ok (.lrem, 1) := by decide +kernel
theorem d_J_floorMod_3 : decode b_J_floorMod 3 = .ok (.lstore 4, 2) := by decide +kernel
theorem d_J_floorMod_5 : decode b_J_floorMod 5 = .ok (.lload_n 0, 1) := by decide +kernel
theorem d_J_floorMod_6 : decode b_J_floorMod 6 = .ok (.lload_n 2, 1) := by decide +kernel
theorem d_J_floorMod_7 : decode b_J_floorMod 7 = .ok (.lxor, 1) := by decide +kernel
theorem d_J_floorMod_8 : decode b_J_floorMod 8 = .ok (.lconst 0, 1) := by decide +kernel
theorem d_J_floorMod_9 : decode b_J_floorMod 9 = .ok (.lcmp, 1) := by decide +kernel
theorem d_J_floorMod_10 : decode b_J_floorMod 10 = .ok (.ifCond .ge (15), 3) := by decide +kernel
theorem d_J_floorMod_13 : decode b_J_floorMod 13 = .ok (.lload 4, 2) := by decide +kernel
theorem d_J_floorMod_15 : decode b_J_floorMod 15 = .ok (.lconst 0, 1) := by decide +kernel
theorem d_J_floorMod_16 : decode b_J_floorMod 16 = .ok (.lcmp, 1) := by decide +kernel
theorem d_J_floorMod_17 : decode b_J_floorMod 17 = .ok (.ifCond .eq (8), 3) := by decide +kernel
theorem d_J_floorMod_20 : decode b_J_floorMod 20 = .ok (.lload 4, 2) := by decide +kernel
theorem d_J_floorMod_22 : decode b_J_floorMod 22 = .ok (.lload_n 2, 1) := by decide +kernel
theorem d_J_floorMod_23 : decode b_J_floorMod 23 = .ok (.ladd, 1) := by decide +kernel
theorem d_J_floorMod_24 : decode b_J_floorMod 24 = .ok (.lreturn, 1) := by decide +kernel
theorem d_J_floorMod_25 : decode b_J_floorMod 25 = .ok (.lload 4, 2) := by decide +kernel
theorem d_J_floorMod_27 : decode b_J_floorMod 27 = .ok (.lreturn, 1) := by decide +kernel
theorem d_J_max_0 : decode b_J_max 0 = .ok (.lload_n 0, 1) := by decide +kernel
theorem d_J_max_1 : decode b_J_max 1 = .ok (.lload_n 2, 1) := by decide +kernel
theorem d_J_max_2 : decode b_J_max 2 = .ok (.lcmp, 1) := by decide +kernel
theorem d_J_max_3 : decode b_J_max 3 = .ok (.ifCond .lt (7), 3) := by decide +kernel
theorem d_J_max_6 : decode b_J_max 6 = .ok (.lload_n 0, 1) := by decide +kernel
theorem d_J_max_7 : decode b_J_max 7 = .ok (.goto (4), 3) := by decide +kernel
theorem d_J_max_10 : decode b_J_max 10 = .ok (.lload_n 2, 1) := by decide +kernel
theorem d_J_max_11 : decode b_J_max 11 = .ok (.lreturn, 1) := by decide +kernel
theorem d_J_min_0 : decode b_J_min 0 = .ok (.lload_n 0, 1) := by decide +kernel
theorem d_J_min_1 : decode b_J_min 1 = .ok (.lload_n 2, 1) := by decide +kernel
theorem d_J_min_2 : decode b_J_min 2 = .ok (.lcmp, 1) := by decide +kernel
theorem d_J_min_3 : decode b_J_min 3 = .ok (.ifCond .gt (7), 3) := by decide +kernel
theorem d_J_min_6 : decode b_J_min 6 = .ok (.lload_n 0, 1) := by decide +kernel
theorem d_J_min_7 : decode b_J_min 7 = .ok (.goto (4), 3) := by decide +kernel
theorem d_J_min_10 : decode b_J_min 10 = .ok (.lload_n 2, 1) := by decide +kernel
theorem d_J_min_11 : decode b_J_min 11 = .ok (.lreturn, 1) := by decide +kernel
theorem d_S_isWithin_0 : decode b_S_isWithin 0 = .ok (.iload_n 0, 1) := by decide +kernel
theorem d_S_isWithin_1 : decode b_S_isWithin 1 = .ok (.iload_n 1, 1) := by decide +kernel
theorem d_S_isWithin_2 : decode b_S_isWithin 2 = .ok (.if_icmp .lt (12), 3) := by decide +kernel
theorem d_S_isWithin_5 : decode b_S_isWithin 5 = .ok (.iload_n 0, 1) := by decide +kernel
theorem d_S_isWithin_6 : decode b_S_isWithin 6 = .ok (.iload_n 2, 1) := by decide +kernel
theorem d_S_isWithin_7 : decode b_S_isWithin 7 = .ok (.if_icmp .gt (7), 3) := by decide +kernel
theorem d_S_isWithin_10 : decode b_S_isWithin 10 = .ok (.iconst 1, 1) := by decide +kernel
theorem d_S_isWithin_11 : decode b_S_isWithin 11 = .ok (.goto (4), 3) := by decide +kernel
theorem d_S_isWithin_14 : decode b_S_isWithin 14 = .ok (.iconst 0, 1) := by decide +kernel
theorem d_S_isWithin_15 : decode b_S_isWithin 15 = .ok (.ireturn, 1) := by decide +kernel
theorem d_S_isPlace_0 : decode b_S_isPlace 0 = .ok (.iload_n 0, 1) := by decide +kernel
theorem d_S_isPlace_1 : decode b_S_isPlace 1 = .ok (.bipush (-31), 2) := by decide +kernel
theorem d_S_isPlace_3 : decode b_S_isPlace 3 = .ok (.bipush (31), 2) := by decide +kernel
theorem d_S_isPlace_5 : decode b_S_isPlace 5 = .ok (.invokestatic 70, 3) := by decide +kernel
theorem d_S_isPlace_8 : decode b_S_isPlace 8 = .ok (.ireturn, 1) := by decide +kernel
theorem d_S_isTexturePlace_0 : decode b_S_isTexturePlace 0 = .ok (.iload_n 0, 1) := by decide +kernel
theorem d_S_isTexturePlace_1 : decode b_S_isTexturePlace 1 = .ok (.bipush (-127), 2) := by decide +kernel
theorem d_S_isTexturePlace_3 : decode b_S_isTexturePlace 3 = .ok (.bipush (127), 2) := by decide +kernel
theorem d_S_isTexturePlace_5 : decode b_S_isTexturePlace 5 = .ok (.invokestatic 70, 3) := by decide +kernel
theorem d_S_isTexturePlace_8 : decode b_S_isTexturePlace 8 = .ok (.ireturn, 1) := by decide +kernel
theorem d_S_cutDown_0 : decode b_S_cutDown 0 = .ok (.lload_n 2, 1) := by decide +kernel
theorem d_S_cutDown_1 : decode b_S_cutDown 1 = .ok (.lconst 0, 1) := by decide +kernel
theorem d_S_cutDown_2 : decode b_S_cutDown 2 = .ok (.lcmp, 1) := by decide +kernel
theorem d_S_cutDown_3 : decode b_S_cutDown 3 = .ok (.ifCond .le (11), 3) := by decide +kernel
theorem d_S_cutDown_6 : decode b_S_cutDown 6 = .ok (.lload_n 0, 1) := by decide +kernel
theorem d_S_cutDown_7 : decode b_S_cutDown 7 = .ok (.lload_n 2, 1) := by decide +kernel
theorem d_S_cutDown_8 : decode b_S_cutDown 8 = .ok (.invokestatic 243, 3) := by decide +kernel
theorem d_S_cutDown_11 : decode b_S_cutDown 11 = .ok (.goto (4), 3) := by decide +kernel
theorem d_S_cutDown_14 : decode b_S_cutDown 14 = .ok (.lconst 0, 1) := by decide +kernel
theorem d_S_cutDown_15 : decode b_S_cutDown 15 = .ok (.lreturn, 1) := by decide +kernel
def fn_J_floorDiv (μ0 : xs_M) (x0 : Int64) (x1 : Int64) : Option Int64 :=
  (if ¬ x1 = 0 then ((some (x0 / x1)).bind fun a2 => (if 0 ≤ (lg_cmp (x0 ^^^ x1) (0 : Int64)) then some (a2) else (if (lg_cmp (a2 * x1) x0) = 0 then some (a2) else some ((a2 - (1 : Int64)))))) else none)
set_option maxHeartbeats 4000000 in
set_option maxRecDepth 100000 in
theorem ok_J_floorDiv (l : Launch) (D : va_G) (ad : Nat → Nat) (cs : xs_cs) (hJ : xs_J ad) {μ0 : xs_M} {x0 : Int64} {x1 : Int64}  {rz : Int64} (hE : fn_J_floorDiv μ0 x0 x1 = some rz) : xs_I l D ad cs y_J_floorDiv b_J_floorDiv 6 (some .long) 0 0 [.long (x0), .long (x1)] μ0 (some (.long rz)) μ0 := by
  refine xs_entryF hJ (by decide +kernel) (Nat.le_of_ble_eq_true rfl) ?_
  intro p e s m below meth c ls X hr hlk G hl
  have X : xs_C p s m c b_J_floorDiv 6 _ "java/lang/Math" := X
  have hx := X.1
  have hb := X.2.1
  have hl : lv_has ls 6 [(0, .long (x0)), (2, .long (x1))] := hl
  unfold fn_J_floorDiv at hE
  refine lv_lload_n (pc := 0) hx hb d_J_floorDiv_0 rfl (lv_at hl 0 rfl) ?_
  refine lv_lload_n (pc := 1) hx hb d_J_floorDiv_1 rfl (lv_at hl 1 rfl) ?_
  obtain ⟨hz1, hE⟩ := xs_n hE
  refine lv_ldiv (pc := 2) hx hb d_J_floorDiv_2 hz1 ?_
  obtain ⟨a2, ha2, hE⟩ := xs_b hE
  refine xs_tl ha2 ?_
  clear ha2
  refine lv_lstore (pc := 3) hx hb d_J_floorDiv_3 hl (by decide) (lv' := [(4, .long (a2)), (0, .long (x0)), (2, .long (x1))]) rfl (fun ls hl => ?_)
  refine lv_lload_n (pc := 5) hx hb d_J_floorDiv_5 rfl (lv_at hl 1 rfl) ?_
  refine lv_lload_n (pc := 6) hx hb d_J_floorDiv_6 rfl (lv_at hl 2 rfl) ?_
  refine lv_lxor (pc := 7) hx hb d_J_floorDiv_7 ?_
  refine lv_lconst (pc := 8) (v := (0 : Int64)) hx hb d_J_floorDiv_8 (by decide) ?_
  refine W.lcmp (pc := 9) hx hb d_J_floorDiv_9 ?_
  refine lv_if_ge (pc := 10) (tgt := 27) hx hb d_J_floorDiv_10 (by decide) (fun hc => ?_) (fun hc => ?_)
  · have hE := xs_t hE hc
    refine lv_lload (pc := 27) hx hb d_J_floorDiv_27 (lv_at hl 0 rfl) ?_
    cases hE
    exact xs_lret (pc := 29) hx hb hr hlk G d_J_floorDiv_29
  · have hE := xs_f hE hc
    refine lv_lload (pc := 13) hx hb d_J_floorDiv_13 (lv_at hl 0 rfl) ?_
    refine lv_lload_n (pc := 15) hx hb d_J_floorDiv_15 rfl (lv_at hl 2 rfl) ?_
    refine lv_lmul (pc := 16) hx hb d_J_floorDiv_16 ?_
    refine lv_lload_n (pc := 17) hx hb d_J_floorDiv_17 rfl (lv_at hl 1 rfl) ?_
    refine W.lcmp (pc := 18) hx hb d_J_floorDiv_18 ?_
    refine lv_if_eq (pc := 19) (tgt := 27) hx hb d_J_floorDiv_19 (by decide) (fun hc => ?_) (fun hc => ?_)
    · have hE := xs_t hE hc
      refine lv_lload (pc := 27) hx hb d_J_floorDiv_27 (lv_at hl 0 rfl) ?_
      cases hE
      exact xs_lret (pc := 29) hx hb hr hlk G d_J_floorDiv_29
    · have hE := xs_f hE hc
      refine lv_lload (pc := 22) hx hb d_J_floorDiv_22 (lv_at hl 0 rfl) ?_
      refine lv_lconst (pc := 24) (v := (1 : Int64)) hx hb d_J_floorDiv_24 (by decide) ?_
      refine lv_lsub (pc := 25) hx hb d_J_floorDiv_25 ?_
      cases hE
      exact xs_lret (pc := 26) hx hb hr hlk G d_J_floorDiv_26
def fn_J_floorMod (μ0 : xs_M) (x0 : Int64) (x1 : Int64) : Option Int64 :=
  (if ¬ x1 = 0 then ((some (x0 - x0 / x1 * x1)).bind fun a2 => (if 0 ≤ (lg_cmp (x0 ^^^ x1) (0 : Int64)) then some (a2) else (if (lg_cmp a2 (0 : Int64)) = 0 then some (a2) else some ((a2 + x1))))) else none)
set_option maxHeartbeats 4000000 in
set_option maxRecDepth 100000 in
theorem ok_J_floorMod (l : Launch) (D : va_G) (ad : Nat → Nat) (cs : xs_cs) (hJ : xs_J ad) {μ0 : xs_M} {x0 : Int64} {x1 : Int64}  {rz : Int64} (hE : fn_J_floorMod μ0 x0 x1 = some rz) : xs_I l D ad cs y_J_floorMod b_J_floorMod 6 (some .long) 0 0 [.long (x0), .long (x1)] μ0 (some (.long rz)) μ0 := by
  refine xs_entryF hJ (by decide +kernel) (Nat.le_of_ble_eq_true rfl) ?_
  intro p e s m below meth c ls X hr hlk G hl
  have X : xs_C p s m c b_J_floorMod 6 _ "java/lang/Math" := X
  have hx := X.1
  have hb := X.2.1
  have hl : lv_has ls 6 [(0, .long (x0)), (2, .long (x1))] := hl
  unfold fn_J_floorMod at hE
  refine lv_lload_n (pc := 0) hx hb d_J_floorMod_0 rfl (lv_at hl 0 rfl) ?_
  refine lv_lload_n (pc := 1) hx hb d_J_floorMod_1 rfl (lv_at hl 1 rfl) ?_
  obtain ⟨hz1, hE⟩ := xs_n hE
  refine lv_lrem (pc := 2) hx hb d_J_floorMod_2 hz1 ?_
  obtain ⟨a2, ha2, hE⟩ := xs_b hE
  refine xs_tl ha2 ?_
  clear ha2
  refine lv_lstore (pc := 3) hx hb d_J_floorMod_3 hl (by decide) (lv' := [(4, .long (a2)), (0, .long (x0)), (2, .long (x1))]) rfl (fun ls hl => ?_)
  refine lv_lload_n (pc := 5) hx hb d_J_floorMod_5 rfl (lv_at hl 1 rfl) ?_
  refine lv_lload_n (pc := 6) hx hb d_J_floorMod_6 rfl (lv_at hl 2 rfl) ?_
  refine lv_lxor (pc := 7) hx hb d_J_floorMod_7 ?_
  refine lv_lconst (pc := 8) (v := (0 : Int64)) hx hb d_J_floorMod_8 (by decide) ?_
  refine W.lcmp (pc := 9) hx hb d_J_floorMod_9 ?_
  refine lv_if_ge (pc := 10) (tgt := 25) hx hb d_J_floorMod_10 (by decide) (fun hc => ?_) (fun hc => ?_)
  · have hE := xs_t hE hc
    refine lv_lload (pc := 25) hx hb d_J_floorMod_25 (lv_at hl 0 rfl) ?_
    cases hE
    exact xs_lret (pc := 27) hx hb hr hlk G d_J_floorMod_27
  · have hE := xs_f hE hc
    refine lv_lload (pc := 13) hx hb d_J_floorMod_13 (lv_at hl 0 rfl) ?_
    refine lv_lconst (pc := 15) (v := (0 : Int64)) hx hb d_J_floorMod_15 (by decide) ?_
    refine W.lcmp (pc := 16) hx hb d_J_floorMod_16 ?_
    refine lv_if_eq (pc := 17) (tgt := 25) hx hb d_J_floorMod_17 (by decide) (fun hc => ?_) (fun hc => ?_)
    · have hE := xs_t hE hc
      refine lv_lload (pc := 25) hx hb d_J_floorMod_25 (lv_at hl 0 rfl) ?_
      cases hE
      exact xs_lret (pc := 27) hx hb hr hlk G d_J_floorMod_27
    · have hE := xs_f hE hc
      refine lv_lload (pc := 20) hx hb d_J_floorMod_20 (lv_at hl 0 rfl) ?_
      refine lv_lload_n (pc := 22) hx hb d_J_floorMod_22 rfl (lv_at hl 2 rfl) ?_
      refine lv_ladd (pc := 23) hx hb d_J_floorMod_23 ?_
      cases hE
      exact xs_lret (pc := 24) hx hb hr hlk G d_J_floorMod_24
def fn_J_max (μ0 : xs_M) (x0 : Int64) (x1 : Int64) : Option Int64 :=
  (if (lg_cmp x0 x1) < 0 then some (x1) else some (x0))
set_option maxHeartbeats 4000000 in
set_option maxRecDepth 100000 in
theorem ok_J_max (l : Launch) (D : va_G) (ad : Nat → Nat) (cs : xs_cs) (hJ : xs_J ad) {μ0 : xs_M} {x0 : Int64} {x1 : Int64}  {rz : Int64} (hE : fn_J_max μ0 x0 x1 = some rz) : xs_I l D ad cs y_J_max b_J_max 4 (some .long) 0 0 [.long (x0), .long (x1)] μ0 (some (.long rz)) μ0 := by
  refine xs_entryF hJ (by decide +kernel) (Nat.le_of_ble_eq_true rfl) ?_
  intro p e s m below meth c ls X hr hlk G hl
  have X : xs_C p s m c b_J_max 4 _ "java/lang/Math" := X
  have hx := X.1
  have hb := X.2.1
  have hl : lv_has ls 4 [(0, .long (x0)), (2, .long (x1))] := hl
  unfold fn_J_max at hE
  refine lv_lload_n (pc := 0) hx hb d_J_max_0 rfl (lv_at hl 0 rfl) ?_
  refine lv_lload_n (pc := 1) hx hb d_J_max_1 rfl (lv_at hl 1 rfl) ?_
  refine W.lcmp (pc := 2) hx hb d_J_max_2 ?_
  refine lv_if_lt (pc := 3) (tgt := 10) hx hb d_J_max_3 (by decide) (fun hc => ?_) (fun hc => ?_)
  · have hE := xs_t hE hc
    refine lv_lload_n (pc := 10) hx hb d_J_max_10 rfl (lv_at hl 1 rfl) ?_
    cases hE
    exact xs_lret (pc := 11) hx hb hr hlk G d_J_max_11
  · have hE := xs_f hE hc
    refine lv_lload_n (pc := 6) hx hb d_J_max_6 rfl (lv_at hl 0 rfl) ?_
    refine lv_goto (pc := 7) (tgt := 11) hx hb d_J_max_7 (by decide) ?_
    cases hE
    exact xs_lret (pc := 11) hx hb hr hlk G d_J_max_11
def fn_J_min (μ0 : xs_M) (x0 : Int64) (x1 : Int64) : Option Int64 :=
  (if 0 < (lg_cmp x0 x1) then some (x1) else some (x0))
set_option maxHeartbeats 4000000 in
set_option maxRecDepth 100000 in
theorem ok_J_min (l : Launch) (D : va_G) (ad : Nat → Nat) (cs : xs_cs) (hJ : xs_J ad) {μ0 : xs_M} {x0 : Int64} {x1 : Int64}  {rz : Int64} (hE : fn_J_min μ0 x0 x1 = some rz) : xs_I l D ad cs y_J_min b_J_min 4 (some .long) 0 0 [.long (x0), .long (x1)] μ0 (some (.long rz)) μ0 := by
  refine xs_entryF hJ (by decide +kernel) (Nat.le_of_ble_eq_true rfl) ?_
  intro p e s m below meth c ls X hr hlk G hl
  have X : xs_C p s m c b_J_min 4 _ "java/lang/Math" := X
  have hx := X.1
  have hb := X.2.1
  have hl : lv_has ls 4 [(0, .long (x0)), (2, .long (x1))] := hl
  unfold fn_J_min at hE
  refine lv_lload_n (pc := 0) hx hb d_J_min_0 rfl (lv_at hl 0 rfl) ?_
  refine lv_lload_n (pc := 1) hx hb d_J_min_1 rfl (lv_at hl 1 rfl) ?_
  refine W.lcmp (pc := 2) hx hb d_J_min_2 ?_
  refine lv_if_gt (pc := 3) (tgt := 10) hx hb d_J_min_3 (by decide) (fun hc => ?_) (fun hc => ?_)
  · have hE := xs_t hE hc
    refine lv_lload_n (pc := 10) hx hb d_J_min_10 rfl (lv_at hl 1 rfl) ?_
    cases hE
    exact xs_lret (pc := 11) hx hb hr hlk G d_J_min_11
  · have hE := xs_f hE hc
    refine lv_lload_n (pc := 6) hx hb d_J_min_6 rfl (lv_at hl 0 rfl) ?_
    refine lv_goto (pc := 7) (tgt := 11) hx hb d_J_min_7 (by decide) ?_
    cases hE
    exact xs_lret (pc := 11) hx hb hr hlk G d_J_min_11
def fn_S_isWithin (μ0 : xs_M) (x0 : Int32) (x1 : Int32) (x2 : Int32) : Option Int32 :=
  (if x0 < x1 then some ((0 : Int32)) else (if x2 < x0 then some ((0 : Int32)) else some ((1 : Int32))))
set_option maxHeartbeats 4000000 in
set_option maxRecDepth 100000 in
theorem ok_S_isWithin (l : Launch) (D : va_G) (ad : Nat → Nat) (cs : xs_cs) (hJ : xs_J ad) {μ0 : xs_M} {x0 : Int32} {x1 : Int32} {x2 : Int32}  {rz : Int32} (hE : fn_S_isWithin μ0 x0 x1 x2 = some rz) : xs_I l D ad cs y_S_isWithin b_S_isWithin 3 (some .boolean) 0 0 [.int (x0), .int (x1), .int (x2)] μ0 (some (.int rz)) μ0 := by
  refine xs_entry hJ (by decide) (Nat.le_of_ble_eq_true rfl) ?_
  intro p e s m below meth c ls X hr hlk G hl
  have X : xs_C p s m c b_S_isWithin 3 _ "ExactScene" := X
  have hx := X.1
  have hb := X.2.1
  have hl : lv_has ls 3 [(0, .int (x0)), (1, .int (x1)), (2, .int (x2))] := hl
  unfold fn_S_isWithin at hE
  refine lv_iload_n (pc := 0) hx hb d_S_isWithin_0 rfl (lv_at hl 0 rfl) ?_
  refine lv_iload_n (pc := 1) hx hb d_S_isWithin_1 rfl (lv_at hl 1 rfl) ?_
  refine lv_icmp_lt (pc := 2) (tgt := 14) hx hb d_S_isWithin_2 (by decide) (fun hc => ?_) (fun hc => ?_)
  · have hE := xs_t hE hc
    refine lv_iconst (pc := 14) (v := (0 : Int32)) hx hb d_S_isWithin_14 (by decide) ?_
    cases hE
    exact xs_zret (pc := 15) hx hb hr hlk G (Or.inl rfl) d_S_isWithin_15
  · have hE := xs_f hE hc
    refine lv_iload_n (pc := 5) hx hb d_S_isWithin_5 rfl (lv_at hl 0 rfl) ?_
    refine lv_iload_n (pc := 6) hx hb d_S_isWithin_6 rfl (lv_at hl 2 rfl) ?_
    refine lv_icmp_gt (pc := 7) (tgt := 14) hx hb d_S_isWithin_7 (by decide) (fun hc => ?_) (fun hc => ?_)
    · have hE := xs_t hE hc
      refine lv_iconst (pc := 14) (v := (0 : Int32)) hx hb d_S_isWithin_14 (by decide) ?_
      cases hE
      exact xs_zret (pc := 15) hx hb hr hlk G (Or.inl rfl) d_S_isWithin_15
    · have hE := xs_f hE hc
      refine lv_iconst (pc := 10) (v := (1 : Int32)) hx hb d_S_isWithin_10 (by decide) ?_
      refine lv_goto (pc := 11) (tgt := 15) hx hb d_S_isWithin_11 (by decide) ?_
      cases hE
      exact xs_zret (pc := 15) hx hb hr hlk G (Or.inr rfl) d_S_isWithin_15
def fn_S_isPlace (μ0 : xs_M) (x0 : Int32) : Option Int32 :=
  ((fn_S_isWithin μ0 x0 (-31 : Int32) (31 : Int32)).bind fun w1 => (if w1 = 0 ∨ w1 = 1 then some (w1) else none))
set_option maxHeartbeats 4000000 in
set_option maxRecDepth 100000 in
theorem ok_S_isPlace (l : Launch) (D : va_G) (ad : Nat → Nat) (cs : xs_cs) (hJ : xs_J ad) {μ0 : xs_M} {x0 : Int32}  {rz : Int32} (hE : fn_S_isPlace μ0 x0 = some rz) : xs_I l D ad cs y_S_isPlace b_S_isPlace 1 (some .boolean) 1 22 [.int (x0)] μ0 (some (.int rz)) μ0 := by
  refine xs_entry hJ (by decide) (Nat.le_of_ble_eq_true rfl) ?_
  intro p e s m below meth c ls X hr hlk G hl
  have X : xs_C p s m c b_S_isPlace 1 _ "ExactScene" := X
  have hx := X.1
  have hb := X.2.1
  have hl : lv_has ls 1 [(0, .int (x0))] := hl
  unfold fn_S_isPlace at hE
  refine lv_iload_n (pc := 0) hx hb d_S_isPlace_0 rfl (lv_at hl 0 rfl) ?_
  refine lv_bipush (pc := 1) (v := (-31 : Int32)) hx hb d_S_isPlace_1 (by decide) ?_
  refine lv_bipush (pc := 3) (v := (31 : Int32)) hx hb d_S_isPlace_3 (by decide) ?_
  obtain ⟨w1, hw1, hE⟩ := xs_b hE
  refine xs_callSr (pc := 5) (as := [.int (x0), .int ((-31 : Int32)), .int ((31 : Int32))]) X (ok_S_isWithin l D ad cs hJ hw1) km_S_70 G ⟨by decide, by decide⟩ ⟨Nat.zero_le _, Nat.zero_le _⟩ rfl hl.1 rfl (Nat.le_of_ble_eq_true rfl) d_S_isPlace_5 (fun H locs G => ?_)
  obtain ⟨hz2, hE⟩ := xs_n hE
  cases hE
  exact xs_zret (pc := 8) hx hb hr hlk G hz2 d_S_isPlace_8
def fn_S_isTexturePlace (μ0 : xs_M) (x0 : Int32) : Option Int32 :=
  ((fn_S_isWithin μ0 x0 (-127 : Int32) (127 : Int32)).bind fun w1 => (if w1 = 0 ∨ w1 = 1 then some (w1) else none))
set_option maxHeartbeats 4000000 in
set_option maxRecDepth 100000 in
theorem ok_S_isTexturePlace (l : Launch) (D : va_G) (ad : Nat → Nat) (cs : xs_cs) (hJ : xs_J ad) {μ0 : xs_M} {x0 : Int32}  {rz : Int32} (hE : fn_S_isTexturePlace μ0 x0 = some rz) : xs_I l D ad cs y_S_isTexturePlace b_S_isTexturePlace 1 (some .boolean) 1 22 [.int (x0)] μ0 (some (.int rz)) μ0 := by
  refine xs_entry hJ (by decide) (Nat.le_of_ble_eq_true rfl) ?_
  intro p e s m below meth c ls X hr hlk G hl
  have X : xs_C p s m c b_S_isTexturePlace 1 _ "ExactScene" := X
  have hx := X.1
  have hb := X.2.1
  have hl : lv_has ls 1 [(0, .int (x0))] := hl
  unfold fn_S_isTexturePlace at hE
  refine lv_iload_n (pc := 0) hx hb d_S_isTexturePlace_0 rfl (lv_at hl 0 rfl) ?_
  refine lv_bipush (pc := 1) (v := (-127 : Int32)) hx hb d_S_isTexturePlace_1 (by decide) ?_
  refine lv_bipush (pc := 3) (v := (127 : Int32)) hx hb d_S_isTexturePlace_3 (by decide) ?_
  obtain ⟨w1, hw1, hE⟩ := xs_b hE
  refine xs_callSr (pc := 5) (as := [.int (x0), .int ((-127 : Int32)), .int ((127 : Int32))]) X (ok_S_isWithin l D ad cs hJ hw1) km_S_70 G ⟨by decide, by decide⟩ ⟨Nat.zero_le _, Nat.zero_le _⟩ rfl hl.1 rfl (Nat.le_of_ble_eq_true rfl) d_S_isTexturePlace_5 (fun H locs G => ?_)
  obtain ⟨hz2, hE⟩ := xs_n hE
  cases hE
  exact xs_zret (pc := 8) hx hb hr hlk G hz2 d_S_isTexturePlace_8
def fn_S_cutDown (μ0 : xs_M) (x0 : Int64) (x1 : Int64) : Option Int64 :=
  (if (lg_cmp x1 (0 : Int64)) ≤ 0 then some ((0 : Int64)) else ((fn_J_floorDiv μ0 x0 x1).bind fun w1 => some (w1)))
set_option maxHeartbeats 4000000 in
set_option maxRecDepth 100000 in
theorem ok_S_cutDown (l : Launch) (D : va_G) (ad : Nat → Nat) (cs : xs_cs) (hJ : xs_J ad) {μ0 : xs_M} {x0 : Int64} {x1 : Int64}  {rz : Int64} (hE : fn_S_cutDown μ0 x0 x1 = some rz) : xs_I l D ad cs y_S_cutDown b_S_cutDown 4 (some .long) 1 25 [.long (x0), .long (x1)] μ0 (some (.long rz)) μ0 := by
  refine xs_entry hJ (by decide) (Nat.le_of_ble_eq_true rfl) ?_
  intro p e s m below meth c ls X hr hlk G hl
  have X : xs_C p s m c b_S_cutDown 4 _ "ExactScene" := X
  have hx := X.1
  have hb := X.2.1
  have hl : lv_has ls 4 [(0, .long (x0)), (2, .long (x1))] := hl
  unfold fn_S_cutDown at hE
  refine lv_lload_n (pc := 0) hx hb d_S_cutDown_0 rfl (lv_at hl 1 rfl) ?_
  refine lv_lconst (pc := 1) (v := (0 : Int64)) hx hb d_S_cutDown_1 (by decide) ?_
  refine W.lcmp (pc := 2) hx hb d_S_cutDown_2 ?_
  refine lv_if_le (pc := 3) (tgt := 14) hx hb d_S_cutDown_3 (by decide) (fun hc => ?_) (fun hc => ?_)
  · have hE := xs_t hE hc
    refine lv_lconst (pc := 14) (v := (0 : Int64)) hx hb d_S_cutDown_14 (by decide) ?_
    cases hE
    exact xs_lret (pc := 15) hx hb hr hlk G d_S_cutDown_15
  · have hE := xs_f hE hc
    refine lv_lload_n (pc := 6) hx hb d_S_cutDown_6 rfl (lv_at hl 0 rfl) ?_
    refine lv_lload_n (pc := 7) hx hb d_S_cutDown_7 rfl (lv_at hl 1 rfl) ?_
    obtain ⟨w1, hw1, hE⟩ := xs_b hE
    refine xs_callSr (pc := 8) (as := [.long (x0), .long (x1)]) X (ok_J_floorDiv l D ad cs hJ hw1) km_S_243 G ⟨by decide, by decide⟩ ⟨Nat.zero_le _, Nat.zero_le _⟩ rfl hl.1 rfl (Nat.le_of_ble_eq_true rfl) d_S_cutDown_8 (fun H locs G => ?_)
    refine lv_goto (pc := 11) (tgt := 15) hx hb d_S_cutDown_11 (by decide) ?_
    cases hE
    exact xs_lret (pc := 15) hx hb hr hlk G d_S_cutDown_15
