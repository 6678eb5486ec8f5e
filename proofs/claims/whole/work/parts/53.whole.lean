/-! from the law's entry to its end -/
theorem wao : Cond.arrayOver (.object "ExactScene$Triangle") ∈ tables_1 := List.mem_of_getElem? (i := 85) (by decide +kernel)
theorem xs_knows {s : State} {args : Array Value} (hts : ∀ w ∈ xs_TG, w.before args s = true) : ∃ D : va_G, ∀ (c : Nat) (q : vw_C), classes[c]? = some q → u_Kn s q.1 q.2.1 q.2.2 (D.1 c) (D.2 c) := by
  have h : ∀ c : Nat, ∃ x : ClassId × (Nat → Nat), ∀ q : vw_C, classes[c]? = some q → u_Kn s q.1 q.2.1 q.2.2 x.1 x.2 := by
    intro c
    match c with
    | 0 => obtain ⟨a, i, h⟩ := u_known hts in_S (hts _ wn_S); exact ⟨(a, i), fun q hq => by have hq : (R_S, F_S, 9) = q := Option.some.inj hq; subst hq; exact h⟩
    | 1 => obtain ⟨a, i, h⟩ := u_known hts in_M (hts _ wn_M); exact ⟨(a, i), fun q hq => by have hq : (R_M, F_M, 5) = q := Option.some.inj hq; subst hq; exact h⟩
    | 2 => obtain ⟨a, i, h⟩ := u_known hts in_X (hts _ wn_X); exact ⟨(a, i), fun q hq => by have hq : (R_X, F_X, 1) = q := Option.some.inj hq; subst hq; exact h⟩
    | 3 => obtain ⟨a, i, h⟩ := u_known hts in_T (hts _ wn_T); exact ⟨(a, i), fun q hq => by have hq : (R_T, F_T, 10) = q := Option.some.inj hq; subst hq; exact h⟩
    | 4 => obtain ⟨a, i, h⟩ := u_known hts in_P (hts _ wn_P); exact ⟨(a, i), fun q hq => by have hq : (R_P, F_P, 4) = q := Option.some.inj hq; subst hq; exact h⟩
    | 5 => obtain ⟨a, i, h⟩ := u_known hts in_R (hts _ wn_R); exact ⟨(a, i), fun q hq => by have hq : (R_R, F_R, 23) = q := Option.some.inj hq; subst hq; exact h⟩
    | n + 6 =>
      obtain ⟨a, i, -⟩ := u_known hts in_S (hts _ wn_S)
      exact ⟨(a, i), fun q hq => by have hq : (none : Option vw_C) = some q := hq; cases hq⟩
  exact ⟨(fun c => (Classical.choose (h c)).1, fun c => (Classical.choose (h c)).2), fun c q hq => Classical.choose_spec (h c) q hq⟩
theorem xs_kinds {s : State} {args : Array Value} {D : va_G} (hD : ∀ (c : Nat) (q : vw_C), classes[c]? = some q → u_Kn s q.1 q.2.1 q.2.2 (D.1 c) (D.2 c)) (hts : ∀ w ∈ xs_TG, w.before args s = true) (hao : (Cond.arrayOver (.object "ExactScene$Triangle")).before args s = true) : ∃ cs : xs_cs, va_K D classes (xs_ty cs) s := by
  obtain ⟨cI, kI, pI, i1, i2, i3⟩ := Cond.arrayClass_spec (hts _ wai)
  obtain ⟨cJ, kJ, pJ, j1, j2, j3⟩ := Cond.arrayClass_spec (hts _ wal)
  obtain ⟨pT, cT, kT, t1, -, t2, t3, t4⟩ := Cond.arrayOver_spec hao
  refine ⟨(cI, cJ, cT), hD, fun k q hk => ?_⟩
  match k, hk with
  | 0, hk => have hk : (cI, FieldType.int) = q := Option.some.inj hk; subst hk; exact ⟨fun n z => ⟨fun k h => (by cases h), kI, i2, pI, i3⟩, i1⟩
  | 1, hk => have hk : (cJ, FieldType.long) = q := Option.some.inj hk; subst hk; exact ⟨fun n z => ⟨fun k h => (by cases h), kJ, j2, pJ, j3⟩, j1⟩
  | 2, hk => have hk : (cT, FieldType.object "ExactScene$Triangle") = q := Option.some.inj hk; subst hk; exact ⟨fun n z => ⟨fun k h => (by cases h), kT, t2, pT, t3⟩, kT, pT, t2, t3, t1, t4⟩
  | n + 3, hk => have hk : (none : Option (ClassId × FieldType)) = some q := hk; cases hk
theorem xt_str {args : Array Value} {s : State} {own tx : String} {k : Nat} (h : (Cond.stringRef own k tx).before args s = true) : ∃ sa, vk_R own k tx sa s := by
  have h0 := h
  simp only [Cond.before, Cond.holds, Cond.value] at h
  cases hr : s.resolvedAt? own k with
  | none => cases hc : s.vm.findClass own <;> simp [hr, hc] at h
  | some r =>
    cases r with
    | string a =>
      refine ⟨a, vk_R.of h0 (A := args) ?_⟩
      unfold State.resolvedAt? at hr
      simp only [Term.eval]
      cases hc : s.vm.findClass own with
      | none => simp [hc] at hr
      | some c0 =>
        cases hk : s.vm.classes[c0]? with
        | none => simp [hc, hk] at hr
        | some kc =>
          simp only [hc, hk, Option.bind_eq_bind, Option.bind_some] at hr ⊢
          rw [hr]
          rfl
    | _ => cases hc : s.vm.findClass own <;> simp [hr, hc] at h
theorem xt_strs_in : ∀ q ∈ xt_strs, Cond.stringRef "ExactScene" q.1 q.2 ∈ tables_1 := by
  intro q hq
  simp only [xt_strs, List.mem_cons, List.not_mem_nil, or_false] at hq
  rcases hq with rfl | rfl | rfl | rfl | rfl | rfl | rfl | rfl | rfl | rfl | rfl | rfl | rfl | rfl | rfl
  · exact List.mem_of_getElem? (i := 311) (by decide +kernel)
  · exact List.mem_of_getElem? (i := 343) (by decide +kernel)
  · exact List.mem_of_getElem? (i := 381) (by decide +kernel)
  · exact List.mem_of_getElem? (i := 406) (by decide +kernel)
  · exact List.mem_of_getElem? (i := 432) (by decide +kernel)
  · exact List.mem_of_getElem? (i := 454) (by decide +kernel)
  · exact List.mem_of_getElem? (i := 487) (by decide +kernel)
  · exact List.mem_of_getElem? (i := 508) (by decide +kernel)
  · exact List.mem_of_getElem? (i := 512) (by decide +kernel)
  · exact List.mem_of_getElem? (i := 513) (by decide +kernel)
  · exact List.mem_of_getElem? (i := 565) (by decide +kernel)
  · exact List.mem_of_getElem? (i := 581) (by decide +kernel)
  · exact List.mem_of_getElem? (i := 596) (by decide +kernel)
  · exact List.mem_of_getElem? (i := 608) (by decide +kernel)
  · exact List.mem_of_getElem? (i := 621) (by decide +kernel)
theorem xt_start {p : Program} {s : State} {m : MethodId} {meth : Method} {c : Code} {b L : Nat} {xs : Nat → Int32} (C0 : lw_At p s m meth c b L xs) : xt_P (fun q => s.heap.size ≤ q) s s.heap := by
  obtain ⟨-, -, -, -, -, htbl, -, -, -, hgv⟩ := C0
  have htb : ∀ w ∈ tables_1, w.before #[Value.ref b] s = true := fun w hw => htbl w (List.mem_append_right _ hw)
  have hs := flat_of_before _ hgv
  have hA : ∀ a : Nat, a < s.heap.size → ¬ (fun q => s.heap.size ≤ q) a := fun a h => Nat.not_le.mpr h
  have hini : (Cond.initialized Bundle.tN).before #[Value.ref b] s = true := htb _ (List.mem_of_getElem? (i := 7) (by decide +kernel))
  refine ⟨⟨xt_Z1.of (htb _ (List.mem_of_getElem? (i := 296) (by decide +kernel))) hini (hs _ (by decide +kernel)) hA, xt_Z1.of (htb _ (List.mem_of_getElem? (i := 298) (by decide +kernel))) hini (hs _ (by decide +kernel)) hA⟩, fun q hq => xt_str (htb _ (xt_strs_in q hq)), fun w hw => va_Nw.of (xt_F_t (List.mem_filter.mp hw).2) (htb w (List.mem_filter.mp hw).1), fun q hq => ?_⟩
  simp only [xt_pairs, List.mem_cons, List.not_mem_nil, or_false] at hq
  rcases hq with rfl | rfl | rfl
  · exact va_Nc.of (hs (Cond.not (.castable "java/lang/ArithmeticException" "java/lang/IllegalStateException")) (by decide +kernel))
  · exact va_Nc.of (hs (Cond.not (.castable "java/lang/IllegalStateException" "java/lang/IllegalArgumentException")) (by decide +kernel))
  · exact va_Nc.of (hs (Cond.not (.castable "java/lang/IllegalStateException" "java/lang/IndexOutOfBoundsException")) (by decide +kernel))
set_option maxHeartbeats 4000000 in
theorem whole_start {p : Program} {e : Env} {s : State} {m : MethodId} {below : List Frame} {meth : Method} {c : Code} (l : Launch) (hlt : l.stackTraces = false) {b L : Nat} {xs : Nat → Int32} (hL : L ≤ 3072) (C0 : lw_At p s m meth c b L xs) : W p l e room_1 s m #[Value.ref b] below meth c s.heap [] 0 0 (lw_Z below #[Value.ref b] s) (entryFrame m ([Value.ref b] : List Value).toArray 8) := by
  have hT := xt_start C0
  obtain ⟨hx, hb, hr, hml, hown, htbl, hX, hbl, hlk, hgv⟩ := C0
  have hts : ∀ w ∈ xs_TG, w.before #[Value.ref b] s = true := fun w hw => htbl w (List.mem_filter.mp hw).1
  have hao := htbl _ (List.mem_append_right _ wao)
  have hN : ∀ w ∈ xs_NW, va_Nw w s := fun w hw => va_Nw.of (xs_isN_t (List.mem_filter.mp hw).2) (htbl w (List.mem_append_right _ (List.mem_filter.mp hw).1))
  have hO : va_AO "ExactScene$Triangle" s := va_AO.of hao
  obtain ⟨D, hD⟩ := xs_knows hts
  obtain ⟨cs, hK⟩ := xs_kinds hD hts hao
  have X : xs_C p s m c code 8 #[Value.ref b] "ExactSceneLaw" := ⟨hx, hb, hml, hown, hts, hN⟩
  have hl : lv_has _ 8 [(0, .ref b)] := lv_entry [Value.ref b] (n := 8) (Nat.le_of_ble_eq_true rfl)
  rw [lg_entry_eq]
  obtain ⟨N, hNN⟩ : ∃ N, s.heap.size = N := ⟨_, rfl⟩
  obtain ⟨ct, G⟩ : ∃ ct : Nat → va_E, xc_G D cs s (fun q => N ≤ q) s.heap N (0 + 0) (xc_L ct 0 []) s.heap [] := by
    refine ⟨fun _ => xs_ai cs 0 (fun _ => 0), hK, fun k q h => ?_, hNN, va_S.rf, fun q h => h⟩
    have h1 := (List.getElem?_eq_some_iff.mp h).1
    rw [xc_len] at h1
    omega
  refine xl_made (pc := 0) (q := 0) (k := 0) (L := []) (fs := f0_S) (ci := 0) (n2 := 154) rfl X hO G in_S ty_S ty_S_ok rfl wk_L_8 wn_S wi_S f0_S_ok (fun ct' => xc_S_init l D cs N (0 + 0) ct') (xc_BT_len cs N 0 20 _) kc_L_69 ⟨Nat.le_of_ble_eq_true rfl, Nat.le_of_ble_eq_true rfl⟩ (Nat.le_of_ble_eq_true rfl) (Nat.le_of_ble_eq_true rfl) ⟨Nat.le_of_ble_eq_true rfl, Nat.le_of_ble_eq_true rfl⟩ hl.1 (Nat.le_of_ble_eq_true rfl) d_L_law_0 d_L_law_3 d_L_law_4 (fun H locs G => ?_)
  have G : xc_G D cs s (fun q => N ≤ q) s.heap N (0 + 154) (xc_L ct 0 (xc_B cs N 0 (xc_af N 0 20) ++ xc_TR cs N 0 20)) H locs := G
  refine lv_astore_n (pc := 7) hx hb d_L_law_7 rfl hl (by decide) (lv' := [(1, .ref (N + 0)), (0, .ref b)]) rfl (fun ls hl => ?_)
  refine xl_made (pc := 8) (q := 0) (k := 154) (fs := f0_R) (ci := 5) (n2 := 17) (xc_BT_len cs N 0 20 _) X hO G in_R ty_R ty_R_ok rfl wk_L_70 wn_R wi_R f0_R_ok (fun ct' => xc_R_init l D cs N (0 + 154) ct') rfl kc_L_72 ⟨Nat.le_of_ble_eq_true rfl, Nat.le_of_ble_eq_true rfl⟩ (Nat.le_of_ble_eq_true rfl) (Nat.le_of_ble_eq_true rfl) ⟨Nat.le_of_ble_eq_true rfl, Nat.le_of_ble_eq_true rfl⟩ hl.1 (Nat.le_of_ble_eq_true rfl) d_L_law_8 d_L_law_11 d_L_law_12 (fun H locs G => ?_)
  have G : xc_G D cs s (fun q => N ≤ q) s.heap N (0 + 171) (xc_L ct 0 ((xc_B cs N 0 (xc_af N 0 20) ++ xc_TR cs N 0 20) ++ xc_LR cs N 154 192)) H locs := G
  refine lv_astore_n (pc := 15) hx hb d_L_law_15 rfl hl (by decide) (lv' := [(2, .ref (N + 154)), (1, .ref (N + 0)), (0, .ref b)]) rfl (fun ls hl => ?_)
  refine lv_iconst (pc := 16) (v := (1 : Int32)) hx hb d_L_law_16 (by decide) ?_
  refine xl_newl (pc := 17) (k := 171) (len := 1) (by rw [List.length_append, xc_BT_len]; rfl) X G wal (by decide) (by decide) (by decide) (Nat.le_of_ble_eq_true rfl) (Nat.le_of_ble_eq_true rfl) d_L_law_17 (fun H G => ?_)
  have G : xc_G D cs s (fun q => N ≤ q) s.heap N 172 (xc_L ct 0 (xc_all cs N)) H locs := G
  refine lv_astore_n (pc := 19) hx hb d_L_law_19 rfl hl (by decide) (lv' := [(3, .ref (N + 171)), (2, .ref (N + 154)), (1, .ref (N + 0)), (0, .ref b)]) rfl (fun ls hl => ?_)
  refine lv_iconst (pc := 20) (v := (0 : Int32)) hx hb d_L_law_20 (by decide) ?_
  refine lv_istore (pc := 21) hx hb d_L_law_21 hl (by decide) (lv' := [(4, .int (0 : Int32)), (3, .ref (N + 171)), (2, .ref (N + 154)), (1, .ref (N + 0)), (0, .ref b)]) rfl (fun ls hl => ?_)
  have hJ : xs_J (fun i => N + i) := fun i j _ _ h => Nat.add_left_cancel h
  subst hNN
  refine ok_law_loop l hlt D (fun i => s.heap.size + i) cs hJ X hr hlk hT hX hbl 1000 0 xc_mu 0 H locs ls (by omega) (pv_law pv_init xs hL) ⟨hK, xc_fin G.2.1, ⟨hJ, fun i _ => Nat.le_add_right _ _⟩, G.2.2.2.1, fun q h => h⟩ (lv_sub hl [4, 3, 2, 1, 0] rfl)
