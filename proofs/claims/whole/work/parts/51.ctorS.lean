/-! ExactScene() -/
section XCM
variable {p : Program} {l : Launch} {e : Env} {R : Room} {s : State} {m : MethodId} {args : Array Value} {below : List Frame} {meth : Method} {c : Code} {H : Heap} {locs : List Loc} {cells slots : Nat} {Q : State → Prop}
variable {cc : ByteArray} {pc : Nat} {ls : Array Slot} {rest : List Value} {D : va_G} {cs : xs_cs} {A : Nat → Prop} {H0 : Heap} {N q k : Nat} {ct : Nat → va_E} {L : List va_E} {nL : Nat} {own : String}
/-- new, dup, and the constructor's call -/
theorem xl_made {C : String} {T : u_T} {K ci idx idx2 : Nat} {fs : List Value} {y : MethodName} {bc : ByteArray} {mL d w mc ms n2 : Nat} {L2 : List va_E} (hk : L.length = k) (X : xs_C p s m c cc nL args own) (hO : va_AO "ExactScene$Triangle" s) (G : xc_G D cs s A H0 N (q + k) (xc_L ct q L) H locs) (hin : ∀ w ∈ u_ws C T K, w ∈ xs_TG) (ty : Nat → FieldType) (hty : ∀ k, k < K → parseFieldDescriptor (T k).2.2.1 = some (ty k)) (hci : classes[ci]? = some (C, T, K)) (w1 : Cond.classLink own idx C ∈ xs_TG) (w2 : Cond.instantiable C K ∈ xs_TG) (w3 : Cond.initialized C ∈ xs_TG) (hfs : ∀ j, j < K → defaultValue (ty j) = vp_V fs j)
    (hM : ∀ ct' : Nat → va_E, xc_I l D cs y bc mL d w mc ms [.ref (N + (q + k))] N (q + k + 1) (xc_L ct' (q + k) [.inr (ci, fs)]) (q + k + n2) (xc_L ct' (q + k) L2)) (hL2 : L2.length = n2) (hkc : xc_k own idx2 y bc mL) (hR : d + 1 ≤ R.frames ∧ 8 + (mL + 11) + w ≤ R.locals) (hc1 : cells + 1 ≤ R.cells) (hs1 : slots + K ≤ R.slots) (hc2 : cells + 1 + mc ≤ R.cells ∧ slots + K + ms ≤ R.slots) (hsz : ls.size = nL) (hcat : ((Value.ref (N + (q + k)) :: rest).map fun v => v.category).sum ≤ 8)
    (hd1 : decode cc pc = .ok (.new idx, 3)) (hd2 : decode cc (pc + 3) = .ok (.dup, 1)) (hd3 : decode cc (pc + 4) = .ok (.invokespecial idx2, 3))
    (kk : ∀ (H1 : Heap) (locs1 : List Loc), xc_G D cs s A H0 N (q + (k + n2)) (xc_L ct q (L ++ L2)) H1 locs1 → W p l e R s m args below meth c H1 locs1 (cells + 1 + mc) (slots + K + ms) Q (F0 m (pc + 7) ls (.ref (N + (q + k)) :: rest))) : W p l e R s m args below meth c H locs cells slots Q (F0 m pc ls rest) := by
  refine xl_new (pc := pc) (fs := fs) hk X G hin ty hty hci w1 w2 w3 hfs hc1 hs1 hd1 (fun H1 G1 => ?_)
  refine lv_dup (pc := pc + 3) X.1 X.2.1 hd2 rfl ?_
  have G2 : xc_G D cs s A H0 N (q + k + 1) (xc_L (xc_L ct q (L ++ [.inr (ci, fs)])) (q + k) [.inr (ci, fs)]) H1 locs := xc_to G1 (fun i hi => (xc_L_one hk i).resolve_right (by omega))
  refine xc_callI (pc := pc + 4) X hO (hM _) hkc G2 hR hc2 hsz hcat hd3 (fun H2 l2 G3 => ?_)
  refine kk H2 l2 ?_
  rw [← Nat.add_assoc]
  exact xc_to G3 (fun i hi => (xc_L_join hk i).resolve_right (by omega))
theorem xl_madeN {C : String} {T : u_T} {K ci idx idx2 : Nat} {fs : List Value} {y : MethodName} {host : String} {bc : ByteArray} {mL d w mc ms n2 : Nat} {L2 : List va_E} (hk : L.length = k) (X : xs_C p s m c cc nL args own) (hO : va_AO "ExactScene$Triangle" s) (G : xc_G D cs s A H0 N (q + k) (xc_L ct q L) H locs) (hin : ∀ w ∈ u_ws C T K, w ∈ xs_TG) (ty : Nat → FieldType) (hty : ∀ k, k < K → parseFieldDescriptor (T k).2.2.1 = some (ty k)) (hci : classes[ci]? = some (C, T, K)) (w1 : Cond.classLink own idx C ∈ xs_TG) (w2 : Cond.instantiable C K ∈ xs_TG) (w3 : Cond.initialized C ∈ xs_TG) (hfs : ∀ j, j < K → defaultValue (ty j) = vp_V fs j)
    (hM : ∀ ct' : Nat → va_E, xc_I l D cs y bc mL d w mc ms [.ref (N + (q + k))] N (q + k + 1) (xc_L ct' (q + k) [.inr (ci, fs)]) (q + k + n2) (xc_L ct' (q + k) L2)) (hL2 : L2.length = n2) (hkc : xc_kN own idx2 y host bc mL) (hR : d + 1 ≤ R.frames ∧ 8 + (mL + 11) + w ≤ R.locals) (hc1 : cells + 1 ≤ R.cells) (hs1 : slots + K ≤ R.slots) (hc2 : cells + 1 + mc ≤ R.cells ∧ slots + K + ms ≤ R.slots) (hsz : ls.size = nL) (hcat : ((Value.ref (N + (q + k)) :: rest).map fun v => v.category).sum ≤ 8)
    (hd1 : decode cc pc = .ok (.new idx, 3)) (hd2 : decode cc (pc + 3) = .ok (.dup, 1)) (hd3 : decode cc (pc + 4) = .ok (.invokespecial idx2, 3))
    (kk : ∀ (H1 : Heap) (locs1 : List Loc), xc_G D cs s A H0 N (q + (k + n2)) (xc_L ct q (L ++ L2)) H1 locs1 → W p l e R s m args below meth c H1 locs1 (cells + 1 + mc) (slots + K + ms) Q (F0 m (pc + 7) ls (.ref (N + (q + k)) :: rest))) : W p l e R s m args below meth c H locs cells slots Q (F0 m pc ls rest) := by
  refine xl_new (pc := pc) (fs := fs) hk X G hin ty hty hci w1 w2 w3 hfs hc1 hs1 hd1 (fun H1 G1 => ?_)
  refine lv_dup (pc := pc + 3) X.1 X.2.1 hd2 rfl ?_
  have G2 : xc_G D cs s A H0 N (q + k + 1) (xc_L (xc_L ct q (L ++ [.inr (ci, fs)])) (q + k) [.inr (ci, fs)]) H1 locs := xc_to G1 (fun i hi => (xc_L_one hk i).resolve_right (by omega))
  refine xc_callIN (pc := pc + 4) X hO (hM _) hkc G2 hR hc2 hsz hcat hd3 (fun H2 l2 G3 => ?_)
  refine kk H2 l2 ?_
  rw [← Nat.add_assoc]
  exact xc_to G3 (fun i hi => (xc_L_join hk i).resolve_right (by omega))
end XCM
def xc_af (N q t : Nat) : Nat → Option Nat := fun j => if j < t then some (N + (q + (14 + 7 * j))) else none
theorem xc_af_0 (N q : Nat) : xc_af N q 0 = fun _ => none := by funext j; unfold xc_af; rw [if_neg (Nat.not_lt_zero j)]
theorem xc_af_s (N q t : Nat) : va_up (xc_af N q t) t (some (N + (q + (14 + 7 * t)))) = xc_af N q (t + 1) := by
  funext j
  by_cases h : j = t
  · subst h
    rw [va_up_self]; unfold xc_af; rw [if_pos (Nat.lt_succ_self j)]
  · rw [va_up_ne _ _ h]; unfold xc_af
    by_cases h2 : j < t
    · rw [if_pos h2, if_pos (by omega)]
    · rw [if_neg h2, if_neg (by omega)]
def xc_fs (N q : Nat) : List Value := [.ref (N + (q + 1)), .ref (N + (q + 6)), .ref (N + (q + 8)), .ref (N + (q + 13)), .int 0, .int 0, .int 0, .int 0, .int 0]
def xc_B (cs : xs_cs) (N q : Nat) (f : Nat → Option Nat) : List va_E := [.inr (0, xc_fs N q), .inr (1, [.ref (N + (q + 2)), .ref (N + (q + 3)), .ref (N + (q + 4)), .ref (N + (q + 5)), .int 0]), xs_ai cs 16 xc_I4, xs_ai cs 64 (fun _ => 0), xs_ai cs 16 (fun _ => 0), xs_ai cs 16 (fun _ => 0), .inr (2, [.ref (N + (q + 7))]), xs_ai cs 128 (fun _ => 0), .inr (4, [.ref (N + (q + 9)), .ref (N + (q + 10)), .ref (N + (q + 11)), .ref (N + (q + 12))]), xs_ai cs 192 (xc_wl 0 192), xs_ai cs 192 (xc_wl (-1) 192), xs_al cs 192 (fun _ => 0), xs_al cs 192 (fun _ => 0), .inl (cs.2.2, 20, .inr (.inr (.inr (.inr f))))]
def xc_TR (cs : xs_cs) (N q : Nat) : Nat → List va_E
  | 0 => []
  | t + 1 => xc_TR cs N q t ++ xs_L3 (fun i => N + i) cs (q + (14 + 7 * t)) (fun _ => 0) (fun _ => 0)
theorem xc_TR_len (cs : xs_cs) (N q t : Nat) : (xc_TR cs N q t).length = 7 * t := by
  induction t with
  | zero => rfl
  | succ t ih =>
    unfold xc_TR
    rw [List.length_append, ih]
    show 7 * t + 7 = _
    omega
theorem xc_BT_len (cs : xs_cs) (N q t : Nat) (f : Nat → Option Nat) : (xc_B cs N q f ++ xc_TR cs N q t).length = 14 + 7 * t := by
  rw [List.length_append, xc_TR_len]; rfl
set_option maxHeartbeats 2000000 in
theorem xc_S_init (l : Launch) (D : va_G) (cs : xs_cs) (N q : Nat) (ct : Nat → va_E) : xc_I l D cs y_S_init b_S_init 2 2 42 153 1798 [.ref (N + q)] N (q + 1) (xc_L ct q [.inr (0, f0_S)]) (q + 154) (xc_L ct q (xc_B cs N q (xc_af N q 20) ++ xc_TR cs N q 20)) := by
  refine xc_entry (by decide) (Nat.le_of_ble_eq_true rfl) ?_
  intro p e s m below meth c ls X hr hlk hnm hO G hl
  have X : xs_C p s m c b_S_init 2 _ R_S := X
  have hx := X.1
  have hb := X.2.1
  have hl : lv_has ls 2 [(0, .ref (N + (q + 0)))] := hl
  have G : xc_G D cs s (fun z => N ≤ z) s.heap N (q + 1) (xc_L ct q [.inr (0, [.null, .null, .null, .null, .int 0, .int 0, .int 0, .int 0, .int 0])]) s.heap [] := G
  have L2 : ∀ (r t : Nat) (H : Heap) (locs : List Loc) (ls : Array Slot), t + r = 20 → xc_G D cs s (fun z => N ≤ z) s.heap N (q + (14 + 7 * t)) (xc_L ct q (xc_B cs N q (xc_af N q t) ++ xc_TR cs N q t)) H locs → lv_has ls 2 [(0, .ref (N + (q + 0))), (1, .int (Int32.ofNat t))] →
      W p l e (xc_rm 2 42 153 1798) s m [Value.ref (N + q)].toArray below meth c H locs (13 + 7 * t) (1038 + 38 * t) (xc_E below D [.ref (N + q)] s N (q + 154) (xc_L ct q (xc_B cs N q (xc_af N q 20) ++ xc_TR cs N q 20)) 153 1798) (F0 m 48 ls []) := by
    clear G hl
    intro r
    induction r with
    | zero =>
      intro t H locs ls hn G hl
      have hn : t = 20 := by omega
      subst hn
      refine lv_iload_n (pc := 48) hx hb d_S_init_48 rfl (lv_at hl 1 rfl) ?_
      refine lv_bipush (pc := 49) (v := (20 : Int32)) hx hb d_S_init_49 (by decide) ?_
      refine lv_icmp_ge (pc := 51) (tgt := 73) hx hb d_S_init_51 (by decide) (fun hc => ?_) (fun hc => absurd (show (20 : Int32) ≤ Int32.ofNat 20 by decide) hc)
      exact xc_vret hx hb hr hlk G (fun i _ => rfl) rfl rfl d_S_init_73
    | succ r ih =>
      intro t H locs ls hn G hl
      have hlt : t < 20 := by omega
      have hcl : (Int32.ofNat t).toNatClampNeg = t := Int32.toNatClampNeg_ofNat_of_lt (by omega)
      have hge : ¬ (20 : Int32) ≤ Int32.ofNat t := by
        rw [show (20 : Int32) = Int32.ofNat 20 from rfl, Int32.le_iff_toInt_le, Int32.toInt_ofNat_of_lt (by decide), Int32.toInt_ofNat_of_lt (by omega)]; omega
      have hin : vp_in (Int32.ofNat t) 20 := by
        rintro (h | h)
        · rw [Int32.lt_iff_toInt_lt, Int32.toInt_ofNat_of_lt (by omega)] at h
          have h : (t : Int) < 0 := h
          omega
        · rw [hcl] at h; omega
      refine lv_iload_n (pc := 48) hx hb d_S_init_48 rfl (lv_at hl 1 rfl) ?_
      refine lv_bipush (pc := 49) (v := (20 : Int32)) hx hb d_S_init_49 (by decide) ?_
      refine lv_icmp_ge (pc := 51) (tgt := 73) hx hb d_S_init_51 (by decide) (fun hc => absurd hc hge) (fun hc => ?_)
      refine lv_aload_n (pc := 54) hx hb d_S_init_54 rfl (lv_at hl 0 rfl) ?_
      refine xl_get1 (pc := 55) (k := 14 + 7 * t) (j := 0) (f := 3) (ci := 0) (fs := xc_fs N q) (xc_BT_len cs N q t _) X G in_S rfl rfl (by decide) (xs_tg 128 (by decide +kernel) (by decide +kernel)) rfl d_S_init_55 ?_
      refine lv_iload_n (pc := 58) hx hb d_S_init_58 rfl (lv_at hl 1 rfl) ?_
      refine xl_madeN (pc := 59) (k := 14 + 7 * t) (fs := f0_T) (ci := 3) (n2 := 7) (xc_BT_len cs N q t _) X hO G in_T ty_T ty_T_ok rfl wk_S_30 wn_T wi_T f0_T_ok (fun ct' => xc_T_init l D cs N (q + (14 + 7 * t)) ct') rfl kc_S_36 ⟨Nat.le_of_ble_eq_true rfl, Nat.le_of_ble_eq_true rfl⟩ (by show _ ≤ 153; omega) (by show _ ≤ 1798; omega) ⟨by show _ ≤ 153; omega, by show _ ≤ 1798; omega⟩ hl.1 (Nat.le_of_ble_eq_true rfl) d_S_init_59 d_S_init_62 d_S_init_63 (fun H locs G => ?_)
      have hj2 : ((xc_B cs N q (xc_af N q t) ++ xc_TR cs N q t) ++ xs_L3 (fun i => N + i) cs (q + (14 + 7 * t)) (fun _ => 0) (fun _ => 0))[14 + 7 * t]? = some (.inr (3, xs_fT (fun i => N + i) (q + (14 + 7 * t)) (fun _ => 0) (fun _ => 0))) := by
        rw [List.getElem?_append_right (by rw [xc_BT_len]; omega), xc_BT_len, Nat.sub_self]; rfl
      have hlen : ((xc_B cs N q (xc_af N q t) ++ xc_TR cs N q t) ++ xs_L3 (fun i => N + i) cs (q + (14 + 7 * t)) (fun _ => 0) (fun _ => 0)).length = 14 + 7 * t + 7 := by
        rw [List.length_append, xc_BT_len]; rfl
      have hj1 : ((xc_B cs N q (xc_af N q t) ++ xc_TR cs N q t) ++ xs_L3 (fun i => N + i) cs (q + (14 + 7 * t)) (fun _ => 0) (fun _ => 0))[13]? = some (.inl (cs.2.2, 20, .inr (.inr (.inr (.inr (xc_af N q t)))))) := rfl
      refine xl_astq (pc := 66) (k := 14 + 7 * t + 7) (j := 13) (j2 := 14 + 7 * t) (ci := 3) (f := xc_af N q t) hlen X G hj1 hj2 rfl rfl hin d_S_init_66 (fun H locs G => ?_)
      rw [hcl, xc_af_s] at G
      have hset : ((xc_B cs N q (xc_af N q t) ++ xc_TR cs N q t) ++ xs_L3 (fun i => N + i) cs (q + (14 + 7 * t)) (fun _ => 0) (fun _ => 0)).set 13 (.inl (cs.2.2, 20, .inr (.inr (.inr (.inr (xc_af N q (t + 1))))))) = xc_B cs N q (xc_af N q (t + 1)) ++ xc_TR cs N q (t + 1) := by
        rw [List.append_assoc]; rfl
      rw [hset, show 14 + 7 * t + 7 = 14 + 7 * (t + 1) by omega] at G
      refine lv_iinc (pc := 67) (v := Int32.ofNat (t + 1)) (k := 1) hx hb d_S_init_67 hl rfl (xs_inc _ |>.trans (Int32.ofNat_add t 1).symm) (by decide) (lv' := [(1, .int (Int32.ofNat (t + 1))), (0, .ref (N + (q + 0)))]) rfl (fun ls hl => ?_)
      refine lv_goto (pc := 70) (tgt := 48) hx hb d_S_init_70 (by decide) ?_
      refine W.widen (k := 13 + 7 * (t + 1)) (n := 1038 + 38 * (t + 1)) (by omega) (by omega) ?_
      exact ih (t + 1) H locs ls (by omega) G (lv_sub hl [1, 0] rfl)
  refine lv_aload_n (pc := 0) hx hb d_S_init_0 rfl (lv_at hl 0 rfl) ?_
  refine xl_obj (pc := 1) X wo_S wo2 wo3 hl.1 d_S_init_1 (Nat.le_of_ble_eq_true rfl) (Nat.le_of_ble_eq_true rfl) ?_
  refine lv_aload_n (pc := 4) hx hb d_S_init_4 rfl (lv_at hl 0 rfl) ?_
  refine xl_made (pc := 5) (k := 1) (fs := f0_M) (ci := 1) (n2 := 5) rfl X hO G in_M ty_M ty_M_ok rfl wk_S_7 wn_M wi_M f0_M_ok (fun ct' => xc_M_init l D cs N (q + 1) ct') rfl kc_S_9 ⟨Nat.le_of_ble_eq_true rfl, Nat.le_of_ble_eq_true rfl⟩ (Nat.le_of_ble_eq_true rfl) (Nat.le_of_ble_eq_true rfl) ⟨Nat.le_of_ble_eq_true rfl, Nat.le_of_ble_eq_true rfl⟩ hl.1 (Nat.le_of_ble_eq_true rfl) d_S_init_5 d_S_init_8 d_S_init_9 (fun H locs G => ?_)
  refine xl_putF (pc := 12) (k := 6) (j := 0) (f := 0) (ci := 0) (ty := ty_S 0) rfl X G hnm in_S ty_S_ok nm_S rfl rfl (by decide) (xs_tg 125 (by decide +kernel) (by decide +kernel)) rfl rfl (ty_S_ok 0 (by decide)) rfl rfl (Nat.le_of_ble_eq_true rfl) d_S_init_12 (fun H locs G => ?_)
  refine lv_aload_n (pc := 15) hx hb d_S_init_15 rfl (lv_at hl 0 rfl) ?_
  refine xl_madeN (pc := 16) (k := 6) (fs := f0_X) (ci := 2) (n2 := 2) rfl X hO G in_X ty_X ty_X_ok rfl wk_S_16 wn_X wi_X f0_X_ok (fun ct' => xc_X_init l D cs N (q + 6) ct') rfl kc_S_18 ⟨Nat.le_of_ble_eq_true rfl, Nat.le_of_ble_eq_true rfl⟩ (Nat.le_of_ble_eq_true rfl) (Nat.le_of_ble_eq_true rfl) ⟨Nat.le_of_ble_eq_true rfl, Nat.le_of_ble_eq_true rfl⟩ hl.1 (Nat.le_of_ble_eq_true rfl) d_S_init_16 d_S_init_19 d_S_init_20 (fun H locs G => ?_)
  refine xl_putF (pc := 23) (k := 8) (j := 0) (f := 1) (ci := 0) (ty := ty_S 1) rfl X G hnm in_S ty_S_ok nm_S rfl rfl (by decide) (xs_tg 126 (by decide +kernel) (by decide +kernel)) rfl rfl (ty_S_ok 1 (by decide)) rfl rfl (Nat.le_of_ble_eq_true rfl) d_S_init_23 (fun H locs G => ?_)
  refine lv_aload_n (pc := 26) hx hb d_S_init_26 rfl (lv_at hl 0 rfl) ?_
  refine xl_made (pc := 27) (k := 8) (fs := f0_P) (ci := 4) (n2 := 5) rfl X hO G in_P ty_P ty_P_ok rfl wk_S_23 wn_P wi_P f0_P_ok (fun ct' => xc_P_init l D cs N (q + 8) ct') rfl kc_S_25 ⟨Nat.le_of_ble_eq_true rfl, Nat.le_of_ble_eq_true rfl⟩ (Nat.le_of_ble_eq_true rfl) (Nat.le_of_ble_eq_true rfl) ⟨Nat.le_of_ble_eq_true rfl, Nat.le_of_ble_eq_true rfl⟩ hl.1 (Nat.le_of_ble_eq_true rfl) d_S_init_27 d_S_init_30 d_S_init_31 (fun H locs G => ?_)
  refine xl_putF (pc := 34) (k := 13) (j := 0) (f := 2) (ci := 0) (ty := ty_S 2) rfl X G hnm in_S ty_S_ok nm_S rfl rfl (by decide) (xs_tg 127 (by decide +kernel) (by decide +kernel)) rfl rfl (ty_S_ok 2 (by decide)) rfl rfl (Nat.le_of_ble_eq_true rfl) d_S_init_34 (fun H locs G => ?_)
  refine lv_aload_n (pc := 37) hx hb d_S_init_37 rfl (lv_at hl 0 rfl) ?_
  refine lv_bipush (pc := 38) (v := (20 : Int32)) hx hb d_S_init_38 (by decide) ?_
  refine xl_anew (pc := 40) (k := 13) rfl X hO G wk_S_30 (Nat.le_of_ble_eq_true rfl) (Nat.le_of_ble_eq_true rfl) d_S_init_40 (fun H G => ?_)
  refine xl_putF (pc := 43) (k := 14) (j := 0) (f := 3) (ci := 0) (ty := ty_S 3) rfl X G hnm in_S ty_S_ok nm_S rfl rfl (by decide) (xs_tg 128 (by decide +kernel) (by decide +kernel)) rfl rfl (ty_S_ok 3 (by decide)) rfl rfl (Nat.le_of_ble_eq_true rfl) d_S_init_43 (fun H locs G => ?_)
  have G : xc_G D cs s (fun z => N ≤ z) s.heap N (q + 14) (xc_L ct q (xc_B cs N q (xc_af N q 0) ++ xc_TR cs N q 0)) H locs := by
    rw [xc_af_0]; exact G
  refine lv_iconst (pc := 46) (v := (0 : Int32)) hx hb d_S_init_46 (by decide) ?_
  refine lv_istore_n (pc := 47) hx hb d_S_init_47 rfl hl (by decide) (lv' := [(1, .int (0 : Int32)), (0, .ref (N + (q + 0)))]) rfl (fun ls hl => ?_)
  exact L2 20 0 H locs ls (by omega) G (lv_sub hl [1, 0] rfl)
