/-! more constructors: Picture, with wipe -/
def xc_wl (x : Int32) (v : Nat) : Nat → Int32 := fun j => if j < v then x else 0
theorem xc_wl_s (x : Int32) (v : Nat) : upd (xc_wl x v) v x = xc_wl x (v + 1) := by
  funext j
  unfold upd xc_wl
  by_cases h : j = v
  · rw [if_pos h, if_pos (by omega)]
  · rw [if_neg h]
    by_cases h2 : j < v
    · rw [if_pos h2, if_pos (by omega)]
    · rw [if_neg h2, if_neg (by omega)]
theorem xc_wl_0 (v : Nat) : xc_wl 0 v = fun _ => 0 := by funext j; unfold xc_wl; rw [ite_self]
def xc_LP (cs : xs_cs) (N q v : Nat) (x : Int32) : List va_E := [.inr (4, [.ref (N + (q + 1)), .ref (N + (q + 2)), .ref (N + (q + 3)), .ref (N + (q + 4))]), xs_ai cs 192 (xc_wl x v), xs_ai cs 192 (xc_wl (-1) v), xs_al cs 192 (fun _ => 0), xs_al cs 192 (fun _ => 0)]
theorem xc_P_wipe (l : Launch) (D : va_G) (cs : xs_cs) (N q : Nat) (ct : Nat → va_E) (x : Int32) : xc_I l D cs y_P_wipe b_P_wipe 3 0 0 0 0 [.ref (N + q), .int x] N (q + 5) (xc_L ct q (xc_LP cs N q 0 x)) (q + 5) (xc_L ct q (xc_LP cs N q 192 x)) := by
  refine xc_entry (by decide) (Nat.le_of_ble_eq_true rfl) ?_
  intro p e s m below meth c ls X hr hlk hnm hO G hl
  have X : xs_C p s m c b_P_wipe 3 _ R_P := X
  have hx := X.1
  have hb := X.2.1
  have hl : lv_has ls 3 [(0, .ref (N + (q + 0))), (1, .int x)] := hl
  have L2 : ∀ (r n : Nat) (H : Heap) (locs : List Loc) (ls : Array Slot), n + r = 192 → xc_G D cs s (fun z => N ≤ z) s.heap N (q + 5) (xc_L ct q (xc_LP cs N q n x)) H locs → lv_has ls 3 [(0, .ref (N + (q + 0))), (1, .int x), (2, .int (Int32.ofNat n))] →
      W p l e (xc_rm 0 0 0 0) s m [Value.ref (N + q), .int x].toArray below meth c H locs 0 0 (xc_E below D [.ref (N + q), .int x] s N (q + 5) (xc_L ct q (xc_LP cs N q 192 x)) 0 0) (F0 m 2 ls []) := by
    clear G hl
    intro r
    induction r with
    | zero =>
      intro n H locs ls hn G hl
      have hn : n = 192 := by omega
      subst hn
      refine lv_iload_n (pc := 2) hx hb d_P_wipe_2 rfl (lv_at hl 2 rfl) ?_
      refine lv_sipush (pc := 3) (v := (192 : Int32)) hx hb d_P_wipe_3 (by decide) ?_
      refine lv_icmp_ge (pc := 6) (tgt := 29) hx hb d_P_wipe_6 (by decide) (fun hc => ?_) (fun hc => absurd (show (192 : Int32) ≤ Int32.ofNat 192 by decide) hc)
      exact xc_vret hx hb hr hlk G (fun i _ => rfl) rfl rfl d_P_wipe_29
    | succ r ih =>
      intro n H locs ls hn G hl
      have hlt : n < 192 := by omega
      have hcl : (Int32.ofNat n).toNatClampNeg = n := Int32.toNatClampNeg_ofNat_of_lt (by omega)
      have hge : ¬ (192 : Int32) ≤ Int32.ofNat n := by
        rw [show (192 : Int32) = Int32.ofNat 192 from rfl, Int32.le_iff_toInt_le, Int32.toInt_ofNat_of_lt (by decide), Int32.toInt_ofNat_of_lt (by omega)]; omega
      have hin : vp_in (Int32.ofNat n) 192 := by
        rintro (h | h)
        · rw [Int32.lt_iff_toInt_lt, Int32.toInt_ofNat_of_lt (by omega)] at h
          have h : (n : Int) < 0 := h
          omega
        · rw [hcl] at h; omega
      refine lv_iload_n (pc := 2) hx hb d_P_wipe_2 rfl (lv_at hl 2 rfl) ?_
      refine lv_sipush (pc := 3) (v := (192 : Int32)) hx hb d_P_wipe_3 (by decide) ?_
      refine lv_icmp_ge (pc := 6) (tgt := 29) hx hb d_P_wipe_6 (by decide) (fun hc => absurd hc hge) (fun hc => ?_)
      refine lv_aload_n (pc := 9) hx hb d_P_wipe_9 rfl (lv_at hl 0 rfl) ?_
      refine xl_get1 (pc := 10) (k := 5) (j := 0) (f := 0) (ci := 4) rfl X G in_P rfl rfl (by decide) (xs_tg 68 (by decide +kernel) (by decide +kernel)) rfl d_P_wipe_10 ?_
      refine lv_iload_n (pc := 13) hx hb d_P_wipe_13 rfl (lv_at hl 2 rfl) ?_
      refine lv_iload_n (pc := 14) hx hb d_P_wipe_14 rfl (lv_at hl 1 rfl) ?_
      refine xl_iast (pc := 15) (k := 5) (j := 1) (len := 192) rfl hx hb G rfl hin d_P_wipe_15 (fun H locs G => ?_)
      refine lv_aload_n (pc := 16) hx hb d_P_wipe_16 rfl (lv_at hl 0 rfl) ?_
      refine xl_get1 (pc := 17) (k := 5) (j := 0) (f := 1) (ci := 4) rfl X G in_P rfl rfl (by decide) (xs_tg 70 (by decide +kernel) (by decide +kernel)) rfl d_P_wipe_17 ?_
      refine lv_iload_n (pc := 20) hx hb d_P_wipe_20 rfl (lv_at hl 2 rfl) ?_
      refine lv_iconst (pc := 21) (v := (-1 : Int32)) hx hb d_P_wipe_21 (by decide) ?_
      refine xl_iast (pc := 22) (k := 5) (j := 2) (len := 192) rfl hx hb G rfl hin d_P_wipe_22 (fun H locs G => ?_)
      rw [hcl, xc_wl_s, xc_wl_s] at G
      refine lv_iinc (pc := 23) (v := Int32.ofNat (n + 1)) (k := 2) hx hb d_P_wipe_23 hl rfl (xs_inc _ |>.trans (Int32.ofNat_add n 1).symm) (by decide) (lv' := [(2, .int (Int32.ofNat (n + 1))), (0, .ref (N + (q + 0))), (1, .int x)]) rfl (fun ls hl => ?_)
      refine lv_goto (pc := 26) (tgt := 2) hx hb d_P_wipe_26 (by decide) ?_
      exact ih (n + 1) H locs ls (by omega) G (lv_sub hl [1, 2, 0] rfl)
  refine lv_iconst (pc := 0) (v := (0 : Int32)) hx hb d_P_wipe_0 (by decide) ?_
  refine lv_istore_n (pc := 1) hx hb d_P_wipe_1 rfl hl (by decide) (lv' := [(2, .int (0 : Int32)), (0, .ref (N + (q + 0))), (1, .int x)]) rfl (fun ls hl => ?_)
  exact L2 192 0 _ _ ls (by omega) G (lv_sub hl [1, 2, 0] rfl)
