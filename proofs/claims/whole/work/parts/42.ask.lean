/-! triangle, compare, depth; floors and remainders -/
theorem pv_po {μ : xs_M} {k n c : Nat} (hk : k < 20) (hn : n < 3) (hc : c < 6) : fn_R_placeOf μ (Int32.ofNat k) (Int32.ofNat n) (Int32.ofNat c) = some (pv_pl μ k n c) := by
  unfold fn_R_placeOf
  rw [ixm18, ixm6, ix_add, ix_add, if_pos (ix_in (by omega) (by omega)), ix_cl (by omega)]
  rfl
theorem pv_po0 {μ : xs_M} {k n : Nat} (hk : k < 20) (hn : n < 3) : fn_R_placeOf μ (Int32.ofNat k) (Int32.ofNat n) 0 = some (pv_pl μ k n 0) := pv_po (c := 0) hk hn (by decide)
theorem pv_po1 {μ : xs_M} {k n : Nat} (hk : k < 20) (hn : n < 3) : fn_R_placeOf μ (Int32.ofNat k) (Int32.ofNat n) 1 = some (pv_pl μ k n 1) := pv_po (c := 1) hk hn (by decide)
theorem pv_po2 {μ : xs_M} {k n : Nat} (hk : k < 20) (hn : n < 3) : fn_R_placeOf μ (Int32.ofNat k) (Int32.ofNat n) 2 = some (pv_pl μ k n 2) := pv_po (c := 2) hk hn (by decide)
theorem pv_pl.sl (μ : xs_M) (i j : Nat) (x : Int64) (k n c : Nat) : pv_pl (xs_sl μ i j x) k n c = pv_pl μ k n c := rfl
theorem pv_prep {μ : xs_M} {k : Nat} (hk : k < 20) : ∃ a, fn_R_prepare μ (Int32.ofNat k) = some a ∧ a.1 = μ.1 ∧ pv_ag [154, 163, 164, 165] μ a ∧ a.2 154 14 = pv_D μ k ∧ ∀ n, n < 3 → a.2 163 n = pv_eA μ k n ∧ a.2 164 n = pv_eB μ k n ∧ a.2 165 n = pv_eC μ k n := by
  obtain ⟨a, h1, h2, h3, h4⟩ := ix_for (fun fu a v => fn_R_prepare_L2 fu a (Int32.ofNat k) v) (fun n a => a.1 = μ.1 ∧ pv_ag [154, 163, 164, 165] μ a ∧ ∀ m, m < n → a.2 163 m = pv_eA μ k m ∧ a.2 164 m = pv_eB μ k m ∧ a.2 165 m = pv_eC μ k m) 3 (fun a => some (3, a)) μ (by omega)
    ⟨rfl, pv_ag.rf _ _, fun m hm => absurd hm (by omega)⟩
    (fun fu a h => by show fn_R_prepare_L2 (fu + 1) _ _ (Int32.ofNat 3) = _; rw [fn_R_prepare_L2, if_pos pv_e3]; rfl)
    (fun n a hn g => by
      obtain ⟨g1, g2, g3⟩ := g
      have pe : ∀ n c, pv_pl a k n c = pv_pl μ k n c := fun n c => by unfold pv_pl; rw [g1]
      have m1 : (n + 1) % 3 < 3 := Nat.mod_lt _ (by decide)
      have m2 : (n + 2) % 3 < 3 := Nat.mod_lt _ (by decide)
      refine ⟨xs_sl (xs_sl (xs_sl a 163 n (pv_eA μ k n)) 164 n (pv_eB μ k n)) 165 n (pv_eC μ k n), fun fu => ?_, g1, ((g2.sl (by simp) _ _).sl (by simp) _ _).sl (by simp) _ _, fun m hm => ?_⟩
      · show fn_R_prepare_L2 (fu + 1) _ _ (Int32.ofNat n) = _
        rw [fn_R_prepare_L2, if_neg (pv_n3 hn), ixa1, ixa2, pv_mod3 (by omega), pv_mod3 (by omega), Option.bind_some, Option.bind_some]
        rw [pv_po1 hk m1, Option.bind_some, pv_po2 hk m2, Option.bind_some, pv_po2 hk m1, Option.bind_some, pv_po1 hk m2, Option.bind_some, if_pos (ix_in hn (by omega)), Option.bind_some]
        rw [pv_po2 hk m1, Option.bind_some, pv_po0 hk m2, Option.bind_some, pv_po0 hk m1, Option.bind_some, pv_po2 hk m2, Option.bind_some, if_pos (ix_in hn (by omega)), Option.bind_some]
        rw [pv_po0 hk m1, Option.bind_some, pv_po1 hk m2, Option.bind_some, pv_po1 hk m1, Option.bind_some, pv_po0 hk m2, Option.bind_some, if_pos (ix_in hn (by omega)), Option.bind_some, ix_cl (by omega)]
        simp only [pv_pl.sl, pe]
        rfl
      · rw [sl_same, sl_ne _ _ _ (show 163 ≠ 165 by decide), sl_ne _ _ _ (show 163 ≠ 164 by decide), sl_ne _ _ _ (show 164 ≠ 165 by decide), sl_same, sl_same, sl_ne _ _ _ (show 164 ≠ 163 by decide), sl_ne _ _ _ (show 165 ≠ 164 by decide), sl_ne _ _ _ (show 165 ≠ 163 by decide)]
        by_cases e : m = n
        · subst e; rw [if_pos rfl, if_pos rfl, if_pos rfl]; exact ⟨rfl, rfl, rfl⟩
        · rw [if_neg e, if_neg e, if_neg e]; exact g3 m (by omega))
  have pe : ∀ n c, pv_pl a k n c = pv_pl μ k n c := fun n c => by unfold pv_pl; rw [h2]
  refine ⟨xs_sl a 154 14 (pv_D μ k), ?_, h2, h3.sl (by simp) _ _, by rw [sl_same, if_pos rfl], fun n hn => ?_⟩
  · unfold fn_R_prepare
    obtain ⟨z, hz, hz2⟩ : ∃ z, fn_R_prepare_L2 xs_FU μ (Int32.ofNat k) 0 = some z ∧ z.2 = a := ⟨_, h1, rfl⟩
    rw [hz, Option.bind_some, hz2, show fn_R_placeOf a (Int32.ofNat k) 0 0 = some (pv_pl μ k 0 0) from (pv_po0 (n := 0) hk (by decide)).trans (by rw [pe]), Option.bind_some, show fn_R_placeOf a (Int32.ofNat k) 0 1 = some (pv_pl μ k 0 1) from (pv_po1 (n := 0) hk (by decide)).trans (by rw [pe]), Option.bind_some, show fn_R_placeOf a (Int32.ofNat k) 0 2 = some (pv_pl μ k 0 2) from (pv_po2 (n := 0) hk (by decide)).trans (by rw [pe]), Option.bind_some, Option.bind_some]
    rw [show (0 : Int32).toNatClampNeg = 0 by decide, (h4 0 (by omega)).1, (h4 0 (by omega)).2.1, (h4 0 (by omega)).2.2]
    rfl
  · rw [sl_ne _ _ _ (by decide), sl_ne _ _ _ (by decide), sl_ne _ _ _ (by decide)]; exact h4 n hn
theorem pv_cmp_tc {x : Int32} {tc : Nat} (htc : tc ≤ 20) : (x < 0 ∨ Int32.ofNat tc - 1 < x) ↔ (x < 0 ∨ Int32.ofNat tc ≤ x) := by
  have e : (Int32.ofNat tc - 1).toInt = tc - 1 := by
    rw [Int32.toInt_sub, ix_ti (by omega)]; exact pn_bm32 (by show -2147483648 ≤ (tc : Int) - 1; omega) (by show (tc : Int) - 1 < 2147483648; omega)
  rw [Int32.lt_iff_toInt_lt (x := Int32.ofNat tc - 1), e, Int32.le_iff_toInt_le, ix_ti (by omega)]
  constructor <;> intro h <;> rcases h with h | h
  · exact Or.inl h
  · exact Or.inr (by omega)
  · exact Or.inl h
  · exact Or.inr (by omega)
theorem pv_triangle {μ : xs_M} (h : pv_I μ) (x0 x1 : Int32) : ∃ r μ1 y μ2, fn_L_triangle μ x0 x1 = some (r, μ1) ∧ fn_R_triangle μ1 x0 x1 = some (y, μ2) ∧ μ2.1 154 0 = r ∧ (r = 0 → μ2.2 171 0 = y) ∧ pv_I μ2 := by
  obtain ⟨tc, ct, ⟨c1, c2, c3⟩, ⟨c4, c5, c6⟩, c7, c8⟩ := h.cnt
  have n10 : ¬ (1 : Int32) = 0 := by decide
  have d3 : Int32.ofNat (3 * tc + ct) / 3 = Int32.ofNat tc := by
    rw [show Int32.ofNat (3 * tc + ct) / 3 = Int32.ofNat ((3 * tc + ct) / 3) from ix_div (b := 3) (by omega) (by decide), show (3 * tc + ct) / 3 = tc by omega]
  by_cases d0 : x0 < 0 ∨ Int32.ofNat tc - 1 < x0
  · refine ⟨1, μ, 0, xs_si μ 154 0 1, ?_, ?_, rfl, fun q => absurd q (by decide), h.code 1⟩
    · unfold fn_L_triangle fn_S_triangle
      rw [c4, pv_within, if_pos d0, Option.bind_some, if_pos rfl, Option.bind_some]; rfl
    · unfold fn_R_triangle
      rw [c6, d3]
      rcases (pv_cmp_tc c1).mp d0 with q | q
      · rw [if_pos q]; rfl
      · by_cases q2 : x0 < 0
        · rw [if_pos q2]; rfl
        · rw [if_neg q2, if_pos q]; rfl
  have d0' : ¬ (x0 < 0 ∨ Int32.ofNat tc ≤ x0) := fun q => d0 ((pv_cmp_tc c1).mpr q)
  have d01 : ¬ x0 < 0 := fun q => d0 (Or.inl q)
  have d02 : ¬ Int32.ofNat tc ≤ x0 := fun q => d0' (Or.inr q)
  by_cases d1 : x1 < 0 ∨ 12 < x1
  · refine ⟨1, μ, 0, xs_si μ 154 0 1, ?_, ?_, rfl, fun q => absurd q (by decide), h.code 1⟩
    · unfold fn_L_triangle fn_S_triangle
      rw [c4, pv_within, if_neg d0, Option.bind_some, if_neg n10, pv_within, if_pos d1, Option.bind_some, if_pos rfl, Option.bind_some]; rfl
    · unfold fn_R_triangle
      rw [c6, d3, if_neg d01, if_neg d02]
      by_cases q2 : x1 < 0
      · rw [if_pos q2]; rfl
      · rw [if_neg q2, if_neg (fun q => (pv_lec.mpr q) (d1.resolve_left q2))]; rfl
  have d11 : ¬ x1 < 0 := fun q => d1 (Or.inl q)
  have d12 : ¬ 12 < x1 := fun q => d1 (Or.inr q)
  obtain ⟨k, hk, rfl⟩ : ∃ k, k < tc ∧ x0 = Int32.ofNat k := by
    obtain ⟨k, hk, e⟩ := ix_ex (x := x0) (m := 20) (by omega) d01 (fun q => by
      rw [Int32.le_iff_toInt_le, ix_ti (by omega)] at d02
      rw [Int32.lt_iff_toInt_lt, ix_ti (by omega)] at q
      omega)
    refine ⟨k, ?_, e⟩
    rw [e, ix_le (by omega) (by omega)] at d02
    omega
  obtain ⟨w, hw, rfl⟩ := ix_ex (x := x1) (m := 12) (by omega) d11 d12
  obtain ⟨t1, t2, t3, tD, tS, tE⟩ := c8 k hk
  obtain ⟨m1, hm1⟩ : ∃ m1, m1 = xs_sl μ 171 0 (μ.2 (14 + 7 * k + 1) w) := ⟨_, rfl⟩
  have hL : fn_L_triangle μ (Int32.ofNat k) (Int32.ofNat w) = some (0, m1) := by
    unfold fn_L_triangle fn_S_triangle fn_T_numberAt
    rw [c4, pv_within, if_neg d0, Option.bind_some, if_neg n10, pv_within, if_neg d1, Option.bind_some, if_neg n10, if_pos (ix_in (by omega) (by omega)), ix_cl (by omega), if_pos (ix_in (by omega) (by omega)), ix_cl (by omega), Option.bind_some, Option.bind_some, hm1]; rfl
  have hm11 : m1.1 = μ.1 := by rw [hm1]; rfl
  have I1 : pv_I (xs_si m1 154 0 0) := by rw [hm1]; exact (h.out _).code 0
  by_cases w0 : w = 0
  · subst w0
    obtain ⟨a, a1, a2, a3, a4, a5⟩ := pv_prep (μ := xs_si m1 154 0 0) (k := k) (by omega)
    have eD : pv_D (xs_si m1 154 0 0) k = pv_D μ k := (pv_D.fr (by rw [si_ne _ _ _ (by decide), hm11])).1
    refine ⟨0, m1, pv_D μ k, a, hL, ?_, by rw [a2]; rfl, fun _ => ?_, ?_⟩
    · unfold fn_R_triangle
      rw [hm11, c6, d3, if_neg d01, if_neg d02, if_neg d11, if_pos (pv_lec.mp d12), Option.bind_some, if_pos (by decide), a1, Option.bind_some, a4, eD]
    · rw [a3.2 171 (by decide), si_2, hm1, sl_same, if_pos rfl, tD]
    · exact I1.fr (S := [154, 163, 164, 165]) (by simp +contextual) a3 (by rw [a2]) (by rw [a2]) (by rw [a2]) (by rw [a2]) (by rw [a2])
  · obtain ⟨n, c, hn, hc, rfl⟩ : ∃ n c, n < 3 ∧ c < 4 ∧ w = 4 * n + c + 1 := ⟨(w - 1) / 4, (w - 1) % 4, by omega, by omega, by omega⟩
    obtain ⟨o1, o2, o3, o4, -⟩ := c7 k n hn (by omega)
    have ev : μ.2 (14 + 7 * k + 1) (4 * n + c + 1) = pv_pl μ k n c := by
      have hc4 : c = 0 ∨ c = 1 ∨ c = 2 ∨ c = 3 := by omega
      rcases hc4 with rfl | rfl | rfl | rfl
      · exact o1
      · exact o2
      · exact o3
      · exact o4
    refine ⟨0, m1, pv_pl μ k n c, xs_si m1 154 0 0, hL, ?_, rfl, fun _ => ?_, I1⟩
    · unfold fn_R_triangle
      rw [hm11, c6, d3, if_neg d01, if_neg d02, if_neg d11, if_pos (pv_lec.mp d12), Option.bind_some, if_neg (show ¬ Int32.ofNat (4 * n + c + 1) ≤ 0 from fun q => absurd ((ix_le (b := 0) (by omega) (by decide)).mp q) (by omega))]
      rw [show Int32.ofNat (4 * n + c + 1) - 1 = Int32.ofNat (4 * n + c) from ix_sub (b := 1) (by omega), pv_mod4 (by omega), show Int32.ofNat (4 * n + c) / 4 = Int32.ofNat ((4 * n + c) / 4) from ix_div (b := 4) (by omega) (by decide), show (4 * n + c) / 4 = n by omega, show (4 * n + c) % 4 = c by omega, pv_po (by omega) hn (by omega), Option.bind_some]
      unfold pv_pl
      rw [si_ne _ _ _ (by decide), hm11]
    · rw [si_2, hm1, sl_same, if_pos rfl, ev]
/-! compare, depth -/
theorem pv_xor {x y : Int64} (hy : 0 < y.toInt) : 0 ≤ x ^^^ y ↔ 0 ≤ x.toInt := by
  rw [Int64.le_iff_toInt_le]
  show (0 : Int64).toInt ≤ (x ^^^ y).toBitVec.toInt ↔ 0 ≤ x.toBitVec.toInt
  rw [show (0 : Int64).toInt = 0 by decide, Int64.toBitVec_xor]
  have h1 := BitVec.msb_eq_toInt (x := x.toBitVec ^^^ y.toBitVec)
  have h2 := BitVec.msb_eq_toInt (x := x.toBitVec)
  have h3 := BitVec.msb_eq_toInt (x := y.toBitVec)
  have hy' : ¬ y.toBitVec.toInt < 0 := fun q => by
    have : y.toInt < 0 := q
    omega
  rw [decide_eq_false hy'] at h3
  rw [BitVec.msb_xor, h2, h3, Bool.xor_false] at h1
  have := decide_eq_decide.mp h1
  omega
theorem pv_floorDiv (μ : xs_M) {a b : Int64} (hb : 0 < b.toInt) : ∃ q, fn_J_floorDiv μ a b = some q ∧ fn_R_floor μ a b = some q ∧ q.toInt = a.toInt / b.toInt := by
  obtain ⟨q, h1, h2⟩ := pn_floor μ (a := a) hb
  refine ⟨q, ?_, h1, h2⟩
  rw [← h1]
  have hne : ¬ b = 0 := fun h => by rw [h] at hb; simp at hb
  have hne1 : b ≠ -1 := fun h => by rw [h] at hb; revert hb; decide
  have hd : (a / b).toInt = a.toInt.tdiv b.toInt := Int64.toInt_div_of_ne_right a b hne1
  unfold fn_J_floorDiv fn_R_floor
  rw [if_pos hne, if_pos hne, Option.bind_some, Option.bind_some]
  have la := Int64.le_toInt a
  have ua := Int64.toInt_lt a
  by_cases hx : 0 ≤ a.toInt
  · rw [if_pos ((lg_cmp_ge _ _).mpr ((pv_xor hb).mpr hx))]
    rw [Int.tdiv_eq_ediv_of_nonneg hx] at hd
    have e1 := Int.mul_ediv_add_emod a.toInt b.toInt
    have e2 := Int.emod_nonneg a.toInt (show b.toInt ≠ 0 by omega)
    have e3 := Int.emod_lt_of_pos a.toInt hb
    have e4 : 0 ≤ a.toInt / b.toInt := Int.ediv_nonneg hx (by omega)
    have e5 : 0 ≤ b.toInt * (a.toInt / b.toInt) := Int.mul_nonneg (by omega) e4
    have hm : (a / b * b).toInt = a.toInt / b.toInt * b.toInt := pn_mul hd rfl (by rw [Int.mul_comm]; omega) (by rw [Int.mul_comm]; omega)
    rw [if_pos ((lg_cmp_le _ _).mpr (by rw [Int64.le_iff_toInt_le, hm, Int.mul_comm]; omega))]
  · rw [if_neg (fun h => hx ((pv_xor hb).mp ((lg_cmp_ge _ _).mp h)))]
    have e1 := Int.mul_tdiv_add_tmod a.toInt b.toInt
    have e2 : a.toInt.tmod b.toInt ≤ 0 := by
      have := Int.tmod_nonneg b.toInt (show 0 ≤ -a.toInt by omega)
      rw [Int.neg_tmod] at this
      omega
    have e3 : -b.toInt < a.toInt.tmod b.toInt := by
      have := Int.tmod_lt_of_pos (-a.toInt) hb
      rw [Int.neg_tmod] at this
      omega
    have e4 : b.toInt * a.toInt.tdiv b.toInt ≤ 0 := by
      have : 0 ≤ (-a.toInt).tdiv b.toInt := Int.tdiv_nonneg (by omega) (by omega)
      rw [Int.neg_tdiv] at this
      have := Int.mul_nonneg (show 0 ≤ b.toInt by omega) this
      rw [Int.mul_neg] at this
      omega
    have hm : (a / b * b).toInt = a.toInt.tdiv b.toInt * b.toInt := pn_mul hd rfl (by rw [Int.mul_comm]; omega) (by rw [Int.mul_comm]; omega)
    have hge : a.toInt ≤ (a / b * b).toInt := by rw [hm, Int.mul_comm]; omega
    by_cases hz : a / b * b = a
    · rw [if_pos ((lg_cmp_eq _ _).mpr hz), if_pos ((lg_cmp_le _ _).mpr (by rw [hz]; exact Int64.le_refl a))]
    · have : (a / b * b).toInt ≠ a.toInt := fun q => hz (Int64.toInt_inj.mp q)
      rw [if_neg (fun h => hz ((lg_cmp_eq _ _).mp h)), if_neg (fun h => by rw [lg_cmp_le, Int64.le_iff_toInt_le] at h; omega)]
theorem pv_cutDown (μ : xs_M) {a b : Int64} (hb : 0 < b.toInt) : ∃ q, fn_S_cutDown μ a b = some q ∧ (∀ μ', fn_R_floor μ' a b = some q) ∧ q.toInt = a.toInt / b.toInt := by
  obtain ⟨q, h1, h2, h3⟩ := pv_floorDiv μ (a := a) hb
  refine ⟨q, ?_, fun _ => h2, h3⟩
  unfold fn_S_cutDown
  rw [if_neg (fun h => by rw [lg_cmp_le, Int64.le_iff_toInt_le, show (0 : Int64).toInt = 0 by decide] at h; omega), h1, Option.bind_some]
theorem pv_own {μ : xs_M} (h : pv_I μ) {p : Nat} (hp : p < 192) : (μ.1 10 p = -1 ∧ μ.1 167 p = -1) ∨ ∃ k, k < 20 ∧ μ.1 10 p = Int32.ofNat k ∧ μ.1 167 p = Int32.ofNat k ∧ μ.2 11 p = μ.2 169 p ∧ μ.2 12 p = μ.2 170 p ∧ (-2305843009213693952 ≤ (μ.2 11 p).toInt ∧ (μ.2 11 p).toInt ≤ 2305843009213693952) ∧ 0 < (μ.2 12 p).toInt ∧ (μ.2 12 p).toInt ≤ 576460752303423488 := by
  obtain ⟨h1, h2, h3⟩ := h.pic p hp
  rcases h3 with h3 | ⟨⟨k, hk, h3⟩, h4, h5, h6, h7⟩
  · exact Or.inl ⟨h3, h2.symm.trans h3⟩
  · exact Or.inr ⟨k, hk, h3, h2.symm.trans h3, h4, h5, h6, h7⟩
theorem pv_isOwned (μ : xs_M) {p : Nat} (hp : p < 192) : fn_P_isOwned μ (Int32.ofNat p) = some (if μ.1 10 p = -1 then 0 else 1) := by
  unfold fn_P_isOwned
  rw [if_pos (ix_in hp (by omega)), ix_cl (by omega)]
  by_cases h : μ.1 10 p = -1
  · rw [if_pos h, if_pos h]
  · rw [if_neg h, if_neg h]
theorem pv_nm1 {k : Nat} (hk : k < 20) : ¬ Int32.ofNat k = -1 := fun q => by
  have := congrArg Int32.toInt q
  rw [ix_ti (by omega), show (-1 : Int32).toInt = -1 by decide] at this
  omega
theorem pv_0le {k : Nat} (hk : k < 20) : (0 : Int32) ≤ Int32.ofNat k := (ix_le (a := 0) (by decide) (by omega)).mpr (Nat.zero_le k)
theorem pv_depth {μ : xs_M} (h : pv_I μ) (x0 x1 : Int32) : ∃ r μ1 y μ2, fn_L_depth μ x0 x1 = some (r, μ1) ∧ fn_R_depth μ1 x0 x1 = some (y, μ2) ∧ μ2.1 154 0 = r ∧ (r = 0 → μ2.2 171 0 = y) ∧ pv_I μ2 := by
  have n10 : ¬ (1 : Int32) = 0 := by decide
  by_cases c : (x0 < 0 ∨ 15 < x0) ∨ (x1 < 0 ∨ 11 < x1)
  · refine ⟨1, μ, 0, xs_si μ 154 0 1, ?_, ?_, rfl, fun q => absurd q (by decide), h.code 1⟩
    · unfold fn_L_depth fn_S_depth
      rw [pv_isPixel, if_pos c, Option.bind_some, if_pos rfl, Option.bind_some]; rfl
    · unfold fn_R_depth
      rw [pv_isPixelR, if_pos c, Option.bind_some, if_pos rfl]; rfl
  · obtain ⟨i, j, hi, hj, rfl, rfl⟩ := pv_px c
    have hS : fn_S_depth μ (Int32.ofNat i) (Int32.ofNat j) = if (if μ.1 10 (16 * j + i) = -1 then 0 else 1 : Int32) = 0 then some (.inr ("java/lang/IllegalStateException", μ)) else ((fn_P_wholeDepth μ (Int32.ofNat (16 * j + i))).bind fun w4 => some (.inl (w4, μ))) := by
      unfold fn_S_depth fn_P_indexOf
      rw [pv_isPixel, if_neg c, Option.bind_some, if_neg n10, Option.bind_some, ixm16', ix_add, pv_isOwned μ (by omega), Option.bind_some]
    rcases pv_own h (show 16 * j + i < 192 by omega) with ⟨h1, h2⟩ | ⟨k, hk, h1, h2, h3, h4, h5, h6, h7⟩
    · refine ⟨2, μ, 0, xs_si μ 154 0 2, ?_, ?_, rfl, fun q => absurd q (by decide), h.code 2⟩
      · unfold fn_L_depth
        rw [hS, h1, if_pos rfl, if_pos rfl, Option.bind_some]; rfl
      · unfold fn_R_depth
        rw [pv_isPixelR, if_neg c, Option.bind_some, if_neg n10, ixm16, ix_add, if_pos (ix_in (by omega) (by omega)), ix_cl (by omega), h2, if_neg (by decide)]; rfl
    · obtain ⟨q, q1, q2, q3⟩ := pv_cutDown μ (a := μ.2 11 (16 * j + i)) h6
      refine ⟨0, xs_sl μ 171 0 q, q, xs_si (xs_sl μ 171 0 q) 154 0 0, ?_, ?_, rfl, fun _ => rfl, (h.out _).code 0⟩
      · unfold fn_L_depth
        rw [hS, h1, if_neg (pv_nm1 hk), if_neg n10]
        unfold fn_P_wholeDepth
        rw [if_pos (ix_in (by omega) (by omega)), if_pos (ix_in (by omega) (by omega)), ix_cl (by omega), q1]; rfl
      · unfold fn_R_depth
        rw [pv_isPixelR, if_neg c, Option.bind_some, if_neg n10, ixm16, ix_add, if_pos (ix_in (by omega) (by omega)), ix_cl (by omega), sl_1, h2, if_pos (pv_0le hk), Option.bind_some, if_pos (ix_in (by omega) (by omega)), if_pos (ix_in (by omega) (by omega))]
        rw [si_2, sl_ne _ _ _ (by decide), sl_ne _ _ _ (by decide), ← h3, ← h4, q2]; rfl
theorem pv_compare {μ : xs_M} (h : pv_I μ) (x0 x1 x2 x3 : Int32) : ∃ r μ1 y μ2, fn_L_compare μ x0 x1 x2 x3 = some (r, μ1) ∧ fn_R_compare μ1 x0 x1 x2 x3 = some (y, μ2) ∧ μ2.1 154 0 = r ∧ (r = 0 → μ2.2 171 0 = y.toInt64) ∧ pv_I μ2 := by
  have n10 : ¬ (1 : Int32) = 0 := by decide
  by_cases c : (x0 < 0 ∨ 15 < x0) ∨ (x1 < 0 ∨ 11 < x1)
  · refine ⟨1, μ, 0, xs_si μ 154 0 1, ?_, ?_, rfl, fun q => absurd q (by decide), h.code 1⟩
    · unfold fn_L_compare fn_S_compare
      rw [pv_isPixel, if_pos c, Option.bind_some, if_pos rfl, Option.bind_some]; rfl
    · unfold fn_R_compare
      rw [pv_isPixelR, if_pos c, Option.bind_some, if_pos rfl]; rfl
  by_cases c' : (x2 < 0 ∨ 15 < x2) ∨ (x3 < 0 ∨ 11 < x3)
  · refine ⟨1, μ, 0, xs_si μ 154 0 1, ?_, ?_, rfl, fun q => absurd q (by decide), h.code 1⟩
    · unfold fn_L_compare fn_S_compare
      rw [pv_isPixel, if_neg c, Option.bind_some, if_neg n10, pv_isPixel, if_pos c', Option.bind_some, if_pos rfl, Option.bind_some]; rfl
    · unfold fn_R_compare
      rw [pv_isPixelR, if_neg c, Option.bind_some, if_neg n10, pv_isPixelR, if_pos c', Option.bind_some, if_pos rfl]; rfl
  obtain ⟨i, j, hi, hj, rfl, rfl⟩ := pv_px c
  obtain ⟨i2, j2, hi2, hj2, rfl, rfl⟩ := pv_px c'
  have hS : fn_S_compare μ (Int32.ofNat i) (Int32.ofNat j) (Int32.ofNat i2) (Int32.ofNat j2) = if (if μ.1 10 (16 * j + i) = -1 then 0 else 1 : Int32) = 0 then some (.inr ("java/lang/IllegalStateException", μ)) else if (if μ.1 10 (16 * j2 + i2) = -1 then 0 else 1 : Int32) = 0 then some (.inr ("java/lang/IllegalStateException", μ)) else ((fn_P_compareDepths μ (Int32.ofNat (16 * j + i)) (Int32.ofNat (16 * j2 + i2))).bind fun w7 => some (.inl (w7, μ))) := by
    unfold fn_S_compare fn_P_indexOf
    rw [pv_isPixel, if_neg c, Option.bind_some, if_neg n10, pv_isPixel, if_neg c', Option.bind_some, if_neg n10, Option.bind_some, Option.bind_some, ixm16', ix_add, ixm16', ix_add, pv_isOwned μ (by omega), Option.bind_some, pv_isOwned μ (by omega), Option.bind_some]
  have hR : ∀ m1 : xs_M, fn_R_compare m1 (Int32.ofNat i) (Int32.ofNat j) (Int32.ofNat i2) (Int32.ofNat j2) = if m1.1 167 (16 * j + i) < 0 then some (0, xs_si m1 154 0 2) else if 0 ≤ m1.1 167 (16 * j2 + i2) then ((fn_R_order (xs_si m1 154 0 0) (m1.2 169 (16 * j + i)) (m1.2 170 (16 * j + i)) (m1.2 169 (16 * j2 + i2)) (m1.2 170 (16 * j2 + i2))).bind fun w12 => some (w12, xs_si m1 154 0 0)) else some (0, xs_si m1 154 0 2) := by
    intro m1
    unfold fn_R_compare
    rw [pv_isPixelR, if_neg c, Option.bind_some, if_neg n10, pv_isPixelR, if_neg c', Option.bind_some, if_neg n10, ixm16, ix_add, ixm16, ix_add, if_pos (ix_in (by omega) (by omega)), ix_cl (by omega), if_pos (ix_in (by omega) (by omega)), ix_cl (by omega), Option.bind_some, Option.bind_some, if_pos (ix_in (by omega) (by omega)), if_pos (ix_in (by omega) (by omega)), if_pos (ix_in (by omega) (by omega)), if_pos (ix_in (by omega) (by omega))]
    rfl
  rcases pv_own h (show 16 * j + i < 192 by omega) with ⟨h1, h2⟩ | ⟨k, hk, h1, h2, h3, h4, h5, h6, h7⟩
  · refine ⟨2, μ, 0, xs_si μ 154 0 2, ?_, ?_, rfl, fun q => absurd q (by decide), h.code 2⟩
    · unfold fn_L_compare
      rw [hS, h1, if_pos rfl, if_pos rfl, Option.bind_some]; rfl
    · rw [hR, h2, if_pos (by decide)]
  · rcases pv_own h (show 16 * j2 + i2 < 192 by omega) with ⟨g1, g2⟩ | ⟨k', hk', g1, g2, g3, g4, g5, g6, g7⟩
    · refine ⟨2, μ, 0, xs_si μ 154 0 2, ?_, ?_, rfl, fun q => absurd q (by decide), h.code 2⟩
      · unfold fn_L_compare
        rw [hS, h1, if_neg (pv_nm1 hk), if_neg n10, g1, if_pos rfl, if_pos rfl, Option.bind_some]; rfl
      · rw [hR, h2, if_neg (ix_nn (by omega)), g2, if_neg (by decide)]
    · have q1 := pn_cq μ (a := μ.2 11 (16 * j + i)) (b := μ.2 12 (16 * j + i)) (c := μ.2 11 (16 * j2 + i2)) (d := μ.2 12 (16 * j2 + i2)) h5.1 h5.2 (by omega) h7 g5.1 g5.2 (by omega) g7
      generalize hsg : pn_sg ((μ.2 11 (16 * j + i)).toInt * (μ.2 12 (16 * j2 + i2)).toInt - (μ.2 11 (16 * j2 + i2)).toInt * (μ.2 12 (16 * j + i)).toInt) = sg at q1
      refine ⟨0, xs_sl μ 171 0 sg.toInt64, sg, xs_si (xs_sl μ 171 0 sg.toInt64) 154 0 0, ?_, ?_, rfl, fun _ => rfl, (h.out _).code 0⟩
      · unfold fn_L_compare
        rw [hS, h1, if_neg (pv_nm1 hk), if_neg n10, g1, if_neg (pv_nm1 hk'), if_neg n10]
        unfold fn_P_compareDepths
        rw [if_pos (ix_in (by omega) (by omega)), if_pos (ix_in (by omega) (by omega)), if_pos (ix_in (by omega) (by omega)), if_pos (ix_in (by omega) (by omega)), ix_cl (by omega), ix_cl (by omega), q1]; rfl
      · rw [hR, sl_1, h2, if_neg (ix_nn (by omega)), g2, if_pos (pv_0le hk'), sl_ne _ _ _ (by decide), sl_ne _ _ _ (by decide), ← h3, ← h4, ← g3, ← g4, pn_order _ h6 g6 (by omega) (by omega) (by omega) (by omega) (by omega) (by omega), hsg]
        rfl
