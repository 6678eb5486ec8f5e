/-! numbers: longs as whole numbers where nothing overflows; floors, and the two ways to compare two quotients -/
theorem pn_bm {n : Int} (h1 : -9223372036854775808 ≤ n) (h2 : n < 9223372036854775808) : n.bmod (2 ^ 64) = n := Int.bmod_eq_of_le (by omega) (by omega)
theorem pn_bm32 {n : Int} (h1 : -2147483648 ≤ n) (h2 : n < 2147483648) : n.bmod (2 ^ 32) = n := Int.bmod_eq_of_le (by omega) (by omega)
theorem pn_add {a b : Int64} {x y : Int} (ha : a.toInt = x) (hb : b.toInt = y) (h1 : -9223372036854775808 ≤ x + y) (h2 : x + y < 9223372036854775808) : (a + b).toInt = x + y := by
  rw [Int64.toInt_add, ha, hb]; exact pn_bm h1 h2
theorem pn_sub {a b : Int64} {x y : Int} (ha : a.toInt = x) (hb : b.toInt = y) (h1 : -9223372036854775808 ≤ x - y) (h2 : x - y < 9223372036854775808) : (a - b).toInt = x - y := by
  rw [Int64.toInt_sub, ha, hb]; exact pn_bm h1 h2
theorem pn_mul {a b : Int64} {x y : Int} (ha : a.toInt = x) (hb : b.toInt = y) (h1 : -9223372036854775808 ≤ x * y) (h2 : x * y < 9223372036854775808) : (a * b).toInt = x * y := by
  rw [Int64.toInt_mul, ha, hb]; exact pn_bm h1 h2
theorem pn_neg {a : Int64} {x : Int} (ha : a.toInt = x) (h1 : -9223372036854775808 ≤ -x) (h2 : -x < 9223372036854775808) : (-a).toInt = -x := by
  rw [Int64.toInt_neg, ha]; exact pn_bm h1 h2
theorem pn_lo (x : Int64) : (x &&& (1073741823 : Int64)).toInt = x.toInt % 1073741824 := by
  show (x &&& (1073741823 : Int64)).toBitVec.toInt = x.toBitVec.toInt % 1073741824
  have hn : (x &&& (1073741823 : Int64)).toBitVec.toNat = x.toBitVec.toNat % 2 ^ 30 := by
    rw [Int64.toBitVec_and, BitVec.toNat_and, show (1073741823 : Int64).toBitVec.toNat = 2 ^ 30 - 1 by decide, Nat.and_two_pow_sub_one_eq_mod]
  have hl := x.toBitVec.isLt
  rw [BitVec.toInt_eq_toNat_of_lt (by rw [hn]; omega), hn, BitVec.toInt_eq_toNat_cond]
  split <;> omega
theorem pn_hi (x : Int64) : (x >>> (((30 : Int32)).toInt64 &&& 63)).toInt = x.toInt / 1073741824 := by
  show (x.toBitVec.sshiftRight ((((30 : Int32)).toInt64 &&& 63).toBitVec.smod 64).toNat).toInt = _
  rw [show ((((30 : Int32)).toInt64 &&& 63).toBitVec.smod 64).toNat = 30 by decide, BitVec.toInt_sshiftRight, Int.shiftRight_eq_div_pow]
  rfl
/-- the sign of a whole number, as an int -/
def pn_sg (x : Int) : Int32 := if x < 0 then -1 else if x = 0 then 0 else 1
theorem pn_floor (μ : xs_M) {a b : Int64} (hb : 0 < b.toInt) : ∃ q : Int64, fn_R_floor μ a b = some q ∧ q.toInt = a.toInt / b.toInt := by
  have hne : ¬ b = 0 := fun h => by rw [h] at hb; simp at hb
  have hne1 : b ≠ -1 := fun h => by rw [h] at hb; revert hb; decide
  have hd : (a / b).toInt = a.toInt.tdiv b.toInt := Int64.toInt_div_of_ne_right a b hne1
  have la := Int64.le_toInt a
  have ua := Int64.toInt_lt a
  have lb := Int64.toInt_lt b
  generalize ha : a.toInt = x at *
  generalize hB : b.toInt = y at *
  have e1 := Int.mul_ediv_add_emod x y
  have e2 := Int.emod_nonneg x (show y ≠ 0 by omega)
  have e3 := Int.emod_lt_of_pos x hb
  rw [Int.tdiv_eq_ediv] at hd
  generalize hq : x / y = q at *
  generalize hr : x % y = r at *
  have hsg : Int.sign y = 1 := Int.sign_eq_one_of_pos hb
  rw [hsg] at hd
  unfold fn_R_floor
  rw [if_pos hne]
  show ∃ z, (if (lg_cmp (a / b * b) a) ≤ 0 then some (a / b) else some (a / b - 1)) = some z ∧ _
  by_cases hz : 0 ≤ x ∨ y ∣ x
  · rw [if_pos hz, Int.add_zero] at hd
    have hm : (a / b * b).toInt = q * y := pn_mul hd hB (by rw [Int.mul_comm]; omega) (by rw [Int.mul_comm]; omega)
    rw [if_pos ((lg_cmp_le _ _).mpr (by rw [Int64.le_iff_toInt_le, hm, ha, Int.mul_comm]; omega))]
    exact ⟨_, rfl, hd⟩
  · rw [if_neg hz] at hd
    have hx : ¬ 0 ≤ x := fun h => hz (Or.inl h)
    have hr0 : r ≠ 0 := fun h => hz (Or.inr ⟨q, by omega⟩)
    have em : (q + 1) * y = y * q + y := by rw [Int.add_mul, Int.one_mul, Int.mul_comm]
    have hm : (a / b * b).toInt = (q + 1) * y := pn_mul hd hB (by rw [em]; omega) (by rw [em]; omega)
    rw [if_neg (fun h => by rw [lg_cmp_le, Int64.le_iff_toInt_le, hm, ha, em] at h; omega)]
    have hqb : -9223372036854775808 ≤ q ∧ q < 9223372036854775808 := by
      have h1 : q < 0 := by
        apply Classical.byContradiction
        intro h
        have := Int.mul_nonneg (show (0 : Int) ≤ y by omega) (show (0 : Int) ≤ q by omega)
        omega
      refine ⟨?_, by omega⟩
      have h2 : y * (q + 1) ≤ 1 * (q + 1) := Int.mul_le_mul_of_nonpos_right (show (1 : Int) ≤ y by omega) (by omega)
      rw [Int.mul_comm y (q + 1), em] at h2
      omega
    refine ⟨_, rfl, ?_⟩
    have := pn_sub (a := a / b) (b := (1 : Int64)) hd (show (1 : Int64).toInt = 1 by decide) (by omega) (by omega)
    rw [this]
    omega
theorem pn_lt1 {B D P Q R S : Int} (hB : 0 < B) (hD : 0 < D) (hR : 0 ≤ R) (hS : S < D) (h : Q < P) : 0 < (B * P + R) * D - (D * Q + S) * B := by
  have h1 : S * B < D * B := Int.mul_lt_mul_of_pos_right hS hB
  have h2 : 0 ≤ R * D := Int.mul_nonneg hR (by omega)
  have h3 : (B * D) * 1 ≤ (B * D) * (P - Q) := Int.mul_le_mul_of_nonneg_left (by omega) (Int.mul_nonneg (by omega) (by omega))
  have e : (B * P + R) * D - (D * Q + S) * B = (B * D) * (P - Q) + R * D - S * B := by grind
  have e2 : D * B = B * D := Int.mul_comm _ _
  rw [e]
  omega
theorem pn_orderL (μ : xs_M) : ∀ (fu : Nat) (v0 v2 v4 v6 a b c d : Int64) (sg : Int32), 0 < b.toInt → 0 < d.toInt → -4611686018427387904 ≤ a.toInt → a.toInt ≤ 4611686018427387904 → b.toInt ≤ 4611686018427387904 → -4611686018427387904 ≤ c.toInt → c.toInt ≤ 4611686018427387904 → d.toInt ≤ 4611686018427387904 → b.toInt < fu →
    fn_R_order_L17 fu μ v0 v2 v4 v6 a b c d sg = some (if a.toInt * d.toInt - c.toInt * b.toInt < 0 then -sg else if a.toInt * d.toInt - c.toInt * b.toInt = 0 then 0 else sg) := by
  intro fu
  induction fu with
  | zero => intro v0 v2 v4 v6 a b c d sg hb hd _ _ _ _ _ _ h; omega
  | succ fu ih =>
    intro v0 v2 v4 v6 a b c d sg hb hd a1 a2 b2 c1 c2 d2 hfu
    rw [fn_R_order_L17]
    obtain ⟨p, hp, ep⟩ := pn_floor μ (a := a) hb
    obtain ⟨q, hq, eq⟩ := pn_floor μ (a := c) hd
    rw [hp, Option.bind_some, hq, Option.bind_some]
    have e1 := Int.mul_ediv_add_emod a.toInt b.toInt
    have e2 := Int.emod_nonneg a.toInt (show b.toInt ≠ 0 by omega)
    have e3 := Int.emod_lt_of_pos a.toInt hb
    have f1 := Int.mul_ediv_add_emod c.toInt d.toInt
    have f2 := Int.emod_nonneg c.toInt (show d.toInt ≠ 0 by omega)
    have f3 := Int.emod_lt_of_pos c.toInt hd
    rw [← ep] at e1
    rw [← eq] at f1
    generalize hr : a.toInt % b.toInt = r at e1 e2 e3
    generalize hs : c.toInt % d.toInt = s at f1 f2 f3
    by_cases hpq : p = q
    · rw [if_pos ((lg_cmp_eq _ _).mpr hpq), Option.bind_some, Option.bind_some]
      have hm1 : (p * b).toInt = p.toInt * b.toInt := pn_mul rfl rfl (by rw [Int.mul_comm]; omega) (by rw [Int.mul_comm]; omega)
      have hm2 : (q * d).toInt = q.toInt * d.toInt := pn_mul rfl rfl (by rw [Int.mul_comm]; omega) (by rw [Int.mul_comm]; omega)
      have hra : (a - p * b).toInt = r := by
        rw [pn_sub rfl hm1 (by rw [Int.mul_comm]; omega) (by rw [Int.mul_comm]; omega), Int.mul_comm]; omega
      have hsc : (c - q * d).toInt = s := by
        rw [pn_sub rfl hm2 (by rw [Int.mul_comm]; omega) (by rw [Int.mul_comm]; omega), Int.mul_comm]; omega
      have key : a.toInt * d.toInt - c.toInt * b.toInt = r * d.toInt - s * b.toInt := by
        rw [← e1, ← f1, hpq]; grind
      rw [key]
      by_cases hr0 : a - p * b = 0
      · have hr1 : r = 0 := by rw [← hra, hr0]; rfl
        rw [if_pos ((lg_cmp_eq _ _).mpr hr0), hr1, Int.zero_mul]
        by_cases hs0 : a - p * b = c - q * d
        · have hs1 : s = 0 := by rw [← hsc, ← hs0, hra, hr1]
          rw [if_pos ((lg_cmp_eq _ _).mpr hs0), hs1, Int.zero_mul]
          rfl
        · rw [if_neg (fun h => hs0 ((lg_cmp_eq _ _).mp h)), if_pos ((lg_cmp_eq _ _).mpr hr0)]
          have hs1 : s ≠ 0 := fun h => hs0 (Int64.toInt_inj.mp (by rw [hra, hsc, hr1, h]))
          have := Int.mul_pos (show 0 < s by omega) hb
          rw [if_pos (by omega)]
      · rw [if_neg (fun h => hr0 ((lg_cmp_eq _ _).mp h))]
        have hr1 : r ≠ 0 := fun h => hr0 (Int64.toInt_inj.mp (by rw [hra, h]; rfl))
        by_cases hs0 : c - q * d = 0
        · have hs1 : s = 0 := by rw [← hsc, hs0]; rfl
          rw [if_pos ((lg_cmp_eq _ _).mpr hs0), if_neg (fun h => hr0 ((lg_cmp_eq _ _).mp h |>.trans hs0)), if_neg (fun h => hr0 ((lg_cmp_eq _ _).mp h)), hs1, Int.zero_mul]
          have := Int.mul_pos (show 0 < r by omega) hd
          rw [if_neg (by omega), if_neg (by omega)]
        · have hs1 : s ≠ 0 := fun h => hs0 (Int64.toInt_inj.mp (by rw [hsc, h]; rfl))
          rw [if_neg (fun h => hs0 ((lg_cmp_eq _ _).mp h)), Option.bind_some]
          rw [ih v0 v2 v4 v6 b (a - p * b) d (c - q * d) (-sg) (by omega) (by omega) (by omega) (by omega) (by omega) (by omega) (by omega) (by omega) (by omega), hra, hsc]
          have e5 : b.toInt * s - d.toInt * r = -(r * d.toInt - s * b.toInt) := by grind
          rw [e5]
          generalize r * d.toInt - s * b.toInt = z
          rcases Int.lt_trichotomy z 0 with h | h | h
          · rw [if_neg (by omega), if_neg (by omega), if_pos h]
          · rw [if_neg (by omega), if_pos (by omega), if_neg (by omega), if_pos h]
          · rw [if_pos (by omega), if_neg (by omega), if_neg (by omega), Int32.neg_neg]
    · rw [if_neg (fun h => hpq ((lg_cmp_eq _ _).mp h))]
      have hne : p.toInt ≠ q.toInt := fun h => hpq (Int64.toInt_inj.mp h)
      by_cases hlt : q.toInt ≤ p.toInt
      · rw [if_pos ((lg_cmp_ge _ _).mpr (Int64.le_iff_toInt_le.mpr hlt))]
        have := pn_lt1 hb hd e2 f3 (show q.toInt < p.toInt by omega)
        rw [e1, f1] at this
        rw [if_neg (by omega), if_neg (by omega)]
      · rw [if_neg (fun h => hlt (Int64.le_iff_toInt_le.mp ((lg_cmp_ge _ _).mp h)))]
        have := pn_lt1 hd hb f2 e3 (show p.toInt < q.toInt by omega)
        rw [e1, f1] at this
        rw [if_pos (by omega)]
theorem pn_order (μ : xs_M) {a b c d : Int64} (hb : 0 < b.toInt) (hd : 0 < d.toInt) (a1 : -4611686018427387904 ≤ a.toInt) (a2 : a.toInt ≤ 4611686018427387904) (b2 : b.toInt ≤ 4611686018427387904) (c1 : -4611686018427387904 ≤ c.toInt) (c2 : c.toInt ≤ 4611686018427387904) (d2 : d.toInt ≤ 4611686018427387904) :
    fn_R_order μ a b c d = some (pn_sg (a.toInt * d.toInt - c.toInt * b.toInt)) := by
  unfold fn_R_order
  rw [pn_orderL μ xs_FUB a b c d a b c d 1 hb hd a1 a2 b2 c1 c2 d2 (by unfold xs_FUB; omega)]
  unfold pn_sg
  split <;> rfl
theorem pn_cq (μ : xs_M) {a b c d : Int64} (a1 : -2305843009213693952 ≤ a.toInt) (a2 : a.toInt ≤ 2305843009213693952) (b1 : 0 ≤ b.toInt) (b2 : b.toInt ≤ 576460752303423488) (c1 : -2305843009213693952 ≤ c.toInt) (c2 : c.toInt ≤ 2305843009213693952) (d1 : 0 ≤ d.toInt) (d2 : d.toInt ≤ 576460752303423488) :
    fn_P_compareQuotients μ a b c d = some (pn_sg (a.toInt * d.toInt - c.toInt * b.toInt)) := by
  unfold fn_P_compareQuotients
  simp only [Option.bind_some]
  have ea := Int.mul_ediv_add_emod a.toInt 1073741824
  have eb := Int.mul_ediv_add_emod b.toInt 1073741824
  have ec := Int.mul_ediv_add_emod c.toInt 1073741824
  have ed := Int.mul_ediv_add_emod d.toInt 1073741824
  have a0l := Int.emod_nonneg a.toInt (show (1073741824 : Int) ≠ 0 by decide)
  have a0u := Int.emod_lt_of_pos a.toInt (show (0 : Int) < 1073741824 by decide)
  have b0l := Int.emod_nonneg b.toInt (show (1073741824 : Int) ≠ 0 by decide)
  have b0u := Int.emod_lt_of_pos b.toInt (show (0 : Int) < 1073741824 by decide)
  have c0l := Int.emod_nonneg c.toInt (show (1073741824 : Int) ≠ 0 by decide)
  have c0u := Int.emod_lt_of_pos c.toInt (show (0 : Int) < 1073741824 by decide)
  have d0l := Int.emod_nonneg d.toInt (show (1073741824 : Int) ≠ 0 by decide)
  have d0u := Int.emod_lt_of_pos d.toInt (show (0 : Int) < 1073741824 by decide)
  have la := pn_lo a
  have lb := pn_lo b
  have lc := pn_lo c
  have ld := pn_lo d
  have ha := pn_hi a
  have hb := pn_hi b
  have hc := pn_hi c
  have hd := pn_hi d
  generalize a.toInt / 1073741824 = A1 at *
  generalize b.toInt / 1073741824 = B1 at *
  generalize c.toInt / 1073741824 = C1 at *
  generalize d.toInt / 1073741824 = D1 at *
  generalize a.toInt % 1073741824 = A0 at *
  generalize b.toInt % 1073741824 = B0 at *
  generalize c.toInt % 1073741824 = C0 at *
  generalize d.toInt % 1073741824 = D0 at *
  generalize a &&& (1073741823 : Int64) = xa0 at *
  generalize b &&& (1073741823 : Int64) = xb0 at *
  generalize c &&& (1073741823 : Int64) = xc0 at *
  generalize d &&& (1073741823 : Int64) = xd0 at *
  generalize a >>> (((30 : Int32)).toInt64 &&& 63) = xa1 at *
  generalize b >>> (((30 : Int32)).toInt64 &&& 63) = xb1 at *
  generalize c >>> (((30 : Int32)).toInt64 &&& 63) = xc1 at *
  generalize d >>> (((30 : Int32)).toInt64 &&& 63) = xd1 at *
  have A1l : -2147483648 ≤ A1 := by omega
  have A1u : A1 ≤ 2147483648 := by omega
  have C1l : -2147483648 ≤ C1 := by omega
  have C1u : C1 ≤ 2147483648 := by omega
  have B1l : 0 ≤ B1 := by omega
  have B1u : B1 ≤ 536870912 := by omega
  have D1l : 0 ≤ D1 := by omega
  have D1u : D1 ≤ 536870912 := by omega
  have bd : ∀ {x y X Y : Int}, -X ≤ x → x ≤ X → 0 ≤ y → y ≤ Y → 0 ≤ X → -(X * Y) ≤ x * y ∧ x * y ≤ X * Y := by
    intro x y X Y h1 h2 h3 h4 h5
    have k1 : x * y ≤ X * y := Int.mul_le_mul_of_nonneg_right h2 h3
    have k2 : X * y ≤ X * Y := Int.mul_le_mul_of_nonneg_left h4 h5
    have k3 : -X * y ≤ x * y := Int.mul_le_mul_of_nonneg_right h1 h3
    have k4 : -X * y = -(X * y) := Int.neg_mul ..
    omega
  obtain ⟨p1, p2⟩ := bd (x := A0) (y := D0) (X := 1073741824) (Y := 1073741824) (by omega) (by omega) d0l (by omega) (by decide)
  obtain ⟨p3, p4⟩ := bd (x := C0) (y := B0) (X := 1073741824) (Y := 1073741824) (by omega) (by omega) b0l (by omega) (by decide)
  obtain ⟨p5, p6⟩ := bd (x := A1) (y := D0) (X := 2147483648) (Y := 1073741824) (by omega) (by omega) d0l (by omega) (by decide)
  obtain ⟨p7, p8⟩ := bd (x := A0) (y := D1) (X := 1073741824) (Y := 536870912) (by omega) (by omega) D1l (by omega) (by decide)
  obtain ⟨q1, q2⟩ := bd (x := C1) (y := B0) (X := 2147483648) (Y := 1073741824) (by omega) (by omega) b0l (by omega) (by decide)
  obtain ⟨q3, q4⟩ := bd (x := C0) (y := B1) (X := 1073741824) (Y := 536870912) (by omega) (by omega) B1l (by omega) (by decide)
  obtain ⟨q5, q6⟩ := bd (x := A1) (y := D1) (X := 2147483648) (Y := 536870912) (by omega) (by omega) D1l (by omega) (by decide)
  obtain ⟨q7, q8⟩ := bd (x := C1) (y := B1) (X := 2147483648) (Y := 536870912) (by omega) (by omega) B1l (by omega) (by decide)
  have m1 := pn_mul la ld (by omega) (by omega)
  have m2 := pn_mul lc lb (by omega) (by omega)
  have m3 := pn_mul ha ld (by omega) (by omega)
  have m4 := pn_mul la hd (by omega) (by omega)
  have m5 := pn_mul hc lb (by omega) (by omega)
  have m6 := pn_mul lc hb (by omega) (by omega)
  have m7 := pn_mul ha hd (by omega) (by omega)
  have m8 := pn_mul hc hb (by omega) (by omega)
  have tot : a.toInt * d.toInt - c.toInt * b.toInt = (A1 * D1 - C1 * B1) * 1152921504606846976 + (A1 * D0 + A0 * D1 - C1 * B0 - C0 * B1) * 1073741824 + (A0 * D0 - C0 * B0) := by
    rw [← ea, ← eb, ← ec, ← ed]; grind
  rw [tot]
  generalize A0 * D0 = P1 at *
  generalize C0 * B0 = P2 at *
  generalize A1 * D0 = P3 at *
  generalize A0 * D1 = P4 at *
  generalize C1 * B0 = P5 at *
  generalize C0 * B1 = P6 at *
  generalize A1 * D1 = P7 at *
  generalize C1 * B1 = P8 at *
  have s1 := pn_sub m1 m2 (by omega) (by omega)
  generalize xa0 * xd0 - xc0 * xb0 = low at *
  have l1 := pn_hi low
  have l2 := pn_lo low
  rw [s1] at l1 l2
  have s2 := pn_add (pn_sub (pn_sub (pn_add m3 m4 (by omega) (by omega)) m5 (by omega) (by omega)) m6 (by omega) (by omega)) l1 (by omega) (by omega)
  generalize xa1 * xd0 + xa0 * xd1 - xc1 * xb0 - xc0 * xb1 + low >>> (((30 : Int32)).toInt64 &&& 63) = mid at *
  have n1 := pn_hi mid
  have n2 := pn_lo mid
  rw [s2] at n1 n2
  have s3 := pn_add (pn_sub m7 m8 (by omega) (by omega)) n1 (by omega) (by omega)
  generalize xa1 * xd1 - xc1 * xb1 + mid >>> (((30 : Int32)).toInt64 &&& 63) = high at *
  have z0 : (0 : Int64).toInt = 0 := by decide
  unfold pn_sg
  by_cases h1 : high = 0
  · rw [if_pos ((lg_cmp_eq _ _).mpr h1)]
    have h1' : high.toInt = 0 := by rw [h1]; exact z0
    by_cases h2 : mid &&& (1073741823 : Int64) = 0
    · rw [if_pos ((lg_cmp_eq _ _).mpr h2)]
      have h2' : (mid &&& (1073741823 : Int64)).toInt = 0 := by rw [h2]; exact z0
      by_cases h3 : low &&& (1073741823 : Int64) = 0
      · rw [if_pos ((lg_cmp_eq _ _).mpr h3)]
        have h3' : (low &&& (1073741823 : Int64)).toInt = 0 := by rw [h3]; exact z0
        rw [if_neg (by omega), if_pos (by omega)]
      · rw [if_neg (fun h => h3 ((lg_cmp_eq _ _).mp h))]
        have h3' : (low &&& (1073741823 : Int64)).toInt ≠ 0 := fun h => h3 (Int64.toInt_inj.mp (h.trans z0.symm))
        rw [if_neg (by omega), if_neg (by omega)]
    · rw [if_neg (fun h => h2 ((lg_cmp_eq _ _).mp h))]
      have h2' : (mid &&& (1073741823 : Int64)).toInt ≠ 0 := fun h => h2 (Int64.toInt_inj.mp (h.trans z0.symm))
      rw [if_neg (by omega), if_neg (by omega)]
  · rw [if_neg (fun h => h1 ((lg_cmp_eq _ _).mp h))]
    have h1' : high.toInt ≠ 0 := fun h => h1 (Int64.toInt_inj.mp (h.trans z0.symm))
    by_cases h4 : (0 : Int64) ≤ high
    · rw [if_pos ((lg_cmp_ge _ _).mpr h4)]
      rw [Int64.le_iff_toInt_le, z0] at h4
      rw [if_neg (by omega), if_neg (by omega)]
    · rw [if_neg (fun h => h4 ((lg_cmp_ge _ _).mp h))]
      rw [Int64.le_iff_toInt_le, z0] at h4
      rw [if_pos (by omega)]
