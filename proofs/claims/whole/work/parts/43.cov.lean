/-! a triangle at a pixel: weights, covering, depth, colour -/
def pv_pc (i : Nat) : Int64 := (2 * Int32.ofNat i + 1 : Int32).toInt64
def pv_pw (A B C : Nat → Int64) (i j n : Nat) : Int64 := A n * pv_pc i + B n * pv_pc j + C n
def pv_pok (a b w : Int64) : Bool := decide (0 < w) || (decide (w = 0) && (decide (0 < a) || (decide (a = 0) && decide (0 < b))))
def pv_cov (A B C : Nat → Int64) (i j : Nat) : Bool := pv_pok (A 0) (B 0) (pv_pw A B C i j 0) && (pv_pok (A 1) (B 1) (pv_pw A B C i j 1) && pv_pok (A 2) (B 2) (pv_pw A B C i j 2))
def pv_ov (A B C : Nat → Int64) (g : Nat → Int64) (i j : Nat) : Int64 := pv_pw A B C i j 0 * g 4 + pv_pw A B C i j 1 * g 8 + pv_pw A B C i j 2 * g 12
def pv_sum (A B C : Nat → Int64) (i j : Nat) : Int64 := pv_pw A B C i j 0 + pv_pw A B C i j 1 + pv_pw A B C i j 2
def pv_su (A B C : Nat → Int64) (f : Nat → Int32) (i j : Nat) : Int64 := pv_pw A B C i j 0 * (f 0).toInt64 + pv_pw A B C i j 1 * (f 1).toInt64 + pv_pw A B C i j 2 * (f 2).toInt64
theorem pv_wt (μ : xs_M) (k : Nat) {n : Nat} (hn : n < 3) (i j : Nat) : fn_T_weightAt μ k (Int32.ofNat n) (Int32.ofNat i) (Int32.ofNat j) = some (pv_pw (μ.2 (14 + 7 * k + 4)) (μ.2 (14 + 7 * k + 5)) (μ.2 (14 + 7 * k + 6)) i j n) := by
  unfold fn_T_weightAt
  rw [if_pos (ix_in hn (by omega)), if_pos (ix_in hn (by omega)), if_pos (ix_in hn (by omega)), ix_cl (by omega)]
  rfl
theorem pv_ownE (μ : xs_M) (k : Nat) {n : Nat} (hn : n < 3) : fn_T_ownsItsEdge μ k (Int32.ofNat n) = some (if (decide (0 < μ.2 (14 + 7 * k + 4) n) || (decide (μ.2 (14 + 7 * k + 4) n = 0) && decide (0 < μ.2 (14 + 7 * k + 5) n))) = true then 1 else 0) := by
  unfold fn_T_ownsItsEdge
  rw [if_pos (ix_in hn (by omega)), ix_cl (by omega)]
  by_cases h1 : 0 < μ.2 (14 + 7 * k + 4) n
  · rw [if_pos ((lg_cmp_gt _ _).mpr h1), if_pos (by simp [h1])]
  · rw [if_neg (fun q => h1 ((lg_cmp_gt _ _).mp q)), if_pos (ix_in hn (by omega))]
    by_cases h2 : μ.2 (14 + 7 * k + 4) n = 0
    · rw [if_pos ((lg_cmp_eq _ _).mpr h2), if_pos (ix_in hn (by omega))]
      by_cases h3 : 0 < μ.2 (14 + 7 * k + 5) n
      · rw [if_neg (fun q => by rw [lg_cmp_le] at q; exact absurd h3 (Int64.not_lt.mpr q)), if_pos (by simp [h2, h3])]
      · rw [if_pos ((lg_cmp_le _ _).mpr (Int64.not_lt.mp h3)), if_neg (by simp [h2, h3])]
    · rw [if_neg (fun q => h2 ((lg_cmp_eq _ _).mp q)), if_neg (by simp [h1, h2])]
theorem pv_covC (μ : xs_M) (k i j : Nat) : fn_T_covers μ k (Int32.ofNat i) (Int32.ofNat j) = some (if pv_cov (μ.2 (14 + 7 * k + 4)) (μ.2 (14 + 7 * k + 5)) (μ.2 (14 + 7 * k + 6)) i j = true then 1 else 0) := by
  have stp : ∀ n fu, n < 3 → fn_T_covers_L2 (fu + 1) μ k (Int32.ofNat i) (Int32.ofNat j) (Int32.ofNat n) = if pv_pok (μ.2 (14 + 7 * k + 4) n) (μ.2 (14 + 7 * k + 5) n) (pv_pw (μ.2 (14 + 7 * k + 4)) (μ.2 (14 + 7 * k + 5)) (μ.2 (14 + 7 * k + 6)) i j n) = true then fn_T_covers_L2 fu μ k (Int32.ofNat i) (Int32.ofNat j) (Int32.ofNat (n + 1)) else some (.inr 0) := by
    intro n fu hn
    rw [fn_T_covers_L2, if_neg (pv_n3 hn), pv_wt μ k hn, Option.bind_some, pv_ownE μ k hn, Option.bind_some, ixa1]
    generalize pv_pw (μ.2 (14 + 7 * k + 4)) (μ.2 (14 + 7 * k + 5)) (μ.2 (14 + 7 * k + 6)) i j n = w
    unfold pv_pok
    by_cases h1 : w < 0
    · rw [if_pos ((lg_cmp_lt _ _).mpr h1), if_neg]
      have h2 : ¬ 0 < w := Int64.not_lt.mpr (Int64.le_of_lt h1)
      have h3 : ¬ w = 0 := fun q => by rw [q] at h1; exact absurd h1 (by decide)
      simp [h2, h3]
    · rw [if_neg (fun q => h1 ((lg_cmp_lt _ _).mp q))]
      by_cases h2 : w = 0
      · rw [if_pos ((lg_cmp_eq _ _).mpr h2)]
        have h3 : ¬ (0 : Int64) < w := by rw [h2]; decide
        rw [decide_eq_false h3, decide_eq_true h2, Bool.false_or, Bool.true_and]
        by_cases h4 : (decide (0 < μ.2 (14 + 7 * k + 4) n) || (decide (μ.2 (14 + 7 * k + 4) n = 0) && decide (0 < μ.2 (14 + 7 * k + 5) n))) = true
        · rw [if_pos h4, if_neg (by decide), if_pos h4]
        · rw [if_neg h4, if_pos rfl, if_neg h4]
      · rw [if_neg (fun q => h2 ((lg_cmp_eq _ _).mp q))]
        have h3 : (0 : Int64) < w := by
          rcases Int64.lt_or_eq_of_le (Int64.not_lt.mp h1) with q | q
          · exact q
          · exact absurd q.symm h2
        rw [if_pos (by simp [h3])]
  unfold fn_T_covers pv_cov
  rw [show fn_T_covers_L2 xs_FU μ k (Int32.ofNat i) (Int32.ofNat j) 0 = fn_T_covers_L2 (999 + 1) μ k (Int32.ofNat i) (Int32.ofNat j) (Int32.ofNat 0) from rfl, stp 0 999 (by decide)]
  by_cases h0 : pv_pok (μ.2 (14 + 7 * k + 4) 0) (μ.2 (14 + 7 * k + 5) 0) (pv_pw (μ.2 (14 + 7 * k + 4)) (μ.2 (14 + 7 * k + 5)) (μ.2 (14 + 7 * k + 6)) i j 0) = true
  · rw [if_pos h0, h0, Bool.true_and, show (999 : Nat) = 998 + 1 from rfl, stp (0 + 1) 998 (by decide)]
    by_cases h1 : pv_pok (μ.2 (14 + 7 * k + 4) 1) (μ.2 (14 + 7 * k + 5) 1) (pv_pw (μ.2 (14 + 7 * k + 4)) (μ.2 (14 + 7 * k + 5)) (μ.2 (14 + 7 * k + 6)) i j 1) = true
    · rw [if_pos h1, h1, Bool.true_and, show (998 : Nat) = 997 + 1 from rfl, stp (0 + 1 + 1) 997 (by decide)]
      by_cases h2 : pv_pok (μ.2 (14 + 7 * k + 4) 2) (μ.2 (14 + 7 * k + 5) 2) (pv_pw (μ.2 (14 + 7 * k + 4)) (μ.2 (14 + 7 * k + 5)) (μ.2 (14 + 7 * k + 6)) i j 2) = true
      · rw [if_pos h2, if_pos h2, show (997 : Nat) = 996 + 1 from rfl, fn_T_covers_L2, if_pos pv_e3]
        rfl
      · rw [if_neg h2, if_neg h2]; rfl
    · rw [if_neg h1, if_neg (by rw [Bool.and_eq_true]; exact fun q => h1 q.1)]; rfl
  · rw [if_neg h0, if_neg (by rw [Bool.and_eq_true]; exact fun q => h0 q.1)]; rfl
theorem pv_ovC (μ : xs_M) (k i j : Nat) : fn_T_depthOver μ k (Int32.ofNat i) (Int32.ofNat j) = some (pv_ov (μ.2 (14 + 7 * k + 4)) (μ.2 (14 + 7 * k + 5)) (μ.2 (14 + 7 * k + 6)) (μ.2 (14 + 7 * k + 1)) i j) := by
  have stp : ∀ n fu a, n < 3 → fn_T_depthOver_L5 (fu + 1) μ k (Int32.ofNat i) (Int32.ofNat j) a (Int32.ofNat n) = fn_T_depthOver_L5 fu μ k (Int32.ofNat i) (Int32.ofNat j) (a + pv_pw (μ.2 (14 + 7 * k + 4)) (μ.2 (14 + 7 * k + 5)) (μ.2 (14 + 7 * k + 6)) i j n * μ.2 (14 + 7 * k + 1) (4 * n + 4)) (Int32.ofNat (n + 1)) := by
    intro n fu a hn
    rw [fn_T_depthOver_L5, if_neg (pv_n3 hn), pv_wt μ k hn, Option.bind_some, ixm4', ixa4, if_pos (ix_in (by omega) (by omega)), ix_cl (by omega), Option.bind_some, ixa1]
  unfold fn_T_depthOver
  rw [show fn_T_depthOver_L5 xs_FU μ k (Int32.ofNat i) (Int32.ofNat j) 0 0 = fn_T_depthOver_L5 (996 + 1 + 1 + 1 + 1) μ k (Int32.ofNat i) (Int32.ofNat j) 0 (Int32.ofNat 0) from rfl, stp 0 _ _ (by decide), stp (0 + 1) _ _ (by decide), stp (0 + 1 + 1) _ _ (by decide), fn_T_depthOver_L5, if_pos pv_e3, Option.bind_some]
  unfold pv_ov
  rw [Int64.zero_add]
theorem pv_weigh (μ : xs_M) (k q i j : Nat) : fn_T_weigh μ k q (Int32.ofNat i) (Int32.ofNat j) = (fn_S_cutDown μ (pv_su (μ.2 (14 + 7 * k + 4)) (μ.2 (14 + 7 * k + 5)) (μ.2 (14 + 7 * k + 6)) (μ.1 q) i j) (pv_sum (μ.2 (14 + 7 * k + 4)) (μ.2 (14 + 7 * k + 5)) (μ.2 (14 + 7 * k + 6)) i j)).bind fun w6 => some w6 := by
  have stp : ∀ n fu a b, n < 3 → fn_T_weigh_L9 (fu + 1) μ k q (Int32.ofNat i) (Int32.ofNat j) a b (Int32.ofNat n) = fn_T_weigh_L9 fu μ k q (Int32.ofNat i) (Int32.ofNat j) (a + pv_pw (μ.2 (14 + 7 * k + 4)) (μ.2 (14 + 7 * k + 5)) (μ.2 (14 + 7 * k + 6)) i j n * (μ.1 q n).toInt64) (b + pv_pw (μ.2 (14 + 7 * k + 4)) (μ.2 (14 + 7 * k + 5)) (μ.2 (14 + 7 * k + 6)) i j n) (Int32.ofNat (n + 1)) := by
    intro n fu a b hn
    rw [fn_T_weigh_L9, if_neg (pv_n3 hn), pv_wt μ k hn, Option.bind_some, if_pos (ix_in hn (by omega)), ix_cl (by omega), Option.bind_some, Option.bind_some, ixa1]
  unfold fn_T_weigh
  rw [show fn_T_weigh_L9 xs_FU μ k q (Int32.ofNat i) (Int32.ofNat j) 0 0 0 = fn_T_weigh_L9 (996 + 1 + 1 + 1 + 1) μ k q (Int32.ofNat i) (Int32.ofNat j) 0 0 (Int32.ofNat 0) from rfl, stp 0 _ _ _ (by decide), stp (0 + 1) _ _ _ (by decide), stp (0 + 1 + 1) _ _ _ (by decide), fn_T_weigh_L9, if_pos pv_e3, Option.bind_some]
  unfold pv_su pv_sum
  rw [Int64.zero_add, Int64.zero_add]
/-! a texture's place -/
theorem pv_lo7 (x : Int64) : (x &&& (7 : Int64)).toInt = x.toInt % 8 := by
  show (x &&& (7 : Int64)).toBitVec.toInt = x.toBitVec.toInt % 8
  have hn : (x &&& (7 : Int64)).toBitVec.toNat = x.toBitVec.toNat % 2 ^ 3 := by
    rw [Int64.toBitVec_and, BitVec.toNat_and, show (7 : Int64).toBitVec.toNat = 2 ^ 3 - 1 by decide, Nat.and_two_pow_sub_one_eq_mod]
  have hl := x.toBitVec.isLt
  rw [BitVec.toInt_eq_toNat_of_lt (by rw [hn]; omega), hn, BitVec.toInt_eq_toNat_cond]
  split <;> omega
theorem pv_floorMod (μ : xs_M) (x : Int64) : fn_J_floorMod μ x 8 = some (x &&& 7) := by
  have e8 : (8 : Int64).toInt = 8 := by decide
  have hd : (x / 8).toInt = x.toInt.tdiv 8 := by rw [Int64.toInt_div_of_ne_right x 8 (by decide), e8]
  have la := Int64.le_toInt x
  have ua := Int64.toInt_lt x
  have e1 := Int.mul_tdiv_add_tmod x.toInt 8
  have t1 : (0 ≤ x.toInt ∧ 0 ≤ x.toInt.tmod 8 ∧ x.toInt.tmod 8 < 8) ∨ (x.toInt < 0 ∧ -8 < x.toInt.tmod 8 ∧ x.toInt.tmod 8 ≤ 0) := by
    by_cases hx : 0 ≤ x.toInt
    · exact Or.inl ⟨hx, Int.tmod_nonneg 8 hx, Int.tmod_lt_of_pos _ (by decide)⟩
    · have k1 := Int.tmod_nonneg 8 (show 0 ≤ -x.toInt by omega)
      have k2 := Int.tmod_lt_of_pos (-x.toInt) (show (0 : Int) < 8 by decide)
      rw [Int.neg_tmod] at k1 k2
      exact Or.inr ⟨by omega, by omega, by omega⟩
  have hm : (x / 8 * 8).toInt = x.toInt.tdiv 8 * 8 := pn_mul hd e8 (by omega) (by omega)
  have hs : (x - x / 8 * 8).toInt = x.toInt.tmod 8 := by
    rw [pn_sub rfl hm (by omega) (by omega)]; omega
  unfold fn_J_floorMod
  rw [if_pos (by decide), Option.bind_some]
  by_cases hx : 0 ≤ x.toInt
  · rw [if_pos ((lg_cmp_ge _ _).mpr ((pv_xor (by rw [e8]; decide)).mpr hx))]
    congr 1
    apply Int64.toInt_inj.mp
    rw [hs, pv_lo7, Int.tmod_eq_emod_of_nonneg hx]
  · rw [if_neg (fun h => hx ((pv_xor (by rw [e8]; decide)).mp ((lg_cmp_ge _ _).mp h)))]
    by_cases hz : x - x / 8 * 8 = 0
    · rw [if_pos ((lg_cmp_eq _ _).mpr hz)]
      congr 1
      apply Int64.toInt_inj.mp
      have : x.toInt.tmod 8 = 0 := by rw [← hs, hz]; decide
      rw [hs, pv_lo7, this]
      omega
    · rw [if_neg (fun h => hz ((lg_cmp_eq _ _).mp h))]
      congr 1
      apply Int64.toInt_inj.mp
      have hne : x.toInt.tmod 8 ≠ 0 := fun q => hz (Int64.toInt_inj.mp (by rw [hs, q]; decide))
      rw [pn_add hs e8 (by omega) (by omega), pv_lo7]
      omega
/-- the reference's way to a texel's line -/
def pv_wr (m : Int32) (x : Int64) : Int32 := if m = 0 then (x &&& 7).toInt32 else if x < 0 then 0 else if 7 < x then 7 else x.toInt32
theorem pv_wrC (μ : xs_M) (m : Int32) (x : Int64) : fn_X_wrap μ m x = some (pv_wr m x) := by
  unfold fn_X_wrap pv_wr
  by_cases hm : m = 0
  · rw [if_pos hm, if_pos hm, pv_floorMod]; rfl
  · rw [if_neg hm, if_neg hm]
    unfold fn_J_min fn_J_max
    by_cases h1 : 7 < x
    · have h0 : ¬ x < 0 := fun q => by
        rw [Int64.lt_iff_toInt_lt] at h1 q
        rw [show (7 : Int64).toInt = 7 by decide] at h1
        rw [show (0 : Int64).toInt = 0 by decide] at q
        omega
      rw [if_pos ((lg_cmp_gt _ _).mpr h1), Option.bind_some, if_pos (by decide), Option.bind_some, if_neg h0, if_pos h1]; rfl
    · rw [if_neg (fun q => h1 ((lg_cmp_gt _ _).mp q)), Option.bind_some]
      by_cases h0 : x < 0
      · rw [if_neg (fun q => absurd ((lg_cmp_lt _ _).mp q) (Int64.not_lt.mpr (Int64.le_of_lt h0))), Option.bind_some, if_pos h0]; rfl
      · rw [if_neg h0, if_neg h1]
        by_cases hp : 0 < x
        · rw [if_pos ((lg_cmp_lt _ _).mpr hp)]; rfl
        · have : x = 0 := by
            rcases Int64.lt_or_eq_of_le (Int64.not_lt.mp h0) with q | q
            · exact absurd q hp
            · exact q.symm
          rw [if_neg (fun q => hp ((lg_cmp_lt _ _).mp q)), this]; rfl
theorem pv_wr8 (m : Int32) (x : Int64) : ∃ s, s < 8 ∧ pv_wr m x = Int32.ofNat s := by
  have key : ∀ z : Int64, 0 ≤ z.toInt → z.toInt ≤ 7 → ∃ s, s < 8 ∧ z.toInt32 = Int32.ofNat s := by
    intro z h1 h2
    have e : z.toInt32.toInt = z.toInt := by rw [Int64.toInt_toInt32]; exact pn_bm32 (by omega) (by omega)
    refine ⟨z.toInt.toNat, by omega, ?_⟩
    apply Int32.toInt_inj.mp
    rw [e, ix_ti (by omega)]
    omega
  unfold pv_wr
  by_cases hm : m = 0
  · rw [if_pos hm]
    exact key _ (by rw [pv_lo7]; omega) (by rw [pv_lo7]; omega)
  · rw [if_neg hm]
    by_cases h0 : x < 0
    · rw [if_pos h0]; exact ⟨0, by decide, rfl⟩
    · rw [if_neg h0]
      by_cases h1 : 7 < x
      · rw [if_pos h1]; exact ⟨7, by decide, rfl⟩
      · rw [if_neg h1]
        rw [Int64.lt_iff_toInt_lt] at h0 h1
        rw [show (7 : Int64).toInt = 7 by decide] at h1
        rw [show (0 : Int64).toInt = 0 by decide] at h0
        exact key _ (by omega) (by omega)
def pv_fl (a b : Int64) : Int64 := (fn_R_floor (fun _ _ => 0, fun _ _ => 0) a b).getD 0
theorem pv_flC (μ : xs_M) {a b : Int64} (hb : 0 < b.toInt) : fn_S_cutDown μ a b = some (pv_fl a b) ∧ fn_R_floor μ a b = some (pv_fl a b) := by
  obtain ⟨q, q1, q2, q3⟩ := pv_cutDown μ (a := a) hb
  have : pv_fl a b = q := by unfold pv_fl; rw [q2]; rfl
  rw [this]
  exact ⟨q1, q2 μ⟩
/-- the colour -/
def pv_col (tx : Nat → Int32) (t m : Int32) (A B C : Nat → Int64) (f g : Nat → Int32) (i j : Nat) : Int32 :=
  tx (64 * t.toNatClampNeg + 8 * (pv_wr m (pv_fl (pv_su A B C g i j) (pv_sum A B C i j))).toNatClampNeg + (pv_wr m (pv_fl (pv_su A B C f i j) (pv_sum A B C i j))).toNatClampNeg)
theorem pv_colC (μ : xs_M) {k : Nat} (i j : Nat) (hs : 0 < (pv_sum (μ.2 (14 + 7 * k + 4)) (μ.2 (14 + 7 * k + 5)) (μ.2 (14 + 7 * k + 6)) i j).toInt) {t : Nat} (ht : t ≤ 1) (h7 : μ.1 (14 + 7 * k) 7 = Int32.ofNat t) :
    fn_S_textureColour μ k (Int32.ofNat i) (Int32.ofNat j) = some (pv_col (μ.1 7) (μ.1 (14 + 7 * k) 7) (μ.1 (14 + 7 * k) 8) (μ.2 (14 + 7 * k + 4)) (μ.2 (14 + 7 * k + 5)) (μ.2 (14 + 7 * k + 6)) (μ.1 (14 + 7 * k + 2)) (μ.1 (14 + 7 * k + 3)) i j) := by
  unfold fn_S_textureColour fn_T_textureU fn_T_textureV
  rw [pv_weigh, pv_weigh, (pv_flC μ hs).1, (pv_flC μ hs).1, Option.bind_some, Option.bind_some, Option.bind_some, Option.bind_some, pv_wrC, Option.bind_some, Option.bind_some, Option.bind_some, pv_wrC, Option.bind_some]
  unfold pv_col fn_X_indexOf
  obtain ⟨a, ha, ea⟩ := pv_wr8 (μ.1 (14 + 7 * k) 8) (pv_fl (pv_su (μ.2 (14 + 7 * k + 4)) (μ.2 (14 + 7 * k + 5)) (μ.2 (14 + 7 * k + 6)) (μ.1 (14 + 7 * k + 2)) i j) (pv_sum (μ.2 (14 + 7 * k + 4)) (μ.2 (14 + 7 * k + 5)) (μ.2 (14 + 7 * k + 6)) i j))
  obtain ⟨b, hb, eb⟩ := pv_wr8 (μ.1 (14 + 7 * k) 8) (pv_fl (pv_su (μ.2 (14 + 7 * k + 4)) (μ.2 (14 + 7 * k + 5)) (μ.2 (14 + 7 * k + 6)) (μ.1 (14 + 7 * k + 3)) i j) (pv_sum (μ.2 (14 + 7 * k + 4)) (μ.2 (14 + 7 * k + 5)) (μ.2 (14 + 7 * k + 6)) i j))
  rw [ea, eb, h7, Option.bind_some, ixm8', ix_add, ixm8', ix_add, if_pos (ix_in (by omega) (by omega)), ix_cl (by omega), ix_cl (by omega), ix_cl (by omega), ix_cl (by omega), show 8 * (8 * t + b) + a = 64 * t + 8 * b + a by omega]
