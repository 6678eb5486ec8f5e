/-! the calls without loops -/
theorem pv_within (μ : xs_M) (x lo hi : Int32) : fn_S_isWithin μ x lo hi = some (if x < lo ∨ hi < x then 0 else 1) := by
  unfold fn_S_isWithin
  by_cases h1 : x < lo
  · rw [if_pos h1, if_pos (Or.inl h1)]
  · by_cases h2 : hi < x
    · rw [if_neg h1, if_pos h2, if_pos (Or.inr h2)]
    · rw [if_neg h1, if_neg h2, if_neg (by rintro (h | h) <;> contradiction)]
theorem pv_w01 (x lo hi : Int32) : ((if x < lo ∨ hi < x then 0 else 1 : Int32) = 0 ∨ (if x < lo ∨ hi < x then 0 else 1 : Int32) = 1) := by
  by_cases h : x < lo ∨ hi < x
  · rw [if_pos h]; exact Or.inl rfl
  · rw [if_neg h]; exact Or.inr rfl
theorem pv_isLine (μ : xs_M) (x : Int32) : fn_M_isLine μ x = some (if x < 0 ∨ 3 < x then 0 else 1) := by
  unfold fn_M_isLine; rw [pv_within, Option.bind_some, if_pos (pv_w01 ..)]
theorem pv_isTexture (μ : xs_M) (x : Int32) : fn_X_isTexture μ x = some (if x < 0 ∨ 1 < x then 0 else 1) := by
  unfold fn_X_isTexture; rw [pv_within, Option.bind_some, if_pos (pv_w01 ..)]
theorem pv_isXLine (μ : xs_M) (x : Int32) : fn_X_isLine μ x = some (if x < 0 ∨ 7 < x then 0 else 1) := by
  unfold fn_X_isLine; rw [pv_within, Option.bind_some, if_pos (pv_w01 ..)]
theorem pv_isPlace (μ : xs_M) (x : Int32) : fn_S_isPlace μ x = some (if x < -31 ∨ 31 < x then 0 else 1) := by
  unfold fn_S_isPlace; rw [pv_within, Option.bind_some, if_pos (pv_w01 ..)]
theorem pv_isTexturePlace (μ : xs_M) (x : Int32) : fn_S_isTexturePlace μ x = some (if x < -127 ∨ 127 < x then 0 else 1) := by
  unfold fn_S_isTexturePlace; rw [pv_within, Option.bind_some, if_pos (pv_w01 ..)]
theorem pv_fits (μ : xs_M) (v : Int64) : fn_R_fits μ v = some (if v < -511 ∨ 511 < v then 0 else 1) := by
  unfold fn_R_fits
  by_cases h1 : v < -511
  · rw [if_pos ((lg_cmp_lt _ _).mpr h1), if_pos (Or.inl h1)]
  · rw [if_neg (fun h => h1 ((lg_cmp_lt _ _).mp h))]
    by_cases h2 : 511 < v
    · rw [if_pos ((lg_cmp_gt _ _).mpr h2), if_pos (Or.inr h2)]
    · rw [if_neg (fun h => h2 ((lg_cmp_gt _ _).mp h)), if_neg (by rintro (h | h) <;> contradiction)]
theorem pv_isEntry (μ : xs_M) (v : Int64) : fn_M_isEntry μ v = some (if v < -511 ∨ 511 < v then 0 else 1) := pv_fits μ v
theorem pv_b511 {x : Int32} (h : ¬ (x.toInt64 < -511 ∨ 511 < x.toInt64)) : pv_b 511 x := by
  have h1 : ¬ x.toInt64 < -511 := fun q => h (Or.inl q)
  have h2 : ¬ 511 < x.toInt64 := fun q => h (Or.inr q)
  rw [Int64.lt_iff_toInt_lt, Int32.toInt_toInt64] at h1 h2
  have e1 : (-511 : Int64).toInt = -511 := by decide
  have e2 : (511 : Int64).toInt = 511 := by decide
  rw [e1] at h1
  rw [e2] at h2
  exact ⟨by omega, by omega⟩
theorem pv_bx {x : Int32} {a b : Int32} {m : Int} (ha : a.toInt = -m) (hb : b.toInt = m) (h1 : ¬ x < a) (h2 : ¬ b < x) : pv_b m x := by
  rw [Int32.lt_iff_toInt_lt] at h1 h2
  exact ⟨by omega, by omega⟩
theorem pv_01 {c : Prop} [Decidable c] : (if c then (0 : Int32) else 1) = 0 ↔ c := by
  by_cases h : c
  · rw [if_pos h]; exact ⟨fun _ => h, fun _ => rfl⟩
  · rw [if_neg h]; exact ⟨fun q => absurd q (by decide), fun q => absurd q h⟩
theorem pv_10 : ((1 : Int32) = 0) = False := eq_false (by decide)
theorem pv_row_ok {μ μ1 : xs_M} {x0 x1 x2 x3 x4 : Int32} (h : fn_S_row μ x0 x1 x2 x3 x4 = some (.inl μ1)) : fn_L_row μ x0 x1 x2 x3 x4 = some (0, μ1) := by unfold fn_L_row; rw [h]; rfl
theorem pv_row {μ : xs_M} (h : pv_I μ) (x0 x1 x2 x3 x4 : Int32) : ∃ r μ1 μ2, fn_L_row μ x0 x1 x2 x3 x4 = some (r, μ1) ∧ fn_R_row μ1 x0 x1 x2 x3 x4 = some μ2 ∧ μ2.1 154 0 = r ∧ pv_I μ2 := by
  have bad : ∀ e, ("java/lang/IllegalArgumentException" = e) → fn_S_row μ x0 x1 x2 x3 x4 = some (.inr (e, μ)) → fn_R_row μ x0 x1 x2 x3 x4 = some (xs_si μ 154 0 1) → ∃ r μ1 μ2, fn_L_row μ x0 x1 x2 x3 x4 = some (r, μ1) ∧ fn_R_row μ1 x0 x1 x2 x3 x4 = some μ2 ∧ μ2.1 154 0 = r ∧ pv_I μ2 := by
    intro e he h1 h2
    subst he
    refine ⟨1, μ, _, ?_, h2, rfl, h.code 1⟩
    unfold fn_L_row
    rw [h1, Option.bind_some]
    rfl
  by_cases c0 : x0 < 0 ∨ 3 < x0
  · refine bad _ rfl ?_ ?_
    · simp only [fn_S_row, pv_isLine, Option.bind_some, pv_10, if_true, if_false, if_pos c0, if_true]
    · unfold fn_R_row
      by_cases c : x0 < 0
      · rw [if_pos c]; rfl
      · rw [if_neg c, if_pos (c0.resolve_left c)]; rfl
  have c01 : ¬ x0 < 0 := fun q => c0 (Or.inl q)
  have c02 : ¬ 3 < x0 := fun q => c0 (Or.inr q)
  by_cases c1 : x1.toInt64 < -511 ∨ 511 < x1.toInt64
  · exact bad _ rfl (by simp only [fn_S_row, pv_isLine, pv_isEntry, Option.bind_some, pv_10, if_true, if_false, pv_01, if_neg c0, if_pos c1]) (by simp only [fn_R_row, if_neg c01, if_neg c02, pv_fits, Option.bind_some, pv_10, if_true, if_false, pv_01, if_pos c1])
  by_cases c2 : x2.toInt64 < -511 ∨ 511 < x2.toInt64
  · exact bad _ rfl (by simp only [fn_S_row, pv_isLine, pv_isEntry, Option.bind_some, pv_10, if_true, if_false, pv_01, if_neg c0, if_neg c1, if_pos c2]) (by simp only [fn_R_row, if_neg c01, if_neg c02, pv_fits, Option.bind_some, pv_10, if_true, if_false, pv_01, if_neg c1, if_pos c2])
  by_cases c3 : x3.toInt64 < -511 ∨ 511 < x3.toInt64
  · exact bad _ rfl (by simp only [fn_S_row, pv_isLine, pv_isEntry, Option.bind_some, pv_10, if_true, if_false, pv_01, if_neg c0, if_neg c1, if_neg c2, if_pos c3]) (by simp only [fn_R_row, if_neg c01, if_neg c02, pv_fits, Option.bind_some, pv_10, if_true, if_false, pv_01, if_neg c1, if_neg c2, if_pos c3])
  by_cases c4 : x4.toInt64 < -511 ∨ 511 < x4.toInt64
  · exact bad _ rfl (by simp only [fn_S_row, pv_isLine, pv_isEntry, Option.bind_some, pv_10, if_true, if_false, pv_01, if_neg c0, if_neg c1, if_neg c2, if_neg c3, if_pos c4]) (by simp only [fn_R_row, if_neg c01, if_neg c02, pv_fits, Option.bind_some, pv_10, if_true, if_false, pv_01, if_neg c1, if_neg c2, if_neg c3, if_pos c4])
  obtain ⟨n, hn, rfl⟩ := ix_ex (m := 3) (by omega) c01 c02
  have hS : fn_S_row μ (Int32.ofNat n) x1 x2 x3 x4 = some (.inl (xs_si (xs_si (xs_si (xs_si μ 2 (4 * n) x1) 2 (4 * n + 1) x2) 2 (4 * n + 2) x3) 2 (4 * n + 3) x4)) := by
    simp only [fn_S_row, pv_isLine, pv_isEntry, Option.bind_some, pv_10, if_true, if_false, pv_01, if_neg c0, if_neg c1, if_neg c2, if_neg c3, if_neg c4, fn_M_setRow]
    rw [show Int32.ofNat n * 4 = Int32.ofNat (4 * n) from by rw [Nat.mul_comm]; exact ix_mul n 4]
    rw [show Int32.ofNat (4 * n) + 1 = Int32.ofNat (4 * n + 1) from ix_add _ 1, show Int32.ofNat (4 * n) + 2 = Int32.ofNat (4 * n + 2) from ix_add _ 2, show Int32.ofNat (4 * n) + 3 = Int32.ofNat (4 * n + 3) from ix_add _ 3]
    simp only [ix_in (show 4 * n < 16 by omega) (by omega), ix_in (show 4 * n + 1 < 16 by omega) (by omega), ix_in (show 4 * n + 2 < 16 by omega) (by omega), ix_in (show 4 * n + 3 < 16 by omega) (by omega), if_true, ix_cl (show 4 * n < 2147483648 by omega), ix_cl (show 4 * n + 1 < 2147483648 by omega), ix_cl (show 4 * n + 2 < 2147483648 by omega), ix_cl (show 4 * n + 3 < 2147483648 by omega)]
    rfl
  have hR : ∀ μ1, fn_R_row μ1 (Int32.ofNat n) x1 x2 x3 x4 = some (xs_si (xs_si (xs_si (xs_si (xs_si μ1 154 0 0) 155 (4 * n) x1) 155 (4 * n + 1) x2) 155 (4 * n + 2) x3) 155 (4 * n + 3) x4) := by
    intro μ1
    simp only [fn_R_row, if_neg c01, if_neg c02, pv_fits, Option.bind_some, pv_10, if_true, if_false, pv_01, if_neg c1, if_neg c2, if_neg c3, if_neg c4]
    rw [show 4 * Int32.ofNat n = Int32.ofNat (4 * n) from ix_mul 4 n]
    rw [show Int32.ofNat (4 * n) + 1 = Int32.ofNat (4 * n + 1) from ix_add _ 1, show Int32.ofNat (4 * n) + 2 = Int32.ofNat (4 * n + 2) from ix_add _ 2, show Int32.ofNat (4 * n) + 3 = Int32.ofNat (4 * n + 3) from ix_add _ 3]
    simp only [ix_in (show 4 * n < 16 by omega) (by omega), ix_in (show 4 * n + 1 < 16 by omega) (by omega), ix_in (show 4 * n + 2 < 16 by omega) (by omega), ix_in (show 4 * n + 3 < 16 by omega) (by omega), if_true, ix_cl (show 4 * n < 2147483648 by omega), ix_cl (show 4 * n + 1 < 2147483648 by omega), ix_cl (show 4 * n + 2 < 2147483648 by omega), ix_cl (show 4 * n + 3 < 2147483648 by omega)]
  refine ⟨0, _, _, pv_row_ok hS, hR _, rfl, ?_⟩
  · obtain ⟨tc, ct, hc⟩ := h.cnt
    refine pv_I.mk ?_ h.pile h.saved h.use1 h.use2 h.use3 h.tex ⟨tc, ct, hc.fr ⟨rfl, rfl, rfl⟩ ?_ rfl rfl rfl rfl⟩ h.pic
    · intro j hj
      have := h.mat j hj
      simp only [si_same, si_ne _ _ _ (show 155 ≠ 2 by decide), si_ne _ _ _ (show 2 ≠ 155 by decide), si_ne _ _ _ (show 155 ≠ 154 by decide), si_ne _ _ _ (show 2 ≠ 154 by decide)]
      have b1 := pv_b511 c1
      have b2 := pv_b511 c2
      have b3 := pv_b511 c3
      have b4 := pv_b511 c4
      by_cases e4 : j = 4 * n + 3
      · rw [if_pos e4, if_pos e4]; exact ⟨rfl, b4⟩
      rw [if_neg e4, if_neg e4]
      by_cases e3 : j = 4 * n + 2
      · rw [if_pos e3, if_pos e3]; exact ⟨rfl, b3⟩
      rw [if_neg e3, if_neg e3]
      by_cases e2 : j = 4 * n + 1
      · rw [if_pos e2, if_pos e2]; exact ⟨rfl, b2⟩
      rw [if_neg e2, if_neg e2]
      by_cases e1 : j = 4 * n
      · rw [if_pos e1, if_pos e1]; exact ⟨rfl, b1⟩
      rw [if_neg e1, if_neg e1]
      exact this
    · intro i h1 h2
      simp only [si_2, and_true]
      rw [si_ne _ _ _ (by omega), si_ne _ _ _ (by omega), si_ne _ _ _ (by omega), si_ne _ _ _ (by omega), si_ne _ _ _ (by omega), si_ne _ _ _ (by omega), si_ne _ _ _ (by omega), si_ne _ _ _ (by omega), si_ne _ _ _ (by omega)]
