theorem ixm4 (n : Nat) : 4 * Int32.ofNat n = Int32.ofNat (4 * n) := ix_mul 4 n
theorem ixm4' (n : Nat) : Int32.ofNat n * 4 = Int32.ofNat (4 * n) := by rw [Nat.mul_comm 4]; exact ix_mul n 4
theorem ixm8 (n : Nat) : 8 * Int32.ofNat n = Int32.ofNat (8 * n) := ix_mul 8 n
theorem ixm8' (n : Nat) : Int32.ofNat n * 8 = Int32.ofNat (8 * n) := by rw [Nat.mul_comm 8]; exact ix_mul n 8
theorem ixm16 (n : Nat) : 16 * Int32.ofNat n = Int32.ofNat (16 * n) := ix_mul 16 n
theorem ixm16' (n : Nat) : Int32.ofNat n * 16 = Int32.ofNat (16 * n) := by rw [Nat.mul_comm 16]; exact ix_mul n 16
theorem ixm64 (n : Nat) : 64 * Int32.ofNat n = Int32.ofNat (64 * n) := ix_mul 64 n
theorem ixm6 (n : Nat) : 6 * Int32.ofNat n = Int32.ofNat (6 * n) := ix_mul 6 n
theorem ixm18 (n : Nat) : 18 * Int32.ofNat n = Int32.ofNat (18 * n) := ix_mul 18 n
theorem ixa1 (n : Nat) : Int32.ofNat n + 1 = Int32.ofNat (n + 1) := ix_add n 1
theorem ixa2 (n : Nat) : Int32.ofNat n + 2 = Int32.ofNat (n + 2) := ix_add n 2
theorem ixa3 (n : Nat) : Int32.ofNat n + 3 = Int32.ofNat (n + 3) := ix_add n 3
theorem ixa4 (n : Nat) : Int32.ofNat n + 4 = Int32.ofNat (n + 4) := ix_add n 4
theorem ixa5 (n : Nat) : Int32.ofNat n + 5 = Int32.ofNat (n + 5) := ix_add n 5
theorem pv_lec {x m : Int32} : ¬ m < x ↔ x ≤ m := by
  rw [Int32.lt_iff_toInt_lt, Int32.le_iff_toInt_le]; omega
/-! entry -/
theorem pv_entry {μ : xs_M} (h : pv_I μ) (x0 x1 : Int32) : ∃ r μ1 y μ2, fn_L_entry μ x0 x1 = some (r, μ1) ∧ fn_R_entry μ1 x0 x1 = some (y, μ2) ∧ μ2.1 154 0 = r ∧ (r = 0 → μ2.2 171 0 = y.toInt64) ∧ pv_I μ2 := by
  by_cases c0 : x0 < 0 ∨ 3 < x0
  · refine ⟨1, μ, 0, xs_si μ 154 0 1, ?_, ?_, rfl, fun q => absurd q (by decide), h.code 1⟩
    · simp only [fn_L_entry, fn_S_entry, pv_isLine, Option.bind_some, if_pos c0, if_true]; rfl
    · unfold fn_R_entry
      by_cases c : x0 < 0
      · rw [if_pos c]; rfl
      · rw [if_neg c, if_pos (c0.resolve_left c)]; rfl
  have c01 : ¬ x0 < 0 := fun q => c0 (Or.inl q)
  have c02 : ¬ 3 < x0 := fun q => c0 (Or.inr q)
  by_cases c1 : x1 < 0 ∨ 3 < x1
  · refine ⟨1, μ, 0, xs_si μ 154 0 1, ?_, ?_, rfl, fun q => absurd q (by decide), h.code 1⟩
    · simp only [fn_L_entry, fn_S_entry, pv_isLine, Option.bind_some, if_neg c0, pv_10, if_false, if_pos c1, if_true]; rfl
    · unfold fn_R_entry
      rw [if_neg c01, if_neg c02]
      by_cases c : x1 < 0
      · rw [if_pos c]; rfl
      · rw [if_neg c, if_neg (fun q => (pv_lec.mpr q) (c1.resolve_left c))]; rfl
  have c11 : ¬ x1 < 0 := fun q => c1 (Or.inl q)
  have c12 : ¬ 3 < x1 := fun q => c1 (Or.inr q)
  obtain ⟨n, hn, rfl⟩ := ix_ex (m := 3) (by omega) c01 c02
  obtain ⟨k, hk, rfl⟩ := ix_ex (m := 3) (by omega) c11 c12
  refine ⟨0, xs_sl μ 171 0 ((μ.1 2 (4 * n + k)).toInt64), μ.1 155 (4 * n + k), xs_si (xs_sl μ 171 0 ((μ.1 2 (4 * n + k)).toInt64)) 154 0 0, ?_, ?_, rfl, fun _ => ?_, (h.out _).code 0⟩
  · simp only [fn_L_entry, fn_S_entry, pv_isLine, Option.bind_some, if_neg c0, if_neg c1, pv_10, if_false, fn_M_entryAt, ixm4', ix_add, ix_in (show 4 * n + k < 16 by omega) (by omega), if_true, ix_cl (show 4 * n + k < 2147483648 by omega)]; rfl
  · simp only [fn_R_entry, if_neg c01, if_neg c02, if_neg c11, if_pos (pv_lec.mp c12), Option.bind_some, ixm4, ix_add, ix_in (show 4 * n + k < 16 by omega) (by omega), if_true, ix_cl (show 4 * n + k < 2147483648 by omega)]; rfl
  · rw [si_2, sl_same, if_pos rfl, (h.mat _ (show 4 * n + k < 16 by omega)).1]
/-! use -/
theorem pv_use {μ : xs_M} (h : pv_I μ) (x0 x1 x2 : Int32) : ∃ r μ1 μ2, fn_S_use μ x0 x1 x2 = some (r, μ1) ∧ fn_R_use μ1 x0 x1 x2 = some (r, μ2) ∧ pv_I μ2 := by
  by_cases c0 : x0 < 0 ∨ 1 < x0
  · refine ⟨0, μ, xs_si μ 154 0 0, ?_, ?_, h.code 0⟩
    · simp only [fn_S_use, pv_isTexture, Option.bind_some, if_pos c0, if_true]
    · unfold fn_R_use
      rw [Option.bind_some]
      by_cases c : x0 < 0
      · rw [if_pos c]
      · rw [if_neg c, if_pos (c0.resolve_left c)]
  have c01 : ¬ x0 < 0 := fun q => c0 (Or.inl q)
  have c02 : ¬ 1 < x0 := fun q => c0 (Or.inr q)
  by_cases c1 : x1 < 0 ∨ 1 < x1
  · refine ⟨0, μ, xs_si μ 154 0 0, ?_, ?_, h.code 0⟩
    · simp only [fn_S_use, pv_isTexture, pv_within, Option.bind_some, if_neg c0, pv_10, if_false, if_pos c1, if_true]
    · unfold fn_R_use
      rw [Option.bind_some, if_neg c01, if_neg c02]
      by_cases c : x1 < 0
      · rw [if_pos c]
      · rw [if_neg c, if_pos (c1.resolve_left c)]
  have c11 : ¬ x1 < 0 := fun q => c1 (Or.inl q)
  have c12 : ¬ 1 < x1 := fun q => c1 (Or.inr q)
  by_cases c2 : x2 < 0 ∨ 2 < x2
  · refine ⟨0, μ, xs_si μ 154 0 0, ?_, ?_, h.code 0⟩
    · simp only [fn_S_use, pv_isTexture, pv_within, Option.bind_some, if_neg c0, if_neg c1, pv_10, if_false, if_pos c2, if_true]
    · unfold fn_R_use
      rw [Option.bind_some, if_neg c01, if_neg c02, if_neg c11, if_neg c12]
      by_cases c : x2 < 0
      · rw [if_pos c]
      · rw [if_neg c, if_neg (fun q => (pv_lec.mpr q) (c2.resolve_left c))]
  have c21 : ¬ x2 < 0 := fun q => c2 (Or.inl q)
  have c22 : ¬ 2 < x2 := fun q => c2 (Or.inr q)
  refine ⟨1, xs_si (xs_si (xs_si μ 0 6 x0) 0 7 x1) 0 8 x2, xs_si (xs_si (xs_si (xs_si (xs_si (xs_si (xs_si μ 0 6 x0) 0 7 x1) 0 8 x2) 154 0 0) 154 5 x0) 154 6 x1) 154 7 x2, ?_, ?_, ?_⟩
  · simp only [fn_S_use, pv_isTexture, pv_within, Option.bind_some, if_neg c0, if_neg c1, if_neg c2, pv_10, if_false]
  · unfold fn_R_use
    rw [Option.bind_some, if_neg c01, if_neg c02, if_neg c11, if_neg c12, if_neg c21, if_pos (pv_lec.mp c22)]
    rfl
  · obtain ⟨n0, hn0, rfl⟩ := ix_ex (m := 1) (by omega) c01 c02
    obtain ⟨n1, hn1, rfl⟩ := ix_ex (m := 1) (by omega) c11 c12
    obtain ⟨n2, hn2, rfl⟩ := ix_ex (m := 2) (by omega) c21 c22
    obtain ⟨tc, ct, hc⟩ := h.cnt
    refine pv_I.mk h.mat h.pile h.saved ⟨n0, hn0, rfl, rfl⟩ ⟨n1, hn1, rfl, rfl⟩ ⟨n2, hn2, rfl, rfl⟩ h.tex ⟨tc, ct, hc.fr ⟨rfl, rfl, rfl⟩ ?_ rfl rfl rfl rfl⟩ h.pic
    intro i h1 h2
    simp only [si_2, and_true]
    rw [si_ne _ _ _ (by omega), si_ne _ _ _ (by omega), si_ne _ _ _ (by omega), si_ne _ _ _ (by omega), si_ne _ _ _ (by omega), si_ne _ _ _ (by omega), si_ne _ _ _ (by omega)]
/-! texel -/
theorem pv_texel {μ : xs_M} (h : pv_I μ) (x0 x1 x2 x3 : Int32) : ∃ r μ1 y μ2, fn_L_texel μ x0 x1 x2 x3 = some (r, μ1) ∧ fn_R_texel μ1 x0 x1 x2 x3 = some (y, μ2) ∧ μ2.1 154 0 = r ∧ (r = 0 → μ2.2 171 0 = y.toInt64) ∧ pv_I μ2 := by
  by_cases c0 : x0 < 0 ∨ 1 < x0
  · refine ⟨1, μ, 0, xs_si μ 154 0 1, ?_, ?_, rfl, fun q => absurd q (by decide), h.code 1⟩
    · simp only [fn_L_texel, fn_S_texel, pv_isTexture, Option.bind_some, if_pos c0, if_true]; rfl
    · unfold fn_R_texel
      by_cases c : x0 < 0
      · rw [if_pos c]; rfl
      · rw [if_neg c, if_pos (c0.resolve_left c)]; rfl
  have c01 : ¬ x0 < 0 := fun q => c0 (Or.inl q)
  have c02 : ¬ 1 < x0 := fun q => c0 (Or.inr q)
  by_cases c1 : x1 < 0 ∨ 7 < x1
  · refine ⟨1, μ, 0, xs_si μ 154 0 1, ?_, ?_, rfl, fun q => absurd q (by decide), h.code 1⟩
    · simp only [fn_L_texel, fn_S_texel, pv_isTexture, pv_isXLine, Option.bind_some, if_neg c0, pv_10, if_false, if_pos c1, if_true]; rfl
    · unfold fn_R_texel
      rw [if_neg c01, if_neg c02]
      by_cases c : x1 < 0
      · rw [if_pos c]; rfl
      · rw [if_neg c, if_pos (c1.resolve_left c)]; rfl
  have c11 : ¬ x1 < 0 := fun q => c1 (Or.inl q)
  have c12 : ¬ 7 < x1 := fun q => c1 (Or.inr q)
  by_cases c2 : x2 < 0 ∨ 7 < x2
  · refine ⟨1, μ, 0, xs_si μ 154 0 1, ?_, ?_, rfl, fun q => absurd q (by decide), h.code 1⟩
    · simp only [fn_L_texel, fn_S_texel, pv_isTexture, pv_isXLine, Option.bind_some, if_neg c0, if_neg c1, pv_10, if_false, if_pos c2, if_true]; rfl
    · unfold fn_R_texel
      rw [if_neg c01, if_neg c02, if_neg c11, if_neg c12]
      by_cases c : x2 < 0
      · rw [if_pos c]; rfl
      · rw [if_neg c, if_neg (fun q => (pv_lec.mpr q) (c2.resolve_left c))]; rfl
  have c21 : ¬ x2 < 0 := fun q => c2 (Or.inl q)
  have c22 : ¬ 7 < x2 := fun q => c2 (Or.inr q)
  obtain ⟨a, ha, rfl⟩ := ix_ex (m := 1) (by omega) c01 c02
  obtain ⟨b, hb, rfl⟩ := ix_ex (m := 7) (by omega) c11 c12
  obtain ⟨c, hc, rfl⟩ := ix_ex (m := 7) (by omega) c21 c22
  have e1 : 8 * (8 * a + c) + b = 64 * a + 8 * c + b := by omega
  refine ⟨0, xs_sl (xs_si μ 7 (64 * a + 8 * c + b) (x3 &&& 255)) 171 0 ((μ.1 7 (64 * a + 8 * c + b)).toInt64), μ.1 158 (64 * a + 8 * b + c), xs_si (xs_si (xs_sl (xs_si μ 7 (64 * a + 8 * c + b) (x3 &&& 255)) 171 0 ((μ.1 7 (64 * a + 8 * c + b)).toInt64)) 154 0 0) 158 (64 * a + 8 * b + c) (x3 &&& 255), ?_, ?_, rfl, fun _ => ?_, ?_⟩
  · simp only [fn_L_texel, fn_S_texel, pv_isTexture, pv_isXLine, Option.bind_some, if_neg c0, if_neg c1, if_neg c2, pv_10, if_false, fn_X_indexOf, ixm8', ix_add, e1, fn_X_exchange, ix_in (show 64 * a + 8 * c + b < 128 by omega) (by omega), if_true, ix_cl (show 64 * a + 8 * c + b < 2147483648 by omega)]; rfl
  · simp only [fn_R_texel, if_neg c01, if_neg c02, if_neg c11, if_neg c12, if_neg c21, if_pos (pv_lec.mp c22), Option.bind_some, ixm64, ixm8, ix_add, ix_in (show 64 * a + 8 * b + c < 128 by omega) (by omega), if_true, ix_cl (show 64 * a + 8 * b + c < 2147483648 by omega)]; rfl
  · rw [si_2, si_2, sl_same, if_pos rfl, h.tex a b c (by omega) (by omega) (by omega)]
  · obtain ⟨tc, ct, hcc⟩ := h.cnt
    refine pv_I.mk h.mat h.pile h.saved h.use1 h.use2 h.use3 ?_ ⟨tc, ct, hcc.fr ⟨rfl, rfl, rfl⟩ ?_ rfl rfl rfl rfl⟩ h.pic
    · intro a' b' c' ha' hb' hc'
      have := h.tex a' b' c' ha' hb' hc'
      rw [si_same, si_ne _ _ _ (show 7 ≠ 158 by decide), si_ne _ _ _ (show 7 ≠ 154 by decide), sl_1, si_same, si_ne _ _ _ (show 158 ≠ 154 by decide), sl_1, si_ne _ _ _ (show 158 ≠ 7 by decide)]
      by_cases e : a' = a ∧ b' = b ∧ c' = c
      · obtain ⟨rfl, rfl, rfl⟩ := e
        rw [if_pos rfl, if_pos rfl]
      · rw [if_neg (by omega), if_neg (by omega)]
        exact this
    · intro i h1 h2
      constructor
      · rw [si_ne _ _ _ (by omega), si_ne _ _ _ (by omega), sl_1, si_ne _ _ _ (by omega)]
      · rw [si_2, si_2, sl_ne _ _ _ (by omega), si_2]
/-! clear -/
theorem pv_clear {μ : xs_M} (h : pv_I μ) : ∃ r μ1 μ2, fn_S_clear μ = some (r, μ1) ∧ fn_R_clear μ1 = some (r, μ2) ∧ pv_I μ2 := by
  obtain ⟨tc, ct, hc⟩ := h.cnt
  obtain ⟨⟨h1, h2, h3⟩, ⟨h4, h5, h6⟩, h7, h8⟩ := hc
  refine ⟨μ.1 0 4, xs_si (xs_si μ 0 4 0) 0 5 0, xs_si (xs_si (xs_si (xs_si μ 0 4 0) 0 5 0) 154 0 0) 154 9 0, rfl, ?_, ?_⟩
  · unfold fn_R_clear
    simp only [Option.bind_some]
    rw [show ((xs_si (xs_si (xs_si μ 0 4 0) 0 5 0) 154 0 0).1 154 9) = μ.1 154 9 from rfl, h6, h4]
    rw [show Int32.ofNat (3 * tc + ct) / 3 = Int32.ofNat ((3 * tc + ct) / 3) from ix_div (b := 3) (by omega) (by decide), show (3 * tc + ct) / 3 = tc by omega]
  · refine pv_I.mk h.mat h.pile h.saved h.use1 h.use2 h.use3 h.tex ⟨0, 0, ⟨⟨by omega, by omega, by omega⟩, ⟨rfl, rfl, rfl⟩, fun k n _ q => absurd q (by omega), fun k q => absurd q (by omega)⟩⟩ h.pic
/-! colour, owner -/
theorem pv_isPixel (μ : xs_M) (x0 x1 : Int32) : fn_P_isPixel μ x0 x1 = some (if (x0 < 0 ∨ 15 < x0) ∨ (x1 < 0 ∨ 11 < x1) then 0 else 1) := by
  unfold fn_P_isPixel
  rw [pv_within, Option.bind_some]
  by_cases c0 : x0 < 0 ∨ 15 < x0
  · rw [if_pos c0, if_pos rfl, if_pos (Or.inl c0)]
  · rw [if_neg c0, if_neg (by decide), pv_within, Option.bind_some]
    by_cases c1 : x1 < 0 ∨ 11 < x1
    · rw [if_pos c1, if_pos rfl, if_pos (Or.inr c1)]
    · rw [if_neg c1, if_neg (by decide), if_neg (by rintro (h | h) <;> contradiction)]
theorem pv_le16 {x : Int32} : 16 ≤ x ↔ 15 < x := by
  rw [Int32.lt_iff_toInt_lt, Int32.le_iff_toInt_le]
  rw [show (16 : Int32).toInt = 16 by decide, show (15 : Int32).toInt = 15 by decide]; omega
theorem pv_le12 {x : Int32} : 12 ≤ x ↔ 11 < x := by
  rw [Int32.lt_iff_toInt_lt, Int32.le_iff_toInt_le]
  rw [show (12 : Int32).toInt = 12 by decide, show (11 : Int32).toInt = 11 by decide]; omega
theorem pv_isPixelR (μ : xs_M) (x0 x1 : Int32) : fn_R_isPixel μ x0 x1 = some (if (x0 < 0 ∨ 15 < x0) ∨ (x1 < 0 ∨ 11 < x1) then 0 else 1) := by
  unfold fn_R_isPixel
  simp only [pv_le16, pv_le12]
  by_cases a : x0 < 0
  · rw [if_pos a, if_pos (Or.inl (Or.inl a))]
  · by_cases b : 15 < x0
    · rw [if_neg a, if_pos b, if_pos (Or.inl (Or.inr b))]
    · by_cases c : x1 < 0
      · rw [if_neg a, if_neg b, if_pos c, if_pos (Or.inr (Or.inl c))]
      · by_cases d : 11 < x1
        · rw [if_neg a, if_neg b, if_neg c, if_pos d, if_pos (Or.inr (Or.inr d))]
        · rw [if_neg a, if_neg b, if_neg c, if_neg d, if_neg (by rintro ((h | h) | (h | h)) <;> contradiction)]
theorem pv_px {x0 x1 : Int32} (c : ¬ ((x0 < 0 ∨ 15 < x0) ∨ (x1 < 0 ∨ 11 < x1))) : ∃ i j, i < 16 ∧ j < 12 ∧ x0 = Int32.ofNat i ∧ x1 = Int32.ofNat j := by
  obtain ⟨i, hi, rfl⟩ := ix_ex (x := x0) (m := 15) (by omega) (fun q => c (Or.inl (Or.inl q))) (fun q => c (Or.inl (Or.inr q)))
  obtain ⟨j, hj, rfl⟩ := ix_ex (x := x1) (m := 11) (by omega) (fun q => c (Or.inr (Or.inl q))) (fun q => c (Or.inr (Or.inr q)))
  exact ⟨i, j, by omega, by omega, rfl, rfl⟩
theorem pv_colour {μ : xs_M} (h : pv_I μ) (x0 x1 : Int32) : ∃ r μ1 y μ2, fn_L_colour μ x0 x1 = some (r, μ1) ∧ fn_R_colour μ1 x0 x1 = some (y, μ2) ∧ μ2.1 154 0 = r ∧ (r = 0 → μ2.2 171 0 = y.toInt64) ∧ pv_I μ2 := by
  by_cases c : (x0 < 0 ∨ 15 < x0) ∨ (x1 < 0 ∨ 11 < x1)
  · refine ⟨1, μ, 0, xs_si μ 154 0 1, ?_, ?_, rfl, fun q => absurd q (by decide), h.code 1⟩
    · simp only [fn_L_colour, fn_S_colour, pv_isPixel, Option.bind_some, if_pos c, if_true]; rfl
    · simp only [fn_R_colour, pv_isPixelR, Option.bind_some, if_pos c, if_true]
  · obtain ⟨i, j, hi, hj, rfl, rfl⟩ := pv_px c
    refine ⟨0, xs_sl μ 171 0 ((μ.1 9 (16 * j + i)).toInt64), μ.1 168 (16 * j + i), xs_si (xs_sl μ 171 0 ((μ.1 9 (16 * j + i)).toInt64)) 154 0 0, ?_, ?_, rfl, fun _ => ?_, (h.out _).code 0⟩
    · simp only [fn_L_colour, fn_S_colour, pv_isPixel, Option.bind_some, if_neg c, pv_10, if_false, fn_P_indexOf, ixm16', ix_add, ix_in (show 16 * j + i < 192 by omega) (by omega), if_true, ix_cl (show 16 * j + i < 2147483648 by omega)]; rfl
    · simp only [fn_R_colour, pv_isPixelR, Option.bind_some, if_neg c, pv_10, if_false, ixm16, ix_add, ix_in (show 16 * j + i < 192 by omega) (by omega), if_true, ix_cl (show 16 * j + i < 2147483648 by omega)]; rfl
    · rw [si_2, sl_same, if_pos rfl, (h.pic _ (show 16 * j + i < 192 by omega)).1]
theorem pv_owner {μ : xs_M} (h : pv_I μ) (x0 x1 : Int32) : ∃ r μ1 y μ2, fn_L_owner μ x0 x1 = some (r, μ1) ∧ fn_R_owner μ1 x0 x1 = some (y, μ2) ∧ μ2.1 154 0 = r ∧ (r = 0 → μ2.2 171 0 = y.toInt64) ∧ pv_I μ2 := by
  by_cases c : (x0 < 0 ∨ 15 < x0) ∨ (x1 < 0 ∨ 11 < x1)
  · refine ⟨1, μ, 0, xs_si μ 154 0 1, ?_, ?_, rfl, fun q => absurd q (by decide), h.code 1⟩
    · simp only [fn_L_owner, fn_S_owner, pv_isPixel, Option.bind_some, if_pos c, if_true]; rfl
    · simp only [fn_R_owner, pv_isPixelR, Option.bind_some, if_pos c, if_true]
  · obtain ⟨i, j, hi, hj, rfl, rfl⟩ := pv_px c
    refine ⟨0, xs_sl μ 171 0 ((μ.1 10 (16 * j + i)).toInt64), μ.1 167 (16 * j + i), xs_si (xs_sl μ 171 0 ((μ.1 10 (16 * j + i)).toInt64)) 154 0 0, ?_, ?_, rfl, fun _ => ?_, (h.out _).code 0⟩
    · simp only [fn_L_owner, fn_S_owner, pv_isPixel, Option.bind_some, if_neg c, pv_10, if_false, fn_P_indexOf, ixm16', ix_add, ix_in (show 16 * j + i < 192 by omega) (by omega), if_true, ix_cl (show 16 * j + i < 2147483648 by omega)]; rfl
    · simp only [fn_R_owner, pv_isPixelR, Option.bind_some, if_neg c, pv_10, if_false, ixm16, ix_add, ix_in (show 16 * j + i < 192 by omega) (by omega), if_true, ix_cl (show 16 * j + i < 2147483648 by omega)]; rfl
    · rw [si_2, sl_same, if_pos rfl, (h.pic _ (show 16 * j + i < 192 by omega)).2.1]
