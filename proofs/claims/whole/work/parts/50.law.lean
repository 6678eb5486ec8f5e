/-! the law's cases, its loop -/
theorem pv_fin1 {L : Option (Int32 × xs_M)} {R : xs_M → Option xs_M} (h : ∃ r μ1 μ2, L = some (r, μ1) ∧ R μ1 = some μ2 ∧ μ2.1 154 0 = r ∧ pv_I μ2) : ∃ μ', (L.bind fun w => ((R w.2).bind fun w12 => ((fn_R_thrown w12).bind fun w13 => (if w13 = w.1 then some w12 else none)))) = some μ' ∧ pv_I μ' := by
  obtain ⟨r, μ1, μ2, h1, h2, h3, h4⟩ := h
  refine ⟨μ2, ?_, h4⟩
  rw [h1, Option.bind_some]
  show (R μ1).bind _ = _
  rw [h2, Option.bind_some]
  show (if μ2.1 154 0 = r then some μ2 else none) = _
  rw [if_pos h3]
theorem pv_fin2 {L : Option (Int32 × xs_M)} {R : xs_M → Option (Int32 × xs_M)} (h : ∃ r μ1 y μ2, L = some (r, μ1) ∧ R μ1 = some (y, μ2) ∧ μ2.1 154 0 = r ∧ (r = 0 → μ2.2 171 0 = y.toInt64) ∧ pv_I μ2) : ∃ μ', (L.bind fun w => ((R w.2).bind fun w6 => ((fn_R_thrown w6.2).bind fun w7 => (if w7 = w.1 then (if w.1 = 0 then (if (lg_cmp (w6.2.2 171 (0 : Int32).toNatClampNeg) (w6.1).toInt64) = 0 then some w6.2 else none) else some w6.2) else none)))) = some μ' ∧ pv_I μ' := by
  obtain ⟨r, μ1, y, μ2, h1, h2, h3, h4, h5⟩ := h
  refine ⟨μ2, ?_, h5⟩
  rw [h1, Option.bind_some]
  show (R μ1).bind _ = _
  rw [h2, Option.bind_some]
  show (if μ2.1 154 0 = r then (if r = 0 then (if (lg_cmp (μ2.2 171 (0 : Int32).toNatClampNeg) y.toInt64) = 0 then some μ2 else none) else some μ2) else none) = _
  rw [if_pos h3]
  by_cases hr : r = 0
  · rw [if_pos hr, show (0 : Int32).toNatClampNeg = 0 by decide, if_pos ((lg_cmp_eq _ _).mpr (h4 hr))]
  · rw [if_neg hr]
theorem pv_fin3 {L : Option (Int32 × xs_M)} {R : xs_M → Option (Int64 × xs_M)} (h : ∃ r μ1 y μ2, L = some (r, μ1) ∧ R μ1 = some (y, μ2) ∧ μ2.1 154 0 = r ∧ (r = 0 → μ2.2 171 0 = y) ∧ pv_I μ2) : ∃ μ', (L.bind fun w => ((R w.2).bind fun w6 => ((fn_R_thrown w6.2).bind fun w7 => (if w7 = w.1 then (if w.1 = 0 then (if (lg_cmp (w6.2.2 171 (0 : Int32).toNatClampNeg) w6.1) = 0 then some w6.2 else none) else some w6.2) else none)))) = some μ' ∧ pv_I μ' := by
  obtain ⟨r, μ1, y, μ2, h1, h2, h3, h4, h5⟩ := h
  refine ⟨μ2, ?_, h5⟩
  rw [h1, Option.bind_some]
  show (R μ1).bind _ = _
  rw [h2, Option.bind_some]
  show (if μ2.1 154 0 = r then (if r = 0 then (if (lg_cmp (μ2.2 171 (0 : Int32).toNatClampNeg) y) = 0 then some μ2 else none) else some μ2) else none) = _
  rw [if_pos h3]
  by_cases hr : r = 0
  · rw [if_pos hr, show (0 : Int32).toNatClampNeg = 0 by decide, if_pos ((lg_cmp_eq _ _).mpr (h4 hr))]
  · rw [if_neg hr]
theorem pv_fin4 {L : Option (Int32 × xs_M)} {R : xs_M → Option (Int32 × xs_M)} (h : ∃ r μ1 μ2, L = some (r, μ1) ∧ R μ1 = some (r, μ2) ∧ pv_I μ2) : ∃ μ', (L.bind fun w => ((R w.2).bind fun w8 => (if w.1 = w8.1 then some w8.2 else none))) = some μ' ∧ pv_I μ' := by
  obtain ⟨r, μ1, μ2, h1, h2, h3⟩ := h
  refine ⟨μ2, ?_, h3⟩
  rw [h1, Option.bind_some]
  show (R μ1).bind _ = _
  rw [h2, Option.bind_some]
  show (if r = r then some μ2 else none) = _
  rw [if_pos rfl]
theorem pv_k0 {μ : xs_M} (h : pv_I μ) (xs : Nat → Int32) {L n : Nat} (hL : L ≤ 3072) (hn : n + 6 ≤ L) : ∃ μ', fn_law_c0 μ xs L (Int32.ofNat n) = some μ' ∧ pv_I μ' := by
  unfold fn_law_c0
  simp only [ixa1, ixa2, ixa3, ixa4, ixa5, ix_in (show n + 1 < L by omega) (show L ≤ 2147483648 by omega), ix_in (show n + 2 < L by omega) (show L ≤ 2147483648 by omega), ix_in (show n + 3 < L by omega) (show L ≤ 2147483648 by omega), ix_in (show n + 4 < L by omega) (show L ≤ 2147483648 by omega), ix_in (show n + 5 < L by omega) (show L ≤ 2147483648 by omega), if_true, ix_cl (show n + 1 < 2147483648 by omega), ix_cl (show n + 2 < 2147483648 by omega), ix_cl (show n + 3 < 2147483648 by omega), ix_cl (show n + 4 < 2147483648 by omega), ix_cl (show n + 5 < 2147483648 by omega)]
  exact pv_fin1 (R := fun m => fn_R_row m (xs (n + 1)) (xs (n + 2)) (xs (n + 3)) (xs (n + 4)) (xs (n + 5))) (pv_row h (xs (n + 1)) (xs (n + 2)) (xs (n + 3)) (xs (n + 4)) (xs (n + 5)))
theorem pv_k1 {μ : xs_M} (h : pv_I μ) (xs : Nat → Int32) {L n : Nat} (hL : L ≤ 3072) (hn : n + 6 ≤ L) : ∃ μ', fn_law_c1 μ xs L (Int32.ofNat n) = some μ' ∧ pv_I μ' := by
  unfold fn_law_c1
  simp only [ixa1, ixa2, ixa3, ix_in (show n + 1 < L by omega) (show L ≤ 2147483648 by omega), ix_in (show n + 2 < L by omega) (show L ≤ 2147483648 by omega), ix_in (show n + 3 < L by omega) (show L ≤ 2147483648 by omega), if_true, ix_cl (show n + 1 < 2147483648 by omega), ix_cl (show n + 2 < 2147483648 by omega), ix_cl (show n + 3 < 2147483648 by omega)]
  exact pv_fin1 (R := fun m => fn_R_move m (xs (n + 1)) (xs (n + 2)) (xs (n + 3))) (pv_move h (xs (n + 1)) (xs (n + 2)) (xs (n + 3)))
theorem pv_k2 {μ : xs_M} (h : pv_I μ) (xs : Nat → Int32) {L n : Nat} (hL : L ≤ 3072) (hn : n + 6 ≤ L) : ∃ μ', fn_law_c2 μ xs L (Int32.ofNat n) = some μ' ∧ pv_I μ' := by
  unfold fn_law_c2
  simp only [ixa1, ixa2, ixa3, ix_in (show n + 1 < L by omega) (show L ≤ 2147483648 by omega), ix_in (show n + 2 < L by omega) (show L ≤ 2147483648 by omega), ix_in (show n + 3 < L by omega) (show L ≤ 2147483648 by omega), if_true, ix_cl (show n + 1 < 2147483648 by omega), ix_cl (show n + 2 < 2147483648 by omega), ix_cl (show n + 3 < 2147483648 by omega)]
  exact pv_fin1 (R := fun m => fn_R_stretch m (xs (n + 1)) (xs (n + 2)) (xs (n + 3))) (pv_stretch h (xs (n + 1)) (xs (n + 2)) (xs (n + 3)))
theorem pv_k3 {μ : xs_M} (h : pv_I μ) (xs : Nat → Int32) {L n : Nat} (hL : L ≤ 3072) (hn : n + 6 ≤ L) : ∃ μ', fn_law_c3 μ xs L (Int32.ofNat n) = some μ' ∧ pv_I μ' := by
  unfold fn_law_c3
  simp only [ixa1, ix_in (show n + 1 < L by omega) (show L ≤ 2147483648 by omega), if_true, ix_cl (show n + 1 < 2147483648 by omega)]
  exact pv_fin1 (R := fun m => fn_R_turn m (xs (n + 1))) (pv_turn h (xs (n + 1)))
theorem pv_k4 {μ : xs_M} (h : pv_I μ) (xs : Nat → Int32) {L n : Nat} (hL : L ≤ 3072) (hn : n + 6 ≤ L) : ∃ μ', fn_law_c4 μ xs L (Int32.ofNat n) = some μ' ∧ pv_I μ' := by
  unfold fn_law_c4
  exact pv_fin1 (R := fun m => fn_R_join m ) (pv_join h )
theorem pv_k5 {μ : xs_M} (h : pv_I μ) (xs : Nat → Int32) {L n : Nat} (hL : L ≤ 3072) (hn : n + 6 ≤ L) : ∃ μ', fn_law_c5 μ xs L (Int32.ofNat n) = some μ' ∧ pv_I μ' := by
  unfold fn_law_c5
  exact pv_fin1 (R := fun m => fn_R_push m ) (pv_push h )
theorem pv_k6 {μ : xs_M} (h : pv_I μ) (xs : Nat → Int32) {L n : Nat} (hL : L ≤ 3072) (hn : n + 6 ≤ L) : ∃ μ', fn_law_c6 μ xs L (Int32.ofNat n) = some μ' ∧ pv_I μ' := by
  unfold fn_law_c6
  exact pv_fin1 (R := fun m => fn_R_pop m ) (pv_pop h )
theorem pv_k7 {μ : xs_M} (h : pv_I μ) (xs : Nat → Int32) {L n : Nat} (hL : L ≤ 3072) (hn : n + 6 ≤ L) : ∃ μ', fn_law_c7 μ xs L (Int32.ofNat n) = some μ' ∧ pv_I μ' := by
  unfold fn_law_c7
  simp only [ixa1, ixa2, ix_in (show n + 1 < L by omega) (show L ≤ 2147483648 by omega), ix_in (show n + 2 < L by omega) (show L ≤ 2147483648 by omega), if_true, ix_cl (show n + 1 < 2147483648 by omega), ix_cl (show n + 2 < 2147483648 by omega)]
  exact pv_fin2 (R := fun m => fn_R_entry m (xs (n + 1)) (xs (n + 2))) (pv_entry h (xs (n + 1)) (xs (n + 2)))
theorem pv_k8 {μ : xs_M} (h : pv_I μ) (xs : Nat → Int32) {L n : Nat} (hL : L ≤ 3072) (hn : n + 6 ≤ L) : ∃ μ', fn_law_c8 μ xs L (Int32.ofNat n) = some μ' ∧ pv_I μ' := by
  unfold fn_law_c8
  simp only [ixa1, ixa2, ixa3, ixa4, ixa5, ix_in (show n + 1 < L by omega) (show L ≤ 2147483648 by omega), ix_in (show n + 2 < L by omega) (show L ≤ 2147483648 by omega), ix_in (show n + 3 < L by omega) (show L ≤ 2147483648 by omega), ix_in (show n + 4 < L by omega) (show L ≤ 2147483648 by omega), ix_in (show n + 5 < L by omega) (show L ≤ 2147483648 by omega), if_true, ix_cl (show n + 1 < 2147483648 by omega), ix_cl (show n + 2 < 2147483648 by omega), ix_cl (show n + 3 < 2147483648 by omega), ix_cl (show n + 4 < 2147483648 by omega), ix_cl (show n + 5 < 2147483648 by omega)]
  exact pv_fin2 (R := fun m => fn_R_vertex m (xs (n + 1)) (xs (n + 2)) (xs (n + 3)) (xs (n + 4)) (xs (n + 5))) (pv_vertex h (xs (n + 1)) (xs (n + 2)) (xs (n + 3)) (xs (n + 4)) (xs (n + 5)))
theorem pv_k9 {μ : xs_M} (h : pv_I μ) (xs : Nat → Int32) {L n : Nat} (hL : L ≤ 3072) (hn : n + 6 ≤ L) : ∃ μ', fn_law_c9 μ xs L (Int32.ofNat n) = some μ' ∧ pv_I μ' := by
  unfold fn_law_c9
  simp only [ixa1, ixa2, ixa3, ix_in (show n + 1 < L by omega) (show L ≤ 2147483648 by omega), ix_in (show n + 2 < L by omega) (show L ≤ 2147483648 by omega), ix_in (show n + 3 < L by omega) (show L ≤ 2147483648 by omega), if_true, ix_cl (show n + 1 < 2147483648 by omega), ix_cl (show n + 2 < 2147483648 by omega), ix_cl (show n + 3 < 2147483648 by omega)]
  exact pv_fin4 (R := fun m => fn_R_use m (xs (n + 1)) (xs (n + 2)) (xs (n + 3))) (pv_use h (xs (n + 1)) (xs (n + 2)) (xs (n + 3)))
theorem pv_k10 {μ : xs_M} (h : pv_I μ) (xs : Nat → Int32) {L n : Nat} (hL : L ≤ 3072) (hn : n + 6 ≤ L) : ∃ μ', fn_law_c10 μ xs L (Int32.ofNat n) = some μ' ∧ pv_I μ' := by
  unfold fn_law_c10
  simp only [ixa1, ixa2, ixa3, ixa4, ix_in (show n + 1 < L by omega) (show L ≤ 2147483648 by omega), ix_in (show n + 2 < L by omega) (show L ≤ 2147483648 by omega), ix_in (show n + 3 < L by omega) (show L ≤ 2147483648 by omega), ix_in (show n + 4 < L by omega) (show L ≤ 2147483648 by omega), if_true, ix_cl (show n + 1 < 2147483648 by omega), ix_cl (show n + 2 < 2147483648 by omega), ix_cl (show n + 3 < 2147483648 by omega), ix_cl (show n + 4 < 2147483648 by omega)]
  exact pv_fin2 (R := fun m => fn_R_texel m (xs (n + 1)) (xs (n + 2)) (xs (n + 3)) (xs (n + 4))) (pv_texel h (xs (n + 1)) (xs (n + 2)) (xs (n + 3)) (xs (n + 4)))
theorem pv_k11 {μ : xs_M} (h : pv_I μ) (xs : Nat → Int32) {L n : Nat} (hL : L ≤ 3072) (hn : n + 6 ≤ L) : ∃ μ', fn_law_c11 μ xs L (Int32.ofNat n) = some μ' ∧ pv_I μ' := by
  unfold fn_law_c11
  exact pv_fin4 (R := fun m => fn_R_clear m ) (pv_clear h )
theorem pv_k12 {μ : xs_M} (h : pv_I μ) (xs : Nat → Int32) {L n : Nat} (hL : L ≤ 3072) (hn : n + 6 ≤ L) : ∃ μ', fn_law_c12 μ xs L (Int32.ofNat n) = some μ' ∧ pv_I μ' := by
  unfold fn_law_c12
  simp only [ixa1, ix_in (show n + 1 < L by omega) (show L ≤ 2147483648 by omega), if_true, ix_cl (show n + 1 < 2147483648 by omega)]
  exact pv_fin4 (R := fun m => fn_R_draw m (xs (n + 1))) (pv_draw h (xs (n + 1)))
theorem pv_k13 {μ : xs_M} (h : pv_I μ) (xs : Nat → Int32) {L n : Nat} (hL : L ≤ 3072) (hn : n + 6 ≤ L) : ∃ μ', fn_law_c13 μ xs L (Int32.ofNat n) = some μ' ∧ pv_I μ' := by
  unfold fn_law_c13
  simp only [ixa1, ixa2, ix_in (show n + 1 < L by omega) (show L ≤ 2147483648 by omega), ix_in (show n + 2 < L by omega) (show L ≤ 2147483648 by omega), if_true, ix_cl (show n + 1 < 2147483648 by omega), ix_cl (show n + 2 < 2147483648 by omega)]
  exact pv_fin2 (R := fun m => fn_R_colour m (xs (n + 1)) (xs (n + 2))) (pv_colour h (xs (n + 1)) (xs (n + 2)))
theorem pv_k14 {μ : xs_M} (h : pv_I μ) (xs : Nat → Int32) {L n : Nat} (hL : L ≤ 3072) (hn : n + 6 ≤ L) : ∃ μ', fn_law_c14 μ xs L (Int32.ofNat n) = some μ' ∧ pv_I μ' := by
  unfold fn_law_c14
  simp only [ixa1, ixa2, ix_in (show n + 1 < L by omega) (show L ≤ 2147483648 by omega), ix_in (show n + 2 < L by omega) (show L ≤ 2147483648 by omega), if_true, ix_cl (show n + 1 < 2147483648 by omega), ix_cl (show n + 2 < 2147483648 by omega)]
  exact pv_fin2 (R := fun m => fn_R_owner m (xs (n + 1)) (xs (n + 2))) (pv_owner h (xs (n + 1)) (xs (n + 2)))
theorem pv_k15 {μ : xs_M} (h : pv_I μ) (xs : Nat → Int32) {L n : Nat} (hL : L ≤ 3072) (hn : n + 6 ≤ L) : ∃ μ', fn_law_c15 μ xs L (Int32.ofNat n) = some μ' ∧ pv_I μ' := by
  unfold fn_law_c15
  simp only [ixa1, ixa2, ixa3, ixa4, ix_in (show n + 1 < L by omega) (show L ≤ 2147483648 by omega), ix_in (show n + 2 < L by omega) (show L ≤ 2147483648 by omega), ix_in (show n + 3 < L by omega) (show L ≤ 2147483648 by omega), ix_in (show n + 4 < L by omega) (show L ≤ 2147483648 by omega), if_true, ix_cl (show n + 1 < 2147483648 by omega), ix_cl (show n + 2 < 2147483648 by omega), ix_cl (show n + 3 < 2147483648 by omega), ix_cl (show n + 4 < 2147483648 by omega)]
  exact pv_fin2 (R := fun m => fn_R_compare m (xs (n + 1)) (xs (n + 2)) (xs (n + 3)) (xs (n + 4))) (pv_compare h (xs (n + 1)) (xs (n + 2)) (xs (n + 3)) (xs (n + 4)))
theorem pv_k16 {μ : xs_M} (h : pv_I μ) (xs : Nat → Int32) {L n : Nat} (hL : L ≤ 3072) (hn : n + 6 ≤ L) : ∃ μ', fn_law_c16 μ xs L (Int32.ofNat n) = some μ' ∧ pv_I μ' := by
  unfold fn_law_c16
  simp only [ixa1, ixa2, ix_in (show n + 1 < L by omega) (show L ≤ 2147483648 by omega), ix_in (show n + 2 < L by omega) (show L ≤ 2147483648 by omega), if_true, ix_cl (show n + 1 < 2147483648 by omega), ix_cl (show n + 2 < 2147483648 by omega)]
  exact pv_fin3 (R := fun m => fn_R_depth m (xs (n + 1)) (xs (n + 2))) (pv_depth h (xs (n + 1)) (xs (n + 2)))
theorem pv_k17 {μ : xs_M} (h : pv_I μ) (xs : Nat → Int32) {L n : Nat} (hL : L ≤ 3072) (hn : n + 6 ≤ L) : ∃ μ', fn_law_c17 μ xs L (Int32.ofNat n) = some μ' ∧ pv_I μ' := by
  unfold fn_law_c17
  simp only [ixa1, ixa2, ix_in (show n + 1 < L by omega) (show L ≤ 2147483648 by omega), ix_in (show n + 2 < L by omega) (show L ≤ 2147483648 by omega), if_true, ix_cl (show n + 1 < 2147483648 by omega), ix_cl (show n + 2 < 2147483648 by omega)]
  exact pv_fin3 (R := fun m => fn_R_triangle m (xs (n + 1)) (xs (n + 2))) (pv_triangle h (xs (n + 1)) (xs (n + 2)))
theorem pv_case {μ : xs_M} (h : pv_I μ) (x : Int32) (xs : Nat → Int32) {L n : Nat} (hL : L ≤ 3072) (hn : n + 6 ≤ L) : ∃ μ', fn_law_case x μ xs L (Int32.ofNat n) = some μ' ∧ pv_I μ' := by
  unfold fn_law_case
  by_cases c0 : x = 0
  · rw [if_pos c0]; exact pv_k0 h xs hL hn
  rw [if_neg c0]
  by_cases c1 : x = 1
  · rw [if_pos c1]; exact pv_k1 h xs hL hn
  rw [if_neg c1]
  by_cases c2 : x = 2
  · rw [if_pos c2]; exact pv_k2 h xs hL hn
  rw [if_neg c2]
  by_cases c3 : x = 3
  · rw [if_pos c3]; exact pv_k3 h xs hL hn
  rw [if_neg c3]
  by_cases c4 : x = 4
  · rw [if_pos c4]; exact pv_k4 h xs hL hn
  rw [if_neg c4]
  by_cases c5 : x = 5
  · rw [if_pos c5]; exact pv_k5 h xs hL hn
  rw [if_neg c5]
  by_cases c6 : x = 6
  · rw [if_pos c6]; exact pv_k6 h xs hL hn
  rw [if_neg c6]
  by_cases c7 : x = 7
  · rw [if_pos c7]; exact pv_k7 h xs hL hn
  rw [if_neg c7]
  by_cases c8 : x = 8
  · rw [if_pos c8]; exact pv_k8 h xs hL hn
  rw [if_neg c8]
  by_cases c9 : x = 9
  · rw [if_pos c9]; exact pv_k9 h xs hL hn
  rw [if_neg c9]
  by_cases c10 : x = 10
  · rw [if_pos c10]; exact pv_k10 h xs hL hn
  rw [if_neg c10]
  by_cases c11 : x = 11
  · rw [if_pos c11]; exact pv_k11 h xs hL hn
  rw [if_neg c11]
  by_cases c12 : x = 12
  · rw [if_pos c12]; exact pv_k12 h xs hL hn
  rw [if_neg c12]
  by_cases c13 : x = 13
  · rw [if_pos c13]; exact pv_k13 h xs hL hn
  rw [if_neg c13]
  by_cases c14 : x = 14
  · rw [if_pos c14]; exact pv_k14 h xs hL hn
  rw [if_neg c14]
  by_cases c15 : x = 15
  · rw [if_pos c15]; exact pv_k15 h xs hL hn
  rw [if_neg c15]
  by_cases c16 : x = 16
  · rw [if_pos c16]; exact pv_k16 h xs hL hn
  rw [if_neg c16]
  by_cases c17 : x = 17
  · rw [if_pos c17]; exact pv_k17 h xs hL hn
  rw [if_neg c17]
  exact ⟨μ, rfl, h⟩
theorem pv_law_n (xs : Nat → Int32) {L : Nat} (hL : L ≤ 3072) : ∀ (fu n : Nat) (μ : xs_M), n < L + 6 → L + 6 ≤ n + 6 * fu → pv_I μ → fn_law fu μ xs L (Int32.ofNat n) = some () := by
  intro fu
  induction fu with
  | zero => intro n μ h1 h2 _; omega
  | succ fu ih =>
    intro n μ h1 h2 h
    have e : (Int32.ofNat L - 6).toInt = L - 6 := by
      rw [Int32.toInt_sub, ix_ti (by omega)]; exact pn_bm32 (by show -2147483648 ≤ (L : Int) - 6; omega) (by show (L : Int) - 6 < 2147483648; omega)
    rw [fn_law]
    by_cases c : Int32.ofNat L - 6 < Int32.ofNat n
    · rw [if_pos c]
    · rw [if_neg c]
      rw [Int32.lt_iff_toInt_lt, e, ix_ti (by omega)] at c
      have hn : n + 6 ≤ L := by omega
      obtain ⟨μ', k1, k2⟩ := pv_case h (xs (Int32.ofNat n).toNatClampNeg &&& 31) xs hL hn
      rw [if_pos (ix_in (by omega) (by omega)), k1, Option.bind_some, show Int32.ofNat n + 6 = Int32.ofNat (n + 6) from ix_add n 6]
      exact ih (n + 6) μ' (by omega) (by omega) k2
theorem pv_law {μ : xs_M} (h : pv_I μ) (xs : Nat → Int32) {L : Nat} (hL : L ≤ 3072) : fn_law 1000 μ xs L 0 = some () :=
  pv_law_n xs hL 1000 0 μ (by omega) (by omega) h
