/-! push, pop, turn -/
theorem pv_neg511 {x : Int32} (h : pv_b 511 x) : pv_b 511 (-x) := by
  obtain ⟨h1, h2⟩ := h
  have e : (-x).toInt = -x.toInt := by rw [Int32.toInt_neg]; exact pn_bm32 (by omega) (by omega)
  exact ⟨by rw [e]; omega, by rw [e]; omega⟩
theorem pv_end {N : Nat} : Int32.ofNat N ≤ Int32.ofNat N := by rw [Int32.le_iff_toInt_le]; omega
theorem pv_nle {n N : Nat} (h : n < N) (hN : N < 2147483648) : ¬ Int32.ofNat N ≤ Int32.ofNat n := by rw [ix_le hN (by omega)]; omega
theorem pv_e3 : (3 : Int32) ≤ Int32.ofNat 3 := pv_end (N := 3)
theorem pv_e4 : (4 : Int32) ≤ Int32.ofNat 4 := pv_end (N := 4)
theorem pv_e12 : (12 : Int32) ≤ Int32.ofNat 12 := pv_end (N := 12)
theorem pv_e16 : (16 : Int32) ≤ Int32.ofNat 16 := pv_end (N := 16)
theorem pv_e192 : (192 : Int32) ≤ Int32.ofNat 192 := pv_end (N := 192)
theorem pv_n3 {n : Nat} (h : n < 3) : ¬ (3 : Int32) ≤ Int32.ofNat n := pv_nle (N := 3) h (by decide)
theorem pv_n4 {n : Nat} (h : n < 4) : ¬ (4 : Int32) ≤ Int32.ofNat n := pv_nle (N := 4) h (by decide)
theorem pv_n12 {n : Nat} (h : n < 12) : ¬ (12 : Int32) ≤ Int32.ofNat n := pv_nle (N := 12) h (by decide)
theorem pv_n16 {n : Nat} (h : n < 16) : ¬ (16 : Int32) ≤ Int32.ofNat n := pv_nle (N := 16) h (by decide)
theorem pv_n192 {n : Nat} (h : n < 192) : ¬ (192 : Int32) ≤ Int32.ofNat n := pv_nle (N := 192) h (by decide)
theorem pv_ag.tr' {S : List Nat} {a b c : xs_M} (h : pv_ag S a b) (h2 : pv_ag S b c) : pv_ag S a c :=
  ⟨fun i hi => (h2.1 i hi).trans (h.1 i hi), fun i hi => (h2.2 i hi).trans (h.2 i hi)⟩
def pv_SM : List Nat := [1, 2, 3, 4, 5, 154, 155, 156, 157, 171]
theorem pv_I.rbM {μ μ' : xs_M} (h : pv_I μ) (ha : pv_ag pv_SM μ μ') (h5 : μ'.1 154 5 = μ.1 154 5) (h6 : μ'.1 154 6 = μ.1 154 6) (h7 : μ'.1 154 7 = μ.1 154 7) (h9 : μ'.1 154 9 = μ.1 154 9) (mat : pv_mat (μ'.1 2) (μ'.1 155)) (pile : pv_pile (μ'.1 3) (μ'.1 157)) (saved : pv_num 4 (μ'.1 1 4) (μ'.1 154 4)) : pv_I μ' := by
  obtain ⟨tc, ct, hc⟩ := h.cnt
  refine pv_I.mk mat pile saved ?_ ?_ ?_ ?_ ⟨tc, ct, hc.fr ?_ ?_ (ha.1 159 (by decide)) (ha.1 160 (by decide)) (ha.1 161 (by decide)) (ha.1 162 (by decide))⟩ ?_
  · rw [ha.1 0 (by decide), h5]; exact h.use1
  · rw [ha.1 0 (by decide), h6]; exact h.use2
  · rw [ha.1 0 (by decide), h7]; exact h.use3
  · rw [ha.1 7 (by decide), ha.1 158 (by decide)]; exact h.tex
  · rw [ha.1 0 (by decide)]; exact ⟨rfl, rfl, h9⟩
  · intro i h1 h2
    have : i ∉ pv_SM := by unfold pv_SM; simp; omega
    exact ⟨ha.1 i this, ha.2 i this⟩
  · rw [ha.1 9 (by decide), ha.1 10 (by decide), ha.2 11 (by decide), ha.2 12 (by decide), ha.1 168 (by decide), ha.1 167 (by decide), ha.2 169 (by decide), ha.2 170 (by decide)]; exact h.pic
theorem pv_pushL {μ : xs_M} {n : Nat} (hn : n < 4) (h4 : μ.1 154 4 = Int32.ofNat n) : ∃ a, fn_R_push_L26 xs_FU μ 0 = some (16, a) ∧ pv_ag [157] μ a ∧ ∀ j, a.1 157 j = if 16 * n ≤ j ∧ j < 16 * n + 16 then μ.1 155 (j - 16 * n) else μ.1 157 j := by
  obtain ⟨a, h1, h2⟩ := ix_for (fun fu a v => fn_R_push_L26 fu a v) (fun k a => pv_ag [157] μ a ∧ ∀ j, a.1 157 j = if 16 * n ≤ j ∧ j < 16 * n + k then μ.1 155 (j - 16 * n) else μ.1 157 j) 16 (fun a => some (16, a)) μ (by omega)
    ⟨pv_ag.rf _ _, fun j => by rw [if_neg (by omega)]⟩
    (fun fu a h => by show fn_R_push_L26 (fu + 1) a (Int32.ofNat 16) = _; rw [fn_R_push_L26, if_pos pv_e16]; rfl)
    (fun k a hk h => by
      refine ⟨xs_si a 157 (16 * n + k) (μ.1 155 k), fun fu => ?_, h.1.si (by simp) _ _, fun j => ?_⟩
      · show fn_R_push_L26 (fu + 1) a (Int32.ofNat k) = _
        rw [fn_R_push_L26, if_neg (pv_n16 hk), h.1.1 154 (by decide), h.1.1 155 (by decide), h4]
        simp only [ixm16, ix_add, ix_in (show k < 16 by omega) (by omega), ix_in (show 16 * n + k < 64 by omega) (by omega), if_true, ix_cl (show k < 2147483648 by omega), ix_cl (show 16 * n + k < 2147483648 by omega), Option.bind_some, ixa1]
      · rw [si_same, h.2 j]
        by_cases e : j = 16 * n + k
        · rw [if_pos e, if_pos (by omega), show j - 16 * n = k by omega]
        · rw [if_neg e]
          by_cases e2 : 16 * n ≤ j ∧ j < 16 * n + k
          · rw [if_pos e2, if_pos (by omega)]
          · rw [if_neg e2, if_neg (by omega)])
  exact ⟨a, h1, h2⟩
theorem pv_popL {μ : xs_M} {n : Nat} (hn : n < 4) (h4 : μ.1 154 4 = Int32.ofNat n) : ∃ a, fn_R_pop_L35 xs_FU μ 0 = some (16, a) ∧ pv_ag [155] μ a ∧ ∀ j, j < 16 → a.1 155 j = μ.1 157 (16 * n + j) := by
  obtain ⟨a, h1, h2⟩ := ix_for (fun fu a v => fn_R_pop_L35 fu a v) (fun k a => pv_ag [155] μ a ∧ ∀ j, j < k → a.1 155 j = μ.1 157 (16 * n + j)) 16 (fun a => some (16, a)) μ (by omega)
    ⟨pv_ag.rf _ _, fun j hj => absurd hj (by omega)⟩
    (fun fu a h => by show fn_R_pop_L35 (fu + 1) a (Int32.ofNat 16) = _; rw [fn_R_pop_L35, if_pos pv_e16]; rfl)
    (fun k a hk h => by
      refine ⟨xs_si a 155 k (μ.1 157 (16 * n + k)), fun fu => ?_, h.1.si (by simp) _ _, fun j hj => ?_⟩
      · show fn_R_pop_L35 (fu + 1) a (Int32.ofNat k) = _
        rw [fn_R_pop_L35, if_neg (pv_n16 hk), h.1.1 154 (by decide), h.1.1 157 (by decide), h4]
        simp only [ixm16, ix_add, ix_in (show k < 16 by omega) (by omega), ix_in (show 16 * n + k < 64 by omega) (by omega), if_true, ix_cl (show k < 2147483648 by omega), ix_cl (show 16 * n + k < 2147483648 by omega), Option.bind_some, ixa1]
      · rw [si_same]
        by_cases e : j = k
        · rw [if_pos e, e]
        · rw [if_neg e]; exact h.2 j (by omega))
  exact ⟨a, h1, h2⟩
theorem pv_push {μ : xs_M} (h : pv_I μ) : ∃ r μ1 μ2, fn_L_push μ = some (r, μ1) ∧ fn_R_push μ1 = some μ2 ∧ μ2.1 154 0 = r ∧ pv_I μ2 := by
  obtain ⟨n, hn, e1, e2⟩ := h.saved
  by_cases h4 : n = 4
  · subst h4
    have e4 : Int32.ofNat 4 = 4 := rfl
    refine ⟨1, μ, xs_si μ 154 0 1, ?_, ?_, rfl, h.code 1⟩
    · simp only [fn_L_push, fn_S_push, fn_M_isPileFull]
      rw [e1, if_pos e4]; rfl
    · unfold fn_R_push
      rw [e2, if_pos e4]; rfl
  · have hne : ¬ Int32.ofNat n = 4 := fun q => h4 ((ix_inj (b := 4) (by omega) (by omega)).mp q)
    obtain ⟨μ1, hμ1⟩ : ∃ μ1, μ1 = xs_si (xs_sa μ 3 (va_cpy (μ.1 2) (μ.1 3) 0 (16 * n) 16)) 1 4 (Int32.ofNat (n + 1)) := ⟨_, rfl⟩
    have hL : fn_L_push μ = some (0, μ1) := by
      simp only [fn_L_push, fn_S_push, fn_M_isPileFull]
      rw [e1, if_neg hne, Option.bind_some, if_pos rfl]
      unfold fn_M_save
      rw [if_pos (by rw [e1, ixm16', ix_cl (by omega)]; refine ⟨by decide, ix_nn (by omega), by decide, by decide, ?_⟩; rw [show (16 : Int32).toNatClampNeg = 16 by decide]; omega)]
      simp only [Option.bind_some]
      rw [show ((xs_sa μ 3 (va_cpy (μ.1 2) (μ.1 3) (0 : Int32).toNatClampNeg ((μ.1 1 4) * (16 : Int32)).toNatClampNeg (16 : Int32).toNatClampNeg)).1 1 4) = μ.1 1 4 from rfl]
      rw [e1, ixm16', ix_cl (by omega), ixa1, show (16 : Int32).toNatClampNeg = 16 by decide, show (0 : Int32).toNatClampNeg = 0 by decide, hμ1]
      rfl
    have k4 : (xs_si μ1 154 0 0).1 154 4 = Int32.ofNat n := by rw [hμ1]; exact e2
    obtain ⟨a, a1, a2, a3⟩ := pv_pushL (μ := xs_si μ1 154 0 0) (n := n) (by omega) k4
    have a154 : a.1 154 = (xs_si μ1 154 0 0).1 154 := a2.1 154 (by decide)
    have ag : pv_ag pv_SM μ (xs_si a 154 4 (Int32.ofNat (n + 1))) := by
      refine pv_ag.si (pv_ag.tr' (b := xs_si μ1 154 0 0) ?_ (a2.mono (by decide))) (by decide) _ _
      rw [hμ1]
      exact (((pv_ag.rf _ _).sa (by decide) _).si (by decide) _ _).si (by decide) _ _
    have s154 : ∀ j, j ≠ 4 → j ≠ 0 → (xs_si a 154 4 (Int32.ofNat (n + 1))).1 154 j = μ.1 154 j := by
      intro j q1 q2
      rw [si_same, if_neg q1, a154, si_same, if_neg q2, hμ1, si_ne _ _ _ (by decide), sa_ne _ _ (by decide)]
    refine ⟨0, μ1, xs_si a 154 4 (Int32.ofNat (n + 1)), hL, ?_, ?_, h.rbM ag (s154 5 (by decide) (by decide)) (s154 6 (by decide) (by decide)) (s154 7 (by decide) (by decide)) (s154 9 (by decide) (by decide)) ?_ ?_ ⟨n + 1, by omega, ?_, ?_⟩⟩
    · unfold fn_R_push
      rw [if_neg (by rw [hμ1]; rw [show (xs_si (xs_sa μ 3 (va_cpy (μ.1 2) (μ.1 3) 0 (16 * n) 16)) 1 4 (Int32.ofNat (n + 1))).1 154 4 = μ.1 154 4 from rfl, e2]; exact hne), Option.bind_some, a1]
      simp only [Option.bind_some]
      rw [a154, k4, ixa1]
    · rw [si_same, if_neg (by decide), a154]; rfl
    · rw [si_ne _ _ _ (by decide), si_ne _ _ _ (by decide), a2.1 2 (by decide), a2.1 155 (by decide), hμ1]
      exact h.mat
    · intro j hj
      rw [si_ne _ _ _ (by decide), si_ne _ _ _ (by decide), a3 j, a2.1 3 (by decide), hμ1]
      show va_cpy (μ.1 2) (μ.1 3) 0 (16 * n) 16 j = (if 16 * n ≤ j ∧ j < 16 * n + 16 then μ.1 155 (j - 16 * n) else μ.1 157 j) ∧ pv_b 511 (va_cpy (μ.1 2) (μ.1 3) 0 (16 * n) 16 j)
      unfold va_cpy
      by_cases e : 16 * n ≤ j ∧ j < 16 * n + 16
      · rw [if_pos e, if_pos e, Nat.zero_add]; exact h.mat _ (by omega)
      · rw [if_neg e, if_neg e]; exact h.pile _ (by omega)
    · rw [si_ne _ _ _ (by decide), a2.1 1 (by decide), hμ1]; rfl
    · rw [si_same, if_pos rfl]
theorem pv_pop {μ : xs_M} (h : pv_I μ) : ∃ r μ1 μ2, fn_L_pop μ = some (r, μ1) ∧ fn_R_pop μ1 = some μ2 ∧ μ2.1 154 0 = r ∧ pv_I μ2 := by
  obtain ⟨n, hn, e1, e2⟩ := h.saved
  by_cases h4 : n = 0
  · subst h4
    have e4 : Int32.ofNat 0 = 0 := rfl
    refine ⟨1, μ, xs_si μ 154 0 1, ?_, ?_, rfl, h.code 1⟩
    · simp only [fn_L_pop, fn_S_pop, fn_M_isPileEmpty]
      rw [e1, if_pos e4]; rfl
    · unfold fn_R_pop
      rw [e2, if_pos e4]; rfl
  · have hne : ¬ Int32.ofNat n = 0 := fun q => h4 ((ix_inj (b := 0) (by omega) (by omega)).mp q)
    have hs1 : Int32.ofNat n - 1 = Int32.ofNat (n - 1) := ix_sub (b := 1) (by omega)
    obtain ⟨μ1, hμ1⟩ : ∃ μ1, μ1 = xs_sa (xs_si μ 1 4 (Int32.ofNat (n - 1))) 2 (va_cpy (μ.1 3) (μ.1 2) (16 * (n - 1)) 0 16) := ⟨_, rfl⟩
    have hL : fn_L_pop μ = some (0, μ1) := by
      simp only [fn_L_pop, fn_S_pop, fn_M_isPileEmpty]
      rw [e1, if_neg hne, Option.bind_some, if_pos rfl]
      unfold fn_M_restore
      rw [Option.bind_some, e1, hs1, show (xs_si μ 1 4 (Int32.ofNat (n - 1))).1 1 4 = Int32.ofNat (n - 1) from rfl, ixm16']
      rw [if_pos (by rw [ix_cl (by omega)]; refine ⟨ix_nn (by omega), by decide, by decide, ?_, by decide⟩; rw [show (16 : Int32).toNatClampNeg = 16 by decide]; omega)]
      rw [ix_cl (by omega), show (16 : Int32).toNatClampNeg = 16 by decide, show (0 : Int32).toNatClampNeg = 0 by decide, hμ1]
      rfl
    have k4 : (xs_si (xs_si μ1 154 0 0) 154 4 (Int32.ofNat (n - 1))).1 154 4 = Int32.ofNat (n - 1) := by rw [si_same, if_pos rfl]
    obtain ⟨a, a1, a2, a3⟩ := pv_popL (μ := xs_si (xs_si μ1 154 0 0) 154 4 (Int32.ofNat (n - 1))) (n := n - 1) (by omega) k4
    have a154 : a.1 154 = (xs_si (xs_si μ1 154 0 0) 154 4 (Int32.ofNat (n - 1))).1 154 := a2.1 154 (by decide)
    have ag : pv_ag pv_SM μ a := by
      refine pv_ag.tr' (b := xs_si (xs_si μ1 154 0 0) 154 4 (Int32.ofNat (n - 1))) ?_ (a2.mono (by decide))
      rw [hμ1]
      exact ((((pv_ag.rf _ _).si (by decide) _ _).sa (by decide) _).si (by decide) _ _).si (by decide) _ _
    have s154 : ∀ j, j ≠ 4 → j ≠ 0 → a.1 154 j = μ.1 154 j := by
      intro j q1 q2
      rw [a154, si_same, if_neg q1, si_same, if_neg q2, hμ1, sa_ne _ _ (by decide), si_ne _ _ _ (by decide)]
    refine ⟨0, μ1, a, hL, ?_, ?_, h.rbM ag (s154 5 (by decide) (by decide)) (s154 6 (by decide) (by decide)) (s154 7 (by decide) (by decide)) (s154 9 (by decide) (by decide)) ?_ ?_ ⟨n - 1, by omega, ?_, ?_⟩⟩
    · unfold fn_R_pop
      rw [show μ1.1 154 4 = μ.1 154 4 by rw [hμ1]; rfl, e2, if_neg hne, Option.bind_some, show (xs_si μ1 154 0 0).1 154 4 = μ.1 154 4 by rw [hμ1]; rfl, e2, hs1, Option.bind_some, a1]
      rfl
    · rw [a154]; rfl
    · intro j hj
      rw [a3 j hj, a2.1 2 (by decide), hμ1]
      show va_cpy (μ.1 3) (μ.1 2) (16 * (n - 1)) 0 16 j = μ.1 157 (16 * (n - 1) + j) ∧ pv_b 511 (va_cpy (μ.1 3) (μ.1 2) (16 * (n - 1)) 0 16 j)
      unfold va_cpy
      rw [if_pos (by omega), Nat.sub_zero]
      exact h.pile _ (by omega)
    · rw [a2.1 3 (by decide), a2.1 157 (by decide), hμ1]; exact h.pile
    · rw [a2.1 1 (by decide), hμ1]; rfl
    · rw [a154, k4]
/-- a quarter turn of one cell's sixteen -/
def pv_T (k m : Nat) (f : Nat → Int32) (j : Nat) : Int32 := if j % 4 = k then f (j / 4 * 4 + m) else if j % 4 = m then -f (j / 4 * 4 + k) else f j
theorem pv_T_step {k m r : Nat} (hk : k < 4) (hm : m < 4) (hkm : k ≠ m) {f g : Nat → Int32} (h : ∀ j, j < 16 → g j = if j / 4 < r then pv_T k m f j else f j) (hr : r < 4) (j : Nat) (hj : j < 16) :
    upd (upd g (4 * r + k) (g (4 * r + m))) (4 * r + m) (-g (4 * r + k)) j = if j / 4 < r + 1 then pv_T k m f j else f j := by
  unfold upd
  by_cases e1 : j = 4 * r + m
  · rw [if_pos e1, if_pos (by omega), h _ (by omega), if_neg (by omega)]
    unfold pv_T
    rw [if_neg (by omega), if_pos (by omega), show j / 4 * 4 + k = 4 * r + k by omega]
  · rw [if_neg e1]
    by_cases e2 : j = 4 * r + k
    · rw [if_pos e2, if_pos (by omega), h _ (by omega), if_neg (by omega)]
      unfold pv_T
      rw [if_pos (by omega), show j / 4 * 4 + m = 4 * r + m by omega]
    · rw [if_neg e2, h j hj]
      by_cases e3 : j / 4 < r
      · rw [if_pos e3, if_pos (by omega)]
      · rw [if_neg e3]
        by_cases e4 : j / 4 < r + 1
        · rw [if_pos e4]
          unfold pv_T
          rw [if_neg (by omega), if_neg (by omega)]
        · rw [if_neg e4]
theorem pv_turnC (μ : xs_M) {k m : Nat} (hk : k < 4) (hm : m < 4) (hkm : k ≠ m) : ∃ a, fn_M_quarterTurn_L2 xs_FU μ (Int32.ofNat k) (Int32.ofNat m) 0 = some (4, a) ∧ pv_ag [2] μ a ∧ ∀ j, j < 16 → a.1 2 j = pv_T k m (μ.1 2) j := by
  obtain ⟨a, h1, h2, h3⟩ := ix_for (fun fu a v => fn_M_quarterTurn_L2 fu a (Int32.ofNat k) (Int32.ofNat m) v) (fun r a => pv_ag [2] μ a ∧ ∀ j, j < 16 → a.1 2 j = if j / 4 < r then pv_T k m (μ.1 2) j else μ.1 2 j) 4 (fun a => some (4, a)) μ (by omega)
    ⟨pv_ag.rf _ _, fun j hj => by rw [if_neg (by omega)]⟩
    (fun fu a h => by show fn_M_quarterTurn_L2 (fu + 1) a _ _ (Int32.ofNat 4) = _; rw [fn_M_quarterTurn_L2, if_pos pv_e4]; rfl)
    (fun r a hr h => by
      refine ⟨xs_si (xs_si a 2 (4 * r + k) (a.1 2 (4 * r + m))) 2 (4 * r + m) (-a.1 2 (4 * r + k)), fun fu => ?_, (h.1.si (by simp) _ _).si (by simp) _ _, fun j hj => ?_⟩
      · show fn_M_quarterTurn_L2 (fu + 1) a _ _ (Int32.ofNat r) = _
        rw [fn_M_quarterTurn_L2, if_neg (pv_n4 hr)]
        simp only [ixm4', ix_add, ix_in (show 4 * r + k < 16 by omega) (by omega), ix_in (show 4 * r + m < 16 by omega) (by omega), if_true, ix_cl (show 4 * r + k < 2147483648 by omega), ix_cl (show 4 * r + m < 2147483648 by omega), Option.bind_some, ixa1]
      · rw [← pv_T_step hk hm hkm h.2 hr j hj]
        simp only [si_same]
        rfl)
  exact ⟨a, h1, h2, fun j hj => by rw [h3 j hj, if_pos (by omega)]⟩
theorem pv_turnR (μ : xs_M) (x : Int32) (h0 : μ.1 154 0 = 0) {k m : Nat} (hk : k < 4) (hm : m < 4) (hkm : k ≠ m) : ∃ a, fn_R_turn_L59 xs_FU μ x (Int32.ofNat k) (Int32.ofNat m) 0 = some (4, a) ∧ pv_ag [155] μ a ∧ ∀ j, j < 16 → a.1 155 j = pv_T k m (μ.1 155) j := by
  obtain ⟨a, h1, h2, h3⟩ := ix_for (fun fu a v => fn_R_turn_L59 fu a x (Int32.ofNat k) (Int32.ofNat m) v) (fun r a => pv_ag [155] μ a ∧ ∀ j, j < 16 → a.1 155 j = if j / 4 < r then pv_T k m (μ.1 155) j else μ.1 155 j) 4 (fun a => some (4, a)) μ (by omega)
    ⟨pv_ag.rf _ _, fun j hj => by rw [if_neg (by omega)]⟩
    (fun fu a h => by show fn_R_turn_L59 (fu + 1) a _ _ _ (Int32.ofNat 4) = _; rw [fn_R_turn_L59, if_pos pv_e4]; rfl)
    (fun r a hr h => by
      refine ⟨xs_si (xs_si a 155 (4 * r + k) (a.1 155 (4 * r + m))) 155 (4 * r + m) (-a.1 155 (4 * r + k)), fun fu => ?_, (h.1.si (by simp) _ _).si (by simp) _ _, fun j hj => ?_⟩
      · show fn_R_turn_L59 (fu + 1) a _ _ _ (Int32.ofNat r) = _
        rw [fn_R_turn_L59, if_neg (pv_n4 hr), if_pos (by rw [h.1.1 154 (by decide)]; exact h0)]
        simp only [ixm4, ix_add, ix_in (show 4 * r + k < 16 by omega) (by omega), ix_in (show 4 * r + m < 16 by omega) (by omega), if_true, ix_cl (show 4 * r + k < 2147483648 by omega), ix_cl (show 4 * r + m < 2147483648 by omega), Option.bind_some, ixa1]
      · rw [← pv_T_step hk hm hkm h.2 hr j hj]
        simp only [si_same]
        rfl)
  exact ⟨a, h1, h2, fun j hj => by rw [h3 j hj, if_pos (by omega)]⟩
theorem pv_turn_mid {μ : xs_M} (h : pv_I μ) {x : Int32} {k m : Nat} (hk : k < 4) (hm : m < 4) (hkm : k ≠ m) (hS : fn_S_turn μ x = (fn_M_quarterTurn μ (Int32.ofNat k) (Int32.ofNat m)).bind fun w2 => some (.inl w2)) (hR : ∀ μ1, fn_R_turn μ1 x = (fn_R_turn_L59 xs_FU (xs_si μ1 154 0 0) x (Int32.ofNat k) (Int32.ofNat m) 0).bind fun z => some z.2) : ∃ r μ1 μ2, fn_L_turn μ x = some (r, μ1) ∧ fn_R_turn μ1 x = some μ2 ∧ μ2.1 154 0 = r ∧ pv_I μ2 := by
  obtain ⟨b, b1, b2, b3⟩ := pv_turnC μ hk hm hkm
  obtain ⟨a, a1, a2, a3⟩ := pv_turnR (xs_si b 154 0 0) x (by rw [si_same, if_pos rfl]) hk hm hkm
  have a154 : a.1 154 = (xs_si b 154 0 0).1 154 := a2.1 154 (by decide)
  have s154 : ∀ j, j ≠ 0 → a.1 154 j = μ.1 154 j := by
    intro j q2
    rw [a154, si_same, if_neg q2, b2.1 154 (by decide)]
  refine ⟨0, b, a, ?_, ?_, ?_, h.rbM (pv_ag.tr' (pv_ag.si (b2.mono (by decide)) (by decide) _ _) (a2.mono (by decide))) (s154 5 (by decide)) (s154 6 (by decide)) (s154 7 (by decide)) (s154 9 (by decide)) ?_ ?_ ?_⟩
  · unfold fn_L_turn
    rw [hS]
    unfold fn_M_quarterTurn
    rw [b1]; rfl
  · rw [hR, a1]; rfl
  · rw [a154]; rfl
  · intro j hj
    rw [a3 j hj, a2.1 2 (by decide), si_ne _ _ _ (by decide), si_ne _ _ _ (by decide), b3 j hj, b2.1 155 (by decide)]
    unfold pv_T
    by_cases e1 : j % 4 = k
    · rw [if_pos e1, if_pos e1]; exact h.mat _ (by omega)
    · rw [if_neg e1, if_neg e1]
      by_cases e2 : j % 4 = m
      · rw [if_pos e2, if_pos e2, (h.mat (j / 4 * 4 + k) (by omega)).1]
        refine ⟨rfl, pv_neg511 ?_⟩
        rw [← (h.mat (j / 4 * 4 + k) (by omega)).1]
        exact (h.mat _ (by omega)).2
      · rw [if_neg e2, if_neg e2]; exact h.mat _ hj
  · rw [a2.1 3 (by decide), a2.1 157 (by decide), si_ne _ _ _ (by decide), si_ne _ _ _ (by decide), b2.1 3 (by decide), b2.1 157 (by decide)]; exact h.pile
  · rw [a2.1 1 (by decide), si_ne _ _ _ (by decide), b2.1 1 (by decide), s154 4 (by decide)]; exact h.saved
theorem pv_turn {μ : xs_M} (h : pv_I μ) (x : Int32) : ∃ r μ1 μ2, fn_L_turn μ x = some (r, μ1) ∧ fn_R_turn μ1 x = some μ2 ∧ μ2.1 154 0 = r ∧ pv_I μ2 := by
  by_cases c0 : x < 0 ∨ 2 < x
  · have hL : fn_L_turn μ x = some (1, μ) := by
      simp only [fn_L_turn, fn_S_turn, pv_within, Option.bind_some, if_pos c0, if_true]; rfl
    refine ⟨1, μ, xs_si μ 154 0 1, hL, ?_, rfl, h.code 1⟩
    have e : ∀ y k m, fn_R_turn_L59 xs_FU (xs_si μ 154 0 1) y k m 0 = some (0, xs_si μ 154 0 1) := by
      intro y k m
      rw [show xs_FU = 999 + 1 from rfl, fn_R_turn_L59, if_neg (by decide), if_neg (by rw [si_same, if_pos rfl]; decide)]
    have hx : ∀ c : Prop, (x < 0 → c) → (2 < x → ¬ x < 0 → c) → c := fun c a b => by
      by_cases q : x < 0
      · exact a q
      · exact b (c0.resolve_left q) q
    unfold fn_R_turn
    apply hx
    · intro q
      rw [if_pos q, Option.bind_some]
      simp only [e, Option.bind_some, ite_self]
    · intro q1 q2
      rw [if_neg q2, if_neg (fun q => (pv_lec.mpr q) q1), Option.bind_some]
      simp only [e, Option.bind_some, ite_self]
  · have c01 : ¬ x < 0 := fun q => c0 (Or.inl q)
    have c02 : ¬ 2 < x := fun q => c0 (Or.inr q)
    obtain ⟨n, hn, rfl⟩ := ix_ex (m := 2) (by omega) c01 c02
    have hn3 : n = 0 ∨ n = 1 ∨ n = 2 := by omega
    rcases hn3 with rfl | rfl | rfl
    · exact pv_turn_mid h (k := 1) (m := 2) (by decide) (by decide) (by decide) rfl (fun _ => rfl)
    · exact pv_turn_mid h (k := 2) (m := 0) (by decide) (by decide) (by decide) rfl (fun _ => rfl)
    · exact pv_turn_mid h (k := 0) (m := 1) (by decide) (by decide) (by decide) rfl (fun _ => rfl)
