/-! move, stretch, join -/
theorem pv_pj4 (f : Nat → Int32) (s : Nat) (g : Nat → Int32) {r c : Nat} (hc : c < 4) : pv_pj f s g (4 * r + c) = (((0 + (f (s + 4 * r)).toInt64 * (g c).toInt64) + (f (s + 4 * r + 1)).toInt64 * (g (4 + c)).toInt64) + (f (s + 4 * r + 2)).toInt64 * (g (8 + c)).toInt64) + (f (s + 4 * r + 3)).toInt64 * (g (12 + c)).toInt64 := by
  rw [pv_pj_rc _ _ _ hc]
  simp only [pv_ps, Nat.mul_zero, Nat.zero_add, Nat.add_zero, Nat.mul_one]
def pv_mv (x0 x1 x2 : Int32) (f : Nat → Int32) (r : Nat) : Int64 := ((x0.toInt64 * (f (4 * r)).toInt64 + x1.toInt64 * (f (4 * r + 1)).toInt64) + x2.toInt64 * (f (4 * r + 2)).toInt64) + (f (4 * r + 3)).toInt64
theorem pv_c1 : (1 : Int32).toInt64 = 1 := by decide
theorem pv_c0 : (0 : Int32).toInt64 = 0 := by decide
theorem pv_moveR (μ : xs_M) (x0 x1 x2 : Int32) (h0 : μ.1 154 0 = 0) : ∃ a, fn_R_move_L8 xs_FU μ x0 x1 x2 0 = some (4, a) ∧ pv_ag [154, 156] μ a ∧ (∀ i, i ≠ 0 → a.1 154 i = μ.1 154 i) ∧ ((∀ q, q < 4 → pv_ft (pv_mv x0 x1 x2 (μ.1 155) q)) → a.1 154 0 = 0) ∧ ((∃ q, q < 4 ∧ ¬ pv_ft (pv_mv x0 x1 x2 (μ.1 155) q)) → a.1 154 0 = 1) ∧ ∀ q, q < 4 → a.1 156 q = (pv_mv x0 x1 x2 (μ.1 155) q).toInt32 := by
  obtain ⟨a, h1, h2⟩ := ix_for (fun fu a v => fn_R_move_L8 fu a x0 x1 x2 v) (fun k a => pv_ag [154, 156] μ a ∧ (∀ i, i ≠ 0 → a.1 154 i = μ.1 154 i) ∧ ((∀ q, q < k → pv_ft (pv_mv x0 x1 x2 (μ.1 155) q)) → a.1 154 0 = 0) ∧ ((∃ q, q < k ∧ ¬ pv_ft (pv_mv x0 x1 x2 (μ.1 155) q)) → a.1 154 0 = 1) ∧ ∀ q, q < k → a.1 156 q = (pv_mv x0 x1 x2 (μ.1 155) q).toInt32) 4 (fun a => some (4, a)) μ (by omega)
    ⟨pv_ag.rf _ _, fun _ _ => rfl, fun _ => h0, fun ⟨q, hq, _⟩ => absurd hq (by omega), fun q hq => absurd hq (by omega)⟩
    (fun fu a h => by show fn_R_move_L8 (fu + 1) _ _ _ _ (Int32.ofNat 4) = _; rw [fn_R_move_L8, if_pos pv_e4]; rfl)
    (fun r a hr h => by
      obtain ⟨g1, g2, g3, g4, g5⟩ := h
      have e : a.1 155 = μ.1 155 := g1.1 155 (by decide)
      have un : ∀ fu, fn_R_move_L8 (fu + 1) a x0 x1 x2 (Int32.ofNat r) = if pv_mv x0 x1 x2 (μ.1 155) r < -511 ∨ 511 < pv_mv x0 x1 x2 (μ.1 155) r then fn_R_move_L8 fu (xs_si (xs_si a 154 0 1) 156 r (pv_mv x0 x1 x2 (μ.1 155) r).toInt32) x0 x1 x2 (Int32.ofNat (r + 1)) else fn_R_move_L8 fu (xs_si (xs_si a 154 0 (a.1 154 0)) 156 r (pv_mv x0 x1 x2 (μ.1 155) r).toInt32) x0 x1 x2 (Int32.ofNat (r + 1)) := by
        intro fu
        rw [fn_R_move_L8, if_neg (pv_n4 hr)]
        simp only [ixm4, ixa1, ixa2, ixa3, ix_in (show 4 * r < 16 by omega) (by omega), ix_in (show 4 * r + 1 < 16 by omega) (by omega), ix_in (show 4 * r + 2 < 16 by omega) (by omega), ix_in (show 4 * r + 3 < 16 by omega) (by omega), ix_in (show r < 16 by omega) (by omega), if_true, ix_cl (show r < 2147483648 by omega), ix_cl (show 4 * r < 2147483648 by omega), ix_cl (show 4 * r + 1 < 2147483648 by omega), ix_cl (show 4 * r + 2 < 2147483648 by omega), ix_cl (show 4 * r + 3 < 2147483648 by omega), Option.bind_some, pv_fits, pv_01, e]
        rfl
      by_cases q : pv_ft (pv_mv x0 x1 x2 (μ.1 155) r)
      · refine ⟨xs_si (xs_si a 154 0 (a.1 154 0)) 156 r (pv_mv x0 x1 x2 (μ.1 155) r).toInt32, fun fu => ?_, (g1.si (by simp) _ _).si (by simp) _ _, fun i hi => ?_, fun w => ?_, fun w => ?_, fun i hi => ?_⟩
        · show fn_R_move_L8 (fu + 1) a x0 x1 x2 (Int32.ofNat r) = _
          rw [un, if_neg q]
        · rw [si_ne _ _ _ (by decide), si_same, if_neg hi]; exact g2 i hi
        · rw [si_ne _ _ _ (by decide), si_same, if_pos rfl]; exact g3 (fun i hi => w i (by omega))
        · rw [si_ne _ _ _ (by decide), si_same, if_pos rfl]
          obtain ⟨i, hi, hq⟩ := w
          refine g4 ⟨i, ?_, hq⟩
          have : i ≠ r := fun t => hq (t ▸ q)
          omega
        · rw [si_same]
          by_cases t : i = r
          · rw [if_pos t, t]
          · rw [if_neg t, si_ne _ _ _ (by decide)]; exact g5 i (by omega)
      · refine ⟨xs_si (xs_si a 154 0 1) 156 r (pv_mv x0 x1 x2 (μ.1 155) r).toInt32, fun fu => ?_, (g1.si (by simp) _ _).si (by simp) _ _, fun i hi => ?_, fun w => absurd (w r (by omega)) q, fun w => ?_, fun i hi => ?_⟩
        · show fn_R_move_L8 (fu + 1) a x0 x1 x2 (Int32.ofNat r) = _
          rw [un, if_pos (Classical.not_not.mp q)]
        · rw [si_ne _ _ _ (by decide), si_same, if_neg hi]; exact g2 i hi
        · rw [si_ne _ _ _ (by decide), si_same, if_pos rfl]
        · rw [si_same]
          by_cases t : i = r
          · rw [if_pos t, t]
          · rw [if_neg t, si_ne _ _ _ (by decide)]; exact g5 i (by omega))
  exact ⟨a, h1, h2⟩
theorem pv_moveR2 (μ : xs_M) (x0 x1 x2 : Int32) (h0 : μ.1 154 0 = 0) : ∃ a, fn_R_move_L113 xs_FU μ x0 x1 x2 0 = some (4, a) ∧ pv_ag [155] μ a ∧ ∀ j, j < 16 → a.1 155 j = if j % 4 = 3 then μ.1 156 (j / 4) else μ.1 155 j := by
  obtain ⟨a, h1, h2, h3⟩ := ix_for (fun fu a v => fn_R_move_L113 fu a x0 x1 x2 v) (fun k a => pv_ag [155] μ a ∧ ∀ j, j < 16 → a.1 155 j = if j % 4 = 3 ∧ j / 4 < k then μ.1 156 (j / 4) else μ.1 155 j) 4 (fun a => some (4, a)) μ (by omega)
    ⟨pv_ag.rf _ _, fun j hj => by rw [if_neg (by omega)]⟩
    (fun fu a h => by show fn_R_move_L113 (fu + 1) _ _ _ _ (Int32.ofNat 4) = _; rw [fn_R_move_L113, if_pos pv_e4]; rfl)
    (fun r a hr h => by
      refine ⟨xs_si a 155 (4 * r + 3) (μ.1 156 r), fun fu => ?_, h.1.si (by simp) _ _, fun j hj => ?_⟩
      · show fn_R_move_L113 (fu + 1) _ _ _ _ (Int32.ofNat r) = _
        rw [fn_R_move_L113, if_neg (pv_n4 hr), if_pos (by rw [h.1.1 154 (by decide)]; exact h0), h.1.1 156 (by decide)]
        simp only [ixm4, ixa3, ix_in (show 4 * r + 3 < 16 by omega) (by omega), ix_in (show r < 16 by omega) (by omega), if_true, ix_cl (show r < 2147483648 by omega), ix_cl (show 4 * r + 3 < 2147483648 by omega), Option.bind_some, ixa1]
      · rw [si_same, h.2 j hj]
        by_cases e : j = 4 * r + 3
        · rw [if_pos e, if_pos (by omega), show j / 4 = r by omega]
        · rw [if_neg e]
          by_cases e2 : j % 4 = 3 ∧ j / 4 < r
          · rw [if_pos e2, if_pos (by omega)]
          · rw [if_neg e2, if_neg (by omega)])
  refine ⟨a, h1, h2, fun j hj => ?_⟩
  rw [h3 j hj]
  by_cases e : j % 4 = 3
  · rw [if_pos e, if_pos (by omega)]
  · rw [if_neg e, if_neg (by omega)]
theorem pv_mul01 (x : Int64) : x * 1 = x ∧ x * 0 = 0 ∧ x + 0 = x ∧ 0 + x = x := ⟨Int64.mul_one x, Int64.mul_zero, Int64.add_zero x, Int64.zero_add x⟩
theorem pv_move {μ : xs_M} (h : pv_I μ) (x0 x1 x2 : Int32) : ∃ r μ1 μ2, fn_L_move μ x0 x1 x2 = some (r, μ1) ∧ fn_R_move μ1 x0 x1 x2 = some μ2 ∧ μ2.1 154 0 = r ∧ pv_I μ2 := by
  obtain ⟨d, d1, d2, d3⟩ := pv_diag μ 1 1 1
  obtain ⟨m4, hm4⟩ : ∃ m4, m4 = xs_si (xs_si (xs_si d 4 3 x0) 4 7 x1) 4 11 x2 := ⟨_, rfl⟩
  have g : ∀ j, j < 16 → m4.1 4 j = if j = 11 then x2 else if j = 7 then x1 else if j = 3 then x0 else if j = 15 then 1 else if j = 10 then 1 else if j = 5 then 1 else if j = 0 then 1 else 0 := by
    intro j hj; rw [hm4, si_same, si_same, si_same, d3 j hj]
  have ag4 : pv_ag [4] μ m4 := by rw [hm4]; exact ((d2.si (by simp) _ _).si (by simp) _ _).si (by simp) _ _
  have m2 : m4.1 2 = μ.1 2 := ag4.1 2 (by decide)
  have mm : ∀ j, j < 16 → μ.1 155 j = μ.1 2 j := fun j hj => (h.mat j hj).1.symm
  have col : ∀ r c, r < 4 → c < 4 → pv_pj (m4.1 2) 0 (m4.1 4) (4 * r + c) = if c = 3 then pv_mv x0 x1 x2 (μ.1 155) r else (μ.1 155 (4 * r + c)).toInt64 := by
    intro r c hr hc
    rw [pv_pj4 _ _ _ hc, m2, Nat.zero_add, mm (4 * r + c) (by omega)]
    unfold pv_mv
    rw [mm (4 * r) (by omega), mm (4 * r + 1) (by omega), mm (4 * r + 2) (by omega), mm (4 * r + 3) (by omega)]
    have hc4 : c = 0 ∨ c = 1 ∨ c = 2 ∨ c = 3 := by omega
    rcases hc4 with rfl | rfl | rfl | rfl
    · rw [g 0 (by omega), g (4 + 0) (by omega), g (8 + 0) (by omega), g (12 + 0) (by omega)]
      simp only [Nat.reduceAdd, Nat.reduceEqDiff, if_true, if_false, pv_c1, pv_c0, Nat.add_zero, (by decide : ¬ (0 : Nat) = 3), (by decide : ¬ (0 : Nat) = 11), (by decide : ¬ (0 : Nat) = 7), (by decide : ¬ (0 : Nat) = 15), (by decide : ¬ (0 : Nat) = 10), (by decide : ¬ (0 : Nat) = 5)]
      grind
    · rw [g 1 (by omega), g (4 + 1) (by omega), g (8 + 1) (by omega), g (12 + 1) (by omega)]
      simp only [Nat.reduceAdd, Nat.reduceEqDiff, if_true, if_false, pv_c1, pv_c0, (by decide : ¬ (1 : Nat) = 3), (by decide : ¬ (1 : Nat) = 11), (by decide : ¬ (1 : Nat) = 7), (by decide : ¬ (1 : Nat) = 15), (by decide : ¬ (1 : Nat) = 10), (by decide : ¬ (1 : Nat) = 5), (by decide : ¬ (1 : Nat) = 0)]
      grind
    · rw [g 2 (by omega), g (4 + 2) (by omega), g (8 + 2) (by omega), g (12 + 2) (by omega)]
      simp only [Nat.reduceAdd, Nat.reduceEqDiff, if_true, if_false, pv_c1, pv_c0]
      grind
    · rw [g 3 (by omega), g (4 + 3) (by omega), g (8 + 3) (by omega), g (12 + 3) (by omega)]
      simp only [Nat.reduceAdd, Nat.reduceEqDiff, if_true, if_false, pv_c1, pv_c0]
      grind
  have fitc : ∀ r c, r < 4 → c < 4 → c ≠ 3 → pv_ft (pv_pj (m4.1 2) 0 (m4.1 4) (4 * r + c)) := by
    intro r c hr hc h3
    rw [col r c hr hc, if_neg h3, mm _ (by omega)]
    exact pv_ftb (h.mat _ (by omega)).2
  have hmul : ∀ z, fn_M_multiply m4 2 16 0 4 = some z → (z.1 = 0 ∨ z.1 = 1) → fn_M_multiplyByMove μ x0 x1 x2 = some z := by
    intro z hz h01
    unfold fn_M_multiplyByMove
    rw [d1]
    simp only [Option.bind_some]
    rw [show (3 : Int32).toNatClampNeg = 3 by decide, show (7 : Int32).toNatClampNeg = 7 by decide, show (11 : Int32).toNatClampNeg = 11 by decide, ← hm4, hz, Option.bind_some, if_pos h01]
  rcases pv_multiply m4 (q0 := 2) (n0 := 16) (q2 := 4) (s := 0) (by decide) (by decide) (by omega) (by omega) with ⟨a, a1, a2, a3⟩ | ⟨a, a1, a2, j, hj, a3⟩
  · have hL : fn_L_move μ x0 x1 x2 = some (0, a) := by
      unfold fn_L_move fn_S_move
      rw [hmul _ a1 (Or.inr rfl)]; rfl
    have aga : pv_ag pv_SM μ a := pv_ag.tr' (ag4.mono (by decide)) (a2.mono (by decide))
    have a155 : a.1 155 = μ.1 155 := (a2.1 155 (by decide)).trans (ag4.1 155 (by decide))
    have a154 : a.1 154 = μ.1 154 := (a2.1 154 (by decide)).trans (ag4.1 154 (by decide))
    obtain ⟨b, b1, b2, b3, b4, b5, b6⟩ := pv_moveR (xs_si a 154 0 0) x0 x1 x2 (by rw [si_same, if_pos rfl])
    rw [show (xs_si a 154 0 0).1 155 = μ.1 155 from a155] at b4 b6
    have fitm : ∀ q, q < 4 → pv_ft (pv_mv x0 x1 x2 (μ.1 155) q) := by
      intro q hq
      have := (a3 (4 * q + 3) (by omega)).1
      rw [col q 3 hq (by omega), if_pos rfl] at this
      exact this
    have b0 := b4 fitm
    obtain ⟨e, e1, e2, e3⟩ := pv_moveR2 b x0 x1 x2 b0
    have s154 : ∀ i, i ≠ 0 → e.1 154 i = μ.1 154 i := by
      intro i hi
      rw [e2.1 154 (by decide), b3 i hi, si_same, if_neg hi, a154]
    refine ⟨0, a, e, hL, ?_, by rw [e2.1 154 (by decide)]; exact b0, h.rbM (pv_ag.tr' (pv_ag.tr' (aga.si (by decide) _ _) (b2.mono (by decide))) (e2.mono (by decide))) (s154 5 (by decide)) (s154 6 (by decide)) (s154 7 (by decide)) (s154 9 (by decide)) ?_ ?_ ?_⟩
    · unfold fn_R_move
      rw [Option.bind_some, b1, Option.bind_some, e1]; rfl
    · intro j hj
      rw [e3 j hj, e2.1 2 (by decide), b2.1 2 (by decide), b2.1 155 (by decide), si_ne _ _ _ (by decide), si_ne _ _ _ (by decide), a155, (a3 j hj).2]
      have t := pv_ft32 (a3 j hj).1
      refine ⟨?_, t.1⟩
      have hc := col (j / 4) (j % 4) (by omega) (by omega)
      rw [show 4 * (j / 4) + j % 4 = j by omega] at hc
      rw [hc]
      by_cases q : j % 4 = 3
      · rw [if_pos q, if_pos q, b6 _ (by omega)]
      · rw [if_neg q, if_neg q, Int32.toInt32_toInt64]
    · rw [e2.1 3 (by decide), e2.1 157 (by decide), b2.1 3 (by decide), b2.1 157 (by decide), si_ne _ _ _ (by decide), si_ne _ _ _ (by decide), a2.1 3 (by decide), a2.1 157 (by decide), ag4.1 3 (by decide), ag4.1 157 (by decide)]; exact h.pile
    · rw [e2.1 1 (by decide), b2.1 1 (by decide), si_ne _ _ _ (by decide), a2.1 1 (by decide), ag4.1 1 (by decide), s154 4 (by decide)]; exact h.saved
  · have hL : fn_L_move μ x0 x1 x2 = some (1, a) := by
      unfold fn_L_move fn_S_move
      rw [hmul _ a1 (Or.inl rfl)]; rfl
    have aga : pv_ag pv_SM μ a := pv_ag.tr' (ag4.mono (by decide)) (a2.mono (by decide))
    have a155 : a.1 155 = μ.1 155 := (a2.1 155 (by decide)).trans (ag4.1 155 (by decide))
    have a154 : a.1 154 = μ.1 154 := (a2.1 154 (by decide)).trans (ag4.1 154 (by decide))
    obtain ⟨b, b1, b2, b3, b4, b5, b6⟩ := pv_moveR (xs_si a 154 0 0) x0 x1 x2 (by rw [si_same, if_pos rfl])
    rw [show (xs_si a 154 0 0).1 155 = μ.1 155 from a155] at b5
    have hj3 : j % 4 = 3 := by
      apply Classical.byContradiction
      intro q
      apply a3
      have := fitc (j / 4) (j % 4) (by omega) (by omega) q
      rw [show 4 * (j / 4) + j % 4 = j by omega] at this
      exact this
    have b0 : b.1 154 0 = 1 := by
      refine b5 ⟨j / 4, by omega, fun q => a3 ?_⟩
      have := col (j / 4) 3 (by omega) (by omega)
      rw [show 4 * (j / 4) + 3 = j by omega, if_pos rfl] at this
      rw [this]
      exact q
    have e1 : fn_R_move_L113 xs_FU b x0 x1 x2 0 = some (0, b) := by
      rw [show xs_FU = 999 + 1 from rfl, fn_R_move_L113, if_neg (by decide), if_neg (by rw [b0]; decide)]
    have s154 : ∀ i, i ≠ 0 → b.1 154 i = μ.1 154 i := by
      intro i hi
      rw [b3 i hi, si_same, if_neg hi, a154]
    refine ⟨1, a, b, hL, ?_, b0, h.rbM (pv_ag.tr' (aga.si (by decide) _ _) (b2.mono (by decide))) (s154 5 (by decide)) (s154 6 (by decide)) (s154 7 (by decide)) (s154 9 (by decide)) ?_ ?_ ?_⟩
    · unfold fn_R_move
      rw [Option.bind_some, b1, Option.bind_some, e1]; rfl
    · rw [b2.1 2 (by decide), b2.1 155 (by decide), si_ne _ _ _ (by decide), si_ne _ _ _ (by decide), a155, a2.1 2 (by decide), m2]; exact h.mat
    · rw [b2.1 3 (by decide), b2.1 157 (by decide), si_ne _ _ _ (by decide), si_ne _ _ _ (by decide), a2.1 3 (by decide), a2.1 157 (by decide), ag4.1 3 (by decide), ag4.1 157 (by decide)]; exact h.pile
    · rw [b2.1 1 (by decide), si_ne _ _ _ (by decide), a2.1 1 (by decide), ag4.1 1 (by decide), s154 4 (by decide)]; exact h.saved
