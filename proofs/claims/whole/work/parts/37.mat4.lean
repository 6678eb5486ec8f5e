/-! stretch, join -/
def pv_by (x0 x1 x2 : Int32) (k : Nat) : Int64 := if k % 4 = 0 then x0.toInt64 else if k % 4 = 1 then x1.toInt64 else if k % 4 = 2 then x2.toInt64 else 1
def pv_sv (x0 x1 x2 : Int32) (f : Nat → Int32) (k : Nat) : Int64 := pv_by x0 x1 x2 k * (f k).toInt64
theorem pv_mod4 {k : Nat} (hk : k < 2147483648) : Int32.ofNat k - Int32.ofNat k / 4 * 4 = Int32.ofNat (k % 4) := ix_mod (b := 4) hk (by decide)
theorem pv_mod40 {k : Nat} : Int32.ofNat (k % 4) = 0 ↔ k % 4 = 0 := ix_inj (b := 0) (by omega) (by decide)
theorem pv_mod41 {k : Nat} : Int32.ofNat (k % 4) = 1 ↔ k % 4 = 1 := ix_inj (b := 1) (by omega) (by decide)
theorem pv_mod42 {k : Nat} : Int32.ofNat (k % 4) = 2 ↔ k % 4 = 2 := ix_inj (b := 2) (by omega) (by decide)
theorem pv_stretchR (μ : xs_M) (x0 x1 x2 : Int32) (h0 : μ.1 154 0 = 0) : ∃ a, fn_R_stretch_L8 xs_FU μ x0 x1 x2 0 = some (16, a) ∧ pv_ag [154, 156] μ a ∧ (∀ i, i ≠ 0 → a.1 154 i = μ.1 154 i) ∧ ((∀ q, q < 16 → pv_ft (pv_sv x0 x1 x2 (μ.1 155) q)) → a.1 154 0 = 0) ∧ ((∃ q, q < 16 ∧ ¬ pv_ft (pv_sv x0 x1 x2 (μ.1 155) q)) → a.1 154 0 = 1) ∧ ∀ q, q < 16 → a.1 156 q = (pv_sv x0 x1 x2 (μ.1 155) q).toInt32 := by
  obtain ⟨a, h1, h2⟩ := ix_for (fun fu a v => fn_R_stretch_L8 fu a x0 x1 x2 v) (fun k a => pv_ag [154, 156] μ a ∧ (∀ i, i ≠ 0 → a.1 154 i = μ.1 154 i) ∧ ((∀ q, q < k → pv_ft (pv_sv x0 x1 x2 (μ.1 155) q)) → a.1 154 0 = 0) ∧ ((∃ q, q < k ∧ ¬ pv_ft (pv_sv x0 x1 x2 (μ.1 155) q)) → a.1 154 0 = 1) ∧ ∀ q, q < k → a.1 156 q = (pv_sv x0 x1 x2 (μ.1 155) q).toInt32) 16 (fun a => some (16, a)) μ (by omega)
    ⟨pv_ag.rf _ _, fun _ _ => rfl, fun _ => h0, fun ⟨q, hq, _⟩ => absurd hq (by omega), fun q hq => absurd hq (by omega)⟩
    (fun fu a h => by show fn_R_stretch_L8 (fu + 1) _ _ _ _ (Int32.ofNat 16) = _; rw [fn_R_stretch_L8, if_pos pv_e16]; rfl)
    (fun r a hr h => by
      obtain ⟨g1, g2, g3, g4, g5⟩ := h
      have e : a.1 155 = μ.1 155 := g1.1 155 (by decide)
      have un : ∀ fu, fn_R_stretch_L8 (fu + 1) a x0 x1 x2 (Int32.ofNat r) = if pv_sv x0 x1 x2 (μ.1 155) r < -511 ∨ 511 < pv_sv x0 x1 x2 (μ.1 155) r then fn_R_stretch_L8 fu (xs_si (xs_si a 154 0 1) 156 r (pv_sv x0 x1 x2 (μ.1 155) r).toInt32) x0 x1 x2 (Int32.ofNat (r + 1)) else fn_R_stretch_L8 fu (xs_si (xs_si a 154 0 (a.1 154 0)) 156 r (pv_sv x0 x1 x2 (μ.1 155) r).toInt32) x0 x1 x2 (Int32.ofNat (r + 1)) := by
        intro fu
        rw [fn_R_stretch_L8, if_neg (pv_n16 hr), pv_mod4 (by omega)]
        simp only [pv_mod40, pv_mod41, pv_mod42, ix_in hr (by omega), if_true, ix_cl (show r < 2147483648 by omega), Option.bind_some, pv_fits, pv_01, e, ixa1]
        unfold pv_sv pv_by
        by_cases m0 : r % 4 = 0
        · simp only [if_pos m0]
        by_cases m1 : r % 4 = 1
        · simp only [if_neg m0, if_pos m1]
        by_cases m2 : r % 4 = 2
        · simp only [if_neg m0, if_neg m1, if_pos m2]
        · simp only [if_neg m0, if_neg m1, if_neg m2]
      by_cases q : pv_ft (pv_sv x0 x1 x2 (μ.1 155) r)
      · refine ⟨xs_si (xs_si a 154 0 (a.1 154 0)) 156 r (pv_sv x0 x1 x2 (μ.1 155) r).toInt32, fun fu => ?_, (g1.si (by simp) _ _).si (by simp) _ _, fun i hi => ?_, fun w => ?_, fun w => ?_, fun i hi => ?_⟩
        · show fn_R_stretch_L8 (fu + 1) a x0 x1 x2 (Int32.ofNat r) = _
          rw [un, if_neg q]
        · rw [si_ne _ _ _ (by decide), si_same, if_neg hi]; exact g2 i hi
        · rw [si_ne _ _ _ (by decide), si_same, if_pos rfl]; exact g3 (fun i hi => w i (by omega))
        · rw [si_ne _ _ _ (by decide), si_same, if_pos rfl]
          obtain ⟨i, hi, hq⟩ := w
          refine g4 ⟨i, ?_, hq⟩
          have : i ≠ r := fun t => hq (t ▸ q)
          omega
        · rw [si_same]
          by_cases t : i = r
          · rw [if_pos t, t]
          · rw [if_neg t, si_ne _ _ _ (by decide)]; exact g5 i (by omega)
      · refine ⟨xs_si (xs_si a 154 0 1) 156 r (pv_sv x0 x1 x2 (μ.1 155) r).toInt32, fun fu => ?_, (g1.si (by simp) _ _).si (by simp) _ _, fun i hi => ?_, fun w => absurd (w r (by omega)) q, fun w => ?_, fun i hi => ?_⟩
        · show fn_R_stretch_L8 (fu + 1) a x0 x1 x2 (Int32.ofNat r) = _
          rw [un, if_pos (Classical.not_not.mp q)]
        · rw [si_ne _ _ _ (by decide), si_same, if_neg hi]; exact g2 i hi
        · rw [si_ne _ _ _ (by decide), si_same, if_pos rfl]
        · rw [si_same]
          by_cases t : i = r
          · rw [if_pos t, t]
          · rw [if_neg t, si_ne _ _ _ (by decide)]; exact g5 i (by omega))
  exact ⟨a, h1, h2⟩
theorem pv_stretchR2 (μ : xs_M) (x0 x1 x2 : Int32) (h0 : μ.1 154 0 = 0) : ∃ a, fn_R_stretch_L108 xs_FU μ x0 x1 x2 0 = some (16, a) ∧ pv_ag [155] μ a ∧ ∀ j, j < 16 → a.1 155 j = μ.1 156 j := by
  obtain ⟨a, h1, h2, h3⟩ := ix_for (fun fu a v => fn_R_stretch_L108 fu a x0 x1 x2 v) (fun k a => pv_ag [155] μ a ∧ ∀ j, j < k → a.1 155 j = μ.1 156 j) 16 (fun a => some (16, a)) μ (by omega)
    ⟨pv_ag.rf _ _, fun j hj => absurd hj (by omega)⟩
    (fun fu a h => by show fn_R_stretch_L108 (fu + 1) _ _ _ _ (Int32.ofNat 16) = _; rw [fn_R_stretch_L108, if_pos pv_e16]; rfl)
    (fun r a hr h => by
      refine ⟨xs_si a 155 r (μ.1 156 r), fun fu => ?_, h.1.si (by simp) _ _, fun j hj => ?_⟩
      · show fn_R_stretch_L108 (fu + 1) _ _ _ _ (Int32.ofNat r) = _
        rw [fn_R_stretch_L108, if_neg (pv_n16 hr), if_pos (by rw [h.1.1 154 (by decide)]; exact h0), h.1.1 156 (by decide)]
        simp only [ix_in hr (by omega), if_true, ix_cl (show r < 2147483648 by omega), Option.bind_some, ixa1]
      · rw [si_same]
        by_cases e : j = r
        · rw [if_pos e, e]
        · rw [if_neg e]; exact h.2 j (by omega))
  exact ⟨a, h1, h2, h3⟩
theorem pv_stretch {μ : xs_M} (h : pv_I μ) (x0 x1 x2 : Int32) : ∃ r μ1 μ2, fn_L_stretch μ x0 x1 x2 = some (r, μ1) ∧ fn_R_stretch μ1 x0 x1 x2 = some μ2 ∧ μ2.1 154 0 = r ∧ pv_I μ2 := by
  obtain ⟨d, d1, d2, g⟩ := pv_diag μ x0 x1 x2
  have m2 : d.1 2 = μ.1 2 := d2.1 2 (by decide)
  have mm : ∀ j, j < 16 → μ.1 155 j = μ.1 2 j := fun j hj => (h.mat j hj).1.symm
  have col : ∀ j, j < 16 → pv_pj (d.1 2) 0 (d.1 4) j = pv_sv x0 x1 x2 (μ.1 155) j := by
    have key : ∀ r c, r < 4 → c < 4 → pv_pj (d.1 2) 0 (d.1 4) (4 * r + c) = pv_sv x0 x1 x2 (μ.1 155) (4 * r + c) := by
      intro r c hr hc
      unfold pv_sv pv_by
      rw [pv_pj4 _ _ _ hc, m2, Nat.zero_add, mm (4 * r + c) (by omega), show (4 * r + c) % 4 = c by omega]
      have hc4 : c = 0 ∨ c = 1 ∨ c = 2 ∨ c = 3 := by omega
      rcases hc4 with rfl | rfl | rfl | rfl
      · rw [g 0 (by omega), g (4 + 0) (by omega), g (8 + 0) (by omega), g (12 + 0) (by omega)]
        simp only [Nat.reduceAdd, Nat.reduceEqDiff, if_true, if_false, pv_c1, pv_c0, Nat.add_zero, (by decide : ¬ (0 : Nat) = 15), (by decide : ¬ (0 : Nat) = 10), (by decide : ¬ (0 : Nat) = 5)]
        grind
      · rw [g 1 (by omega), g (4 + 1) (by omega), g (8 + 1) (by omega), g (12 + 1) (by omega)]
        simp only [Nat.reduceAdd, Nat.reduceEqDiff, if_true, if_false, pv_c1, pv_c0, (by decide : ¬ (1 : Nat) = 15), (by decide : ¬ (1 : Nat) = 10), (by decide : ¬ (1 : Nat) = 5), (by decide : ¬ (1 : Nat) = 0)]
        grind
      · rw [g 2 (by omega), g (4 + 2) (by omega), g (8 + 2) (by omega), g (12 + 2) (by omega)]
        simp only [Nat.reduceAdd, Nat.reduceEqDiff, if_true, if_false, pv_c1, pv_c0]
        grind
      · rw [g 3 (by omega), g (4 + 3) (by omega), g (8 + 3) (by omega), g (12 + 3) (by omega)]
        simp only [Nat.reduceAdd, Nat.reduceEqDiff, if_true, if_false, pv_c1, pv_c0]
        grind
    intro j hj
    have := key (j / 4) (j % 4) (by omega) (by omega)
    rw [show 4 * (j / 4) + j % 4 = j by omega] at this
    exact this
  have hmul : ∀ z, fn_M_multiply d 2 16 0 4 = some z → (z.1 = 0 ∨ z.1 = 1) → fn_M_multiplyByStretch μ x0 x1 x2 = some z := by
    intro z hz h01
    unfold fn_M_multiplyByStretch
    rw [d1, Option.bind_some, hz, Option.bind_some, if_pos h01]
  rcases pv_multiply d (q0 := 2) (n0 := 16) (q2 := 4) (s := 0) (by decide) (by decide) (by omega) (by omega) with ⟨a, a1, a2, a3⟩ | ⟨a, a1, a2, j, hj, a3⟩
  · have hL : fn_L_stretch μ x0 x1 x2 = some (0, a) := by
      unfold fn_L_stretch fn_S_stretch
      rw [hmul _ a1 (Or.inr rfl)]; rfl
    have aga : pv_ag pv_SM μ a := pv_ag.tr' (d2.mono (by decide)) (a2.mono (by decide))
    have a155 : a.1 155 = μ.1 155 := (a2.1 155 (by decide)).trans (d2.1 155 (by decide))
    have a154 : a.1 154 = μ.1 154 := (a2.1 154 (by decide)).trans (d2.1 154 (by decide))
    obtain ⟨b, b1, b2, b3, b4, b5, b6⟩ := pv_stretchR (xs_si a 154 0 0) x0 x1 x2 (by rw [si_same, if_pos rfl])
    rw [show (xs_si a 154 0 0).1 155 = μ.1 155 from a155] at b4 b6
    have fitm : ∀ q, q < 16 → pv_ft (pv_sv x0 x1 x2 (μ.1 155) q) := by
      intro q hq
      rw [← col q hq]
      exact (a3 q hq).1
    have b0 := b4 fitm
    obtain ⟨e, e1, e2, e3⟩ := pv_stretchR2 b x0 x1 x2 b0
    have s154 : ∀ i, i ≠ 0 → e.1 154 i = μ.1 154 i := by
      intro i hi
      rw [e2.1 154 (by decide), b3 i hi, si_same, if_neg hi, a154]
    refine ⟨0, a, e, hL, ?_, by rw [e2.1 154 (by decide)]; exact b0, h.rbM (pv_ag.tr' (pv_ag.tr' (aga.si (by decide) _ _) (b2.mono (by decide))) (e2.mono (by decide))) (s154 5 (by decide)) (s154 6 (by decide)) (s154 7 (by decide)) (s154 9 (by decide)) ?_ ?_ ?_⟩
    · unfold fn_R_stretch
      rw [Option.bind_some, b1, Option.bind_some, e1]; rfl
    · intro j hj
      rw [e3 j hj, e2.1 2 (by decide), b2.1 2 (by decide), si_ne _ _ _ (by decide), (a3 j hj).2, b6 j hj, col j hj]
      exact ⟨rfl, (pv_ft32 (fitm j hj)).1⟩
    · rw [e2.1 3 (by decide), e2.1 157 (by decide), b2.1 3 (by decide), b2.1 157 (by decide), si_ne _ _ _ (by decide), si_ne _ _ _ (by decide), a2.1 3 (by decide), a2.1 157 (by decide), d2.1 3 (by decide), d2.1 157 (by decide)]; exact h.pile
    · rw [e2.1 1 (by decide), b2.1 1 (by decide), si_ne _ _ _ (by decide), a2.1 1 (by decide), d2.1 1 (by decide), s154 4 (by decide)]; exact h.saved
  · have hL : fn_L_stretch μ x0 x1 x2 = some (1, a) := by
      unfold fn_L_stretch fn_S_stretch
      rw [hmul _ a1 (Or.inl rfl)]; rfl
    have aga : pv_ag pv_SM μ a := pv_ag.tr' (d2.mono (by decide)) (a2.mono (by decide))
    have a155 : a.1 155 = μ.1 155 := (a2.1 155 (by decide)).trans (d2.1 155 (by decide))
    have a154 : a.1 154 = μ.1 154 := (a2.1 154 (by decide)).trans (d2.1 154 (by decide))
    obtain ⟨b, b1, b2, b3, b4, b5, b6⟩ := pv_stretchR (xs_si a 154 0 0) x0 x1 x2 (by rw [si_same, if_pos rfl])
    rw [show (xs_si a 154 0 0).1 155 = μ.1 155 from a155] at b5
    have b0 : b.1 154 0 = 1 := b5 ⟨j, hj, fun q => a3 (by rw [col j hj]; exact q)⟩
    have e1 : fn_R_stretch_L108 xs_FU b x0 x1 x2 0 = some (0, b) := by
      rw [show xs_FU = 999 + 1 from rfl, fn_R_stretch_L108, if_neg (by decide), if_neg (by rw [b0]; decide)]
    have s154 : ∀ i, i ≠ 0 → b.1 154 i = μ.1 154 i := by
      intro i hi
      rw [b3 i hi, si_same, if_neg hi, a154]
    refine ⟨1, a, b, hL, ?_, b0, h.rbM (pv_ag.tr' (aga.si (by decide) _ _) (b2.mono (by decide))) (s154 5 (by decide)) (s154 6 (by decide)) (s154 7 (by decide)) (s154 9 (by decide)) ?_ ?_ ?_⟩
    · unfold fn_R_stretch
      rw [Option.bind_some, b1, Option.bind_some, e1]; rfl
    · rw [b2.1 2 (by decide), b2.1 155 (by decide), si_ne _ _ _ (by decide), si_ne _ _ _ (by decide), a155, a2.1 2 (by decide), m2]; exact h.mat
    · rw [b2.1 3 (by decide), b2.1 157 (by decide), si_ne _ _ _ (by decide), si_ne _ _ _ (by decide), a2.1 3 (by decide), a2.1 157 (by decide), d2.1 3 (by decide), d2.1 157 (by decide)]; exact h.pile
    · rw [b2.1 1 (by decide), si_ne _ _ _ (by decide), a2.1 1 (by decide), d2.1 1 (by decide), s154 4 (by decide)]; exact h.saved
/-! join -/
theorem pv_L36 (μ : xs_M) {n k : Nat} (hn : n < 4) (hk : k < 16) (h4 : μ.1 154 4 = Int32.ofNat (n + 1)) : fn_R_join_L36 xs_FU μ (Int32.ofNat k) 0 0 = some (pv_pj (μ.1 157) (16 * n) (μ.1 155) k, 4) := by
  obtain ⟨a, h1, h2⟩ := ix_for (fun fu a v => fn_R_join_L36 fu μ (Int32.ofNat k) a v) (fun i a => a = pv_ps (μ.1 157) (16 * n) (μ.1 155) (k / 4) (k % 4) i) 4 (fun a => some (a, 4)) 0 (by omega) rfl
    (fun fu a h => by show fn_R_join_L36 (fu + 1) _ _ _ (Int32.ofNat 4) = _; rw [fn_R_join_L36, if_pos pv_e4]; rfl)
    (fun i a hi h => by
      refine ⟨_, fun fu => ?_, rfl⟩
      show fn_R_join_L36 (fu + 1) _ _ _ (Int32.ofNat i) = _
      rw [fn_R_join_L36, if_neg (pv_n4 hi), h4, pv_mod4 (by omega), show Int32.ofNat k / 4 = Int32.ofNat (k / 4) from ix_div (b := 4) (by omega) (by decide), ixm16, show Int32.ofNat (16 * (n + 1)) - 16 = Int32.ofNat (16 * n) from by rw [show 16 * n = 16 * (n + 1) - 16 by omega]; exact ix_sub (b := 16) (by omega)]
      simp only [ixm4, ix_add, ix_in (show 16 * n + 4 * (k / 4) + i < 64 by omega) (by omega), ix_in (show 4 * i + k % 4 < 16 by omega) (by omega), if_true, ix_cl (show 16 * n + 4 * (k / 4) + i < 2147483648 by omega), ix_cl (show 4 * i + k % 4 < 2147483648 by omega), Option.bind_some, ixa1, h]
      rfl)
  have h1' : fn_R_join_L36 xs_FU μ (Int32.ofNat k) 0 0 = some (a, 4) := h1
  rw [h1', h2]
  rfl
theorem pv_joinR (μ : xs_M) {n : Nat} (hn : n < 4) (h4 : μ.1 154 4 = Int32.ofNat (n + 1)) (h0 : μ.1 154 0 = 0) : ∃ a, fn_R_join_L18 xs_FU μ 0 = some (16, a) ∧ pv_ag [154, 156] μ a ∧ (∀ i, i ≠ 0 → a.1 154 i = μ.1 154 i) ∧ ((∀ q, q < 16 → pv_ft (pv_pj (μ.1 157) (16 * n) (μ.1 155) q)) → a.1 154 0 = 0) ∧ ((∃ q, q < 16 ∧ ¬ pv_ft (pv_pj (μ.1 157) (16 * n) (μ.1 155) q)) → a.1 154 0 = 2) ∧ ∀ q, q < 16 → a.1 156 q = (pv_pj (μ.1 157) (16 * n) (μ.1 155) q).toInt32 := by
  obtain ⟨a, h1, h2⟩ := ix_for (fun fu a v => fn_R_join_L18 fu a v) (fun k a => pv_ag [154, 156] μ a ∧ (∀ i, i ≠ 0 → a.1 154 i = μ.1 154 i) ∧ ((∀ q, q < k → pv_ft (pv_pj (μ.1 157) (16 * n) (μ.1 155) q)) → a.1 154 0 = 0) ∧ ((∃ q, q < k ∧ ¬ pv_ft (pv_pj (μ.1 157) (16 * n) (μ.1 155) q)) → a.1 154 0 = 2) ∧ ∀ q, q < k → a.1 156 q = (pv_pj (μ.1 157) (16 * n) (μ.1 155) q).toInt32) 16 (fun a => some (16, a)) μ (by omega)
    ⟨pv_ag.rf _ _, fun _ _ => rfl, fun _ => h0, fun ⟨q, hq, _⟩ => absurd hq (by omega), fun q hq => absurd hq (by omega)⟩
    (fun fu a h => by show fn_R_join_L18 (fu + 1) _ (Int32.ofNat 16) = _; rw [fn_R_join_L18, if_pos pv_e16]; rfl)
    (fun r a hr h => by
      obtain ⟨g1, g2, g3, g4, g5⟩ := h
      have e : a.1 155 = μ.1 155 := g1.1 155 (by decide)
      have e7 : a.1 157 = μ.1 157 := g1.1 157 (by decide)
      have e4 : a.1 154 4 = Int32.ofNat (n + 1) := (g2 4 (by decide)).trans h4
      have un : ∀ fu, fn_R_join_L18 (fu + 1) a (Int32.ofNat r) = if pv_pj (μ.1 157) (16 * n) (μ.1 155) r < -511 ∨ 511 < pv_pj (μ.1 157) (16 * n) (μ.1 155) r then fn_R_join_L18 fu (xs_si (xs_si a 154 0 2) 156 r (pv_pj (μ.1 157) (16 * n) (μ.1 155) r).toInt32) (Int32.ofNat (r + 1)) else fn_R_join_L18 fu (xs_si (xs_si a 154 0 (a.1 154 0)) 156 r (pv_pj (μ.1 157) (16 * n) (μ.1 155) r).toInt32) (Int32.ofNat (r + 1)) := by
        intro fu
        rw [fn_R_join_L18, if_neg (pv_n16 hr), if_neg (by rw [e4]; exact fun w => absurd ((ix_le (b := 0) (by omega) (by decide)).mp w) (by omega)), pv_L36 a hn hr e4, e, e7]
        simp only [ix_in hr (by omega), if_true, ix_cl (show r < 2147483648 by omega), Option.bind_some, pv_fits, pv_01, ixa1]
      by_cases q : pv_ft (pv_pj (μ.1 157) (16 * n) (μ.1 155) r)
      · refine ⟨xs_si (xs_si a 154 0 (a.1 154 0)) 156 r (pv_pj (μ.1 157) (16 * n) (μ.1 155) r).toInt32, fun fu => ?_, (g1.si (by simp) _ _).si (by simp) _ _, fun i hi => ?_, fun w => ?_, fun w => ?_, fun i hi => ?_⟩
        · show fn_R_join_L18 (fu + 1) a (Int32.ofNat r) = _
          rw [un, if_neg q]
        · rw [si_ne _ _ _ (by decide), si_same, if_neg hi]; exact g2 i hi
        · rw [si_ne _ _ _ (by decide), si_same, if_pos rfl]; exact g3 (fun i hi => w i (by omega))
        · rw [si_ne _ _ _ (by decide), si_same, if_pos rfl]
          obtain ⟨i, hi, hq⟩ := w
          refine g4 ⟨i, ?_, hq⟩
          have : i ≠ r := fun t => hq (t ▸ q)
          omega
        · rw [si_same]
          by_cases t : i = r
          · rw [if_pos t, t]
          · rw [if_neg t, si_ne _ _ _ (by decide)]; exact g5 i (by omega)
      · refine ⟨xs_si (xs_si a 154 0 2) 156 r (pv_pj (μ.1 157) (16 * n) (μ.1 155) r).toInt32, fun fu => ?_, (g1.si (by simp) _ _).si (by simp) _ _, fun i hi => ?_, fun w => absurd (w r (by omega)) q, fun w => ?_, fun i hi => ?_⟩
        · show fn_R_join_L18 (fu + 1) a (Int32.ofNat r) = _
          rw [un, if_pos (Classical.not_not.mp q)]
        · rw [si_ne _ _ _ (by decide), si_same, if_neg hi]; exact g2 i hi
        · rw [si_ne _ _ _ (by decide), si_same, if_pos rfl]
        · rw [si_same]
          by_cases t : i = r
          · rw [if_pos t, t]
          · rw [if_neg t, si_ne _ _ _ (by decide)]; exact g5 i (by omega))
  exact ⟨a, h1, h2⟩
theorem pv_joinR2 (μ : xs_M) : ∃ a, fn_R_join_L143 xs_FU μ 0 = some (16, a) ∧ pv_ag [155] μ a ∧ ∀ j, j < 16 → a.1 155 j = μ.1 156 j := by
  obtain ⟨a, h1, h2, h3⟩ := ix_for (fun fu a v => fn_R_join_L143 fu a v) (fun k a => pv_ag [155] μ a ∧ ∀ j, j < k → a.1 155 j = μ.1 156 j) 16 (fun a => some (16, a)) μ (by omega)
    ⟨pv_ag.rf _ _, fun j hj => absurd hj (by omega)⟩
    (fun fu a h => by show fn_R_join_L143 (fu + 1) _ (Int32.ofNat 16) = _; rw [fn_R_join_L143, if_pos pv_e16]; rfl)
    (fun r a hr h => by
      refine ⟨xs_si a 155 r (μ.1 156 r), fun fu => ?_, h.1.si (by simp) _ _, fun j hj => ?_⟩
      · show fn_R_join_L143 (fu + 1) _ (Int32.ofNat r) = _
        rw [fn_R_join_L143, if_neg (pv_n16 hr), h.1.1 156 (by decide)]
        simp only [ix_in hr (by omega), if_true, ix_cl (show r < 2147483648 by omega), Option.bind_some, ixa1]
      · rw [si_same]
        by_cases e : j = r
        · rw [if_pos e, e]
        · rw [if_neg e]; exact h.2 j (by omega))
  exact ⟨a, h1, h2, h3⟩
theorem pv_pj_cong {f f' g g' : Nat → Int32} {s j : Nat} (hj : j < 16) (hf : ∀ i, i < 16 → f (s + i) = f' (s + i)) (hg : ∀ i, i < 16 → g i = g' i) : pv_pj f s g j = pv_pj f' s g' j := by
  have e : j = 4 * (j / 4) + j % 4 := by omega
  rw [e, pv_pj4 _ _ _ (by omega), pv_pj4 _ _ _ (by omega), hg _ (by omega), hg (4 + j % 4) (by omega), hg (8 + j % 4) (by omega), hg (12 + j % 4) (by omega)]
  rw [hf (4 * (j / 4)) (by omega), Nat.add_assoc s _ 1, Nat.add_assoc s _ 2, Nat.add_assoc s _ 3, hf (4 * (j / 4) + 1) (by omega), hf (4 * (j / 4) + 2) (by omega), hf (4 * (j / 4) + 3) (by omega)]
theorem pv_join {μ : xs_M} (h : pv_I μ) : ∃ r μ1 μ2, fn_L_join μ = some (r, μ1) ∧ fn_R_join μ1 = some μ2 ∧ μ2.1 154 0 = r ∧ pv_I μ2 := by
  obtain ⟨n, hn, e1, e2⟩ := h.saved
  by_cases h4 : n = 0
  · subst h4
    have e4 : Int32.ofNat 0 = 0 := rfl
    refine ⟨1, μ, xs_si μ 154 0 1, ?_, ?_, rfl, h.code 1⟩
    · simp only [fn_L_join, fn_S_join, fn_M_isPileEmpty]
      rw [e1, if_pos e4]; rfl
    · unfold fn_R_join
      rw [e2, if_pos e4, Option.bind_some]
      rw [show fn_R_join_L18 xs_FU (xs_si μ 154 0 1) 0 = some (0, xs_si μ 154 0 1) by
        rw [show xs_FU = 999 + 1 from rfl, fn_R_join_L18, if_neg (by decide), if_pos (by rw [si_same, if_neg (by decide), e2]; decide)]]
      rfl
  obtain ⟨n, rfl⟩ : ∃ m, n = m + 1 := ⟨n - 1, by omega⟩
  have hne : ¬ Int32.ofNat (n + 1) = 0 := fun q => h4 ((ix_inj (b := 0) (by omega) (by omega)).mp q)
  have hs1 : Int32.ofNat (n + 1) - 1 = Int32.ofNat n := ix_sub (b := 1) (by omega)
  have col : ∀ j, j < 16 → pv_pj (μ.1 157) (16 * n) (μ.1 155) j = pv_pj (μ.1 3) (16 * n) (μ.1 2) j := fun j hj => pv_pj_cong hj (fun i hi => (h.pile _ (by omega)).1.symm) (fun i hi => (h.mat i hi).1.symm)
  have hS : ∀ z, fn_M_multiply μ 3 64 (Int32.ofNat (16 * n)) 2 = some z → fn_S_join μ = (if z.1 = 0 then (if z.1 = 0 ∨ z.1 = 1 then some ((z.1, z.2)) else none) else ((some (xs_si z.2 1 4 ((z.2.1 1 4) - (1 : Int32)))).bind fun μ3 => (if z.1 = 0 ∨ z.1 = 1 then some ((z.1, μ3)) else none))).bind fun w2 => (if w2.1 = 0 then some (.inr ("java/lang/ArithmeticException", w2.2)) else some (.inl (w2.2))) := by
    intro z hz
    unfold fn_S_join fn_M_isPileEmpty fn_M_multiplyLatestByCurrent
    rw [e1, if_neg hne, Option.bind_some, if_pos rfl, hs1, ixm16', hz, Option.bind_some]
  rcases pv_multiply μ (q0 := 3) (n0 := 64) (q2 := 2) (s := 16 * n) (by decide) (by decide) (by omega) (by omega) with ⟨a, a1, a2, a3⟩ | ⟨a, a1, a2, j, hj, a3⟩
  · obtain ⟨m, hm⟩ : ∃ m, m = xs_si a 1 4 (Int32.ofNat n) := ⟨_, rfl⟩
    have hL : fn_L_join μ = some (0, m) := by
      unfold fn_L_join
      rw [hS _ a1]
      show Option.bind (Option.bind (if (1 : Int32) = 0 then _ else _) _) _ = _
      rw [if_neg (by decide), Option.bind_some, if_pos (Or.inr rfl), a2.1 1 (by decide), e1, hs1, ← hm]
      rfl
    have agm : pv_ag pv_SM μ m := by rw [hm]; exact pv_ag.si (a2.mono (by decide)) (by decide) _ _
    have a155 : m.1 155 = μ.1 155 := by rw [hm]; exact a2.1 155 (by decide)
    have a157 : m.1 157 = μ.1 157 := by rw [hm]; exact a2.1 157 (by decide)
    have a154 : m.1 154 = μ.1 154 := by rw [hm]; exact a2.1 154 (by decide)
    obtain ⟨b, b1, b2, b3, b4, b5, b6⟩ := pv_joinR (xs_si m 154 0 0) (n := n) (by omega) (by rw [si_same, if_neg (by decide), a154, e2]) (by rw [si_same, if_pos rfl])
    rw [show (xs_si m 154 0 0).1 155 = μ.1 155 from a155, show (xs_si m 154 0 0).1 157 = μ.1 157 from a157] at b4 b6
    have b0 := b4 (fun q hq => by rw [col q hq]; exact (a3 q hq).1)
    have b44 : b.1 154 4 = Int32.ofNat (n + 1) := by rw [b3 4 (by decide), si_same, if_neg (by decide), a154, e2]
    obtain ⟨e, f1, f2, f3⟩ := pv_joinR2 (xs_si b 154 4 (Int32.ofNat n))
    have s154 : ∀ i, i ≠ 0 → i ≠ 4 → e.1 154 i = μ.1 154 i := by
      intro i hi hi4
      rw [f2.1 154 (by decide), si_same, if_neg hi4, b3 i hi, si_same, if_neg hi, a154]
    refine ⟨0, m, e, hL, ?_, ?_, h.rbM (pv_ag.tr' (pv_ag.si (pv_ag.tr' (agm.si (by decide) _ _) (b2.mono (by decide))) (by decide) _ _) (f2.mono (by decide))) (s154 5 (by decide) (by decide)) (s154 6 (by decide) (by decide)) (s154 7 (by decide) (by decide)) (s154 9 (by decide) (by decide)) ?_ ?_ ⟨n, by omega, ?_, ?_⟩⟩
    · unfold fn_R_join
      rw [a154, e2, if_neg hne, Option.bind_some, b1, Option.bind_some]
      rw [if_pos b0, b44, hs1, Option.bind_some, f1]; rfl
    · rw [f2.1 154 (by decide), si_same, if_neg (by decide)]; exact b0
    · intro j hj
      rw [f3 j hj, f2.1 2 (by decide), si_ne _ _ _ (by decide), b2.1 2 (by decide), si_ne _ _ _ (by decide), si_ne _ _ _ (by decide), b6 j hj, hm, si_ne _ _ _ (by decide), (a3 j hj).2, col j hj]
      exact ⟨rfl, (pv_ft32 (a3 j hj).1).1⟩
    · rw [f2.1 3 (by decide), f2.1 157 (by decide), si_ne _ _ _ (by decide), si_ne _ _ _ (by decide), b2.1 3 (by decide), b2.1 157 (by decide), si_ne _ _ _ (by decide), si_ne _ _ _ (by decide), a157, hm, si_ne _ _ _ (by decide), a2.1 3 (by decide)]; exact h.pile
    · rw [f2.1 1 (by decide), si_ne _ _ _ (by decide), b2.1 1 (by decide), si_ne _ _ _ (by decide), hm, si_same, if_pos rfl]
    · rw [f2.1 154 (by decide), si_same, if_pos rfl]
  · have hL : fn_L_join μ = some (2, a) := by
      unfold fn_L_join
      rw [hS _ a1]
      rfl
    have aga : pv_ag pv_SM μ a := a2.mono (by decide)
    have a155 : a.1 155 = μ.1 155 := a2.1 155 (by decide)
    have a157 : a.1 157 = μ.1 157 := a2.1 157 (by decide)
    have a154 : a.1 154 = μ.1 154 := a2.1 154 (by decide)
    obtain ⟨b, b1, b2, b3, b4, b5, b6⟩ := pv_joinR (xs_si a 154 0 0) (n := n) (by omega) (by rw [si_same, if_neg (by decide), a154, e2]) (by rw [si_same, if_pos rfl])
    rw [show (xs_si a 154 0 0).1 155 = μ.1 155 from a155, show (xs_si a 154 0 0).1 157 = μ.1 157 from a157] at b5
    have b0 : b.1 154 0 = 2 := b5 ⟨j, hj, fun q => a3 (by rw [← col j hj]; exact q)⟩
    have s154 : ∀ i, i ≠ 0 → b.1 154 i = μ.1 154 i := by
      intro i hi
      rw [b3 i hi, si_same, if_neg hi, a154]
    refine ⟨2, a, b, hL, ?_, b0, h.rbM (pv_ag.tr' (aga.si (by decide) _ _) (b2.mono (by decide))) (s154 5 (by decide)) (s154 6 (by decide)) (s154 7 (by decide)) (s154 9 (by decide)) ?_ ?_ ?_⟩
    · unfold fn_R_join
      rw [a154, e2, if_neg hne, Option.bind_some, b1, Option.bind_some]
      rw [if_neg (by rw [b0]; decide)]
    · rw [b2.1 2 (by decide), b2.1 155 (by decide), si_ne _ _ _ (by decide), si_ne _ _ _ (by decide), a155, a2.1 2 (by decide)]; exact h.mat
    · rw [b2.1 3 (by decide), b2.1 157 (by decide), si_ne _ _ _ (by decide), si_ne _ _ _ (by decide), a2.1 3 (by decide), a157]; exact h.pile
    · rw [b2.1 1 (by decide), si_ne _ _ _ (by decide), a2.1 1 (by decide), s154 4 (by decide)]; exact h.saved
