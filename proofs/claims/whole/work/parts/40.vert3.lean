/-- the reference's memory once a corner is told -/
def pv_r8 (μ : xs_M) (t : Nat) (p q w z u v : Int32) : xs_M := xs_si (xs_si (xs_si (xs_si (xs_si (xs_si (xs_si (xs_si μ 154 0 0) 159 (6 * t) p) 159 (6 * t + 1) q) 159 (6 * t + 2) w) 159 (6 * t + 3) z) 159 (6 * t + 4) u) 159 (6 * t + 5) v) 154 9 (Int32.ofNat (t + 1))
theorem pv_r8_ag (μ : xs_M) (t : Nat) (p q w z u v : Int32) : pv_ag [154, 159] μ (pv_r8 μ t p q w z u v) :=
  ((((((((pv_ag.rf _ _).si (by simp) _ _).si (by simp) _ _).si (by simp) _ _).si (by simp) _ _).si (by simp) _ _).si (by simp) _ _).si (by simp) _ _).si (by simp) _ _
theorem pv_r8_159 (μ : xs_M) (t : Nat) (p q w z u v : Int32) : (pv_r8 μ t p q w z u v).1 159 = pv_G (μ.1 159) (6 * t) p q w z u v := by
  unfold pv_r8 pv_G
  rw [si_ne _ _ _ (by decide), si_fun, si_fun, si_fun, si_fun, si_fun, si_fun, si_ne _ _ _ (by decide)]
theorem pv_r8_154 (μ : xs_M) (t : Nat) (p q w z u v : Int32) (j : Nat) : (pv_r8 μ t p q w z u v).1 154 j = if j = 9 then Int32.ofNat (t + 1) else if j = 0 then 0 else μ.1 154 j := by
  unfold pv_r8
  rw [si_same, si_ne _ _ _ (by decide), si_ne _ _ _ (by decide), si_ne _ _ _ (by decide), si_ne _ _ _ (by decide), si_ne _ _ _ (by decide), si_ne _ _ _ (by decide), si_same]
theorem pv_r8_2 (μ : xs_M) (t : Nat) (p q w z u v : Int32) : (pv_r8 μ t p q w z u v).2 = μ.2 := rfl
theorem pv_addR {μ : xs_M} {t : Nat} (ht : t < 60) (h9 : μ.1 154 9 = Int32.ofNat t) (x y z u v : Int32) (hx : ¬ (x < -31 ∨ 31 < x)) (hy : ¬ (y < -31 ∨ 31 < y)) (hz : ¬ (z < -31 ∨ 31 < z)) (hu : ¬ (u < -127 ∨ 127 < u)) (hv : ¬ (v < -127 ∨ 127 < v)) (m : xs_M)
    (hm : m = pv_r8 μ t (16 * (pv_rt (μ.1 155) 0 x y z + pv_rt (μ.1 155) 3 x y z)) (12 * (pv_rt (μ.1 155) 1 x y z + pv_rt (μ.1 155) 3 x y z)) (pv_rt (μ.1 155) 3 x y z) (pv_rt (μ.1 155) 2 x y z) u v) :
    fn_R_vertex μ x y z u v = if (t + 1) % 3 = 0 then some (Int32.ofNat ((t + 1) / 3), xs_si (xs_si (xs_si m 160 ((t + 1) / 3 - 1) (μ.1 154 5)) 161 ((t + 1) / 3 - 1) (μ.1 154 6)) 162 ((t + 1) / 3 - 1) (μ.1 154 7)) else some (Int32.ofNat ((t + 1) / 3), m) := by
  have m31 : (-31 : Int32) = -(31 : Int32) := rfl
  have m127 : (-127 : Int32) = -(127 : Int32) := rfl
  rw [m31] at hx hy hz
  rw [m127] at hu hv
  have n10 : ¬ (1 : Int32) = 0 := by decide
  unfold fn_R_vertex
  rw [pv_withinR, if_neg hx, Option.bind_some, if_neg n10, pv_withinR, if_neg hy, Option.bind_some, if_neg n10, pv_withinR, if_neg hz, Option.bind_some, if_neg n10, pv_withinR, if_neg hu, Option.bind_some, if_neg n10, pv_withinR, if_neg hv, Option.bind_some, if_neg n10]
  rw [h9, if_neg (show ¬ Int32.ofNat t = 60 from fun q => absurd ((ix_inj (b := 60) (by omega) (by decide)).mp q) (by omega)), Option.bind_some]
  generalize hm0 : xs_si μ 154 0 0 = m0
  have a0 : m0.1 155 = μ.1 155 := by rw [← hm0]; rfl
  have b0 : m0.1 154 9 = Int32.ofNat t := by rw [← hm0]; exact h9
  rw [show fn_R_line m0 3 x y z = some (pv_rt (μ.1 155) 3 x y z) from (pv_line m0 (r := 3) (by omega) x y z).trans (by rw [a0]), Option.bind_some, show fn_R_line m0 0 x y z = some (pv_rt (μ.1 155) 0 x y z) from (pv_line m0 (r := 0) (by omega) x y z).trans (by rw [a0]), Option.bind_some]
  rw [b0, ixm6, if_pos (ix_in (by omega) (by omega)), ix_cl (by omega), Option.bind_some]
  generalize hm1 : xs_si m0 159 (6 * t) (16 * (pv_rt (μ.1 155) 0 x y z + pv_rt (μ.1 155) 3 x y z)) = m1
  have a1 : m1.1 155 = μ.1 155 := by rw [← hm1]; exact a0
  have b1 : m1.1 154 9 = Int32.ofNat t := by rw [← hm1]; exact b0
  rw [show fn_R_line m1 1 x y z = some (pv_rt (μ.1 155) 1 x y z) from (pv_line m1 (r := 1) (by omega) x y z).trans (by rw [a1]), Option.bind_some]
  rw [b1, ixm6, ixa1, if_pos (ix_in (by omega) (by omega)), ix_cl (by omega), Option.bind_some]
  generalize hm2 : xs_si m1 159 (6 * t + 1) (12 * (pv_rt (μ.1 155) 1 x y z + pv_rt (μ.1 155) 3 x y z)) = m2
  have b2 : m2.1 154 9 = Int32.ofNat t := by rw [← hm2]; exact b1
  have a2 : m2.1 155 = μ.1 155 := by rw [← hm2]; exact a1
  rw [b2, ixm6, ixa2, if_pos (ix_in (by omega) (by omega)), ix_cl (by omega), Option.bind_some]
  generalize hm3 : xs_si m2 159 (6 * t + 2) (pv_rt (μ.1 155) 3 x y z) = m3
  have a3 : m3.1 155 = μ.1 155 := by rw [← hm3]; exact a2
  have b3 : m3.1 154 9 = Int32.ofNat t := by rw [← hm3]; exact b2
  rw [show fn_R_line m3 2 x y z = some (pv_rt (μ.1 155) 2 x y z) from (pv_line m3 (r := 2) (by omega) x y z).trans (by rw [a3]), Option.bind_some]
  rw [b3, ixm6, ixa3, if_pos (ix_in (by omega) (by omega)), ix_cl (by omega), Option.bind_some]
  generalize hm4 : xs_si m3 159 (6 * t + 3) (pv_rt (μ.1 155) 2 x y z) = m4
  have b4 : m4.1 154 9 = Int32.ofNat t := by rw [← hm4]; exact b3
  rw [b4, ixm6, ixa4, if_pos (ix_in (by omega) (by omega)), ix_cl (by omega), Option.bind_some]
  generalize hm5 : xs_si m4 159 (6 * t + 4) u = m5
  have b5 : m5.1 154 9 = Int32.ofNat t := by rw [← hm5]; exact b4
  rw [b5, ixm6, ixa5, if_pos (ix_in (by omega) (by omega)), ix_cl (by omega), Option.bind_some]
  generalize hm6 : xs_si m5 159 (6 * t + 5) v = m6
  have b6 : m6.1 154 9 = Int32.ofNat t := by rw [← hm6]; exact b5
  rw [b6, ixa1, Option.bind_some]
  have e7 : xs_si m6 154 9 (Int32.ofNat (t + 1)) = m := by
    rw [hm, ← hm6, ← hm5, ← hm4, ← hm3, ← hm2, ← hm1, ← hm0]; rfl
  rw [e7]
  have s : ∀ j, m.1 154 j = if j = 9 then Int32.ofNat (t + 1) else if j = 0 then 0 else μ.1 154 j := fun j => by rw [hm]; exact pv_r8_154 ..
  have s9 : m.1 154 9 = Int32.ofNat (t + 1) := by rw [s, if_pos rfl]
  have s5 : m.1 154 5 = μ.1 154 5 := by rw [s, if_neg (by decide), if_neg (by decide)]
  have s6 : m.1 154 6 = μ.1 154 6 := by rw [s, if_neg (by decide), if_neg (by decide)]
  have s7 : m.1 154 7 = μ.1 154 7 := by rw [s, if_neg (by decide), if_neg (by decide)]
  have d3 : Int32.ofNat (t + 1) / 3 = Int32.ofNat ((t + 1) / 3) := ix_div (b := 3) (by omega) (by decide)
  rw [s9, pv_mod3 (by omega), d3]
  by_cases e : (t + 1) % 3 = 0
  · have d1 : Int32.ofNat ((t + 1) / 3) - 1 = Int32.ofNat ((t + 1) / 3 - 1) := ix_sub (b := 1) (by omega)
    rw [if_pos e, if_pos (by rw [e]; rfl), d1, if_pos (ix_in (by omega) (by omega)), ix_cl (by omega), s5, Option.bind_some]
    generalize hq1 : xs_si m 160 ((t + 1) / 3 - 1) (μ.1 154 5) = q1
    have r1 : q1.1 154 = m.1 154 := by rw [← hq1]; rfl
    rw [r1, s9, d3, d1, if_pos (ix_in (by omega) (by omega)), ix_cl (by omega), s6, Option.bind_some]
    generalize hq2 : xs_si q1 161 ((t + 1) / 3 - 1) (μ.1 154 6) = q2
    have r2 : q2.1 154 = m.1 154 := by rw [← hq2]; exact r1
    rw [r2, s9, d3, d1, if_pos (ix_in (by omega) (by omega)), ix_cl (by omega), s7, Option.bind_some]
    generalize hq3 : xs_si q2 162 ((t + 1) / 3 - 1) (μ.1 154 7) = q3
    have r3 : q3.1 154 = m.1 154 := by rw [← hq3]; exact r2
    rw [r3, s9, d3]
  · rw [if_neg e, if_neg (show ¬ Int32.ofNat ((t + 1) % 3) = 0 from fun q => e ((ix_inj (b := 0) (by omega) (by decide)).mp q))]
/-! keeping what was told before -/
theorem pv_pl.fr {μ μ' : xs_M} {k : Nat} (e : ∀ j, j < 18 * k + 18 → μ'.1 159 j = μ.1 159 j) {n c : Nat} (hn : n < 3) (hc : c < 6) : pv_pl μ' k n c = pv_pl μ k n c := by
  unfold pv_pl; rw [e _ (by omega)]
theorem pv_D.fr2 {μ μ' : xs_M} {k : Nat} (e : ∀ j, j < 18 * k + 18 → μ'.1 159 j = μ.1 159 j) : pv_D μ' k = pv_D μ k ∧ pv_sg μ' k = pv_sg μ k ∧ (∀ n, pv_eA μ' k n = pv_eA μ k n) ∧ (∀ n, pv_eB μ' k n = pv_eB μ k n) ∧ ∀ n, pv_eC μ' k n = pv_eC μ k n := by
  have m1 : ∀ n, (n + 1) % 3 < 3 := fun n => Nat.mod_lt _ (by decide)
  have m2 : ∀ n, (n + 2) % 3 < 3 := fun n => Nat.mod_lt _ (by decide)
  have hA : ∀ n, pv_eA μ' k n = pv_eA μ k n := fun n => by unfold pv_eA; rw [pv_pl.fr e (m1 n) (by decide), pv_pl.fr e (m2 n) (by decide), pv_pl.fr e (m1 n) (by decide), pv_pl.fr e (m2 n) (by decide)]
  have hB : ∀ n, pv_eB μ' k n = pv_eB μ k n := fun n => by unfold pv_eB; rw [pv_pl.fr e (m1 n) (by decide), pv_pl.fr e (m2 n) (by decide), pv_pl.fr e (m1 n) (by decide), pv_pl.fr e (m2 n) (by decide)]
  have hC : ∀ n, pv_eC μ' k n = pv_eC μ k n := fun n => by unfold pv_eC; rw [pv_pl.fr e (m1 n) (by decide), pv_pl.fr e (m2 n) (by decide), pv_pl.fr e (m1 n) (by decide), pv_pl.fr e (m2 n) (by decide)]
  have hD : pv_D μ' k = pv_D μ k := by unfold pv_D; rw [hA, hB, hC, pv_pl.fr e (by decide) (by decide), pv_pl.fr e (by decide) (by decide), pv_pl.fr e (by decide) (by decide)]
  exact ⟨hD, by unfold pv_sg; rw [hD], hA, hB, hC⟩
theorem pv_tri.fr2 {μ μ' : xs_M} {k : Nat} (h : pv_tri μ k) (e1 : ∀ j, j < 7 → μ'.2 (14 + 7 * k + j) = μ.2 (14 + 7 * k + j)) (e2 : μ'.1 (14 + 7 * k) = μ.1 (14 + 7 * k)) (e3 : ∀ j, j < 18 * k + 18 → μ'.1 159 j = μ.1 159 j) (e4 : μ'.1 160 k = μ.1 160 k) (e5 : μ'.1 161 k = μ.1 161 k) (e6 : μ'.1 162 k = μ.1 162 k) : pv_tri μ' k := by
  obtain ⟨d1, d2, d3, d4, d5⟩ := pv_D.fr2 (k := k) e3
  unfold pv_tri
  rw [e2, e4, e5, e6, d1, d2, e1 1 (by omega), e1 4 (by omega), e1 5 (by omega), e1 6 (by omega), show μ'.2 (14 + 7 * k) = μ.2 (14 + 7 * k) from e1 0 (by omega)]
  simp only [d3, d4, d5]
  exact h
/-- one corner more -/
theorem pv_corners {μ μ' : xs_M} {k n : Nat} {p q w z u v : Int32} (old : ∀ k' n', n' < 3 → 3 * k' + n' < 3 * k + n → pv_corner μ k' n')
    (hn : n < 3) (f1 : ∀ k', k' < k → μ'.2 (14 + 7 * k' + 1) = μ.2 (14 + 7 * k' + 1) ∧ μ'.1 (14 + 7 * k' + 2) = μ.1 (14 + 7 * k' + 2) ∧ μ'.1 (14 + 7 * k' + 3) = μ.1 (14 + 7 * k' + 3))
    (c1 : ∀ j, j ≠ 0 → μ'.2 (14 + 7 * k + 1) j = (pv_c8 μ k n p q w z u v).2 (14 + 7 * k + 1) j) (c2 : μ'.1 (14 + 7 * k + 2) = (pv_c8 μ k n p q w z u v).1 (14 + 7 * k + 2)) (c3 : μ'.1 (14 + 7 * k + 3) = (pv_c8 μ k n p q w z u v).1 (14 + 7 * k + 3))
    (r : μ'.1 159 = pv_G (μ.1 159) (18 * k + 6 * n) p q w z u v) (bp : pv_b 1537088 p) (bq : pv_b 1152816 q) (bw : pv_b 48034 w) (bz : pv_b 48034 z) (bu : pv_b 127 u) (bv : pv_b 127 v) :
    ∀ k' n', n' < 3 → 3 * k' + n' < 3 * k + n + 1 → pv_corner μ' k' n' := by
  intro k' n' hn' hlt
  by_cases e : k' = k ∧ n' = n
  · obtain ⟨rfl, rfl⟩ := e
    obtain ⟨g1, g2, g3, g4, g5, g6⟩ := pv_G_at (f := μ.1 159) (t := 18 * k' + 6 * n') (p := p) (q := q) (w := w) (z := z) (u := u) (v := v)
    unfold pv_corner
    rw [r, g1, g2, g3, g4, g5, g6, c1 _ (by omega), c1 _ (by omega), c1 _ (by omega), c1 _ (by omega), c2, c3, pv_c8_n, pv_c8_n, pv_c8_n, pv_c8_n, pv_c8_u, pv_c8_v, if_pos rfl, if_pos rfl, if_neg (by omega), if_neg (by omega), if_neg (by omega), if_pos rfl, if_neg (by omega), if_neg (by omega), if_pos rfl, if_neg (by omega), if_pos rfl, if_pos rfl]
    exact ⟨rfl, rfl, rfl, rfl, rfl, rfl, bp, bq, bw, bz, bu, bv⟩
  · have ho := old k' n' hn' (by omega)
    have g : ∀ c, c < 6 → μ'.1 159 (18 * k' + 6 * n' + c) = μ.1 159 (18 * k' + 6 * n' + c) := fun c hc => by rw [r, pv_G_lt (by omega)]
    unfold pv_corner
    rw [show μ'.1 159 (18 * k' + 6 * n') = μ.1 159 (18 * k' + 6 * n') from g 0 (by decide), g 1 (by decide), g 2 (by decide), g 3 (by decide), g 4 (by decide), g 5 (by decide)]
    by_cases e2 : k' = k
    · subst e2
      rw [c1 _ (by omega), c1 _ (by omega), c1 _ (by omega), c1 _ (by omega), c2, c3, pv_c8_n, pv_c8_n, pv_c8_n, pv_c8_n, pv_c8_u, pv_c8_v]
      rw [if_neg (by omega), if_neg (by omega), if_neg (by omega), if_neg (by omega), if_neg (by omega), if_neg (by omega), if_neg (by omega), if_neg (by omega), if_neg (by omega), if_neg (by omega), if_neg (by omega), if_neg (by omega), if_neg (by omega), if_neg (by omega), if_neg (by omega), if_neg (by omega), if_neg (by omega), if_neg (by omega)]
      exact ho
    · obtain ⟨f, f', f''⟩ := f1 k' (by omega)
      rw [f, f', f'']
      exact ho
