/-! the reference's triangle at a pixel -/
def pv_pr (μ e : xs_M) (k : Nat) : Prop := e.2 154 14 = pv_D μ k ∧ ∀ n, n < 3 → e.2 163 n = pv_eA μ k n ∧ e.2 164 n = pv_eB μ k n ∧ e.2 165 n = pv_eC μ k n
def pv_pwK (μ : xs_M) (k i j n : Nat) : Int64 := pv_pw (μ.2 (14 + 7 * k + 4)) (μ.2 (14 + 7 * k + 5)) (μ.2 (14 + 7 * k + 6)) i j n
def pv_pokK (μ : xs_M) (k i j n : Nat) : Bool := pv_pok (μ.2 (14 + 7 * k + 4) n) (μ.2 (14 + 7 * k + 5) n) (pv_pwK μ k i j n)
theorem pv_covR1 {μ e : xs_M} {k : Nat} (t : pv_tri μ k) (pr : pv_pr μ e k) {i j n : Nat} (hn : n < 3) (x1 v6 : Int32) (fu : Nat) :
    fn_R_covers_L51 (fu + 1) e x1 (Int32.ofNat i) (Int32.ofNat j) (pv_sg μ k) v6 (Int32.ofNat n) = fn_R_covers_L51 fu (xs_sl e 166 n (pv_pwK μ k i j n)) x1 (Int32.ofNat i) (Int32.ofNat j) (pv_sg μ k) (if v6 = 0 then 0 else if pv_pokK μ k i j n = true then 1 else 0) (Int32.ofNat (n + 1)) := by
  obtain ⟨e1, e2, e3⟩ := pr.2 n hn
  obtain ⟨t1, t2, t3⟩ := t.2.2.2.2.2 n hn
  have hx : xs_in (Int32.ofNat n) 3 = true := ix_in hn (by omega)
  have ev : (pv_sg μ k * pv_eA μ k n * ((2 * Int32.ofNat i + 1 : Int32)).toInt64 + pv_sg μ k * pv_eB μ k n * ((2 * Int32.ofNat j + 1 : Int32)).toInt64) + pv_sg μ k * pv_eC μ k n = pv_pwK μ k i j n := by
    unfold pv_pwK pv_pw
    rw [t1, t2, t3]; rfl
  rw [fn_R_covers_L51, if_neg (pv_n3 hn), if_pos hx, ix_cl (by omega), Option.bind_some, if_pos hx, Option.bind_some, if_pos hx, if_pos hx, e1, e2, e3, ev, Option.bind_some, ixa1]
  generalize hm : xs_sl e 166 n (pv_pwK μ k i j n) = m
  have em : m.2 166 n = pv_pwK μ k i j n := by rw [← hm, sl_same, if_pos rfl]
  by_cases h6 : v6 = 0
  · rw [if_pos h6, if_pos h6]
  · rw [if_neg h6, if_neg h6, if_pos hx, em]
    unfold pv_pokK pv_pok
    rw [t1, t2]
    by_cases h1 : 0 < pv_pwK μ k i j n
    · rw [if_pos ((lg_cmp_gt _ _).mpr h1), if_pos (by simp [h1])]
    · rw [if_neg (fun q => h1 ((lg_cmp_gt _ _).mp q)), if_pos hx]
      by_cases h2 : pv_pwK μ k i j n = 0
      · rw [if_pos ((lg_cmp_eq _ _).mpr h2)]
        by_cases h3 : 0 < pv_sg μ k * pv_eA μ k n
        · rw [if_pos ((lg_cmp_gt _ _).mpr h3), if_pos (by simp [h2, h3])]
        · rw [if_neg (fun q => h3 ((lg_cmp_gt _ _).mp q))]
          by_cases h4 : pv_sg μ k * pv_eA μ k n = 0
          · rw [if_pos ((lg_cmp_eq _ _).mpr h4)]
            by_cases h5 : 0 < pv_sg μ k * pv_eB μ k n
            · rw [if_neg (fun q => by rw [lg_cmp_le] at q; exact absurd h5 (Int64.not_lt.mpr q)), if_pos (by simp [h2, h4, h5])]
            · rw [if_pos ((lg_cmp_le _ _).mpr (Int64.not_lt.mp h5)), if_neg (by simp [h2, h4, h5])]
          · rw [if_neg (fun q => h4 ((lg_cmp_eq _ _).mp q)), if_neg (by simp [h1, h3, h4])]
      · rw [if_neg (fun q => h2 ((lg_cmp_eq _ _).mp q)), if_neg (by simp [h1, h2])]
theorem pv_pr.sl {μ e : xs_M} {k : Nat} (h : pv_pr μ e k) (n : Nat) (x : Int64) : pv_pr μ (xs_sl e 166 n x) k := by
  refine ⟨by rw [sl_ne _ _ _ (by decide)]; exact h.1, fun m hm => ?_⟩
  rw [sl_ne _ _ _ (by decide), sl_ne _ _ _ (by decide), sl_ne _ _ _ (by decide)]
  exact h.2 m hm
theorem pv_covR3 {μ e : xs_M} {k : Nat} (t : pv_tri μ k) (pr : pv_pr μ e k) (i j : Nat) (x1 : Int32) :
    ∃ b, fn_R_covers_L51 xs_FU e x1 (Int32.ofNat i) (Int32.ofNat j) (pv_sg μ k) 1 0 = some (if pv_cov (μ.2 (14 + 7 * k + 4)) (μ.2 (14 + 7 * k + 5)) (μ.2 (14 + 7 * k + 6)) i j = true then 1 else 0, 3, b) ∧ b.1 = e.1 ∧ pv_ag [166] e b ∧ ∀ n, n < 3 → b.2 166 n = pv_pwK μ k i j n := by
  refine ⟨xs_sl (xs_sl (xs_sl e 166 0 (pv_pwK μ k i j 0)) 166 1 (pv_pwK μ k i j 1)) 166 2 (pv_pwK μ k i j 2), ?_, rfl, (((pv_ag.rf _ _).sl (by simp) _ _).sl (by simp) _ _).sl (by simp) _ _, fun n hn => ?_⟩
  · rw [show fn_R_covers_L51 xs_FU e x1 (Int32.ofNat i) (Int32.ofNat j) (pv_sg μ k) 1 0 = fn_R_covers_L51 (996 + 1 + 1 + 1 + 1) e x1 (Int32.ofNat i) (Int32.ofNat j) (pv_sg μ k) 1 (Int32.ofNat 0) from rfl]
    rw [pv_covR1 t pr (by decide), pv_covR1 t (pr.sl _ _) (by decide), pv_covR1 t ((pr.sl _ _).sl _ _) (by decide), fn_R_covers_L51, if_pos pv_e3, if_neg (show ¬ (1 : Int32) = 0 by decide)]
    unfold pv_cov
    have e0 : pv_pok (μ.2 (14 + 7 * k + 4) 0) (μ.2 (14 + 7 * k + 5) 0) (pv_pw (μ.2 (14 + 7 * k + 4)) (μ.2 (14 + 7 * k + 5)) (μ.2 (14 + 7 * k + 6)) i j 0) = pv_pokK μ k i j 0 := rfl
    have e1 : pv_pok (μ.2 (14 + 7 * k + 4) 1) (μ.2 (14 + 7 * k + 5) 1) (pv_pw (μ.2 (14 + 7 * k + 4)) (μ.2 (14 + 7 * k + 5)) (μ.2 (14 + 7 * k + 6)) i j 1) = pv_pokK μ k i j (0 + 1) := rfl
    have e2 : pv_pok (μ.2 (14 + 7 * k + 4) 2) (μ.2 (14 + 7 * k + 5) 2) (pv_pw (μ.2 (14 + 7 * k + 4)) (μ.2 (14 + 7 * k + 5)) (μ.2 (14 + 7 * k + 6)) i j 2) = pv_pokK μ k i j (0 + 1 + 1) := rfl
    rw [e0, e1, e2]
    generalize pv_pokK μ k i j 0 = c0
    generalize pv_pokK μ k i j (0 + 1) = c1
    generalize pv_pokK μ k i j (0 + 1 + 1) = c2
    cases c0 <;> cases c1 <;> cases c2 <;> rfl
  · have h3 : n = 0 ∨ n = 1 ∨ n = 2 := by omega
    rcases h3 with rfl | rfl | rfl
    · rw [sl_same, if_neg (by decide), sl_same, if_neg (by decide), sl_same, if_pos rfl]
    · rw [sl_same, if_neg (by decide), sl_same, if_pos rfl]
    · rw [sl_same, if_pos rfl]
theorem pv_covR {μ e : xs_M} {k : Nat} (hk : k < 20) (t : pv_tri μ k) (pr : pv_pr μ e k) (h162 : e.1 162 k = μ.1 162 k) (i j : Nat) :
    ∃ b, fn_R_covers e (Int32.ofNat k) (Int32.ofNat i) (Int32.ofNat j) (pv_sg μ k) = some (if (pv_shK μ k && pv_cov (μ.2 (14 + 7 * k + 4)) (μ.2 (14 + 7 * k + 5)) (μ.2 (14 + 7 * k + 6)) i j) = true then 1 else 0, b) ∧ b.1 = e.1 ∧ pv_ag [166] e b ∧ ((pv_shK μ k && pv_cov (μ.2 (14 + 7 * k + 4)) (μ.2 (14 + 7 * k + 5)) (μ.2 (14 + 7 * k + 6)) i j) = true → ∀ n, n < 3 → b.2 166 n = pv_pwK μ k i j n) := by
  obtain ⟨b, b1, b2, b3, b4⟩ := pv_covR3 t pr i j (Int32.ofNat k)
  have hx : xs_in (Int32.ofNat k) 20 = true := ix_in hk (by omega)
  obtain ⟨s, hs, es, es2⟩ := t.2.2.1
  have shE : pv_shK μ k = (!decide (pv_D μ k = 0) && (decide (s = 0) || (if 0 < pv_D μ k then decide (s = 1) else decide (s = 2)))) := by
    unfold pv_shK pv_sh
    rw [es, t.2.2.2.1]
    have q0 : decide (μ.2 (14 + 7 * k) 6 = 0) = decide (pv_D μ k = 0) := decide_eq_decide.mpr (pv_size0 t)
    have q1 : decide (Int32.ofNat s = 0) = decide (s = 0) := decide_eq_decide.mpr (ix_inj (b := 0) (by omega) (by decide))
    have q2 : decide (Int32.ofNat s = 1) = decide (s = 1) := decide_eq_decide.mpr (ix_inj (b := 1) (by omega) (by decide))
    have q3 : decide (Int32.ofNat s = 2) = decide (s = 2) := decide_eq_decide.mpr (ix_inj (b := 2) (by omega) (by decide))
    rw [q0, q1, q2, q3]
  have L : (fn_R_covers_L51 xs_FU e (Int32.ofNat k) (Int32.ofNat i) (Int32.ofNat j) (pv_sg μ k) 1 0).bind (fun z => if z.1 = 0 ∨ z.1 = 1 then some (z.1, z.2.2) else none) = some (if pv_cov (μ.2 (14 + 7 * k + 4)) (μ.2 (14 + 7 * k + 5)) (μ.2 (14 + 7 * k + 6)) i j = true then 1 else 0, b) := by
    rw [b1, Option.bind_some]
    by_cases c : pv_cov (μ.2 (14 + 7 * k + 4)) (μ.2 (14 + 7 * k + 5)) (μ.2 (14 + 7 * k + 6)) i j = true
    · rw [if_pos c]; rfl
    · rw [if_neg c]; rfl
  have yes : pv_shK μ k = true → fn_R_covers e (Int32.ofNat k) (Int32.ofNat i) (Int32.ofNat j) (pv_sg μ k) = some (if pv_cov (μ.2 (14 + 7 * k + 4)) (μ.2 (14 + 7 * k + 5)) (μ.2 (14 + 7 * k + 6)) i j = true then 1 else 0, b) → ∃ b, fn_R_covers e (Int32.ofNat k) (Int32.ofNat i) (Int32.ofNat j) (pv_sg μ k) = some (if (pv_shK μ k && pv_cov (μ.2 (14 + 7 * k + 4)) (μ.2 (14 + 7 * k + 5)) (μ.2 (14 + 7 * k + 6)) i j) = true then 1 else 0, b) ∧ b.1 = e.1 ∧ pv_ag [166] e b ∧ ((pv_shK μ k && pv_cov (μ.2 (14 + 7 * k + 4)) (μ.2 (14 + 7 * k + 5)) (μ.2 (14 + 7 * k + 6)) i j) = true → ∀ n, n < 3 → b.2 166 n = pv_pwK μ k i j n) := by
    intro h1 h2
    rw [h1, Bool.true_and]
    exact ⟨b, h2, b2, b3, fun _ => b4⟩
  have no : pv_shK μ k = false → fn_R_covers e (Int32.ofNat k) (Int32.ofNat i) (Int32.ofNat j) (pv_sg μ k) = some (0, e) → ∃ b, fn_R_covers e (Int32.ofNat k) (Int32.ofNat i) (Int32.ofNat j) (pv_sg μ k) = some (if (pv_shK μ k && pv_cov (μ.2 (14 + 7 * k + 4)) (μ.2 (14 + 7 * k + 5)) (μ.2 (14 + 7 * k + 6)) i j) = true then 1 else 0, b) ∧ b.1 = e.1 ∧ pv_ag [166] e b ∧ ((pv_shK μ k && pv_cov (μ.2 (14 + 7 * k + 4)) (μ.2 (14 + 7 * k + 5)) (μ.2 (14 + 7 * k + 6)) i j) = true → ∀ n, n < 3 → b.2 166 n = pv_pwK μ k i j n) := by
    intro h1 h2
    rw [h1, Bool.false_and]
    exact ⟨e, h2, rfl, pv_ag.rf _ _, fun q => absurd q (by decide)⟩
  by_cases hD : pv_D μ k = 0
  · refine no (by rw [shE, decide_eq_true hD]; rfl) ?_
    unfold fn_R_covers
    rw [pr.1, if_pos ((lg_cmp_eq _ _).mpr hD)]
  have un : fn_R_covers e (Int32.ofNat k) (Int32.ofNat i) (Int32.ofNat j) (pv_sg μ k) = (if Int32.ofNat s = (1 : Int32) then (if (lg_cmp (pv_sg μ k) (0 : Int64)) < 0 then some (((0 : Int32), e)) else (if Int32.ofNat s = (2 : Int32) then (if (lg_cmp (pv_sg μ k) (0 : Int64)) ≤ 0 then ((fn_R_covers_L51 xs_FU e (Int32.ofNat k) (Int32.ofNat i) (Int32.ofNat j) (pv_sg μ k) (1 : Int32) (0 : Int32)).bind fun z19 => (if z19.1 = 0 ∨ z19.1 = 1 then some ((z19.1, z19.2.2)) else none)) else some (((0 : Int32), e))) else ((fn_R_covers_L51 xs_FU e (Int32.ofNat k) (Int32.ofNat i) (Int32.ofNat j) (pv_sg μ k) (1 : Int32) (0 : Int32)).bind fun z17 => (if z17.1 = 0 ∨ z17.1 = 1 then some ((z17.1, z17.2.2)) else none)))) else (if Int32.ofNat s = (2 : Int32) then (if (lg_cmp (pv_sg μ k) (0 : Int64)) ≤ 0 then ((fn_R_covers_L51 xs_FU e (Int32.ofNat k) (Int32.ofNat i) (Int32.ofNat j) (pv_sg μ k) (1 : Int32) (0 : Int32)).bind fun z14 => (if z14.1 = 0 ∨ z14.1 = 1 then some ((z14.1, z14.2.2)) else none)) else some (((0 : Int32), e))) else ((fn_R_covers_L51 xs_FU e (Int32.ofNat k) (Int32.ofNat i) (Int32.ofNat j) (pv_sg μ k) (1 : Int32) (0 : Int32)).bind fun z12 => (if z12.1 = 0 ∨ z12.1 = 1 then some ((z12.1, z12.2.2)) else none)))) := by
    unfold fn_R_covers
    rw [pr.1, if_neg (fun q => hD ((lg_cmp_eq _ _).mp q)), if_pos hx, if_pos hx, ix_cl (by omega), h162, es2]
  have hs3 : s = 0 ∨ s = 1 ∨ s = 2 := by omega
  rcases pv_sgc μ k with ⟨hge, e1⟩ | ⟨hlt, e1⟩
  · have hpos : 0 < pv_D μ k := by
      rcases Int64.lt_or_eq_of_le hge with q | q
      · exact q
      · exact absurd q.symm hD
    have c1 : ¬ lg_cmp (pv_sg μ k) 0 < 0 := by rw [e1]; decide
    have c2 : ¬ lg_cmp (pv_sg μ k) 0 ≤ 0 := by rw [e1]; decide
    rw [decide_eq_false hD, if_pos hpos] at shE
    rcases hs3 with rfl | rfl | rfl
    · refine yes (by rw [shE]; rfl) ?_
      rw [un, if_neg (by decide), if_neg (by decide)]; exact L
    · refine yes (by rw [shE]; rfl) ?_
      rw [un, if_pos (by decide), if_neg c1, if_neg (by decide)]; exact L
    · refine no (by rw [shE]; rfl) ?_
      rw [un, if_neg (by decide), if_pos (by decide), if_neg c2]
  · have hpos : ¬ 0 < pv_D μ k := fun q => hlt (Int64.le_of_lt q)
    have c1 : lg_cmp (pv_sg μ k) 0 < 0 := by rw [e1]; decide
    have c2 : lg_cmp (pv_sg μ k) 0 ≤ 0 := by rw [e1]; decide
    rw [decide_eq_false hD, if_neg hpos] at shE
    rcases hs3 with rfl | rfl | rfl
    · refine yes (by rw [shE]; rfl) ?_
      rw [un, if_neg (by decide), if_neg (by decide)]; exact L
    · refine no (by rw [shE]; rfl) ?_
      rw [un, if_pos (by decide), if_pos c1]
    · refine yes (by rw [shE]; rfl) ?_
      rw [un, if_neg (by decide), if_pos (by decide), if_pos c2]; exact L
theorem pv_tx {e : xs_M} {k : Nat} (hk : k < 20) {t s r : Nat} (ht : t ≤ 1) (hs : s < 8) (hr : r < 8) {a b : Int32} (h0 : e.1 160 k = Int32.ofNat t) (ha : a = Int32.ofNat s) (hb : b = Int32.ofNat r) :
    (if xs_in (Int32.ofNat k) 20 = true then (if xs_in ((((64 : Int32) * (e.1 160 k)) + ((8 : Int32) * a)) + b) 128 = true then some ((e.1 158 ((((64 : Int32) * (e.1 160 k)) + ((8 : Int32) * a)) + b).toNatClampNeg)) else none) else none) = some (e.1 158 (64 * t + 8 * s + r)) := by
  rw [if_pos (ix_in hk (by omega)), h0, ha, hb, ixm64, ixm8, ix_add, ix_add, if_pos (ix_in (by omega) (by omega)), ix_cl (by omega)]
theorem pv_txR {e : xs_M} {k : Nat} (hk : k < 20) {t : Nat} (ht : t ≤ 1) (h0 : e.1 160 k = Int32.ofNat t) (hs : 0 < ((e.2 166 0 + e.2 166 1) + e.2 166 2).toInt) {s r : Nat} (hs8 : s < 8) (hr8 : r < 8)
    (es : pv_wr (e.1 161 k) (pv_fl ((e.2 166 0 * pv_pl e k 0 4 + e.2 166 1 * pv_pl e k 1 4) + e.2 166 2 * pv_pl e k 2 4) ((e.2 166 0 + e.2 166 1) + e.2 166 2)) = Int32.ofNat s)
    (er : pv_wr (e.1 161 k) (pv_fl ((e.2 166 0 * pv_pl e k 0 5 + e.2 166 1 * pv_pl e k 1 5) + e.2 166 2 * pv_pl e k 2 5) ((e.2 166 0 + e.2 166 1) + e.2 166 2)) = Int32.ofNat r) :
    fn_R_texelOf e (Int32.ofNat k) = some (e.1 158 (64 * t + 8 * s + r)) := by
  have hx : xs_in (Int32.ofNat k) 20 = true := ix_in hk (by omega)
  have p4 : ∀ n, n < 3 → fn_R_placeOf e (Int32.ofNat k) (Int32.ofNat n) 4 = some (pv_pl e k n 4) := fun n hn => pv_po (c := 4) hk hn (by decide)
  have p5 : ∀ n, n < 3 → fn_R_placeOf e (Int32.ofNat k) (Int32.ofNat n) 5 = some (pv_pl e k n 5) := fun n hn => pv_po (c := 5) hk hn (by decide)
  unfold fn_R_texelOf
  rw [show (0 : Int32).toNatClampNeg = 0 by decide, show (1 : Int32).toNatClampNeg = 1 by decide, show (2 : Int32).toNatClampNeg = 2 by decide, ix_cl (show k < 2147483648 by omega), Option.bind_some]
  rw [show fn_R_placeOf e (Int32.ofNat k) 0 4 = some (pv_pl e k 0 4) from p4 0 (by decide), Option.bind_some, show fn_R_placeOf e (Int32.ofNat k) 1 4 = some (pv_pl e k 1 4) from p4 1 (by decide), Option.bind_some, show fn_R_placeOf e (Int32.ofNat k) 2 4 = some (pv_pl e k 2 4) from p4 2 (by decide), Option.bind_some, (pv_flC e hs).2, Option.bind_some]
  rw [show fn_R_placeOf e (Int32.ofNat k) 0 5 = some (pv_pl e k 0 5) from p5 0 (by decide), Option.bind_some, show fn_R_placeOf e (Int32.ofNat k) 1 5 = some (pv_pl e k 1 5) from p5 1 (by decide), Option.bind_some, show fn_R_placeOf e (Int32.ofNat k) 2 5 = some (pv_pl e k 2 5) from p5 2 (by decide), Option.bind_some, (pv_flC e hs).2, Option.bind_some]
  generalize pv_fl ((e.2 166 0 * pv_pl e k 0 4 + e.2 166 1 * pv_pl e k 1 4) + e.2 166 2 * pv_pl e k 2 4) ((e.2 166 0 + e.2 166 1) + e.2 166 2) = u at *
  generalize pv_fl ((e.2 166 0 * pv_pl e k 0 5 + e.2 166 1 * pv_pl e k 1 5) + e.2 166 2 * pv_pl e k 2 5) ((e.2 166 0 + e.2 166 1) + e.2 166 2) = v at *
  rw [if_pos hx]
  unfold pv_wr at es er
  have ge : ∀ {x : Int64}, ¬ x < 0 → 0 ≤ lg_cmp x 0 := fun h => (lg_cmp_ge _ _).mpr (Int64.not_lt.mp h)
  have nge : ∀ {x : Int64}, x < 0 → ¬ 0 ≤ lg_cmp x 0 := fun h q => absurd h (Int64.not_lt.mpr ((lg_cmp_ge _ _).mp q))
  have le : ∀ {x : Int64}, ¬ 7 < x → lg_cmp x 7 ≤ 0 := fun h => (lg_cmp_le _ _).mpr (Int64.not_lt.mp h)
  have nle : ∀ {x : Int64}, 7 < x → ¬ lg_cmp x 7 ≤ 0 := fun h q => absurd h (Int64.not_lt.mpr ((lg_cmp_le _ _).mp q))
  by_cases hm : e.1 161 k = 0
  · rw [if_pos hm] at es er
    rw [if_pos hm, Option.bind_some, if_pos hx, if_pos hm, Option.bind_some]
    exact pv_tx hk ht hs8 hr8 h0 es er
  · rw [if_neg hm] at es er
    rw [if_neg hm]
    by_cases u0 : u < 0
    · rw [if_pos u0] at es
      rw [if_neg (nge u0), if_pos hx, if_neg hm]
      by_cases v0 : v < 0
      · rw [if_pos v0] at er
        rw [if_neg (nge v0)]
        exact pv_tx hk ht hs8 hr8 h0 es er
      · rw [if_neg v0] at er
        rw [if_pos (ge v0)]
        by_cases v7 : 7 < v
        · rw [if_pos v7] at er
          rw [if_neg (nle v7)]
          exact pv_tx hk ht hs8 hr8 h0 es er
        · rw [if_neg v7] at er
          rw [if_pos (le v7), Option.bind_some]
          exact pv_tx hk ht hs8 hr8 h0 es er
    · rw [if_neg u0] at es
      rw [if_pos (ge u0)]
      by_cases u7 : 7 < u
      · rw [if_pos u7] at es
        rw [if_neg (nle u7), if_pos hx, if_neg hm]
        by_cases v0 : v < 0
        · rw [if_pos v0] at er
          rw [if_neg (nge v0)]
          exact pv_tx hk ht hs8 hr8 h0 es er
        · rw [if_neg v0] at er
          rw [if_pos (ge v0)]
          by_cases v7 : 7 < v
          · rw [if_pos v7] at er
            rw [if_neg (nle v7)]
            exact pv_tx hk ht hs8 hr8 h0 es er
          · rw [if_neg v7] at er
            rw [if_pos (le v7), Option.bind_some]
            exact pv_tx hk ht hs8 hr8 h0 es er
      · rw [if_neg u7] at es
        rw [if_pos (le u7), Option.bind_some, if_pos hx, if_neg hm]
        by_cases v0 : v < 0
        · rw [if_pos v0] at er
          rw [if_neg (nge v0)]
          exact pv_tx hk ht hs8 hr8 h0 es er
        · rw [if_neg v0] at er
          rw [if_pos (ge v0)]
          by_cases v7 : 7 < v
          · rw [if_pos v7] at er
            rw [if_neg (nle v7)]
            exact pv_tx hk ht hs8 hr8 h0 es er
          · rw [if_neg v7] at er
            rw [if_pos (le v7), Option.bind_some]
            exact pv_tx hk ht hs8 hr8 h0 es er
