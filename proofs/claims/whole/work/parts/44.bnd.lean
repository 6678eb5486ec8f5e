/-! bounds of a complete triangle's numbers -/
def pv_B (m : Int) (x : Int64) : Prop := -m ≤ x.toInt ∧ x.toInt ≤ m
theorem pv_Bmul {x y : Int64} {A B : Int} (hx : pv_B A x) (hy : pv_B B y) (h : A * B < 9223372036854775808) : pv_B (A * B) (x * y) := by
  have k := pv_ib hx hy
  have e : (x * y).toInt = x.toInt * y.toInt := pn_mul rfl rfl (by omega) (by omega)
  exact ⟨by rw [e]; omega, by rw [e]; omega⟩
theorem pv_Badd {x y : Int64} {A B : Int} (hx : pv_B A x) (hy : pv_B B y) (h : A + B < 9223372036854775808) : pv_B (A + B) (x + y) := by
  obtain ⟨h1, h2⟩ := hx
  obtain ⟨h3, h4⟩ := hy
  have e : (x + y).toInt = x.toInt + y.toInt := pn_add rfl rfl (by omega) (by omega)
  exact ⟨by rw [e]; omega, by rw [e]; omega⟩
theorem pv_Bsub {x y : Int64} {A B : Int} (hx : pv_B A x) (hy : pv_B B y) (h : A + B < 9223372036854775808) : pv_B (A + B) (x - y) := by
  obtain ⟨h1, h2⟩ := hx
  obtain ⟨h3, h4⟩ := hy
  have e : (x - y).toInt = x.toInt - y.toInt := pn_sub rfl rfl (by omega) (by omega)
  exact ⟨by rw [e]; omega, by rw [e]; omega⟩
theorem pv_B32 {x : Int32} {m : Int} (h : pv_b m x) : pv_B m x.toInt64 := by
  unfold pv_B; rw [Int32.toInt_toInt64]; exact h
theorem pv_B.mono {x : Int64} {A B : Int} (h : pv_B A x) (hAB : A ≤ B) : pv_B B x := ⟨by have := h.1; omega, by have := h.2; omega⟩
theorem pv_m1 (x : Int64) : (-1) * x = -x := by rw [Int64.neg_mul, Int64.one_mul]
theorem pv_sgc (μ : xs_M) (k : Nat) : (0 ≤ pv_D μ k ∧ pv_sg μ k = 1) ∨ (¬ 0 ≤ pv_D μ k ∧ pv_sg μ k = -1) := by
  unfold pv_sg
  by_cases h : 0 ≤ pv_D μ k
  · rw [if_pos h]; exact Or.inl ⟨h, rfl⟩
  · rw [if_neg h]; exact Or.inr ⟨h, rfl⟩
theorem pv_Bsg {μ : xs_M} {k : Nat} {x : Int64} {A : Int} (hx : pv_B A x) (h : A < 9223372036854775808) : pv_B A (pv_sg μ k * x) := by
  rcases pv_sgc μ k with ⟨_, e⟩ | ⟨_, e⟩
  · rw [e, Int64.one_mul]; exact hx
  · rw [e, pv_m1]
    obtain ⟨h1, h2⟩ := hx
    have e : (-x).toInt = -x.toInt := pn_neg rfl (by omega) (by omega)
    exact ⟨by rw [e]; omega, by rw [e]; omega⟩
theorem pv_Bpc {i m : Nat} (h : i < m) (hm : m ≤ 1000) : pv_B (2 * m - 1) (pv_pc i) := by
  unfold pv_pc
  rw [show 2 * Int32.ofNat i + 1 = Int32.ofNat (2 * i + 1) by rw [show 2 * Int32.ofNat i = Int32.ofNat (2 * i) from ix_mul 2 i]; exact ix_add _ 1]
  apply pv_B32
  unfold pv_b
  rw [ix_ti (by omega)]
  omega
def pv_c3 (μ : xs_M) (k : Nat) : Prop := ∀ n, n < 3 → pv_corner μ k n
theorem pv_Bpl0 {μ : xs_M} {k n : Nat} (h : pv_c3 μ k) (hn : n < 3) : pv_B 1537088 (pv_pl μ k n 0) := pv_B32 (h n hn).2.2.2.2.2.2.1
theorem pv_Bpl1 {μ : xs_M} {k n : Nat} (h : pv_c3 μ k) (hn : n < 3) : pv_B 1152816 (pv_pl μ k n 1) := pv_B32 (h n hn).2.2.2.2.2.2.2.1
theorem pv_Bpl2 {μ : xs_M} {k n : Nat} (h : pv_c3 μ k) (hn : n < 3) : pv_B 48034 (pv_pl μ k n 2) := pv_B32 (h n hn).2.2.2.2.2.2.2.2.1
theorem pv_Bpl3 {μ : xs_M} {k n : Nat} (h : pv_c3 μ k) (hn : n < 3) : pv_B 48034 (pv_pl μ k n 3) := pv_B32 (h n hn).2.2.2.2.2.2.2.2.2.1
theorem pv_BeA {μ : xs_M} {k : Nat} (h : pv_c3 μ k) (n : Nat) : pv_B 110748727488 (pv_eA μ k n) := by
  have m1 : (n + 1) % 3 < 3 := Nat.mod_lt _ (by decide)
  have m2 : (n + 2) % 3 < 3 := Nat.mod_lt _ (by decide)
  exact pv_B.mono (pv_Bsub (pv_Bmul (pv_Bpl1 h m1) (pv_Bpl2 h m2) (by decide)) (pv_Bmul (pv_Bpl2 h m1) (pv_Bpl1 h m2) (by decide)) (by decide)) (by decide)
theorem pv_BeB {μ : xs_M} {k : Nat} (h : pv_c3 μ k) (n : Nat) : pv_B 147664969984 (pv_eB μ k n) := by
  have m1 : (n + 1) % 3 < 3 := Nat.mod_lt _ (by decide)
  have m2 : (n + 2) % 3 < 3 := Nat.mod_lt _ (by decide)
  exact pv_B.mono (pv_Bsub (pv_Bmul (pv_Bpl2 h m1) (pv_Bpl0 h m2) (by decide)) (pv_Bmul (pv_Bpl0 h m1) (pv_Bpl2 h m2) (by decide)) (by decide)) (by decide)
theorem pv_BeC {μ : xs_M} {k : Nat} (h : pv_c3 μ k) (n : Nat) : pv_B 3543959279616 (pv_eC μ k n) := by
  have m1 : (n + 1) % 3 < 3 := Nat.mod_lt _ (by decide)
  have m2 : (n + 2) % 3 < 3 := Nat.mod_lt _ (by decide)
  exact pv_B.mono (pv_Bsub (pv_Bmul (pv_Bpl0 h m1) (pv_Bpl1 h m2) (by decide)) (pv_Bmul (pv_Bpl1 h m1) (pv_Bpl0 h m2) (by decide)) (by decide)) (by decide)
theorem pv_BD {μ : xs_M} {k : Nat} (h : pv_c3 μ k) : pv_B 576460752303423488 (pv_D μ k) :=
  pv_B.mono (pv_Badd (pv_Badd (pv_Bmul (pv_Bpl0 h (n := 0) (by decide)) (pv_BeA h 0) (by decide)) (pv_Bmul (pv_Bpl1 h (n := 0) (by decide)) (pv_BeB h 0) (by decide)) (by decide)) (pv_Bmul (pv_Bpl2 h (n := 0) (by decide)) (pv_BeC h 0) (by decide)) (by decide)) (by decide)
theorem pv_size {μ : xs_M} {k : Nat} (h : pv_c3 μ k) (t : pv_tri μ k) (hD : pv_D μ k ≠ 0) : 0 < (μ.2 (14 + 7 * k) 6).toInt ∧ (μ.2 (14 + 7 * k) 6).toInt ≤ 576460752303423488 := by
  obtain ⟨-, -, -, -, hs, -⟩ := t
  have hb := pv_BD h
  have hne : (pv_D μ k).toInt ≠ 0 := fun q => hD (Int64.toInt_inj.mp (by rw [q]; decide))
  rw [hs]
  rcases pv_sgc μ k with ⟨hge, e⟩ | ⟨hlt, e⟩
  · rw [e, Int64.one_mul]
    rw [Int64.le_iff_toInt_le, show (0 : Int64).toInt = 0 by decide] at hge
    exact ⟨by omega, hb.2⟩
  · rw [e, pv_m1]
    rw [Int64.le_iff_toInt_le, show (0 : Int64).toInt = 0 by decide] at hlt
    have := hb.1
    rw [pn_neg rfl (by omega) (by omega)]
    exact ⟨by omega, by omega⟩
theorem pv_size0 {μ : xs_M} {k : Nat} (t : pv_tri μ k) : μ.2 (14 + 7 * k) 6 = 0 ↔ pv_D μ k = 0 := by
  obtain ⟨-, -, -, -, hs, -⟩ := t
  rw [hs]
  rcases pv_sgc μ k with ⟨_, e⟩ | ⟨_, e⟩
  · rw [e, Int64.one_mul]
  · rw [e, pv_m1]
    constructor
    · intro q
      have := congrArg (fun z => -z) q
      simpa using this
    · intro q; rw [q]; decide
theorem pv_Bpw {μ : xs_M} {k : Nat} (h : pv_c3 μ k) (t : pv_tri μ k) {i j n : Nat} (hi : i < 16) (hj : j < 12) (hn : n < 3) : pv_B 17592186044416 (pv_pw (μ.2 (14 + 7 * k + 4)) (μ.2 (14 + 7 * k + 5)) (μ.2 (14 + 7 * k + 6)) i j n) := by
  obtain ⟨e1, e2, e3⟩ := t.2.2.2.2.2 n hn
  unfold pv_pw
  rw [e1, e2, e3]
  exact pv_B.mono (pv_Badd (pv_Badd (pv_Bmul (pv_Bsg (pv_BeA h n) (by decide)) (pv_Bpc hi (by decide)) (by decide)) (pv_Bmul (pv_Bsg (pv_BeB h n) (by decide)) (pv_Bpc hj (by decide)) (by decide)) (by decide)) (pv_Bsg (pv_BeC h n) (by decide)) (by decide)) (by decide)
theorem pv_Bov {μ : xs_M} {k : Nat} (h : pv_c3 μ k) (t : pv_tri μ k) {i j : Nat} (hi : i < 16) (hj : j < 12) : pv_B 2305843009213693952 (pv_ov (μ.2 (14 + 7 * k + 4)) (μ.2 (14 + 7 * k + 5)) (μ.2 (14 + 7 * k + 6)) (μ.2 (14 + 7 * k + 1)) i j) := by
  have z : ∀ n, n < 3 → pv_B 48034 (μ.2 (14 + 7 * k + 1) (4 * n + 4)) := by
    intro n hn
    rw [(h n hn).2.2.2.1]
    exact pv_Bpl3 h hn
  have w : ∀ n, n < 3 → pv_B 10373464141376 (pv_pw (μ.2 (14 + 7 * k + 4)) (μ.2 (14 + 7 * k + 5)) (μ.2 (14 + 7 * k + 6)) i j n) := by
    intro n hn
    obtain ⟨e1, e2, e3⟩ := t.2.2.2.2.2 n hn
    unfold pv_pw
    rw [e1, e2, e3]
    exact pv_B.mono (pv_Badd (pv_Badd (pv_Bmul (pv_Bsg (pv_BeA h n) (by decide)) (pv_Bpc hi (by decide)) (by decide)) (pv_Bmul (pv_Bsg (pv_BeB h n) (by decide)) (pv_Bpc hj (by decide)) (by decide)) (by decide)) (pv_Bsg (pv_BeC h n) (by decide)) (by decide)) (by decide)
  exact pv_B.mono (pv_Badd (pv_Badd (pv_Bmul (w 0 (by decide)) (z 0 (by decide)) (by decide)) (pv_Bmul (w 1 (by decide)) (z 1 (by decide)) (by decide)) (by decide)) (pv_Bmul (w 2 (by decide)) (z 2 (by decide)) (by decide)) (by decide)) (by decide)
theorem pv_ring (P0 Q0 W0 P1 Q1 W1 P2 Q2 W2 x y s : Int64) :
    (s * (Q1 * W2 - W1 * Q2) * x + s * (W1 * P2 - P1 * W2) * y + s * (P1 * Q2 - Q1 * P2)) * W0 + (s * (Q2 * W0 - W2 * Q0) * x + s * (W2 * P0 - P2 * W0) * y + s * (P2 * Q0 - Q2 * P0)) * W1 + (s * (Q0 * W1 - W0 * Q1) * x + s * (W0 * P1 - P0 * W1) * y + s * (P0 * Q1 - Q0 * P1)) * W2
    = s * (P0 * (Q1 * W2 - W1 * Q2) + Q0 * (W1 * P2 - P1 * W2) + W0 * (P1 * Q2 - Q1 * P2)) := by grind
theorem pv_sumpos {μ : xs_M} {k : Nat} (h : pv_c3 μ k) (t : pv_tri μ k) (hD : pv_D μ k ≠ 0) {i j : Nat} (hi : i < 16) (hj : j < 12) (hc : pv_cov (μ.2 (14 + 7 * k + 4)) (μ.2 (14 + 7 * k + 5)) (μ.2 (14 + 7 * k + 6)) i j = true) : 0 < (pv_sum (μ.2 (14 + 7 * k + 4)) (μ.2 (14 + 7 * k + 5)) (μ.2 (14 + 7 * k + 6)) i j).toInt := by
  have hs := pv_size0 t
  have hr : pv_pw (μ.2 (14 + 7 * k + 4)) (μ.2 (14 + 7 * k + 5)) (μ.2 (14 + 7 * k + 6)) i j 0 * pv_pl μ k 0 2 + pv_pw (μ.2 (14 + 7 * k + 4)) (μ.2 (14 + 7 * k + 5)) (μ.2 (14 + 7 * k + 6)) i j 1 * pv_pl μ k 1 2 + pv_pw (μ.2 (14 + 7 * k + 4)) (μ.2 (14 + 7 * k + 5)) (μ.2 (14 + 7 * k + 6)) i j 2 * pv_pl μ k 2 2 = μ.2 (14 + 7 * k) 6 := by
    obtain ⟨e1, e2, e3⟩ := t.2.2.2.2.2 0 (by decide)
    obtain ⟨f1, f2, f3⟩ := t.2.2.2.2.2 1 (by decide)
    obtain ⟨g1, g2, g3⟩ := t.2.2.2.2.2 2 (by decide)
    rw [t.2.2.2.2.1]
    unfold pv_pw
    rw [e1, e2, e3, f1, f2, f3, g1, g2, g3]
    exact pv_ring (pv_pl μ k 0 0) (pv_pl μ k 0 1) (pv_pl μ k 0 2) (pv_pl μ k 1 0) (pv_pl μ k 1 1) (pv_pl μ k 1 2) (pv_pl μ k 2 0) (pv_pl μ k 2 1) (pv_pl μ k 2 2) (pv_pc i) (pv_pc j) (pv_sg μ k)
  have b0 := pv_Bpw h t hi hj (n := 0) (by decide)
  have b1 := pv_Bpw h t hi hj (n := 1) (by decide)
  have b2 := pv_Bpw h t hi hj (n := 2) (by decide)
  have z0 : (0 : Int64).toInt = 0 := by decide
  have nn : ∀ {a b w : Int64}, pv_pok a b w = true → 0 ≤ w.toInt := by
    intro a b w q
    unfold pv_pok at q
    rw [Bool.or_eq_true, Bool.and_eq_true] at q
    rcases q with q | ⟨q, -⟩
    · have q := of_decide_eq_true q
      rw [Int64.lt_iff_toInt_lt, z0] at q
      omega
    · rw [of_decide_eq_true q, z0]; omega
  unfold pv_cov at hc
  rw [Bool.and_eq_true, Bool.and_eq_true] at hc
  obtain ⟨c0, c1, c2⟩ := hc
  have n0 := nn c0
  have n1 := nn c1
  have n2 := nn c2
  unfold pv_sum
  generalize pv_pw (μ.2 (14 + 7 * k + 4)) (μ.2 (14 + 7 * k + 5)) (μ.2 (14 + 7 * k + 6)) i j 0 = w0 at *
  generalize pv_pw (μ.2 (14 + 7 * k + 4)) (μ.2 (14 + 7 * k + 5)) (μ.2 (14 + 7 * k + 6)) i j 1 = w1 at *
  generalize pv_pw (μ.2 (14 + 7 * k + 4)) (μ.2 (14 + 7 * k + 5)) (μ.2 (14 + 7 * k + 6)) i j 2 = w2 at *
  have u0 := b0.2
  have u1 := b1.2
  have u2 := b2.2
  rw [pn_add (pn_add rfl rfl (by omega) (by omega)) rfl (by omega) (by omega)]
  apply Classical.byContradiction
  intro q
  have e0 : w0 = 0 := Int64.toInt_inj.mp (by rw [z0]; omega)
  have e1 : w1 = 0 := Int64.toInt_inj.mp (by rw [z0]; omega)
  have e2 : w2 = 0 := Int64.toInt_inj.mp (by rw [z0]; omega)
  apply hD
  rw [← hs, ← hr, e0, e1, e2, Int64.zero_mul, Int64.zero_mul, Int64.zero_mul]
  decide
