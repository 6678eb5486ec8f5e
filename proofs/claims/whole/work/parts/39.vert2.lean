/-! vertex -/
theorem pv_ib {a b A B : Int} (h : -A ≤ a ∧ a ≤ A) (h2 : -B ≤ b ∧ b ≤ B) : -(A * B) ≤ a * b ∧ a * b ≤ A * B := by
  have hA : 0 ≤ A := by omega
  have hB : 0 ≤ B := by omega
  by_cases hb : 0 ≤ b
  · have k1 : a * b ≤ A * b := Int.mul_le_mul_of_nonneg_right h.2 hb
    have k2 : A * b ≤ A * B := Int.mul_le_mul_of_nonneg_left h2.2 hA
    have k3 : -A * b ≤ a * b := Int.mul_le_mul_of_nonneg_right h.1 hb
    rw [Int.neg_mul] at k3
    omega
  · have hb' : 0 ≤ -b := by omega
    have k1 : a * -b ≤ A * -b := Int.mul_le_mul_of_nonneg_right h.2 hb'
    have k2 : A * -b ≤ A * B := Int.mul_le_mul_of_nonneg_left (by omega) hA
    have k3 : -A * -b ≤ a * -b := Int.mul_le_mul_of_nonneg_right h.1 hb'
    rw [Int.neg_mul, Int.mul_neg, Int.mul_neg] at k3
    rw [Int.mul_neg, Int.mul_neg] at k1
    rw [Int.mul_neg] at k2
    omega
theorem pv_bmul {x y : Int32} {A B : Int} (hx : pv_b A x) (hy : pv_b B y) (h : A * B < 2147483648) : pv_b (A * B) (x * y) := by
  have k := pv_ib hx hy
  have e : (x * y).toInt = x.toInt * y.toInt := by rw [Int32.toInt_mul]; exact pn_bm32 (by omega) (by omega)
  exact ⟨by rw [e]; omega, by rw [e]; omega⟩
theorem pv_badd {x y : Int32} {A B : Int} (hx : pv_b A x) (hy : pv_b B y) (h : A + B < 2147483648) : pv_b (A + B) (x + y) := by
  obtain ⟨h1, h2⟩ := hx
  obtain ⟨h3, h4⟩ := hy
  have e : (x + y).toInt = x.toInt + y.toInt := by rw [Int32.toInt_add]; exact pn_bm32 (by omega) (by omega)
  exact ⟨by rw [e]; omega, by rw [e]; omega⟩
def pv_rt (f : Nat → Int32) (r : Nat) (x y z : Int32) : Int32 := ((f (4 * r) * x + f (4 * r + 1) * y) + f (4 * r + 2) * z) + f (4 * r + 3)
theorem pv_rt_b {f : Nat → Int32} (hf : ∀ j, j < 16 → pv_b 511 (f j)) {r : Nat} (hr : r < 4) {x y z : Int32} (hx : pv_b 31 x) (hy : pv_b 31 y) (hz : pv_b 31 z) : pv_b 48034 (pv_rt f r x y z) :=
  pv_badd (pv_badd (pv_badd (pv_bmul (hf _ (by omega)) hx (by decide)) (pv_bmul (hf _ (by omega)) hy (by decide)) (by decide)) (pv_bmul (hf _ (by omega)) hz (by decide)) (by decide)) (hf _ (by omega)) (by decide)
theorem ixa0 (n : Nat) : Int32.ofNat n + 0 = Int32.ofNat n := ix_add n 0
theorem pv_rowT (μ : xs_M) {r : Nat} (hr : r < 4) (x y z : Int32) : fn_M_rowTimes μ (Int32.ofNat r) x y z = some (pv_rt (μ.1 2) r x y z) := by
  unfold fn_M_rowTimes fn_M_entryAt
  rw [ixm4', ixa0, ixa1, ixa2, ixa3, if_pos (ix_in (by omega) (by omega)), if_pos (ix_in (by omega) (by omega)), if_pos (ix_in (by omega) (by omega)), if_pos (ix_in (by omega) (by omega)), ix_cl (by omega), ix_cl (by omega), ix_cl (by omega), ix_cl (by omega)]
  rfl
theorem pv_line (μ : xs_M) {r : Nat} (hr : r < 4) (x y z : Int32) : fn_R_line μ (Int32.ofNat r) x y z = some (pv_rt (μ.1 155) r x y z) := by
  unfold fn_R_line
  rw [ixm4, ixa1, ixa2, ixa3, if_pos (ix_in (by omega) (by omega)), if_pos (ix_in (by omega) (by omega)), if_pos (ix_in (by omega) (by omega)), if_pos (ix_in (by omega) (by omega)), ix_cl (by omega), ix_cl (by omega), ix_cl (by omega), ix_cl (by omega)]
  rfl
theorem pv_withinR (μ : xs_M) (x m : Int32) : fn_R_within μ x m = some (if x < -m ∨ m < x then 0 else 1) := by
  unfold fn_R_within
  by_cases h1 : x < -m
  · rw [if_pos h1, if_pos (Or.inl h1)]
  · by_cases h2 : m < x
    · rw [if_neg h1, if_pos h2, if_pos (Or.inr h2)]
    · rw [if_neg h1, if_neg h2, if_neg (by rintro (h | h) <;> contradiction)]
theorem si_fun (μ : xs_M) (i j : Nat) (x : Int32) : (xs_si μ i j x).1 i = upd (μ.1 i) j x := va_up_self ..
theorem sl_fun (μ : xs_M) (i j : Nat) (x : Int64) : (xs_sl μ i j x).2 i = vp_updL (μ.2 i) j x := va_up_self ..
def pv_G (f : Nat → Int32) (t : Nat) (p q w z u v : Int32) : Nat → Int32 := upd (upd (upd (upd (upd (upd f t p) (t + 1) q) (t + 2) w) (t + 3) z) (t + 4) u) (t + 5) v
theorem pv_G_lt {f : Nat → Int32} {t : Nat} {p q w z u v : Int32} {j : Nat} (h : j < t) : pv_G f t p q w z u v j = f j := by
  unfold pv_G upd
  rw [if_neg (by omega), if_neg (by omega), if_neg (by omega), if_neg (by omega), if_neg (by omega), if_neg (by omega)]
theorem pv_G_at {f : Nat → Int32} {t : Nat} {p q w z u v : Int32} : pv_G f t p q w z u v t = p ∧ pv_G f t p q w z u v (t + 1) = q ∧ pv_G f t p q w z u v (t + 2) = w ∧ pv_G f t p q w z u v (t + 3) = z ∧ pv_G f t p q w z u v (t + 4) = u ∧ pv_G f t p q w z u v (t + 5) = v := by
  unfold pv_G upd
  refine ⟨?_, ?_, ?_, ?_, ?_, ?_⟩
  · rw [if_neg (by omega), if_neg (by omega), if_neg (by omega), if_neg (by omega), if_neg (by omega), if_pos rfl]
  · rw [if_neg (by omega), if_neg (by omega), if_neg (by omega), if_neg (by omega), if_pos rfl]
  · rw [if_neg (by omega), if_neg (by omega), if_neg (by omega), if_pos rfl]
  · rw [if_neg (by omega), if_neg (by omega), if_pos rfl]
  · rw [if_neg (by omega), if_pos rfl]
  · rw [if_pos rfl]
/-- the class's memory once a corner is told -/
def pv_c8 (μ : xs_M) (k n : Nat) (p q w z u v : Int32) : xs_M := xs_si (xs_si (xs_sl (xs_sl (xs_sl (xs_sl μ (14 + 7 * k + 1) (4 * n + 1) p.toInt64) (14 + 7 * k + 1) (4 * n + 2) q.toInt64) (14 + 7 * k + 1) (4 * n + 3) w.toInt64) (14 + 7 * k + 1) (4 * n + 4) z.toInt64) (14 + 7 * k + 2) n u) (14 + 7 * k + 3) n v
theorem pv_c8_ag (μ : xs_M) (k n : Nat) (p q w z u v : Int32) : pv_ag [14 + 7 * k + 1, 14 + 7 * k + 2, 14 + 7 * k + 3] μ (pv_c8 μ k n p q w z u v) :=
  ((((((pv_ag.rf _ _).sl (by simp) _ _).sl (by simp) _ _).sl (by simp) _ _).sl (by simp) _ _).si (by simp) _ _).si (by simp) _ _
theorem pv_c8_n (μ : xs_M) (k n : Nat) (p q w z u v : Int32) (j : Nat) : (pv_c8 μ k n p q w z u v).2 (14 + 7 * k + 1) j = if j = 4 * n + 4 then z.toInt64 else if j = 4 * n + 3 then w.toInt64 else if j = 4 * n + 2 then q.toInt64 else if j = 4 * n + 1 then p.toInt64 else μ.2 (14 + 7 * k + 1) j := by
  unfold pv_c8
  rw [si_2, si_2, sl_same, sl_same, sl_same, sl_same]
theorem pv_c8_u (μ : xs_M) (k n : Nat) (p q w z u v : Int32) (j : Nat) : (pv_c8 μ k n p q w z u v).1 (14 + 7 * k + 2) j = if j = n then u else μ.1 (14 + 7 * k + 2) j := by
  unfold pv_c8
  rw [si_ne _ _ _ (by omega), si_same]; rfl
theorem pv_c8_v (μ : xs_M) (k n : Nat) (p q w z u v : Int32) (j : Nat) : (pv_c8 μ k n p q w z u v).1 (14 + 7 * k + 3) j = if j = n then v else μ.1 (14 + 7 * k + 3) j := by
  unfold pv_c8
  rw [si_same, si_ne _ _ _ (by omega)]; rfl
theorem pv_addC {μ : xs_M} {k n : Nat} (hk : k < 20) (hn : n < 3) (h4 : μ.1 0 4 = Int32.ofNat k) (h5 : μ.1 0 5 = Int32.ofNat n) (x y z u v : Int32) :
    fn_S_addCorner μ x y z u v = (if (Int32.ofNat (n + 1)) = 3 then ((fn_T_complete (xs_si (pv_c8 μ k n (16 * (pv_rt (μ.1 2) 0 x y z + pv_rt (μ.1 2) 3 x y z)) (12 * (pv_rt (μ.1 2) 1 x y z + pv_rt (μ.1 2) 3 x y z)) (pv_rt (μ.1 2) 3 x y z) (pv_rt (μ.1 2) 2 x y z) u v) 0 5 (Int32.ofNat (n + 1))) k (μ.1 0 6) (μ.1 0 7) (μ.1 0 8)).bind fun w10 => some (xs_si (xs_si w10 0 4 ((w10.1 0 4) + (1 : Int32))) 0 5 0)) else some (xs_si (pv_c8 μ k n (16 * (pv_rt (μ.1 2) 0 x y z + pv_rt (μ.1 2) 3 x y z)) (12 * (pv_rt (μ.1 2) 1 x y z + pv_rt (μ.1 2) 3 x y z)) (pv_rt (μ.1 2) 3 x y z) (pv_rt (μ.1 2) 2 x y z) u v) 0 5 (Int32.ofNat (n + 1)))) := by
  unfold fn_S_addCorner
  rw [h4, if_pos (ix_in hk (by omega)), ix_cl (by omega), h5]
  rw [show fn_M_rowTimes μ 3 x y z = some (pv_rt (μ.1 2) 3 x y z) from pv_rowT μ (r := 3) (by omega) x y z, Option.bind_some, show fn_M_rowTimes μ 0 x y z = some (pv_rt (μ.1 2) 0 x y z) from pv_rowT μ (r := 0) (by omega) x y z, Option.bind_some, show fn_M_rowTimes μ 1 x y z = some (pv_rt (μ.1 2) 1 x y z) from pv_rowT μ (r := 1) (by omega) x y z, Option.bind_some]
  rw [show fn_T_setPlace μ k (Int32.ofNat n) (16 * (pv_rt (μ.1 2) 0 x y z + pv_rt (μ.1 2) 3 x y z)) (12 * (pv_rt (μ.1 2) 1 x y z + pv_rt (μ.1 2) 3 x y z)) (pv_rt (μ.1 2) 3 x y z) = some (xs_sl (xs_sl (xs_sl μ (14 + 7 * k + 1) (4 * n + 1) (16 * (pv_rt (μ.1 2) 0 x y z + pv_rt (μ.1 2) 3 x y z)).toInt64) (14 + 7 * k + 1) (4 * n + 2) (12 * (pv_rt (μ.1 2) 1 x y z + pv_rt (μ.1 2) 3 x y z)).toInt64) (14 + 7 * k + 1) (4 * n + 3) (pv_rt (μ.1 2) 3 x y z).toInt64) by
    unfold fn_T_setPlace
    rw [ixm4', ixa1, ixa2, ixa3, if_pos (ix_in (by omega) (by omega)), Option.bind_some, if_pos (ix_in (by omega) (by omega)), Option.bind_some, if_pos (ix_in (by omega) (by omega)), Option.bind_some, ix_cl (by omega), ix_cl (by omega), ix_cl (by omega)]]
  rw [Option.bind_some]
  generalize hw6 : xs_sl (xs_sl (xs_sl μ (14 + 7 * k + 1) (4 * n + 1) (16 * (pv_rt (μ.1 2) 0 x y z + pv_rt (μ.1 2) 3 x y z)).toInt64) (14 + 7 * k + 1) (4 * n + 2) (12 * (pv_rt (μ.1 2) 1 x y z + pv_rt (μ.1 2) 3 x y z)).toInt64) (14 + 7 * k + 1) (4 * n + 3) (pv_rt (μ.1 2) 3 x y z).toInt64 = w6
  have w61 : w6.1 = μ.1 := by rw [← hw6]; rfl
  rw [show fn_M_rowTimes w6 2 x y z = some (pv_rt (μ.1 2) 2 x y z) from (pv_rowT w6 (r := 2) (by omega) x y z).trans (by rw [w61]), Option.bind_some, w61, h5]
  rw [show fn_T_setRest w6 k (Int32.ofNat n) (pv_rt (μ.1 2) 2 x y z) u v = some (xs_si (xs_si (xs_sl w6 (14 + 7 * k + 1) (4 * n + 4) (pv_rt (μ.1 2) 2 x y z).toInt64) (14 + 7 * k + 2) n u) (14 + 7 * k + 3) n v) by
    unfold fn_T_setRest
    rw [ixm4', ixa4, if_pos (ix_in (by omega) (by omega)), Option.bind_some, if_pos (ix_in hn (by omega)), Option.bind_some, if_pos (ix_in hn (by omega)), Option.bind_some, ix_cl (by omega), ix_cl (by omega)]]
  rw [Option.bind_some]
  have hc8 : xs_si (xs_si (xs_sl w6 (14 + 7 * k + 1) (4 * n + 4) (pv_rt (μ.1 2) 2 x y z).toInt64) (14 + 7 * k + 2) n u) (14 + 7 * k + 3) n v = pv_c8 μ k n (16 * (pv_rt (μ.1 2) 0 x y z + pv_rt (μ.1 2) 3 x y z)) (12 * (pv_rt (μ.1 2) 1 x y z + pv_rt (μ.1 2) 3 x y z)) (pv_rt (μ.1 2) 3 x y z) (pv_rt (μ.1 2) 2 x y z) u v := by rw [← hw6]; rfl
  rw [hc8]
  generalize hm8 : pv_c8 μ k n (16 * (pv_rt (μ.1 2) 0 x y z + pv_rt (μ.1 2) 3 x y z)) (12 * (pv_rt (μ.1 2) 1 x y z + pv_rt (μ.1 2) 3 x y z)) (pv_rt (μ.1 2) 3 x y z) (pv_rt (μ.1 2) 2 x y z) u v = m8
  have m80 : m8.1 0 = μ.1 0 := by rw [← hm8]; exact (pv_c8_ag ..).1 0 (by simp)
  rw [m80, h5, ixa1, Option.bind_some]
  rw [show (xs_si m8 0 5 (Int32.ofNat (n + 1))).1 0 5 = Int32.ofNat (n + 1) by rw [si_same, if_pos rfl], show (xs_si m8 0 5 (Int32.ofNat (n + 1))).1 0 6 = μ.1 0 6 by rw [si_same, if_neg (by decide), m80], show (xs_si m8 0 5 (Int32.ofNat (n + 1))).1 0 7 = μ.1 0 7 by rw [si_same, if_neg (by decide), m80], show (xs_si m8 0 5 (Int32.ofNat (n + 1))).1 0 8 = μ.1 0 8 by rw [si_same, if_neg (by decide), m80]]
  rfl
