/-! small rows for the pure part: indexes as naturals, loops that count, what a memory keeps -/
theorem ix_cl {n : Nat} (h : n < 2147483648) : (Int32.ofNat n).toNatClampNeg = n := Int32.toNatClampNeg_ofNat_of_lt h
theorem ix_ti {n : Nat} (h : n < 2147483648) : (Int32.ofNat n).toInt = n := Int32.toInt_ofNat_of_lt h
theorem ix_nn {n : Nat} (h : n < 2147483648) : ¬ Int32.ofNat n < 0 := by
  rw [Int32.lt_iff_toInt_lt, ix_ti h]; show ¬ (n : Int) < 0; omega
theorem ix_le {a b : Nat} (ha : a < 2147483648) (hb : b < 2147483648) : Int32.ofNat a ≤ Int32.ofNat b ↔ a ≤ b := by
  rw [Int32.le_iff_toInt_le, ix_ti ha, ix_ti hb]; omega
theorem ix_lt {a b : Nat} (ha : a < 2147483648) (hb : b < 2147483648) : Int32.ofNat a < Int32.ofNat b ↔ a < b := by
  rw [Int32.lt_iff_toInt_lt, ix_ti ha, ix_ti hb]; omega
theorem ix_inj {a b : Nat} (ha : a < 2147483648) (hb : b < 2147483648) : Int32.ofNat a = Int32.ofNat b ↔ a = b := by
  constructor
  · intro h
    have := congrArg Int32.toInt h
    rw [ix_ti ha, ix_ti hb] at this
    omega
  · intro h; rw [h]
theorem ix_in {n L : Nat} (h : n < L) (hL : L ≤ 2147483648) : xs_in (Int32.ofNat n) L = true := by
  unfold xs_in
  rw [decide_eq_false (ix_nn (show n < 2147483648 by omega)), decide_eq_false (by rw [ix_cl (by omega)]; omega)]
  rfl
theorem ix_s (n : Nat) : Int32.ofNat n + 1 = Int32.ofNat (n + 1) := (Int32.ofNat_add n 1).symm
theorem ix_add (a b : Nat) : Int32.ofNat a + Int32.ofNat b = Int32.ofNat (a + b) := (Int32.ofNat_add a b).symm
theorem ix_mul (a b : Nat) : Int32.ofNat a * Int32.ofNat b = Int32.ofNat (a * b) := (Int32.ofNat_mul a b).symm
theorem ix_sub {a b : Nat} (h : b ≤ a) : Int32.ofNat a - Int32.ofNat b = Int32.ofNat (a - b) := by
  rw [Int32.ofNat_sub _ _ h]
theorem ix_div {a b : Nat} (ha : a < 2147483648) (hb : b < 2147483648) : Int32.ofNat a / Int32.ofNat b = Int32.ofNat (a / b) := (Int32.ofNat_div ha hb).symm
theorem ix_mod {a b : Nat} (ha : a < 2147483648) (hb : b < 2147483648) : Int32.ofNat a - Int32.ofNat a / Int32.ofNat b * Int32.ofNat b = Int32.ofNat (a % b) := by
  rw [ix_div ha hb, ix_mul, ix_sub (by exact Nat.div_mul_le_self a b)]
  congr 1
  have := Nat.mod_add_div' a b
  omega
/-- an int that is not below 0 and not above m -/
theorem ix_ex {x : Int32} {m : Nat} (hm : m < 2147483648) (h0 : ¬ x < 0) (h1 : ¬ Int32.ofNat m < x) : ∃ n, n ≤ m ∧ x = Int32.ofNat n := by
  rw [Int32.lt_iff_toInt_lt] at h0 h1
  rw [ix_ti hm] at h1
  have h2 : ¬ x.toInt < 0 := h0
  refine ⟨x.toNatClampNeg, ?_, (Int32.ofNat_toNatClampNeg x ?_).symm⟩
  · show x.toInt.toNat ≤ m; omega
  · rw [Int32.le_iff_toInt_le]; show 0 ≤ x.toInt; omega
/-- a loop that counts from a to N -/
theorem ix_loop {α β : Type} (F : Nat → α → Int32 → Option β) (P : Nat → α → Prop) (N : Nat) (R : α → Option β)
    (hend : ∀ fu a, P N a → F (fu + 1) a (Int32.ofNat N) = R a)
    (hstep : ∀ n a, n < N → P n a → ∃ a', (∀ fu, F (fu + 1) a (Int32.ofNat n) = F fu a' (Int32.ofNat (n + 1))) ∧ P (n + 1) a') :
    ∀ r n fu a, n + r = N → r < fu → P n a → ∃ a', F fu a (Int32.ofNat n) = R a' ∧ P N a' := by
  intro r
  induction r with
  | zero =>
    intro n fu a h1 h2 h3
    obtain ⟨f, rfl⟩ : ∃ f, fu = f + 1 := ⟨fu - 1, by omega⟩
    have : n = N := by omega
    subst this
    exact ⟨a, hend f a h3, h3⟩
  | succ r ih =>
    intro n fu a h1 h2 h3
    obtain ⟨f, rfl⟩ : ∃ f, fu = f + 1 := ⟨fu - 1, by omega⟩
    obtain ⟨a', h4, h5⟩ := hstep n a (by omega) h3
    rw [h4]
    exact ih (n + 1) f a' (by omega) (by omega) h5
theorem ix_for {α β : Type} (F : Nat → α → Int32 → Option β) (P : Nat → α → Prop) (N : Nat) (R : α → Option β) (a : α) (hN : N < 1000)
    (h0 : P 0 a) (hend : ∀ fu a, P N a → F (fu + 1) a (Int32.ofNat N) = R a)
    (hstep : ∀ n a, n < N → P n a → ∃ a', (∀ fu, F (fu + 1) a (Int32.ofNat n) = F fu a' (Int32.ofNat (n + 1))) ∧ P (n + 1) a') :
    ∃ a', F xs_FU a 0 = R a' ∧ P N a' := by
  have h := ix_loop F P N R hend hstep N 0 xs_FU a (by omega) (by show N < 1000; exact hN) h0
  exact h
/-! the two memories agree but at some cells -/
def pv_ag (S : List Nat) (μ μ' : xs_M) : Prop := (∀ i, i ∉ S → μ'.1 i = μ.1 i) ∧ ∀ i, i ∉ S → μ'.2 i = μ.2 i
theorem pv_ag.rf (S : List Nat) (μ : xs_M) : pv_ag S μ μ := ⟨fun _ _ => rfl, fun _ _ => rfl⟩
theorem pv_ag.tr {S T : List Nat} {a b c : xs_M} (h : pv_ag S a b) (h2 : pv_ag T b c) : pv_ag (S ++ T) a c :=
  ⟨fun i hi => (h2.1 i (fun q => hi (List.mem_append_right _ q))).trans (h.1 i (fun q => hi (List.mem_append_left _ q))), fun i hi => (h2.2 i (fun q => hi (List.mem_append_right _ q))).trans (h.2 i (fun q => hi (List.mem_append_left _ q)))⟩
theorem pv_ag.mono {S T : List Nat} {a b : xs_M} (h : pv_ag S a b) (hs : ∀ i, i ∈ S → i ∈ T) : pv_ag T a b := ⟨fun i hi => h.1 i (fun q => hi (hs i q)), fun i hi => h.2 i (fun q => hi (hs i q))⟩
theorem pv_ag.si {S : List Nat} {a b : xs_M} (h : pv_ag S a b) {i : Nat} (hi : i ∈ S) (j : Nat) (x : Int32) : pv_ag S a (xs_si b i j x) :=
  ⟨fun k hk => (va_up_ne (k := i) (j := k) _ _ (fun q => hk (by rw [q]; exact hi))).trans (h.1 k hk), h.2⟩
theorem pv_ag.sl {S : List Nat} {a b : xs_M} (h : pv_ag S a b) {i : Nat} (hi : i ∈ S) (j : Nat) (x : Int64) : pv_ag S a (xs_sl b i j x) :=
  ⟨h.1, fun k hk => (va_up_ne (k := i) (j := k) _ _ (fun q => hk (by rw [q]; exact hi))).trans (h.2 k hk)⟩
theorem pv_ag.sa {S : List Nat} {a b : xs_M} (h : pv_ag S a b) {i : Nat} (hi : i ∈ S) (f : Nat → Int32) : pv_ag S a (xs_sa b i f) :=
  ⟨fun k hk => (va_up_ne (k := i) (j := k) _ _ (fun q => hk (by rw [q]; exact hi))).trans (h.1 k hk), h.2⟩
theorem si_same (μ : xs_M) (i j k : Nat) (x : Int32) : (xs_si μ i j x).1 i k = if k = j then x else μ.1 i k := by
  show (va_up μ.1 i (upd (μ.1 i) j x) i) k = _; rw [va_up_self]; rfl
theorem si_ne (μ : xs_M) {i i' : Nat} (j : Nat) (x : Int32) (h : i' ≠ i) : (xs_si μ i j x).1 i' = μ.1 i' := va_up_ne _ _ h
theorem si_2 (μ : xs_M) (i j : Nat) (x : Int32) : (xs_si μ i j x).2 = μ.2 := rfl
theorem sl_same (μ : xs_M) (i j k : Nat) (x : Int64) : (xs_sl μ i j x).2 i k = if k = j then x else μ.2 i k := by
  show (va_up μ.2 i (vp_updL (μ.2 i) j x) i) k = _; rw [va_up_self]; rfl
theorem sl_ne (μ : xs_M) {i i' : Nat} (j : Nat) (x : Int64) (h : i' ≠ i) : (xs_sl μ i j x).2 i' = μ.2 i' := va_up_ne _ _ h
theorem sl_1 (μ : xs_M) (i j : Nat) (x : Int64) : (xs_sl μ i j x).1 = μ.1 := rfl
theorem sa_same (μ : xs_M) (i : Nat) (f : Nat → Int32) : (xs_sa μ i f).1 i = f := va_up_self ..
theorem sa_ne (μ : xs_M) {i i' : Nat} (f : Nat → Int32) (h : i' ≠ i) : (xs_sa μ i f).1 i' = μ.1 i' := va_up_ne _ _ h
theorem sa_2 (μ : xs_M) (i : Nat) (f : Nat → Int32) : (xs_sa μ i f).2 = μ.2 := rfl
/-! what the class's cells and the reference's have in common -/
def pv_b (m : Int) (x : Int32) : Prop := -m ≤ x.toInt ∧ x.toInt ≤ m
def pv_mat (c now : Nat → Int32) : Prop := ∀ j, j < 16 → c j = now j ∧ pv_b 511 (c j)
def pv_pile (c now : Nat → Int32) : Prop := ∀ j, j < 64 → c j = now j ∧ pv_b 511 (c j)
def pv_num (m : Nat) (x y : Int32) : Prop := ∃ n, n ≤ m ∧ x = Int32.ofNat n ∧ y = Int32.ofNat n
def pv_tex (f g : Nat → Int32) : Prop := ∀ a b c, a < 2 → b < 8 → c < 8 → f (64 * a + 8 * c + b) = g (64 * a + 8 * b + c)
/-- corner n of triangle k -/
def pv_corner (μ : xs_M) (k n : Nat) : Prop :=
  μ.2 (14 + 7 * k + 1) (4 * n + 1) = (μ.1 159 (18 * k + 6 * n)).toInt64 ∧ μ.2 (14 + 7 * k + 1) (4 * n + 2) = (μ.1 159 (18 * k + 6 * n + 1)).toInt64 ∧ μ.2 (14 + 7 * k + 1) (4 * n + 3) = (μ.1 159 (18 * k + 6 * n + 2)).toInt64 ∧ μ.2 (14 + 7 * k + 1) (4 * n + 4) = (μ.1 159 (18 * k + 6 * n + 3)).toInt64 ∧
  μ.1 (14 + 7 * k + 2) n = μ.1 159 (18 * k + 6 * n + 4) ∧ μ.1 (14 + 7 * k + 3) n = μ.1 159 (18 * k + 6 * n + 5) ∧
  pv_b 1537088 (μ.1 159 (18 * k + 6 * n)) ∧ pv_b 1152816 (μ.1 159 (18 * k + 6 * n + 1)) ∧ pv_b 48034 (μ.1 159 (18 * k + 6 * n + 2)) ∧ pv_b 48034 (μ.1 159 (18 * k + 6 * n + 3)) ∧ pv_b 127 (μ.1 159 (18 * k + 6 * n + 4)) ∧ pv_b 127 (μ.1 159 (18 * k + 6 * n + 5))
def pv_pl (μ : xs_M) (k n c : Nat) : Int64 := (μ.1 159 (18 * k + 6 * n + c)).toInt64
def pv_eA (μ : xs_M) (k n : Nat) : Int64 := pv_pl μ k ((n + 1) % 3) 1 * pv_pl μ k ((n + 2) % 3) 2 - pv_pl μ k ((n + 1) % 3) 2 * pv_pl μ k ((n + 2) % 3) 1
def pv_eB (μ : xs_M) (k n : Nat) : Int64 := pv_pl μ k ((n + 1) % 3) 2 * pv_pl μ k ((n + 2) % 3) 0 - pv_pl μ k ((n + 1) % 3) 0 * pv_pl μ k ((n + 2) % 3) 2
def pv_eC (μ : xs_M) (k n : Nat) : Int64 := pv_pl μ k ((n + 1) % 3) 0 * pv_pl μ k ((n + 2) % 3) 1 - pv_pl μ k ((n + 1) % 3) 1 * pv_pl μ k ((n + 2) % 3) 0
def pv_D (μ : xs_M) (k : Nat) : Int64 := pv_pl μ k 0 0 * pv_eA μ k 0 + pv_pl μ k 0 1 * pv_eB μ k 0 + pv_pl μ k 0 2 * pv_eC μ k 0
def pv_sg (μ : xs_M) (k : Nat) : Int64 := if 0 ≤ pv_D μ k then 1 else -1
def pv_tri (μ : xs_M) (k : Nat) : Prop :=
  pv_num 1 (μ.1 (14 + 7 * k) 7) (μ.1 160 k) ∧ pv_num 1 (μ.1 (14 + 7 * k) 8) (μ.1 161 k) ∧ pv_num 2 (μ.1 (14 + 7 * k) 9) (μ.1 162 k) ∧
  μ.2 (14 + 7 * k + 1) 0 = pv_D μ k ∧ μ.2 (14 + 7 * k) 6 = pv_sg μ k * pv_D μ k ∧
  ∀ n, n < 3 → μ.2 (14 + 7 * k + 4) n = pv_sg μ k * pv_eA μ k n ∧ μ.2 (14 + 7 * k + 5) n = pv_sg μ k * pv_eB μ k n ∧ μ.2 (14 + 7 * k + 6) n = pv_sg μ k * pv_eC μ k n
def pv_cnt (μ : xs_M) (tc ct : Nat) : Prop :=
  (tc ≤ 20 ∧ ct < 3 ∧ (tc = 20 → ct = 0)) ∧ (μ.1 0 4 = Int32.ofNat tc ∧ μ.1 0 5 = Int32.ofNat ct ∧ μ.1 154 9 = Int32.ofNat (3 * tc + ct)) ∧ (∀ k n, n < 3 → 3 * k + n < 3 * tc + ct → pv_corner μ k n) ∧ ∀ k, k < tc → pv_tri μ k
def pv_dp (o1 : Int32) (a b a2 b2 : Int64) : Prop := o1 = -1 ∨ ((∃ k, k < 20 ∧ o1 = Int32.ofNat k) ∧ a = a2 ∧ b = b2 ∧ (-2305843009213693952 ≤ a.toInt ∧ a.toInt ≤ 2305843009213693952) ∧ 0 < b.toInt ∧ b.toInt ≤ 576460752303423488)
def pv_pic (c1 o1 : Nat → Int32) (a b : Nat → Int64) (c2 o2 : Nat → Int32) (a2 b2 : Nat → Int64) : Prop := ∀ p, p < 192 → c1 p = c2 p ∧ o1 p = o2 p ∧ pv_dp (o1 p) (a p) (b p) (a2 p) (b2 p)
def pv_I (μ : xs_M) : Prop := (pv_mat (μ.1 2) (μ.1 155)) ∧ (pv_pile (μ.1 3) (μ.1 157)) ∧ (pv_num 4 (μ.1 1 4) (μ.1 154 4)) ∧ (pv_num 1 (μ.1 0 6) (μ.1 154 5)) ∧ (pv_num 1 (μ.1 0 7) (μ.1 154 6)) ∧ (pv_num 2 (μ.1 0 8) (μ.1 154 7)) ∧ (pv_tex (μ.1 7) (μ.1 158)) ∧ (∃ tc ct, pv_cnt μ tc ct) ∧ (pv_pic (μ.1 9) (μ.1 10) (μ.2 11) (μ.2 12) (μ.1 168) (μ.1 167) (μ.2 169) (μ.2 170))
theorem pv_I.mk {μ : xs_M} (mat : pv_mat (μ.1 2) (μ.1 155)) (pile : pv_pile (μ.1 3) (μ.1 157)) (saved : pv_num 4 (μ.1 1 4) (μ.1 154 4)) (use1 : pv_num 1 (μ.1 0 6) (μ.1 154 5)) (use2 : pv_num 1 (μ.1 0 7) (μ.1 154 6)) (use3 : pv_num 2 (μ.1 0 8) (μ.1 154 7)) (tex : pv_tex (μ.1 7) (μ.1 158)) (cnt : ∃ tc ct, pv_cnt μ tc ct) (pic : pv_pic (μ.1 9) (μ.1 10) (μ.2 11) (μ.2 12) (μ.1 168) (μ.1 167) (μ.2 169) (μ.2 170)) : pv_I μ := ⟨mat, pile, saved, use1, use2, use3, tex, cnt, pic⟩
theorem pv_I.mat {μ : xs_M} (h : pv_I μ) : pv_mat (μ.1 2) (μ.1 155) := h.1
theorem pv_I.pile {μ : xs_M} (h : pv_I μ) : pv_pile (μ.1 3) (μ.1 157) := h.2.1
theorem pv_I.saved {μ : xs_M} (h : pv_I μ) : pv_num 4 (μ.1 1 4) (μ.1 154 4) := h.2.2.1
theorem pv_I.use1 {μ : xs_M} (h : pv_I μ) : pv_num 1 (μ.1 0 6) (μ.1 154 5) := h.2.2.2.1
theorem pv_I.use2 {μ : xs_M} (h : pv_I μ) : pv_num 1 (μ.1 0 7) (μ.1 154 6) := h.2.2.2.2.1
theorem pv_I.use3 {μ : xs_M} (h : pv_I μ) : pv_num 2 (μ.1 0 8) (μ.1 154 7) := h.2.2.2.2.2.1
theorem pv_I.tex {μ : xs_M} (h : pv_I μ) : pv_tex (μ.1 7) (μ.1 158) := h.2.2.2.2.2.2.1
theorem pv_I.cnt {μ : xs_M} (h : pv_I μ) : ∃ tc ct, pv_cnt μ tc ct := h.2.2.2.2.2.2.2.1
theorem pv_I.pic {μ : xs_M} (h : pv_I μ) : pv_pic (μ.1 9) (μ.1 10) (μ.2 11) (μ.2 12) (μ.1 168) (μ.1 167) (μ.2 169) (μ.2 170) := h.2.2.2.2.2.2.2.2
theorem pv_corner.fr {μ μ' : xs_M} {k n : Nat} (h : pv_corner μ k n) (e1 : μ'.2 (14 + 7 * k + 1) = μ.2 (14 + 7 * k + 1)) (e2 : μ'.1 (14 + 7 * k + 2) = μ.1 (14 + 7 * k + 2)) (e3 : μ'.1 (14 + 7 * k + 3) = μ.1 (14 + 7 * k + 3)) (e4 : μ'.1 159 = μ.1 159) : pv_corner μ' k n := by
  unfold pv_corner; rw [e1, e2, e3, e4]; exact h
theorem pv_D.fr {μ μ' : xs_M} {k : Nat} (e : μ'.1 159 = μ.1 159) : pv_D μ' k = pv_D μ k ∧ pv_sg μ' k = pv_sg μ k ∧ (∀ n, pv_eA μ' k n = pv_eA μ k n) ∧ (∀ n, pv_eB μ' k n = pv_eB μ k n) ∧ ∀ n, pv_eC μ' k n = pv_eC μ k n := by
  unfold pv_sg pv_D pv_eA pv_eB pv_eC pv_pl; rw [e]; exact ⟨rfl, rfl, fun _ => rfl, fun _ => rfl, fun _ => rfl⟩
theorem pv_tri.fr {μ μ' : xs_M} {k : Nat} (h : pv_tri μ k) (e1 : ∀ j, j < 7 → μ'.2 (14 + 7 * k + j) = μ.2 (14 + 7 * k + j)) (e2 : μ'.1 (14 + 7 * k) = μ.1 (14 + 7 * k)) (e3 : μ'.1 159 = μ.1 159) (e4 : μ'.1 160 k = μ.1 160 k) (e5 : μ'.1 161 k = μ.1 161 k) (e6 : μ'.1 162 k = μ.1 162 k) : pv_tri μ' k := by
  obtain ⟨d1, d2, d3, d4, d5⟩ := pv_D.fr (k := k) e3
  unfold pv_tri
  rw [e2, e4, e5, e6, d1, d2, e1 1 (by omega), e1 4 (by omega), e1 5 (by omega), e1 6 (by omega), show μ'.2 (14 + 7 * k) = μ.2 (14 + 7 * k) from e1 0 (by omega)]
  simp only [d3, d4, d5]
  exact h
theorem pv_cnt.fr {μ μ' : xs_M} {tc ct : Nat} (h : pv_cnt μ tc ct) (e0 : μ'.1 0 4 = μ.1 0 4 ∧ μ'.1 0 5 = μ.1 0 5 ∧ μ'.1 154 9 = μ.1 154 9) (e1 : ∀ i, 14 ≤ i → i < 154 → μ'.1 i = μ.1 i ∧ μ'.2 i = μ.2 i) (e3 : μ'.1 159 = μ.1 159) (e4 : μ'.1 160 = μ.1 160) (e5 : μ'.1 161 = μ.1 161) (e6 : μ'.1 162 = μ.1 162) : pv_cnt μ' tc ct := by
  obtain ⟨h1, h2, h3, h4⟩ := h
  refine ⟨h1, ?_, fun k n hn hk => ?_, fun k hk => ?_⟩
  · rw [e0.1, e0.2.1, e0.2.2]; exact h2
  · have hk2 : k < 20 := by omega
    exact (h3 k n hn hk).fr (e1 _ (by omega) (by omega)).2 (e1 _ (by omega) (by omega)).1 (e1 _ (by omega) (by omega)).1 e3
  · have hk2 : k < 20 := by omega
    exact (h4 k hk).fr (fun j hj => (e1 _ (by omega) (by omega)).2) (e1 _ (by omega) (by omega)).1 e3 (by rw [e4]) (by rw [e5]) (by rw [e6])
/-- what no part of the relation speaks of: code, made, det, edges, values; factor, product -/
theorem pv_I.fr {μ μ' : xs_M} (h : pv_I μ) {S : List Nat} (hS : ∀ i, i ∈ S → i = 4 ∨ i = 5 ∨ i = 154 ∨ i = 156 ∨ i = 163 ∨ i = 164 ∨ i = 165 ∨ i = 166 ∨ i = 171) (ha : pv_ag S μ μ') (h4 : μ'.1 154 4 = μ.1 154 4) (h5 : μ'.1 154 5 = μ.1 154 5) (h6 : μ'.1 154 6 = μ.1 154 6) (h7 : μ'.1 154 7 = μ.1 154 7) (h9 : μ'.1 154 9 = μ.1 154 9) : pv_I μ' := by
  have e : ∀ i, ¬ (i = 4 ∨ i = 5 ∨ i = 154 ∨ i = 156 ∨ i = 163 ∨ i = 164 ∨ i = 165 ∨ i = 166 ∨ i = 171) → μ'.1 i = μ.1 i ∧ μ'.2 i = μ.2 i := fun i hi => ⟨ha.1 i (fun q => hi (hS i q)), ha.2 i (fun q => hi (hS i q))⟩
  obtain ⟨tc, ct, hc⟩ := h.cnt
  refine pv_I.mk ?_ ?_ ?_ ?_ ?_ ?_ ?_ ?_ ?_
  · rw [(e 2 (by omega)).1, (e 155 (by omega)).1]; exact h.mat
  · rw [(e 3 (by omega)).1, (e 157 (by omega)).1]; exact h.pile
  · rw [(e 1 (by omega)).1, h4]; exact h.saved
  · rw [(e 0 (by omega)).1, h5]; exact h.use1
  · rw [(e 0 (by omega)).1, h6]; exact h.use2
  · rw [(e 0 (by omega)).1, h7]; exact h.use3
  · rw [(e 7 (by omega)).1, (e 158 (by omega)).1]; exact h.tex
  · refine ⟨tc, ct, hc.fr ?_ ?_ (e 159 (by omega)).1 (e 160 (by omega)).1 (e 161 (by omega)).1 (e 162 (by omega)).1⟩
    · rw [(e 0 (by omega)).1]; exact ⟨rfl, rfl, h9⟩
    · intro i h1 h2; exact e i (by omega)
  · rw [(e 9 (by omega)).1, (e 10 (by omega)).1, (e 11 (by omega)).2, (e 12 (by omega)).2, (e 168 (by omega)).1, (e 167 (by omega)).1, (e 169 (by omega)).2, (e 170 (by omega)).2]; exact h.pic
/-- code alone -/
theorem pv_I.code {μ : xs_M} (h : pv_I μ) (x : Int32) : pv_I (xs_si μ 154 0 x) := by
  refine h.fr (S := [154]) (by simp) ((pv_ag.rf _ _).si (by simp) _ _) ?_ ?_ ?_ ?_ ?_ <;> rw [si_same] <;> rfl
theorem pv_I.out {μ : xs_M} (h : pv_I μ) (x : Int64) : pv_I (xs_sl μ 171 0 x) := by
  refine h.fr (S := [171]) (by simp) ((pv_ag.rf _ _).sl (by simp) _ _) rfl rfl rfl rfl rfl
