/-! products of matrices: the class's multiply -/
theorem ix_loopE {α β : Type} (F : Nat → α → Int32 → Option β) (P : Nat → α → Prop) (N : Nat) (R : α → Option β) (Q : β → Prop)
    (hend : ∀ fu a, P N a → F (fu + 1) a (Int32.ofNat N) = R a)
    (hstep : ∀ n a, n < N → P n a → (∃ a', (∀ fu, F (fu + 1) a (Int32.ofNat n) = F fu a' (Int32.ofNat (n + 1))) ∧ P (n + 1) a') ∨ ∃ b, (∀ fu, F (fu + 1) a (Int32.ofNat n) = some b) ∧ Q b) :
    ∀ r n fu a, n + r = N → r < fu → P n a → (∃ a', F fu a (Int32.ofNat n) = R a' ∧ P N a') ∨ ∃ b, F fu a (Int32.ofNat n) = some b ∧ Q b := by
  intro r
  induction r with
  | zero =>
    intro n fu a h1 h2 h3
    obtain ⟨f, rfl⟩ : ∃ f, fu = f + 1 := ⟨fu - 1, by omega⟩
    have : n = N := by omega
    subst this
    exact Or.inl ⟨a, hend f a h3, h3⟩
  | succ r ih =>
    intro n fu a h1 h2 h3
    obtain ⟨f, rfl⟩ : ∃ f, fu = f + 1 := ⟨fu - 1, by omega⟩
    rcases hstep n a (by omega) h3 with ⟨a', h4, h5⟩ | ⟨b, h4, h5⟩
    · rw [h4]
      exact ih (n + 1) f a' (by omega) (by omega) h5
    · exact Or.inr ⟨b, h4 f, h5⟩
theorem ix_forE {α β : Type} (F : Nat → α → Int32 → Option β) (P : Nat → α → Prop) (N : Nat) (R : α → Option β) (Q : β → Prop) (a : α) (hN : N < 1000)
    (h0 : P 0 a) (hend : ∀ fu a, P N a → F (fu + 1) a (Int32.ofNat N) = R a)
    (hstep : ∀ n a, n < N → P n a → (∃ a', (∀ fu, F (fu + 1) a (Int32.ofNat n) = F fu a' (Int32.ofNat (n + 1))) ∧ P (n + 1) a') ∨ ∃ b, (∀ fu, F (fu + 1) a (Int32.ofNat n) = some b) ∧ Q b) :
    (∃ a', F xs_FU a 0 = R a' ∧ P N a') ∨ ∃ b, F xs_FU a 0 = some b ∧ Q b :=
  ix_loopE F P N R Q hend hstep N 0 xs_FU a (by omega) (by show N < 1000; exact hN) h0
def pv_ps (f : Nat → Int32) (s : Nat) (g : Nat → Int32) (r c : Nat) : Nat → Int64
  | 0 => 0
  | n + 1 => pv_ps f s g r c n + (f (s + 4 * r + n)).toInt64 * (g (4 * n + c)).toInt64
def pv_pj (f : Nat → Int32) (s : Nat) (g : Nat → Int32) (j : Nat) : Int64 := pv_ps f s g (j / 4) (j % 4) 4
def pv_ft (v : Int64) : Prop := ¬ (v < -511 ∨ 511 < v)
theorem pv_pj_rc (f : Nat → Int32) (s : Nat) (g : Nat → Int32) {r c : Nat} (hc : c < 4) : pv_pj f s g (4 * r + c) = pv_ps f s g r c 4 := by
  unfold pv_pj
  rw [show (4 * r + c) / 4 = r by omega, show (4 * r + c) % 4 = c by omega]
theorem pv_L24 (μ : xs_M) {q0 n0 q2 s r c : Nat} (hr : r < 4) (hc : c < 4) (hs : s + 16 ≤ n0) (hn : n0 ≤ 64) : fn_M_multiply_L24 xs_FU μ q0 n0 q2 (Int32.ofNat s) (Int32.ofNat r) (Int32.ofNat c) 0 0 = some (pv_ps (μ.1 q0) s (μ.1 q2) r c 4, 4) := by
  obtain ⟨a, h1, h2⟩ := ix_for (fun fu a v => fn_M_multiply_L24 fu μ q0 n0 q2 (Int32.ofNat s) (Int32.ofNat r) (Int32.ofNat c) a v) (fun n a => a = pv_ps (μ.1 q0) s (μ.1 q2) r c n) 4 (fun a => some (a, 4)) 0 (by omega) rfl
    (fun fu a h => by show fn_M_multiply_L24 (fu + 1) _ _ _ _ _ _ _ _ (Int32.ofNat 4) = _; rw [fn_M_multiply_L24, if_pos pv_e4]; rfl)
    (fun n a hn4 h => by
      refine ⟨_, fun fu => ?_, rfl⟩
      show fn_M_multiply_L24 (fu + 1) _ _ _ _ _ _ _ _ (Int32.ofNat n) = _
      rw [fn_M_multiply_L24, if_neg (pv_n4 hn4)]
      simp only [ixm4', ix_add, ix_in (show s + 4 * r + n < n0 by omega) (by omega), ix_in (show 4 * n + c < 16 by omega) (by omega), if_true, ix_cl (show s + 4 * r + n < 2147483648 by omega), ix_cl (show 4 * n + c < 2147483648 by omega), Option.bind_some, ixa1, h]
      rfl)
  have h1' : fn_M_multiply_L24 xs_FU μ q0 n0 q2 (Int32.ofNat s) (Int32.ofNat r) (Int32.ofNat c) 0 0 = some (a, 4) := h1
  rw [h1', h2]
theorem pv_L12 (μ : xs_M) {q0 n0 q2 s r : Nat} (h0 : q0 ≠ 5) (h2 : q2 ≠ 5) (hr : r < 4) (hs : s + 16 ≤ n0) (hn : n0 ≤ 64) :
    (∃ a, fn_M_multiply_L12 xs_FU μ q0 n0 q2 (Int32.ofNat s) (Int32.ofNat r) 0 = some (.inl (4, a)) ∧ pv_ag [5] μ a ∧ (∀ c, c < 4 → pv_ft (pv_pj (μ.1 q0) s (μ.1 q2) (4 * r + c)) ∧ a.1 5 (4 * r + c) = (pv_pj (μ.1 q0) s (μ.1 q2) (4 * r + c)).toInt32) ∧ ∀ j, j < 4 * r → a.1 5 j = μ.1 5 j) ∨
    ∃ a, fn_M_multiply_L12 xs_FU μ q0 n0 q2 (Int32.ofNat s) (Int32.ofNat r) 0 = some (.inr (0, a)) ∧ pv_ag [5] μ a ∧ ∃ j, j < 16 ∧ ¬ pv_ft (pv_pj (μ.1 q0) s (μ.1 q2) j) := by
  have key := ix_forE (fun fu a v => fn_M_multiply_L12 fu a q0 n0 q2 (Int32.ofNat s) (Int32.ofNat r) v) (fun k a => pv_ag [5] μ a ∧ (∀ c, c < k → pv_ft (pv_pj (μ.1 q0) s (μ.1 q2) (4 * r + c)) ∧ a.1 5 (4 * r + c) = (pv_pj (μ.1 q0) s (μ.1 q2) (4 * r + c)).toInt32) ∧ ∀ j, j < 4 * r → a.1 5 j = μ.1 5 j) 4 (fun a => some (.inl (4, a))) (fun b => ∃ a, b = .inr (0, a) ∧ pv_ag [5] μ a ∧ ∃ j, j < 16 ∧ ¬ pv_ft (pv_pj (μ.1 q0) s (μ.1 q2) j)) μ (by omega)
    ⟨pv_ag.rf _ _, fun c hc => absurd hc (by omega), fun _ _ => rfl⟩
    (fun fu a h => by show fn_M_multiply_L12 (fu + 1) _ _ _ _ _ _ (Int32.ofNat 4) = _; rw [fn_M_multiply_L12, if_pos pv_e4]; rfl)
    (fun c a hc h => by
      obtain ⟨g1, g2, g3⟩ := h
      have e0 : a.1 q0 = μ.1 q0 := g1.1 _ (by simpa using h0)
      have e2 : a.1 q2 = μ.1 q2 := g1.1 _ (by simpa using h2)
      have un : ∀ fu, fn_M_multiply_L12 (fu + 1) a q0 n0 q2 (Int32.ofNat s) (Int32.ofNat r) (Int32.ofNat c) = if ((if pv_pj (μ.1 q0) s (μ.1 q2) (4 * r + c) < -511 ∨ 511 < pv_pj (μ.1 q0) s (μ.1 q2) (4 * r + c) then 0 else 1 : Int32) = 0) then some (.inr (0, a)) else fn_M_multiply_L12 fu (xs_si a 5 (4 * r + c) (pv_pj (μ.1 q0) s (μ.1 q2) (4 * r + c)).toInt32) q0 n0 q2 (Int32.ofNat s) (Int32.ofNat r) (Int32.ofNat (c + 1)) := by
        intro fu
        rw [fn_M_multiply_L12, if_neg (pv_n4 hc), pv_L24 a hr hc hs hn, e0, e2, ← pv_pj_rc _ _ _ hc]
        simp only [Option.bind_some, pv_isEntry, ixm4', ix_add, ix_in (show 4 * r + c < 16 by omega) (by omega), if_true, ix_cl (show 4 * r + c < 2147483648 by omega), ixa1]
      by_cases q : pv_pj (μ.1 q0) s (μ.1 q2) (4 * r + c) < -511 ∨ 511 < pv_pj (μ.1 q0) s (μ.1 q2) (4 * r + c)
      · refine Or.inr ⟨.inr (0, a), fun fu => ?_, a, rfl, g1, 4 * r + c, by omega, fun w => w q⟩
        show fn_M_multiply_L12 (fu + 1) a q0 n0 q2 (Int32.ofNat s) (Int32.ofNat r) (Int32.ofNat c) = _
        rw [un, if_pos q, if_pos rfl]
      · refine Or.inl ⟨xs_si a 5 (4 * r + c) (pv_pj (μ.1 q0) s (μ.1 q2) (4 * r + c)).toInt32, fun fu => ?_, g1.si (by simp) _ _, fun c' hc' => ?_, fun j hj => ?_⟩
        · show fn_M_multiply_L12 (fu + 1) a q0 n0 q2 (Int32.ofNat s) (Int32.ofNat r) (Int32.ofNat c) = _
          rw [un, if_neg q, if_neg (by decide)]
        · rw [si_same]
          by_cases e : c' = c
          · subst e; rw [if_pos rfl]; exact ⟨q, rfl⟩
          · rw [if_neg (by omega)]; exact g2 c' (by omega)
        · rw [si_same, if_neg (by omega)]; exact g3 j hj)
  rcases key with ⟨a, k1, k2⟩ | ⟨b, k1, a, rfl, k2⟩
  · exact Or.inl ⟨a, k1, k2⟩
  · exact Or.inr ⟨a, k1, k2⟩
theorem pv_L3 (μ : xs_M) {q0 n0 q2 s : Nat} (h0 : q0 ≠ 5) (h2 : q2 ≠ 5) (hs : s + 16 ≤ n0) (hn : n0 ≤ 64) :
    (∃ a, fn_M_multiply_L3 xs_FU μ q0 n0 q2 (Int32.ofNat s) 0 = some (.inl (4, a)) ∧ pv_ag [5] μ a ∧ ∀ j, j < 16 → pv_ft (pv_pj (μ.1 q0) s (μ.1 q2) j) ∧ a.1 5 j = (pv_pj (μ.1 q0) s (μ.1 q2) j).toInt32) ∨
    ∃ a, fn_M_multiply_L3 xs_FU μ q0 n0 q2 (Int32.ofNat s) 0 = some (.inr (0, a)) ∧ pv_ag [5] μ a ∧ ∃ j, j < 16 ∧ ¬ pv_ft (pv_pj (μ.1 q0) s (μ.1 q2) j) := by
  have key := ix_forE (fun fu a v => fn_M_multiply_L3 fu a q0 n0 q2 (Int32.ofNat s) v) (fun k a => pv_ag [5] μ a ∧ ∀ j, j < 4 * k → pv_ft (pv_pj (μ.1 q0) s (μ.1 q2) j) ∧ a.1 5 j = (pv_pj (μ.1 q0) s (μ.1 q2) j).toInt32) 4 (fun a => some (.inl (4, a))) (fun b => ∃ a, b = .inr (0, a) ∧ pv_ag [5] μ a ∧ ∃ j, j < 16 ∧ ¬ pv_ft (pv_pj (μ.1 q0) s (μ.1 q2) j)) μ (by omega)
    ⟨pv_ag.rf _ _, fun j hj => absurd hj (by omega)⟩
    (fun fu a h => by show fn_M_multiply_L3 (fu + 1) _ _ _ _ _ (Int32.ofNat 4) = _; rw [fn_M_multiply_L3, if_pos pv_e4]; rfl)
    (fun r a hr h => by
      obtain ⟨g1, g2⟩ := h
      have e0 : a.1 q0 = μ.1 q0 := g1.1 _ (by simpa using h0)
      have e2 : a.1 q2 = μ.1 q2 := g1.1 _ (by simpa using h2)
      rcases pv_L12 a h0 h2 hr hs hn with ⟨b, b1, b2, b3, b4⟩ | ⟨b, b1, b2, b3⟩
      · rw [e0, e2] at b3
        refine Or.inl ⟨b, fun fu => ?_, g1.tr' b2, fun j hj => ?_⟩
        · show fn_M_multiply_L3 (fu + 1) _ _ _ _ _ (Int32.ofNat r) = _
          rw [fn_M_multiply_L3, if_neg (pv_n4 hr), b1, Option.bind_some, ixa1]
          rfl
        · by_cases e : j < 4 * r
          · rw [b4 j e]; exact g2 j e
          · obtain ⟨c, rfl⟩ : ∃ c, j = 4 * r + c := ⟨j - 4 * r, by omega⟩
            exact b3 c (by omega)
      · rw [e0, e2] at b3
        refine Or.inr ⟨.inr (0, b), fun fu => ?_, b, rfl, g1.tr' b2, b3⟩
        show fn_M_multiply_L3 (fu + 1) _ _ _ _ _ (Int32.ofNat r) = _
        rw [fn_M_multiply_L3, if_neg (pv_n4 hr), b1, Option.bind_some]
        rfl)
  rcases key with ⟨a, k1, k2⟩ | ⟨b, k1, a, rfl, k2⟩
  · exact Or.inl ⟨a, k1, k2⟩
  · exact Or.inr ⟨a, k1, k2⟩
theorem pv_multiply (μ : xs_M) {q0 n0 q2 s : Nat} (h0 : q0 ≠ 5) (h2 : q2 ≠ 5) (hs : s + 16 ≤ n0) (hn : n0 ≤ 64) :
    (∃ a, fn_M_multiply μ q0 n0 (Int32.ofNat s) q2 = some (1, a) ∧ pv_ag [2, 5] μ a ∧ ∀ j, j < 16 → pv_ft (pv_pj (μ.1 q0) s (μ.1 q2) j) ∧ a.1 2 j = (pv_pj (μ.1 q0) s (μ.1 q2) j).toInt32) ∨
    ∃ a, fn_M_multiply μ q0 n0 (Int32.ofNat s) q2 = some (0, a) ∧ pv_ag [5] μ a ∧ ∃ j, j < 16 ∧ ¬ pv_ft (pv_pj (μ.1 q0) s (μ.1 q2) j) := by
  rcases pv_L3 μ h0 h2 hs hn with ⟨a, a1, a2, a3⟩ | ⟨a, a1, a2, a3⟩
  · refine Or.inl ⟨xs_sa a 2 (va_cpy (a.1 5) (a.1 2) 0 0 16), ?_, (a2.mono (by simp)).sa (by simp) _, fun j hj => ?_⟩
    · unfold fn_M_multiply
      rw [a1, Option.bind_some]
      rfl
    · rw [sa_same]
      unfold va_cpy
      rw [if_pos (by omega), Nat.zero_add, Nat.sub_zero]
      exact a3 j hj
  · refine Or.inr ⟨a, ?_, a2, a3⟩
    unfold fn_M_multiply
    rw [a1, Option.bind_some]
    rfl
/-- the factor: a diagonal, and what else is set afterwards -/
theorem pv_diag (μ : xs_M) (x y z : Int32) : ∃ a, fn_M_setDiagonalFactor μ x y z = some a ∧ pv_ag [4] μ a ∧ ∀ j, j < 16 → a.1 4 j = if j = 15 then 1 else if j = 10 then z else if j = 5 then y else if j = 0 then x else 0 := by
  obtain ⟨a, h1, h2, h3⟩ := ix_for (fun fu a v => fn_M_setDiagonalFactor_L3 fu a x y z v) (fun k a => pv_ag [4] μ a ∧ ∀ j, j < k → a.1 4 j = 0) 16 (fun a => some (16, a)) μ (by omega)
    ⟨pv_ag.rf _ _, fun j hj => absurd hj (by omega)⟩
    (fun fu a h => by show fn_M_setDiagonalFactor_L3 (fu + 1) _ _ _ _ (Int32.ofNat 16) = _; rw [fn_M_setDiagonalFactor_L3, if_pos pv_e16]; rfl)
    (fun k a hk h => by
      refine ⟨xs_si a 4 k 0, fun fu => ?_, h.1.si (by simp) _ _, fun j hj => ?_⟩
      · show fn_M_setDiagonalFactor_L3 (fu + 1) _ _ _ _ (Int32.ofNat k) = _
        rw [fn_M_setDiagonalFactor_L3, if_neg (pv_n16 hk), if_pos (ix_in hk (by omega)), ix_cl (by omega), Option.bind_some, ixa1]
      · rw [si_same]
        by_cases e : j = k
        · rw [if_pos e]
        · rw [if_neg e]; exact h.2 j (by omega))
  have h1' : fn_M_setDiagonalFactor_L3 xs_FU μ x y z 0 = some (16, a) := h1
  refine ⟨xs_si (xs_si (xs_si (xs_si a 4 0 x) 4 5 y) 4 10 z) 4 15 1, ?_, (((h2.si (by simp) _ _).si (by simp) _ _).si (by simp) _ _).si (by simp) _ _, fun j hj => ?_⟩
  · unfold fn_M_setDiagonalFactor
    rw [h1']; rfl
  · rw [si_same, si_same, si_same, si_same, h3 j hj]
theorem pv_ft32 {v : Int64} (h : pv_ft v) : pv_b 511 v.toInt32 ∧ v.toInt32.toInt64 = v := by
  have h1 : ¬ v < -511 := fun q => h (Or.inl q)
  have h2 : ¬ 511 < v := fun q => h (Or.inr q)
  rw [Int64.lt_iff_toInt_lt] at h1 h2
  rw [show (-511 : Int64).toInt = -511 by decide] at h1
  rw [show (511 : Int64).toInt = 511 by decide] at h2
  have e : v.toInt32.toInt = v.toInt := by
    rw [Int64.toInt_toInt32]; exact pn_bm32 (by omega) (by omega)
  refine ⟨⟨by rw [e]; omega, by rw [e]; omega⟩, ?_⟩
  apply Int64.toInt_inj.mp
  rw [Int32.toInt_toInt64, e]
theorem pv_ftb {x : Int32} (h : pv_b 511 x) : pv_ft x.toInt64 := by
  rintro (q | q) <;> rw [Int64.lt_iff_toInt_lt, Int32.toInt_toInt64] at q
  · rw [show (-511 : Int64).toInt = -511 by decide] at q; have := h.1; omega
  · rw [show (511 : Int64).toInt = 511 by decide] at q; have := h.2; omega
theorem pv_ft01 (v : Int64) : ((if v < -511 ∨ 511 < v then 0 else 1 : Int32) = 0) ↔ ¬ pv_ft v := by
  rw [pv_01]; unfold pv_ft; exact Classical.not_not.symm
