/-! a triangle's completion in the class -/
def pv_gA (pl : Nat → Nat → Int64) (n : Nat) : Int64 := pl ((n + 1) % 3) 1 * pl ((n + 2) % 3) 2 - pl ((n + 1) % 3) 2 * pl ((n + 2) % 3) 1
def pv_gB (pl : Nat → Nat → Int64) (n : Nat) : Int64 := pl ((n + 1) % 3) 2 * pl ((n + 2) % 3) 0 - pl ((n + 1) % 3) 0 * pl ((n + 2) % 3) 2
def pv_gC (pl : Nat → Nat → Int64) (n : Nat) : Int64 := pl ((n + 1) % 3) 0 * pl ((n + 2) % 3) 1 - pl ((n + 1) % 3) 1 * pl ((n + 2) % 3) 0
def pv_gD (pl : Nat → Nat → Int64) : Int64 := pl 0 0 * pv_gA pl 0 + pl 0 1 * pv_gB pl 0 + pl 0 2 * pv_gC pl 0
def pv_gs (pl : Nat → Nat → Int64) : Int64 := if 0 ≤ pv_gD pl then 1 else -1
def pv_nums (μ : xs_M) (k : Nat) (pl : Nat → Nat → Int64) : Prop := ∀ n c, n < 3 → c < 3 → μ.2 (14 + 7 * k + 1) (4 * n + 1 + c) = pl n c
theorem pv_plP {μ : xs_M} {k : Nat} {pl : Nat → Nat → Int64} (h : pv_nums μ k pl) {n : Nat} (hn : n < 3) : fn_T_placeP μ k (Int32.ofNat n) = some (pl n 0) := by
  unfold fn_T_placeP
  rw [ixm4', ixa1, if_pos (ix_in (by omega) (by omega)), ix_cl (by omega), ← h n 0 hn (by omega)]
theorem pv_plQ {μ : xs_M} {k : Nat} {pl : Nat → Nat → Int64} (h : pv_nums μ k pl) {n : Nat} (hn : n < 3) : fn_T_placeQ μ k (Int32.ofNat n) = some (pl n 1) := by
  unfold fn_T_placeQ
  rw [ixm4', ixa2, if_pos (ix_in (by omega) (by omega)), ix_cl (by omega), ← h n 1 hn (by omega)]
theorem pv_plW {μ : xs_M} {k : Nat} {pl : Nat → Nat → Int64} (h : pv_nums μ k pl) {n : Nat} (hn : n < 3) : fn_T_placeW μ k (Int32.ofNat n) = some (pl n 2) := by
  unfold fn_T_placeW
  rw [ixm4', ixa3, if_pos (ix_in (by omega) (by omega)), ix_cl (by omega), ← h n 2 hn (by omega)]
theorem pv_nums.sl {μ : xs_M} {k : Nat} {pl : Nat → Nat → Int64} (h : pv_nums μ k pl) {i : Nat} (hi : 14 + 7 * k + 1 ≠ i) (j : Nat) (x : Int64) : pv_nums (xs_sl μ i j x) k pl := by
  intro n c hn hc
  rw [sl_ne _ _ _ hi]; exact h n c hn hc
theorem pv_setEdge {μ : xs_M} {k : Nat} {pl : Nat → Nat → Int64} (h : pv_nums μ k pl) {n f t : Nat} (hn : n < 3) (hf : f < 3) (ht : t < 3) : fn_T_setEdge μ k (Int32.ofNat n) (Int32.ofNat f) (Int32.ofNat t) = some (xs_sl (xs_sl (xs_sl μ (14 + 7 * k + 4) n (pl f 1 * pl t 2 - pl f 2 * pl t 1)) (14 + 7 * k + 5) n (pl f 2 * pl t 0 - pl f 0 * pl t 2)) (14 + 7 * k + 6) n (pl f 0 * pl t 1 - pl f 1 * pl t 0)) := by
  unfold fn_T_setEdge
  rw [pv_plQ h hf, pv_plW h ht, pv_plW h hf, pv_plQ h ht]
  simp only [Option.bind_some, ix_in hn (show 3 ≤ 2147483648 by omega), if_true, ix_cl (show n < 2147483648 by omega)]
  have h2 := h.sl (i := 14 + 7 * k + 4) (by omega) n (pl f 1 * pl t 2 - pl f 2 * pl t 1)
  rw [pv_plW h2 hf, pv_plP h2 ht, pv_plP h2 hf, pv_plW h2 ht]
  simp only [Option.bind_some]
  have h3 := h2.sl (i := 14 + 7 * k + 5) (by omega) n (pl f 2 * pl t 0 - pl f 0 * pl t 2)
  rw [pv_plP h3 hf, pv_plQ h3 ht, pv_plQ h3 hf, pv_plP h3 ht]
  simp only [Option.bind_some]
theorem pv_mod3 {k : Nat} (hk : k < 2147483648) : Int32.ofNat k - Int32.ofNat k / 3 * 3 = Int32.ofNat (k % 3) := ix_mod (b := 3) hk (by decide)
theorem pv_edges {μ : xs_M} {k : Nat} {pl : Nat → Nat → Int64} (h : pv_nums μ k pl) (x0 x1 x2 : Int32) : ∃ a, fn_T_complete_L18 xs_FU μ k x0 x1 x2 0 = some (3, a) ∧ pv_ag [14 + 7 * k + 4, 14 + 7 * k + 5, 14 + 7 * k + 6] μ a ∧ a.1 = μ.1 ∧ ∀ m, m < 3 → a.2 (14 + 7 * k + 4) m = pv_gA pl m ∧ a.2 (14 + 7 * k + 5) m = pv_gB pl m ∧ a.2 (14 + 7 * k + 6) m = pv_gC pl m := by
  obtain ⟨a, h1, h2⟩ := ix_for (fun fu a v => fn_T_complete_L18 fu a k x0 x1 x2 v) (fun n a => pv_ag [14 + 7 * k + 4, 14 + 7 * k + 5, 14 + 7 * k + 6] μ a ∧ a.1 = μ.1 ∧ ∀ m, m < n → a.2 (14 + 7 * k + 4) m = pv_gA pl m ∧ a.2 (14 + 7 * k + 5) m = pv_gB pl m ∧ a.2 (14 + 7 * k + 6) m = pv_gC pl m) 3 (fun a => some (3, a)) μ (by omega)
    ⟨pv_ag.rf _ _, rfl, fun m hm => absurd hm (by omega)⟩
    (fun fu a h => by show fn_T_complete_L18 (fu + 1) _ _ _ _ _ (Int32.ofNat 3) = _; rw [fn_T_complete_L18, if_pos pv_e3]; rfl)
    (fun n a hn g => by
      obtain ⟨g1, g2, g3⟩ := g
      have ha : pv_nums a k pl := by
        intro n c hn hc
        rw [g1.2 _ (by simp)]; exact h n c hn hc
      refine ⟨xs_sl (xs_sl (xs_sl a (14 + 7 * k + 4) n (pv_gA pl n)) (14 + 7 * k + 5) n (pv_gB pl n)) (14 + 7 * k + 6) n (pv_gC pl n), fun fu => ?_, ((g1.sl (by simp) _ _).sl (by simp) _ _).sl (by simp) _ _, g2, fun m hm => ?_⟩
      · show fn_T_complete_L18 (fu + 1) _ _ _ _ _ (Int32.ofNat n) = _
        rw [fn_T_complete_L18, if_neg (pv_n3 hn), ixa1, ixa2, pv_mod3 (by omega), pv_mod3 (by omega), pv_setEdge ha hn (by omega) (by omega), Option.bind_some]
        rfl
      · rw [sl_same, sl_ne _ _ _ (show 14 + 7 * k + 4 ≠ 14 + 7 * k + 6 by omega), sl_ne _ _ _ (show 14 + 7 * k + 4 ≠ 14 + 7 * k + 5 by omega), sl_ne _ _ _ (show 14 + 7 * k + 5 ≠ 14 + 7 * k + 6 by omega), sl_same, sl_same, sl_ne _ _ _ (show 14 + 7 * k + 5 ≠ 14 + 7 * k + 4 by omega), sl_ne _ _ _ (show 14 + 7 * k + 6 ≠ 14 + 7 * k + 5 by omega), sl_ne _ _ _ (show 14 + 7 * k + 6 ≠ 14 + 7 * k + 4 by omega)]
        by_cases e : m = n
        · subst e; rw [if_pos rfl, if_pos rfl, if_pos rfl]; exact ⟨rfl, rfl, rfl⟩
        · simp only [if_neg e]; exact g3 m (by omega))
  exact ⟨a, h1, h2⟩
theorem pv_negs (μ : xs_M) (k : Nat) : ∃ a, fn_T_turnToNegatives_L11 xs_FU μ k 0 = some (3, a) ∧ pv_ag [14 + 7 * k + 4, 14 + 7 * k + 5, 14 + 7 * k + 6] μ a ∧ a.1 = μ.1 ∧ ∀ m, m < 3 → a.2 (14 + 7 * k + 4) m = -μ.2 (14 + 7 * k + 4) m ∧ a.2 (14 + 7 * k + 5) m = -μ.2 (14 + 7 * k + 5) m ∧ a.2 (14 + 7 * k + 6) m = -μ.2 (14 + 7 * k + 6) m := by
  obtain ⟨a, h1, h2, h3, h4⟩ := ix_for (fun fu a v => fn_T_turnToNegatives_L11 fu a k v) (fun n a => pv_ag [14 + 7 * k + 4, 14 + 7 * k + 5, 14 + 7 * k + 6] μ a ∧ a.1 = μ.1 ∧ ∀ m, m < 3 → a.2 (14 + 7 * k + 4) m = (if m < n then -μ.2 (14 + 7 * k + 4) m else μ.2 (14 + 7 * k + 4) m) ∧ a.2 (14 + 7 * k + 5) m = (if m < n then -μ.2 (14 + 7 * k + 5) m else μ.2 (14 + 7 * k + 5) m) ∧ a.2 (14 + 7 * k + 6) m = (if m < n then -μ.2 (14 + 7 * k + 6) m else μ.2 (14 + 7 * k + 6) m)) 3 (fun a => some (3, a)) μ (by omega)
    ⟨pv_ag.rf _ _, rfl, fun m hm => by rw [if_neg (Nat.not_lt_zero m), if_neg (Nat.not_lt_zero m), if_neg (Nat.not_lt_zero m)]; exact ⟨rfl, rfl, rfl⟩⟩
    (fun fu a h => by show fn_T_turnToNegatives_L11 (fu + 1) _ _ (Int32.ofNat 3) = _; rw [fn_T_turnToNegatives_L11, if_pos pv_e3]; rfl)
    (fun n a hn g => by
      obtain ⟨g1, g2, g3⟩ := g
      obtain ⟨q1, q2, q3⟩ := g3 n hn
      rw [if_neg (Nat.lt_irrefl n)] at q1 q2 q3
      refine ⟨xs_sl (xs_sl (xs_sl a (14 + 7 * k + 4) n (-μ.2 (14 + 7 * k + 4) n)) (14 + 7 * k + 5) n (-μ.2 (14 + 7 * k + 5) n)) (14 + 7 * k + 6) n (-μ.2 (14 + 7 * k + 6) n), fun fu => ?_, ((g1.sl (by simp) _ _).sl (by simp) _ _).sl (by simp) _ _, g2, fun m hm => ?_⟩
      · show fn_T_turnToNegatives_L11 (fu + 1) _ _ (Int32.ofNat n) = _
        rw [fn_T_turnToNegatives_L11, if_neg (pv_n3 hn)]
        simp only [ix_in hn (show 3 ≤ 2147483648 by omega), if_true, ix_cl (show n < 2147483648 by omega), Option.bind_some, ixa1, sl_ne _ _ _ (show 14 + 7 * k + 5 ≠ 14 + 7 * k + 4 by omega), sl_ne _ _ _ (show 14 + 7 * k + 6 ≠ 14 + 7 * k + 5 by omega), sl_ne _ _ _ (show 14 + 7 * k + 6 ≠ 14 + 7 * k + 4 by omega), q1, q2, q3]
      · rw [sl_same, sl_ne _ _ _ (show 14 + 7 * k + 4 ≠ 14 + 7 * k + 6 by omega), sl_ne _ _ _ (show 14 + 7 * k + 4 ≠ 14 + 7 * k + 5 by omega), sl_ne _ _ _ (show 14 + 7 * k + 5 ≠ 14 + 7 * k + 6 by omega), sl_same, sl_same, sl_ne _ _ _ (show 14 + 7 * k + 5 ≠ 14 + 7 * k + 4 by omega), sl_ne _ _ _ (show 14 + 7 * k + 6 ≠ 14 + 7 * k + 5 by omega), sl_ne _ _ _ (show 14 + 7 * k + 6 ≠ 14 + 7 * k + 4 by omega)]
        by_cases e : m = n
        · subst e; rw [if_pos rfl, if_pos rfl, if_pos rfl, if_pos (Nat.lt_succ_self m), if_pos (Nat.lt_succ_self m), if_pos (Nat.lt_succ_self m)]; exact ⟨rfl, rfl, rfl⟩
        · simp only [if_neg e, show (m < n + 1) = (m < n) by apply propext; omega]; exact g3 m hm)
  refine ⟨a, h1, h2, h3, fun m hm => ?_⟩
  have := h4 m hm
  simp only [if_pos hm] at this
  exact this
theorem pv_complete {μ : xs_M} {k : Nat} {pl : Nat → Nat → Int64} (h : pv_nums μ k pl) (x0 x1 x2 : Int32) : ∃ a, fn_T_complete μ k x0 x1 x2 = some a ∧ pv_ag [14 + 7 * k, 14 + 7 * k + 1, 14 + 7 * k + 4, 14 + 7 * k + 5, 14 + 7 * k + 6] μ a ∧ (a.1 (14 + 7 * k) 7 = x0 ∧ a.1 (14 + 7 * k) 8 = x1 ∧ a.1 (14 + 7 * k) 9 = x2) ∧ a.2 (14 + 7 * k + 1) 0 = pv_gD pl ∧ (∀ j, j ≠ 0 → a.2 (14 + 7 * k + 1) j = μ.2 (14 + 7 * k + 1) j) ∧ a.2 (14 + 7 * k) 6 = pv_gs pl * pv_gD pl ∧
    ∀ m, m < 3 → a.2 (14 + 7 * k + 4) m = pv_gs pl * pv_gA pl m ∧ a.2 (14 + 7 * k + 5) m = pv_gs pl * pv_gB pl m ∧ a.2 (14 + 7 * k + 6) m = pv_gs pl * pv_gC pl m := by
  obtain ⟨m3, hm3⟩ : ∃ m3, m3 = xs_si (xs_si (xs_si μ (14 + 7 * k) 7 x0) (14 + 7 * k) 8 x1) (14 + 7 * k) 9 x2 := ⟨_, rfl⟩
  have ag3 : pv_ag [14 + 7 * k, 14 + 7 * k + 1, 14 + 7 * k + 4, 14 + 7 * k + 5, 14 + 7 * k + 6] μ m3 := by
    rw [hm3]; exact (((pv_ag.rf _ _).si (by simp) _ _).si (by simp) _ _).si (by simp) _ _
  have n3 : pv_nums m3 k pl := by rw [hm3]; exact h
  obtain ⟨a, a1, a2, a3, a4⟩ := pv_edges n3 x0 x1 x2
  have na : pv_nums a k pl := by
    intro n c hn hc
    rw [a2.2 _ (by simp)]; exact n3 n c hn hc
  obtain ⟨b, hb⟩ : ∃ b, b = xs_sl (xs_sl a (14 + 7 * k + 1) 0 (pv_gD pl)) (14 + 7 * k) 6 (pv_gD pl) := ⟨_, rfl⟩
  have agb : pv_ag [14 + 7 * k, 14 + 7 * k + 1, 14 + 7 * k + 4, 14 + 7 * k + 5, 14 + 7 * k + 6] μ b := by
    rw [hb]
    exact ((ag3.tr' (a2.mono (by simp +contextual))).sl (by simp) _ _).sl (by simp) _ _
  have un : fn_T_complete μ k x0 x1 x2 = if 0 ≤ lg_cmp (pv_gD pl) 0 then some b else ((fn_T_turnToNegatives b k).bind fun w11 => some w11) := by
    unfold fn_T_complete
    rw [Option.bind_some, Option.bind_some, Option.bind_some]
    obtain ⟨z, hz, hz2⟩ : ∃ z, fn_T_complete_L18 xs_FU m3 k x0 x1 x2 0 = some z ∧ z.2 = a := ⟨_, a1, rfl⟩
    rw [← hm3, hz, Option.bind_some, hz2, show fn_T_placeP a k 0 = some (pl 0 0) from pv_plP na (n := 0) (by omega), Option.bind_some, show fn_T_placeQ a k 0 = some (pl 0 1) from pv_plQ na (n := 0) (by omega), Option.bind_some, show fn_T_placeW a k 0 = some (pl 0 2) from pv_plW na (n := 0) (by omega), Option.bind_some, Option.bind_some, Option.bind_some]
    rw [show (0 : Int32).toNatClampNeg = 0 by decide, (a4 0 (by omega)).1, (a4 0 (by omega)).2.1, (a4 0 (by omega)).2.2]
    rw [show pl 0 0 * pv_gA pl 0 + pl 0 1 * pv_gB pl 0 + pl 0 2 * pv_gC pl 0 = pv_gD pl from rfl, sl_same, if_pos rfl, sl_same, if_pos rfl, ← hb]
  have b1 : b.1 = m3.1 := by rw [hb]; exact a3
  have bx : b.1 (14 + 7 * k) 7 = x0 ∧ b.1 (14 + 7 * k) 8 = x1 ∧ b.1 (14 + 7 * k) 9 = x2 := by
    rw [b1, hm3]
    refine ⟨?_, ?_, ?_⟩
    · rw [si_same, if_neg (by decide), si_same, if_neg (by decide), si_same, if_pos rfl]
    · rw [si_same, if_neg (by decide), si_same, if_pos rfl]
    · rw [si_same, if_pos rfl]
  have bD : b.2 (14 + 7 * k + 1) 0 = pv_gD pl := by rw [hb, sl_ne _ _ _ (by omega), sl_same, if_pos rfl]
  have bj : ∀ j, j ≠ 0 → b.2 (14 + 7 * k + 1) j = μ.2 (14 + 7 * k + 1) j := by
    intro j hj
    rw [hb, sl_ne _ _ _ (by omega), sl_same, if_neg hj, a2.2 _ (by simp), hm3]; rfl
  have b6 : b.2 (14 + 7 * k) 6 = pv_gD pl := by rw [hb, sl_same, if_pos rfl]
  have be : ∀ m, m < 3 → b.2 (14 + 7 * k + 4) m = pv_gA pl m ∧ b.2 (14 + 7 * k + 5) m = pv_gB pl m ∧ b.2 (14 + 7 * k + 6) m = pv_gC pl m := by
    intro m hm
    rw [hb, sl_ne _ _ _ (by omega), sl_ne _ _ _ (by omega), sl_ne _ _ _ (by omega), sl_ne _ _ _ (by omega), sl_ne _ _ _ (by omega), sl_ne _ _ _ (by omega)]
    exact a4 m hm
  by_cases hD : 0 ≤ pv_gD pl
  · refine ⟨b, ?_, agb, bx, bD, bj, ?_, fun m hm => ?_⟩
    · rw [un, if_pos ((lg_cmp_ge _ _).mpr hD)]
    · rw [b6]; unfold pv_gs; rw [if_pos hD, Int64.one_mul]
    · unfold pv_gs; rw [if_pos hD, Int64.one_mul, Int64.one_mul, Int64.one_mul]; exact be m hm
  · obtain ⟨c, c1, c2, c3, c4⟩ := pv_negs (xs_sl b (14 + 7 * k) 6 (-pv_gD pl)) k
    have m1 : ∀ x : Int64, (-1) * x = -x := fun x => by rw [Int64.neg_mul, Int64.one_mul]
    refine ⟨c, ?_, (agb.sl (by simp) _ _).tr' (c2.mono (by simp +contextual)), ?_, ?_, ?_, ?_, fun m hm => ?_⟩
    · rw [un, if_neg (fun q => hD ((lg_cmp_ge _ _).mp q))]
      unfold fn_T_turnToNegatives
      rw [b6, Option.bind_some, c1]; rfl
    · rw [c3]; exact bx
    · rw [c2.2 _ (by simp), sl_ne _ _ _ (by omega)]; exact bD
    · intro j hj
      rw [c2.2 _ (by simp), sl_ne _ _ _ (by omega)]; exact bj j hj
    · rw [c2.2 _ (by simp), sl_same, if_pos rfl]; unfold pv_gs; rw [if_neg hD, m1]
    · have := c4 m hm
      rw [sl_ne _ _ _ (by omega), sl_ne _ _ _ (by omega), sl_ne _ _ _ (by omega)] at this
      unfold pv_gs; rw [if_neg hD, m1, m1, m1, ← (be m hm).1, ← (be m hm).2.1, ← (be m hm).2.2]
      exact this
