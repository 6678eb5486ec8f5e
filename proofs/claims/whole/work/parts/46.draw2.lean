/-! the class's wiping and painting -/
theorem pv_wipe (μ : xs_M) (x : Int32) : ∃ a, fn_P_wipe μ x = some a ∧ pv_ag [9, 10] μ a ∧ a.2 = μ.2 ∧ ∀ p, p < 192 → a.1 9 p = x ∧ a.1 10 p = -1 := by
  obtain ⟨a, h1, h2⟩ := ix_for (fun fu a v => fn_P_wipe_L2 fu a x v) (fun k a => pv_ag [9, 10] μ a ∧ a.2 = μ.2 ∧ ∀ p, p < k → a.1 9 p = x ∧ a.1 10 p = -1) 192 (fun a => some (192, a)) μ (by omega)
    ⟨pv_ag.rf _ _, rfl, fun j hj => absurd hj (by omega)⟩
    (fun fu a h => by show fn_P_wipe_L2 (fu + 1) _ _ (Int32.ofNat 192) = _; rw [fn_P_wipe_L2, if_pos pv_e192]; rfl)
    (fun k a hk h => by
      refine ⟨xs_si (xs_si a 9 k x) 10 k (-1), fun fu => ?_, (h.1.si (by simp) _ _).si (by simp) _ _, h.2.1, fun p hp => ?_⟩
      · show fn_P_wipe_L2 (fu + 1) _ _ (Int32.ofNat k) = _
        rw [fn_P_wipe_L2, if_neg (pv_n192 hk), if_pos (ix_in hk (by omega)), Option.bind_some, if_pos (ix_in hk (by omega)), Option.bind_some, ix_cl (by omega), ixa1]
      · rw [si_ne _ _ _ (show 9 ≠ 10 by decide), si_same, si_same, si_ne _ _ _ (show 10 ≠ 9 by decide)]
        by_cases e : p = k
        · rw [if_pos e, if_pos e]; exact ⟨rfl, rfl⟩
        · rw [if_neg e, if_neg e]; exact h.2.2 p (by omega))
  refine ⟨a, ?_, h2⟩
  have h1' : fn_P_wipe_L2 xs_FU μ x 0 = some (192, a) := h1
  unfold fn_P_wipe
  rw [h1']; rfl
def pv_cn (s : Nat → Option Nat) : Nat → Nat
  | 0 => 0
  | p + 1 => pv_cn s p + (if (s p).isSome = true then 1 else 0)
theorem pv_cn_le (s : Nat → Option Nat) (n : Nat) : pv_cn s n ≤ n := by
  induction n with
  | zero => exact Nat.le_refl 0
  | succ n ih => unfold pv_cn; split <;> omega
def pv_pt (μ : xs_M) (c : Nat → Int32) (s : Nat → Option Nat) (p : Nat) : Int32 := (s p).elim (c p) (fun k => pv_colK μ k p)
theorem pv_paint1 {μ m a : xs_M} {s : Nat → Option Nat} {v : Int32} {i j : Nat} (hi : i < 16) (hj : j < 12) (gs : ∀ p k, s p = some k → pv_gd μ k ∧ pv_shK μ k = true ∧ pv_covK μ k p = true) (agm : pv_ag [10, 11, 12] μ m) (hm : ∀ p, p < 192 → pv_mC μ m p (s p)) (ag : pv_ag [9] m a) (hc : ∀ p, p < 192 → a.1 9 p = if p < 16 * j + i then pv_pt μ (m.1 9) s p else m.1 9 p) :
    ∃ b, (∀ fu, fn_S_paintOwnedPixels_L12 (fu + 1) a v (Int32.ofNat j) (Int32.ofNat i) = fn_S_paintOwnedPixels_L12 fu b (v + (if (s (16 * j + i)).isSome = true then 1 else 0)) (Int32.ofNat j) (Int32.ofNat (i + 1))) ∧ pv_ag [9] m b ∧ ∀ p, p < 192 → b.1 9 p = if p < 16 * j + (i + 1) then pv_pt μ (m.1 9) s p else m.1 9 p := by
  have hpx : 16 * j + i < 192 := by omega
  have un : ∀ fu, fn_S_paintOwnedPixels_L12 (fu + 1) a v (Int32.ofNat j) (Int32.ofNat i) = if (if m.1 10 (16 * j + i) = -1 then 0 else 1 : Int32) = 0 then fn_S_paintOwnedPixels_L12 fu a v (Int32.ofNat j) (Int32.ofNat (i + 1)) else (if xs_in (m.1 10 (16 * j + i)) 20 = true then ((fn_S_textureColour a ((m.1 10 (16 * j + i)).toNatClampNeg) (Int32.ofNat i) (Int32.ofNat j)).bind fun w6 => fn_S_paintOwnedPixels_L12 fu (xs_si a 9 (16 * j + i) w6) (v + 1) (Int32.ofNat j) (Int32.ofNat (i + 1))) else none) := by
    intro fu
    rw [fn_S_paintOwnedPixels_L12, if_neg (pv_n16 hi)]
    unfold fn_P_indexOf
    rw [ixm16', ix_add, Option.bind_some, pv_isOwned a hpx, Option.bind_some, ix_cl (by omega), ag.1 10 (by decide), ixa1]
    simp only [ix_in hpx (show 192 ≤ 2147483648 by omega), if_true, Option.bind_some]
  have hmp := hm _ hpx
  cases es : s (16 * j + i) with
  | none =>
    rw [es] at hmp
    have h1 : m.1 10 (16 * j + i) = -1 := hmp
    refine ⟨a, fun fu => ?_, ag, fun p hp => ?_⟩
    · rw [un, if_pos h1, if_pos rfl, show (if (none : Option Nat).isSome = true then (1 : Int32) else 0) = 0 from rfl, show v + 0 = v by rw [Int32.add_zero]]
    · rw [hc p hp]
      by_cases e : p = 16 * j + i
      · rw [if_neg (by omega), if_pos (by omega)]
        unfold pv_pt
        rw [e, es]; rfl
      · by_cases e2 : p < 16 * j + i
        · rw [if_pos e2, if_pos (by omega)]
        · rw [if_neg e2, if_neg (by omega)]
  | some k =>
    rw [es] at hmp
    obtain ⟨h1, -, -⟩ := hmp
    obtain ⟨g, hsh, hcv⟩ := gs _ k es
    obtain ⟨hk, h3, ht⟩ := g
    have aga : pv_ag [9, 10, 11, 12] μ a := (agm.mono (by simp +contextual)).tr' (ag.mono (by simp))
    have fr : ∀ q, q < 7 → a.1 (14 + 7 * k + q) = μ.1 (14 + 7 * k + q) ∧ a.2 (14 + 7 * k + q) = μ.2 (14 + 7 * k + q) := fun q hq => pv_fr7 aga (by simp) hk hq
    have f0 : a.1 (14 + 7 * k) = μ.1 (14 + 7 * k) := (fr 0 (by decide)).1
    have hcv' := hcv
    unfold pv_covK at hcv'
    rw [show (16 * j + i) % 16 = i by omega, show (16 * j + i) / 16 = j by omega] at hcv'
    have hp := pv_sumpos h3 ht (pv_shD ht hsh) hi hj hcv'
    obtain ⟨tx, htx, etx, -⟩ := ht.1
    have ec := pv_colC a (k := k) i j (by rw [(fr 4 (by decide)).2, (fr 5 (by decide)).2, (fr 6 (by decide)).2]; exact hp) htx (by rw [f0]; exact etx)
    rw [(fr 4 (by decide)).2, (fr 5 (by decide)).2, (fr 6 (by decide)).2, (fr 2 (by decide)).1, (fr 3 (by decide)).1, f0, aga.1 7 (by decide)] at ec
    have ek : pv_col (μ.1 7) (μ.1 (14 + 7 * k) 7) (μ.1 (14 + 7 * k) 8) (μ.2 (14 + 7 * k + 4)) (μ.2 (14 + 7 * k + 5)) (μ.2 (14 + 7 * k + 6)) (μ.1 (14 + 7 * k + 2)) (μ.1 (14 + 7 * k + 3)) i j = pv_colK μ k (16 * j + i) := by
      unfold pv_colK
      rw [show (16 * j + i) % 16 = i by omega, show (16 * j + i) / 16 = j by omega]
    rw [ek] at ec
    refine ⟨xs_si a 9 (16 * j + i) (pv_colK μ k (16 * j + i)), fun fu => ?_, ag.si (by simp) _ _, fun p hp => ?_⟩
    · rw [un, h1, if_neg (pv_nm1 hk), if_neg (by decide), if_pos (ix_in hk (by omega)), ix_cl (by omega), ec, Option.bind_some]
      rfl
    · rw [si_same]
      by_cases e : p = 16 * j + i
      · rw [if_pos e, if_pos (by omega)]
        unfold pv_pt
        rw [e, es]; rfl
      · rw [if_neg e, hc p hp]
        by_cases e2 : p < 16 * j + i
        · rw [if_pos e2, if_pos (by omega)]
        · rw [if_neg e2, if_neg (by omega)]
theorem pv_ofn (n : Nat) (b : Bool) : Int32.ofNat n + (if b = true then 1 else 0) = Int32.ofNat (n + (if b = true then 1 else 0)) := by
  cases b
  · exact ix_add n 0
  · exact ix_add n 1
theorem pv_paint {μ m : xs_M} {s : Nat → Option Nat} (gs : ∀ p k, s p = some k → pv_gd μ k ∧ pv_shK μ k = true ∧ pv_covK μ k p = true) (agm : pv_ag [10, 11, 12] μ m) (hm : ∀ p, p < 192 → pv_mC μ m p (s p)) :
    ∃ b, fn_S_paintOwnedPixels m = some (Int32.ofNat (pv_cn s 192), b) ∧ pv_ag [9] m b ∧ ∀ p, p < 192 → b.1 9 p = pv_pt μ (m.1 9) s p := by
  obtain ⟨⟨v, b⟩, b1, b2, b3, b4⟩ := ix_for (fun fu (a : Int32 × xs_M) v => fn_S_paintOwnedPixels_L4 fu a.2 a.1 v) (fun j a => a.1 = Int32.ofNat (pv_cn s (16 * j)) ∧ pv_ag [9] m a.2 ∧ ∀ p, p < 192 → a.2.1 9 p = if p < 16 * j then pv_pt μ (m.1 9) s p else m.1 9 p) 12 (fun a => some (a.1, 12, a.2)) (0, m) (by omega)
    ⟨rfl, pv_ag.rf _ _, fun p hp => by rw [if_neg (by omega)]⟩
    (fun fu a h => by show fn_S_paintOwnedPixels_L4 (fu + 1) _ _ (Int32.ofNat 12) = _; rw [fn_S_paintOwnedPixels_L4, if_pos pv_e12]; rfl)
    (fun j a hj h => by
      obtain ⟨⟨w, c⟩, c1, c2, c3, c4⟩ := ix_for (fun fu (a : Int32 × xs_M) v => fn_S_paintOwnedPixels_L12 fu a.2 a.1 (Int32.ofNat j) v) (fun i a => a.1 = Int32.ofNat (pv_cn s (16 * j + i)) ∧ pv_ag [9] m a.2 ∧ ∀ p, p < 192 → a.2.1 9 p = if p < 16 * j + i then pv_pt μ (m.1 9) s p else m.1 9 p) 16 (fun a => some (a.1, 16, a.2)) a (by omega)
        h
        (fun fu a h => by show fn_S_paintOwnedPixels_L12 (fu + 1) _ _ _ (Int32.ofNat 16) = _; rw [fn_S_paintOwnedPixels_L12, if_pos pv_e16]; rfl)
        (fun i a hi h => by
          obtain ⟨d, d1, d2, d3⟩ := pv_paint1 (v := a.1) hi hj gs agm hm h.2.1 h.2.2
          refine ⟨(a.1 + (if (s (16 * j + i)).isSome = true then 1 else 0), d), d1, ?_, d2, d3⟩
          show a.1 + _ = _
          rw [h.1, pv_ofn]; rfl)
      refine ⟨(w, c), fun fu => ?_, ?_, c3, fun p hp => ?_⟩
      · obtain ⟨z, hz, hz1, hz2⟩ : ∃ z, fn_S_paintOwnedPixels_L12 xs_FU a.2 a.1 (Int32.ofNat j) 0 = some z ∧ z.1 = w ∧ z.2.2 = c := ⟨_, c1, rfl, rfl⟩
        show fn_S_paintOwnedPixels_L4 (fu + 1) _ _ (Int32.ofNat j) = _
        rw [fn_S_paintOwnedPixels_L4, if_neg (pv_n12 hj), hz, Option.bind_some, hz2, hz1, ixa1]
      · rw [show 16 * (j + 1) = 16 * j + 16 by omega]; exact c2
      · rw [show 16 * (j + 1) = 16 * j + 16 by omega]; exact c4 p hp)
  refine ⟨b, ?_, b3, fun p hp => ?_⟩
  · obtain ⟨z, hz, hz1, hz2⟩ : ∃ z, fn_S_paintOwnedPixels_L4 xs_FU m 0 0 = some z ∧ z.1 = v ∧ z.2.2 = b := ⟨_, b1, rfl, rfl⟩
    unfold fn_S_paintOwnedPixels
    rw [hz, Option.bind_some, hz1, hz2]
    have : v = Int32.ofNat (pv_cn s 192) := b2
    rw [this]
  · have := b4 p hp
    rw [if_pos (by omega)] at this
    exact this
