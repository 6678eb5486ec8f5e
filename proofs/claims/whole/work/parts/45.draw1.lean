/-! what a picture holds, and the class's way to it -/
def pv_sh (sz d : Int64) (s : Int32) : Bool := !decide (sz = 0) && (decide (s = 0) || (if 0 < d then decide (s = 1) else decide (s = 2)))
def pv_shK (μ : xs_M) (k : Nat) : Bool := pv_sh (μ.2 (14 + 7 * k) 6) (μ.2 (14 + 7 * k + 1) 0) (μ.1 (14 + 7 * k) 9)
def pv_covK (μ : xs_M) (k p : Nat) : Bool := pv_cov (μ.2 (14 + 7 * k + 4)) (μ.2 (14 + 7 * k + 5)) (μ.2 (14 + 7 * k + 6)) (p % 16) (p / 16)
def pv_ovK (μ : xs_M) (k p : Nat) : Int64 := pv_ov (μ.2 (14 + 7 * k + 4)) (μ.2 (14 + 7 * k + 5)) (μ.2 (14 + 7 * k + 6)) (μ.2 (14 + 7 * k + 1)) (p % 16) (p / 16)
def pv_szK (μ : xs_M) (k : Nat) : Int64 := μ.2 (14 + 7 * k) 6
def pv_colK (μ : xs_M) (k p : Nat) : Int32 := pv_col (μ.1 7) (μ.1 (14 + 7 * k) 7) (μ.1 (14 + 7 * k) 8) (μ.2 (14 + 7 * k + 4)) (μ.2 (14 + 7 * k + 5)) (μ.2 (14 + 7 * k + 6)) (μ.1 (14 + 7 * k + 2)) (μ.1 (14 + 7 * k + 3)) (p % 16) (p / 16)
def pv_ltK (μ : xs_M) (k k' p : Nat) : Bool := decide ((pv_ovK μ k p).toInt * (pv_szK μ k').toInt - (pv_ovK μ k' p).toInt * (pv_szK μ k).toInt < 0)
def pv_tk (μ : xs_M) (k p : Nat) (o : Option Nat) : Bool := o.elim true (fun k' => pv_ltK μ k k' p)
def pv_new (μ : xs_M) (k p : Nat) (o : Option Nat) : Option Nat := if (pv_covK μ k p && pv_tk μ k p o) = true then some k else o
def pv_step (μ : xs_M) (k p : Nat) (o : Option Nat) : Option Nat := if pv_shK μ k = true then pv_new μ k p o else o
def pv_st (μ : xs_M) : Nat → Nat → Option Nat
  | 0, _ => none
  | t + 1, p => pv_step μ t p (pv_st μ t p)
theorem pv_st_some {μ : xs_M} {t p k : Nat} (h : pv_st μ t p = some k) : k < t ∧ pv_shK μ k = true ∧ pv_covK μ k p = true := by
  induction t with
  | zero => cases h
  | succ t ih =>
    unfold pv_st pv_step at h
    by_cases h1 : pv_shK μ t = true
    · rw [if_pos h1] at h
      unfold pv_new at h
      by_cases h2 : (pv_covK μ t p && pv_tk μ t p (pv_st μ t p)) = true
      · rw [if_pos h2] at h
        cases h
        rw [Bool.and_eq_true] at h2
        exact ⟨by omega, h1, h2.1⟩
      · rw [if_neg h2] at h
        obtain ⟨q1, q2⟩ := ih h
        exact ⟨by omega, q2⟩
    · rw [if_neg h1] at h
      obtain ⟨q1, q2⟩ := ih h
      exact ⟨by omega, q2⟩
def pv_gd (μ : xs_M) (k : Nat) : Prop := k < 20 ∧ pv_c3 μ k ∧ pv_tri μ k
theorem pv_shD {μ : xs_M} {k : Nat} (t : pv_tri μ k) (h : pv_shK μ k = true) : pv_D μ k ≠ 0 := by
  unfold pv_shK pv_sh at h
  rw [Bool.and_eq_true] at h
  intro q
  rw [(pv_size0 t).mpr q] at h
  exact absurd h.1 (by decide)
theorem pv_fr7 {μ a : xs_M} {S : List Nat} (h : pv_ag S μ a) (hS : ∀ i, i ∈ S → i < 14 ∨ 154 ≤ i) {k : Nat} (hk : k < 20) {j : Nat} (hj : j < 7) : a.1 (14 + 7 * k + j) = μ.1 (14 + 7 * k + j) ∧ a.2 (14 + 7 * k + j) = μ.2 (14 + 7 * k + j) := by
  have : 14 + 7 * k + j ∉ S := fun q => by have := hS _ q; omega
  exact ⟨h.1 _ this, h.2 _ this⟩
theorem pv_shC (μ : xs_M) (k : Nat) : fn_T_isShown μ k = some (if pv_shK μ k = true then 1 else 0) := by
  unfold fn_T_isShown pv_shK pv_sh
  rw [show (0 : Int32).toNatClampNeg = 0 by decide]
  generalize μ.2 (14 + 7 * k) 6 = sz
  generalize μ.2 (14 + 7 * k + 1) 0 = d
  generalize μ.1 (14 + 7 * k) 9 = s
  by_cases h1 : sz = 0
  · rw [if_pos ((lg_cmp_eq _ _).mpr h1), if_neg (by simp [h1])]
  · rw [if_neg (fun q => h1 ((lg_cmp_eq _ _).mp q))]
    by_cases h2 : s = 0
    · rw [if_pos h2, if_pos (by simp [h1, h2])]
    · rw [if_neg h2]
      by_cases h3 : 0 < d
      · rw [if_neg (fun q => by rw [lg_cmp_le] at q; exact absurd h3 (Int64.not_lt.mpr q)), if_pos h3]
        by_cases h4 : s = 1
        · rw [if_pos h4, if_pos (by simp [h1, h4])]
        · rw [if_neg h4, if_neg (by simp [h2, h4])]
      · rw [if_pos ((lg_cmp_le _ _).mpr (Int64.not_lt.mp h3)), if_neg h3]
        by_cases h4 : s = 2
        · rw [if_pos h4, if_pos (by simp [h1, h4])]
        · rw [if_neg h4, if_neg (by simp [h2, h4])]
/-- the class's cells of a pixel -/
def pv_mC (μ a : xs_M) (p : Nat) (o : Option Nat) : Prop := o.elim (a.1 10 p = -1) (fun k => a.1 10 p = Int32.ofNat k ∧ a.2 11 p = pv_ovK μ k p ∧ a.2 12 p = pv_szK μ k)
theorem pv_mC.cong {μ a b : xs_M} {p : Nat} {o : Option Nat} (h : pv_mC μ a p o) (h1 : b.1 10 p = a.1 10 p) (h2 : b.2 11 p = a.2 11 p) (h3 : b.2 12 p = a.2 12 p) : pv_mC μ b p o := by
  cases o with
  | none => exact h1.trans h
  | some k => exact ⟨h1.trans h.1, h2.trans h.2.1, h3.trans h.2.2⟩
theorem pv_sgn {x : Int} : (0 ≤ pn_sg x) ↔ ¬ x < 0 := by
  unfold pn_sg
  by_cases h : x < 0
  · rw [if_pos h]; exact ⟨fun q => absurd q (by decide), fun q => absurd h q⟩
  · rw [if_neg h]
    by_cases h2 : x = 0
    · rw [if_pos h2]; exact ⟨fun _ => h, fun _ => by decide⟩
    · rw [if_neg h2]; exact ⟨fun _ => h, fun _ => by decide⟩
theorem pv_pix {p : Nat} (hp : p < 192) : p % 16 < 16 ∧ p / 16 < 12 := by omega
theorem pv_offer {μ a : xs_M} {k p : Nat} (hp : p < 192) (g : pv_gd μ k) (hs : pv_shK μ k = true) {o : Option Nat} (ho : ∀ k', o = some k' → pv_gd μ k' ∧ pv_shK μ k' = true) (hm : pv_mC μ a p o) :
    ∃ b, fn_P_offerPixel a (Int32.ofNat p) (Int32.ofNat k) (pv_ovK μ k p) (pv_szK μ k) = some b ∧ pv_ag [10, 11, 12] a b ∧ (∀ q, q ≠ p → b.1 10 q = a.1 10 q ∧ b.2 11 q = a.2 11 q ∧ b.2 12 q = a.2 12 q) ∧ pv_mC μ b p (if pv_tk μ k p o = true then some k else o) := by
  have n10 : ¬ (1 : Int32) = 0 := by decide
  obtain ⟨m, hm1⟩ : ∃ m, m = xs_sl (xs_sl (xs_si a 10 p (Int32.ofNat k)) 11 p (pv_ovK μ k p)) 12 p (pv_szK μ k) := ⟨_, rfl⟩
  have put : pv_ag [10, 11, 12] a m ∧ (∀ q, q ≠ p → m.1 10 q = a.1 10 q ∧ m.2 11 q = a.2 11 q ∧ m.2 12 q = a.2 12 q) ∧ pv_mC μ m p (some k) := by
    rw [hm1]
    refine ⟨(((pv_ag.rf _ _).si (by simp) _ _).sl (by simp) _ _).sl (by simp) _ _, fun q hq => ⟨?_, ?_, ?_⟩, ?_, ?_, ?_⟩
    · rw [sl_1, sl_1, si_same, if_neg hq]
    · rw [sl_ne _ _ _ (by decide), sl_same, if_neg hq, si_2]
    · rw [sl_same, if_neg hq, sl_ne _ _ _ (by decide), si_2]
    · rw [sl_1, sl_1, si_same, if_pos rfl]
    · rw [sl_ne _ _ _ (by decide), sl_same, if_pos rfl]
    · rw [sl_same, if_pos rfl]
  have hx : xs_in (Int32.ofNat p) 192 = true := ix_in hp (by omega)
  unfold fn_P_offerPixel
  rw [pv_isOwned a hp, Option.bind_some, ix_cl (by omega)]
  cases o with
  | none =>
    have h1 : a.1 10 p = -1 := hm
    rw [if_pos h1, if_pos rfl, if_pos hx, Option.bind_some, if_pos hx, Option.bind_some, if_pos hx, Option.bind_some, ← hm1]
    exact ⟨m, rfl, put.1, put.2.1, put.2.2⟩
  | some k' =>
    obtain ⟨h1, h2, h3⟩ := hm
    obtain ⟨g', hs'⟩ := ho k' rfl
    have z := pv_size g.2.1 g.2.2 (pv_shD g.2.2 hs)
    have z' := pv_size g'.2.1 g'.2.2 (pv_shD g'.2.2 hs')
    have v := pv_Bov g.2.1 g.2.2 (pv_pix hp).1 (pv_pix hp).2
    have v' := pv_Bov g'.2.1 g'.2.2 (pv_pix hp).1 (pv_pix hp).2
    have cq := pn_cq a (a := pv_ovK μ k p) (b := pv_szK μ k) (c := pv_ovK μ k' p) (d := pv_szK μ k') v.1 v.2 (Int.le_of_lt z.1) z.2 v'.1 v'.2 (Int.le_of_lt z'.1) z'.2
    rw [h1, if_neg (pv_nm1 g'.1), if_neg n10, if_pos hx, if_pos hx, h2, h3, cq, Option.bind_some]
    show ∃ b, _ ∧ _ ∧ _ ∧ pv_mC μ b p (if pv_ltK μ k k' p = true then some k else some k')
    by_cases q : (pv_ovK μ k p).toInt * (pv_szK μ k').toInt - (pv_ovK μ k' p).toInt * (pv_szK μ k).toInt < 0
    · rw [if_neg (fun w => pv_sgn.mp w q), if_pos hx, Option.bind_some, if_pos hx, Option.bind_some, if_pos hx, Option.bind_some, ← hm1]
      refine ⟨m, rfl, put.1, put.2.1, ?_⟩
      rw [if_pos (show pv_ltK μ k k' p = true from decide_eq_true q)]
      exact put.2.2
    · rw [if_pos (pv_sgn.mpr q)]
      refine ⟨a, rfl, pv_ag.rf _ _, fun _ _ => ⟨rfl, rfl, rfl⟩, ?_⟩
      rw [if_neg (by unfold pv_ltK; rw [decide_eq_true_eq]; exact q)]
      exact ⟨h1, h2, h3⟩
/-- one pixel -/
theorem pv_offer1 {μ a : xs_M} {k i j fu : Nat} (hi : i < 16) (hj : j < 12) (g : pv_gd μ k) (hs : pv_shK μ k = true) (ag : pv_ag [10, 11, 12] μ a) {o : Nat → Option Nat} (ho : ∀ p k', p < 192 → o p = some k' → pv_gd μ k' ∧ pv_shK μ k' = true) (hm : ∀ p, p < 192 → pv_mC μ a p (if p < 16 * j + i then pv_new μ k p (o p) else o p)) :
    ∃ b, (∀ fu, fn_P_offerTriangle_L11 (fu + 1) a k (Int32.ofNat k) (Int32.ofNat j) (Int32.ofNat i) = fn_P_offerTriangle_L11 fu b k (Int32.ofNat k) (Int32.ofNat j) (Int32.ofNat (i + 1))) ∧ pv_ag [10, 11, 12] μ b ∧ ∀ p, p < 192 → pv_mC μ b p (if p < 16 * j + (i + 1) then pv_new μ k p (o p) else o p) := by
  have fr : ∀ q, q < 7 → a.1 (14 + 7 * k + q) = μ.1 (14 + 7 * k + q) ∧ a.2 (14 + 7 * k + q) = μ.2 (14 + 7 * k + q) := fun q hq => pv_fr7 ag (by simp) g.1 hq
  have hpx : 16 * j + i < 192 := by omega
  have ec : fn_T_covers a k (Int32.ofNat i) (Int32.ofNat j) = some (if pv_covK μ k (16 * j + i) = true then 1 else 0) := by
    rw [pv_covC, (fr 4 (by decide)).2, (fr 5 (by decide)).2, (fr 6 (by decide)).2]
    unfold pv_covK
    rw [show (16 * j + i) % 16 = i by omega, show (16 * j + i) / 16 = j by omega]
  have hmp := hm (16 * j + i) hpx
  rw [if_neg (by omega)] at hmp
  by_cases c : pv_covK μ k (16 * j + i) = true
  · have eo : fn_T_depthOver a k (Int32.ofNat i) (Int32.ofNat j) = some (pv_ovK μ k (16 * j + i)) := by
      rw [pv_ovC, (fr 4 (by decide)).2, (fr 5 (by decide)).2, (fr 6 (by decide)).2, (fr 1 (by decide)).2]
      unfold pv_ovK
      rw [show (16 * j + i) % 16 = i by omega, show (16 * j + i) / 16 = j by omega]
    obtain ⟨b, b1, b2, b3, b4⟩ := pv_offer hpx g hs (fun k' hk' => ho _ k' hpx hk') hmp
    refine ⟨b, fun fu => ?_, ag.tr' b2, fun p hp => ?_⟩
    · rw [fn_P_offerTriangle_L11, if_neg (pv_n16 hi), ec, if_pos c, Option.bind_some, if_neg (by decide)]
      unfold fn_P_indexOf
      rw [ixm16', ix_add, Option.bind_some, eo, Option.bind_some, show a.2 (14 + 7 * k) 6 = pv_szK μ k from congrFun (fr 0 (by decide)).2 6, b1, Option.bind_some, ixa1]
    · by_cases e : p = 16 * j + i
      · subst e
        rw [if_pos (by omega)]
        unfold pv_new
        rw [c, Bool.true_and]
        exact b4
      · obtain ⟨q1, q2, q3⟩ := b3 p e
        have := (hm p hp).cong q1 q2 q3
        by_cases e2 : p < 16 * j + i
        · rw [if_pos e2] at this; rw [if_pos (by omega)]; exact this
        · rw [if_neg e2] at this; rw [if_neg (by omega)]; exact this
  · refine ⟨a, fun fu => ?_, ag, fun p hp => ?_⟩
    · rw [fn_P_offerTriangle_L11, if_neg (pv_n16 hi), ec, if_neg c, Option.bind_some, if_pos rfl, ixa1]
    · by_cases e : p = 16 * j + i
      · subst e
        rw [if_pos (by omega)]
        unfold pv_new
        rw [if_neg (by rw [Bool.and_eq_true]; exact fun q => c q.1)]
        exact hmp
      · have := hm p hp
        by_cases e2 : p < 16 * j + i
        · rw [if_pos e2] at this; rw [if_pos (by omega)]; exact this
        · rw [if_neg e2] at this; rw [if_neg (by omega)]; exact this
theorem pv_offerT {μ a : xs_M} {k : Nat} (g : pv_gd μ k) (hs : pv_shK μ k = true) (ag : pv_ag [10, 11, 12] μ a) {o : Nat → Option Nat} (ho : ∀ p k', p < 192 → o p = some k' → pv_gd μ k' ∧ pv_shK μ k' = true) (hm : ∀ p, p < 192 → pv_mC μ a p (o p)) :
    ∃ b, fn_P_offerTriangle a (Int32.ofNat k) k = some b ∧ pv_ag [10, 11, 12] μ b ∧ ∀ p, p < 192 → pv_mC μ b p (pv_new μ k p (o p)) := by
  obtain ⟨b, b1, b2, b3⟩ := ix_for (fun fu a v => fn_P_offerTriangle_L2 fu a k (Int32.ofNat k) v) (fun j a => pv_ag [10, 11, 12] μ a ∧ ∀ p, p < 192 → pv_mC μ a p (if p < 16 * j then pv_new μ k p (o p) else o p)) 12 (fun a => some (12, a)) a (by omega)
    ⟨ag, fun p hp => by rw [if_neg (by omega)]; exact hm p hp⟩
    (fun fu a h => by show fn_P_offerTriangle_L2 (fu + 1) _ _ _ (Int32.ofNat 12) = _; rw [fn_P_offerTriangle_L2, if_pos pv_e12]; rfl)
    (fun j a hj h => by
      obtain ⟨c, c1, c2, c3⟩ := ix_for (fun fu a v => fn_P_offerTriangle_L11 fu a k (Int32.ofNat k) (Int32.ofNat j) v) (fun i a => pv_ag [10, 11, 12] μ a ∧ ∀ p, p < 192 → pv_mC μ a p (if p < 16 * j + i then pv_new μ k p (o p) else o p)) 16 (fun a => some (16, a)) a (by omega)
        h
        (fun fu a h => by show fn_P_offerTriangle_L11 (fu + 1) _ _ _ _ (Int32.ofNat 16) = _; rw [fn_P_offerTriangle_L11, if_pos pv_e16]; rfl)
        (fun i a hi h => by
          obtain ⟨d, d1, d2, d3⟩ := pv_offer1 (fu := 0) hi hj g hs h.1 ho h.2
          exact ⟨d, d1, d2, d3⟩)
      refine ⟨c, fun fu => ?_, c2, fun p hp => ?_⟩
      · obtain ⟨z, hz, hz2⟩ : ∃ z, fn_P_offerTriangle_L11 xs_FU a k (Int32.ofNat k) (Int32.ofNat j) 0 = some z ∧ z.2 = c := ⟨_, c1, rfl⟩
        show fn_P_offerTriangle_L2 (fu + 1) _ _ _ (Int32.ofNat j) = _
        rw [fn_P_offerTriangle_L2, if_neg (pv_n12 hj), hz, Option.bind_some, hz2, ixa1]
      · have := c3 p hp
        rw [show 16 * (j + 1) = 16 * j + 16 by omega]
        exact this)
  refine ⟨b, ?_, b2, fun p hp => ?_⟩
  · unfold fn_P_offerTriangle
    have b1' : fn_P_offerTriangle_L2 xs_FU a k (Int32.ofNat k) 0 = some (12, b) := b1
    rw [b1']; rfl
  · have := b3 p hp
    rw [if_pos (by omega)] at this
    exact this
theorem pv_drawC {μ : xs_M} {tc : Nat} (htc : tc ≤ 20) (h4 : μ.1 0 4 = Int32.ofNat tc) (g : ∀ k, k < tc → pv_gd μ k) (h0 : ∀ p, p < 192 → μ.1 10 p = -1) (x : Int32) :
    ∃ b, fn_S_draw_L14 xs_FU μ x 0 = some (Int32.ofNat tc, b) ∧ pv_ag [10, 11, 12] μ b ∧ ∀ p, p < 192 → pv_mC μ b p (pv_st μ tc p) := by
  obtain ⟨b, b1, b2⟩ := ix_for (fun fu a v => fn_S_draw_L14 fu a x v) (fun t a => pv_ag [10, 11, 12] μ a ∧ ∀ p, p < 192 → pv_mC μ a p (pv_st μ t p)) tc (fun a => some (Int32.ofNat tc, a)) μ (by omega)
    ⟨pv_ag.rf _ _, fun p hp => h0 p hp⟩
    (fun fu a h => by show fn_S_draw_L14 (fu + 1) _ _ (Int32.ofNat tc) = _; rw [fn_S_draw_L14, h.1.1 0 (by decide), h4, if_pos pv_end])
    (fun t a ht h => by
      have un : ∀ fu, fn_S_draw_L14 (fu + 1) a x (Int32.ofNat t) = if pv_shK μ t = true then ((fn_P_offerTriangle a (Int32.ofNat t) t).bind fun w7 => fn_S_draw_L14 fu w7 x (Int32.ofNat (t + 1))) else fn_S_draw_L14 fu a x (Int32.ofNat (t + 1)) := by
        intro fu
        rw [fn_S_draw_L14, h.1.1 0 (by decide), h4, if_neg (pv_nle ht (by omega)), if_pos (ix_in (by omega) (by omega)), ix_cl (by omega), pv_shC, Option.bind_some, if_pos (ix_in (by omega) (by omega)), ixa1]
        have e : pv_shK a t = pv_shK μ t := by
          unfold pv_shK
          rw [show a.2 (14 + 7 * t) = μ.2 (14 + 7 * t) from (pv_fr7 h.1 (by simp) (by omega) (j := 0) (by decide)).2, (pv_fr7 h.1 (by simp) (show t < 20 by omega) (j := 1) (by decide)).2, show a.1 (14 + 7 * t) = μ.1 (14 + 7 * t) from (pv_fr7 h.1 (by simp) (by omega) (j := 0) (by decide)).1]
        rw [e]
        by_cases q : pv_shK μ t = true
        · rw [if_pos q, if_pos q, if_neg (by decide)]
        · rw [if_neg q, if_neg q, if_pos rfl]
      by_cases q : pv_shK μ t = true
      · obtain ⟨c, c1, c2, c3⟩ := pv_offerT (g t ht) q h.1 (o := pv_st μ t) (fun p k' hp hk' => by
          obtain ⟨q1, q2, -⟩ := pv_st_some hk'
          exact ⟨g k' (by omega), q2⟩) h.2
        refine ⟨c, fun fu => ?_, c2, fun p hp => ?_⟩
        · show fn_S_draw_L14 (fu + 1) a x (Int32.ofNat t) = _
          rw [un, if_pos q, c1, Option.bind_some]
        · unfold pv_st pv_step
          rw [if_pos q]; exact c3 p hp
      · refine ⟨a, fun fu => ?_, h.1, fun p hp => ?_⟩
        · show fn_S_draw_L14 (fu + 1) a x (Int32.ofNat t) = _
          rw [un, if_neg q]
        · unfold pv_st pv_step
          rw [if_neg q]; exact h.2 p hp)
  exact ⟨b, b1, b2⟩
