/-! the reference's drawing -/
def pv_SD : List Nat := [9, 10, 11, 12, 154, 163, 164, 165, 166, 167, 168, 169, 170, 171]
def pv_mR (μ : xs_M) (bg : Int32) (e : xs_M) (p : Nat) (o : Option Nat) : Prop := o.elim (e.1 167 p = -1 ∧ e.1 168 p = bg) (fun k => e.1 167 p = Int32.ofNat k ∧ e.2 169 p = pv_ovK μ k p ∧ e.2 170 p = pv_szK μ k ∧ e.1 168 p = pv_colK μ k p)
theorem pv_mR.cong {μ a b : xs_M} {bg : Int32} {p : Nat} {o : Option Nat} (h : pv_mR μ bg a p o) (h1 : b.1 167 p = a.1 167 p) (h2 : b.2 169 p = a.2 169 p) (h3 : b.2 170 p = a.2 170 p) (h4 : b.1 168 p = a.1 168 p) : pv_mR μ bg b p o := by
  cases o with
  | none => exact ⟨h1.trans h.1, h4.trans h.2⟩
  | some k => exact ⟨h1.trans h.1, h2.trans h.2.1, h3.trans h.2.2.1, h4.trans h.2.2.2⟩
theorem pv_texR {μ e : xs_M} {k p : Nat} (g : pv_gd μ k) (hp : p < 192) (hsh : pv_shK μ k = true) (hcv : pv_covK μ k p = true) (tex : pv_tex (μ.1 7) (μ.1 158)) (e8 : e.1 158 = μ.1 158) (e9 : e.1 159 = μ.1 159) (e0 : e.1 160 = μ.1 160) (e1 : e.1 161 = μ.1 161) (ev : ∀ n, n < 3 → e.2 166 n = pv_pwK μ k (p % 16) (p / 16) n) :
    fn_R_texelOf e (Int32.ofNat k) = some (pv_colK μ k p) := by
  obtain ⟨hk, h3, ht⟩ := g
  obtain ⟨t, ht1, et, et2⟩ := ht.1
  obtain ⟨m, hm1, em, em2⟩ := ht.2.1
  have pl : ∀ n c, pv_pl e k n c = pv_pl μ k n c := fun n c => by unfold pv_pl; rw [e9]
  have su4 : ((e.2 166 0 * pv_pl e k 0 4 + e.2 166 1 * pv_pl e k 1 4) + e.2 166 2 * pv_pl e k 2 4) = pv_su (μ.2 (14 + 7 * k + 4)) (μ.2 (14 + 7 * k + 5)) (μ.2 (14 + 7 * k + 6)) (μ.1 (14 + 7 * k + 2)) (p % 16) (p / 16) := by
    unfold pv_su
    rw [ev 0 (by decide), ev 1 (by decide), ev 2 (by decide), (h3 0 (by decide)).2.2.2.2.1, (h3 1 (by decide)).2.2.2.2.1, (h3 2 (by decide)).2.2.2.2.1, pl, pl, pl]
    rfl
  have su5 : ((e.2 166 0 * pv_pl e k 0 5 + e.2 166 1 * pv_pl e k 1 5) + e.2 166 2 * pv_pl e k 2 5) = pv_su (μ.2 (14 + 7 * k + 4)) (μ.2 (14 + 7 * k + 5)) (μ.2 (14 + 7 * k + 6)) (μ.1 (14 + 7 * k + 3)) (p % 16) (p / 16) := by
    unfold pv_su
    rw [ev 0 (by decide), ev 1 (by decide), ev 2 (by decide), (h3 0 (by decide)).2.2.2.2.2.1, (h3 1 (by decide)).2.2.2.2.2.1, (h3 2 (by decide)).2.2.2.2.2.1, pl, pl, pl]
    rfl
  have sm : ((e.2 166 0 + e.2 166 1) + e.2 166 2) = pv_sum (μ.2 (14 + 7 * k + 4)) (μ.2 (14 + 7 * k + 5)) (μ.2 (14 + 7 * k + 6)) (p % 16) (p / 16) := by
    unfold pv_sum
    rw [ev 0 (by decide), ev 1 (by decide), ev 2 (by decide)]
    rfl
  have hpos := pv_sumpos h3 ht (pv_shD ht hsh) (pv_pix hp).1 (pv_pix hp).2 hcv
  obtain ⟨s, hs8, es⟩ := pv_wr8 (μ.1 161 k) (pv_fl (pv_su (μ.2 (14 + 7 * k + 4)) (μ.2 (14 + 7 * k + 5)) (μ.2 (14 + 7 * k + 6)) (μ.1 (14 + 7 * k + 2)) (p % 16) (p / 16)) (pv_sum (μ.2 (14 + 7 * k + 4)) (μ.2 (14 + 7 * k + 5)) (μ.2 (14 + 7 * k + 6)) (p % 16) (p / 16)))
  obtain ⟨r, hr8, er⟩ := pv_wr8 (μ.1 161 k) (pv_fl (pv_su (μ.2 (14 + 7 * k + 4)) (μ.2 (14 + 7 * k + 5)) (μ.2 (14 + 7 * k + 6)) (μ.1 (14 + 7 * k + 3)) (p % 16) (p / 16)) (pv_sum (μ.2 (14 + 7 * k + 4)) (μ.2 (14 + 7 * k + 5)) (μ.2 (14 + 7 * k + 6)) (p % 16) (p / 16)))
  rw [pv_txR hk ht1 (by rw [e0]; exact et2) (by rw [sm]; exact hpos) hs8 hr8 (by rw [su4, sm, e1]; exact es) (by rw [su5, sm, e1]; exact er), e8]
  unfold pv_colK pv_col
  rw [em, ← em2, es, er, et, ix_cl (by omega), ix_cl (by omega), ix_cl (by omega), tex t s r (by omega) hs8 hr8]
theorem pv_pix1 {μ e : xs_M} {bg x : Int32} {k p : Nat} (hp : p < 192) (g : pv_gd μ k) (tex : pv_tex (μ.1 7) (μ.1 158)) (ag : pv_ag pv_SD μ e) (pr : pv_pr μ e k) {o : Nat → Option Nat} (ho : ∀ p k', p < 192 → o p = some k' → pv_gd μ k' ∧ pv_shK μ k' = true) (hm : ∀ q, q < 192 → pv_mR μ bg e q (if q < p then pv_step μ k q (o q) else o q)) :
    ∃ b, (∀ fu, fn_R_draw_L75 (fu + 1) e x (Int32.ofNat k) (pv_sg μ k) (Int32.ofNat p) = fn_R_draw_L75 fu b x (Int32.ofNat k) (pv_sg μ k) (Int32.ofNat (p + 1))) ∧ pv_ag [166, 167, 168, 169, 170] e b ∧ ∀ q, q < 192 → pv_mR μ bg b q (if q < p + 1 then pv_step μ k q (o q) else o q) := by
  obtain ⟨hk, h3, ht⟩ := g
  obtain ⟨b, b1, b2, b3, b4⟩ := pv_covR hk ht pr (by rw [ag.1 162 (by decide)]) (p % 16) (p / 16)
  have b1' : fn_R_covers e (Int32.ofNat k) (Int32.ofNat p - Int32.ofNat p / 16 * 16) (Int32.ofNat p / 16) (pv_sg μ k) = some (if (pv_shK μ k && pv_covK μ k p) = true then 1 else 0, b) := by
    rw [show Int32.ofNat p - Int32.ofNat p / 16 * 16 = Int32.ofNat (p % 16) from ix_mod (b := 16) (by omega) (by decide), show Int32.ofNat p / 16 = Int32.ofNat (p / 16) from ix_div (b := 16) (by omega) (by decide)]
    exact b1
  have b4' : (pv_shK μ k && pv_covK μ k p) = true → ∀ n, n < 3 → b.2 166 n = pv_pwK μ k (p % 16) (p / 16) n := b4
  have hx : xs_in (Int32.ofNat p) 192 = true := ix_in hp (by omega)
  have hmp := hm p hp
  rw [if_neg (Nat.lt_irrefl p)] at hmp
  have keep : ∀ (c : xs_M), (∀ q, q ≠ p → c.1 167 q = e.1 167 q ∧ c.2 169 q = e.2 169 q ∧ c.2 170 q = e.2 170 q ∧ c.1 168 q = e.1 168 q) → pv_mR μ bg c p (pv_step μ k p (o p)) → ∀ q, q < 192 → pv_mR μ bg c q (if q < p + 1 then pv_step μ k q (o q) else o q) := by
    intro c h1 h2 q hq
    by_cases e1 : q = p
    · subst e1; rw [if_pos (Nat.lt_succ_self q)]; exact h2
    · obtain ⟨k1, k2, k3, k4⟩ := h1 q e1
      have := (hm q hq).cong k1 k2 k3 k4
      by_cases e2 : q < p
      · rw [if_pos e2] at this; rw [if_pos (by omega)]; exact this
      · rw [if_neg e2] at this; rw [if_neg (by omega)]; exact this
  have eb : b.1 167 = e.1 167 ∧ b.1 168 = e.1 168 ∧ b.2 169 = e.2 169 ∧ b.2 170 = e.2 170 := ⟨by rw [b2], by rw [b2], b3.2 169 (by decide), b3.2 170 (by decide)⟩
  have stay : (pv_step μ k p (o p) = o p) → (∀ fu, fn_R_draw_L75 (fu + 1) e x (Int32.ofNat k) (pv_sg μ k) (Int32.ofNat p) = fn_R_draw_L75 fu b x (Int32.ofNat k) (pv_sg μ k) (Int32.ofNat (p + 1))) → ∃ b, (∀ fu, fn_R_draw_L75 (fu + 1) e x (Int32.ofNat k) (pv_sg μ k) (Int32.ofNat p) = fn_R_draw_L75 fu b x (Int32.ofNat k) (pv_sg μ k) (Int32.ofNat (p + 1))) ∧ pv_ag [166, 167, 168, 169, 170] e b ∧ ∀ q, q < 192 → pv_mR μ bg b q (if q < p + 1 then pv_step μ k q (o q) else o q) := by
    intro h1 h2
    refine ⟨b, h2, b3.mono (by simp), keep b (fun q _ => by rw [eb.1, eb.2.1, eb.2.2.1, eb.2.2.2]; exact ⟨rfl, rfl, rfl, rfl⟩) ?_⟩
    rw [h1]
    exact hmp.cong (by rw [eb.1]) (by rw [eb.2.2.1]) (by rw [eb.2.2.2]) (by rw [eb.2.1])
  by_cases c : (pv_shK μ k && pv_covK μ k p) = true
  · have c' := c
    rw [Bool.and_eq_true] at c'
    obtain ⟨csh, ccv⟩ := c'
    have ev := b4' c
    have b9 : b.1 159 = μ.1 159 := by rw [b2, ag.1 159 (by decide)]
    have pl : ∀ n c, pv_pl b k n c = pv_pl μ k n c := fun n c => by unfold pv_pl; rw [b9]
    have po3 : ∀ n, n < 3 → fn_R_placeOf b (Int32.ofNat k) (Int32.ofNat n) 3 = some (pv_pl μ k n 3) := fun n hn => (pv_po (c := 3) hk hn (by decide)).trans (by rw [pl])
    have top : ((b.2 166 0 * pv_pl μ k 0 3) + (b.2 166 1 * pv_pl μ k 1 3)) + (b.2 166 2 * pv_pl μ k 2 3) = pv_ovK μ k p := by
      unfold pv_ovK pv_ov
      rw [ev 0 (by decide), ev 1 (by decide), ev 2 (by decide)]
      have z0 : μ.2 (14 + 7 * k + 1) 4 = pv_pl μ k 0 3 := (h3 0 (by decide)).2.2.2.1
      have z1 : μ.2 (14 + 7 * k + 1) 8 = pv_pl μ k 1 3 := (h3 1 (by decide)).2.2.2.1
      have z2 : μ.2 (14 + 7 * k + 1) 12 = pv_pl μ k 2 3 := (h3 2 (by decide)).2.2.2.1
      rw [z0, z1, z2]
      rfl
    have bd : b.2 154 14 = pv_D μ k := by rw [b3.2 154 (by decide)]; exact pr.1
    have sz : pv_sg μ k * pv_D μ k = pv_szK μ k := ht.2.2.2.2.1.symm
    obtain ⟨m3, hm3⟩ : ∃ m3, m3 = xs_sl (xs_sl (xs_si b 167 p (Int32.ofNat k)) 169 p (pv_ovK μ k p)) 170 p (pv_szK μ k) := ⟨_, rfl⟩
    have m31 : ∀ i, i ≠ 167 → m3.1 i = b.1 i := fun i hi => by rw [hm3, sl_1, sl_1, si_ne _ _ _ hi]
    have m32 : ∀ i, i ≠ 169 → i ≠ 170 → m3.2 i = b.2 i := fun i h1 h2 => by rw [hm3, sl_ne _ _ _ h2, sl_ne _ _ _ h1, si_2]
    have tx : fn_R_texelOf m3 (Int32.ofNat k) = some (pv_colK μ k p) := by
      refine pv_texR ⟨hk, h3, ht⟩ hp csh ccv tex ?_ ?_ ?_ ?_ ?_
      · rw [m31 158 (by decide), b2, ag.1 158 (by decide)]
      · rw [m31 159 (by decide), b9]
      · rw [m31 160 (by decide), b2, ag.1 160 (by decide)]
      · rw [m31 161 (by decide), b2, ag.1 161 (by decide)]
      · intro n hn; rw [m32 166 (by decide) (by decide)]; exact ev n hn
    obtain ⟨m4, hm4⟩ : ∃ m4, m4 = xs_si m3 168 p (pv_colK μ k p) := ⟨_, rfl⟩
    have put : (pv_step μ k p (o p) = some k) → (∀ fu, fn_R_draw_L75 (fu + 1) e x (Int32.ofNat k) (pv_sg μ k) (Int32.ofNat p) = fn_R_draw_L75 fu m4 x (Int32.ofNat k) (pv_sg μ k) (Int32.ofNat (p + 1))) → ∃ b, (∀ fu, fn_R_draw_L75 (fu + 1) e x (Int32.ofNat k) (pv_sg μ k) (Int32.ofNat p) = fn_R_draw_L75 fu b x (Int32.ofNat k) (pv_sg μ k) (Int32.ofNat (p + 1))) ∧ pv_ag [166, 167, 168, 169, 170] e b ∧ ∀ q, q < 192 → pv_mR μ bg b q (if q < p + 1 then pv_step μ k q (o q) else o q) := by
      intro h1 h2
      refine ⟨m4, h2, ?_, keep m4 (fun q hq => ⟨?_, ?_, ?_, ?_⟩) ?_⟩
      · rw [hm4, hm3]
        exact ((((b3.mono (by simp)).si (by simp) _ _).sl (by simp) _ _).sl (by simp) _ _).si (by simp) _ _
      · rw [hm4, si_ne _ _ _ (by decide), hm3, sl_1, sl_1, si_same, if_neg hq, eb.1]
      · rw [hm4, si_2, hm3, sl_ne _ _ _ (by decide), sl_same, if_neg hq, si_2, eb.2.2.1]
      · rw [hm4, si_2, hm3, sl_same, if_neg hq, sl_ne _ _ _ (by decide), si_2, eb.2.2.2]
      · rw [hm4, si_same, if_neg hq, m31 168 (by decide), eb.2.1]
      · rw [h1]
        refine ⟨?_, ?_, ?_, ?_⟩
        · rw [hm4, si_ne _ _ _ (by decide), hm3, sl_1, sl_1, si_same, if_pos rfl]
        · rw [hm4, si_2, hm3, sl_ne _ _ _ (by decide), sl_same, if_pos rfl]
        · rw [hm4, si_2, hm3, sl_same, if_pos rfl]
        · rw [hm4, si_same, if_pos rfl]
    have un : ∀ fu, fn_R_draw_L75 (fu + 1) e x (Int32.ofNat k) (pv_sg μ k) (Int32.ofNat p) = (if (e.1 167 p) < 0 then fn_R_draw_L75 fu m4 x (Int32.ofNat k) (pv_sg μ k) (Int32.ofNat (p + 1)) else ((fn_R_order b (pv_ovK μ k p) (pv_szK μ k) (e.2 169 p) (e.2 170 p)).bind fun w25 => (if 0 ≤ w25 then fn_R_draw_L75 fu b x (Int32.ofNat k) (pv_sg μ k) (Int32.ofNat (p + 1)) else fn_R_draw_L75 fu m4 x (Int32.ofNat k) (pv_sg μ k) (Int32.ofNat (p + 1))))) := by
      intro fu
      rw [fn_R_draw_L75, if_neg (pv_n192 hp), b1', if_pos c]
      obtain ⟨z, hz, hz1, hz2⟩ : ∃ z : Int32 × xs_M, (some ((1 : Int32), b)) = some z ∧ z.1 = 1 ∧ z.2 = b := ⟨_, rfl, rfl, rfl⟩
      rw [hz, Option.bind_some, hz1, hz2, if_neg (by decide)]
      rw [show fn_R_placeOf b (Int32.ofNat k) 0 3 = some (pv_pl μ k 0 3) from po3 0 (by decide), Option.bind_some, show fn_R_placeOf b (Int32.ofNat k) 1 3 = some (pv_pl μ k 1 3) from po3 1 (by decide), Option.bind_some, show fn_R_placeOf b (Int32.ofNat k) 2 3 = some (pv_pl μ k 2 3) from po3 2 (by decide), Option.bind_some]
      rw [show (0 : Int32).toNatClampNeg = 0 by decide, show (1 : Int32).toNatClampNeg = 1 by decide, show (2 : Int32).toNatClampNeg = 2 by decide, top, Option.bind_some, if_pos hx, ix_cl (by omega), bd, sz, eb.1, eb.2.2.1, eb.2.2.2, ixa1]
      have e17 : (xs_sl (xs_si b 167 p (Int32.ofNat k)) 169 p (pv_ovK μ k p)).2 154 14 = pv_D μ k := by rw [sl_ne _ _ _ (by decide), si_2]; exact bd
      have ins : (if xs_in (Int32.ofNat p) 192 = true then ((some (xs_si b 167 p (Int32.ofNat k))).bind fun μ15 => (if xs_in (Int32.ofNat p) 192 = true then ((some (xs_sl μ15 169 p (pv_ovK μ k p))).bind fun μ17 => (if xs_in (Int32.ofNat p) 192 = true then ((some (xs_sl μ17 170 p (pv_sg μ k * (μ17.2 154 14)))).bind fun μ19 => ((fn_R_texelOf μ19 (Int32.ofNat k)).bind fun w20 => (if xs_in (Int32.ofNat p) 192 = true then ((some (xs_si μ19 168 p w20)).bind fun μ22 => fn_R_draw_L75 fu μ22 x (Int32.ofNat k) (pv_sg μ k) (Int32.ofNat (p + 1))) else none))) else none)) else none)) else none) = fn_R_draw_L75 fu m4 x (Int32.ofNat k) (pv_sg μ k) (Int32.ofNat (p + 1)) := by
        rw [if_pos hx, Option.bind_some, if_pos hx, Option.bind_some, if_pos hx, Option.bind_some, e17, sz, ← hm3, tx, Option.bind_some, if_pos hx, Option.bind_some, ← hm4]
      rw [ins, if_pos hx, if_pos hx]
    cases eo : o p with
    | none =>
      rw [eo] at hmp
      refine put ?_ (fun fu => by rw [un, hmp.1, if_pos (by decide)])
      unfold pv_step pv_new pv_tk
      rw [eo, if_pos csh, if_pos (by rw [ccv]; rfl)]
    | some k' =>
      obtain ⟨g', hs'⟩ := ho p k' hp eo
      have z := pv_size h3 ht (pv_shD ht csh)
      have z' := pv_size g'.2.1 g'.2.2 (pv_shD g'.2.2 hs')
      have v := pv_Bov h3 ht (pv_pix hp).1 (pv_pix hp).2
      have v' := pv_Bov g'.2.1 g'.2.2 (pv_pix hp).1 (pv_pix hp).2
      have or := pn_order b (a := pv_ovK μ k p) (b := pv_szK μ k) (c := pv_ovK μ k' p) (d := pv_szK μ k') z.1 z'.1 (Int.le_trans (by decide) v.1) (Int.le_trans v.2 (by decide)) (Int.le_trans z.2 (by decide)) (Int.le_trans (by decide) v'.1) (Int.le_trans v'.2 (by decide)) (Int.le_trans z'.2 (by decide))
      rw [eo] at hmp
      obtain ⟨q1, q2, q3, q4⟩ := hmp
      have st : pv_step μ k p (o p) = if pv_ltK μ k k' p = true then some k else some k' := by
        unfold pv_step pv_new pv_tk
        rw [eo, if_pos csh, ccv, Bool.true_and]
        rfl
      by_cases q : (pv_ovK μ k p).toInt * (pv_szK μ k').toInt - (pv_ovK μ k' p).toInt * (pv_szK μ k).toInt < 0
      · refine put ?_ (fun fu => ?_)
        · rw [st, if_pos (show pv_ltK μ k k' p = true from decide_eq_true q)]
        · rw [un, q1, if_neg (ix_nn (Nat.lt_of_lt_of_le g'.1 (by decide))), q2, q3, or, Option.bind_some, if_neg (fun w => pv_sgn.mp w q)]
      · refine stay ?_ (fun fu => ?_)
        · rw [st, if_neg (by unfold pv_ltK; rw [decide_eq_true_eq]; exact q), eo]
        · rw [un, q1, if_neg (ix_nn (Nat.lt_of_lt_of_le g'.1 (by decide))), q2, q3, or, Option.bind_some, if_pos (pv_sgn.mpr q)]
  · refine stay ?_ (fun fu => ?_)
    · unfold pv_step pv_new
      by_cases s1 : pv_shK μ k = true
      · rw [if_pos s1, if_neg]
        rw [Bool.and_eq_true]
        intro w
        apply c
        rw [Bool.and_eq_true]
        exact ⟨s1, w.1⟩
      · rw [if_neg s1]
    · rw [fn_R_draw_L75, if_neg (pv_n192 hp), b1', if_neg c, Option.bind_some, if_pos rfl, ixa1]
