def pv_SR : List Nat := [154, 163, 164, 165, 166, 167, 168, 169, 170]
theorem pv_pr.ag {μ e b : xs_M} {k : Nat} (h : pv_pr μ e k) (ag : pv_ag [166, 167, 168, 169, 170] e b) : pv_pr μ b k := by
  refine ⟨by rw [ag.2 154 (by decide)]; exact h.1, fun m hm => ?_⟩
  rw [ag.2 163 (by decide), ag.2 164 (by decide), ag.2 165 (by decide)]
  exact h.2 m hm
theorem pv_drawT {μ e0 : xs_M} {bg x : Int32} {k : Nat} (g : pv_gd μ k) (tex : pv_tex (μ.1 7) (μ.1 158)) (ag : pv_ag pv_SD μ e0) (pr : pv_pr μ e0 k) {o : Nat → Option Nat} (ho : ∀ p k', p < 192 → o p = some k' → pv_gd μ k' ∧ pv_shK μ k' = true) (hm : ∀ q, q < 192 → pv_mR μ bg e0 q (o q)) :
    ∃ b, fn_R_draw_L75 xs_FU e0 x (Int32.ofNat k) (pv_sg μ k) 0 = some (192, b) ∧ pv_ag [166, 167, 168, 169, 170] e0 b ∧ ∀ q, q < 192 → pv_mR μ bg b q (pv_step μ k q (o q)) := by
  obtain ⟨b, b1, b2, b3⟩ := ix_for (fun fu a v => fn_R_draw_L75 fu a x (Int32.ofNat k) (pv_sg μ k) v) (fun p a => pv_ag [166, 167, 168, 169, 170] e0 a ∧ ∀ q, q < 192 → pv_mR μ bg a q (if q < p then pv_step μ k q (o q) else o q)) 192 (fun a => some (192, a)) e0 (by omega)
    ⟨pv_ag.rf _ _, fun q hq => by rw [if_neg (Nat.not_lt_zero q)]; exact hm q hq⟩
    (fun fu a h => by show fn_R_draw_L75 (fu + 1) _ _ _ _ (Int32.ofNat 192) = _; rw [fn_R_draw_L75, if_pos pv_e192]; rfl)
    (fun p a hp h => by
      obtain ⟨c, c1, c2, c3⟩ := pv_pix1 (x := x) hp g tex (ag.tr' (h.1.mono (by decide))) (pr.ag h.1) ho h.2
      exact ⟨c, c1, h.1.tr' c2, c3⟩)
  refine ⟨b, b1, b2, fun q hq => ?_⟩
  have := b3 q hq
  rw [if_pos hq] at this
  exact this
theorem pv_drawR {μ n : xs_M} {bg x : Int32} {tc ct : Nat} (htc : tc ≤ 20) (hct : ct < 3) (h9 : n.1 154 9 = Int32.ofNat (3 * tc + ct)) (g : ∀ k, k < tc → pv_gd μ k) (tex : pv_tex (μ.1 7) (μ.1 158)) (ag : pv_ag pv_SD μ n) (h0 : ∀ p, p < 192 → n.1 167 p = -1 ∧ n.1 168 p = bg) :
    ∃ d, fn_R_draw_L40 xs_FU n x 0 = some (Int32.ofNat tc, d) ∧ pv_ag pv_SR n d ∧ d.1 154 = n.1 154 ∧ ∀ p, p < 192 → pv_mR μ bg d p (pv_st μ tc p) := by
  obtain ⟨d, d1, d2⟩ := ix_for (fun fu a v => fn_R_draw_L40 fu a x v) (fun t a => pv_ag pv_SR n a ∧ a.1 154 = n.1 154 ∧ ∀ p, p < 192 → pv_mR μ bg a p (pv_st μ t p)) tc (fun a => some (Int32.ofNat tc, a)) n (by omega)
    ⟨pv_ag.rf _ _, rfl, fun p hp => h0 p hp⟩
    (fun fu a h => by
      show fn_R_draw_L40 (fu + 1) _ _ (Int32.ofNat tc) = _
      rw [fn_R_draw_L40, h.2.1, h9, show Int32.ofNat (3 * tc + ct) / 3 = Int32.ofNat ((3 * tc + ct) / 3) from ix_div (b := 3) (by omega) (by decide), show (3 * tc + ct) / 3 = tc by omega, if_pos pv_end])
    (fun t a ht h => by
      have aga : pv_ag pv_SD μ a := ag.tr' (h.1.mono (by decide))
      obtain ⟨w, w1, w2, w3, w4, w5⟩ := pv_prep (μ := a) (k := t) (by omega)
      obtain ⟨f1, f2, f3, f4, f5⟩ := pv_D.fr (μ := μ) (μ' := a) (k := t) (aga.1 159 (by decide))
      have pr : pv_pr μ w t := by
        refine ⟨by rw [w4, f1], fun m hm => ?_⟩
        rw [← f3, ← f4, ← f5]; exact w5 m hm
      have agw : pv_ag pv_SD μ w := aga.tr' (w3.mono (by decide))
      obtain ⟨b, b1, b2, b3⟩ := pv_drawT (x := x) (bg := bg) (g t ht) tex agw pr (o := pv_st μ t) (fun p k' hp hk' => by
        obtain ⟨q1, q2, -⟩ := pv_st_some hk'
        exact ⟨g k' (by omega), q2⟩) (fun q hq => (h.2.2 q hq).cong (by rw [w2]) (by rw [w3.2 169 (by decide)]) (by rw [w3.2 170 (by decide)]) (by rw [w2]))
      have un : ∀ fu, fn_R_draw_L40 (fu + 1) a x (Int32.ofNat t) = ((fn_R_draw_L75 xs_FU w x (Int32.ofNat t) (pv_sg μ t) 0).bind fun z35 => fn_R_draw_L40 fu z35.2 x (Int32.ofNat (t + 1))) := by
        intro fu
        rw [fn_R_draw_L40, h.2.1, h9, show Int32.ofNat (3 * tc + ct) / 3 = Int32.ofNat ((3 * tc + ct) / 3) from ix_div (b := 3) (by omega) (by decide), show (3 * tc + ct) / 3 = tc by omega, if_neg (pv_nle ht (by omega)), w1, Option.bind_some, pr.1, ixa1]
        rcases pv_sgc μ t with ⟨hge, e1⟩ | ⟨hlt, e1⟩
        · rw [if_pos ((lg_cmp_ge _ _).mpr hge), e1]
        · rw [if_neg (fun q => hlt ((lg_cmp_ge _ _).mp q)), e1]
      refine ⟨b, fun fu => ?_, (h.1.tr' (w3.mono (by decide))).tr' (b2.mono (by decide)), ?_, fun p hp => b3 p hp⟩
      · show fn_R_draw_L40 (fu + 1) a x (Int32.ofNat t) = _
        obtain ⟨z, hz, hz2⟩ : ∃ z, fn_R_draw_L75 xs_FU w x (Int32.ofNat t) (pv_sg μ t) 0 = some z ∧ z.2 = b := ⟨_, b1, rfl⟩
        rw [un, hz, Option.bind_some, hz2]
      · rw [b2.1 154 (by decide), w2]; exact h.2.1)
  exact ⟨d, d1, d2⟩
theorem pv_wipeR (μ : xs_M) (x : Int32) : ∃ a, fn_R_draw_L7 xs_FU μ x 0 = some (192, a) ∧ pv_ag [167, 168] μ a ∧ ∀ p, p < 192 → a.1 167 p = -1 ∧ a.1 168 p = x &&& 255 := by
  obtain ⟨a, h1, h2⟩ := ix_for (fun fu a v => fn_R_draw_L7 fu a x v) (fun k a => pv_ag [167, 168] μ a ∧ ∀ p, p < k → a.1 167 p = -1 ∧ a.1 168 p = x &&& 255) 192 (fun a => some (192, a)) μ (by omega)
    ⟨pv_ag.rf _ _, fun j hj => absurd hj (by omega)⟩
    (fun fu a h => by show fn_R_draw_L7 (fu + 1) _ _ (Int32.ofNat 192) = _; rw [fn_R_draw_L7, if_pos pv_e192]; rfl)
    (fun k a hk h => by
      refine ⟨xs_si (xs_si a 167 k (-1)) 168 k (x &&& 255), fun fu => ?_, (h.1.si (by simp) _ _).si (by simp) _ _, fun p hp => ?_⟩
      · show fn_R_draw_L7 (fu + 1) _ _ (Int32.ofNat k) = _
        rw [fn_R_draw_L7, if_neg (pv_n192 hk), if_pos (ix_in hk (by omega)), Option.bind_some, if_pos (ix_in hk (by omega)), Option.bind_some, ix_cl (by omega), ixa1]
      · rw [si_ne _ _ _ (show 167 ≠ 168 by decide), si_same, si_same, si_ne _ _ _ (show 168 ≠ 167 by decide)]
        by_cases e : p = k
        · rw [if_pos e, if_pos e]; exact ⟨rfl, rfl⟩
        · rw [if_neg e, if_neg e]; exact h.2 p (by omega))
  exact ⟨a, h1, h2⟩
theorem pv_countR {d : xs_M} {x : Int32} {s : Nat → Option Nat} (hs : ∀ p, p < 192 → (s p).elim (d.1 167 p = -1) (fun k => k < 20 ∧ d.1 167 p = Int32.ofNat k)) : fn_R_draw_L244 xs_FU d x 0 0 = some (Int32.ofNat (pv_cn s 192), 192) := by
  obtain ⟨a, h1, h2⟩ := ix_for (fun fu a v => fn_R_draw_L244 fu d x a v) (fun p a => a = Int32.ofNat (pv_cn s p)) 192 (fun a => some (a, 192)) 0 (by omega)
    rfl
    (fun fu a h => by show fn_R_draw_L244 (fu + 1) _ _ _ (Int32.ofNat 192) = _; rw [fn_R_draw_L244, if_pos pv_e192]; rfl)
    (fun p a hp h => by
      refine ⟨a + (if (s p).isSome = true then 1 else 0), fun fu => ?_, by rw [h, pv_ofn]; rfl⟩
      show fn_R_draw_L244 (fu + 1) _ _ _ (Int32.ofNat p) = _
      rw [fn_R_draw_L244, if_neg (pv_n192 hp), if_pos (ix_in hp (by omega)), ix_cl (by omega), ixa1]
      have q := hs p hp
      cases es : s p with
      | none =>
        rw [es] at q
        have q' : d.1 167 p = -1 := q
        rw [q', if_pos (by decide), show (if (none : Option Nat).isSome = true then (1 : Int32) else 0) = 0 from rfl, Int32.add_zero]
      | some k =>
        rw [es] at q
        obtain ⟨q1, q2⟩ := q
        rw [q2, if_neg (ix_nn (by omega)), Option.bind_some]
        rfl)
  have h1' : fn_R_draw_L244 xs_FU d x 0 0 = some (a, 192) := h1
  rw [h1', h2]
theorem pv_draw {μ0 : xs_M} (h : pv_I μ0) (x : Int32) : ∃ r μ1 μ2, fn_S_draw μ0 x = some (r, μ1) ∧ fn_R_draw μ1 x = some (r, μ2) ∧ pv_I μ2 := by
  obtain ⟨tc, ct, hc0⟩ := h.cnt
  obtain ⟨μ, w1, w2, w3, w4⟩ := pv_wipe μ0 (x &&& 255)
  have hc : pv_cnt μ tc ct := by
    refine hc0.fr ?_ ?_ (w2.1 159 (by decide)) (w2.1 160 (by decide)) (w2.1 161 (by decide)) (w2.1 162 (by decide))
    · rw [w2.1 0 (by decide), w2.1 154 (by decide)]; exact ⟨rfl, rfl, rfl⟩
    · intro i h1 h2; exact ⟨w2.1 i (by simp; omega), w2.2 i (by simp; omega)⟩
  have hc' := hc
  obtain ⟨⟨c1, c2, c3⟩, ⟨c4, c5, c6⟩, c7, c8⟩ := hc'
  have g : ∀ k, k < tc → pv_gd μ k := fun k hk => ⟨by omega, fun n hn => c7 k n hn (by omega), c8 k hk⟩
  have tex : pv_tex (μ.1 7) (μ.1 158) := by rw [w2.1 7 (by decide), w2.1 158 (by decide)]; exact h.tex
  obtain ⟨b, b1, b2, b3⟩ := pv_drawC c1 c4 g (fun p hp => (w4 p hp).2) x
  have gs : ∀ p k, pv_st μ tc p = some k → pv_gd μ k ∧ pv_shK μ k = true ∧ pv_covK μ k p = true := fun p k hk => by
    obtain ⟨q1, q2, q3⟩ := pv_st_some hk
    exact ⟨g k q1, q2, q3⟩
  obtain ⟨c, d1, d2, d3⟩ := pv_paint gs b2 b3
  have hS : fn_S_draw μ0 x = some (Int32.ofNat (pv_cn (pv_st μ tc) 192), c) := by
    unfold fn_S_draw
    obtain ⟨z, hz, hz2⟩ : ∃ z, fn_S_draw_L14 xs_FU μ x 0 = some z ∧ z.2 = b := ⟨_, b1, rfl⟩
    rw [w1, Option.bind_some, hz, Option.bind_some, hz2, d1, Option.bind_some]
  obtain ⟨n, n1, n2, n3⟩ := pv_wipeR (xs_si c 154 0 0) x
  have agc : pv_ag pv_SD μ c := (b2.mono (by decide)).tr' (d2.mono (by decide))
  have agm : pv_ag pv_SD μ (xs_si c 154 0 0) := agc.si (by decide) _ _
  have agn : pv_ag pv_SD μ n := agm.tr' (n2.mono (by decide))
  have c154 : c.1 154 = μ.1 154 := by rw [d2.1 154 (by decide), b2.1 154 (by decide)]
  have n154 : n.1 154 = (xs_si c 154 0 0).1 154 := n2.1 154 (by decide)
  have n154j : ∀ j, j ≠ 0 → n.1 154 j = μ0.1 154 j := fun j hj => by rw [n154, si_same, if_neg hj, c154, w2.1 154 (by decide)]
  obtain ⟨d, e1, e2, e3, e4⟩ := pv_drawR (μ := μ) (x := x) (bg := x &&& 255) c1 c2 (by rw [n154j 9 (by decide), ← w2.1 154 (by decide), c6]) g tex agn n3
  have cnt := pv_countR (d := d) (x := x) (s := pv_st μ tc) (fun p hp => by
    have q := e4 p hp
    cases es : pv_st μ tc p with
    | none => rw [es] at q; exact q.1
    | some k =>
      rw [es] at q
      exact ⟨(gs p k es).1.1, q.1⟩)
  have hR : fn_R_draw c x = some (Int32.ofNat (pv_cn (pv_st μ tc) 192), d) := by
    unfold fn_R_draw
    obtain ⟨z, hz, hz2⟩ : ∃ z, fn_R_draw_L7 xs_FU (xs_si c 154 0 0) x 0 = some z ∧ z.2 = n := ⟨_, n1, rfl⟩
    obtain ⟨y, hy, hy2⟩ : ∃ y, fn_R_draw_L40 xs_FU n x 0 = some y ∧ y.2 = d := ⟨_, e1, rfl⟩
    rw [Option.bind_some, hz, Option.bind_some, hz2, hy, Option.bind_some, hy2, cnt, Option.bind_some]
  have agd : pv_ag pv_SD μ0 d := ((w2.mono (by decide)).tr' agn).tr' (e2.mono (by decide))
  have dn : ∀ i, i ∉ pv_SR → d.1 i = n.1 i ∧ d.2 i = n.2 i := fun i hi => ⟨e2.1 i hi, e2.2 i hi⟩
  have d154 : ∀ j, j ≠ 0 → d.1 154 j = μ0.1 154 j := fun j hj => by rw [e3]; exact n154j j hj
  refine ⟨_, c, d, hS, hR, pv_I.mk ?_ ?_ ?_ ?_ ?_ ?_ ?_ ⟨tc, ct, hc0.fr ?_ ?_ (agd.1 159 (by decide)) (agd.1 160 (by decide)) (agd.1 161 (by decide)) (agd.1 162 (by decide))⟩ ?_⟩
  · rw [agd.1 2 (by decide), agd.1 155 (by decide)]; exact h.mat
  · rw [agd.1 3 (by decide), agd.1 157 (by decide)]; exact h.pile
  · rw [agd.1 1 (by decide), d154 4 (by decide)]; exact h.saved
  · rw [agd.1 0 (by decide), d154 5 (by decide)]; exact h.use1
  · rw [agd.1 0 (by decide), d154 6 (by decide)]; exact h.use2
  · rw [agd.1 0 (by decide), d154 7 (by decide)]; exact h.use3
  · rw [agd.1 7 (by decide), agd.1 158 (by decide)]; exact h.tex
  · rw [agd.1 0 (by decide), d154 9 (by decide)]; exact ⟨rfl, rfl, rfl⟩
  · intro i h1 h2
    have : i ∉ pv_SD := by unfold pv_SD; simp; omega
    exact ⟨agd.1 i this, agd.2 i this⟩
  · intro p hp
    have x9 : d.1 9 p = pv_pt μ (b.1 9) (pv_st μ tc) p := by rw [(dn 9 (by decide)).1, n2.1 9 (by decide), si_ne _ _ _ (by decide)]; exact d3 p hp
    have x10 : d.1 10 p = b.1 10 p := by rw [(dn 10 (by decide)).1, n2.1 10 (by decide), si_ne _ _ _ (by decide), d2.1 10 (by decide)]
    have x11 : d.2 11 p = b.2 11 p := by rw [(dn 11 (by decide)).2, n2.2 11 (by decide), si_2, d2.2 11 (by decide)]
    have x12 : d.2 12 p = b.2 12 p := by rw [(dn 12 (by decide)).2, n2.2 12 (by decide), si_2, d2.2 12 (by decide)]
    have b9 : b.1 9 p = x &&& 255 := by rw [b2.1 9 (by decide)]; exact (w4 p hp).1
    rw [x9, x10, x11, x12]
    have q := e4 p hp
    have q2 := b3 p hp
    unfold pv_pt
    cases es : pv_st μ tc p with
    | none =>
      rw [es] at q q2
      have q2' : b.1 10 p = -1 := q2
      refine ⟨?_, ?_, Or.inl q2'⟩
      · show b.1 9 p = _
        rw [b9, q.2]
      · rw [q2', q.1]
    | some k =>
      rw [es] at q q2
      obtain ⟨q1, q3, q4, q5⟩ := q
      obtain ⟨p1, p3, p4⟩ := q2
      obtain ⟨g1, g2, g3⟩ := gs p k es
      refine ⟨?_, by rw [p1, q1], Or.inr ⟨⟨k, g1.1, p1⟩, by rw [p3, q3], by rw [p4, q4], ?_, ?_⟩⟩
      · show pv_colK μ k p = _
        rw [q5]
      · rw [p3]; exact pv_Bov g1.2.1 g1.2.2 (pv_pix hp).1 (pv_pix hp).2
      · rw [p4]; exact pv_size g1.2.1 g1.2.2 (pv_shD g1.2.2 g2)
