theorem pv_I.rbV {μ μ' : xs_M} (h : pv_I μ) {k : Nat} (hk : k < 20) (ha : pv_ag [0, 154, 159, 160, 161, 162, 171, 14 + 7 * k, 14 + 7 * k + 1, 14 + 7 * k + 2, 14 + 7 * k + 3, 14 + 7 * k + 4, 14 + 7 * k + 5, 14 + 7 * k + 6] μ μ') (h6 : μ'.1 0 6 = μ.1 0 6) (h7 : μ'.1 0 7 = μ.1 0 7) (h8 : μ'.1 0 8 = μ.1 0 8) (k4 : μ'.1 154 4 = μ.1 154 4) (k5 : μ'.1 154 5 = μ.1 154 5) (k6 : μ'.1 154 6 = μ.1 154 6) (k7 : μ'.1 154 7 = μ.1 154 7) (cnt : ∃ tc ct, pv_cnt μ' tc ct) : pv_I μ' := by
  refine pv_I.mk ?_ ?_ ?_ ?_ ?_ ?_ ?_ cnt ?_
  · rw [ha.1 2 (by simp; omega), ha.1 155 (by simp; omega)]; exact h.mat
  · rw [ha.1 3 (by simp; omega), ha.1 157 (by simp; omega)]; exact h.pile
  · rw [ha.1 1 (by simp; omega), k4]; exact h.saved
  · rw [h6, k5]; exact h.use1
  · rw [h7, k6]; exact h.use2
  · rw [h8, k7]; exact h.use3
  · rw [ha.1 7 (by simp; omega), ha.1 158 (by simp; omega)]; exact h.tex
  · rw [ha.1 9 (by simp; omega), ha.1 10 (by simp; omega), ha.2 11 (by simp; omega), ha.2 12 (by simp; omega), ha.1 168 (by simp; omega), ha.1 167 (by simp; omega), ha.2 169 (by simp; omega), ha.2 170 (by simp; omega)]; exact h.pic
theorem pv_vertex_ok {μ : xs_M} (h : pv_I μ) {tc ct : Nat} (hc : pv_cnt μ tc ct) (htc : tc < 20) (x y z u v : Int32) (hx : ¬ (x < -31 ∨ 31 < x)) (hy : ¬ (y < -31 ∨ 31 < y)) (hz : ¬ (z < -31 ∨ 31 < z)) (hu : ¬ (u < -127 ∨ 127 < u)) (hv : ¬ (v < -127 ∨ 127 < v)) :
    ∃ m1 y' μ2, fn_S_addCorner μ x y z u v = some m1 ∧ fn_R_vertex (xs_sl m1 171 0 (m1.1 0 4).toInt64) x y z u v = some (y', μ2) ∧ μ2.1 154 0 = 0 ∧ μ2.2 171 0 = y'.toInt64 ∧ pv_I μ2 := by
  obtain ⟨⟨c1, c2, c3⟩, ⟨c4, c5, c6⟩, c7, c8⟩ := hc
  have bx : pv_b 31 x := pv_bx (a := -31) (b := 31) (by decide) (by decide) (fun q => hx (Or.inl q)) (fun q => hx (Or.inr q))
  have by' : pv_b 31 y := pv_bx (a := -31) (b := 31) (by decide) (by decide) (fun q => hy (Or.inl q)) (fun q => hy (Or.inr q))
  have bz' : pv_b 31 z := pv_bx (a := -31) (b := 31) (by decide) (by decide) (fun q => hz (Or.inl q)) (fun q => hz (Or.inr q))
  have bu : pv_b 127 u := pv_bx (a := -127) (b := 127) (by decide) (by decide) (fun q => hu (Or.inl q)) (fun q => hu (Or.inr q))
  have bv : pv_b 127 v := pv_bx (a := -127) (b := 127) (by decide) (by decide) (fun q => hv (Or.inl q)) (fun q => hv (Or.inr q))
  have hb : ∀ j, j < 16 → pv_b 511 (μ.1 2 j) := fun j hj => (h.mat j hj).2
  have rb : ∀ r, r < 4 → pv_b 48034 (pv_rt (μ.1 2) r x y z) := fun r hr => pv_rt_b hb hr bx by' bz'
  have rteq : ∀ (m : xs_M), m.1 155 = μ.1 155 → ∀ r, r < 4 → pv_rt (m.1 155) r x y z = pv_rt (μ.1 2) r x y z := by
    intro m hm r hr
    unfold pv_rt
    rw [hm, (h.mat _ (show 4 * r < 16 by omega)).1, (h.mat _ (show 4 * r + 1 < 16 by omega)).1, (h.mat _ (show 4 * r + 2 < 16 by omega)).1, (h.mat _ (show 4 * r + 3 < 16 by omega)).1]
  have hadd := pv_addC htc c2 c4 c5 x y z u v
  have bp : pv_b 1537088 (16 * (pv_rt (μ.1 2) 0 x y z + pv_rt (μ.1 2) 3 x y z)) := pv_bmul (A := 16) (B := 48034 + 48034) ⟨by decide, by decide⟩ (pv_badd (rb 0 (by omega)) (rb 3 (by omega)) (by decide)) (by decide)
  have bq : pv_b 1152816 (12 * (pv_rt (μ.1 2) 1 x y z + pv_rt (μ.1 2) 3 x y z)) := pv_bmul (A := 12) (B := 48034 + 48034) ⟨by decide, by decide⟩ (pv_badd (rb 1 (by omega)) (rb 3 (by omega)) (by decide)) (by decide)
  have bw := rb 3 (by omega)
  have bz := rb 2 (by omega)
  have R := fun (m1 : xs_M) (h155 : m1.1 155 = μ.1 155) (h9 : m1.1 154 9 = μ.1 154 9) => pv_addR (μ := m1) (t := 3 * tc + ct) (by omega) (h9.trans c6) x y z u v hx hy hz hu hv _ rfl
  have rp : ∀ (m : xs_M), m.1 155 = μ.1 155 → pv_r8 m (3 * tc + ct) (16 * (pv_rt (m.1 155) 0 x y z + pv_rt (m.1 155) 3 x y z)) (12 * (pv_rt (m.1 155) 1 x y z + pv_rt (m.1 155) 3 x y z)) (pv_rt (m.1 155) 3 x y z) (pv_rt (m.1 155) 2 x y z) u v = pv_r8 m (3 * tc + ct) (16 * (pv_rt (μ.1 2) 0 x y z + pv_rt (μ.1 2) 3 x y z)) (12 * (pv_rt (μ.1 2) 1 x y z + pv_rt (μ.1 2) 3 x y z)) (pv_rt (μ.1 2) 3 x y z) (pv_rt (μ.1 2) 2 x y z) u v := by
    intro m hm
    rw [rteq m hm 0 (by omega), rteq m hm 1 (by omega), rteq m hm 2 (by omega), rteq m hm 3 (by omega)]
  generalize 16 * (pv_rt (μ.1 2) 0 x y z + pv_rt (μ.1 2) 3 x y z) = P at *
  generalize 12 * (pv_rt (μ.1 2) 1 x y z + pv_rt (μ.1 2) 3 x y z) = Q at *
  generalize pv_rt (μ.1 2) 3 x y z = Wd at *
  generalize pv_rt (μ.1 2) 2 x y z = Zd at *
  have t6 : 6 * (3 * tc + ct) = 18 * tc + 6 * ct := by omega
  obtain ⟨m8, hm8⟩ : ∃ m8, m8 = pv_c8 μ tc ct P Q Wd Zd u v := ⟨_, rfl⟩
  have ag8 : pv_ag [14 + 7 * tc + 1, 14 + 7 * tc + 2, 14 + 7 * tc + 3] μ m8 := by rw [hm8]; exact pv_c8_ag ..
  by_cases e : ct = 2
  · subst e
    rw [show Int32.ofNat (2 + 1) = 3 from rfl, if_pos rfl, ← hm8] at hadd
    obtain ⟨G, hG⟩ : ∃ G, G = pv_G (μ.1 159) (18 * tc + 6 * 2) P Q Wd Zd u v := ⟨_, rfl⟩
    have hnum : pv_nums (xs_si m8 0 5 3) tc (fun n c => (G (18 * tc + 6 * n + c)).toInt64) := by
      intro n c hn hcc
      rw [si_2, hm8, pv_c8_n, hG]
      show _ = (pv_G (μ.1 159) (18 * tc + 6 * 2) P Q Wd Zd u v (18 * tc + 6 * n + c)).toInt64
      by_cases e2 : n = 2
      · subst e2
        obtain ⟨g1, g2, g3, -, -, -⟩ := pv_G_at (f := μ.1 159) (t := 18 * tc + 6 * 2) (p := P) (q := Q) (w := Wd) (z := Zd) (u := u) (v := v)
        have hc3 : c = 0 ∨ c = 1 ∨ c = 2 := by omega
        rcases hc3 with rfl | rfl | rfl
        · rw [Nat.add_zero, Nat.add_zero, g1, if_neg (by decide), if_neg (by decide), if_neg (by decide), if_pos rfl]
        · rw [g2, if_neg (by decide), if_neg (by decide), if_pos (by decide)]
        · rw [g3, if_neg (by decide), if_pos (by decide)]
      · rw [if_neg (by omega), if_neg (by omega), if_neg (by omega), if_neg (by omega), pv_G_lt (by omega)]
        obtain ⟨o1, o2, o3, -⟩ := c7 tc n hn (by omega)
        have hc3 : c = 0 ∨ c = 1 ∨ c = 2 := by omega
        rcases hc3 with rfl | rfl | rfl
        · exact o1
        · exact o2
        · exact o3
    obtain ⟨a, a1, a2, a3, a4, a5, a6, a7⟩ := pv_complete hnum (μ.1 0 6) (μ.1 0 7) (μ.1 0 8)
    have a0 : a.1 0 = (xs_si m8 0 5 3).1 0 := a2.1 0 (by simp; omega)
    have m80 : m8.1 0 = μ.1 0 := ag8.1 0 (by simp)
    have a04 : a.1 0 4 = Int32.ofNat tc := by rw [a0, si_same, if_neg (by decide), m80, c4]
    rw [a1, Option.bind_some, a04, ixa1] at hadd
    obtain ⟨b, hbb⟩ : ∃ b, b = xs_si (xs_si a 0 4 (Int32.ofNat (tc + 1))) 0 5 0 := ⟨_, rfl⟩
    rw [← hbb] at hadd
    have b04 : b.1 0 4 = Int32.ofNat (tc + 1) := by rw [hbb, si_same, if_neg (by decide), si_same, if_pos rfl]
    have agb : pv_ag [0, 154, 159, 160, 161, 162, 171, 14 + 7 * tc, 14 + 7 * tc + 1, 14 + 7 * tc + 2, 14 + 7 * tc + 3, 14 + 7 * tc + 4, 14 + 7 * tc + 5, 14 + 7 * tc + 6] μ b := by
      rw [hbb]
      exact ((((ag8.mono (by simp +contextual)).si (by simp) _ _).tr' (a2.mono (by simp +contextual))).si (by simp) _ _).si (by simp) _ _
    have b1 : ∀ i, i ≠ 0 → b.1 i = a.1 i := fun i hi => by rw [hbb, si_ne _ _ _ hi, si_ne _ _ _ hi]
    have b2 : b.2 = a.2 := by rw [hbb]; rfl
    have b154 : b.1 154 = μ.1 154 := by rw [b1 154 (by decide), a2.1 154 (by simp; omega), si_ne _ _ _ (by decide), ag8.1 154 (by simp; omega)]
    have b155 : b.1 155 = μ.1 155 := by rw [b1 155 (by decide), a2.1 155 (by simp; omega), si_ne _ _ _ (by decide), ag8.1 155 (by simp; omega)]
    have bo : ∀ i, 154 ≤ i → i ≠ 0 → b.1 i = μ.1 i := fun i p1 p2 => by rw [b1 i p2, a2.1 i (by simp; omega), si_ne _ _ _ p2, ag8.1 i (by simp; omega)]
    have b159 : b.1 159 = μ.1 159 := by rw [b1 159 (by decide), a2.1 159 (by simp; omega), si_ne _ _ _ (by decide), ag8.1 159 (by simp; omega)]
    obtain ⟨d, hd⟩ : ∃ d, d = xs_sl b 171 0 (Int32.ofNat (tc + 1)).toInt64 := ⟨_, rfl⟩
    have d1 : d.1 = b.1 := by rw [hd]; rfl
    have hR := R d (by rw [d1]; exact b155) (by rw [d1, b154])
    rw [rp d (by rw [d1]; exact b155), if_pos (by omega), show (3 * tc + 2 + 1) / 3 = tc + 1 by omega, show tc + 1 - 1 = tc by omega, d1, b154] at hR
    obtain ⟨e8, he8⟩ : ∃ e8, e8 = pv_r8 d (3 * tc + 2) P Q Wd Zd u v := ⟨_, rfl⟩
    have age : pv_ag [154, 159] d e8 := by rw [he8]; exact pv_r8_ag ..
    rw [← he8] at hR
    obtain ⟨f, hf⟩ : ∃ f, f = xs_si (xs_si (xs_si e8 160 tc (μ.1 154 5)) 161 tc (μ.1 154 6)) 162 tc (μ.1 154 7) := ⟨_, rfl⟩
    rw [← hf] at hR
    have f1 : ∀ i, i ≠ 160 → i ≠ 161 → i ≠ 162 → f.1 i = e8.1 i := fun i p1 p2 p3 => by rw [hf, si_ne _ _ _ p3, si_ne _ _ _ p2, si_ne _ _ _ p1]
    have f2 : f.2 = d.2 := by rw [hf, si_2, si_2, si_2, he8, pv_r8_2]
    have f159 : f.1 159 = G := by rw [f1 159 (by decide) (by decide) (by decide), he8, pv_r8_159, d1, b159, t6, hG]
    have f154 : ∀ j, j ≠ 9 → j ≠ 0 → f.1 154 j = μ.1 154 j := fun j p1 p2 => by rw [f1 154 (by decide) (by decide) (by decide), he8, pv_r8_154, if_neg p1, if_neg p2, d1, b154]
    have f154_9 : f.1 154 9 = Int32.ofNat (3 * tc + 2 + 1) := by rw [f1 154 (by decide) (by decide) (by decide), he8, pv_r8_154, if_pos rfl]
    have f154_0 : f.1 154 0 = 0 := by rw [f1 154 (by decide) (by decide) (by decide), he8, pv_r8_154, if_neg (by decide), if_pos rfl]
    have fo : ∀ i, i ≠ 160 → i ≠ 161 → i ≠ 162 → i ≠ 154 → i ≠ 159 → f.1 i = b.1 i := fun i p1 p2 p3 p4 p5 => by rw [f1 i p1 p2 p3, age.1 i (by simp; omega), d1]
    have f2o : ∀ i, i ≠ 171 → f.2 i = a.2 i := fun i p => by rw [f2, hd, sl_ne _ _ _ p, b2]
    refine ⟨b, Int32.ofNat (tc + 1), f, hadd, ?_, f154_0, ?_, h.rbV htc ?_ ?_ ?_ ?_ (f154 4 (by decide) (by decide)) (f154 5 (by decide) (by decide)) (f154 6 (by decide) (by decide)) (f154 7 (by decide) (by decide)) ⟨tc + 1, 0, ⟨by omega, by omega, fun _ => rfl⟩, ⟨?_, ?_, ?_⟩, ?_, ?_⟩⟩
    · rw [b04, ← hd]; exact hR
    · rw [f2, hd, sl_same, if_pos rfl]
    · have agd : pv_ag [0, 154, 159, 160, 161, 162, 171, 14 + 7 * tc, 14 + 7 * tc + 1, 14 + 7 * tc + 2, 14 + 7 * tc + 3, 14 + 7 * tc + 4, 14 + 7 * tc + 5, 14 + 7 * tc + 6] μ d := by rw [hd]; exact agb.sl (by simp) _ _
      rw [hf]
      exact (((agd.tr' (age.mono (by simp +contextual))).si (by simp) _ _).si (by simp) _ _).si (by simp) _ _
    · rw [fo 0 (by decide) (by decide) (by decide) (by decide) (by decide), hbb, si_same, if_neg (by decide), si_same, if_neg (by decide), a0, si_same, if_neg (by decide), m80]
    · rw [fo 0 (by decide) (by decide) (by decide) (by decide) (by decide), hbb, si_same, if_neg (by decide), si_same, if_neg (by decide), a0, si_same, if_neg (by decide), m80]
    · rw [fo 0 (by decide) (by decide) (by decide) (by decide) (by decide), hbb, si_same, if_neg (by decide), si_same, if_neg (by decide), a0, si_same, if_neg (by decide), m80]
    · rw [fo 0 (by decide) (by decide) (by decide) (by decide) (by decide), b04]
    · rw [fo 0 (by decide) (by decide) (by decide) (by decide) (by decide), hbb, si_same, if_pos rfl]; rfl
    · rw [f154_9]; rfl
    · intro k' n' hn' hlt
      refine pv_corners (μ := μ) (k := tc) (n := 2) (p := P) (q := Q) (w := Wd) (z := Zd) (u := u) (v := v) c7 (by omega) (fun k' hk' => ⟨?_, ?_, ?_⟩) (fun j hj => ?_) ?_ ?_ (by rw [f159, hG]) bp bq bw bz bu bv k' n' hn' (by omega)
      · rw [f2o _ (by omega), a2.2 _ (by simp; omega), si_2, ag8.2 _ (by simp; omega)]
      · rw [fo _ (by omega) (by omega) (by omega) (by omega) (by omega), b1 _ (by omega), a2.1 _ (by simp; omega), si_ne _ _ _ (by omega), ag8.1 _ (by simp; omega)]
      · rw [fo _ (by omega) (by omega) (by omega) (by omega) (by omega), b1 _ (by omega), a2.1 _ (by simp; omega), si_ne _ _ _ (by omega), ag8.1 _ (by simp; omega)]
      · rw [f2o _ (by omega), a5 j hj, si_2, hm8]
      · rw [fo _ (by omega) (by omega) (by omega) (by omega) (by omega), b1 _ (by omega), a2.1 _ (by simp), si_ne _ _ _ (by omega), hm8]
      · rw [fo _ (by omega) (by omega) (by omega) (by omega) (by omega), b1 _ (by omega), a2.1 _ (by simp), si_ne _ _ _ (by omega), hm8]
    · intro k' hk'
      by_cases ek : k' = tc
      · subst ek
        have pe : (fun n c => (G (18 * k' + 6 * n + c)).toInt64) = pv_pl f k' := by
          funext n c
          unfold pv_pl
          rw [f159]
        rw [pe] at a4 a6 a7
        unfold pv_tri
        have f160 : f.1 160 k' = μ.1 154 5 := by rw [hf, si_ne _ _ _ (by decide), si_ne _ _ _ (by decide), si_same, if_pos rfl]
        have f161 : f.1 161 k' = μ.1 154 6 := by rw [hf, si_ne _ _ _ (by decide), si_same, if_pos rfl]
        have f162 : f.1 162 k' = μ.1 154 7 := by rw [hf, si_same, if_pos rfl]
        rw [fo (14 + 7 * k') (by omega) (by omega) (by omega) (by omega) (by omega), b1 _ (by omega), a3.1, a3.2.1, a3.2.2, f160, f161, f162, f2o (14 + 7 * k' + 1) (by omega), f2o (14 + 7 * k') (by omega), f2o (14 + 7 * k' + 4) (by omega), f2o (14 + 7 * k' + 5) (by omega), f2o (14 + 7 * k' + 6) (by omega)]
        exact ⟨h.use1, h.use2, h.use3, a4, a6, a7⟩
      · refine (c8 k' (by omega)).fr2 (fun j hj => ?_) ?_ (fun j hj => ?_) ?_ ?_ ?_
        · rw [f2o _ (by omega), a2.2 _ (by simp; omega), si_2, ag8.2 _ (by simp; omega)]
        · rw [fo _ (by omega) (by omega) (by omega) (by omega) (by omega), b1 _ (by omega), a2.1 _ (by simp; omega), si_ne _ _ _ (by omega), ag8.1 _ (by simp; omega)]
        · rw [f159, hG, pv_G_lt (by omega)]
        · rw [hf, si_ne _ _ _ (by decide), si_ne _ _ _ (by decide), si_same, if_neg ek, age.1 160 (by decide), d1, bo 160 (by omega) (by omega)]
        · rw [hf, si_ne _ _ _ (by decide), si_same, if_neg ek, si_ne _ _ _ (by decide), age.1 161 (by decide), d1, bo 161 (by omega) (by omega)]
        · rw [hf, si_same, if_neg ek, si_ne _ _ _ (by decide), si_ne _ _ _ (by decide), age.1 162 (by decide), d1, bo 162 (by omega) (by omega)]
  · have ne3 : ¬ Int32.ofNat (ct + 1) = 3 := fun q => absurd ((ix_inj (b := 3) (by omega) (by decide)).mp q) (by omega)
    rw [if_neg ne3, ← hm8] at hadd
    have m80 : m8.1 0 = μ.1 0 := ag8.1 0 (by simp)
    obtain ⟨b, hbb⟩ : ∃ b, b = xs_si m8 0 5 (Int32.ofNat (ct + 1)) := ⟨_, rfl⟩
    rw [← hbb] at hadd
    have b04 : b.1 0 4 = Int32.ofNat tc := by rw [hbb, si_same, if_neg (by decide), m80, c4]
    have b1 : ∀ i, i ≠ 0 → b.1 i = m8.1 i := fun i hi => by rw [hbb, si_ne _ _ _ hi]
    have b2 : b.2 = m8.2 := by rw [hbb]; rfl
    have b154 : b.1 154 = μ.1 154 := by rw [b1 154 (by decide), ag8.1 154 (by simp; omega)]
    have b155 : b.1 155 = μ.1 155 := by rw [b1 155 (by decide), ag8.1 155 (by simp; omega)]
    have b159 : b.1 159 = μ.1 159 := by rw [b1 159 (by decide), ag8.1 159 (by simp; omega)]
    obtain ⟨d, hd⟩ : ∃ d, d = xs_sl b 171 0 (Int32.ofNat tc).toInt64 := ⟨_, rfl⟩
    have d1 : d.1 = b.1 := by rw [hd]; rfl
    have hR := R d (by rw [d1]; exact b155) (by rw [d1, b154])
    rw [rp d (by rw [d1]; exact b155), if_neg (by omega), show (3 * tc + ct + 1) / 3 = tc by omega] at hR
    obtain ⟨f, hf⟩ : ∃ f, f = pv_r8 d (3 * tc + ct) P Q Wd Zd u v := ⟨_, rfl⟩
    have age : pv_ag [154, 159] d f := by rw [hf]; exact pv_r8_ag ..
    rw [← hf] at hR
    have f2 : f.2 = d.2 := by rw [hf, pv_r8_2]
    have f159 : f.1 159 = pv_G (μ.1 159) (18 * tc + 6 * ct) P Q Wd Zd u v := by rw [hf, pv_r8_159, d1, b159, t6]
    have f154 : ∀ j, j ≠ 9 → j ≠ 0 → f.1 154 j = μ.1 154 j := fun j p1 p2 => by rw [hf, pv_r8_154, if_neg p1, if_neg p2, d1, b154]
    have f154_9 : f.1 154 9 = Int32.ofNat (3 * tc + ct + 1) := by rw [hf, pv_r8_154, if_pos rfl]
    have f154_0 : f.1 154 0 = 0 := by rw [hf, pv_r8_154, if_neg (by decide), if_pos rfl]
    have fo : ∀ i, i ≠ 154 → i ≠ 159 → f.1 i = b.1 i := fun i p4 p5 => by rw [age.1 i (by simp; omega), d1]
    have f2o : ∀ i, i ≠ 171 → f.2 i = m8.2 i := fun i p => by rw [f2, hd, sl_ne _ _ _ p, b2]
    refine ⟨b, Int32.ofNat tc, f, hadd, ?_, f154_0, ?_, h.rbV htc ?_ ?_ ?_ ?_ (f154 4 (by decide) (by decide)) (f154 5 (by decide) (by decide)) (f154 6 (by decide) (by decide)) (f154 7 (by decide) (by decide)) ⟨tc, ct + 1, ⟨by omega, by omega, by omega⟩, ⟨?_, ?_, ?_⟩, ?_, ?_⟩⟩
    · rw [b04, ← hd]; exact hR
    · rw [f2, hd, sl_same, if_pos rfl]
    · have agd : pv_ag [0, 154, 159, 160, 161, 162, 171, 14 + 7 * tc, 14 + 7 * tc + 1, 14 + 7 * tc + 2, 14 + 7 * tc + 3, 14 + 7 * tc + 4, 14 + 7 * tc + 5, 14 + 7 * tc + 6] μ d := by
        rw [hd, hbb]
        exact ((ag8.mono (by simp +contextual)).si (by simp) _ _).sl (by simp) _ _
      exact agd.tr' (age.mono (by simp +contextual))
    · rw [fo 0 (by decide) (by decide), hbb, si_same, if_neg (by decide), m80]
    · rw [fo 0 (by decide) (by decide), hbb, si_same, if_neg (by decide), m80]
    · rw [fo 0 (by decide) (by decide), hbb, si_same, if_neg (by decide), m80]
    · rw [fo 0 (by decide) (by decide), b04]
    · rw [fo 0 (by decide) (by decide), hbb, si_same, if_pos rfl]
    · rw [f154_9]; rfl
    · intro k' n' hn' hlt
      refine pv_corners (μ := μ) (k := tc) (n := ct) (p := P) (q := Q) (w := Wd) (z := Zd) (u := u) (v := v) c7 (by omega) (fun k' hk' => ⟨?_, ?_, ?_⟩) (fun j hj => ?_) ?_ ?_ f159 bp bq bw bz bu bv k' n' hn' (by omega)
      · rw [f2o _ (by omega), ag8.2 _ (by simp; omega)]
      · rw [fo _ (by omega) (by omega), b1 _ (by omega), ag8.1 _ (by simp; omega)]
      · rw [fo _ (by omega) (by omega), b1 _ (by omega), ag8.1 _ (by simp; omega)]
      · rw [f2o _ (by omega), hm8]
      · rw [fo _ (by omega) (by omega), b1 _ (by omega), hm8]
      · rw [fo _ (by omega) (by omega), b1 _ (by omega), hm8]
    · intro k' hk'
      refine (c8 k' (by omega)).fr2 (fun j hj => ?_) ?_ (fun j hj => ?_) ?_ ?_ ?_
      · rw [f2o _ (by omega), ag8.2 _ (by simp; omega)]
      · rw [fo _ (by omega) (by omega), b1 _ (by omega), ag8.1 _ (by simp; omega)]
      · rw [f159, pv_G_lt (by omega)]
      · rw [fo _ (by omega) (by omega), b1 _ (by omega), ag8.1 _ (by simp; omega)]
      · rw [fo _ (by omega) (by omega), b1 _ (by omega), ag8.1 _ (by simp; omega)]
      · rw [fo _ (by omega) (by omega), b1 _ (by omega), ag8.1 _ (by simp; omega)]
theorem pv_vertex {μ : xs_M} (h : pv_I μ) (x0 x1 x2 x3 x4 : Int32) : ∃ r μ1 y μ2, fn_L_vertex μ x0 x1 x2 x3 x4 = some (r, μ1) ∧ fn_R_vertex μ1 x0 x1 x2 x3 x4 = some (y, μ2) ∧ μ2.1 154 0 = r ∧ (r = 0 → μ2.2 171 0 = y.toInt64) ∧ pv_I μ2 := by
  have n10 : ¬ (1 : Int32) = 0 := by decide
  have m31 : (-31 : Int32) = -(31 : Int32) := rfl
  have m127 : (-127 : Int32) = -(127 : Int32) := rfl
  have bad : fn_S_vertex μ x0 x1 x2 x3 x4 = some (.inr ("java/lang/IllegalArgumentException", μ)) → fn_R_vertex μ x0 x1 x2 x3 x4 = some (0, xs_si μ 154 0 1) → ∃ r μ1 y μ2, fn_L_vertex μ x0 x1 x2 x3 x4 = some (r, μ1) ∧ fn_R_vertex μ1 x0 x1 x2 x3 x4 = some (y, μ2) ∧ μ2.1 154 0 = r ∧ (r = 0 → μ2.2 171 0 = y.toInt64) ∧ pv_I μ2 := by
    intro h1 h2
    refine ⟨1, μ, 0, _, ?_, h2, rfl, fun q => absurd q (by decide), h.code 1⟩
    unfold fn_L_vertex
    rw [h1, Option.bind_some]
    rfl
  by_cases d0 : x0 < -31 ∨ 31 < x0
  · refine bad ?_ ?_
    · unfold fn_S_vertex
      rw [pv_isPlace, if_pos d0, Option.bind_some, if_pos rfl]
    · unfold fn_R_vertex
      rw [pv_withinR, ← m31, if_pos d0, Option.bind_some, if_pos rfl]; rfl
  by_cases d1 : x1 < -31 ∨ 31 < x1
  · refine bad ?_ ?_
    · unfold fn_S_vertex
      rw [pv_isPlace, if_neg d0, Option.bind_some, if_neg n10, pv_isPlace, if_pos d1, Option.bind_some, if_pos rfl]
    · unfold fn_R_vertex
      rw [pv_withinR, ← m31, if_neg d0, Option.bind_some, if_neg n10, pv_withinR, ← m31, if_pos d1, Option.bind_some, if_pos rfl]; rfl
  by_cases d2 : x2 < -31 ∨ 31 < x2
  · refine bad ?_ ?_
    · unfold fn_S_vertex
      rw [pv_isPlace, if_neg d0, Option.bind_some, if_neg n10, pv_isPlace, if_neg d1, Option.bind_some, if_neg n10, pv_isPlace, if_pos d2, Option.bind_some, if_pos rfl]
    · unfold fn_R_vertex
      rw [pv_withinR, ← m31, if_neg d0, Option.bind_some, if_neg n10, pv_withinR, ← m31, if_neg d1, Option.bind_some, if_neg n10, pv_withinR, ← m31, if_pos d2, Option.bind_some, if_pos rfl]; rfl
  by_cases d3 : x3 < -127 ∨ 127 < x3
  · refine bad ?_ ?_
    · unfold fn_S_vertex
      rw [pv_isPlace, if_neg d0, Option.bind_some, if_neg n10, pv_isPlace, if_neg d1, Option.bind_some, if_neg n10, pv_isPlace, if_neg d2, Option.bind_some, if_neg n10, pv_isTexturePlace, if_pos d3, Option.bind_some, if_pos rfl]
    · unfold fn_R_vertex
      rw [pv_withinR, ← m31, if_neg d0, Option.bind_some, if_neg n10, pv_withinR, ← m31, if_neg d1, Option.bind_some, if_neg n10, pv_withinR, ← m31, if_neg d2, Option.bind_some, if_neg n10, pv_withinR, ← m127, if_pos d3, Option.bind_some, if_pos rfl]; rfl
  by_cases d4 : x4 < -127 ∨ 127 < x4
  · refine bad ?_ ?_
    · unfold fn_S_vertex
      rw [pv_isPlace, if_neg d0, Option.bind_some, if_neg n10, pv_isPlace, if_neg d1, Option.bind_some, if_neg n10, pv_isPlace, if_neg d2, Option.bind_some, if_neg n10, pv_isTexturePlace, if_neg d3, Option.bind_some, if_neg n10, pv_isTexturePlace, if_pos d4, Option.bind_some, if_pos rfl]
    · unfold fn_R_vertex
      rw [pv_withinR, ← m31, if_neg d0, Option.bind_some, if_neg n10, pv_withinR, ← m31, if_neg d1, Option.bind_some, if_neg n10, pv_withinR, ← m31, if_neg d2, Option.bind_some, if_neg n10, pv_withinR, ← m127, if_neg d3, Option.bind_some, if_neg n10, pv_withinR, ← m127, if_pos d4, Option.bind_some, if_pos rfl]; rfl
  obtain ⟨tc, ct, hc⟩ := h.cnt
  have hc' := hc
  obtain ⟨⟨c1, c2, c3⟩, ⟨c4, c5, c6⟩, -, -⟩ := hc'
  have hS : fn_S_vertex μ x0 x1 x2 x3 x4 = if Int32.ofNat tc < 20 then ((fn_S_addCorner μ x0 x1 x2 x3 x4).bind fun w6 => some (.inl ((w6.1 0 4), w6))) else some (.inr ("java/lang/IllegalStateException", μ)) := by
    unfold fn_S_vertex
    rw [pv_isPlace, if_neg d0, Option.bind_some, if_neg n10, pv_isPlace, if_neg d1, Option.bind_some, if_neg n10, pv_isPlace, if_neg d2, Option.bind_some, if_neg n10, pv_isTexturePlace, if_neg d3, Option.bind_some, if_neg n10, pv_isTexturePlace, if_neg d4, Option.bind_some, if_neg n10, c4]
  by_cases ht : tc < 20
  · obtain ⟨m1, y', μ2, a1, a2, a3, a4, a5⟩ := pv_vertex_ok h hc ht x0 x1 x2 x3 x4 d0 d1 d2 d3 d4
    refine ⟨0, xs_sl m1 171 0 (m1.1 0 4).toInt64, y', μ2, ?_, a2, a3, fun _ => a4, a5⟩
    unfold fn_L_vertex
    rw [hS, if_pos (show Int32.ofNat tc < 20 from (ix_lt (b := 20) (by omega) (by decide)).mpr ht), a1, Option.bind_some, Option.bind_some]
    rfl
  · have h20 : tc = 20 := by omega
    subst h20
    have h0 : ct = 0 := c3 rfl
    subst h0
    refine ⟨2, μ, 0, xs_si μ 154 0 2, ?_, ?_, rfl, fun q => absurd q (by decide), h.code 2⟩
    · unfold fn_L_vertex
      rw [hS, if_neg (by decide), Option.bind_some]
      rfl
    · unfold fn_R_vertex
      rw [pv_withinR, ← m31, if_neg d0, Option.bind_some, if_neg n10, pv_withinR, ← m31, if_neg d1, Option.bind_some, if_neg n10, pv_withinR, ← m31, if_neg d2, Option.bind_some, if_neg n10, pv_withinR, ← m127, if_neg d3, Option.bind_some, if_neg n10, pv_withinR, ← m127, if_neg d4, Option.bind_some, if_neg n10, c6, if_pos (by decide)]
      rfl
