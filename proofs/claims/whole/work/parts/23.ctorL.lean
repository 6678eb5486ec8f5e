/-! the world while it is made: what stood below, then a list -/
def xc_L (ct : Nat → va_E) (q : Nat) (L : List va_E) : Nat → va_E := fun i => if i < q then ct i else L.getD (i - q) (ct i)
theorem xc_L_get {ct : Nat → va_E} {q j : Nat} {L : List va_E} {E : va_E} (h : L[j]? = some E) : xc_L ct q L (q + j) = E := by
  unfold xc_L
  rw [if_neg (by omega), show q + j - q = j by omega, List.getD_eq_getElem?_getD, h]
  rfl
theorem xc_L_push {ct : Nat → va_E} {q : Nat} {L : List va_E} {E : va_E} {k : Nat} (hk : L.length = k) (i : Nat) : va_up (xc_L ct q L) (q + k) E i = xc_L ct q (L ++ [E]) i ∨ q + k < i := by
  subst hk
  by_cases h : i = q + L.length
  · refine Or.inl ?_
    subst h
    rw [va_up_self, xc_L_get (by rw [List.getElem?_append_right (Nat.le_refl _), Nat.sub_self]; rfl)]
  · by_cases h2 : q + L.length < i
    · exact Or.inr h2
    · refine Or.inl ?_
      rw [va_up_ne _ _ h]
      unfold xc_L
      by_cases h3 : i < q
      · rw [if_pos h3, if_pos h3]
      · rw [if_neg h3, if_neg h3, List.getD_eq_getElem?_getD, List.getD_eq_getElem?_getD, List.getElem?_append_left (by omega)]
theorem xc_L_set {ct : Nat → va_E} {q j : Nat} {L : List va_E} {E : va_E} (hj : j < L.length) (i : Nat) : va_up (xc_L ct q L) (q + j) E i = xc_L ct q (L.set j E) i := by
  by_cases h : i = q + j
  · subst h
    rw [va_up_self, xc_L_get (by rw [List.getElem?_set_self hj])]
  · rw [va_up_ne _ _ h]
    unfold xc_L
    by_cases h3 : i < q
    · rw [if_pos h3, if_pos h3]
    · rw [if_neg h3, if_neg h3, List.getD_eq_getElem?_getD, List.getD_eq_getElem?_getD, List.getElem?_set_ne (by omega)]
/-- the last of a list is where another list begins -/
theorem xc_L_join {ct : Nat → va_E} {q k : Nat} {L : List va_E} {E : va_E} {L2 : List va_E} (hk : L.length = k) (i : Nat) : xc_L (xc_L ct q (L ++ [E])) (q + k) L2 i = xc_L ct q (L ++ L2) i ∨ (q + k) + L2.length ≤ i := by
  subst hk
  by_cases h : (q + L.length) + L2.length ≤ i
  · exact Or.inr h
  · refine Or.inl ?_
    by_cases h1 : i < q
    · unfold xc_L
      rw [if_pos (by omega), if_pos h1, if_pos h1]
    · by_cases h2 : i < q + L.length
      · unfold xc_L
        rw [if_pos h2, if_neg h1, if_neg h1, List.getD_eq_getElem?_getD, List.getD_eq_getElem?_getD, List.getElem?_append_left (by omega), List.getElem?_append_left (by omega)]
      · obtain ⟨r, rfl⟩ : ∃ r, i = q + L.length + r := ⟨i - (q + L.length), by omega⟩
        have hl : r < L2.length := by omega
        have e1 : L2[r]? = some L2[r] := List.getElem?_eq_getElem hl
        rw [xc_L_get e1, Nat.add_assoc q, xc_L_get (by rw [List.getElem?_append_right (by omega), show L.length + r - L.length = r by omega]; exact e1)]
theorem xc_L_one {ct : Nat → va_E} {q k : Nat} {L : List va_E} {E : va_E} (hk : L.length = k) (i : Nat) : xc_L ct q (L ++ [E]) i = xc_L (xc_L ct q (L ++ [E])) (q + k) [E] i ∨ (q + k) + 1 ≤ i := by
  rcases xc_L_join (ct := ct) (q := q) (E := E) (L2 := [E]) hk i with h | h
  · exact Or.inl h.symm
  · exact Or.inr h
section XCL
variable {p : Program} {l : Launch} {e : Env} {R : Room} {s : State} {m : MethodId} {args : Array Value} {below : List Frame} {meth : Method} {c : Code} {H : Heap} {locs : List Loc} {cells slots : Nat} {Q : State → Prop}
variable {cc : ByteArray} {pc : Nat} {ls : Array Slot} {rest st0 : List Value} {D : va_G} {cs : xs_cs} {A : Nat → Prop} {H0 : Heap} {N n q k : Nat} {ct : Nat → va_E} {L : List va_E} {as : List Value} {nL : Nat} {own : String}
theorem xc_to {ct ct2 : Nat → va_E} (G : xc_G D cs s A H0 N n ct H locs) (h : ∀ i, i < n → ct i = ct2 i) : xc_G D cs s A H0 N n ct2 H locs :=
  ⟨G.1, by rw [← xc_cong h]; exact G.2.1, G.2.2⟩
theorem xl_obj {idx : Nat} {a : Addr} (X : xs_C p s m c cc nL args own) (w1 : Cond.methodLink own idx Lib.objectInit ∈ xs_TG) (w2 : Cond.instanceMethod Lib.objectInit ∈ xs_TG) (w3 : Cond.code Lib.objectInit { data := #[177] } 1 none ∈ xs_TG) (hl : ls.size = nL) (hdg : decode cc pc = .ok (.invokespecial idx, 3)) (hR : 1 ≤ R.frames) (hRl : 12 ≤ R.locals)
    (kk : W p l e R s m args below meth c H locs cells slots Q (F0 m (pc + 3) ls [])) : W p l e R s m args below meth c H locs cells slots Q (F0 m pc ls [.ref a]) :=
  W.objInit X.1 X.2.1 X.2.2.2.1 (X.2.2.2.2.1 _ w1) (X.2.2.2.2.1 _ w2) (X.2.2.2.2.1 _ w3) (g := F0 m pc ls [.ref a]) rfl (by rw [X.2.2.1]; exact hl) (a := a) (rest := []) rfl hdg hR hRl kk
theorem xl_newi (hk : L.length = k) (X : xs_C p s m c cc nL args own) (G : xc_G D cs s A H0 N (q + k) (xc_L ct q L) H locs) (w : Cond.arrayClass .int ∈ xs_TG) {v : Int32} {len : Nat} (hn : ¬ v < 0) (hN : v.toNatClampNeg = len) (hb4 : len * 4 ≤ 536870912) (hc : cells + 1 ≤ R.cells) (hs : slots + len ≤ R.slots) (hdg : decode cc pc = .ok (.newarray .int, 2))
    (kk : ∀ (H1 : Heap), xc_G D cs s A H0 N (q + (k + 1)) (xc_L ct q (L ++ [xs_ai cs len (fun _ => 0)])) H1 locs → W p l e R s m args below meth c H1 locs (cells + 1) (slots + len) Q (F0 m (pc + 2) ls (.ref (N + (q + k)) :: rest))) : W p l e R s m args below meth c H locs cells slots Q (F0 m pc ls (.int v :: rest)) :=
  xc_newi X G w hn hN hb4 hc hs hdg (fun H1 G1 => kk H1 (xc_to G1 (fun i hi => (xc_L_push hk i).resolve_right (by omega))))
theorem xl_newl (hk : L.length = k) (X : xs_C p s m c cc nL args own) (G : xc_G D cs s A H0 N (q + k) (xc_L ct q L) H locs) (w : Cond.arrayClass .long ∈ xs_TG) {v : Int32} {len : Nat} (hn : ¬ v < 0) (hN : v.toNatClampNeg = len) (hb4 : len * 8 ≤ 536870912) (hc : cells + 1 ≤ R.cells) (hs : slots + len ≤ R.slots) (hdg : decode cc pc = .ok (.newarray .long, 2))
    (kk : ∀ (H1 : Heap), xc_G D cs s A H0 N (q + (k + 1)) (xc_L ct q (L ++ [xs_al cs len (fun _ => 0)])) H1 locs → W p l e R s m args below meth c H1 locs (cells + 1) (slots + len) Q (F0 m (pc + 2) ls (.ref (N + (q + k)) :: rest))) : W p l e R s m args below meth c H locs cells slots Q (F0 m pc ls (.int v :: rest)) :=
  xc_newl X G w hn hN hb4 hc hs hdg (fun H1 G1 => kk H1 (xc_to G1 (fun i hi => (xc_L_push hk i).resolve_right (by omega))))
theorem xl_anew (hk : L.length = k) (X : xs_C p s m c cc nL args own) (hO : va_AO "ExactScene$Triangle" s) (G : xc_G D cs s A H0 N (q + k) (xc_L ct q L) H locs) {idx : Nat} (w : Cond.classLink own idx "ExactScene$Triangle" ∈ xs_TG) (hc : cells + 1 ≤ R.cells) (hs : slots + 20 ≤ R.slots) (hdg : decode cc pc = .ok (.anewarray idx, 3))
    (kk : ∀ (H1 : Heap), xc_G D cs s A H0 N (q + (k + 1)) (xc_L ct q (L ++ [.inl (cs.2.2, 20, .inr (.inr (.inr (.inr (fun _ => none)))))])) H1 locs → W p l e R s m args below meth c H1 locs (cells + 1) (slots + 20) Q (F0 m (pc + 3) ls (.ref (N + (q + k)) :: rest))) : W p l e R s m args below meth c H locs cells slots Q (F0 m pc ls (.int 20 :: rest)) :=
  xc_anew X hO G w hc hs hdg (fun H1 G1 => kk H1 (xc_to G1 (fun i hi => (xc_L_push hk i).resolve_right (by omega))))
theorem xl_new {C : String} {T : u_T} {K ci idx : Nat} {fs : List Value} (hk : L.length = k) (X : xs_C p s m c cc nL args own) (G : xc_G D cs s A H0 N (q + k) (xc_L ct q L) H locs) (hin : ∀ w ∈ u_ws C T K, w ∈ xs_TG) (ty : Nat → FieldType) (hty : ∀ k, k < K → parseFieldDescriptor (T k).2.2.1 = some (ty k)) (hci : classes[ci]? = some (C, T, K)) (w1 : Cond.classLink own idx C ∈ xs_TG) (w2 : Cond.instantiable C K ∈ xs_TG) (w3 : Cond.initialized C ∈ xs_TG) (hfs : ∀ j, j < K → defaultValue (ty j) = vp_V fs j) (hc : cells + 1 ≤ R.cells) (hs : slots + K ≤ R.slots) (hdg : decode cc pc = .ok (.new idx, 3))
    (kk : ∀ (H1 : Heap), xc_G D cs s A H0 N (q + (k + 1)) (xc_L ct q (L ++ [.inr (ci, fs)])) H1 locs → W p l e R s m args below meth c H1 locs (cells + 1) (slots + K) Q (F0 m (pc + 3) ls (.ref (N + (q + k)) :: rest))) : W p l e R s m args below meth c H locs cells slots Q (F0 m pc ls rest) :=
  xc_new X G hin ty hty hci w1 w2 w3 hfs hc hs hdg (fun H1 G1 => kk H1 (xc_to G1 (fun i hi => (xc_L_push hk i).resolve_right (by omega))))
theorem xl_get1 {C : String} {T : u_T} {K ci j f idx : Nat} {fs : List Value} {v : Value} (hk : L.length = k) (X : xs_C p s m c cc nL args own) (G : xc_G D cs s A H0 N (q + k) (xc_L ct q L) H locs) (hin : ∀ w ∈ u_ws C T K, w ∈ xs_TG) (hj : L[j]? = some (.inr (ci, fs))) (hci : classes[ci]? = some (C, T, K)) (hf : f < K) (w : Cond.fieldLink own idx (T f).1 (T f).2.1 (T f).2.2.1 ∈ xs_TG) (hv : fs[f]? = some v) (hdg : decode cc pc = .ok (.getfield idx, 3))
    (kk : W p l e R s m args below meth c H locs cells slots Q (F0 m (pc + 3) ls (v :: rest))) : W p l e R s m args below meth c H locs cells slots Q (F0 m pc ls (.ref (N + (q + j)) :: rest)) :=
  xc_get1 X G hin (by have := (List.getElem?_eq_some_iff.mp hj).1; omega) (xc_L_get hj) hci hf w hv hdg kk
theorem xl_putF {C : String} {T : u_T} {K ci j f idx : Nat} {fs : List Value} {v : Value} {ty0 : Nat → FieldType} {ty : FieldType} (hk : L.length = k) (X : xs_C p s m c cc nL args C) (G : xc_G D cs s A H0 N (q + k) (xc_L ct q L) H locs) (hnm0 : meth.name = "<init>") (hin : ∀ w ∈ u_ws C T K, w ∈ xs_TG) (hty : ∀ k, k < K → parseFieldDescriptor (T k).2.2.1 = some (ty0 k)) (hnm : ∀ a, a < K → ∀ b, b < K → a ≠ b → (T a).2.1 ≠ (T b).2.1) (hj : L[j]? = some (.inr (ci, fs))) (hci : classes[ci]? = some (C, T, K)) (hf : f < K) (w : Cond.fieldLink C idx (T f).1 (T f).2.1 (T f).2.2.1 ∈ xs_TG) (hfin : (T f).2.2.2 = true) (hdecl : (T f).1 = C) (hd : parseFieldDescriptor (T f).2.2.1 = some ty) (hn : narrow ty v = v) (hfit : fits ty v = true) (hl : f < fs.length) (hdg : decode cc pc = .ok (.putfield idx, 3))
    (kk : ∀ (H1 : Heap) (locs1 : List Loc), xc_G D cs s A H0 N (q + k) (xc_L ct q (L.set j (.inr (ci, fs.set f v)))) H1 locs1 → W p l e R s m args below meth c H1 locs1 cells slots Q (F0 m (pc + 3) ls rest)) : W p l e R s m args below meth c H locs cells slots Q (F0 m pc ls (v :: .ref (N + (q + j)) :: rest)) := by
  have hjl := (List.getElem?_eq_some_iff.mp hj).1
  exact xc_putF X G hnm0 hin hty hnm (by omega) (xc_L_get hj) hci hf w hfin hdecl hd hn hfit hl hdg (fun H1 l1 G1 => kk H1 l1 (xc_to G1 (fun i _ => xc_L_set hjl i)))
theorem xl_iast {j len : Nat} {f : Nat → Int32} (hk : L.length = k) (hx : p.tables.exec = Jvm.exec) (hb : c.code = cc) (G : xc_G D cs s A H0 N (q + k) (xc_L ct q L) H locs) (hj : L[j]? = some (xs_ai cs len f)) {i x : Int32} (hin : vp_in i len) (hdg : decode cc pc = .ok (.iastore, 1))
    (kk : ∀ (H1 : Heap) (locs1 : List Loc), xc_G D cs s A H0 N (q + k) (xc_L ct q (L.set j (xs_ai cs len (upd f i.toNatClampNeg x)))) H1 locs1 → W p l e R s m args below meth c H1 locs1 cells slots Q (F0 m (pc + 1) ls rest)) : W p l e R s m args below meth c H locs cells slots Q (F0 m pc ls (.int x :: .int i :: .ref (N + (q + j)) :: rest)) := by
  have hjl := (List.getElem?_eq_some_iff.mp hj).1
  exact xc_iast hx hb G (by omega) (xc_L_get hj) hin hdg (fun H1 l1 G1 => kk H1 l1 (xc_to G1 (fun i _ => xc_L_set hjl i)))
/-- a reference stored in an array of references; the heap's size is kept -/
theorem xc_astq0 {cl : List vw_C} {ws : va_W} {tys : List (ClassId × FieldType)} {a : Nat} (hx : p.tables.exec = Jvm.exec) (hb : c.code = cc) (hK : va_K D cl tys s) (hP : va_P D cl ws H) (hD : va_D A ws) (hS : va_S A H0 H locs) (q0 t0 qk ci : Nat) {cA : ClassId} {r : vw_C} {n v : Nat} {vs : List Value} {f : Nat → Option Nat} (ha : ws[q0]? = some (a, .inl (cA, n, .inr (.inr (.inr (.inr f)))))) (ht : tys[t0]? = some (cA, .object r.1)) (hv : ws[qk]? = some (v, .inr (ci, vs))) (hc : cl[ci]? = some r) {i : Int32} (hin : vp_in i n) (hdg : decode cc pc = .ok (.aastore, 1))
    (kk : ∀ (H1 : Heap) (locs1 : List Loc), va_P D cl (ws.set q0 (a, .inl (cA, n, .inr (.inr (.inr (.inr (va_up f i.toNatClampNeg (some v)))))))) H1 → va_S A H0 H1 locs1 → H1.size = H.size → W p l e R s m args below meth c H1 locs1 cells slots Q (F0 m (pc + 1) ls rest)) : W p l e R s m args below meth c H locs cells slots Q (F0 m pc ls (.ref v :: .int i :: .ref a :: rest)) := by
  have hlt : i.toNatClampNeg < n := Nat.not_le.mp fun z => hin (Or.inr z)
  obtain ⟨r', hr', cellV, g1, g2, g3, -⟩ := hP qk _ hv
  have hcls := (hK.1 ci r hc).2
  obtain ⟨kA, comp, k1, k2, k3, -⟩ := (hK.2 t0 _ ht).2
  have hcomp : comp = D.1 ci := Option.some.inj (k3.symm.trans hcls.1)
  subst hcomp
  obtain ⟨kC, hkC, -⟩ := hcls.2
  refine W.aast hx hb (hP q0 _ ha) (fun z h => by cases h) (fun h => by cases h) k1 k2 rfl hkC ⟨fun z => hin (Or.inl z), by show _ < (arrV _ _ _).slots.size; rw [arrV_size]; exact hlt⟩ g1 (fun z h => by rw [g3] at h; cases h) (by rw [g2]; exact hkC) (by rw [g2]; exact va_assign hcls) rfl rfl hdg fun H1 e z oq => ?_
  refine kk H1 _ (hP.set hD ha ?_ oq) (hS.put z oq (hD.2 q0 _ ha)) z
  show H1[a]? = some (vp_cell _ _)
  rw [e, vp_cell_q, vp_cell_q, arrV_store]
  congr 2
  funext x
  by_cases hx : x = i.toNatClampNeg
  · subst hx
    simp [updV, va_up, va_rf]
  · simp [updV, va_up, hx]
/-- a reference into the triangles' array -/
theorem xl_astq {j j2 ci : Nat} {C : String} {T : u_T} {K : Nat} {fs : List Value} {f : Nat → Option Nat} (hk : L.length = k) (X : xs_C p s m c cc nL args own) (G : xc_G D cs s A H0 N (q + k) (xc_L ct q L) H locs) (hj : L[j]? = some (.inl (cs.2.2, 20, .inr (.inr (.inr (.inr f)))))) (hj2 : L[j2]? = some (.inr (ci, fs))) (hci : classes[ci]? = some (C, T, K)) (hC : C = "ExactScene$Triangle") {i : Int32} (hin : vp_in i 20) (hdg : decode cc pc = .ok (.aastore, 1))
    (kk : ∀ (H1 : Heap) (locs1 : List Loc), xc_G D cs s A H0 N (q + k) (xc_L ct q (L.set j (.inl (cs.2.2, 20, .inr (.inr (.inr (.inr (va_up f i.toNatClampNeg (some (N + (q + j2))))))))))) H1 locs1 → W p l e R s m args below meth c H1 locs1 cells slots Q (F0 m (pc + 1) ls rest)) : W p l e R s m args below meth c H locs cells slots Q (F0 m pc ls (.ref (N + (q + j2)) :: .int i :: .ref (N + (q + j)) :: rest)) := by
  have hjl := (List.getElem?_eq_some_iff.mp hj).1
  have hjl2 := (List.getElem?_eq_some_iff.mp hj2).1
  obtain ⟨hK, hP, hz, hS, hA⟩ := G
  subst hC
  have hq1 : (xc_W N (q + k) (xc_L ct q L))[q + j]? = some (N + (q + j), .inl (cs.2.2, 20, .inr (.inr (.inr (.inr f))))) := by rw [xc_get _ _ (by omega), xc_L_get hj]
  have hq2 : (xc_W N (q + k) (xc_L ct q L))[q + j2]? = some (N + (q + j2), .inr (ci, fs)) := by rw [xc_get _ _ (by omega), xc_L_get hj2]
  refine xc_astq0 X.1 X.2.1 hK hP (xc_D hA) hS (q + j) 2 (q + j2) ci hq1 rfl hq2 hci hin hdg (fun H1 l1 hP1 hS1 z => ?_)
  refine kk H1 l1 ⟨hK, ?_, by rw [z]; exact hz, hS1, hA⟩
  rw [xc_set _ _ (show q + j < q + k by omega), xc_cong (fun i _ => xc_L_set hjl i)] at hP1
  exact hP1
theorem xc_blind : FrameBlind (va_Pc as (xc_Pre D cs N n ct)) := by
  intro a U g mk q
  obtain ⟨q0, q1, qP, qK, qN, qO⟩ := q
  exact ⟨q0, q1, qP, va_K.moved (Vm.Alike.refl U.vm) qK, xs_nwarm (State.WarmedH.refl U) qN, va_AO.moved (Vm.Alike.refl U.vm) qO⟩
theorem xc_pre (X : xs_C p s m c cc nL args own) (hO : va_AO "ExactScene$Triangle" s) (G : xc_G D cs s A H0 N n ct H locs) : PreS s H (va_Pc as (xc_Pre D cs N n ct)) as :=
  ⟨xc_blind, fun U hU hW => ⟨rfl, by rw [hU]; exact G.2.2.1, by rw [hU]; exact G.2.1, va_K.moved hW.alike G.1, xs_nwarm hW X.2.2.2.2.2, va_AO.moved hW.alike hO⟩⟩
theorem xc_after {n2 mc ms : Nat} {ct2 : Nat → va_E} {aa : Array Value} (hr : va_Run p l e R s m args below meth c H locs cells slots mc ms (F0 m pc ls st0) rest (xc_Q D N n2 ct2 aa) (fun q => N ≤ q)) (G : xc_G D cs s A H0 N n ct H locs)
    (kk : ∀ (H1 : Heap) (locs1 : List Loc), xc_G D cs s A H0 N n2 ct2 H1 locs1 → W p l e R s m args below meth c H1 locs1 (cells + mc) (slots + ms) Q (F0 m (pc + 3) ls rest)) : W p l e R s m args below meth c H locs cells slots Q (F0 m pc ls st0) := by
  intro T hT X
  obtain ⟨v, st₀, t, T', L, h0, X', hL, e1, e2, ⟨hv, hsz, hP, hz, hk⟩, st⟩ := hr T hT X
  cases hv
  rw [h0] at hz hk
  obtain ⟨hK, -, hz0, hS, hA⟩ := G
  obtain ⟨t2, a1, b1⟩ := kk T'.heap (locs ++ L) ⟨hK, by rw [e1]; exact hP, by rw [e1]; exact hsz, ⟨Nat.le_trans hS.1 (by rw [e1]; exact hz), fun q h1 h2 => by rw [e1, hk q (Nat.lt_of_lt_of_le h1 hS.1) (fun z => h2 (hA q z))]; exact hS.2.1 q h1 h2, fun q hq => by
      rcases List.mem_append.mp hq with h | h
      · exact hS.2.2 q h
      · exact hA _ (hL q h)⟩, hA⟩ T' rfl X'
  exact ⟨t2, st t2 a1, b1⟩
def xc_k (own : String) (idx : Nat) (y : MethodName) (bc : ByteArray) (mL : Nat) : Prop := Cond.methodLink own idx y ∈ xs_TG ∧ Cond.instanceMethod y ∈ xs_TG ∧ Cond.initialized y.cls ∈ xs_TG ∧ Cond.code y bc mL none ∈ xs_TG ∧ y.name = "<init>" ∧ y.cls ≠ "java/lang/invoke/MethodHandle" ∧ y.cls ≠ "java/lang/invoke/VarHandle" ∧ Option.map (fun d => d.parameters.length) (parseMethodDescriptor y.desc) = some 0
def xc_kN (own : String) (idx : Nat) (y : MethodName) (host : String) (bc : ByteArray) (mL : Nat) : Prop := Cond.methodLinkNest own idx y host ∈ xs_NW ∧ Cond.instanceMethod y ∈ xs_TG ∧ Cond.initialized y.cls ∈ xs_TG ∧ Cond.code y bc mL none ∈ xs_TG ∧ y.name = "<init>" ∧ y.cls ≠ "java/lang/invoke/MethodHandle" ∧ y.cls ≠ "java/lang/invoke/VarHandle" ∧ Option.map (fun d => d.parameters.length) (parseMethodDescriptor y.desc) = some 0
theorem xc_callI {y : MethodName} {bc : ByteArray} {mL d w idx n2 mc ms : Nat} {ct2 : Nat → va_E} {a : Addr} (X : xs_C p s m c cc nL args own) (hO : va_AO "ExactScene$Triangle" s) (hM : xc_I l D cs y bc mL d w mc ms [.ref a] N n ct n2 ct2) (hk : xc_k own idx y bc mL) (G : xc_G D cs s A H0 N n ct H locs) (hR : d + 1 ≤ R.frames ∧ 8 + (mL + 11) + w ≤ R.locals) (hc : cells + mc ≤ R.cells ∧ slots + ms ≤ R.slots) (hsz : ls.size = nL) (hcat : (rest.map fun v => v.category).sum ≤ 8) (hdg : decode cc pc = .ok (.invokespecial idx, 3))
    (kk : ∀ (H1 : Heap) (locs1 : List Loc), xc_G D cs s A H0 N n2 ct2 H1 locs1 → W p l e R s m args below meth c H1 locs1 (cells + mc) (slots + ms) Q (F0 m (pc + 3) ls rest)) : W p l e R s m args below meth c H locs cells slots Q (F0 m pc ls (.ref a :: rest)) := by
  obtain ⟨w1, w2, w3, w4, hi, hd⟩ := hk
  have hts := X.2.2.2.2.1
  exact xc_after (va_runI (nL := nL) (n := 0) (b := a) (As := []) (rest := rest) (g := F0 m pc ls (.ref a :: rest)) ⟨X.1, X.2.1, X.2.2.1, X.2.2.2.1, hts⟩ hM ⟨callB_of 0 hts (xs_good w4) rfl rfl rfl (hts _ w3) (hts _ w1) hd hR, hi, hts _ w2⟩ (xc_pre X hO G) rfl rfl hsz rfl (lv_room hcat) hdg hc) G kk
theorem xc_callIN {y : MethodName} {host : String} {bc : ByteArray} {mL d w idx n2 mc ms : Nat} {ct2 : Nat → va_E} {a : Addr} (X : xs_C p s m c cc nL args own) (hO : va_AO "ExactScene$Triangle" s) (hM : xc_I l D cs y bc mL d w mc ms [.ref a] N n ct n2 ct2) (hk : xc_kN own idx y host bc mL) (G : xc_G D cs s A H0 N n ct H locs) (hR : d + 1 ≤ R.frames ∧ 8 + (mL + 11) + w ≤ R.locals) (hc : cells + mc ≤ R.cells ∧ slots + ms ≤ R.slots) (hsz : ls.size = nL) (hcat : (rest.map fun v => v.category).sum ≤ 8) (hdg : decode cc pc = .ok (.invokespecial idx, 3))
    (kk : ∀ (H1 : Heap) (locs1 : List Loc), xc_G D cs s A H0 N n2 ct2 H1 locs1 → W p l e R s m args below meth c H1 locs1 (cells + mc) (slots + ms) Q (F0 m (pc + 3) ls rest)) : W p l e R s m args below meth c H locs cells slots Q (F0 m pc ls (.ref a :: rest)) := by
  obtain ⟨w1, w2, w3, w4, hi, hd⟩ := hk
  have hts := X.2.2.2.2.1
  exact xc_after (va_runIN (nL := nL) (n := 0) (b := a) (As := []) (rest := rest) (g := F0 m pc ls (.ref a :: rest)) ⟨X.1, X.2.1, X.2.2.1, X.2.2.2.1, hts⟩ hM ⟨va_cnB 0 hts (xs_good w4) rfl rfl rfl (X.2.2.2.2.2 _ w1) (hts _ w3) hd hR, hi, hts _ w2⟩ (xc_pre X hO G) rfl rfl hsz rfl (lv_room hcat) hdg hc) G kk
theorem xc_callV {y : MethodName} {bc : ByteArray} {mL d w idx n2 mc ms j ci K : Nat} {fs : List Value} {T : u_T} {ct2 : Nat → va_E} {x : Value} (X : xs_C p s m c cc nL args own) (hO : va_AO "ExactScene$Triangle" s) (hM : xc_I l D cs y bc mL d w mc ms [.ref (N + j), x] N n ct n2 ct2) (hk : xs_kV own idx y bc mL none 1) (G : xc_G D cs s A H0 N n ct H locs) (hj : j < n) (he : ct j = .inr (ci, fs)) (hci : classes[ci]? = some (y.cls, T, K)) (hR : d + 1 ≤ R.frames ∧ 8 + (mL + 11) + w ≤ R.locals) (hc : cells + mc ≤ R.cells ∧ slots + ms ≤ R.slots) (hsz : ls.size = nL) (hcat : (rest.map fun v => v.category).sum ≤ 8) (hdg : decode cc pc = .ok (.invokevirtual idx, 3))
    (kk : ∀ (H1 : Heap) (locs1 : List Loc), xc_G D cs s A H0 N n2 ct2 H1 locs1 → W p l e R s m args below meth c H1 locs1 (cells + mc) (slots + ms) Q (F0 m (pc + 3) ls rest)) : W p l e R s m args below meth c H locs cells slots Q (F0 m pc ls (x :: .ref (N + j) :: rest)) := by
  obtain ⟨w1, ⟨w2, w5⟩, w3, w4, hd⟩ := hk
  have hts := X.2.2.2.2.1
  have hq : (xc_W N n ct)[j]? = some (N + j, .inr (ci, fs)) := by rw [xc_get _ _ hj, he]
  exact xc_after (va_runV (nL := nL) (n := 1) (C := y.cls) (b := N + j) (As := [x]) (rest := rest) (g := F0 m pc ls (x :: .ref (N + j) :: rest)) ⟨X.1, X.2.1, X.2.2.1, X.2.2.2.1, hts⟩ hM ⟨callB_of 1 hts (xs_good w4) rfl rfl rfl (hts _ w3) (hts _ w1) hd hR, hts _ w2, hts _ w5⟩ ⟨xc_blind, va_recv G.1 G.2.1 hci hq, (xc_pre X hO G).2⟩ rfl rfl hsz rfl (lv_room hcat) hdg hc) G kk
end XCL
