/-! a call of a method that throws, and its catching -/
theorem xt_Pm {A : Nat → Prop} {s U : State} {H : Heap} (hW : s.WarmedH U.vm) (h : xt_P A s H) : xt_P A U H :=
  ⟨⟨xt_Z1.moved hW.alike h.1.1, xt_Z1.moved hW.alike h.1.2⟩, fun q hq => (h.2.1 q hq).imp fun sa hsa => vk_R.warm hW hsa, fun w hw => xt_fwarm hW (List.mem_filter.mp hw).2 (h.2.2.1 w hw), fun q hq => va_Nc.moved hW.alike (h.2.2.2 q hq)⟩
theorem xt_Ps {A : Nat → Prop} {s U : State} {H : Heap} (hv : U.vm = s.vm) (h : xt_P A s H) : xt_P A U H := by
  have hW : s.WarmedH U.vm := by rw [hv]; exact State.WarmedH.refl s
  exact xt_Pm hW h
section XTC
variable {p : Program} {l : Launch} {e : Env} {R : Room} {s : State} {m : MethodId} {args : Array Value} {below : List Frame} {meth : Method} {c : Code} {H : Heap} {locs : List Loc} {cells slots : Nat} {Q : State → Prop}
variable {cc : ByteArray} {pc : Nat} {ls : Array Slot} {rest st0 : List Value} {D : va_G} {ad : Nat → Nat} {cs : xs_cs} {A : Nat → Prop} {μ μ2 : xs_M} {as : List Value} {nL : Nat} {own : String}
/-- the frame g, with q thrown over it -/
def xt_W (p : Program) (l : Launch) (e : Env) (R : Room) (s : State) (m : MethodId) (args : Array Value) (below : List Frame) (meth : Method) (c : Code) (H : Heap) (locs : List Loc) (cells slots : Nat) (Q : State → Prop) (g : JFrame) (q : Addr) : Prop :=
  ∀ T : State, T.heap = H → Stand p l e R s m args below meth c T locs cells slots → ∃ t, Steps p.tables e below ((T.setTop g).pushFrame (.throwing q)) t ∧ Q t
theorem xt_Pin (hT : xt_P A s s.heap) (G : xs_G D ad cs s A s.heap μ H locs) : xt_P (xs_A ad H.size) s H := by
  have hS := G.2.2.2.1
  have hk := hS.2.1
  have hn : ∀ q, q < H.size → xs_A ad H.size q → A q := fun q hq h => by
    rcases h with ⟨i, hi, rfl⟩ | h
    · exact G.2.2.1.2 i hi
    · omega
  exact ⟨⟨(hT.1.1.kept hk).narrow hn, (hT.1.2.kept hk).narrow hn⟩, hT.2⟩
set_option maxHeartbeats 1000000 in
theorem xt_callV {y : MethodName} {bc : ByteArray} {mL d w n idx q ci N : Nat} {fs : List Value} {T0 : u_T} {rt : Option FieldType} {E : String} (X : xs_C p s m c cc nL args own) (hM : xt_I l D ad cs y bc mL rt d w (.ref (ad q) :: as) μ E μ2) (hk : xs_kV own idx y bc mL rt n) (hTP : xt_P A s s.heap) (G : xs_G D ad cs s A s.heap μ H locs) (hq : (xs_W ad cs μ)[q]? = some (ad q, .inr (ci, fs))) (hci : classes[ci]? = some (y.cls, T0, N)) (hR : d + 1 ≤ R.frames ∧ 8 + (mL + 11) + w ≤ R.locals) (hc : cells + 1 ≤ R.cells ∧ slots + 6 ≤ R.slots) (hn : as.length = n) (hsz : ls.size = nL) (hst : st0 = as.reverse ++ .ref (ad q) :: rest) (hcat : (rest.map fun v => v.category).sum ≤ 8) (hdg : decode cc pc = .ok (.invokevirtual idx, 3))
    (kx : ∀ (q9 : Addr) (ce : Cell) (H1 : Heap) (locs1 : List Loc), xs_G D ad cs s A s.heap μ2 H1 locs1 → H1[q9]? = some ce → ce.vm = .none → s.vm.findClass E = some ce.cls → xt_W p l e R s m args below meth c H1 locs1 (cells + 1) (slots + 6) Q (F0 m pc ls rest) q9) : W p l e R s m args below meth c H locs cells slots Q (F0 m pc ls st0) := by
  obtain ⟨w1, ⟨w2, w5⟩, w3, w4, hd1, hd2, hd3⟩ := hk
  obtain ⟨hx, hb, hml, hown, hts, hnw⟩ := X
  have hP0 := xt_Pin hTP G
  intro T hT Y
  obtain ⟨mk, methM, hnamed, hmethM, hstM, habM⟩ := Cond.instanceMethod_spec (hts _ w2)
  obtain ⟨methM', cM, hmethM', hcM, -, hlM, -, -, -, hsigM⟩ := Cond.code_spec hnamed (hts _ w4)
  cases hmethM.symm.trans hmethM'
  obtain ⟨c2, r2, m2, q1, q2, q3, q4, kP, hkP, hkPi⟩ := Cond.selects_spec (hts _ w5)
  obtain ⟨cellB, hcB, hoB, hclB⟩ := va_recv G.1 G.2.1 hci hq
  cases hclB.symm.trans q1
  cases (State.methodFound?_of_named hnamed ⟨hd1, hd2⟩).symm.trans q2
  cases hnamed.symm.trans q3
  have hselP : selectMethod e.platform s.vm cellB.cls mk = .method mk := by rw [Launch.admits_selectMethod Y.admits]; exact q4
  have hlen : as.length = methM.sig.parameters.length := by
    rw [hsigM] at hd3
    exact hn.trans (Option.some.inj hd3).symm
  obtain ⟨vm₁, X₁, hstep₁⟩ := Y.invokevirtual hx hown (hts _ w1) hnamed hmethM hstM hkP hkPi ⟨hd1, hd2⟩ (a := ad q) (cell := cellB) (by rw [hT]; exact hcB)
    (fun z h => by rw [h] at hoB; cases hoB) hselP hmethM habM hkP hkPi (g := F0 m pc ls st0) rfl (argsL := as) (rest := rest) hlen hst (by rw [hb]; exact hdg)
  obtain ⟨U, hU⟩ : ∃ z, z = T.setVm vm₁ := ⟨_, rfl⟩
  rw [← hU] at X₁ hstep₁
  have hUh : U.heap = H := by rw [hU]; exact hT
  obtain ⟨g, hg⟩ : ∃ z, z = F0 m pc ls rest := ⟨_, rfl⟩
  obtain ⟨a, ha⟩ : ∃ z, z = (Value.ref (ad q) :: as).toArray := ⟨_, rfl⟩
  have hWU := X₁.warmed
  have h : At U g.method c below := by rw [hg]; exact X₁.here
  have hnU : U.methodNamed? y = some mk := X₁.named hnamed
  have hgw : ∀ {w : Cond}, w ∈ xs_TG → w.before a U = true := fun {w} hw => word_at hWU (good_of_word (List.mem_filter.mp hw).2) (hts w hw)
  obtain ⟨methY, cY, hmY, hcY, -, hlY, -, -, -, -⟩ := Cond.code_spec hnU (hgw w4)
  obtain ⟨kY, hkY, -⟩ := className_of_methodNamed hnU
  have hinitY : kY.init = .initialized := Cond.initialized_spec (findClass_of_methodNamed hnU) hkY (hgw w3)
  have h1 : (headSpec (Cond.code y bc mL rt :: xs_TG) (xt_rm d w)).pre.before a U = true := atoms_intro fun w hw => by
    rcases List.mem_cons.mp hw with e1 | e1
    · rw [e1]; exact hgw w4
    · exact hgw e1
  have hdg' : decode c.code g.pc = .ok (.invokevirtual idx, 3) := by rw [hg, hb]; exact hdg
  have hsize : g.locals.size = c.maxLocals := by rw [hg, hml]; exact hsz
  have hmon : 2 * g.monitorRoom + (g.stack.map fun v => v.category).sum ≤ 8 := by rw [hg]; exact lv_room hcat
  have happ : (headSpec (Cond.code y bc mL rt :: xs_TG) (xt_rm d w)).appliesLoose y e.platform (U.calling g mk a) = true :=
    Spec.appliesLoose_calling (g := g) h hdg' hnU hkY hinitY
      (X₁.room_calling (g := g) (R' := xt_rm d w) hsize hmY hcY hR.1 (by rw [hlY]; show _ + (mL + 11) + w ≤ R.locals; omega) hc.1 hc.2) h1
  obtain ⟨mid, hmid⟩ := h.above
  have hfr : (U.setTop g).frames = (.java g :: mid) ++ below := by rw [State.frames_setTop' g h.top, hmid]; rfl
  have hPc : va_Pc (.ref (ad q) :: as) (xt_Pre D ad cs μ H.size) a (U.calling g mk a) := by
    refine ⟨ha, ⟨?_, ?_, ?_, ?_⟩, ?_⟩
    · show U.heap.size = H.size
      rw [hUh]
    · show va_P D classes (xs_W ad cs μ) U.heap
      rw [hUh]; exact G.2.1
    · exact va_K.moved (u := U) (U := U.calling g mk a) (Vm.Alike.refl U.vm) (va_K.moved hWU.alike G.1)
    · exact xs_nwarm (s := U) (U := U.calling g mk a) (State.WarmedH.refl U) (xs_nwarm hWU hnw)
    · show xt_P (xs_A ad H.size) (U.calling g mk a) U.heap
      rw [hUh]
      exact xt_Ps (s := U) (U := U.calling g mk a) rfl (xt_Pm hWU hP0)
  obtain ⟨o, s₂, hsteps, -, hend, hQ⟩ := Steps.callFree (hM H.size) p X₁.admits X₁.cas X₁.clock (acts := []) hfr happ hPc trivial
  obtain ⟨q9, ce, L, rfl, hP2, hF2, hce, hcv, hcl, hW₂, hsm, hL⟩ := hQ
  rw [State.frames_setTop' g h.top] at hend
  obtain ⟨g₀, hg0⟩ := Option.isSome_iff_exists.mp h.top
  obtain ⟨r, hr⟩ := State.topJava?_eq_some.mp hg0
  have hr' : (({ U with heap := s₂.heap, slotsUsed := s₂.slotsUsed } : State).setVm s₂.vm).frames = .java g₀ :: r := hr
  obtain ⟨e2, z2, z3, z4, z5, z6⟩ := id hsm
  have e3 : s₂ = ({ (U.calling g mk a).setFrames s₂.frames with heap := s₂.heap, slotsUsed := s₂.slotsUsed } : State).setVm s₂.vm := by
    have e2' : ({ s₂ with vm := (U.calling g mk a).vm } : State) = ({ (U.calling g mk a).setFrames s₂.frames with heap := s₂.heap, slotsUsed := s₂.slotsUsed } : State) := e2
    have : s₂ = ({ s₂ with vm := (U.calling g mk a).vm } : State).setVm s₂.vm := rfl
    rw [e2'] at this
    exact this
  have hf₂ : s₂.frames = .throwing q9 :: .java g :: U.frames.tail := hend
  have hW' : U.WarmedH s₂.vm := hW₂
  have hs₂ : s₂ = ((({ U with heap := s₂.heap, slotsUsed := s₂.slotsUsed } : State).setVm s₂.vm).setTop g).pushFrame (.throwing q9) := by
    refine e3.trans ?_
    rw [hf₂, State.calling_eq h.top, State.setFrames_setFrames, State.pushFrame, State.frames_setTop _ hr', State.setTop_of_frames _ hr', State.setFrames_setFrames, hr]
    rfl
  have hsame : U.sameButNew ({ U with heap := s₂.heap, slotsUsed := s₂.slotsUsed } : State) L 1 6 := by
    refine ⟨?_, z2, z3, z4, z5, z6⟩
    obtain ⟨t, ht, -⟩ := State.frames_cons hr
    show ({ U with heap := s₂.heap, slotsUsed := s₂.slotsUsed } : State) = { U.setFrames U.frames with heap := s₂.heap, slotsUsed := s₂.slotsUsed }
    rw [State.setFrames_self ht]
  have XB : Stand p l e R s m args below meth c (({ U with heap := s₂.heap, slotsUsed := s₂.slotsUsed } : State).setVm s₂.vm) (locs ++ L) (cells + 1) (slots + 6) :=
    ⟨X₁.admits, X₁.cas, X₁.clock, X₁.frames, X₁.room, X₁.hears, X₁.method, X₁.code, (X₁.here.setHeapUsed s₂.heap s₂.slotsUsed).setVm hW'.alike, X₁.tail, State.WarmedH.trans X₁.warmed hW', X₁.limits, X₁.bytes, X₁.same.trans (hsame.setVm s.vm)⟩
  obtain ⟨hK, hPG, ⟨hJ, hAd⟩, hS, hA⟩ := G
  have hfree : ∀ q, xs_A ad H.size q → A q := fun q h => by
    rcases h with ⟨i, hi, rfl⟩ | h
    · exact hAd i hi
    · exact hA q (Nat.le_trans hS.1 h)
  obtain ⟨hz, hkk⟩ := hF2
  have hz' : H.size ≤ s₂.heap.size := by rw [← hUh]; exact hz
  have hkk' : ∀ q : Nat, q < H.size → ¬ xs_A ad H.size q → s₂.heap[q]? = H[q]? := fun q h1 h2 => by
    have := hkk q (by show q < U.heap.size; rw [hUh]; exact h1) h2
    rw [this]
    show U.heap[q]? = _
    rw [hUh]
  have hclS : s.vm.findClass E = some ce.cls := by
    have h9 : U.vm.findClass E = some ce.cls := hcl
    rw [hWU.alike.findClass] at h9
    exact h9
  have hgB : (({ U with heap := s₂.heap, slotsUsed := s₂.slotsUsed } : State).setVm s₂.vm).heap = s₂.heap := rfl
  obtain ⟨t2, a1, b1⟩ := kx q9 ce s₂.heap (locs ++ L) ⟨hK, hP2, ⟨hJ, hAd⟩, ⟨Nat.le_trans hS.1 hz', fun q h1 h2 => by rw [hkk' q (Nat.lt_of_lt_of_le h1 hS.1) (fun z => h2 (hfree q z))]; exact hS.2.1 q h1 h2, fun q hq => by
      rcases List.mem_append.mp hq with h | h
      · exact hS.2.2 q h
      · exact hfree _ (hL q h)⟩, hA⟩ hce hcv hclS _ hgB XB
  rw [← hg, ← hs₂] at a1
  refine ⟨t2, hstep₁ _ fun acts => ?_, b1⟩
  have hgg : ({ (F0 m pc ls st0 : JFrame) with stack := rest } : JFrame) = g := by rw [hg]
  rw [doInvoke_state, hgg, ← ha]
  exact hsteps.trans a1
/-- the search for a handler, through rows whose classes link -/
theorem xt_goNo {e : Env} {S : State} {f : JFrame} {a : Addr} {x : ExceptionTableEntry} {t : List ExceptionTableEntry} {k : ClassId} {cell : Cell} (hx : covers x f.pc = true) (h0 : x.catchType ≠ 0)
    (hl : S.vm.ClassLinks e.platform f.method.cls x.catchType k) (hcell : S.heap[a]? = some cell) (hobj : ∀ k, cell.vm ≠ .statics k) (hk : ∃ k, S.vm.classes[cell.cls]? = some k) (hc : ∃ q, S.vm.classes[k]? = some q) (hno : S.vm.assignable cell.cls k = false)
    (Q : Handler → Pre) (E : CtlPost) (d : Bool) (acts : List Action) : wp (findHandler.go f a (x :: t)) Q E e d acts S ↔ wp (findHandler.go f a t) Q E e d acts (S.setVm (S.vm.noted f.method.cls x.catchType (.cls k))) := by
  simp only [covers] at hx
  obtain ⟨g1, g2⟩ := (resolveClass_links e.toSetting hl).op (op := VmOp.resolveClass f.method.cls x.catchType) rfl
  have hal : S.vm.Alike (S.vm.noted f.method.cls x.catchType (.cls k)) := (Vm.Alike.refl S.vm).noted _ _ _
  obtain ⟨k1, hk1⟩ := hk
  obtain ⟨k2, hk2⟩ := hc
  obtain ⟨k1', hk1', -⟩ := hal.2.2 _ _ hk1
  obtain ⟨k2', hk2', -⟩ := hal.2.2 _ _ hk2
  have hno' : (S.vm.noted f.method.cls x.catchType (.cls k)).assignable cell.cls k = false := by rw [hal.assignable]; exact hno
  simp [findHandler.go, hx, h0, g1, g2, hcell, hobj, hk1', hk2', hno', VmOp.dirties, VmOp.acts]
theorem xt_goYes {e : Env} {S : State} {f : JFrame} {a : Addr} {x : ExceptionTableEntry} {t : List ExceptionTableEntry} {k : ClassId} {cell : Cell} (hx : covers x f.pc = true) (h0 : x.catchType ≠ 0)
    (hl : S.vm.ClassLinks e.platform f.method.cls x.catchType k) (hcell : S.heap[a]? = some cell) (hobj : ∀ k, cell.vm ≠ .statics k) (hk : ∃ k, S.vm.classes[cell.cls]? = some k) (hc : ∃ q, S.vm.classes[k]? = some q) (hyes : S.vm.assignable cell.cls k = true)
    (Q : Handler → Pre) (E : CtlPost) (d : Bool) (acts : List Action) : wp (findHandler.go f a (x :: t)) Q E e d acts S ↔ Q (.found x.handlerPc) d acts (S.setVm (S.vm.noted f.method.cls x.catchType (.cls k))) := by
  simp only [covers] at hx
  obtain ⟨g1, g2⟩ := (resolveClass_links e.toSetting hl).op (op := VmOp.resolveClass f.method.cls x.catchType) rfl
  have hal : S.vm.Alike (S.vm.noted f.method.cls x.catchType (.cls k)) := (Vm.Alike.refl S.vm).noted _ _ _
  obtain ⟨k1, hk1⟩ := hk
  obtain ⟨k2, hk2⟩ := hc
  obtain ⟨k1', hk1', -⟩ := hal.2.2 _ _ hk1
  obtain ⟨k2', hk2', -⟩ := hal.2.2 _ _ hk2
  have hyes' : (S.vm.noted f.method.cls x.catchType (.cls k)).assignable cell.cls k = true := by rw [hal.assignable]; exact hyes
  simp [findHandler.go, hx, h0, g1, g2, hcell, hobj, hk1', hk2', hyes', VmOp.dirties, VmOp.acts]
/-- from a find that changes the tables to the step -/
theorem xt_step {tb : Tables} {T target : State} {g : JFrame} {a : Addr} {hp : Nat} {vm' : Vm} (h : At T g.method c below)
    (hf : ∀ (Q : Handler → Pre) (E : CtlPost) (d : Bool) (acts : List Action), wp (findHandler g a) Q E e d acts ((T.setTop g).pushFrame (.throwing a)) ↔ Q (.found hp) d acts (((T.setTop g).pushFrame (.throwing a)).setVm vm'))
    (hrest : Steps tb e below ((T.setVm vm').setTop { g with pc := hp, stack := [.ref a] }) target) : Steps tb e below ((T.setTop g).pushFrame (.throwing a)) target := by
  obtain ⟨hgo, hw⟩ := h.throwing a
  refine Steps.head hgo hw ?_
  obtain ⟨g₀, hg⟩ := Option.isSome_iff_exists.mp h.top
  obtain ⟨r, hr⟩ := State.topJava?_eq_some.mp hg
  have hr' : (T.setVm vm').frames = .java g₀ :: r := hr
  have hst : (stepThrowing e ((T.setTop g).pushFrame (.throwing a)) a (.java g :: T.frames.tail)).Is ((((T.setTop g).pushFrame (.throwing a)).setVm vm').setFrames (.java { g with pc := hp, stack := [.ref a] } :: T.frames.tail)) [] := by
    simp only [stepThrowing, searchFrame, vmDo]
    generalize hres : Sem.go _ e false [] _ = res
    obtain ⟨as, rfl, has⟩ := Sem.eq_ok_of hres (a := Handler.found hp) (s' := ((T.setTop g).pushFrame (.throwing a)).setVm vm') (acts' := []) (by simp [hf _ _ _ _])
    exact ⟨rfl, has⟩
  rw [stepThread_throwing (frames_entered h.top _), hst.1]
  rw [State.setTop_of_frames _ hr'] at hrest
  have ex : ∀ (u : State) (F G : List Frame), ((u.setFrames F).setVm vm').setFrames G = (u.setVm vm').setFrames G := fun u F G => by
    have h1 : (u.setFrames F).setVm vm' = (u.setVm vm').setFrames F := rfl
    rw [h1, State.setFrames_setFrames]
  rw [hr, List.tail_cons, State.pushFrame, ex, State.setTop_of_frames _ hr, ex]
  exact hrest
/-- caught by the first row of the table -/
theorem xt_catch1 {E : String} {ce : Cell} {q : Addr} {st en hp ct : Nat} {tl : List (Nat × Nat × Nat × Nat)} (X : xs_C p s m c cc nL args own) (hTP : xt_P A s s.heap) (hexc : c.exceptionTable.toList.map (fun h => (h.startPc, h.endPc, h.handlerPc, h.catchType)) = (st, en, hp, ct) :: tl) (hcv : st ≤ pc ∧ pc < en) (h0 : ct ≠ 0)
    (hl : Cond.classLink own ct E ∈ xs_TG) (hcast : Cond.castable E E ∈ xs_TF) (hcell : H[q]? = some ce) (hv : ce.vm = .none) (hcl : s.vm.findClass E = some ce.cls)
    (kk : W p l e R s m args below meth c H locs cells slots Q (F0 m hp ls [.ref q])) : xt_W p l e R s m args below meth c H locs cells slots Q (F0 m pc ls rest) q := by
  intro T hT Y
  have hpl : e.platform.magicAccessors = ({} : Platform).magicAccessors := by rw [Y.admits.platform]
  cases hex : c.exceptionTable.toList with
  | nil => rw [hex] at hexc; cases hexc
  | cons x xs =>
    rw [hex, List.map_cons] at hexc
    obtain ⟨hx1, -⟩ := List.cons.inj hexc
    have e1 : x.startPc = st := congrArg (fun z => z.1) hx1
    have e2 : x.endPc = en := congrArg (fun z => z.2.1) hx1
    have e3 : x.handlerPc = hp := congrArg (fun z => z.2.2.1) hx1
    have e4 : x.catchType = ct := congrArg (fun z => z.2.2.2) hx1
    have hxc : covers x pc = true := by simp [covers, e1, e2, hcv.1, hcv.2]
    obtain ⟨k, hk, hcl5⟩ := Cond.classLink_spec X.2.2.2.1 (X.2.2.2.2.1 _ hl) e.platform hpl
    obtain ⟨c3, c4, hc3, hc4, hasg⟩ := Cond.castable_spec (hTP.2.2.1 _ hcast)
    cases hc3.symm.trans hcl
    cases hc4.symm.trans hk
    have hkc : k = ce.cls := Option.some.inj (hk.symm.trans hcl)
    subst hkc
    obtain ⟨dk, _, _, kt, hd, _, _, _, _, hkt, _, hopen⟩ := hcl5.here
    obtain ⟨k0, hk0⟩ := Vm.classAt_of_findClass hcl
    have hW := Y.warmed
    obtain ⟨k0', hk0', -⟩ := hW.alike.2.2 _ _ hk0
    obtain ⟨kt', hkt', -⟩ := hW.alike.2.2 _ _ hkt
    obtain ⟨t, a1, b1⟩ := kk (T.setVm (T.vm.noted m.cls ct (.cls ce.cls))) hT (Y.noted (hW.noted hd hopen (State.rightAt_cls hcl5)))
    refine ⟨t, xt_step (c := c) (g := F0 m pc ls rest) (hp := hp) (vm' := T.vm.noted m.cls ct (.cls ce.cls)) Y.here (fun Q' E' d' acts' => ?_) a1, b1⟩
    rw [W.findHandler_eq (s := (T.setTop (F0 m pc ls rest)).pushFrame (.throwing q)) (f := F0 m pc ls rest) Y.method' Y.code, hex]
    have := xt_goYes (e := e) (S := (T.setTop (F0 m pc ls rest)).pushFrame (.throwing q)) (f := F0 m pc ls rest) (a := q) (x := x) (t := xs) (k := ce.cls) (cell := ce) hxc (by rw [e4]; exact h0) (by rw [e4]; exact hW.classLinks hcl5) (by show T.heap[q]? = _; rw [hT]; exact hcell) (fun k h => by rw [hv] at h; cases h) ⟨k0', hk0'⟩ ⟨kt', hkt'⟩ (by show T.vm.assignable _ _ = true; rw [hW.alike.assignable]; exact hasg) Q' E' d' acts'
    rw [e3, e4] at this
    exact this
/-- passed by the first, caught by the second -/
theorem xt_catch2 {E E1 : String} {ce : Cell} {q : Addr} {st en hp ct st1 en1 hp1 ct1 : Nat} {tl : List (Nat × Nat × Nat × Nat)} (X : xs_C p s m c cc nL args own) (hTP : xt_P A s s.heap) (hexc : c.exceptionTable.toList.map (fun h => (h.startPc, h.endPc, h.handlerPc, h.catchType)) = (st1, en1, hp1, ct1) :: (st, en, hp, ct) :: tl) (hcv1 : st1 ≤ pc ∧ pc < en1) (h01 : ct1 ≠ 0) (hcv : st ≤ pc ∧ pc < en) (h0 : ct ≠ 0)
    (hl1 : Cond.classLink own ct1 E1 ∈ xs_TG) (hno : (E, E1) ∈ xt_pairs) (hl : Cond.classLink own ct E ∈ xs_TG) (hcast : Cond.castable E E ∈ xs_TF) (hcell : H[q]? = some ce) (hv : ce.vm = .none) (hcl : s.vm.findClass E = some ce.cls)
    (kk : W p l e R s m args below meth c H locs cells slots Q (F0 m hp ls [.ref q])) : xt_W p l e R s m args below meth c H locs cells slots Q (F0 m pc ls rest) q := by
  intro T hT Y
  have hpl : e.platform.magicAccessors = ({} : Platform).magicAccessors := by rw [Y.admits.platform]
  rcases hex : c.exceptionTable.toList with _ | ⟨x1, _ | ⟨x, xs⟩⟩
  · rw [hex] at hexc; cases hexc
  · rw [hex] at hexc; cases hexc
  · rw [hex, List.map_cons, List.map_cons] at hexc
    obtain ⟨hy1, hexc⟩ := List.cons.inj hexc
    obtain ⟨hx1, -⟩ := List.cons.inj hexc
    have f1 : x1.startPc = st1 := congrArg (fun z => z.1) hy1
    have f2 : x1.endPc = en1 := congrArg (fun z => z.2.1) hy1
    have f4 : x1.catchType = ct1 := congrArg (fun z => z.2.2.2) hy1
    have e1 : x.startPc = st := congrArg (fun z => z.1) hx1
    have e2 : x.endPc = en := congrArg (fun z => z.2.1) hx1
    have e3 : x.handlerPc = hp := congrArg (fun z => z.2.2.1) hx1
    have e4 : x.catchType = ct := congrArg (fun z => z.2.2.2) hx1
    have hxc1 : covers x1 pc = true := by simp [covers, f1, f2, hcv1.1, hcv1.2]
    have hxc : covers x pc = true := by simp [covers, e1, e2, hcv.1, hcv.2]
    obtain ⟨k1, hk1, hcl1⟩ := Cond.classLink_spec X.2.2.2.1 (X.2.2.2.2.1 _ hl1) e.platform hpl
    obtain ⟨k, hk, hcl5⟩ := Cond.classLink_spec X.2.2.2.1 (X.2.2.2.2.1 _ hl) e.platform hpl
    obtain ⟨a8, b8, n1, n2, n3⟩ := hTP.2.2.2 _ hno
    cases n1.symm.trans hcl
    cases n2.symm.trans hk1
    obtain ⟨c3, c4, hc3, hc4, hasg⟩ := Cond.castable_spec (hTP.2.2.1 _ hcast)
    cases hc3.symm.trans hcl
    cases hc4.symm.trans hk
    have hkc : k = ce.cls := Option.some.inj (hk.symm.trans hcl)
    subst hkc
    obtain ⟨dk1, _, _, kt1, hd1, _, _, _, _, hkt1, _, hopen1⟩ := hcl1.here
    obtain ⟨dk, _, _, kt, hd, _, _, _, _, hkt, _, hopen⟩ := hcl5.here
    obtain ⟨k0, hk0⟩ := Vm.classAt_of_findClass hcl
    have hW := Y.warmed
    have hW1 : s.WarmedH (T.vm.noted m.cls ct1 (.cls k1)) := hW.noted hd1 hopen1 (State.rightAt_cls hcl1)
    obtain ⟨k0', hk0', -⟩ := hW.alike.2.2 _ _ hk0
    obtain ⟨kt1', hkt1', -⟩ := hW.alike.2.2 _ _ hkt1
    obtain ⟨k0'', hk0'', -⟩ := hW1.alike.2.2 _ _ hk0
    obtain ⟨kt', hkt', -⟩ := hW1.alike.2.2 _ _ hkt
    obtain ⟨t, a1, b1⟩ := kk (T.setVm ((T.vm.noted m.cls ct1 (.cls k1)).noted m.cls ct (.cls ce.cls))) hT (Y.noted (hW1.noted hd hopen (State.rightAt_cls hcl5)))
    refine ⟨t, xt_step (c := c) (g := F0 m pc ls rest) (hp := hp) (vm' := (T.vm.noted m.cls ct1 (.cls k1)).noted m.cls ct (.cls ce.cls)) Y.here (fun Q' E' d' acts' => ?_) a1, b1⟩
    rw [W.findHandler_eq (s := (T.setTop (F0 m pc ls rest)).pushFrame (.throwing q)) (f := F0 m pc ls rest) Y.method' Y.code, hex]
    have r1 := xt_goNo (e := e) (S := (T.setTop (F0 m pc ls rest)).pushFrame (.throwing q)) (f := F0 m pc ls rest) (a := q) (x := x1) (t := x :: xs) (k := k1) (cell := ce) hxc1 (by rw [f4]; exact h01) (by rw [f4]; exact hW.classLinks hcl1) (by show T.heap[q]? = _; rw [hT]; exact hcell) (fun k h => by rw [hv] at h; cases h) ⟨k0', hk0'⟩ ⟨kt1', hkt1'⟩ (by show T.vm.assignable _ _ = false; rw [hW.alike.assignable]; exact n3) Q' E' d' acts'
    rw [f4] at r1
    refine r1.trans ?_
    have r2 := xt_goYes (e := e) (S := ((T.setTop (F0 m pc ls rest)).pushFrame (.throwing q)).setVm (T.vm.noted m.cls ct1 (.cls k1))) (f := F0 m pc ls rest) (a := q) (x := x) (t := xs) (k := ce.cls) (cell := ce) hxc (by rw [e4]; exact h0) (by rw [e4]; exact hW1.classLinks hcl5) (by show T.heap[q]? = _; rw [hT]; exact hcell) (fun k h => by rw [hv] at h; cases h) ⟨k0'', hk0''⟩ ⟨kt', hkt'⟩ (by show (T.vm.noted m.cls ct1 (.cls k1)).assignable _ _ = true; rw [hW1.alike.assignable]; exact hasg) Q' E' d' acts'
    rw [e3, e4] at r2
    exact r2
end XTC
/-! the law's helpers: methods with a table of handlers; they answer an int, and may have made an exception -/
def xh_I (l : Launch) (D : va_G) (ad : Nat → Nat) (cs : xs_cs) (y : MethodName) (bc : ByteArray) (mL : Nat) (hh : List (Nat × Nat × Nat × Nat)) (d w : Nat) (as : List Value) (μ : xs_M) (r : Option Value) (μ2 : xs_M) : Prop :=
  ∀ sz, Met l y (.codeWith y bc mL (some .int) hh :: xs_TG) (xt_rm d w) (va_Pc as (xt_Pre D ad cs μ sz)) (xs_Q D ad cs r μ2 sz) 1 6 (xs_A ad sz)
def xh_E (below : List Frame) (D : va_G) (ad : Nat → Nat) (cs : xs_cs) (as : List Value) (s : State) (r : Option Value) (μ2 : xs_M) : State → Prop := MQ below (xs_Q D ad cs r μ2 s.heap.size) as.toArray s 1 6 (xs_A ad s.heap.size)
theorem xh_entry {l : Launch} {D : va_G} {ad : Nat → Nat} {cs : xs_cs} {y : MethodName} {bc : ByteArray} {mL : Nat} {hh : List (Nat × Nat × Nat × Nat)} {d w : Nat} {as : List Value} {μ : xs_M} {r : Option Value} {μ2 : xs_M} (hJ : xs_J ad) (hy : plainName y.cls = true) (hn : (lg_sl as).length ≤ mL)
    (body : ∀ (p : Program) (e : Env) (s : State) (m : MethodId) (below : List Frame) (meth : Method) (c : Code) (ls : Array Slot), xs_C p s m c bc mL as.toArray y.cls → meth.sig.returnType = some .int → meth.locks = false → c.exceptionTable.toList.map (fun h => (h.startPc, h.endPc, h.handlerPc, h.catchType)) = hh → xt_P (xs_A ad s.heap.size) s s.heap → xs_G D ad cs s (xs_A ad s.heap.size) s.heap μ s.heap [] → lv_has ls mL (lv_args 0 as) →
      W p l e (xt_rm d w) s m as.toArray below meth c s.heap [] 0 0 (xh_E below D ad cs as s r μ2) (F0 m 0 ls [])) : xh_I l D ad cs y bc mL hh d w as μ r μ2 := by
  intro sz
  refine va_MetW (cc := bc) (maxL := mL) (ret := some .int) (hh := hh) hy rfl ?_
  intro p e s m args below meth c s₁ B hml hv
  obtain ⟨rfl, ⟨hsz, hP, hK, hN⟩, hT⟩ := hv
  subst hsz
  have hts := atoms_spec (ws := .codeWith y bc mL (some .int) hh :: xs_TG) B.pre
  have hown : s.vm.findClass y.cls = some m.cls := findClass_of_methodNamed B.named
  have hl := lv_entry as (n := mL) hn
  have hex : c.exceptionTable.toList.map (fun h => (h.startPc, h.endPc, h.handlerPc, h.catchType)) = hh := by
    obtain ⟨m9, meth9, c9, hn9, h1, h2, -, -, h5, -⟩ := Cond.codeWith_spec (hts _ List.mem_cons_self)
    cases B.named.symm.trans hn9
    cases B.method.symm.trans h1
    cases (Stand.of_body B).code.symm.trans h2
    exact h5
  rw [lg_entry_eq]
  exact body p e s m below meth c _ ⟨B.exec, B.bytes, hml, hown, fun w h => hts w (List.mem_cons_of_mem _ h), hN⟩ B.returns B.notSynchronized hex hT ⟨hK, hP, ⟨hJ, fun i hi => Or.inl ⟨i, hi, rfl⟩⟩, va_S.rf, fun q h => Or.inr h⟩ hl
section XTH
variable {p : Program} {l : Launch} {e : Env} {R : Room} {s : State} {m : MethodId} {below : List Frame} {meth : Method} {c : Code} {H : Heap} {locs : List Loc} {cells slots : Nat}
variable {cc : ByteArray} {pc : Nat} {ls : Array Slot} {D : va_G} {ad : Nat → Nat} {cs : xs_cs} {μ2 : xs_M} {as : List Value}
theorem xh_iret (hx : p.tables.exec = Jvm.exec) (hb : c.code = cc) (hr : meth.sig.returnType = some .int) (hlk : meth.locks = false) (G : xs_G D ad cs s (xs_A ad s.heap.size) s.heap μ2 H locs) (hc : cells ≤ 1 ∧ slots ≤ 6) {v : Int32} (hdg : decode cc pc = .ok (.ireturn, 1)) : W p l e R s m as.toArray below meth c H locs cells slots (xh_E below D ad cs as s (some (.int v)) μ2) (F0 m pc ls [.int v]) :=
  W.widen hc.1 hc.2 (W.iret hx hb hr (fun t ht hW => ⟨rfl, by rw [ht]; exact G.2.1, G.2.2.2.1.F ht⟩) G.2.2.2.1.2.2 hdg hlk)
end XTH
