/-! exceptions: a method of ours that throws; no stack traces are kept -/
/-- where a static field lies -/
def xt_L (C n d : String) (A : Nat → Prop) (U : State) (H : Heap) : Prop := ∃ (k1 : ClassId) (kc : Class) (i : Nat) (f : Field) (a : Nat) (cell : Cell), U.vm.findClass C = some k1 ∧ U.fieldFound? C n d = some (k1, kc, i, f) ∧ f.isStatic = true ∧ kc.statics = some a ∧ H[a]? = some cell ∧ cell.vm.isStatics = true ∧ cell.cls = k1 ∧ f.slot < cell.slots.size ∧ kc.staticTypes[f.slot]? = some f.type ∧ ¬ A a
def xt_Z1 (n d : String) (A : Nat → Prop) (U : State) (H : Heap) : Prop := va_Zq Bundle.tN n d A U H ∧ xt_L Bundle.tN n d A U H
/-- the two statics that a Throwable's making reads -/
def xt_Z (A : Nat → Prop) (U : State) (H : Heap) : Prop := xt_Z1 "UNASSIGNED_STACK" Bundle.steD A U H ∧ xt_Z1 "SUPPRESSED_SENTINEL" Bundle.listD A U H
theorem xt_Z1.moved {n d : String} {A : Nat → Prop} {u U : State} {H : Heap} (hvm : u.vm.Alike U.vm) (h : xt_Z1 n d A u H) : xt_Z1 n d A U H := by
  refine ⟨va_Zq.moved hvm h.1, ?_⟩
  obtain ⟨k1, kc, i, f, a, cell, h1, h2, h3, h4, h5, h6, h7, h8, h9, h10⟩ := h.2
  obtain ⟨k', hi', he⟩ := State.fieldFound?_setVm hvm h2
  exact ⟨k1, k', i, f, a, cell, by rw [hvm.findClass]; exact h1, hi', h3, by rw [he]; exact h4, h5, h6, h7, h8, by rw [he]; exact h9, h10⟩
theorem xt_Z1.kept {n d : String} {A : Nat → Prop} {U : State} {H H1 : Heap} (h : xt_Z1 n d A U H) (hq : ∀ a : Nat, a < H.size → ¬ A a → H1[a]? = H[a]?) : xt_Z1 n d A U H1 := by
  refine ⟨va_Zq.kept h.1 hq, ?_⟩
  obtain ⟨k1, kc, i, f, a, cell, h1, h2, h3, h4, h5, h6, h7, h8, h9, h10⟩ := h.2
  exact ⟨k1, kc, i, f, a, cell, h1, h2, h3, h4, by rw [hq a (Array.getElem?_eq_some_iff.mp h5).1 h10]; exact h5, h6, h7, h8, h9, h10⟩
theorem xt_Z1.narrow {n d : String} {A B : Nat → Prop} {U : State} {H : Heap} (h : xt_Z1 n d A U H) (hAB : ∀ q, q < H.size → B q → A q) : xt_Z1 n d B U H := by
  obtain ⟨hz, k1, kc, i, f, a, cell, h1, h2, h3, h4, h5, h6, h7, h8, h9, h10⟩ := h
  refine ⟨?_, k1, kc, i, f, a, cell, h1, h2, h3, h4, h5, h6, h7, h8, h9, fun z => h10 (hAB _ (Array.getElem?_eq_some_iff.mp h5).1 z)⟩
  have nz : ∀ v : Value, va_Z Bundle.tN n d v A U H → va_Z Bundle.tN n d v B U H := by
    intro v hv
    obtain ⟨cf, kf, fi, f, a, cell, g1, g2, g3, g4, g5, g6, g7, g8⟩ := hv
    exact ⟨cf, kf, fi, f, a, cell, g1, g2, g3, g4, g5, g6, g7, fun z => g8 (hAB _ (Array.getElem?_eq_some_iff.mp g5).1 z)⟩
  rcases hz with hz | ⟨t, hz⟩
  · exact Or.inl (nz _ hz)
  · exact Or.inr ⟨t, nz _ hz⟩
theorem xt_Z1.lay {n d : String} {A : Nat → Prop} {s : State} {args : Array Value} (h : xt_Z1 n d A s s.heap) : (Cond.laysStatic Bundle.tN n d).before args s = true := by
  obtain ⟨-, k1, kc, i, f, a, cell, h1, h2, h3, h4, h5, h6, h7, h8, h9, -⟩ := h
  show (Cond.laysStatic Bundle.tN n d).holds args s none s [] = true
  exact Cond.laysStatic_of h1 h2 h3 h4 h5 h6 h7 h8 h9
theorem xt_isRef {C n d : String} {v : Value} {A : Nat → Prop} {s : State} {args : Array Value} (h : va_Z C n d v A s s.heap) (hv : v.isRef = true) : (Cond.isRef (.static C n d)).before args s = true := by
  obtain ⟨cf, kf, fi, f, a, cell, h1, h2, h3, h4, h5, h6, h7, -⟩ := h
  have he : (Term.static C n d).eval args s none [] s = some v := by
    simp [Term.eval, State.fieldNamed?, h1, h2, h4, h5, h6, h7]
  simp only [Cond.before, Cond.holds, Cond.value, he]
  cases v <;> simp_all [Value.isRef]
theorem xt_Z1.ref {n d : String} {A : Nat → Prop} {s : State} {args : Array Value} (h : xt_Z1 n d A s s.heap) : (Cond.isRef (.static Bundle.tN n d)).before args s = true := by
  rcases h.1 with h | ⟨t, h⟩
  · exact xt_isRef h rfl
  · exact xt_isRef h rfl
theorem xt_Z1.of {args : Array Value} {s : State} {n d : String} {A : Nat → Prop} (hl : (Cond.laysStatic Bundle.tN n d).before args s = true) (hini : (Cond.initialized Bundle.tN).before args s = true) (h : (Cond.isRef (.static Bundle.tN n d)).before args s = true) (hA : ∀ a : Nat, a < s.heap.size → ¬ A a) : xt_Z1 n d A s s.heap := by
  refine ⟨va_Zqof hl hini h hA, ?_⟩
  obtain ⟨k1, kc, i, f, a, cell, h1, h2, h3, h4, h5, h6, h7, h8, h9⟩ := Cond.laysStatic_spec hl
  exact ⟨k1, kc, i, f, a, cell, h1, h2, h3, h4, h5, h6, h7, h8, h9, hA a (Array.getElem?_eq_some_iff.mp h5).1⟩
/-- the texts of the class's exceptions, by their places in its pool -/
def xt_strs : List (Nat × String) := [(43, "there is no such row"), (52, "an entry is not -511 .. 511"), (64, "an entry would not be -511 .. 511"), (73, "axis is not 0 .. 2"), (85, "the pile is empty"), (94, "there are four on the pile"), (104, "there is no such entry"), (114, "x, y or z is not -31 .. 31"), (119, "u or v is not -127 .. 127"), (125, "there are 20 triangles"), (143, "there is no such texel"), (174, "there is no such pixel"), (188, "a pixel had no owner"), (193, "the pixel had no owner"), (199, "there is no such number of a triangle")]
/-- words that the tables alone decide, kept by what a call may warm -/
def xt_F (w : Cond) : Bool := w.onTables && w.keepsFace
def xs_TF : List Cond := tables_1.filter xt_F
theorem xt_tf {w : Cond} (i : Nat) (h : tables_1[i]? = some w) (g : xt_F w = true) : w ∈ xs_TF := List.mem_filter.mpr ⟨List.mem_of_getElem? h, g⟩
theorem xt_fwarm {s U : State} (hW : s.WarmedH U.vm) {w : Cond} (hw : xt_F w = true) (h : va_Nw w s) : va_Nw w U := by
  unfold xt_F at hw
  rw [Bool.and_eq_true] at hw
  have h1 : w.before #[] (s.setVm U.vm) = true := Cond.before_shiftedFace (State.Shifted.of_warmed hW) _ hw.2 h
  exact va_tabs (u := s.setVm U.vm) hw.1 rfl h1
/-- kinds of exceptions that a handler passes by -/
def xt_pairs : List (String × String) := [("java/lang/ArithmeticException", "java/lang/IllegalStateException"), ("java/lang/IllegalStateException", "java/lang/IllegalArgumentException"), ("java/lang/IllegalStateException", "java/lang/IndexOutOfBoundsException")]
/-- what a throw needs of the start, beside the words -/
def xt_P (A : Nat → Prop) (U : State) (H : Heap) : Prop := xt_Z A U H ∧ (∀ q ∈ xt_strs, ∃ sa, vk_R "ExactScene" q.1 q.2 sa U) ∧ (∀ w ∈ xs_TF, va_Nw w U) ∧ ∀ q ∈ xt_pairs, va_Nc q.1 q.2 U
def xt_Pre (D : va_G) (ad : Nat → Nat) (cs : xs_cs) (μ : xs_M) (sz : Nat) (U : State) : Prop := xs_Pre D ad cs μ sz U ∧ xt_P (xs_A ad sz) U U.heap
def xt_Q (D : va_G) (ad : Nat → Nat) (cs : xs_cs) (E : String) (μ2 : xs_M) (sz : Nat) : Array Value → State → Outcome → State → Prop := fun _ st o t =>
  ∃ (q : Addr) (ce : Cell) (L : List Loc), o = .threw q ∧ va_P D classes (xs_W ad cs μ2) t.heap ∧ va_F (xs_A ad sz) st t ∧ t.heap[q]? = some ce ∧ ce.vm = .none ∧ st.vm.findClass E = some ce.cls ∧ st.WarmedH t.vm ∧ st.sameButNew ({ t with vm := st.vm } : State) L 1 6 ∧ ∀ z ∈ L, xs_A ad sz z.base
def xt_rm (d w : Nat) : Room := { frames := d, cells := 1, slots := 6, locals := w }
/-- a method's contract: from the memory μ it throws an E and leaves μ2 -/
def xt_I (l : Launch) (D : va_G) (ad : Nat → Nat) (cs : xs_cs) (y : MethodName) (bc : ByteArray) (mL : Nat) (rt : Option FieldType) (d w : Nat) (as : List Value) (μ : xs_M) (E : String) (μ2 : xs_M) : Prop :=
  ∀ sz, MetFree l y (headSpec (.code y bc mL rt :: xs_TG) (xt_rm d w)) (va_Pc as (xt_Pre D ad cs μ sz)) (fun _ _ _ _ _ => True) (xt_Q D ad cs E μ2 sz)
def xt_E (below : List Frame) (D : va_G) (ad : Nat → Nat) (cs : xs_cs) (as : List Value) (s : State) (E : String) (μ2 : xs_M) : State → Prop := fun t =>
  ∃ o, t.status = .running ∧ Ended t below o ∧ xt_Q D ad cs E μ2 s.heap.size as.toArray s o t
theorem xt_entry {l : Launch} {D : va_G} {ad : Nat → Nat} {cs : xs_cs} {y : MethodName} {bc : ByteArray} {mL : Nat} {rt : Option FieldType} {d w : Nat} {as : List Value} {μ : xs_M} {E : String} {μ2 : xs_M} (hJ : xs_J ad) (hy : plainName y.cls = true) (hn : (lg_sl as).length ≤ mL)
    (body : ∀ (p : Program) (e : Env) (s : State) (m : MethodId) (below : List Frame) (meth : Method) (c : Code) (ls : Array Slot), xs_C p s m c bc mL as.toArray y.cls → meth.locks = false → (∀ x ∈ c.exceptionTable.toList, False) → xt_P (xs_A ad s.heap.size) s s.heap → xs_G D ad cs s (xs_A ad s.heap.size) s.heap μ s.heap [] → lv_has ls mL (lv_args 0 as) →
      W p l e (xt_rm d w) s m as.toArray below meth c s.heap [] 0 0 (xt_E below D ad cs as s E μ2) (F0 m 0 ls [])) : xt_I l D ad cs y bc mL rt d w as μ E μ2 := by
  intro sz
  refine MetFree.of_bodyS (code := bc) (maxLocals := mL) (ret := rt) hy ?_ ?_
  · intro args s m h hn
    obtain ⟨meth, c, h1, h2, h3, h4, h5, h6, -, -⟩ := Cond.code_spec hn (atoms_spec (ws := .code y bc mL rt :: xs_TG) h _ List.mem_cons_self)
    exact ⟨meth, c, h1, h2, h3, h4, h5, h6⟩
  · intro p e s m args below meth c s₁ B hml hv _
    obtain ⟨rfl, ⟨hsz, hP, hK, hN⟩, hT⟩ := hv
    subst hsz
    have hts := atoms_spec (ws := .code y bc mL rt :: xs_TG) B.pre
    have hown : s.vm.findClass y.cls = some m.cls := findClass_of_methodNamed B.named
    have hl := lv_entry as (n := mL) hn
    have hh0 : s₁.heap = s.heap := by rw [B.state]; rfl
    have hem : ∀ x ∈ c.exceptionTable.toList, False := by
      have h0 := B.noHandlers (hts _ List.mem_cons_self)
      intro x hx
      rw [Array.isEmpty_iff.mp h0] at hx
      cases hx
    have hW := body p e s m below meth c _ ⟨B.exec, B.bytes, hml, hown, fun w h => hts w (List.mem_cons_of_mem _ h), hN⟩ B.notSynchronized hem hT ⟨hK, hP, ⟨hJ, fun i hi => Or.inl ⟨i, hi, rfl⟩⟩, va_S.rf, fun q h => Or.inr h⟩ hl
    rw [← lg_entry_eq] at hW
    obtain ⟨t, a1, o, b1, b2, b3⟩ := hW s₁ hh0 (Stand.of_body B)
    exact ⟨t, o, a1, b1, b2, b3⟩
section XTR
variable {p : Program} {l : Launch} {e : Env} {R : Room} {s : State} {m : MethodId} {args : Array Value} {below : List Frame} {meth : Method} {c : Code} {H : Heap} {locs : List Loc} {cells slots : Nat} {Q : State → Prop}
variable {cc : ByteArray} {pc : Nat} {ls : Array Slot} {rest st0 : List Value} {D : va_G} {ad : Nat → Nat} {cs : xs_cs} {A : Nat → Prop} {H0 : Heap} {μ μ2 : xs_M} {as : List Value} {nL : Nat} {own : String}
/-- the invocation as if it began here -/
def xt_st (T s : State) (m : MethodId) (args : Array Value) (below : List Frame) : State := (T.setVm s.vm).setFrames (.invoking m args :: below)
theorem xt_base {T : State} (X : Stand p l e R s m args below meth c T locs cells slots) (hc : cells + 1 ≤ R.cells) (hs : slots + 6 ≤ R.slots) :
    Stand p l e { frames := R.frames, cells := 1, slots := 6, locals := R.locals } (xt_st T s m args below) m args below meth c T [] 0 0 := by
  have htop : (T.setVm s.vm).topJava?.isSome := X.here.top
  have hF : (xt_st T s m args below).frames = .invoking m args :: below := State.frames_setFrames _ (State.cur_lt_of_top htop)
  have hU : (xt_st T s m args below).localsInUse = s.localsInUse := by
    rw [State.localsInUse_invoking hF (meth := meth) (c := c) X.method X.code, State.localsInUse_invoking X.frames X.method X.code]
  obtain ⟨g₀, hg0⟩ := Option.isSome_iff_exists.mp htop
  obtain ⟨r, hr⟩ := State.topJava?_eq_some.mp hg0
  have hlim : e.platform.stackLimits (T.setVm s.vm).me = e.platform.stackLimits s.me := X.limits
  have hby : (T.setVm s.vm).me.stackBytes = s.me.stackBytes := X.bytes
  have hlim' : e.platform.stackLimits (xt_st T s m args below).me = e.platform.stackLimits s.me := by unfold xt_st; rw [State.stackLimits_setFrames]; exact hlim
  have hby' : (xt_st T s m args below).me.stackBytes = s.me.stackBytes := by unfold xt_st; rw [State.stackBytes_setFrames]; exact hby
  have q1 := X.heapSize
  have q2 := X.used
  have hz1 : (xt_st T s m args below).heap.size = T.heap.size := rfl
  have hz2 : (xt_st T s m args below).slotsUsed = T.slotsUsed := rfl
  have hroom : (xt_st T s m args below).hasRoom e.platform { frames := R.frames, cells := 1, slots := 6, locals := R.locals } = true := by
    have h := X.room
    simp only [State.hasRoom, Bool.and_eq_true, decide_eq_true_eq] at h ⊢
    obtain ⟨⟨⟨⟨h1, h2, h3, h4, h5, h6⟩, h7⟩, h8⟩, h9⟩ := h
    rw [X.frames] at h2 h3
    rw [hU, hF, hlim', hby', hz1, hz2]
    exact ⟨⟨⟨⟨h1, h2, h3, h4, h5, h6⟩, by omega⟩, by omega⟩, X.book⟩
  refine ⟨X.admits, X.cas, X.clock, hF, hroom, X.hears, X.method, X.code, X.here, X.tail, X.warmed, ?_, ?_, ?_⟩
  · rw [hlim']; exact X.limits
  · rw [hby']; exact X.bytes
  · refine ⟨?_, Nat.le_refl _, Nat.le_refl _, ?_, ?_, fun a c9 h9 => ⟨c9, h9, rfl, rfl, fun _ _ => rfl⟩⟩
    · obtain ⟨t, ht, -⟩ := State.frames_cons hr
      show T.setVm s.vm = { ((T.setVm s.vm).setFrames (.invoking m args :: below)).setFrames (T.setVm s.vm).frames with heap := T.heap, slotsUsed := T.slotsUsed }
      rw [State.setFrames_setFrames, State.setFrames_self ht]
      rfl
    · show T.slotsUsed = T.slotsUsed + ((T.heap.toList.drop T.heap.size).map (·.slots.size)).sum
      rw [List.drop_eq_nil_of_le (Nat.le_of_eq Array.length_toList)]
      rfl
    · show ((T.heap.toList.drop T.heap.size).map (·.slots.size)).sum ≤ 0
      rw [List.drop_eq_nil_of_le (Nat.le_of_eq Array.length_toList)]
      exact Nat.le_refl _
/-- a word of the tables alone, at the state as if it began here -/
theorem xt_word {T : State} {w : Cond} (hw : w ∈ xs_TG) (h : w.before args s = true) : w.before args (xt_st T s m args below) = true := by
  have hg := (List.mem_filter.mp hw).2
  exact word_at (s := s) (U := xt_st T s m args below) (State.WarmedH.refl s) (good_of_word hg) h
def xt_no (w : Cond) : Bool := decide (w ≠ .isRef (.static Bundle.tN "UNASSIGNED_STACK" Bundle.steD)) && decide (w ≠ .isRef (.static Bundle.tN "SUPPRESSED_SENTINEL" Bundle.listD)) && decide (w ≠ .laysStatic Bundle.tN "UNASSIGNED_STACK" Bundle.steD) && decide (w ≠ .laysStatic Bundle.tN "SUPPRESSED_SENTINEL" Bundle.listD)
/-- 'throw new E("text")' -/
theorem xt_throw {cls text : String} {names : List String} {ik is ic : Nat} (X : xs_C p s m c cc nL as.toArray "ExactScene") (hlt : l.stackTraces = false) (hlk : meth.locks = false) (hem : ∀ x ∈ c.exceptionTable.toList, False) (hT : xt_P (xs_A ad s.heap.size) s s.heap) (G : xs_G D ad cs s (xs_A ad s.heap.size) s.heap μ H locs)
    (hcls : Bundle.fit cls = true) (hnames : ∀ n ∈ names, Bundle.fit n = true) (hk : Cond.classLink "ExactScene" ik cls ∈ xs_TG) (hini : Cond.initialized cls ∈ xs_TG) (hat : ∀ w ∈ (Bundle.ownAtoms "ExactScene" ic cls names).filter xt_no, w ∈ xs_TG ∨ w ∈ xs_TF) (hstr : (is, text) ∈ xt_strs)
    (hsz : ls.size = nL) (d0 : decode cc pc = .ok (.new ik, 3)) (d3 : decode cc (pc + 3) = .ok (.dup, 1)) (d4 : decode cc (pc + 4) = .ok (.ldc is, 2)) (d6 : decode cc (pc + 6) = .ok (.invokespecial ic, 3)) (d9 : decode cc (pc + 9) = .ok (.athrow, 1))
    (hRf : names.length + 3 < R.frames) (hRl : (rest.map fun v => v.category).sum + (13 * (names.length + 1) + 43) ≤ R.locals) (hRc : 1 ≤ R.cells) (hRs : 6 ≤ R.slots) :
    W p l e R s m as.toArray below meth c H locs 0 0 (xt_E below D ad cs as s cls μ) (F0 m pc ls rest) := by
  obtain ⟨hx, hb, hml, hown, hts, -⟩ := X
  intro T hT0 Y0
  have htr : e.platform.stackTraces = false := (show e.platform.stackTraces = l.stackTraces by rw [Y0.admits.platform]).trans hlt
  have Y := xt_base Y0 (by omega) (by omega)
  have hvm : (xt_st T s m as.toArray below).vm = s.vm := rfl
  have hhp : (xt_st T s m as.toArray below).heap = H := hT0
  have hS := G.2.2.2.1
  have hU' : xt_Z1 "UNASSIGNED_STACK" Bundle.steD (xs_A ad s.heap.size) (xt_st T s m as.toArray below) (xt_st T s m as.toArray below).heap := by
    rw [hhp]; exact xt_Z1.moved (Vm.Alike.refl s.vm) (hT.1.1.kept hS.2.1)
  have hN' : xt_Z1 "SUPPRESSED_SENTINEL" Bundle.listD (xs_A ad s.heap.size) (xt_st T s m as.toArray below) (xt_st T s m as.toArray below).heap := by
    rw [hhp]; exact xt_Z1.moved (Vm.Alike.refl s.vm) (hT.1.2.kept hS.2.1)
  have h : ∀ w ∈ Bundle.ownAtoms "ExactScene" ic cls names, w.before as.toArray (xt_st T s m as.toArray below) = true := by
    intro w hw
    by_cases e1 : w = .isRef (.static Bundle.tN "UNASSIGNED_STACK" Bundle.steD)
    · rw [e1]; exact hU'.ref
    by_cases e2 : w = .isRef (.static Bundle.tN "SUPPRESSED_SENTINEL" Bundle.listD)
    · rw [e2]; exact hN'.ref
    by_cases e3 : w = .laysStatic Bundle.tN "UNASSIGNED_STACK" Bundle.steD
    · rw [e3]; exact hU'.lay
    by_cases e4 : w = .laysStatic Bundle.tN "SUPPRESSED_SENTINEL" Bundle.listD
    · rw [e4]; exact hN'.lay
    have hm := hat w (List.mem_filter.mpr ⟨hw, by unfold xt_no; rw [decide_eq_true e1, decide_eq_true e2, decide_eq_true e3, decide_eq_true e4]; rfl⟩)
    rcases hm with hm | hm
    · exact xt_word hm (hts w hm)
    · have hf := (List.mem_filter.mp hm).2
      unfold xt_F at hf
      rw [Bool.and_eq_true] at hf
      exact va_tabs (u := s) (U := xt_st T s m as.toArray below) hf.1 rfl (hT.2.2.1 w hm)
  have hown' : (xt_st T s m as.toArray below).vm.findClass "ExactScene" = some m.cls := hown
  have hins : (Cond.instantiable cls 6).before as.toArray (xt_st T s m as.toArray below) = true := h _ (by simp [Bundle.ownAtoms])
  obtain ⟨vm₁, cX, kX, hfX, hkX, -, -, X₁, st1⟩ := Y.newCold hx (own := "ExactScene") (C := cls) (index := ik) (n := 6) hown' (xt_word hk (hts _ hk)) hins (xt_word hini (hts _ hini))
    (g := F0 m pc ls rest) rfl (by rw [hb]; exact d0) (Nat.le_refl _) (Nat.le_refl _)
  generalize hT1 : (T.setVm vm₁).pushCell { cls := cX, slots := kX.instanceTypes.map defaultValue, vm := .none } = T1 at X₁ st1
  have hcat : (Value.ref T.heap.size).category = 1 := rfl
  have hcellA : T1.heap[T.heap.size]? = some (freshCell cX kX) := by rw [← hT1]; exact State.heap_pushCell_size _ _
  have d3' : decode c.code (pc + 3) = .ok (.dup, 1) := by rw [hb]; exact d3
  have d4' : decode c.code (pc + 4) = .ok (.ldc is, 2) := by rw [hb]; exact d4
  obtain ⟨sa, hsa⟩ := hT.2.1 _ hstr
  have hstr' : vk_R "ExactScene" is text sa (xt_st T s m as.toArray below) := vk_R.same rfl hsa
  obtain ⟨U, hsteps, hrun, hend, hW, hsame, ce, hce, hO⟩ := X₁.ctorThrowS hx htr (own := "ExactScene") (cls := cls) (names := names) (ic := ic) hown' hcls hnames h (fun x hx => nomatch hx) hfX hkX hcellA (by rw [hhp, hT0]; exact Nat.le_refl _) (msg := .ref sa) rfl
    (g := { method := m, pc := pc + 6, locals := ls, stack := .ref sa :: .ref T.heap.size :: .ref T.heap.size :: rest, locked := none }) rfl (by rw [hml]; exact hsz) rfl rfl (rest := rest) rfl
    (by rw [hb]; exact d6) (by rw [hb]; exact d9) (fun x hx => (hem x hx).elim) hRf (by simp only [List.map_cons, List.sum_cons, hcat]; show 2 * 0 + _ + _ ≤ R.locals; omega) hlk
  have hfr : H.size ≤ U.heap.size ∧ ∀ q : Nat, q < H.size → U.heap[q]? = H[q]? := by
    obtain ⟨-, h2, -, -, -, h6⟩ := hsame
    rw [hhp] at h2 h6
    refine ⟨h2, fun q hq => ?_⟩
    obtain ⟨c9, e1, e2, e3, e4⟩ := h6 q _ (Array.getElem?_eq_getElem hq)
    have hs9 : c9.slots = (H[q]).slots := Array.ext_getElem? fun i => e4 i (fun hm => nomatch hm)
    have h9 : c9 = H[q] := by
      rw [hs9] at e2
      exact e2
    have e5 : U.heap[q]? = some c9 := e1
    rw [e5, h9, Array.getElem?_eq_getElem hq]
  have hall : s.sameButNew ({ U with vm := s.vm } : State) locs 1 6 := by
    obtain ⟨e1, e2⟩ := hsame
    unfold xt_st at e1
    rw [State.setFrames_setFrames] at e1
    have h2 : (T.setVm s.vm).sameButNew ({ U with vm := s.vm } : State) [] (0 + 1) (0 + 6) := ⟨e1, e2⟩
    have h3 := Y0.same.trans h2
    rw [List.append_nil] at h3
    exact h3
  have hPU : va_P D classes (xs_W ad cs μ) U.heap := G.2.1.kept (fun k q hq => hfr.2 _ ((G.2.1 k q hq).lt))
  have hFU : va_F (xs_A ad s.heap.size) s U := ⟨Nat.le_trans hS.1 hfr.1, fun q h1 h2 => by rw [hfr.2 q (Nat.lt_of_lt_of_le h1 hS.1)]; exact hS.2.1 q h1 h2⟩
  refine ⟨U, ?_, .threw T.heap.size, hrun, hend, T.heap.size, ce, locs, rfl, hPU, hFU, hce, hO.vm, hO.cls, hW, hall, hS.2.2⟩
  refine st1 _ ?_
  show Steps p.tables e below (T1.setTop { method := m, pc := pc + 3, locals := ls, stack := .ref T.heap.size :: rest, locked := none }) _
  jvm_step X₁.here [X₁.here.top, hx, d3', Value.category]
  exact X₁.ldcString hx (own := "ExactScene") (text := text) (index := is) (a := sa) hown' hstr'.1 hstr'.2
    (g := { method := m, pc := pc + 4, locals := ls, stack := .ref T.heap.size :: .ref T.heap.size :: rest, locked := none }) rfl d4' _ hsteps
end XTR
