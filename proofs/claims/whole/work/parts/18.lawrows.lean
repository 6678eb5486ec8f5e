/-! THE CLAIM OUT OF ONE WALK OF THE LAW'S BODY. Your part is whole_start (and what it stands on); all else here is the same for every law, but numbers. -/
def R_law : String := "ExactSceneLaw"
def lw_P (b : Addr) (xs : List Int32) (args : Array Value) (s : State) : Prop := args = #[.ref b] ∧ s.IntsAt b xs ∧ xs.length ≤ 3072 ∧ (Jvm.Cond.and given_1 narrow_1).before args s = true
def lw_Q (_ : Array Value) (s : State) (o : Outcome) (t : State) : Prop := o = .returned (some (.int 1)) ∧ Framed s o t [] 601024 7293033
def lw_Z (below : List Frame) (a : Array Value) (s : State) : State → Prop := fun t => ∃ o, t.status = .running ∧ Ended t below o ∧ lw_Q a s o t
/-- the law's own end, with 1 on the stack, nothing written that was there before, its room as the claim has it -/
theorem lw_ret {p : Program} {l : Launch} {e : Env} {s : State} {m : MethodId} {below : List Frame} {meth : Method} {c : Code} {b : Nat} (hx : p.tables.exec = Jvm.exec) (hb : c.code = code) (hr : meth.sig.returnType = ret) (hlocks : meth.locks = false) {pc : Nat} {H : Heap} {ls : Array Slot} (hdg : decode code pc = .ok (.ireturn, 1)) : W p l e room_1 s m #[Value.ref b] below meth c H [] 601024 7293033 (lw_Z below #[Value.ref b] s) (F0 m pc ls [.int 1]) := by
  intro T hT X
  obtain ⟨fs, hret, hrun, hended, hW, hframe⟩ := X.leave (v := some (.int 1)) (hlocks := hlocks) (fun h => by rw [hr] at h; cases h)
  have hmeth' : T.vm.method? m = some meth := X.method'
  refine ⟨T.setFrames fs, ?_, .returned (some (.int 1)), hrun, hended, rfl, ⟨_, rfl⟩, hW, hframe⟩
  jvm_step X.here [X.here.top, hx, hb, hdg, hmeth', hr, ret, narrow_b1]
  (try refine ⟨rfl, ?_⟩); (try refine ⟨rfl, ?_⟩)
  first | (intro acts; rw [hret _ acts rfl rfl rfl]) | rw [hret _ _ rfl rfl rfl]
  exact Steps.refl _
/-- what holds at the law's entry: the machine, the code, the tables' words (any of lw_tbl by 'hts w (by decide +kernel)'), the script of L ints xs at the cell b, what the Statement gives of the start (any of its parts by flat_of_before) -/
def lw_At (p : Program) (s : State) (m : MethodId) (meth : Method) (c : Code) (b L : Nat) (xs : Nat → Int32) : Prop :=
  p.tables.exec = Jvm.exec ∧ c.code = code ∧ meth.sig.returnType = ret ∧ c.maxLocals = 8 ∧ s.vm.findClass R_law = some m.cls ∧ (∀ w ∈ lw_tbl, w.before #[Value.ref b] s = true) ∧ va_X b L xs s s.heap ∧ b < s.heap.size ∧ meth.locks = false ∧ (Jvm.Cond.and given_1 narrow_1).before #[Value.ref b] s = true
/-! the law's own calls -/
def xh_k (own : String) (idx : Nat) (y : MethodName) (bc : ByteArray) (mL : Nat) (hh : List (Nat × Nat × Nat × Nat)) (n : Nat) : Prop := Cond.methodLink own idx y ∈ xs_TG ∧ Cond.static y ∈ xs_TG ∧ Cond.initialized y.cls ∈ xs_TG ∧ Cond.codeWith y bc mL (some .int) hh ∈ xs_TG ∧ (y.cls ≠ "java/lang/invoke/MethodHandle" ∧ y.cls ≠ "java/lang/invoke/VarHandle" ∧ (parseMethodDescriptor y.desc).map (fun d => d.parameters.length) = some n)
section XLR
variable {p : Program} {l : Launch} {e : Env} {R : Room} {s : State} {m : MethodId} {args : Array Value} {below : List Frame} {meth : Method} {c : Code} {H : Heap} {locs : List Loc} {cells slots : Nat} {Q : State → Prop}
variable {cc : ByteArray} {pc : Nat} {ls : Array Slot} {rest st0 : List Value} {D : va_G} {ad : Nat → Nat} {cs : xs_cs} {A : Nat → Prop} {μ μ2 : xs_M} {as : List Value} {nL : Nat} {own : String}
set_option maxHeartbeats 1000000 in
theorem xh_callS {y : MethodName} {bc : ByteArray} {mL d w n idx : Nat} {hh : List (Nat × Nat × Nat × Nat)} {r : Value} (X : xs_C p s m c cc nL args own) (hM : xh_I l D ad cs y bc mL hh d w as μ (some r) μ2) (hk : xh_k own idx y bc mL hh n) (hTP : xt_P A s s.heap) (G : xs_G D ad cs s A s.heap μ H locs) (hR : d + 1 ≤ R.frames ∧ 8 + (mL + 11) + w ≤ R.locals) (hc : cells + 1 ≤ R.cells ∧ slots + 6 ≤ R.slots) (hn : as.length = n) (hsz : ls.size = nL) (hst : st0 = as.reverse ++ rest) (hcat : (rest.map fun v => v.category).sum ≤ 8) (hdg : decode cc pc = .ok (.invokestatic idx, 3))
    (kk : ∀ (H1 : Heap) (locs1 : List Loc), xs_G D ad cs s A s.heap μ2 H1 locs1 → W p l e R s m args below meth c H1 locs1 (cells + 1) (slots + 6) Q (F0 m (pc + 3) ls (r :: rest))) : W p l e R s m args below meth c H locs cells slots Q (F0 m pc ls st0) := by
  obtain ⟨w1, w2, w3, w4, hd1, hd2, hd3⟩ := hk
  obtain ⟨hx, hb, hml, hown, hts, hnw⟩ := X
  have hP0 := xt_Pin hTP G
  have hbl : FrameBlind (va_Pc as (xt_Pre D ad cs μ H.size)) := fun a U g mk q => by
    obtain ⟨q0, ⟨q1, qP, qK, qN⟩, qT⟩ := q
    exact ⟨q0, ⟨q1, qP, va_K.moved (u := U) (U := U.calling g mk a) (Vm.Alike.refl U.vm) qK, xs_nwarm (s := U) (U := U.calling g mk a) (State.WarmedH.refl U) qN⟩, xt_Ps (s := U) (U := U.calling g mk a) rfl qT⟩
  have hK : Back l R p e below s args y 3 8 (PreOf R 1 6 (va_Pc as (xt_Pre D ad cs μ H.size))) (PostOf (xs_Q D ad cs (some r) μ2 H.size) 1 6 (xs_A ad H.size)) :=
    va_backW (hh := hh) (bytes := bc) (maxL := mL) (ret := some .int) (hM H.size) hbl rfl rfl hR.1 hR.2 (pay_in hts (xs_good w4)) List.mem_cons_self (fun a' U hW => word_at hW (good_of_word (List.mem_filter.mp w3).2) (hts _ w3))
  intro T hT Y
  obtain ⟨mk, methM, cM, hnamed, hmethM, -, -, -, -, -, -, hsigM⟩ := Cond.codeWith_spec (hts _ w4)
  have hstatic : methM.isStatic = true := Cond.static_spec hnamed hmethM (hts _ w2)
  obtain ⟨kP, hkP, -⟩ := className_of_methodNamed hnamed
  have hinitP : kP.init = .initialized := Cond.initialized_spec (findClass_of_methodNamed hnamed) hkP (hts _ w3)
  have hlen : as.length = methM.sig.parameters.length := by
    rw [hsigM] at hd3
    exact hn.trans (Option.some.inj hd3).symm
  obtain ⟨vm₁, X₁, hstep₁⟩ := Y.invokestatic hx hown (hts _ w1) hnamed hmethM hstatic hkP hinitP ⟨hd1, hd2⟩ (g := F0 m pc ls st0) rfl (argsL := as) (rest := rest) hlen hst (by rw [hb]; exact hdg)
  obtain ⟨v, ⟨U', l2, c2, s2⟩, X', ⟨g', mk', t, L, e1, e2, ⟨hv, hP2, hz, hkk⟩, h1, hL, h2, h3⟩, hsteps⟩ := hK m meth c ⟨T.setVm vm₁, locs, cells, slots⟩ (F0 m pc ls rest) (.invokestatic idx) mk as.toArray X₁ rfl (hsz.trans hml.symm) (by rw [hb]; exact hdg) (lv_room hcat) (X₁.named hnamed)
    ⟨hc.1, hc.2, rfl, ⟨by show T.heap.size = _; rw [hT], by show va_P _ _ _ T.heap; rw [hT]; exact G.2.1, va_K.moved X₁.warmed.alike G.1, xs_nwarm X₁.warmed hnw⟩, by show xt_P _ _ T.heap; rw [hT]; exact xt_Pm X₁.warmed hP0⟩
  dsimp only [Pt.U, Pt.locs, Pt.cells, Pt.slots] at X' e1 e2 h1 h2 h3 hsteps
  subst h1; subst h2; subst h3
  cases hv
  obtain ⟨hKK, -, ⟨hJ, hAd⟩, hS, hA⟩ := G
  have hfree : ∀ q, xs_A ad H.size q → A q := fun q h => by
    rcases h with ⟨i, hi, rfl⟩ | h
    · exact hAd i hi
    · exact hA q (Nat.le_trans hS.1 h)
  have hz' : H.size ≤ t.heap.size := by
    have : T.heap.size ≤ t.heap.size := hz
    rw [hT] at this
    exact this
  have hkk' : ∀ q : Nat, q < H.size → ¬ xs_A ad H.size q → t.heap[q]? = H[q]? := fun q g1 g2 => by
    have := hkk q (by show q < T.heap.size; rw [hT]; exact g1) g2
    rw [this]
    show T.heap[q]? = _
    rw [hT]
  obtain ⟨t2, a1, b1⟩ := kk U'.heap (locs ++ L) ⟨hKK, by rw [e1]; exact hP2, ⟨hJ, hAd⟩, ⟨Nat.le_trans hS.1 (by rw [e1]; exact hz'), fun q h1 h2 => by rw [e1, hkk' q (Nat.lt_of_lt_of_le h1 hS.1) (fun z => h2 (hfree q z))]; exact hS.2.1 q h1 h2, fun q hq => by
      rcases List.mem_append.mp hq with h | h
      · exact hS.2.2 q h
      · exact hfree _ (hL q h)⟩, hA⟩ U' rfl X'
  exact ⟨t2, hstep₁ _ fun acts => by rw [doInvoke_state]; exact hsteps.trans a1, b1⟩
end XLR
theorem xl_out {x : Int32} (h : ∀ j : Nat, j < 18 → x ≠ nI j) : x.toInt < 0 ∨ 17 < x.toInt := by
  apply Classical.byContradiction
  intro hn
  have h1 : 0 ≤ x.toInt := by omega
  have h2 : x.toInt ≤ 17 := by omega
  apply h x.toInt.toNat (by omega)
  apply Int32.toInt_inj.mp
  rw [nI_toInt (by omega)]
  omega
