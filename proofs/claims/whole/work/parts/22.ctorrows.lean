/-! making the world: cells one behind another from N on -/
def xc_W (N n : Nat) (ct : Nat → va_E) : va_W := (List.range n).map (fun i => (N + i, ct i))
theorem xc_len (N n : Nat) (ct : Nat → va_E) : (xc_W N n ct).length = n := by simp [xc_W]
theorem xc_get (N : Nat) {n : Nat} (ct : Nat → va_E) {i : Nat} (h : i < n) : (xc_W N n ct)[i]? = some (N + i, ct i) := by simp [xc_W, h]
theorem xc_cong {N n : Nat} {ct ct2 : Nat → va_E} (h : ∀ i, i < n → ct i = ct2 i) : xc_W N n ct = xc_W N n ct2 := by
  unfold xc_W
  apply List.map_congr_left
  intro i hi
  rw [h i (List.mem_range.mp hi)]
theorem xc_set {N n q : Nat} (ct : Nat → va_E) (E : va_E) (hq : q < n) : (xc_W N n ct).set q (N + q, E) = xc_W N n (va_up ct q E) := by
  apply List.ext_getElem?
  intro j
  by_cases hj : j < n
  · by_cases hjq : j = q
    · subst hjq
      rw [List.getElem?_set_self (by rw [xc_len]; exact hj), xc_get _ _ hj, va_up_self]
    · rw [List.getElem?_set_ne (Ne.symm hjq), xc_get _ _ hj, xc_get _ _ hj, va_up_ne _ _ hjq]
  · rw [List.getElem?_eq_none (by rw [List.length_set, xc_len]; omega), List.getElem?_eq_none (by rw [xc_len]; omega)]
theorem xc_push {N n : Nat} (ct : Nat → va_E) (E : va_E) : xc_W N n ct ++ [(N + n, E)] = xc_W N (n + 1) (va_up ct n E) := by
  apply List.ext_getElem?
  intro j
  by_cases hj : j < n
  · rw [List.getElem?_append_left (by rw [xc_len]; exact hj), xc_get _ _ hj, xc_get _ _ (show j < n + 1 by omega), va_up_ne _ _ (by omega)]
  · by_cases hjn : j = n
    · subst hjn
      rw [List.getElem?_append_right (by rw [xc_len]; omega), xc_len, Nat.sub_self, xc_get _ _ (show j < j + 1 by omega), va_up_self]
      rfl
    · rw [List.getElem?_eq_none (by rw [List.length_append, xc_len]; show n + 1 ≤ j; omega), List.getElem?_eq_none (by rw [xc_len]; omega)]
theorem xc_D {N n : Nat} {ct : Nat → va_E} {A : Nat → Prop} (hA : ∀ q, N ≤ q → A q) : va_D A (xc_W N n ct) := by
  have key : ∀ (k : Nat) (q : Nat × va_E), (xc_W N n ct)[k]? = some q → q.1 = N + k := by
    intro k q hk
    have hl := (List.getElem?_eq_some_iff.mp hk).1
    rw [xc_len] at hl
    rw [xc_get _ _ hl] at hk
    cases hk
    rfl
  refine ⟨fun i j x y hi hj hxy => ?_, fun k q hk => ?_⟩
  · have h1 := key i x hi
    have h2 := key j y hj
    omega
  · rw [key k q hk]
    exact hA _ (Nat.le_add_right _ _)
def xc_G (D : va_G) (cs : xs_cs) (s : State) (A : Nat → Prop) (H0 : Heap) (N n : Nat) (ct : Nat → va_E) (H : Heap) (locs : List Loc) : Prop :=
  va_K D classes (xs_ty cs) s ∧ va_P D classes (xc_W N n ct) H ∧ H.size = N + n ∧ va_S A H0 H locs ∧ ∀ q, N ≤ q → A q
def xc_Pre (D : va_G) (cs : xs_cs) (N n : Nat) (ct : Nat → va_E) (U : State) : Prop := U.heap.size = N + n ∧ va_P D classes (xc_W N n ct) U.heap ∧ va_K D classes (xs_ty cs) U ∧ (∀ w ∈ xs_NW, va_Nw w U) ∧ va_AO "ExactScene$Triangle" U
def xc_Q (D : va_G) (N n2 : Nat) (ct2 : Nat → va_E) : Array Value → State → Outcome → State → Prop := fun _ st o t => o = .returned none ∧ t.heap.size = N + n2 ∧ va_P D classes (xc_W N n2 ct2) t.heap ∧ va_F (fun q => N ≤ q) st t
def xc_rm (d w mc ms : Nat) : Room := { frames := d, cells := mc, slots := ms, locals := w }
/-- a constructor (or a method that it calls): from n cells to n2 -/
def xc_I (l : Launch) (D : va_G) (cs : xs_cs) (y : MethodName) (bc : ByteArray) (mL d w mc ms : Nat) (as : List Value) (N n : Nat) (ct : Nat → va_E) (n2 : Nat) (ct2 : Nat → va_E) : Prop :=
  Met l y (.code y bc mL none :: xs_TG) (xc_rm d w mc ms) (va_Pc as (xc_Pre D cs N n ct)) (xc_Q D N n2 ct2) mc ms (fun q => N ≤ q)
def xc_E (below : List Frame) (D : va_G) (as : List Value) (s : State) (N n2 : Nat) (ct2 : Nat → va_E) (mc ms : Nat) : State → Prop := MQ below (xc_Q D N n2 ct2) as.toArray s mc ms (fun q => N ≤ q)
theorem xc_entry {l : Launch} {D : va_G} {cs : xs_cs} {y : MethodName} {bc : ByteArray} {mL d w mc ms : Nat} {as : List Value} {N n : Nat} {ct : Nat → va_E} {n2 : Nat} {ct2 : Nat → va_E} (hy : plainName y.cls = true) (hn : (lg_sl as).length ≤ mL)
    (body : ∀ (p : Program) (e : Env) (s : State) (m : MethodId) (below : List Frame) (meth : Method) (c : Code) (ls : Array Slot), xs_C p s m c bc mL as.toArray y.cls → meth.sig.returnType = none → meth.locks = false → meth.name = y.name → va_AO "ExactScene$Triangle" s → xc_G D cs s (fun q => N ≤ q) s.heap N n ct s.heap [] → lv_has ls mL (lv_args 0 as) →
      W p l e (xc_rm d w mc ms) s m as.toArray below meth c s.heap [] 0 0 (xc_E below D as s N n2 ct2 mc ms) (F0 m 0 ls [])) : xc_I l D cs y bc mL d w mc ms as N n ct n2 ct2 := by
  refine Met.ofW (cc := bc) (maxL := mL) (ret := none) hy rfl ?_
  intro p e s m args below meth c s₁ B hml hv
  obtain ⟨rfl, hsz, hP, hK, hN, hO⟩ := hv
  have hts := atoms_spec (ws := .code y bc mL none :: xs_TG) B.pre
  have hown : s.vm.findClass y.cls = some m.cls := findClass_of_methodNamed B.named
  have hl := lv_entry as (n := mL) hn
  rw [lg_entry_eq]
  exact body p e s m below meth c _ ⟨B.exec, B.bytes, hml, hown, fun w h => hts w (List.mem_cons_of_mem _ h), hN⟩ B.returns B.notSynchronized (name_of_methodNamed B.named B.method).1 hO ⟨hK, hP, hsz, va_S.rf, fun q h => h⟩ hl
section XCR
variable {p : Program} {l : Launch} {e : Env} {R : Room} {s : State} {m : MethodId} {args : Array Value} {below : List Frame} {meth : Method} {c : Code} {H : Heap} {locs : List Loc} {cells slots : Nat} {Q : State → Prop}
variable {cc : ByteArray} {pc : Nat} {ls : Array Slot} {rest st0 : List Value} {D : va_G} {cs : xs_cs} {A : Nat → Prop} {H0 : Heap} {N n : Nat} {ct : Nat → va_E} {as : List Value} {nL : Nat} {own : String}
theorem xc_get1 {C : String} {T : u_T} {K ci q k idx : Nat} {fs : List Value} {v : Value} (X : xs_C p s m c cc nL args own) (G : xc_G D cs s A H0 N n ct H locs) (hin : ∀ w ∈ u_ws C T K, w ∈ xs_TG) (hq : q < n) (he : ct q = .inr (ci, fs)) (hci : classes[ci]? = some (C, T, K)) (hk : k < K) (w : Cond.fieldLink own idx (T k).1 (T k).2.1 (T k).2.2.1 ∈ xs_TG) (hv : fs[k]? = some v) (hdg : decode cc pc = .ok (.getfield idx, 3))
    (kk : W p l e R s m args below meth c H locs cells slots Q (F0 m (pc + 3) ls (v :: rest))) : W p l e R s m args below meth c H locs cells slots Q (F0 m pc ls (.ref (N + q) :: rest)) :=
  va_get (D := D) (ci := ci) (C := C) (T := T) (N := K) (ref := (T k).1) X.1 X.2.1 X.2.2.2.2.1 hin X.2.2.2.1 G.1 G.2.1 q (by rw [xc_get _ _ hq, he]) hci k hk (X.2.2.2.2.1 _ w) (fun _ h => h) hv hdg kk
theorem xc_putF {C : String} {T : u_T} {K ci q k idx : Nat} {fs : List Value} {v : Value} {ty0 : Nat → FieldType} {ty : FieldType} (X : xs_C p s m c cc nL args C) (G : xc_G D cs s A H0 N n ct H locs) (hnm0 : meth.name = "<init>") (hin : ∀ w ∈ u_ws C T K, w ∈ xs_TG) (hty : ∀ k, k < K → parseFieldDescriptor (T k).2.2.1 = some (ty0 k)) (hnm : ∀ a, a < K → ∀ b, b < K → a ≠ b → (T a).2.1 ≠ (T b).2.1) (hq : q < n) (he : ct q = .inr (ci, fs)) (hci : classes[ci]? = some (C, T, K)) (hk : k < K) (w : Cond.fieldLink C idx (T k).1 (T k).2.1 (T k).2.2.1 ∈ xs_TG) (hfin : (T k).2.2.2 = true) (hdecl : (T k).1 = C) (hd : parseFieldDescriptor (T k).2.2.1 = some ty) (hn : narrow ty v = v) (hfit : fits ty v = true) (hl : k < fs.length) (hdg : decode cc pc = .ok (.putfield idx, 3))
    (kk : ∀ (H1 : Heap) (locs1 : List Loc), xc_G D cs s A H0 N n (va_up ct q (.inr (ci, fs.set k v))) H1 locs1 → W p l e R s m args below meth c H1 locs1 cells slots Q (F0 m (pc + 3) ls rest)) : W p l e R s m args below meth c H locs cells slots Q (F0 m pc ls (v :: .ref (N + q) :: rest)) := by
  obtain ⟨hx, hb, hml, hown, hts, -⟩ := X
  obtain ⟨hK, hP, hz, hS, hA⟩ := G
  have hD : va_D A (xc_W N n ct) := xc_D hA
  have hap := va_apart (own := C) hts hin ty0 hty hnm hK hci
  have he' : (xc_W N n ct)[q]? = some (N + q, .inr (ci, fs)) := by rw [xc_get _ _ hq, he]
  obtain ⟨r, h1, cell, q1, q2, q3, q4⟩ := hP q _ he'
  have hr : r = (C, T, K) := Option.some.inj (h1.symm.trans hci)
  subst hr
  obtain ⟨hSl, hfc, kC, hkC, hkind⟩ := hK.1 ci _ hci
  obtain ⟨cf, kf, fi, f, hi, hsl⟩ := hSl k hk
  have hlay := hts _ (hin _ (u_in_lay hk))
  unfold u_lay at hlay
  rw [if_pos hfin] at hlay
  have hst := (u_facts hfc hkC (u_lays hts hin hk) hi).1
  have hcf : m.cls = cf := by
    obtain ⟨_, _, c', _, _, _, -, -, hf', -, -, -, hown2, -⟩ := Cond.laysFinal_spec hlay
    have e1 : c' = cf := by have := hi.symm.trans hf'; simp at this; exact this.1.symm
    rw [hdecl] at hown2
    rw [← e1]; exact Option.some.inj (hown.symm.trans hown2)
  have h6 := u_fits hfc hkC hkind (Or.inr hlay) hi hd hn hfit
  refine W.putFinK hx hb hown (hts _ w) hi hst hcf hnm0 (by rw [q2]; exact h6) q1 q3 (by rw [hsl]; exact k2_hasslot (q4 k hk)) rfl rfl hdg fun H' e1 e2 e3 => ?_
  rw [hsl] at e1 ⊢
  refine kk H' _ ⟨hK, ?_, by rw [e2]; exact hz, hS.put e2 e3 (hA _ (Nat.le_add_right _ _)), hA⟩
  rw [← xc_set ct _ hq]
  exact hP.set hD he' ⟨_, hci, t_OB.to (V := updV (vp_V fs) k v) ⟨_, e1, q2, q3, t_set q4 hap hk v⟩ (fun j _ => vp_updV_set hl v j)⟩ e3
theorem xc_iast (hx : p.tables.exec = Jvm.exec) (hb : c.code = cc) (G : xc_G D cs s A H0 N n ct H locs) {q L : Nat} {f : Nat → Int32} (hq : q < n) (he : ct q = xs_ai cs L f) {i x : Int32} (hin : vp_in i L) (hdg : decode cc pc = .ok (.iastore, 1))
    (kk : ∀ (H1 : Heap) (locs1 : List Loc), xc_G D cs s A H0 N n (va_up ct q (xs_ai cs L (upd f i.toNatClampNeg x))) H1 locs1 → W p l e R s m args below meth c H1 locs1 cells slots Q (F0 m (pc + 1) ls rest)) : W p l e R s m args below meth c H locs cells slots Q (F0 m pc ls (.int x :: .int i :: .ref (N + q) :: rest)) := by
  obtain ⟨hK, hP, hz, hS, hA⟩ := G
  have he' : (xc_W N n ct)[q]? = some (N + q, .inl (cs.1, L, .inl f)) := by rw [xc_get _ _ hq, he]; rfl
  refine W.iast hx hb (hP q _ he') ((hK.2 0 _ rfl).1 L (fun j => .int (f j))) (fun q => by cases q) (by show ¬ (i < 0 ∨ (arrV _ _ _).slots.size ≤ _); rw [arrV_size]; exact hin) rfl rfl hdg fun H1 e z oq => ?_
  refine kk H1 _ ⟨hK, ?_, by rw [z]; exact hz, hS.put z oq (hA _ (Nat.le_add_right _ _)), hA⟩
  rw [← xc_set ct _ hq]
  refine hP.set (xc_D hA) he' ?_ oq
  show H1[N + q]? = some (vp_cell _ _)
  rw [e]
  rw [vp_cell_i, vp_cell_i, arrV_store]
  congr 2
  funext j
  by_cases hj : j = i.toNatClampNeg
  · subst hj
    simp [updV, upd]
  · simp [updV, upd, hj]
/-- a new array -/
theorem xc_newK {H1 : Heap} {E : va_E} (G : xc_G D cs s A H0 N n ct H locs) (e1 : va_at D classes (N + n, E) H1) (z1 : H1.size = H.size + 1) (o1 : ∀ q, q < H.size → H1[q]? = H[q]?) : xc_G D cs s A H0 N (n + 1) (va_up ct n E) H1 locs := by
  obtain ⟨hK, hP, hz, hS, hA⟩ := G
  refine ⟨hK, ?_, by rw [z1, hz]; omega, ⟨Nat.le_trans hS.1 (by omega), fun x h1 h2 => (o1 x (Nat.lt_of_lt_of_le h1 hS.1)).trans (hS.2.1 x h1 h2), hS.2.2⟩, hA⟩
  rw [← xc_push]
  refine va_P.app (hP.kept (fun k x hx => o1 x.1 ((hP k x hx).lt))) (fun k x hx => ?_)
  have hk : k < 1 := (List.getElem?_eq_some_iff.mp hx).1
  rw [show k = 0 by omega] at hx
  cases hx
  exact e1
theorem xc_newi (X : xs_C p s m c cc nL args own) (G : xc_G D cs s A H0 N n ct H locs) (w : Cond.arrayClass .int ∈ xs_TG) {v : Int32} {L : Nat} (hn : ¬ v < 0) (hN : v.toNatClampNeg = L) (hb4 : L * 4 ≤ 536870912) (hc : cells + 1 ≤ R.cells) (hs : slots + L ≤ R.slots) (hdg : decode cc pc = .ok (.newarray .int, 2))
    (kk : ∀ (H1 : Heap), xc_G D cs s A H0 N (n + 1) (va_up ct n (xs_ai cs L (fun _ => 0))) H1 locs → W p l e R s m args below meth c H1 locs (cells + 1) (slots + L) Q (F0 m (pc + 2) ls (.ref (N + n) :: rest))) : W p l e R s m args below meth c H locs cells slots Q (F0 m pc ls (.int v :: rest)) := by
  refine va_newaK (atype := .int) X.1 X.2.1 (X.2.2.2.2.1 _ w) (g := F0 m pc ls (.int v :: rest)) rfl hdg rfl hn hN hb4 hc hs G.2.2.1 fun H1 cA e1 z1 o1 hAr hNm => ?_
  have hcA : cA = cs.1 := Option.some.inj (hNm.symm.trans (G.1.2 0 _ rfl).2)
  subst hcA
  refine kk H1 (xc_newK G ?_ (by rw [z1, G.2.2.1]) (fun q hq => o1 q (by rw [← G.2.2.1]; exact hq)))
  exact e1
theorem xc_newl (X : xs_C p s m c cc nL args own) (G : xc_G D cs s A H0 N n ct H locs) (w : Cond.arrayClass .long ∈ xs_TG) {v : Int32} {L : Nat} (hn : ¬ v < 0) (hN : v.toNatClampNeg = L) (hb4 : L * 8 ≤ 536870912) (hc : cells + 1 ≤ R.cells) (hs : slots + L ≤ R.slots) (hdg : decode cc pc = .ok (.newarray .long, 2))
    (kk : ∀ (H1 : Heap), xc_G D cs s A H0 N (n + 1) (va_up ct n (xs_al cs L (fun _ => 0))) H1 locs → W p l e R s m args below meth c H1 locs (cells + 1) (slots + L) Q (F0 m (pc + 2) ls (.ref (N + n) :: rest))) : W p l e R s m args below meth c H locs cells slots Q (F0 m pc ls (.int v :: rest)) := by
  refine va_newaK (atype := .long) X.1 X.2.1 (X.2.2.2.2.1 _ w) (g := F0 m pc ls (.int v :: rest)) rfl hdg rfl hn hN hb4 hc hs G.2.2.1 fun H1 cA e1 z1 o1 hAr hNm => ?_
  have hcA : cA = cs.2.1 := Option.some.inj (hNm.symm.trans (G.1.2 1 _ rfl).2)
  subst hcA
  refine kk H1 (xc_newK G ?_ (by rw [z1, G.2.2.1]) (fun q hq => o1 q (by rw [← G.2.2.1]; exact hq)))
  exact e1
theorem xc_anew (X : xs_C p s m c cc nL args own) (hO : va_AO "ExactScene$Triangle" s) (G : xc_G D cs s A H0 N n ct H locs) {idx : Nat} (w : Cond.classLink own idx "ExactScene$Triangle" ∈ xs_TG) (hc : cells + 1 ≤ R.cells) (hs : slots + 20 ≤ R.slots) (hdg : decode cc pc = .ok (.anewarray idx, 3))
    (kk : ∀ (H1 : Heap), xc_G D cs s A H0 N (n + 1) (va_up ct n (.inl (cs.2.2, 20, .inr (.inr (.inr (.inr (fun _ => none))))))) H1 locs → W p l e R s m args below meth c H1 locs (cells + 1) (slots + 20) Q (F0 m (pc + 3) ls (.ref (N + n) :: rest))) : W p l e R s m args below meth c H locs cells slots Q (F0 m pc ls (.int 20 :: rest)) := by
  refine W.anew X.1 X.2.1 X.2.2.2.1 (X.2.2.2.2.1 _ w) (va_AO.use hO) (g := F0 m pc ls (.int 20 :: rest)) rfl hdg rfl (by decide) (by decide) hc hs fun cA kA comp f1 f2 f3 f4 => ?_
  have hcA : cA = cs.2.2 := by
    obtain ⟨kB, cB, -, -, -, h4⟩ := (G.1.2 2 _ rfl).2
    exact Option.some.inj (f1.symm.trans h4)
  subst hcA
  have hz := G.2.2.1
  rw [show (F0 m pc ls (.int 20 :: rest)).pc + 3 = pc + 3 from rfl, hz]
  refine kk _ (xc_newK G ?_ (by rw [Array.size_push]) (fun q hq => by rw [Array.getElem?_push, if_neg (Nat.ne_of_lt hq)]))
  show (H.push _)[N + n]? = some (vp_cell _ _)
  rw [← hz, Array.getElem?_push_size, vp_cell_q]
  rw [show (fun j => va_rf ((fun _ => (none : Option Nat)) j)) = (fun _ => Value.null) from rfl, ← arrV_new]
  rfl
theorem xc_new {C : String} {T : u_T} {K ci idx : Nat} {fs : List Value} (X : xs_C p s m c cc nL args own) (G : xc_G D cs s A H0 N n ct H locs) (hin : ∀ w ∈ u_ws C T K, w ∈ xs_TG) (ty : Nat → FieldType) (hty : ∀ k, k < K → parseFieldDescriptor (T k).2.2.1 = some (ty k)) (hci : classes[ci]? = some (C, T, K)) (w1 : Cond.classLink own idx C ∈ xs_TG) (w2 : Cond.instantiable C K ∈ xs_TG) (w3 : Cond.initialized C ∈ xs_TG) (hfs : ∀ j, j < K → defaultValue (ty j) = vp_V fs j) (hc : cells + 1 ≤ R.cells) (hs : slots + K ≤ R.slots) (hdg : decode cc pc = .ok (.new idx, 3))
    (kk : ∀ (H1 : Heap), xc_G D cs s A H0 N (n + 1) (va_up ct n (.inr (ci, fs))) H1 locs → W p l e R s m args below meth c H1 locs (cells + 1) (slots + K) Q (F0 m (pc + 3) ls (.ref (N + n) :: rest))) : W p l e R s m args below meth c H locs cells slots Q (F0 m pc ls rest) := by
  have hts := X.2.2.2.2.1
  have hKn := G.1.1 ci _ hci
  refine W.newcK X.1 X.2.1 X.2.2.2.1 (hts _ w1) (hts _ w2) (hts _ w3) (g := F0 m pc ls rest) rfl hdg hc hs hKn.2.1 G.2.2.1 fun H1 kC hkC e1 z1 o1 => ?_
  exact kk H1 (xc_newK G ⟨_, hci, (u_born ty hts hin hKn hkC e1 hty).to hfs⟩ (by rw [z1, G.2.2.1]) (fun q hq => o1 q (by rw [← G.2.2.1]; exact hq)))
theorem xc_vret (hx : p.tables.exec = Jvm.exec) (hb : c.code = cc) (hr : meth.sig.returnType = none) (hlk : meth.locks = false) {ct2 : Nat → va_E} {n2 mc ms : Nat} (G : xc_G D cs s (fun q => N ≤ q) s.heap N n2 ct H locs) (hct : ∀ i, i < n2 → ct i = ct2 i) (hcl : cells = mc) (hsl : slots = ms) (hdg : decode cc pc = .ok (.return_, 1)) : W p l e R s m as.toArray below meth c H locs cells slots (xc_E below D as s N n2 ct2 mc ms) (F0 m pc ls []) := by
  subst hcl; subst hsl
  refine W.vret hx hb hr (fun t ht hW => ⟨rfl, by rw [ht]; exact G.2.2.1, ?_, G.2.2.2.1.F ht⟩) G.2.2.2.1.2.2 hdg hlk
  rw [ht, ← xc_cong hct]
  exact G.2.1
end XCR
