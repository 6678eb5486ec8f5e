/-! the words that every method of ours is given, in one list; rooms by depth; the memory by cells' numbers -/
def xs_TG : List Cond := lw_tbl.filter goodWord
def xs_isN : Cond → Bool
  | .fieldLinkNest .. => true
  | .methodLinkNest .. => true
  | _ => false
def xs_NW : List Cond := tables_1.filter xs_isN
theorem xs_tg {w : Cond} (i : Nat) (h : tables_1[i]? = some w) (g : goodWord w = true) : w ∈ xs_TG :=
  List.mem_filter.mpr ⟨List.mem_append_right _ (List.mem_of_getElem? h), g⟩
theorem xs_tp {w : Cond} (i : Nat) (h : (k2_sels lw_privs)[i]? = some w) (g : goodWord w = true) : w ∈ xs_TG :=
  List.mem_filter.mpr ⟨List.mem_append_left _ (List.mem_of_getElem? h), g⟩
theorem xs_nw {w : Cond} (i : Nat) (h : tables_1[i]? = some w) (g : xs_isN w = true) : w ∈ xs_NW :=
  List.mem_filter.mpr ⟨List.mem_of_getElem? h, g⟩
theorem xs_good {w : Cond} (h : w ∈ xs_TG) : GoodIn xs_TG (w :: xs_TG) := by
  intro z hz
  have hm : z ∈ xs_TG := by
    rcases List.mem_cons.mp hz with e | e
    · rw [e]; exact h
    · exact e
  exact ⟨hm, good_of_word (List.mem_filter.mp hm).2⟩
theorem xs_nw1 {s U : State} (hW : s.WarmedH U.vm) : ∀ w : Cond, xs_isN w = true → va_Nw w s → va_Nw w U := by
  intro w hn h
  cases w
  case fieldLinkNest => exact va_Nw.warmF hW h
  case methodLinkNest => exact va_Nw.warmM hW h
  all_goals exact Bool.noConfusion hn
theorem xs_nwarm {s U : State} (hW : s.WarmedH U.vm) (h : ∀ w ∈ xs_NW, va_Nw w s) : ∀ w ∈ xs_NW, va_Nw w U :=
  fun w hw => xs_nw1 hW w (List.mem_filter.mp hw).2 (h w hw)
def xs_rm (d w : Nat) : Room := { frames := d, cells := 0, slots := 0, locals := w }
abbrev xs_M : Type := (Nat → Nat → Int32) × (Nat → Nat → Int64)
def xs_si (μ : xs_M) (i j : Nat) (x : Int32) : xs_M := (va_up μ.1 i (upd (μ.1 i) j x), μ.2)
def xs_sl (μ : xs_M) (i j : Nat) (x : Int64) : xs_M := (μ.1, va_up μ.2 i (vp_updL (μ.2 i) j x))
def xs_sa (μ : xs_M) (i : Nat) (f : Nat → Int32) : xs_M := (va_up μ.1 i f, μ.2)
/-! what a cell holds: objects' fields, in the order of the tables F_ of the names -/
def xs_fS (ad : Nat → Nat) (f : Nat → Int32) : List Value := [.ref (ad 1), .ref (ad 6), .ref (ad 8), .ref (ad 13), .int (f 4), .int (f 5), .int (f 6), .int (f 7), .int (f 8)]
def xs_fM (ad : Nat → Nat) (f : Nat → Int32) : List Value := [.ref (ad 2), .ref (ad 3), .ref (ad 4), .ref (ad 5), .int (f 4)]
def xs_fX (ad : Nat → Nat) : List Value := [.ref (ad 7)]
def xs_fP (ad : Nat → Nat) : List Value := [.ref (ad 9), .ref (ad 10), .ref (ad 11), .ref (ad 12)]
def xs_fT (ad : Nat → Nat) (b : Nat) (f : Nat → Int32) (g : Nat → Int64) : List Value := [.ref (ad (b + 1)), .ref (ad (b + 2)), .ref (ad (b + 3)), .ref (ad (b + 4)), .ref (ad (b + 5)), .ref (ad (b + 6)), .long (g 6), .int (f 7), .int (f 8), .int (f 9)]
def xs_fR (ad : Nat → Nat) (f : Nat → Int32) (g : Nat → Int64) : List Value := [.int (f 0), .ref (ad 155), .ref (ad 156), .ref (ad 157), .int (f 4), .int (f 5), .int (f 6), .int (f 7), .ref (ad 158), .int (f 9), .ref (ad 159), .ref (ad 160), .ref (ad 161), .ref (ad 162), .long (g 14), .ref (ad 163), .ref (ad 164), .ref (ad 165), .ref (ad 166), .ref (ad 167), .ref (ad 168), .ref (ad 169), .ref (ad 170)]
abbrev xs_cs : Type := ClassId × ClassId × ClassId
def xs_ai (cs : xs_cs) (n : Nat) (f : Nat → Int32) : va_E := .inl (cs.1, n, .inl f)
def xs_al (cs : xs_cs) (n : Nat) (g : Nat → Int64) : va_E := .inl (cs.2.1, n, .inr (.inl g))
def xs_ar (cs : xs_cs) (ad : Nat → Nat) : va_E := .inl (cs.2.2, 20, .inr (.inr (.inr (.inr (fun k => some (ad (14 + 7 * k)))))))
def xs_L1 (ad : Nat → Nat) (cs : xs_cs) (f : Nat → Int32) (g : Nat → Int64) : List va_E := [.inr (0, xs_fS ad f), .inr (1, xs_fM ad f), xs_ai cs 16 f, xs_ai cs 64 f, xs_ai cs 16 f, xs_ai cs 16 f, .inr (2, xs_fX ad), xs_ai cs 128 f, .inr (4, xs_fP ad), xs_ai cs 192 f, xs_ai cs 192 f, xs_al cs 192 g, xs_al cs 192 g, xs_ar cs ad]
def xs_L2 (ad : Nat → Nat) (cs : xs_cs) (f : Nat → Int32) (g : Nat → Int64) : List va_E := [.inr (5, xs_fR ad f g), xs_ai cs 16 f, xs_ai cs 16 f, xs_ai cs 64 f, xs_ai cs 128 f, xs_ai cs 360 f, xs_ai cs 20 f, xs_ai cs 20 f, xs_ai cs 20 f, xs_al cs 3 g, xs_al cs 3 g, xs_al cs 3 g, xs_al cs 3 g, xs_ai cs 192 f, xs_ai cs 192 f, xs_al cs 192 g, xs_al cs 192 g, xs_al cs 1 g]
def xs_L3 (ad : Nat → Nat) (cs : xs_cs) (b : Nat) (f : Nat → Int32) (g : Nat → Int64) : List va_E := [.inr (3, xs_fT ad b f g), xs_al cs 13 g, xs_ai cs 3 f, xs_ai cs 3 f, xs_al cs 3 g, xs_al cs 3 g, xs_al cs 3 g]
def xs_cell (ad : Nat → Nat) (cs : xs_cs) (i : Nat) (f : Nat → Int32) (g : Nat → Int64) : va_E :=
  if 14 ≤ i then (if i < 154 then (xs_L3 ad cs (i - (i - 14) % 7) f g).getD ((i - 14) % 7) (xs_ai cs 0 f) else (xs_L2 ad cs f g).getD (i - 154) (xs_ai cs 0 f)) else (xs_L1 ad cs f g).getD i (xs_ai cs 0 f)
theorem xs_c3 (ad : Nat → Nat) (cs : xs_cs) (f : Nat → Int32) (g : Nat → Int64) {k : Nat} (hk : k < 20) (j : Nat) (hj : j < 7) : xs_cell ad cs (14 + 7 * k + j) f g = (xs_L3 ad cs (14 + 7 * k) f g).getD j (xs_ai cs 0 f) := by
  unfold xs_cell
  rw [if_pos (by omega), if_pos (by omega), show (14 + 7 * k + j - 14) % 7 = j by omega, show 14 + 7 * k + j - j = 14 + 7 * k by omega]
def xs_W (ad : Nat → Nat) (cs : xs_cs) (μ : xs_M) : va_W := (List.range 172).map (fun i => (ad i, xs_cell ad cs i (μ.1 i) (μ.2 i)))
theorem xs_len (ad : Nat → Nat) (cs : xs_cs) (μ : xs_M) : (xs_W ad cs μ).length = 172 := by simp [xs_W]
theorem xs_get (ad : Nat → Nat) (cs : xs_cs) (μ : xs_M) {i : Nat} (h : i < 172) : (xs_W ad cs μ)[i]? = some (ad i, xs_cell ad cs i (μ.1 i) (μ.2 i)) := by
  simp [xs_W, h]
theorem xs_set {ad : Nat → Nat} {cs : xs_cs} {μ μ2 : xs_M} {q : Nat} (hq : q < 172) {E : va_E} (h1 : xs_cell ad cs q (μ2.1 q) (μ2.2 q) = E) (h2 : ∀ i, i ≠ q → μ2.1 i = μ.1 i ∧ μ2.2 i = μ.2 i) : (xs_W ad cs μ).set q (ad q, E) = xs_W ad cs μ2 := by
  apply List.ext_getElem?
  intro j
  by_cases hj : j < 172
  · by_cases hjq : j = q
    · subst hjq
      rw [List.getElem?_set_self (by rw [xs_len]; exact hj), xs_get _ _ _ hj, h1]
    · rw [List.getElem?_set_ne (Ne.symm hjq), xs_get _ _ _ hj, xs_get _ _ _ hj, (h2 j hjq).1, (h2 j hjq).2]
  · rw [List.getElem?_eq_none (by rw [List.length_set, xs_len]; omega), List.getElem?_eq_none (by rw [xs_len]; omega)]
/-- a cell that is an array of ints, of longs -/
def xs_IA (ad : Nat → Nat) (cs : xs_cs) (q L : Nat) : Prop := q < 172 ∧ ∀ (f : Nat → Int32) (g : Nat → Int64), xs_cell ad cs q f g = xs_ai cs L f
def xs_LA (ad : Nat → Nat) (cs : xs_cs) (q L : Nat) : Prop := q < 172 ∧ ∀ (f : Nat → Int32) (g : Nat → Int64), xs_cell ad cs q f g = xs_al cs L g
def xs_J (ad : Nat → Nat) : Prop := ∀ i j, i < 172 → j < 172 → ad i = ad j → i = j
theorem xs_D {ad : Nat → Nat} {cs : xs_cs} {μ : xs_M} {A : Nat → Prop} (hJ : xs_J ad) (hA : ∀ i, i < 172 → A (ad i)) : va_D A (xs_W ad cs μ) := by
  have key : ∀ (k : Nat) (q : Nat × va_E), (xs_W ad cs μ)[k]? = some q → k < 172 ∧ q.1 = ad k := by
    intro k q hk
    have hl := (List.getElem?_eq_some_iff.mp hk).1
    rw [xs_len] at hl
    rw [xs_get _ _ _ hl] at hk
    cases hk
    exact ⟨hl, rfl⟩
  refine ⟨fun i j x y hi hj hxy => ?_, fun k q hk => ?_⟩
  · obtain ⟨h1, e1⟩ := key i x hi
    obtain ⟨h2, e2⟩ := key j y hj
    exact hJ i j h1 h2 (by rw [← e1, ← e2]; exact hxy)
  · obtain ⟨h1, e1⟩ := key k q hk
    rw [e1]
    exact hA k h1
def xs_ty (cs : xs_cs) : List (ClassId × FieldType) := [(cs.1, .int), (cs.2.1, .long), (cs.2.2, .object "ExactScene$Triangle")]
/-- where a walk stands: the world in the heap H, nothing else changed since H0 -/
def xs_G (D : va_G) (ad : Nat → Nat) (cs : xs_cs) (s : State) (A : Nat → Prop) (H0 : Heap) (μ : xs_M) (H : Heap) (locs : List Loc) : Prop :=
  va_K D classes (xs_ty cs) s ∧ va_P D classes (xs_W ad cs μ) H ∧ (xs_J ad ∧ ∀ i, i < 172 → A (ad i)) ∧ va_S A H0 H locs ∧ ∀ q, H0.size ≤ q → A q
theorem xs_GD {D : va_G} {ad : Nat → Nat} {cs : xs_cs} {s : State} {A : Nat → Prop} {H0 : Heap} {μ : xs_M} {H : Heap} {locs : List Loc} (G : xs_G D ad cs s A H0 μ H locs) (μ2 : xs_M) : va_D A (xs_W ad cs μ2) := xs_D G.2.2.1.1 G.2.2.1.2
def xs_C (p : Program) (s : State) (m : MethodId) (c : Code) (cc : ByteArray) (nL : Nat) (args : Array Value) (own : String) : Prop :=
  p.tables.exec = Jvm.exec ∧ c.code = cc ∧ c.maxLocals = nL ∧ s.vm.findClass own = some m.cls ∧ (∀ w ∈ xs_TG, w.before args s = true) ∧ ∀ w ∈ xs_NW, va_Nw w s
def xs_A (ad : Nat → Nat) (sz : Nat) : Nat → Prop := fun q => (∃ i, i < 172 ∧ q = ad i) ∨ sz ≤ q
def xs_Pre (D : va_G) (ad : Nat → Nat) (cs : xs_cs) (μ : xs_M) (sz : Nat) (U : State) : Prop := U.heap.size = sz ∧ va_P D classes (xs_W ad cs μ) U.heap ∧ va_K D classes (xs_ty cs) U ∧ ∀ w ∈ xs_NW, va_Nw w U
def xs_Q (D : va_G) (ad : Nat → Nat) (cs : xs_cs) (r : Option Value) (μ2 : xs_M) (sz : Nat) : Array Value → State → Outcome → State → Prop := fun _ st o t => o = .returned r ∧ va_P D classes (xs_W ad cs μ2) t.heap ∧ va_F (xs_A ad sz) st t
/-- a method's contract: from the memory μ it returns r and leaves μ2 -/
def xs_I (l : Launch) (D : va_G) (ad : Nat → Nat) (cs : xs_cs) (y : MethodName) (bc : ByteArray) (mL : Nat) (rt : Option FieldType) (d w : Nat) (as : List Value) (μ : xs_M) (r : Option Value) (μ2 : xs_M) : Prop :=
  ∀ sz, Met l y (.code y bc mL rt :: xs_TG) (xs_rm d w) (va_Pc as (xs_Pre D ad cs μ sz)) (xs_Q D ad cs r μ2 sz) 0 0 (xs_A ad sz)
def xs_E (below : List Frame) (D : va_G) (ad : Nat → Nat) (cs : xs_cs) (as : List Value) (s : State) (r : Option Value) (μ2 : xs_M) : State → Prop := MQ below (xs_Q D ad cs r μ2 s.heap.size) as.toArray s 0 0 (xs_A ad s.heap.size)
theorem xs_entry {l : Launch} {D : va_G} {ad : Nat → Nat} {cs : xs_cs} {y : MethodName} {bc : ByteArray} {mL : Nat} {rt : Option FieldType} {d w : Nat} {as : List Value} {μ : xs_M} {r : Option Value} {μ2 : xs_M} (hJ : xs_J ad) (hy : plainName y.cls = true) (hn : (lg_sl as).length ≤ mL)
    (body : ∀ (p : Program) (e : Env) (s : State) (m : MethodId) (below : List Frame) (meth : Method) (c : Code) (ls : Array Slot), xs_C p s m c bc mL as.toArray y.cls → meth.sig.returnType = rt → meth.locks = false → xs_G D ad cs s (xs_A ad s.heap.size) s.heap μ s.heap [] → lv_has ls mL (lv_args 0 as) →
      W p l e (xs_rm d w) s m as.toArray below meth c s.heap [] 0 0 (xs_E below D ad cs as s r μ2) (F0 m 0 ls [])) : xs_I l D ad cs y bc mL rt d w as μ r μ2 := by
  intro sz
  refine Met.ofW (cc := bc) (maxL := mL) (ret := rt) hy rfl ?_
  intro p e s m args below meth c s₁ B hml hv
  obtain ⟨rfl, hsz, hP, hK, hN⟩ := hv
  subst hsz
  have hts := atoms_spec (ws := .code y bc mL rt :: xs_TG) B.pre
  have hown : s.vm.findClass y.cls = some m.cls := findClass_of_methodNamed B.named
  have hl := lv_entry as (n := mL) hn
  rw [lg_entry_eq]
  exact body p e s m below meth c _ ⟨B.exec, B.bytes, hml, hown, fun w h => hts w (List.mem_cons_of_mem _ h), hN⟩ B.returns B.notSynchronized ⟨hK, hP, ⟨hJ, fun i hi => Or.inl ⟨i, hi, rfl⟩⟩, va_S.rf, fun q h => Or.inr h⟩ hl
/-! the decompiled functions: what a step of theirs says -/
theorem xs_t {α : Type} {c : Prop} [Decidable c] {a b r : α} (h : (if c then a else b) = r) (hc : c) : a = r := by rw [if_pos hc] at h; exact h
theorem xs_f {α : Type} {c : Prop} [Decidable c] {a b r : α} (h : (if c then a else b) = r) (hc : ¬ c) : b = r := by rw [if_neg hc] at h; exact h
theorem xs_n {α : Type} {c : Prop} [Decidable c] {a : Option α} {r : α} (h : (if c then a else none) = some r) : c ∧ a = some r := by
  by_cases hc : c
  · rw [if_pos hc] at h; exact ⟨hc, h⟩
  · rw [if_neg hc] at h; cases h
theorem xs_b {α β : Type} {o : Option α} {f : α → Option β} {r : β} (h : o.bind f = some r) : ∃ w, o = some w ∧ f w = some r := by
  cases o with
  | none => cases h
  | some w => exact ⟨w, rfl, h⟩
section XSR
variable {p : Program} {l : Launch} {e : Env} {R : Room} {s : State} {m : MethodId} {args : Array Value} {below : List Frame} {meth : Method} {c : Code} {H : Heap} {locs : List Loc} {cells slots : Nat} {Q : State → Prop}
variable {cc : ByteArray} {pc : Nat} {ls : Array Slot} {rest st0 : List Value} {D : va_G} {ad : Nat → Nat} {cs : xs_cs} {A : Nat → Prop} {H0 : Heap} {μ μ2 : xs_M} {as : List Value} {nL : Nat} {own : String}
theorem xs_iald (hx : p.tables.exec = Jvm.exec) (hb : c.code = cc) (G : xs_G D ad cs s A H0 μ H locs) {q L : Nat} (hq : xs_IA ad cs q L) {i : Int32} (hin : vp_in i L) (hdg : decode cc pc = .ok (.iaload, 1))
    (kk : W p l e R s m args below meth c H locs cells slots Q (F0 m (pc + 1) ls (.int (μ.1 q i.toNatClampNeg) :: rest))) : W p l e R s m args below meth c H locs cells slots Q (F0 m pc ls (.int i :: .ref (ad q) :: rest)) :=
  va_iald hx hb G.1 G.2.1 q 0 (by rw [xs_get _ _ _ hq.1, hq.2]; rfl) rfl hin hdg kk
theorem xs_lald (hx : p.tables.exec = Jvm.exec) (hb : c.code = cc) (G : xs_G D ad cs s A H0 μ H locs) {q L : Nat} (hq : xs_LA ad cs q L) {i : Int32} (hin : vp_in i L) (hdg : decode cc pc = .ok (.laload, 1))
    (kk : W p l e R s m args below meth c H locs cells slots Q (F0 m (pc + 1) ls (.long (μ.2 q i.toNatClampNeg) :: rest))) : W p l e R s m args below meth c H locs cells slots Q (F0 m pc ls (.int i :: .ref (ad q) :: rest)) :=
  va_lald hx hb G.1 G.2.1 q 1 (by rw [xs_get _ _ _ hq.1, hq.2]; rfl) rfl hin hdg kk
theorem xs_iast (hx : p.tables.exec = Jvm.exec) (hb : c.code = cc) (G : xs_G D ad cs s A H0 μ H locs) {q L : Nat} (hq : xs_IA ad cs q L) {i x : Int32} (hin : vp_in i L) (hdg : decode cc pc = .ok (.iastore, 1))
    (kk : ∀ (H1 : Heap) (locs1 : List Loc), xs_G D ad cs s A H0 (xs_si μ q i.toNatClampNeg x) H1 locs1 → W p l e R s m args below meth c H1 locs1 cells slots Q (F0 m (pc + 1) ls rest)) : W p l e R s m args below meth c H locs cells slots Q (F0 m pc ls (.int x :: .int i :: .ref (ad q) :: rest)) := by
  have hs : (xs_W ad cs μ).set q (ad q, .inl (cs.1, L, .inl (upd (μ.1 q) i.toNatClampNeg x))) = xs_W ad cs (xs_si μ q i.toNatClampNeg x) :=
    xs_set hq.1 (by rw [hq.2]; simp only [xs_si, va_up_self]; rfl) (fun j hj => ⟨va_up_ne _ _ hj, rfl⟩)
  refine va_iast hx hb G.1 G.2.1 (xs_GD G μ) G.2.2.2.1 q 0 (by rw [xs_get _ _ _ hq.1, hq.2]; rfl) rfl hin hdg (fun H1 l1 hP hD hS => kk H1 l1 ⟨G.1, ?_, G.2.2.1, hS, G.2.2.2.2⟩)
  rw [hs] at hP
  exact hP
theorem xs_last (hx : p.tables.exec = Jvm.exec) (hb : c.code = cc) (G : xs_G D ad cs s A H0 μ H locs) {q L : Nat} (hq : xs_LA ad cs q L) {i : Int32} {x : Int64} (hin : vp_in i L) (hdg : decode cc pc = .ok (.lastore, 1))
    (kk : ∀ (H1 : Heap) (locs1 : List Loc), xs_G D ad cs s A H0 (xs_sl μ q i.toNatClampNeg x) H1 locs1 → W p l e R s m args below meth c H1 locs1 cells slots Q (F0 m (pc + 1) ls rest)) : W p l e R s m args below meth c H locs cells slots Q (F0 m pc ls (.long x :: .int i :: .ref (ad q) :: rest)) := by
  have hs : (xs_W ad cs μ).set q (ad q, .inl (cs.2.1, L, .inr (.inl (vp_updL (μ.2 q) i.toNatClampNeg x)))) = xs_W ad cs (xs_sl μ q i.toNatClampNeg x) :=
    xs_set hq.1 (by rw [hq.2]; simp only [xs_sl, va_up_self]; rfl) (fun j hj => ⟨rfl, va_up_ne _ _ hj⟩)
  refine va_last hx hb G.1 G.2.1 (xs_GD G μ) G.2.2.2.1 q 1 (by rw [xs_get _ _ _ hq.1, hq.2]; rfl) rfl hin hdg (fun H1 l1 hP hD hS => kk H1 l1 ⟨G.1, ?_, G.2.2.1, hS, G.2.2.2.2⟩)
  rw [hs] at hP
  exact hP
/-- the triangles' array -/
theorem xs_aald (hx : p.tables.exec = Jvm.exec) (hb : c.code = cc) (G : xs_G D ad cs s A H0 μ H locs) {i : Int32} (hin : vp_in i 20) (hdg : decode cc pc = .ok (.aaload, 1))
    (kk : W p l e R s m args below meth c H locs cells slots Q (F0 m (pc + 1) ls (.ref (ad (14 + 7 * i.toNatClampNeg)) :: rest))) : W p l e R s m args below meth c H locs cells slots Q (F0 m pc ls (.int i :: .ref (ad 13) :: rest)) :=
  va_aldq (C := "ExactScene$Triangle") (n := 20) (cA := cs.2.2) (f := fun k => some (ad (14 + 7 * k))) hx hb G.1 G.2.1 13 2 (by rw [xs_get _ _ _ (by decide)]; rfl) rfl hin hdg kk
theorem xs_copy (X : xs_C p s m c cc nL args own) (hsz : ls.size = nL) {idx : Nat} (w1 : Cond.methodLink own idx arraycopyName ∈ xs_TG) (w2 : Cond.native arraycopyName ∈ xs_TG) (w3 : Cond.static arraycopyName ∈ xs_TG) (w4 : Cond.initialized "java/lang/System" ∈ xs_TG) (G : xs_G D ad cs s A H0 μ H locs)
    {q0 q1 n0 n1 : Nat} (h0 : xs_IA ad cs q0 n0) (h1 : xs_IA ad cs q1 n1) {sp dp n : Int32} (hb : ¬ sp < 0 ∧ ¬ dp < 0 ∧ ¬ n < 0 ∧ sp.toNatClampNeg + n.toNatClampNeg ≤ n0 ∧ dp.toNatClampNeg + n.toNatClampNeg ≤ n1) (hR : 1 ≤ R.frames ∧ 26 ≤ R.locals) (hcat : (rest.map fun v => v.category).sum ≤ 8) (hdg : decode cc pc = .ok (.invokestatic idx, 3))
    (kk : ∀ (H1 : Heap) (locs1 : List Loc), xs_G D ad cs s A H0 (xs_sa μ q1 (va_cpy (μ.1 q0) (μ.1 q1) sp.toNatClampNeg dp.toNatClampNeg n.toNatClampNeg)) H1 locs1 → W p l e R s m args below meth c H1 locs1 cells slots Q (F0 m (pc + 3) ls rest)) : W p l e R s m args below meth c H locs cells slots Q (F0 m pc ls (.int n :: .int dp :: .ref (ad q1) :: .int sp :: .ref (ad q0) :: rest)) := by
  have hts := X.2.2.2.2.1
  have hs : (xs_W ad cs μ).set q1 (ad q1, .inl (cs.1, n1, .inl (va_cpy (μ.1 q0) (μ.1 q1) sp.toNatClampNeg dp.toNatClampNeg n.toNatClampNeg))) = xs_W ad cs (xs_sa μ q1 (va_cpy (μ.1 q0) (μ.1 q1) sp.toNatClampNeg dp.toNatClampNeg n.toNatClampNeg)) :=
    xs_set h1.1 (by rw [h1.2]; simp only [xs_sa, va_up_self]; rfl) (fun j hj => ⟨va_up_ne _ _ hj, rfl⟩)
  have hw : nativeFrameWords "java/lang/System" "arraycopy" 5 = 7 := by decide
  refine va_copyi X.1 X.2.1 (by rw [hsz]; exact X.2.2.1) X.2.2.2.1 (hts _ w1) (hts _ w2) (hts _ w3) (hts _ w4) G.1 G.2.1 (xs_GD G μ) G.2.2.2.1 q0 q1 0 0 (c0 := cs.1) (c1 := cs.1) (n0 := n0) (n1 := n1) (f := μ.1 q0) (g := μ.1 q1) (by rw [xs_get _ _ _ h0.1, h0.2]; rfl) (by rw [xs_get _ _ _ h1.1, h1.2]; rfl) rfl rfl rfl hb.1 hb.2.1 hb.2.2.1 hb.2.2.2.1 hb.2.2.2.2 (fun i _ => rfl) hR.1 (by rw [hw]; omega) hdg (fun H1 l1 hP hD hS => kk H1 l1 ⟨G.1, ?_, G.2.2.1, hS, G.2.2.2.2⟩)
  rw [hs] at hP
  exact hP
theorem xs_iret (hx : p.tables.exec = Jvm.exec) (hb : c.code = cc) (hr : meth.sig.returnType = some .int) (hlk : meth.locks = false) (G : xs_G D ad cs s (xs_A ad s.heap.size) s.heap μ2 H locs) {v : Int32} (hdg : decode cc pc = .ok (.ireturn, 1)) : W p l e R s m as.toArray below meth c H locs 0 0 (xs_E below D ad cs as s (some (.int v)) μ2) (F0 m pc ls [.int v]) :=
  W.iret hx hb hr (fun t ht hW => ⟨rfl, by rw [ht]; exact G.2.1, G.2.2.2.1.F ht⟩) G.2.2.2.1.2.2 hdg hlk
theorem xs_zret (hx : p.tables.exec = Jvm.exec) (hb : c.code = cc) (hr : meth.sig.returnType = some .boolean) (hlk : meth.locks = false) (G : xs_G D ad cs s (xs_A ad s.heap.size) s.heap μ2 H locs) {v : Int32} (hz : v = 0 ∨ v = 1) (hdg : decode cc pc = .ok (.ireturn, 1)) : W p l e R s m as.toArray below meth c H locs 0 0 (xs_E below D ad cs as s (some (.int v)) μ2) (F0 m pc ls [.int v]) :=
  W.zret hx hb hr (by rcases hz with rfl | rfl <;> rfl) (fun t ht hW => ⟨rfl, by rw [ht]; exact G.2.1, G.2.2.2.1.F ht⟩) G.2.2.2.1.2.2 hdg hlk
theorem xs_lret (hx : p.tables.exec = Jvm.exec) (hb : c.code = cc) (hr : meth.sig.returnType = some .long) (hlk : meth.locks = false) (G : xs_G D ad cs s (xs_A ad s.heap.size) s.heap μ2 H locs) {v : Int64} (hdg : decode cc pc = .ok (.lreturn, 1)) : W p l e R s m as.toArray below meth c H locs 0 0 (xs_E below D ad cs as s (some (.long v)) μ2) (F0 m pc ls [.long v]) :=
  W.lret hx hb hr (fun t ht hW => ⟨rfl, by rw [ht]; exact G.2.1, G.2.2.2.1.F ht⟩) G.2.2.2.1.2.2 hdg hlk
theorem xs_vret (hx : p.tables.exec = Jvm.exec) (hb : c.code = cc) (hr : meth.sig.returnType = none) (hlk : meth.locks = false) (G : xs_G D ad cs s (xs_A ad s.heap.size) s.heap μ2 H locs) (hdg : decode cc pc = .ok (.return_, 1)) : W p l e R s m as.toArray below meth c H locs 0 0 (xs_E below D ad cs as s none μ2) (F0 m pc ls []) :=
  W.vret hx hb hr (fun t ht hW => ⟨rfl, by rw [ht]; exact G.2.1, G.2.2.2.1.F ht⟩) G.2.2.2.1.2.2 hdg hlk
/-! calls -/
def xs_kS (own : String) (idx : Nat) (y : MethodName) (bc : ByteArray) (mL : Nat) (rt : Option FieldType) (n : Nat) : Prop := Cond.methodLink own idx y ∈ xs_TG ∧ Cond.static y ∈ xs_TG ∧ Cond.initialized y.cls ∈ xs_TG ∧ Cond.code y bc mL rt ∈ xs_TG ∧ (y.cls ≠ "java/lang/invoke/MethodHandle" ∧ y.cls ≠ "java/lang/invoke/VarHandle" ∧ (parseMethodDescriptor y.desc).map (fun d => d.parameters.length) = some n)
def xs_kSN (own : String) (idx : Nat) (y : MethodName) (host : String) (bc : ByteArray) (mL : Nat) (rt : Option FieldType) (n : Nat) : Prop := Cond.methodLinkNest own idx y host ∈ xs_NW ∧ Cond.static y ∈ xs_TG ∧ Cond.initialized y.cls ∈ xs_TG ∧ Cond.code y bc mL rt ∈ xs_TG ∧ (y.cls ≠ "java/lang/invoke/MethodHandle" ∧ y.cls ≠ "java/lang/invoke/VarHandle" ∧ (parseMethodDescriptor y.desc).map (fun d => d.parameters.length) = some n)
def xs_kV (own : String) (idx : Nat) (y : MethodName) (bc : ByteArray) (mL : Nat) (rt : Option FieldType) (n : Nat) : Prop := Cond.methodLink own idx y ∈ xs_TG ∧ (Cond.instanceMethod y ∈ xs_TG ∧ Cond.selects y.cls y y ∈ xs_TG) ∧ Cond.initialized y.cls ∈ xs_TG ∧ Cond.code y bc mL rt ∈ xs_TG ∧ (y.cls ≠ "java/lang/invoke/MethodHandle" ∧ y.cls ≠ "java/lang/invoke/VarHandle" ∧ (parseMethodDescriptor y.desc).map (fun d => d.parameters.length) = some n)
def xs_kVN (own : String) (idx : Nat) (y : MethodName) (host : String) (bc : ByteArray) (mL : Nat) (rt : Option FieldType) (n : Nat) : Prop := Cond.methodLinkNest own idx y host ∈ xs_NW ∧ (Cond.instanceMethod y ∈ xs_TG ∧ Cond.selects y.cls y y ∈ xs_TG) ∧ Cond.initialized y.cls ∈ xs_TG ∧ Cond.code y bc mL rt ∈ xs_TG ∧ (y.cls ≠ "java/lang/invoke/MethodHandle" ∧ y.cls ≠ "java/lang/invoke/VarHandle" ∧ (parseMethodDescriptor y.desc).map (fun d => d.parameters.length) = some n)
theorem xs_blind {sz : Nat} : FrameBlind (va_Pc as (xs_Pre D ad cs μ sz)) := fun a U g mk q => by
  obtain ⟨q0, q1, qP, qK, qN⟩ := q
  exact ⟨q0, q1, qP, va_K.moved (u := U) (U := U.calling g mk a) (Vm.Alike.refl U.vm) qK, xs_nwarm (s := U) (U := U.calling g mk a) (State.WarmedH.refl U) qN⟩
theorem xs_pre (X : xs_C p s m c cc nL args own) (G : xs_G D ad cs s A H0 μ H locs) : PreS s H (va_Pc as (xs_Pre D ad cs μ H.size)) as :=
  ⟨xs_blind, fun U hU hW => ⟨rfl, by rw [hU], by rw [hU]; exact G.2.1, va_K.moved hW.alike G.1, xs_nwarm hW X.2.2.2.2.2⟩⟩
theorem xs_after {r : Option Value} {aa : Array Value} (hr : va_Run p l e R s m args below meth c H locs cells slots 0 0 (F0 m pc ls st0) rest (xs_Q D ad cs r μ2 H.size aa) (xs_A ad H.size)) (G : xs_G D ad cs s A H0 μ H locs)
    (kk : ∀ (H1 : Heap) (locs1 : List Loc), xs_G D ad cs s A H0 μ2 H1 locs1 → W p l e R s m args below meth c H1 locs1 cells slots Q (F0 m (pc + 3) ls (r.toList ++ rest))) : W p l e R s m args below meth c H locs cells slots Q (F0 m pc ls st0) := by
  intro T hT X
  obtain ⟨v, st₀, t, T', L, h0, X', hL, e1, e2, ⟨hv, hP, hz, hk⟩, st⟩ := hr T hT X
  cases hv
  rw [h0] at hz hk
  obtain ⟨hK, -, ⟨hJ, hAd⟩, hS, hA⟩ := G
  have hfree : ∀ q, xs_A ad H.size q → A q := fun q h => by
    rcases h with ⟨i, hi, rfl⟩ | h
    · exact hAd i hi
    · exact hA q (Nat.le_trans hS.1 h)
  obtain ⟨t2, a1, b1⟩ := kk T'.heap (locs ++ L) ⟨hK, by rw [e1]; exact hP, ⟨hJ, hAd⟩, ⟨Nat.le_trans hS.1 (by rw [e1]; exact hz), fun q h1 h2 => by rw [e1, hk q (Nat.lt_of_lt_of_le h1 hS.1) (fun z => h2 (hfree q z))]; exact hS.2.1 q h1 h2, fun q hq => by
      rcases List.mem_append.mp hq with h | h
      · exact hS.2.2 q h
      · exact hfree _ (hL q h)⟩, hA⟩ T' rfl X'
  exact ⟨t2, st t2 a1, b1⟩
theorem xs_callS {y : MethodName} {bc : ByteArray} {mL d w n idx : Nat} {rt : Option FieldType} {r : Option Value} (X : xs_C p s m c cc nL args own) (hM : xs_I l D ad cs y bc mL rt d w as μ r μ2) (hk : xs_kS own idx y bc mL rt n) (G : xs_G D ad cs s A H0 μ H locs) (hR : d + 1 ≤ R.frames ∧ 8 + (mL + 11) + w ≤ R.locals) (hc : cells ≤ R.cells ∧ slots ≤ R.slots) (hn : as.length = n) (hsz : ls.size = nL) (hst : st0 = as.reverse ++ rest) (hcat : (rest.map fun v => v.category).sum ≤ 8) (hdg : decode cc pc = .ok (.invokestatic idx, 3))
    (kk : ∀ (H1 : Heap) (locs1 : List Loc), xs_G D ad cs s A H0 μ2 H1 locs1 → W p l e R s m args below meth c H1 locs1 cells slots Q (F0 m (pc + 3) ls (r.toList ++ rest))) : W p l e R s m args below meth c H locs cells slots Q (F0 m pc ls st0) := by
  obtain ⟨w1, w2, w3, w4, hd⟩ := hk
  have hts := X.2.2.2.2.1
  exact xs_after (va_runS (nL := nL) (n := n) (As := as) (rest := rest) (g := F0 m pc ls st0) ⟨X.1, X.2.1, X.2.2.1, X.2.2.2.1, hts⟩ (hM H.size) ⟨callB_of n hts (xs_good w4) rfl rfl rfl (hts _ w3) (hts _ w1) hd hR, hts _ w2⟩ (xs_pre X G) rfl hn hsz hst (lv_room hcat) hdg hc) G kk
theorem xs_callSN {y : MethodName} {host : String} {bc : ByteArray} {mL d w n idx : Nat} {rt : Option FieldType} {r : Option Value} (X : xs_C p s m c cc nL args own) (hM : xs_I l D ad cs y bc mL rt d w as μ r μ2) (hk : xs_kSN own idx y host bc mL rt n) (G : xs_G D ad cs s A H0 μ H locs) (hR : d + 1 ≤ R.frames ∧ 8 + (mL + 11) + w ≤ R.locals) (hc : cells ≤ R.cells ∧ slots ≤ R.slots) (hn : as.length = n) (hsz : ls.size = nL) (hst : st0 = as.reverse ++ rest) (hcat : (rest.map fun v => v.category).sum ≤ 8) (hdg : decode cc pc = .ok (.invokestatic idx, 3))
    (kk : ∀ (H1 : Heap) (locs1 : List Loc), xs_G D ad cs s A H0 μ2 H1 locs1 → W p l e R s m args below meth c H1 locs1 cells slots Q (F0 m (pc + 3) ls (r.toList ++ rest))) : W p l e R s m args below meth c H locs cells slots Q (F0 m pc ls st0) := by
  obtain ⟨w1, w2, w3, w4, hd⟩ := hk
  have hts := X.2.2.2.2.1
  exact xs_after (va_runSN (nL := nL) (n := n) (As := as) (rest := rest) (g := F0 m pc ls st0) ⟨X.1, X.2.1, X.2.2.1, X.2.2.2.1, hts⟩ (hM H.size) ⟨va_cnB n hts (xs_good w4) rfl rfl rfl (X.2.2.2.2.2 _ w1) (hts _ w3) hd hR, hts _ w2, trivial⟩ (xs_pre X G) rfl hn hsz hst (lv_room hcat) hdg hc) G kk
theorem xs_preV {q ci : Nat} {fs : List Value} {C : String} {T : u_T} {N : Nat} (X : xs_C p s m c cc nL args own) (G : xs_G D ad cs s A H0 μ H locs) (hq : (xs_W ad cs μ)[q]? = some (ad q, .inr (ci, fs))) (hci : classes[ci]? = some (C, T, N)) : PreV s H C (ad q) (va_Pc (.ref (ad q) :: as) (xs_Pre D ad cs μ H.size)) as :=
  ⟨xs_blind, va_recv G.1 G.2.1 hci hq, (xs_pre X G).2⟩
theorem xs_callV {y : MethodName} {bc : ByteArray} {mL d w n idx q ci N : Nat} {fs : List Value} {T : u_T} {rt : Option FieldType} {r : Option Value} (X : xs_C p s m c cc nL args own) (hM : xs_I l D ad cs y bc mL rt d w (.ref (ad q) :: as) μ r μ2) (hk : xs_kV own idx y bc mL rt n) (G : xs_G D ad cs s A H0 μ H locs) (hq : (xs_W ad cs μ)[q]? = some (ad q, .inr (ci, fs))) (hci : classes[ci]? = some (y.cls, T, N)) (hR : d + 1 ≤ R.frames ∧ 8 + (mL + 11) + w ≤ R.locals) (hc : cells ≤ R.cells ∧ slots ≤ R.slots) (hn : as.length = n) (hsz : ls.size = nL) (hst : st0 = as.reverse ++ .ref (ad q) :: rest) (hcat : (rest.map fun v => v.category).sum ≤ 8) (hdg : decode cc pc = .ok (.invokevirtual idx, 3))
    (kk : ∀ (H1 : Heap) (locs1 : List Loc), xs_G D ad cs s A H0 μ2 H1 locs1 → W p l e R s m args below meth c H1 locs1 cells slots Q (F0 m (pc + 3) ls (r.toList ++ rest))) : W p l e R s m args below meth c H locs cells slots Q (F0 m pc ls st0) := by
  obtain ⟨w1, ⟨w2, w5⟩, w3, w4, hd⟩ := hk
  have hts := X.2.2.2.2.1
  exact xs_after (va_runV (nL := nL) (n := n) (C := y.cls) (As := as) (rest := rest) (g := F0 m pc ls st0) ⟨X.1, X.2.1, X.2.2.1, X.2.2.2.1, hts⟩ (hM H.size) ⟨callB_of n hts (xs_good w4) rfl rfl rfl (hts _ w3) (hts _ w1) hd hR, hts _ w2, hts _ w5⟩ (xs_preV X G hq hci) rfl hn hsz hst (lv_room hcat) hdg hc) G kk
theorem xs_callVN {y : MethodName} {host : String} {bc : ByteArray} {mL d w n idx q ci N : Nat} {fs : List Value} {T : u_T} {rt : Option FieldType} {r : Option Value} (X : xs_C p s m c cc nL args own) (hM : xs_I l D ad cs y bc mL rt d w (.ref (ad q) :: as) μ r μ2) (hk : xs_kVN own idx y host bc mL rt n) (G : xs_G D ad cs s A H0 μ H locs) (hq : (xs_W ad cs μ)[q]? = some (ad q, .inr (ci, fs))) (hci : classes[ci]? = some (y.cls, T, N)) (hR : d + 1 ≤ R.frames ∧ 8 + (mL + 11) + w ≤ R.locals) (hc : cells ≤ R.cells ∧ slots ≤ R.slots) (hn : as.length = n) (hsz : ls.size = nL) (hst : st0 = as.reverse ++ .ref (ad q) :: rest) (hcat : (rest.map fun v => v.category).sum ≤ 8) (hdg : decode cc pc = .ok (.invokevirtual idx, 3))
    (kk : ∀ (H1 : Heap) (locs1 : List Loc), xs_G D ad cs s A H0 μ2 H1 locs1 → W p l e R s m args below meth c H1 locs1 cells slots Q (F0 m (pc + 3) ls (r.toList ++ rest))) : W p l e R s m args below meth c H locs cells slots Q (F0 m pc ls st0) := by
  obtain ⟨w1, ⟨w2, w5⟩, w3, w4, hd⟩ := hk
  have hts := X.2.2.2.2.1
  exact xs_after (va_runVN (nL := nL) (n := n) (C := y.cls) (As := as) (rest := rest) (g := F0 m pc ls st0) ⟨X.1, X.2.1, X.2.2.1, X.2.2.2.1, hts⟩ (hM H.size) ⟨va_cnB n hts (xs_good w4) rfl rfl rfl (X.2.2.2.2.2 _ w1) (hts _ w3) hd hR, hts _ w2, hts _ w5⟩ (xs_preV X G hq hci) rfl hn hsz hst (lv_room hcat) hdg hc) G kk
end XSR
/-! small rows that the walks use -/
def xs_in (i : Int32) (L : Nat) : Bool := !(decide (i < 0) || decide (L ≤ i.toNatClampNeg))
theorem xs_inP {i : Int32} {L : Nat} (h : xs_in i L = true) : vp_in i L := by
  unfold xs_in at h
  unfold vp_in
  simpa using h
theorem xs_inL {i : Int32} {L : Nat} (h : xs_in i L = true) : i.toNatClampNeg < L := Nat.not_le.mp fun q => xs_inP h (Or.inr q)
theorem xs_inc (x : Int32) : x + Int32.ofInt 1 = x + 1 := by rw [show Int32.ofInt 1 = 1 by decide]
theorem xs_el {α β γ : Type} {f : α → γ} {g : β → γ} {z : α ⊕ β} {r : γ} {a : α} (h : Sum.elim f g z = r) (e : z = .inl a) : f a = r := by rw [e] at h; exact h
theorem xs_er {α β γ : Type} {f : α → γ} {g : β → γ} {z : α ⊕ β} {r : γ} {b : β} (h : Sum.elim f g z = r) (e : z = .inr b) : g b = r := by rw [e] at h; exact h
def xs_FU : Nat := 1000
def xs_FUB : Nat := 18446744073709551616
theorem xs_mv {D : va_G} {ad : Nat → Nat} {cs : xs_cs} {s : State} {A : Nat → Prop} {H0 : Heap} {μ μ1 : xs_M} {H : Heap} {locs : List Loc} (G : xs_G D ad cs s A H0 μ H locs) (h : some μ = some μ1) : xs_G D ad cs s A H0 μ1 H locs := by cases h; exact G
theorem xs_fi {μ μ1 : xs_M} {i j : Nat} {x : Int32} (h : some (xs_si μ i j x) = some μ1) : μ1.1 i j = x := by
  cases h
  simp [xs_si, va_up, upd]
section XSN
variable {p : Program} {l : Launch} {e : Env} {R : Room} {s : State} {m : MethodId} {args : Array Value} {below : List Frame} {meth : Method} {c : Code} {H : Heap} {locs : List Loc} {cells slots : Nat} {Q : State → Prop}
variable {cc : ByteArray} {pc : Nat} {ls : Array Slot} {rest st0 : List Value} {D : va_G} {ad : Nat → Nat} {cs : xs_cs} {A : Nat → Prop} {H0 : Heap} {μ μ2 : xs_M} {as : List Value} {nL : Nat} {own : String}
theorem xs_ti {x y : Int32} (h : some x = some y) (k : W p l e R s m args below meth c H locs cells slots Q (F0 m pc ls (.int y :: rest))) : W p l e R s m args below meth c H locs cells slots Q (F0 m pc ls (.int x :: rest)) := by cases h; exact k
theorem xs_tl {x y : Int64} (h : some x = some y) (k : W p l e R s m args below meth c H locs cells slots Q (F0 m pc ls (.long y :: rest))) : W p l e R s m args below meth c H locs cells slots Q (F0 m pc ls (.long x :: rest)) := by cases h; exact k
theorem xs_tq {x y : Int32} (h : x = y) (k : W p l e R s m args below meth c H locs cells slots Q (F0 m pc ls (.int y :: rest))) : W p l e R s m args below meth c H locs cells slots Q (F0 m pc ls (.int x :: rest)) := by cases h; exact k
/-! fields -/
theorem xs_get1 {C : String} {T : u_T} {N ci q k idx : Nat} {fs : List Value} {v : Value} (X : xs_C p s m c cc nL args own) (G : xs_G D ad cs s A H0 μ H locs) (hin : ∀ w ∈ u_ws C T N, w ∈ xs_TG) (hq : (xs_W ad cs μ)[q]? = some (ad q, .inr (ci, fs))) (hci : classes[ci]? = some (C, T, N)) (hk : k < N) (w : Cond.fieldLink own idx (T k).1 (T k).2.1 (T k).2.2.1 ∈ xs_TG) (hv : fs[k]? = some v) (hdg : decode cc pc = .ok (.getfield idx, 3))
    (kk : W p l e R s m args below meth c H locs cells slots Q (F0 m (pc + 3) ls (v :: rest))) : W p l e R s m args below meth c H locs cells slots Q (F0 m pc ls (.ref (ad q) :: rest)) :=
  va_get (D := D) (ci := ci) (C := C) (T := T) (N := N) (ref := (T k).1) X.1 X.2.1 X.2.2.2.2.1 hin X.2.2.2.1 G.1 G.2.1 q hq hci k hk (X.2.2.2.2.1 _ w) (fun _ h => h) hv hdg kk
theorem xs_get1N {host C : String} {T : u_T} {N ci q k idx : Nat} {fs : List Value} {v : Value} (X : xs_C p s m c cc nL args own) (G : xs_G D ad cs s A H0 μ H locs) (hin : ∀ w ∈ u_ws C T N, w ∈ xs_TG) (hq : (xs_W ad cs μ)[q]? = some (ad q, .inr (ci, fs))) (hci : classes[ci]? = some (C, T, N)) (hk : k < N) (w : Cond.fieldLinkNest own idx (T k).1 (T k).2.1 (T k).2.2.1 host ∈ xs_NW) (hv : fs[k]? = some v) (hdg : decode cc pc = .ok (.getfield idx, 3))
    (kk : W p l e R s m args below meth c H locs cells slots Q (F0 m (pc + 3) ls (v :: rest))) : W p l e R s m args below meth c H locs cells slots Q (F0 m pc ls (.ref (ad q) :: rest)) :=
  va_getN (D := D) (ci := ci) (C := C) (T := T) (N := N) (ref := (T k).1) (host := host) X.1 X.2.1 X.2.2.2.2.1 hin X.2.2.2.1 G.1 G.2.1 q hq hci k hk (va_Nw.use rfl (X.2.2.2.2.2 _ w)) (fun _ h => h) hv hdg kk
theorem xs_put1 {C : String} {T : u_T} {N ci q k idx : Nat} {fs : List Value} {v : Value} {ty0 : Nat → FieldType} {ty : FieldType} (X : xs_C p s m c cc nL args own) (G : xs_G D ad cs s A H0 μ H locs) (hin : ∀ w ∈ u_ws C T N, w ∈ xs_TG) (hty : ∀ k, k < N → parseFieldDescriptor (T k).2.2.1 = some (ty0 k)) (hnm : ∀ a, a < N → ∀ b, b < N → a ≠ b → (T a).2.1 ≠ (T b).2.1) (hq : (xs_W ad cs μ)[q]? = some (ad q, .inr (ci, fs))) (hci : classes[ci]? = some (C, T, N)) (hk : k < N) (w : Cond.fieldLink own idx (T k).1 (T k).2.1 (T k).2.2.1 ∈ xs_TG) (hfin : (T k).2.2.2 = false) (hd : parseFieldDescriptor (T k).2.2.1 = some ty) (hn : narrow ty v = v) (hfit : fits ty v = true) (hl : k < fs.length) (hs : (xs_W ad cs μ).set q (ad q, .inr (ci, fs.set k v)) = xs_W ad cs μ2) (hdg : decode cc pc = .ok (.putfield idx, 3))
    (kk : ∀ (H1 : Heap) (locs1 : List Loc), xs_G D ad cs s A H0 μ2 H1 locs1 → W p l e R s m args below meth c H1 locs1 cells slots Q (F0 m (pc + 3) ls rest)) : W p l e R s m args below meth c H locs cells slots Q (F0 m pc ls (v :: .ref (ad q) :: rest)) := by
  refine va_put (D := D) (ci := ci) (C := C) (T := T) (N := N) (ref := (T k).1) X.1 X.2.1 X.2.2.2.2.1 hin ty0 hty hnm X.2.2.2.1 G.1 G.2.1 (xs_GD G μ) G.2.2.2.1 q hq hci k hk (X.2.2.2.2.1 _ w) (fun _ h => h) hfin hd hn hfit hl hdg (fun H1 l1 hP hD hS => kk H1 l1 ⟨G.1, ?_, G.2.2.1, hS, G.2.2.2.2⟩)
  rw [hs] at hP
  exact hP
/-! calls whose answer is a value, or none -/
theorem xs_callSr {y : MethodName} {bc : ByteArray} {mL d w n idx : Nat} {rt : Option FieldType} {r : Value} (X : xs_C p s m c cc nL args own) (hM : xs_I l D ad cs y bc mL rt d w as μ (some r) μ2) (hk : xs_kS own idx y bc mL rt n) (G : xs_G D ad cs s A H0 μ H locs) (hR : d + 1 ≤ R.frames ∧ 8 + (mL + 11) + w ≤ R.locals) (hc : cells ≤ R.cells ∧ slots ≤ R.slots) (hn : as.length = n) (hsz : ls.size = nL) (hst : st0 = as.reverse ++ rest) (hcat : (rest.map fun v => v.category).sum ≤ 8) (hdg : decode cc pc = .ok (.invokestatic idx, 3))
    (kk : ∀ (H1 : Heap) (locs1 : List Loc), xs_G D ad cs s A H0 μ2 H1 locs1 → W p l e R s m args below meth c H1 locs1 cells slots Q (F0 m (pc + 3) ls (r :: rest))) : W p l e R s m args below meth c H locs cells slots Q (F0 m pc ls st0) := xs_callS X hM hk G hR hc hn hsz hst hcat hdg kk
theorem xs_callSNr {y : MethodName} {host : String} {bc : ByteArray} {mL d w n idx : Nat} {rt : Option FieldType} {r : Value} (X : xs_C p s m c cc nL args own) (hM : xs_I l D ad cs y bc mL rt d w as μ (some r) μ2) (hk : xs_kSN own idx y host bc mL rt n) (G : xs_G D ad cs s A H0 μ H locs) (hR : d + 1 ≤ R.frames ∧ 8 + (mL + 11) + w ≤ R.locals) (hc : cells ≤ R.cells ∧ slots ≤ R.slots) (hn : as.length = n) (hsz : ls.size = nL) (hst : st0 = as.reverse ++ rest) (hcat : (rest.map fun v => v.category).sum ≤ 8) (hdg : decode cc pc = .ok (.invokestatic idx, 3))
    (kk : ∀ (H1 : Heap) (locs1 : List Loc), xs_G D ad cs s A H0 μ2 H1 locs1 → W p l e R s m args below meth c H1 locs1 cells slots Q (F0 m (pc + 3) ls (r :: rest))) : W p l e R s m args below meth c H locs cells slots Q (F0 m pc ls st0) := xs_callSN X hM hk G hR hc hn hsz hst hcat hdg kk
theorem xs_callVr {y : MethodName} {bc : ByteArray} {mL d w n idx q ci N : Nat} {fs : List Value} {T : u_T} {rt : Option FieldType} {r : Value} (X : xs_C p s m c cc nL args own) (hM : xs_I l D ad cs y bc mL rt d w (.ref (ad q) :: as) μ (some r) μ2) (hk : xs_kV own idx y bc mL rt n) (G : xs_G D ad cs s A H0 μ H locs) (hq : (xs_W ad cs μ)[q]? = some (ad q, .inr (ci, fs))) (hci : classes[ci]? = some (y.cls, T, N)) (hR : d + 1 ≤ R.frames ∧ 8 + (mL + 11) + w ≤ R.locals) (hc : cells ≤ R.cells ∧ slots ≤ R.slots) (hn : as.length = n) (hsz : ls.size = nL) (hst : st0 = as.reverse ++ .ref (ad q) :: rest) (hcat : (rest.map fun v => v.category).sum ≤ 8) (hdg : decode cc pc = .ok (.invokevirtual idx, 3))
    (kk : ∀ (H1 : Heap) (locs1 : List Loc), xs_G D ad cs s A H0 μ2 H1 locs1 → W p l e R s m args below meth c H1 locs1 cells slots Q (F0 m (pc + 3) ls (r :: rest))) : W p l e R s m args below meth c H locs cells slots Q (F0 m pc ls st0) := xs_callV X hM hk G hq hci hR hc hn hsz hst hcat hdg kk
theorem xs_callVNr {y : MethodName} {host : String} {bc : ByteArray} {mL d w n idx q ci N : Nat} {fs : List Value} {T : u_T} {rt : Option FieldType} {r : Value} (X : xs_C p s m c cc nL args own) (hM : xs_I l D ad cs y bc mL rt d w (.ref (ad q) :: as) μ (some r) μ2) (hk : xs_kVN own idx y host bc mL rt n) (G : xs_G D ad cs s A H0 μ H locs) (hq : (xs_W ad cs μ)[q]? = some (ad q, .inr (ci, fs))) (hci : classes[ci]? = some (y.cls, T, N)) (hR : d + 1 ≤ R.frames ∧ 8 + (mL + 11) + w ≤ R.locals) (hc : cells ≤ R.cells ∧ slots ≤ R.slots) (hn : as.length = n) (hsz : ls.size = nL) (hst : st0 = as.reverse ++ .ref (ad q) :: rest) (hcat : (rest.map fun v => v.category).sum ≤ 8) (hdg : decode cc pc = .ok (.invokevirtual idx, 3))
    (kk : ∀ (H1 : Heap) (locs1 : List Loc), xs_G D ad cs s A H0 μ2 H1 locs1 → W p l e R s m args below meth c H1 locs1 cells slots Q (F0 m (pc + 3) ls (r :: rest))) : W p l e R s m args below meth c H locs cells slots Q (F0 m pc ls st0) := xs_callVN X hM hk G hq hci hR hc hn hsz hst hcat hdg kk
theorem xs_callVv {y : MethodName} {bc : ByteArray} {mL d w n idx q ci N : Nat} {fs : List Value} {T : u_T} {rt : Option FieldType} (X : xs_C p s m c cc nL args own) (hM : xs_I l D ad cs y bc mL rt d w (.ref (ad q) :: as) μ none μ2) (hk : xs_kV own idx y bc mL rt n) (G : xs_G D ad cs s A H0 μ H locs) (hq : (xs_W ad cs μ)[q]? = some (ad q, .inr (ci, fs))) (hci : classes[ci]? = some (y.cls, T, N)) (hR : d + 1 ≤ R.frames ∧ 8 + (mL + 11) + w ≤ R.locals) (hc : cells ≤ R.cells ∧ slots ≤ R.slots) (hn : as.length = n) (hsz : ls.size = nL) (hst : st0 = as.reverse ++ .ref (ad q) :: rest) (hcat : (rest.map fun v => v.category).sum ≤ 8) (hdg : decode cc pc = .ok (.invokevirtual idx, 3))
    (kk : ∀ (H1 : Heap) (locs1 : List Loc), xs_G D ad cs s A H0 μ2 H1 locs1 → W p l e R s m args below meth c H1 locs1 cells slots Q (F0 m (pc + 3) ls rest)) : W p l e R s m args below meth c H locs cells slots Q (F0 m pc ls st0) := xs_callV X hM hk G hq hci hR hc hn hsz hst hcat hdg kk
theorem xs_callVNv {y : MethodName} {host : String} {bc : ByteArray} {mL d w n idx q ci N : Nat} {fs : List Value} {T : u_T} {rt : Option FieldType} (X : xs_C p s m c cc nL args own) (hM : xs_I l D ad cs y bc mL rt d w (.ref (ad q) :: as) μ none μ2) (hk : xs_kVN own idx y host bc mL rt n) (G : xs_G D ad cs s A H0 μ H locs) (hq : (xs_W ad cs μ)[q]? = some (ad q, .inr (ci, fs))) (hci : classes[ci]? = some (y.cls, T, N)) (hR : d + 1 ≤ R.frames ∧ 8 + (mL + 11) + w ≤ R.locals) (hc : cells ≤ R.cells ∧ slots ≤ R.slots) (hn : as.length = n) (hsz : ls.size = nL) (hst : st0 = as.reverse ++ .ref (ad q) :: rest) (hcat : (rest.map fun v => v.category).sum ≤ 8) (hdg : decode cc pc = .ok (.invokevirtual idx, 3))
    (kk : ∀ (H1 : Heap) (locs1 : List Loc), xs_G D ad cs s A H0 μ2 H1 locs1 → W p l e R s m args below meth c H1 locs1 cells slots Q (F0 m (pc + 3) ls rest)) : W p l e R s m args below meth c H locs cells slots Q (F0 m pc ls st0) := xs_callVN X hM hk G hq hci hR hc hn hsz hst hcat hdg kk
end XSN
