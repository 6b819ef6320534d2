/-! My own layer: one abstract heap (kinds, contents, size; its cells lie from G.1 on), a judgement mp_W over it, a contract mp_M whose end may be a throw. -/
abbrev mp_H : Type := (Nat → Nat × Nat) × (Nat → Nat → Value) × Nat
/-- base address, heap below it, classes and slots, array classes, exception classes -/
abbrev mp_G : Type := Nat × Heap × va_G × (Nat → ClassId) × (Nat → ClassId)
abbrev mp_E : Type := Program × Launch × Env × Room × State × MethodId × Array Value × List Frame × Method × Code
abbrev mp_E.p (E : mp_E) : Program := E.1
abbrev mp_E.l (E : mp_E) : Launch := E.2.1
abbrev mp_E.e (E : mp_E) : Env := E.2.2.1
abbrev mp_E.R (E : mp_E) : Room := E.2.2.2.1
abbrev mp_E.s (E : mp_E) : State := E.2.2.2.2.1
abbrev mp_E.m (E : mp_E) : MethodId := E.2.2.2.2.2.1
abbrev mp_E.args (E : mp_E) : Array Value := E.2.2.2.2.2.2.1
abbrev mp_E.below (E : mp_E) : List Frame := E.2.2.2.2.2.2.2.1
abbrev mp_E.meth (E : mp_E) : Method := E.2.2.2.2.2.2.2.2.1
abbrev mp_E.c (E : mp_E) : Code := E.2.2.2.2.2.2.2.2.2
def mp_set (h : mp_H) (o i : Nat) (v : Value) : mp_H := (h.1, fun a j => if a = o ∧ j = i then v else h.2.1 a j, h.2.2)
def mp_new (h : mp_H) (k n : Nat) (f : Nat → Value) : mp_H := (fun a => if a = h.2.2 then (k, n) else h.1 a, fun a j => if a = h.2.2 then f j else h.2.1 a j, h.2.2 + 1)
theorem mp_set_kd (h : mp_H) (o i : Nat) (v : Value) : (mp_set h o i v).1 = h.1 := rfl
theorem mp_set_sz (h : mp_H) (o i : Nat) (v : Value) : (mp_set h o i v).2.2 = h.2.2 := rfl
theorem mp_set_at (h : mp_H) (o i : Nat) (v : Value) : (mp_set h o i v).2.1 o i = v := by simp [mp_set]
theorem mp_set_ne (h : mp_H) {o i : Nat} (v : Value) {a j : Nat} (hn : ¬ (a = o ∧ j = i)) : (mp_set h o i v).2.1 a j = h.2.1 a j := by simp [mp_set, hn]
/-- a cell of the heap is of a kind and holds f -/
def mp_cell (G : mp_G) (k : Nat × Nat) (f : Nat → Value) (o : Nat) (H : Heap) : Prop :=
  if k.1 < 10 then t_OB (G.1 + o) (G.2.2.1.1 k.1) k.2 (G.2.2.1.2 k.1) H f
  else if k.1 < 20 then H[G.1 + o]? = some (arrV (G.2.2.2.1 (k.1 - 10)) k.2 f)
  else ∃ cell : Cell, H[G.1 + o]? = some cell ∧ cell.cls = G.2.2.2.2 (k.1 - 20) ∧ cell.vm = .none
def mp_R (G : mp_G) (h : mp_H) (H : Heap) : Prop := G.1 + h.2.2 = H.size ∧ (∀ q, q < G.1 → H[q]? = G.2.1[q]?) ∧ ∀ o, o < h.2.2 → mp_cell G (h.1 o) (h.2.1 o) o H
theorem mp_cell.obj {G : mp_G} {k n : Nat} {f : Nat → Value} {o : Nat} {H : Heap} (h : mp_cell G (k, n) f o H) (hk : k < 10) : t_OB (G.1 + o) (G.2.2.1.1 k) n (G.2.2.1.2 k) H f := by
  unfold mp_cell at h
  rw [if_pos hk] at h
  exact h
theorem mp_cell.arr {G : mp_G} {t n : Nat} {f : Nat → Value} {o : Nat} {H : Heap} (h : mp_cell G (10 + t, n) f o H) (ht : t < 10) : H[G.1 + o]? = some (arrV (G.2.2.2.1 t) n f) := by
  unfold mp_cell at h
  rw [if_neg (by show ¬ 10 + t < 10; omega), if_pos (by show 10 + t < 20; omega)] at h
  rw [h]
  show some (arrV (G.2.2.2.1 (10 + t - 10)) n f) = _
  rw [show 10 + t - 10 = t by omega]
theorem mp_cell.kept {G : mp_G} {k : Nat × Nat} {f : Nat → Value} {o : Nat} {H H1 : Heap} (h : mp_cell G k f o H) (hq : H1[G.1 + o]? = H[G.1 + o]?) : mp_cell G k f o H1 := by
  unfold mp_cell at h ⊢
  split
  · rename_i h1
    rw [if_pos h1] at h
    exact h.kept hq
  · rename_i h1
    rw [if_neg h1] at h
    split
    · rename_i h2
      rw [if_pos h2] at h
      rw [hq]; exact h
    · rename_i h2
      rw [if_neg h2] at h
      obtain ⟨cell, e1, e2⟩ := h
      exact ⟨cell, by rw [hq]; exact e1, e2⟩
/-- a store into one cell -/
theorem mp_R.put {G : mp_G} {h : mp_H} {H H1 : Heap} {o i : Nat} {v : Value} (hR : mp_R G h H) (z : H1.size = H.size) (oq : ∀ q, q ≠ G.1 + o → H1[q]? = H[q]?) (hc : mp_cell G (h.1 o) (updV (h.2.1 o) i v) o H1) : mp_R G (mp_set h o i v) H1 := by
  obtain ⟨h1, h2, h3⟩ := hR
  refine ⟨by rw [z]; exact h1, fun q hq => by rw [oq q (by omega)]; exact h2 q hq, fun a ha => ?_⟩
  by_cases hao : a = o
  · subst hao
    have e : (mp_set h a i v).2.1 a = updV (h.2.1 a) i v := by
      funext j
      simp [mp_set, updV]
    rw [e]
    exact hc
  · have e : (mp_set h o i v).2.1 a = h.2.1 a := by
      funext j
      simp [mp_set, hao]
    rw [e]
    exact (h3 a ha).kept (oq _ (by omega))
/-- a new cell -/
theorem mp_R.push {G : mp_G} {h : mp_H} {H H1 : Heap} {k n : Nat} {f : Nat → Value} (hR : mp_R G h H) (z : H1.size = H.size + 1) (oq : ∀ q, q < H.size → H1[q]? = H[q]?) (hc : mp_cell G (k, n) f h.2.2 H1) : mp_R G (mp_new h k n f) H1 := by
  obtain ⟨h1, h2, h3⟩ := hR
  refine ⟨by rw [z, ← h1]; show G.1 + (h.2.2 + 1) = _; omega, fun q hq => by rw [oq q (by omega)]; exact h2 q hq, fun a ha => ?_⟩
  have ha' : a < h.2.2 + 1 := ha
  by_cases hao : a = h.2.2
  · have e1 : (mp_new h k n f).1 a = (k, n) := by simp [mp_new, hao]
    have e2 : (mp_new h k n f).2.1 a = f := by funext j; simp [mp_new, hao]
    rw [e1, e2, hao]
    exact hc
  · have e1 : (mp_new h k n f).1 a = h.1 a := by simp [mp_new, hao]
    have e2 : (mp_new h k n f).2.1 a = h.2.1 a := by funext j; simp [mp_new, hao]
    rw [e1, e2]
    exact (h3 a (by omega)).kept (oq _ (by omega))
/-- words that stay under warmer tables -/
def mp_okw : Cond → Bool
  | .arrayClass _ => true
  | .fieldLinkNest .. => true
  | .methodLinkNest .. => true
  | .declares _ => true
  | .castable .. => true
  | .arrayOver (.object _) => true
  | w => w.onTables && w.keeps
theorem mp_keep {w : Cond} (hk : mp_okw w = true) {args a' : Array Value} {s U : State} (hW : s.WarmedH U.vm) (h : w.before args s = true) : w.before a' U = true := by
  by_cases h1 : (w.onTables && w.keeps) = true
  · exact word_at hW (Or.inl h1) h
  · cases w with
    | arrayClass ty => exact word_at hW (Or.inr ⟨ty, rfl⟩) h
    | fieldLinkNest a i b n d h0 => exact va_Nw.use rfl (va_Nw.warmF hW (va_Nw.of rfl h))
    | methodLinkNest a i x h0 => exact va_Nw.use rfl (va_Nw.warmM hW (va_Nw.of rfl h))
    | declares x => exact va_Nw.use rfl (va_Nw.warmD hW (va_Nw.of rfl h))
    | castable C T => exact va_Nw.use rfl (va_Nw.warmC hW (va_Nw.of rfl h))
    | arrayOver ty =>
      cases ty with
      | object C => exact va_AO.use (va_AO.moved hW.alike (va_AO.of h))
      | _ => exact absurd hk h1
    | _ => exact absurd hk h1
def mp_rm (d mc ms : Nat) : Room := { frames := d, cells := mc, slots := ms, locals := 32 * d }
/-- the array types, by number -/
def mp_ty : Nat → FieldType
  | 0 => .int
  | 1 => .boolean
  | 2 => .char
  | 3 => .long
  | 4 => .object "MarkedPages$Page"
  | 5 => .object "MarkedPages$Operation"
  | 6 => .object "MarkedPages$Writing"
  | _ => .object "MarkedPages$Marking"
def mp_T (G : mp_G) : List (ClassId × FieldType) := [(G.2.2.2.1 0, mp_ty 0), (G.2.2.2.1 1, mp_ty 1), (G.2.2.2.1 2, mp_ty 2), (G.2.2.2.1 3, mp_ty 3), (G.2.2.2.1 4, mp_ty 4), (G.2.2.2.1 5, mp_ty 5), (G.2.2.2.1 6, mp_ty 6), (G.2.2.2.1 7, mp_ty 7)]
/-- the exceptions, by number -/
def mp_xn : Nat → String
  | 0 => "java/lang/IllegalArgumentException"
  | 1 => "java/lang/IndexOutOfBoundsException"
  | _ => "java/lang/IllegalStateException"
/-- words that look at the heap below the base -/
def mp_xw : List Cond := [.isRef (.static "java/lang/Throwable" "UNASSIGNED_STACK" "[Ljava/lang/StackTraceElement;"), .isRef (.static "java/lang/Throwable" "SUPPRESSED_SENTINEL" "Ljava/util/List;"), .laysStatic "java/lang/Throwable" "UNASSIGNED_STACK" "[Ljava/lang/StackTraceElement;", .laysStatic "java/lang/Throwable" "SUPPRESSED_SENTINEL" "Ljava/util/List;"]
def mp_X (G : mp_G) (U : State) : Prop := G.2.1.size = G.1 ∧ ∀ w ∈ mp_xw, w.before #[] ({ U with heap := G.2.1 } : State) = true
def mp_K (G : mp_G) (U : State) : Prop := va_K G.2.2.1 vwCl (mp_T G) U ∧ (∀ x, x < 3 → U.vm.findClass (mp_xn x) = some (G.2.2.2.2 x)) ∧ mp_X G U ∧ ∀ x z, x < 3 → z < 3 → x ≠ z → U.vm.assignable (G.2.2.2.2 x) (G.2.2.2.2 z) = false
theorem mp_X.moved {G : mp_G} {U V : State} (hal : U.vm.Alike V.vm) (h : mp_X G U) : mp_X G V := by
  refine ⟨h.1, fun w hw => ?_⟩
  have h1 := h.2 w hw
  have hs : w.steady = true := by
    simp only [mp_xw, List.mem_cons, List.not_mem_nil, or_false] at hw
    rcases hw with rfl | rfl | rfl | rfl <;> rfl
  have e := Cond.value_setVm₂ (args := #[]) (o := none) (s := ({ U with heap := G.2.1 } : State)) (vm₁ := V.vm) (vm' := V.vm) hal hal w [] hs
  have h2 : w.value #[] ({ U with heap := G.2.1 } : State) none ({ U with heap := G.2.1 } : State) [] = some true := by
    simpa [Cond.before, Cond.holds] using h1
  rw [h2] at e
  have h3 : w.value #[] ({ V with heap := G.2.1 } : State) none ({ V with heap := G.2.1 } : State) [] = some true := by
    rw [← e]
    simp only [mp_xw, List.mem_cons, List.not_mem_nil, or_false] at hw
    rcases hw with rfl | rfl | rfl | rfl <;> rfl
  simp [Cond.before, Cond.holds, h3]
theorem mp_K.moved {G : mp_G} {U V : State} (hal : U.vm.Alike V.vm) (h : mp_K G U) : mp_K G V :=
  ⟨h.1.moved hal, fun x hx => by rw [hal.findClass]; exact h.2.1 x hx, h.2.2.1.moved hal, fun x z hx hz hn => by rw [hal.assignable]; exact h.2.2.2 x z hx hz hn⟩
def mp_P (G : mp_G) (Pr : Option Value → mp_H → Prop) (Pt : Nat → mp_H → Prop) (o : Outcome) (h : mp_H) : Prop := match o with
  | .returned v => Pr v h
  | .threw a => ∃ q x, a = G.1 + q ∧ q < h.2.2 ∧ h.1 q = (20 + x, 0) ∧ x < 3 ∧ Pt x h
def mp_F (G : mp_G) (mc ms : Nat) (st t : State) : Prop := st.WarmedH t.vm ∧ ∃ L, st.sameButNew ({ t with vm := st.vm } : State) L mc ms ∧ ∀ q ∈ L, G.1 ≤ q.base
/-- the end of a method -/
def mp_Q (G : mp_G) (E : mp_E) (mc ms : Nat) (Pr : Option Value → mp_H → Prop) (Pt : Nat → mp_H → Prop) : State → Prop := fun t =>
  ∃ o h, t.status = .running ∧ Ended t E.below o ∧ mp_F G mc ms E.s t ∧ mp_R G h t.heap ∧ mp_P G Pr Pt o h
/-- a contract: from h with these arguments, at most mc cells of ms slots; d frames deep -/
def mp_M (G : mp_G) (Ts : List Cond) (l : Launch) (y : MethodName) (d mc ms : Nat) (as : List Value) (h : mp_H) (Pr : Option Value → mp_H → Prop) (Pt : Nat → mp_H → Prop) : Prop :=
  MetFree l y (headSpec Ts (mp_rm d mc ms)) (fun a U => a = as.toArray ∧ mp_K G U ∧ mp_R G h U.heap) (fun _ _ _ _ _ => True)
    (fun _ st o t => mp_F G mc ms st t ∧ ∃ h', mp_R G h' t.heap ∧ mp_P G Pr Pt o h')
/-- a method's code, by the words -/
def mp_Y (Ts : List Cond) (y : MethodName) (cc : ByteArray) (nL : Nat) (rt : Option FieldType) (hh : List (Nat × Nat × Nat × Nat)) : Prop :=
  ∀ (args : Array Value) (s : State), (∀ w ∈ Ts, w.before args s = true) → ∃ (m : MethodId) (meth : Method) (c : Code), s.methodNamed? y = some m ∧ s.vm.method? m = some meth ∧ meth.code = some c ∧ c.code = cc ∧ c.maxLocals = nL ∧
    (c.exceptionTable.toList.map fun x => (x.startPc, x.endPc, x.handlerPc, x.catchType)) = hh ∧ meth.sig.returnType = rt ∧ meth.locks = false ∧ parseMethodDescriptor y.desc = some meth.sig
theorem mp_Y.of {Ts : List Cond} {y : MethodName} {cc : ByteArray} {nL : Nat} {rt : Option FieldType} (h : Cond.code y cc nL rt ∈ Ts) : mp_Y Ts y cc nL rt [] := by
  intro args s ht
  have hc := ht _ h
  obtain ⟨m, hn⟩ := Cond.code_named hc
  obtain ⟨meth, c, h1, h2, h3, h4, h5, h6, h7, h8⟩ := Cond.code_spec hn hc
  refine ⟨m, meth, c, hn, h1, h2, h3, h4, ?_, h5, h6, h8⟩
  have e : c.exceptionTable = #[] := Array.isEmpty_iff.mp h7
  rw [e]
  rfl
theorem mp_Y.ofWith {Ts : List Cond} {y : MethodName} {cc : ByteArray} {nL : Nat} {rt : Option FieldType} {hh : List (Nat × Nat × Nat × Nat)} (h : Cond.codeWith y cc nL rt hh ∈ Ts) : mp_Y Ts y cc nL rt hh := by
  intro args s ht
  obtain ⟨m, meth, c, h0, h1, h2, h3, h4, h5, h6, h7, h8⟩ := Cond.codeWith_spec (ht _ h)
  exact ⟨m, meth, c, h0, h1, h2, h3, h4, h5, h6, h7, h8⟩
/-- what a walk knows -/
def mp_C (G : mp_G) (Ts : List Cond) (E : mp_E) (y : MethodName) (cc : ByteArray) (nL : Nat) (rt : Option FieldType) (hh : List (Nat × Nat × Nat × Nat)) (d mc ms : Nat) : Prop :=
  E.p.tables.exec = Jvm.exec ∧ E.c.code = cc ∧ E.c.maxLocals = nL ∧ E.s.vm.findClass y.cls = some E.m.cls ∧ (∀ w ∈ Ts, w.before E.args E.s = true) ∧ mp_K G E.s ∧
    E.meth.sig.returnType = rt ∧ E.meth.locks = false ∧ (d ≤ E.R.frames ∧ 32 * d ≤ E.R.locals ∧ mc ≤ E.R.cells ∧ ms ≤ E.R.slots) ∧ (E.c.exceptionTable.toList.map fun x => (x.startPc, x.endPc, x.handlerPc, x.catchType)) = hh ∧ E.meth.name = y.name
/-- the judgement -/
def mp_W (G : mp_G) (E : mp_E) (h : mp_H) (cs sl : Nat) (Q : State → Prop) (pc : Nat) (L : List Slot) (st : List Value) : Prop :=
  ∀ (H : Heap) (locs : List Loc), mp_R G h H → (∀ q ∈ locs, G.1 ≤ q.base) → W E.p E.l E.e E.R E.s E.m E.args E.below E.meth E.c H locs cs sl Q (F0 E.m pc L.toArray st)
section MPC
variable {G : mp_G} {Ts : List Cond} {E : mp_E} {y : MethodName} {cc : ByteArray} {nL : Nat} {rt : Option FieldType} {hh : List (Nat × Nat × Nat × Nat)} {d mc ms : Nat}
theorem mp_C.own (X : mp_C G Ts E y cc nL rt hh d mc ms) : E.s.vm.findClass y.cls = some E.m.cls := X.2.2.2.1
theorem mp_C.hts (X : mp_C G Ts E y cc nL rt hh d mc ms) : ∀ w ∈ Ts, w.before E.args E.s = true := X.2.2.2.2.1
theorem mp_C.K (X : mp_C G Ts E y cc nL rt hh d mc ms) : mp_K G E.s := X.2.2.2.2.2.1
theorem mp_C.ret (X : mp_C G Ts E y cc nL rt hh d mc ms) : E.meth.sig.returnType = rt := X.2.2.2.2.2.2.1
theorem mp_C.locks (X : mp_C G Ts E y cc nL rt hh d mc ms) : E.meth.locks = false := X.2.2.2.2.2.2.2.1
theorem mp_C.room (X : mp_C G Ts E y cc nL rt hh d mc ms) : d ≤ E.R.frames ∧ 32 * d ≤ E.R.locals ∧ mc ≤ E.R.cells ∧ ms ≤ E.R.slots := X.2.2.2.2.2.2.2.2.1
theorem mp_C.exc (X : mp_C G Ts E y cc nL rt hh d mc ms) : (E.c.exceptionTable.toList.map fun x => (x.startPc, x.endPc, x.handlerPc, x.catchType)) = hh := X.2.2.2.2.2.2.2.2.2.1
theorem mp_C.nm (X : mp_C G Ts E y cc nL rt hh d mc ms) : E.meth.name = y.name := X.2.2.2.2.2.2.2.2.2.2
theorem mp_C.rc (X : mp_C G Ts E y cc nL rt hh d mc ms) {n : Nat} (h : n ≤ mc) : n ≤ E.R.cells := Nat.le_trans h X.room.2.2.1
theorem mp_C.rs (X : mp_C G Ts E y cc nL rt hh d mc ms) {n : Nat} (h : n ≤ ms) : n ≤ E.R.slots := Nat.le_trans h X.room.2.2.2
theorem mp_C.rf (X : mp_C G Ts E y cc nL rt hh d mc ms) {n : Nat} (h : n ≤ d) : n ≤ E.R.frames := Nat.le_trans h X.room.1
theorem mp_C.rl (X : mp_C G Ts E y cc nL rt hh d mc ms) {n : Nat} (h : n ≤ 32 * d) : n ≤ E.R.locals := Nat.le_trans h X.room.2.1
/-- a method's contract is its body's walk; the heap is the start's -/
theorem mp_enter0 {l : Launch} {as : List Value} {h : mp_H} {Pr : Option Value → mp_H → Prop} {Pt : Nat → mp_H → Prop} (hy : plainName y.cls = true) (hY : mp_Y Ts y cc nL rt hh)
    (body : ∀ E : mp_E, E.l = l → mp_C G Ts E y cc nL rt hh d mc ms → mp_R G h E.s.heap → W E.p E.l E.e E.R E.s E.m E.args E.below E.meth E.c E.s.heap [] 0 0 (mp_Q G E mc ms Pr Pt) (F0 E.m 0 (lg_sl as ++ List.replicate (nL - (lg_sl as).length) Slot.unset).toArray [])) : mp_M G Ts l y d mc ms as h Pr Pt := by
  refine MetFree.of_bodyS (code := cc) (maxLocals := nL) (ret := rt) hy ?_ ?_
  · intro args s m hp hn
    obtain ⟨m9, meth, c, h0, h1, h2, h3, h4, h5, h6, h7, h8⟩ := hY args s (atoms_spec (ws := Ts) hp)
    cases hn.symm.trans h0
    exact ⟨meth, c, h1, h2, h3, h4, h6, h7⟩
  · intro p e s m args below meth c s₁ B hml hP _
    obtain ⟨rfl, hK, hR⟩ := hP
    have hts := atoms_spec (ws := Ts) B.pre
    obtain ⟨m9, meth9, c9, h0, h1, h2, h3, h4, h5, h6, h7, h8⟩ := hY _ s hts
    cases B.named.symm.trans h0
    cases B.method.symm.trans h1
    cases (Stand.of_body B).code.symm.trans h2
    have w := body (p, l, e, (headSpec Ts (mp_rm d mc ms)).room, s, m, as.toArray, below, meth, c) rfl ⟨B.exec, B.bytes, hml, findClass_of_methodNamed B.named, hts, hK, B.returns, B.notSynchronized, ⟨Nat.le_refl _, Nat.le_refl _, Nat.le_refl _, Nat.le_refl _⟩, h5, (name_of_methodNamed B.named B.method).1⟩ hR
    have w2 : W p l e (headSpec Ts (mp_rm d mc ms)).room s m as.toArray below meth c s.heap [] 0 0 (mp_Q G (p, l, e, (headSpec Ts (mp_rm d mc ms)).room, s, m, as.toArray, below, meth, c) mc ms Pr Pt) (entryFrame m as.toArray nL) := by
      rw [lg_entry_eq]
      exact w
    obtain ⟨t, a1, o, h', b1, b2, b3, b4, b5⟩ := w2 s₁ (by rw [B.state]; rfl) (Stand.of_body B)
    exact ⟨t, o, a1, b1, b2, b3, h', b4, b5⟩
theorem mp_enter {l : Launch} {as : List Value} {h : mp_H} {Pr : Option Value → mp_H → Prop} {Pt : Nat → mp_H → Prop} (hy : plainName y.cls = true) (hY : mp_Y Ts y cc nL rt hh)
    (body : ∀ E : mp_E, E.l = l → mp_C G Ts E y cc nL rt hh d mc ms → mp_W G E h 0 0 (mp_Q G E mc ms Pr Pt) 0 (lg_sl as ++ List.replicate (nL - (lg_sl as).length) Slot.unset) []) : mp_M G Ts l y d mc ms as h Pr Pt :=
  mp_enter0 hy hY fun E hl X hR => body E hl X E.s.heap [] hR (fun q hq => by cases hq)
theorem mp_mono {p : Program} {l : Launch} {e : Env} {R : Room} {s : State} {m : MethodId} {args : Array Value} {below : List Frame} {meth : Method} {c : Code} {H : Heap} {locs : List Loc} {cells slots : Nat} {Q Q' : State → Prop} {g : JFrame} (hq : ∀ t, Q t → Q' t) (w : W p l e R s m args below meth c H locs cells slots Q g) : W p l e R s m args below meth c H locs cells slots Q' g := by
  intro T hT S
  obtain ⟨t, a, b⟩ := w T hT S
  exact ⟨t, a, hq t b⟩
variable {h : mp_H} {cs sl : Nat} {pc : Nat} {L : List Slot} {Pr : Option Value → mp_H → Prop} {Pt : Nat → mp_H → Prop}
theorem mp_MQ {E : mp_E} (t : State) (hq : MQ E.below (fun _ _ o t => ∃ h', mp_R G h' t.heap ∧ mp_P G Pr Pt o h') E.args E.s mc ms (fun q => G.1 ≤ q) t) : mp_Q G E mc ms Pr Pt t := by
  obtain ⟨o, r, en, ⟨h', hR, hP⟩, L, ⟨-, hW, hs⟩, hf⟩ := hq
  exact ⟨o, h', r, en, ⟨hW, L, hs, hf⟩, hR, hP⟩
theorem mp_iret (X : mp_C G Ts E y cc nL rt hh d mc ms) {v : Int32} {ty : FieldType} (hd : decode cc pc = .ok (.ireturn, 1)) (hr : rt = some ty) (hn : narrow ty (.int v) = .int v) (hc : cs ≤ mc) (hs : sl ≤ ms) (hp : Pr (some (.int v)) h) : mp_W G E h cs sl (mp_Q G E mc ms Pr Pt) pc L [.int v] := by
  intro H locs hR hl
  exact W.widen hc hs (mp_mono mp_MQ (W.zret (ty := ty) X.1 X.2.1 (by rw [X.ret, hr]) hn (fun t ht hW => ⟨h, by rw [ht]; exact hR, hp⟩) hl hd X.locks))
theorem mp_vret (X : mp_C G Ts E y cc nL rt hh d mc ms) (hd : decode cc pc = .ok (.return_, 1)) (hr : rt = none) (hc : cs ≤ mc) (hs : sl ≤ ms) (hp : Pr none h) : mp_W G E h cs sl (mp_Q G E mc ms Pr Pt) pc L [] := by
  intro H locs hR hl
  exact W.widen hc hs (mp_mono mp_MQ (W.vret X.1 X.2.1 (by rw [X.ret, hr]) (fun t ht hW => ⟨h, by rw [ht]; exact hR, hp⟩) hl hd X.locks))
theorem mp_aret (X : mp_C G Ts E y cc nL rt hh d mc ms) {v : Value} {n : String} (hd : decode cc pc = .ok (.areturn, 1)) (hr : rt = some (.object n)) (hv : v = .null ∨ ∃ a, v = .ref a) (hc : cs ≤ mc) (hs : sl ≤ ms) (hp : Pr (some v) h) : mp_W G E h cs sl (mp_Q G E mc ms Pr Pt) pc L [v] := by
  intro H locs hR hl
  exact W.widen hc hs (mp_mono mp_MQ (W.aret X.1 X.2.1 (by rw [X.ret, hr]) (Or.inl ⟨n, rfl⟩) hv (fun t ht hW => ⟨h, by rw [ht]; exact hR, hp⟩) hl hd X.locks))
theorem mp_eq {Q : State → Prop} {h2 : mp_H} {st st2 : List Value} {L2 : List Slot} (eh : h = h2) (eL : L = L2) (es : st = st2) (k : mp_W G E h2 cs sl Q pc L2 st2) : mp_W G E h cs sl Q pc L st := by
  subst eh; subst eL; subst es; exact k
end MPC
