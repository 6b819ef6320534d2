/-! An exception comes to rows of an exception table whose classes may not be resolved yet. -/
section MPX
variable {e : Env} {s₀ : State} {f : JFrame} {a : Addr} {cell : Cell}
/-- this row lets the exception pass: its class is another one -/
def mp_rp (e : Env) (s₀ : State) (d : ClassId) (thrown : ClassId) (y : ExceptionTableEntry) : Prop := y.catchType ≠ 0 ∧ ∃ c, s₀.vm.ClassLinks e.platform d y.catchType c ∧ s₀.vm.assignable thrown c = false
def mp_rc (e : Env) (s₀ : State) (d : ClassId) (thrown : ClassId) (y : ExceptionTableEntry) : Prop := y.catchType ≠ 0 ∧ ∃ c, s₀.vm.ClassLinks e.platform d y.catchType c ∧ s₀.vm.assignable thrown c = true
theorem mp_go (hobj : ∀ k, cell.vm ≠ .statics k) (hk0 : ∃ k, s₀.vm.classes[cell.cls]? = some k) (x : ExceptionTableEntry) (rest : List ExceptionTableEntry) (hx : covers x f.pc = true) (hend : mp_rc e s₀ f.method.cls cell.cls x) :
    ∀ (pre : List ExceptionTableEntry) (S : State), s₀.WarmedH S.vm → S.heap[a]? = some cell → (∀ y ∈ pre, covers y f.pc = true ∧ mp_rp e s₀ f.method.cls cell.cls y) →
      ∃ vm', s₀.WarmedH vm' ∧ ∀ (Q : Handler → Pre) (E : CtlPost) (d : Bool) (acts : List Action), wp (findHandler.go f a (pre ++ x :: rest)) Q E e d acts S ↔ Q (.found x.handlerPc) d acts (S.setVm vm') := by
  obtain ⟨k0, hk0⟩ := hk0
  intro pre
  induction pre with
  | nil =>
    intro S hW hcell _
    obtain ⟨k0', hk0', -⟩ := hW.alike.2.2 _ _ hk0
    obtain ⟨h0, c, hl, hfit⟩ := hend
    obtain ⟨dk, _, _, kt, hd, _, _, _, _, hkt, _, hopen⟩ := hl.here
    obtain ⟨kt', hkt', -⟩ := hW.alike.2.2 _ _ hkt
    refine ⟨_, hW.noted hd hopen (State.rightAt_cls hl), fun Q E d acts => ?_⟩
    have hl' := hW.classLinks hl
    have hx' := hx
    simp only [covers] at hx'
    obtain ⟨ha, ht⟩ := (resolveClass_links e.toSetting hl').op (op := VmOp.resolveClass f.method.cls x.catchType) rfl
    have hal : S.vm.Alike (S.vm.noted f.method.cls x.catchType (.cls c)) := (Vm.Alike.refl S.vm).noted _ _ _
    obtain ⟨k1', hk1', -⟩ := hal.2.2 _ _ hk0'
    obtain ⟨k2', hk2', -⟩ := hal.2.2 _ _ hkt'
    have hfit' : (S.vm.noted f.method.cls x.catchType (.cls c)).assignable cell.cls c = true := by rw [hal.assignable, hW.alike.assignable]; exact hfit
    rw [List.nil_append]
    simp [findHandler.go, hx', h0, ha, ht, hcell, hobj, hk1', hk2', hfit', VmOp.dirties, VmOp.acts]
  | cons y ys ih =>
    intro S hW hcell hpass
    obtain ⟨k0', hk0', -⟩ := hW.alike.2.2 _ _ hk0
    obtain ⟨hcov, h0, c, hl, hno⟩ := hpass y (List.mem_cons_self ..)
    obtain ⟨dk, _, _, kt, hd, _, _, _, _, hkt, _, hopen⟩ := hl.here
    obtain ⟨kt', hkt', -⟩ := hW.alike.2.2 _ _ hkt
    obtain ⟨vm', hW', hq⟩ := ih (S.setVm (S.vm.noted f.method.cls y.catchType (.cls c))) (hW.noted hd hopen (State.rightAt_cls hl)) hcell (fun z hz => hpass z (List.mem_cons_of_mem _ hz))
    refine ⟨vm', hW', fun Q E d acts => ?_⟩
    have hl' := hW.classLinks hl
    have hx' := hcov
    simp only [covers] at hx'
    obtain ⟨ha, ht⟩ := (resolveClass_links e.toSetting hl').op (op := VmOp.resolveClass f.method.cls y.catchType) rfl
    have hal : S.vm.Alike (S.vm.noted f.method.cls y.catchType (.cls c)) := (Vm.Alike.refl S.vm).noted _ _ _
    obtain ⟨k1', hk1', -⟩ := hal.2.2 _ _ hk0'
    obtain ⟨k2', hk2', -⟩ := hal.2.2 _ _ hkt'
    have hno' : (S.vm.noted f.method.cls y.catchType (.cls c)).assignable cell.cls c = false := by rw [hal.assignable, hW.alike.assignable]; exact hno
    refine Iff.trans ?_ (hq Q E d acts)
    rw [List.cons_append]
    simp [findHandler.go, hx', h0, ha, ht, hcell, hobj, hk1', hk2', hno', VmOp.dirties, VmOp.acts]
end MPX
section MPY
variable {p : Program} {l : Launch} {e : Env} {R : Room} {s : State} {m : MethodId} {args : Array Value} {below : List Frame} {meth : Method} {c : Code} {T : State} {locs : List Loc} {cells slots : Nat}
/-- the exception is caught in this method -/
theorem mp_caught (X : Stand p l e R s m args below meth c T locs cells slots) (a : Addr) {g : JFrame} (hg : g.method = m) {cell : Cell} (hcell : T.heap[a]? = some cell) (hobj : cell.vm.isStatics = false) (hk0 : ∃ k, s.vm.classes[cell.cls]? = some k)
    (pre : List ExceptionTableEntry) (x : ExceptionTableEntry) (rest : List ExceptionTableEntry) (hsplit : c.exceptionTable.toList = pre ++ x :: rest) (hpass : ∀ y ∈ pre, covers y g.pc = true ∧ mp_rp e s m.cls cell.cls y) (hx : covers x g.pc = true) (hend : mp_rc e s m.cls cell.cls x) :
    ∃ vm', Stand p l e R s m args below meth c (T.setVm vm') locs cells slots ∧
      ∀ target, Steps p.tables e below ((T.setVm vm').setTop { g with pc := x.handlerPc, stack := [.ref a] }) target → Steps p.tables e below ((T.setTop g).pushFrame (.throwing a)) target := by
  subst hg
  have hob : ∀ k, cell.vm ≠ .statics k := fun k h => by rw [h] at hobj; cases hobj
  have hcell' : ((T.setTop g).pushFrame (.throwing a)).heap[a]? = some cell := by rw [Stand.throwing_heap]; exact hcell
  have hvm' : ((T.setTop g).pushFrame (.throwing a)).vm = T.vm := Stand.throwing_vm T g a
  obtain ⟨vm', hW', hq⟩ := mp_go (e := e) (s₀ := s) (f := g) (a := a) hob hk0 x rest hx hend pre ((T.setTop g).pushFrame (.throwing a)) (by rw [hvm']; exact X.warmed) hcell' hpass
  refine ⟨vm', X.noted hW', fun target hrest => ?_⟩
  have hm' : ((T.setTop g).pushFrame (.throwing a)).vm.method? g.method = some meth := by rw [hvm']; exact X.method'
  have hfind : ∀ (Q : Handler → Pre) (E : CtlPost) (d : Bool) (acts : List Action), wp (findHandler g a) Q E e d acts ((T.setTop g).pushFrame (.throwing a)) ↔ Q (.found x.handlerPc) d acts (((T.setTop g).pushFrame (.throwing a)).setVm vm') := by
    intro Q E d acts
    rw [W.findHandler_eq hm' X.code, hsplit]
    exact hq Q E d acts
  have hstep : ∀ r, (stepThrowing e ((T.setTop g).pushFrame (.throwing a)) a (.java g :: r)).Is ((((T.setTop g).pushFrame (.throwing a)).setVm vm').setFrames (.java { g with pc := x.handlerPc, stack := [.ref a] } :: r)) [] := by
    intro r
    simp only [stepThrowing, searchFrame, vmDo]
    generalize hr : Sem.go _ e false [] ((T.setTop g).pushFrame (.throwing a)) = res
    obtain ⟨as, rfl, ha⟩ := Sem.eq_ok_of hr (a := Handler.found x.handlerPc) (s' := ((T.setTop g).pushFrame (.throwing a)).setVm vm') (acts' := []) (by simp [hfind _ _ _ _])
    exact ⟨rfl, ha⟩
  have h : At T g.method c below := X.here
  obtain ⟨hgo, hw⟩ := h.throwing a
  refine Steps.head hgo hw ?_
  rw [stepThread_throwing (frames_entered h.top _), (hstep _).1]
  obtain ⟨g₀, hg0⟩ := Option.isSome_iff_exists.mp h.top
  obtain ⟨r, hr⟩ := State.topJava?_eq_some.mp hg0
  have hr' : (T.setVm vm').frames = .java g₀ :: r := hr
  rw [State.setTop_of_frames _ hr'] at hrest
  have sf : ∀ (u : State) (F F' : List Frame), ((u.setFrames F).setVm vm').setFrames F' = (u.setVm vm').setFrames F' := fun u F F' => by
    have h1 : (u.setFrames F).setVm vm' = (u.setVm vm').setFrames F := rfl
    rw [h1, State.setFrames_setFrames]
  rw [hr, List.tail_cons, State.pushFrame, sf, State.setTop_of_frames _ hr, sf]
  exact hrest
end MPY
section MPZ
variable {G : mp_G} {Ts : List Cond} {E : mp_E} {y : MethodName} {cc : ByteArray} {nL : Nat} {rt : Option FieldType} {hh : List (Nat × Nat × Nat × Nat)} {d mc ms : Nat} {h : mp_H} {cs sl : Nat} {Q : State → Prop} {pc : Nat} {L : List Slot} {st : List Value}
/-- the i-th row catches exception x; those ahead of it name other classes -/
theorem mp_catch (X : mp_C G Ts E y cc nL rt hh d mc ms) {q x : Nat} (hq : q < h.2.2) (hk : h.1 q = (20 + x, 0)) (hx : x < 3) (hpre hsuf : List (Nat × Nat × Nat × Nat)) (b0 b1 hp ct : Nat) (hsp : hh = hpre ++ (b0, b1, hp, ct) :: hsuf) (hcov : b0 ≤ pc ∧ pc < b1) (hct : ct ≠ 0) (hlk : Cond.classLink y.cls ct (mp_xn x) ∈ Ts) (hself : Cond.castable (mp_xn x) (mp_xn x) ∈ Ts)
    (hpass : ∀ r ∈ hpre, (r.1 ≤ pc ∧ pc < r.2.1) ∧ r.2.2.2 ≠ 0 ∧ ∃ n, n < 3 ∧ n ≠ x ∧ Cond.classLink y.cls r.2.2.2 (mp_xn n) ∈ Ts)
    (kk : mp_W G E h cs sl Q hp L [.ref (G.1 + q)]) : mp_U G E h cs sl Q pc L st (G.1 + q) := by
  intro T locs hR hl S
  have hcell := hR.2.2 q hq
  rw [hk] at hcell
  unfold mp_cell at hcell
  rw [if_neg (by show ¬ 20 + x < 10; omega), if_neg (by show ¬ 20 + x < 20; omega)] at hcell
  obtain ⟨cell, c1, c2, c3⟩ := hcell
  have c2' : cell.cls = G.2.2.2.2 x := by rw [c2]; show G.2.2.2.2 (20 + x - 20) = _; rw [show 20 + x - 20 = x by omega]
  have hfx := X.K.2.1 x hx
  obtain ⟨kx, hkx, -⟩ := Vm.findClass_spec hfx
  have hpl : E.e.platform.magicAccessors = ({} : Platform).magicAccessors := by rw [S.admits.platform]
  have hexc := X.exc
  rw [hsp] at hexc
  obtain ⟨pre, tl, e1, e2, e3⟩ := List.map_eq_append_iff.mp hexc
  obtain ⟨row, suf, e4, e5, e6⟩ := List.map_eq_cons_iff.mp e3
  have hrow : row.startPc = b0 ∧ row.endPc = b1 ∧ row.handlerPc = hp ∧ row.catchType = ct := by simpa using e5
  obtain ⟨r1, r2, r3, r4⟩ := hrow
  have hcv : covers row pc = true := by simp [covers, r1, r2, hcov]
  have hrc : mp_rc E.e E.s E.m.cls cell.cls row := by
    refine ⟨by rw [r4]; exact hct, ?_⟩
    rw [r4]
    obtain ⟨c', hc', hcl⟩ := Cond.classLink_spec X.own (X.hts _ hlk) E.e.platform hpl
    cases hfx.symm.trans hc'
    obtain ⟨k1, k2, f1, f2, f3⟩ := Cond.castable_spec (X.hts _ hself)
    cases hfx.symm.trans f1
    cases hfx.symm.trans f2
    exact ⟨_, hcl, by rw [c2']; exact f3⟩
  have hps : ∀ z ∈ pre, covers z (F0 E.m pc L.toArray st).pc = true ∧ mp_rp E.e E.s E.m.cls cell.cls z := by
    intro z hz
    have hm : (z.startPc, z.endPc, z.handlerPc, z.catchType) ∈ hpre := by rw [← e2]; exact List.mem_map_of_mem hz
    obtain ⟨g1, g2, n, g3, g4, g5⟩ := hpass _ hm
    refine ⟨by simp [covers]; exact g1, g2, ?_⟩
    obtain ⟨c', hc', hcl⟩ := Cond.classLink_spec X.own (X.hts _ g5) E.e.platform hpl
    refine ⟨c', hcl, ?_⟩
    have e9 : c' = G.2.2.2.2 n := Option.some.inj (hc'.symm.trans (X.K.2.1 n g3))
    rw [c2', e9]
    exact X.K.2.2.2 x n hx g3 (fun e => g4 e.symm)
  obtain ⟨vm', S', hst⟩ := mp_caught S (G.1 + q) (g := F0 E.m pc L.toArray st) rfl c1 (by rw [c3]; rfl) ⟨kx, by rw [c2']; exact hkx⟩ pre row suf (by rw [e1, e4]) hps hcv hrc
  obtain ⟨t, a1, b1'⟩ := kk T.heap locs hR hl (T.setVm vm') rfl S'
  rw [← r3] at a1
  exact ⟨t, hst t a1, b1'⟩
end MPZ
