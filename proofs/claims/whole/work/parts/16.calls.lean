section MPK
variable {p : Program} {l : Launch} {e : Env} {R : Room} {s : State} {m : MethodId} {args : Array Value} {below : List Frame} {meth : Method} {c : Code} {U : State} {locs : List Loc} {cells slots : Nat}
/-- a callee's run, from its contract: it returns or it throws -/
theorem mp_back {G : mp_G} {Ts : List Cond} {y : MethodName} {cc : ByteArray} {nL : Nat} {rt : Option FieldType} {hh : List (Nat × Nat × Nat × Nat)} {d mc ms : Nat} {as : List Value} {h : mp_H} {Pr : Option Value → mp_H → Prop} {Pt : Nat → mp_H → Prop}
    (hM : mp_M G Ts l y d mc ms as h Pr Pt) (hY : mp_Y Ts y cc nL rt hh) (X : Stand p l e R s m args below meth c U locs cells slots) (hK : mp_K G U) (hR : mp_R G h U.heap) (hts : ∀ w ∈ Ts, ∀ a', w.before a' U = true) (hini : (Cond.initialized y.cls).before as.toArray U = true)
    (hfr : d + 1 ≤ R.frames) (hlo : 8 + (nL + 11) + 32 * d ≤ R.locals) (hce : cells + mc ≤ R.cells) (hsl : slots + ms ≤ R.slots)
    {g : JFrame} (hg : g.method = m) (hsize : g.locals.size = c.maxLocals) {ig : Instr} {len : Nat} (hdg : decode c.code g.pc = .ok (ig, len)) (hW : 2 * g.monitorRoom + (g.stack.map fun v => v.category).sum ≤ 8) {mk : MethodId} (hn : U.methodNamed? y = some mk) :
    ∃ (o : Outcome) (h' : mp_H) (T : State) (L : List Loc), Stand p l e R s m args below meth c T (locs ++ L) (cells + mc) (slots + ms) ∧ (∀ q ∈ L, G.1 ≤ q.base) ∧ mp_R G h' T.heap ∧ mp_P G Pr Pt o h' ∧
      (match o with
        | .returned v => Steps p.tables e below (doInvoke e (U.setTop g) [] mk as.toArray).1 (T.setTop { g with pc := g.pc + len, stack := v.toList ++ g.stack })
        | .threw a => Steps p.tables e below (doInvoke e (U.setTop g) [] mk as.toArray).1 ((T.setTop g).pushFrame (.throwing a))) := by
  obtain ⟨m9, methY, cY, hn9, hmY, hcY, hbY, hlY, -⟩ := hY as.toArray U (fun w hw => hts w hw _)
  cases hn.symm.trans hn9
  obtain ⟨kY, hkY, -⟩ := className_of_methodNamed hn
  have hinitY : kY.init = .initialized := Cond.initialized_spec (findClass_of_methodNamed hn) hkY hini
  have hA : At U g.method c below := by rw [hg]; exact X.here
  have happ : (headSpec Ts (mp_rm d mc ms)).appliesLoose y e.platform (U.calling g mk as.toArray) = true :=
    Spec.appliesLoose_calling (g := g) hA hdg hn hkY hinitY
      (X.room_calling (g := g) (R' := mp_rm d mc ms) hsize hmY hcY hfr (by rw [hlY]; show _ + _ + 32 * d ≤ _; omega) hce hsl) (atoms_intro fun w hw => hts w hw _)
  obtain ⟨mid, hmid⟩ := hA.above
  have hfr2 : (U.setTop g).frames = (.java g :: mid) ++ below := by rw [State.frames_setTop' g hA.top, hmid]; rfl
  obtain ⟨o, s₂, hsteps, -, hend, hq⟩ := Steps.callFree hM p X.admits X.cas X.clock (acts := []) hfr2 happ ⟨rfl, hK.moved (Vm.Alike.refl U.vm), hR⟩ trivial
  rw [State.frames_setTop' g hA.top] at hend
  have hq' : mp_F G mc ms (U.calling g mk as.toArray) s₂ ∧ ∃ h', mp_R G h' s₂.heap ∧ mp_P G Pr Pt o h' := hq
  obtain ⟨⟨hW₂, L, ⟨e2, q2, q3, q4, q5, q6⟩, hLb⟩, h', hR', hP'⟩ := hq'
  have e3 : s₂ = ({ (U.calling g mk as.toArray).setFrames s₂.frames with heap := s₂.heap, slotsUsed := s₂.slotsUsed } : State).setVm s₂.vm := by
    have : s₂ = ({ s₂ with vm := (U.calling g mk as.toArray).vm } : State).setVm s₂.vm := rfl
    rw [e2] at this
    exact this
  have hW' : U.WarmedH s₂.vm := hW₂
  obtain ⟨g₀, hg0⟩ := Option.isSome_iff_exists.mp hA.top
  obtain ⟨r, hr⟩ := State.topJava?_eq_some.mp hg0
  have hr' : (({ U with heap := s₂.heap, slotsUsed := s₂.slotsUsed } : State).setVm s₂.vm).frames = .java g₀ :: r := hr
  have hsame : U.sameButNew ({ U with heap := s₂.heap, slotsUsed := s₂.slotsUsed } : State) L mc ms := by
    refine ⟨?_, q2, q3, q4, q5, q6⟩
    obtain ⟨t, ht, -⟩ := State.frames_cons hr
    show ({ U with heap := s₂.heap, slotsUsed := s₂.slotsUsed } : State) = { U.setFrames U.frames with heap := s₂.heap, slotsUsed := s₂.slotsUsed }
    rw [State.setFrames_self ht]
  subst hg
  refine ⟨o, h', (({ U with heap := s₂.heap, slotsUsed := s₂.slotsUsed } : State).setVm s₂.vm), L,
    ⟨X.admits, X.cas, X.clock, X.frames, X.room, X.hears, X.method, X.code, (X.here.setHeapUsed s₂.heap s₂.slotsUsed).setVm hW'.alike, X.tail, State.WarmedH.trans X.warmed hW', X.limits, X.bytes, X.same.trans (hsame.setVm s.vm)⟩, hLb, hR', hP', ?_⟩
  cases o with
  | returned v =>
    obtain ⟨c₂, i₂, len₂, hc₂, hd₂, hf₂⟩ := hend
    have hcc : c₂ = c := by
      have h1 : s₂.code? g.method = U.code? g.method := by
        rw [State.code?_eq, State.code?_eq, hW'.alike.method?]
      exact Option.some.inj (hc₂.symm.trans (h1.trans hA.code))
    subst hcc
    have hlen : len₂ = len := by rw [hdg] at hd₂; cases hd₂; rfl
    subst hlen
    have hs₂ : s₂ = (({ U with heap := s₂.heap, slotsUsed := s₂.slotsUsed } : State).setVm s₂.vm).setTop { g with pc := g.pc + len₂, stack := v.toList ++ g.stack } := by
      refine e3.trans ?_
      rw [hf₂, State.calling_eq hA.top, State.setFrames_setFrames, State.setTop_of_frames _ hr', hr]
      rfl
    show Steps p.tables e below _ ((({ U with heap := s₂.heap, slotsUsed := s₂.slotsUsed } : State).setVm s₂.vm).setTop { g with pc := g.pc + len₂, stack := v.toList ++ g.stack })
    rw [← hs₂]
    exact hsteps
  | threw a =>
    have hf₂ : s₂.frames = .throwing a :: .java g :: U.frames.tail := hend
    have hs₂ : s₂ = ((({ U with heap := s₂.heap, slotsUsed := s₂.slotsUsed } : State).setVm s₂.vm).setTop g).pushFrame (.throwing a) := by
      refine e3.trans ?_
      rw [hf₂, State.calling_eq hA.top, State.setFrames_setFrames, State.pushFrame, State.frames_setTop _ hr', State.setTop_of_frames _ hr', State.setFrames_setFrames, hr]
      rfl
    show Steps p.tables e below _ (((({ U with heap := s₂.heap, slotsUsed := s₂.slotsUsed } : State).setVm s₂.vm).setTop g).pushFrame (.throwing a))
    rw [← hs₂]
    exact hsteps
end MPK
/-- the instruction at pc invokes y with as, from this stack (three bytes) -/
def mp_I (G : mp_G) (E : mp_E) (h : mp_H) (cc : ByteArray) (pc : Nat) (y : MethodName) (as : List Value) (st rest : List Value) : Prop :=
  ∀ (T : State) (locs : List Loc) (cs sl : Nat) (ls : Array Slot), mp_R G h T.heap → Stand E.p E.l E.e E.R E.s E.m E.args E.below E.meth E.c T locs cs sl →
    ∃ (vm₁ : Vm) (mk : MethodId) (ig : Instr), decode cc pc = .ok (ig, 3) ∧ Stand E.p E.l E.e E.R E.s E.m E.args E.below E.meth E.c (T.setVm vm₁) locs cs sl ∧ (T.setVm vm₁).methodNamed? y = some mk ∧
      ∀ target, Steps E.p.tables E.e E.below (doInvoke E.e ((T.setVm vm₁).setTop (F0 E.m pc ls rest)) [] mk as.toArray).1 target → Steps E.p.tables E.e E.below (T.setTop (F0 E.m pc ls st)) target
/-- an exception is on its way at pc -/
def mp_U (G : mp_G) (E : mp_E) (h : mp_H) (cs sl : Nat) (Q : State → Prop) (pc : Nat) (L : List Slot) (st : List Value) (a : Nat) : Prop :=
  ∀ (T : State) (locs : List Loc), mp_R G h T.heap → (∀ q ∈ locs, G.1 ≤ q.base) → Stand E.p E.l E.e E.R E.s E.m E.args E.below E.meth E.c T locs cs sl → ∃ t, Steps E.p.tables E.e E.below ((T.setTop (F0 E.m pc L.toArray st)).pushFrame (.throwing a)) t ∧ Q t
section MPCALL
variable {G : mp_G} {Ts : List Cond} {E : mp_E} {y z : MethodName} {cc cz : ByteArray} {nL nz : Nat} {rt rz : Option FieldType} {hh hz : List (Nat × Nat × Nat × Nat)} {d mc ms dz mz sz : Nat} {h : mp_H} {cs sl : Nat} {Q : State → Prop} {pc : Nat} {L : List Slot} {st rest as : List Value}
  {Pr : Option Value → mp_H → Prop} {Pt : Nat → mp_H → Prop}
theorem mp_call (X : mp_C G Ts E y cc nL rt hh d mc ms) (hok : ∀ w ∈ Ts, mp_okw w = true) (pc' : Nat) (hM : mp_M G Ts E.l z dz mz sz as h Pr Pt) (hY : mp_Y Ts z cz nz rz hz) (hini : Cond.initialized z.cls ∈ Ts) (hI : mp_I G E h cc pc z as st rest) (hp : pc + 3 = pc')
    (hfr : dz + 1 ≤ d) (hlo : 19 + nz ≤ 32) (hce : cs + mz ≤ mc) (hsl : sl + sz ≤ ms) (hLn : L.length = nL) (hW : (rest.map fun v => v.category).sum ≤ 8)
    (kr : ∀ v h', Pr v h' → mp_W G E h' (cs + mz) (sl + sz) Q pc' L (v.toList ++ rest))
    (kt : ∀ x h' q, Pt x h' → q < h'.2.2 → h'.1 q = (20 + x, 0) → x < 3 → mp_U G E h' (cs + mz) (sl + sz) Q pc L rest (G.1 + q)) : mp_W G E h cs sl Q pc L st := by
  subst hp
  intro H locs hR hl T hT S
  have hR' : mp_R G h T.heap := by rw [hT]; exact hR
  obtain ⟨vm₁, mk, ig, hdg, S₁, hnm, hst⟩ := hI T locs cs sl L.toArray hR' S
  have hWm : E.s.WarmedH (T.setVm vm₁).vm := S₁.warmed
  obtain ⟨o, h', T', L', S', hL', hR2, hP, hsteps⟩ := mp_back (g := F0 E.m pc L.toArray rest) hM hY S₁ (X.K.moved hWm.alike) hR' (fun w hw a' => mp_keep (hok w hw) hWm (X.hts w hw)) (mp_keep (hok _ hini) hWm (X.hts _ hini))
    (X.rf hfr) (X.rl (by omega)) (X.rc hce) (X.rs hsl) rfl (by rw [X.2.2.1]; simpa using hLn) (by rw [X.2.1]; exact hdg) (by simpa using hW) hnm
  have hl' : ∀ q ∈ locs ++ L', G.1 ≤ q.base := fun q hq => by
    rcases List.mem_append.mp hq with h1 | h1
    · exact hl q h1
    · exact hL' q h1
  cases o with
  | returned v =>
    obtain ⟨t, a1, b1⟩ := kr v h' hP T'.heap _ hR2 hl' T' rfl S'
    exact ⟨t, hst t (hsteps.trans a1), b1⟩
  | threw a =>
    obtain ⟨q, x, rfl, hq, hk, hx, hPt⟩ := hP
    obtain ⟨t, a1, b1⟩ := kt x h' q hPt hq hk hx T' _ hR2 hl' S'
    exact ⟨t, hst t (hsteps.trans a1), b1⟩
/-- nobody here catches -/
theorem mp_out (X : mp_C G Ts E y cc nL rt [] d mc ms) {q x : Nat} (hc : cs ≤ mc) (hs : sl ≤ ms) (hq : q < h.2.2) (hk : h.1 q = (20 + x, 0)) (hx : x < 3) (hPt : Pt x h) : mp_U G E h cs sl (mp_Q G E mc ms Pr Pt) pc L st (G.1 + q) := by
  intro T locs hR hl S
  have hout : ∀ x ∈ E.c.exceptionTable.toList, covers x (F0 E.m pc L.toArray st).pc = false := by
    have e := X.exc
    intro x hx
    have : E.c.exceptionTable.toList = [] := List.map_eq_nil_iff.mp e
    rw [this] at hx
    cases hx
  obtain ⟨hw, hrun, hend, hWm, hsame⟩ := S.leaveThrown (G.1 + q) (g := F0 E.m pc L.toArray st) rfl rfl rfl hout X.locks
  exact ⟨_, hw, .threw (G.1 + q), h, hrun, hend, ⟨hWm, locs, hsame.mono hc hs, hl⟩, hR, q, x, rfl, hq, hk, hx, hPt⟩
/-- invokestatic -/
theorem mp_IS (X : mp_C G Ts E y cc nL rt hh d mc ms) {index : Nat} (hd : decode cc pc = .ok (.invokestatic index, 3)) (hY : mp_Y Ts z cz nz rz hz) (hlk : Cond.methodLink y.cls index z ∈ Ts) (hst : Cond.static z ∈ Ts) (hini : Cond.initialized z.cls ∈ Ts)
    (hz0 : z.cls ≠ "java/lang/invoke/MethodHandle" ∧ z.cls ≠ "java/lang/invoke/VarHandle") (hlen : (parseMethodDescriptor z.desc).map (fun dd => dd.parameters.length) = some as.length) : mp_I G E h cc pc z as (as.reverse ++ rest) rest := by
  intro T locs cs sl ls hR S
  obtain ⟨mk, methM, cM, hnamed, hmethM, -, -, -, -, -, -, hsigM⟩ := hY _ _ X.hts
  have hstatic : methM.isStatic = true := Cond.static_spec hnamed hmethM (X.hts _ hst)
  obtain ⟨kP, hkP, -⟩ := className_of_methodNamed hnamed
  have hinitP : kP.init = .initialized := Cond.initialized_spec (findClass_of_methodNamed hnamed) hkP (X.hts _ hini)
  have hl2 : as.length = methM.sig.parameters.length := by rw [hsigM] at hlen; exact (Option.some.inj hlen).symm
  obtain ⟨vm₁, X₁, hstep₁⟩ := S.invokestatic X.1 X.own (X.hts _ hlk) hnamed hmethM hstatic hkP hinitP hz0 (g := F0 E.m pc ls (as.reverse ++ rest)) rfl (argsL := as) (rest := rest) hl2 rfl (by rw [X.2.1]; exact hd)
  exact ⟨vm₁, mk, _, hd, X₁, X₁.named hnamed, fun target ht => hstep₁ _ fun acts => by rw [doInvoke_state]; exact ht⟩
/-- invokestatic of a nest mate's private method -/
theorem mp_ISN (X : mp_C G Ts E y cc nL rt hh d mc ms) {index : Nat} {host : String} (hd : decode cc pc = .ok (.invokestatic index, 3)) (hY : mp_Y Ts z cz nz rz hz) (hlk : Cond.methodLinkNest y.cls index z host ∈ Ts) (hst : Cond.static z ∈ Ts) (hini : Cond.initialized z.cls ∈ Ts)
    (hz0 : z.cls ≠ "java/lang/invoke/MethodHandle" ∧ z.cls ≠ "java/lang/invoke/VarHandle") (hlen : (parseMethodDescriptor z.desc).map (fun dd => dd.parameters.length) = some as.length) : mp_I G E h cc pc z as (as.reverse ++ rest) rest := by
  intro T locs cs sl ls hR S
  obtain ⟨mk, methM, cM, hnamed, hmethM, -, -, -, -, -, -, hsigM⟩ := hY _ _ X.hts
  have hstatic : methM.isStatic = true := Cond.static_spec hnamed hmethM (X.hts _ hst)
  obtain ⟨kP, hkP, -⟩ := className_of_methodNamed hnamed
  have hinitP : kP.init = .initialized := Cond.initialized_spec (findClass_of_methodNamed hnamed) hkP (X.hts _ hini)
  have hl2 : as.length = methM.sig.parameters.length := by rw [hsigM] at hlen; exact (Option.some.inj hlen).symm
  obtain ⟨vm₁, X₁, hstep₁⟩ := S.invokestaticNest X.1 X.own (X.hts _ hlk) hnamed hmethM hstatic hkP hinitP hz0 (g := F0 E.m pc ls (as.reverse ++ rest)) rfl (argsL := as) (rest := rest) hl2 rfl (by rw [X.2.1]; exact hd)
  exact ⟨vm₁, mk, _, hd, X₁, X₁.named hnamed, fun target ht => hstep₁ _ fun acts => by rw [doInvoke_state]; exact ht⟩
theorem mp_recv {H : Heap} {ci N o : Nat} {q : vw_C} (X : mp_C G Ts E y cc nL rt hh d mc ms) (hR : mp_R G h H) (ho : o < h.2.2) (hkd : h.1 o = (ci, N)) (hci : ci < 10) (hc : vwCl[ci]? = some q) : ∃ cell : Cell, H[G.1 + o]? = some cell ∧ cell.vm.isStatics = false ∧ E.s.vm.findClass q.1 = some cell.cls := by
  have hcell := hR.2.2 o ho
  rw [hkd] at hcell
  obtain ⟨cell, q1, q2, q3, q4⟩ := hcell.obj hci
  exact ⟨cell, q1, by rw [q3]; rfl, by rw [q2]; exact (X.K.1.1 ci q hc).2.1⟩
/-- invokevirtual of z on an object of class number ci, which selects z itself -/
theorem mp_IV (X : mp_C G Ts E y cc nL rt hh d mc ms) {index ci N o : Nat} {q : vw_C} (hd : decode cc pc = .ok (.invokevirtual index, 3)) (hY : mp_Y Ts z cz nz rz hz) (hlk : Cond.methodLink y.cls index z ∈ Ts) (hin : Cond.instanceMethod z ∈ Ts) (hse : Cond.selects q.1 z z ∈ Ts) (hci : ci < 10) (hc : vwCl[ci]? = some q)
    (hz0 : z.cls ≠ "java/lang/invoke/MethodHandle" ∧ z.cls ≠ "java/lang/invoke/VarHandle") (hlen : (parseMethodDescriptor z.desc).map (fun dd => dd.parameters.length) = some as.length) (ho : o < h.2.2) (hkd : h.1 o = (ci, N)) : mp_I G E h cc pc z (.ref (G.1 + o) :: as) (as.reverse ++ .ref (G.1 + o) :: rest) rest := by
  intro T locs cs sl ls hR S
  obtain ⟨mk, methM, hnamed, hmethM, hstM, habM⟩ := Cond.instanceMethod_spec (X.hts _ hin)
  obtain ⟨mk', methM', cM, hnamed', hmethM', -, -, -, -, -, -, hsigM⟩ := hY _ _ X.hts
  cases hnamed.symm.trans hnamed'
  cases hmethM.symm.trans hmethM'
  obtain ⟨cellB, hcB, hoB, hclB⟩ := mp_recv X hR ho hkd hci hc
  obtain ⟨c2, r2, m2, q1, q2, q3, q4, kP, hkP, hkPi⟩ := Cond.selects_spec (X.hts _ hse)
  cases hclB.symm.trans q1
  cases (State.methodFound?_of_named hnamed hz0).symm.trans q2
  cases hnamed.symm.trans q3
  have hselP : selectMethod E.e.platform E.s.vm cellB.cls mk = .method mk := by rw [Launch.admits_selectMethod S.admits]; exact q4
  have hl2 : as.length = methM.sig.parameters.length := by rw [hsigM] at hlen; exact (Option.some.inj hlen).symm
  obtain ⟨vm₁, X₁, hstep₁⟩ := S.invokevirtual X.1 X.own (X.hts _ hlk) hnamed hmethM hstM hkP hkPi hz0 (a := G.1 + o) (cell := cellB) hcB
    (fun z h => by rw [h] at hoB; cases hoB) hselP hmethM habM hkP hkPi (g := F0 E.m pc ls (as.reverse ++ .ref (G.1 + o) :: rest)) rfl (argsL := as) (rest := rest) hl2 rfl (by rw [X.2.1]; exact hd)
  exact ⟨vm₁, mk, _, hd, X₁, X₁.named hnamed, fun target ht => hstep₁ _ fun acts => by rw [doInvoke_state]; exact ht⟩
/-- the same, private (a nest mate's) -/
theorem mp_IVN (X : mp_C G Ts E y cc nL rt hh d mc ms) {index ci N o : Nat} {host : String} {q : vw_C} (hd : decode cc pc = .ok (.invokevirtual index, 3)) (hY : mp_Y Ts z cz nz rz hz) (hlk : Cond.methodLinkNest y.cls index z host ∈ Ts) (hin : Cond.instanceMethod z ∈ Ts) (hse : Cond.selects q.1 z z ∈ Ts) (hci : ci < 10) (hc : vwCl[ci]? = some q)
    (hz0 : z.cls ≠ "java/lang/invoke/MethodHandle" ∧ z.cls ≠ "java/lang/invoke/VarHandle") (hlen : (parseMethodDescriptor z.desc).map (fun dd => dd.parameters.length) = some as.length) (ho : o < h.2.2) (hkd : h.1 o = (ci, N)) : mp_I G E h cc pc z (.ref (G.1 + o) :: as) (as.reverse ++ .ref (G.1 + o) :: rest) rest := by
  intro T locs cs sl ls hR S
  obtain ⟨mk, methM, hnamed, hmethM, hstM, habM⟩ := Cond.instanceMethod_spec (X.hts _ hin)
  obtain ⟨mk', methM', cM, hnamed', hmethM', -, -, -, -, -, -, hsigM⟩ := hY _ _ X.hts
  cases hnamed.symm.trans hnamed'
  cases hmethM.symm.trans hmethM'
  obtain ⟨cellB, hcB, hoB, hclB⟩ := mp_recv X hR ho hkd hci hc
  obtain ⟨c2, r2, m2, q1, q2, q3, q4, kP, hkP, hkPi⟩ := Cond.selects_spec (X.hts _ hse)
  cases hclB.symm.trans q1
  cases (State.methodFound?_of_named hnamed hz0).symm.trans q2
  cases hnamed.symm.trans q3
  have hselP : selectMethod E.e.platform E.s.vm cellB.cls mk = .method mk := by rw [Launch.admits_selectMethod S.admits]; exact q4
  have hl2 : as.length = methM.sig.parameters.length := by rw [hsigM] at hlen; exact (Option.some.inj hlen).symm
  obtain ⟨vm₁, X₁, hstep₁⟩ := S.invokevirtualNest X.1 X.own (X.hts _ hlk) hnamed hmethM hstM hkP hkPi hz0 (a := G.1 + o) (cell := cellB) hcB
    (fun z h => by rw [h] at hoB; cases hoB) hselP hmethM habM hkP hkPi (g := F0 E.m pc ls (as.reverse ++ .ref (G.1 + o) :: rest)) rfl (argsL := as) (rest := rest) hl2 rfl (by rw [X.2.1]; exact hd)
  exact ⟨vm₁, mk, _, hd, X₁, X₁.named hnamed, fun target ht => hstep₁ _ fun acts => by rw [doInvoke_state]; exact ht⟩
/-- invokevirtual of x, abstract in its class: the object of class number ci selects z -/
theorem mp_IVA (X : mp_C G Ts E y cc nL rt hh d mc ms) {index ci N o : Nat} {x : MethodName} {q : vw_C} (hd : decode cc pc = .ok (.invokevirtual index, 3)) (hlk : Cond.methodLink y.cls index x ∈ Ts) (hsm : Cond.sameMethod x.cls x.cls x.name x.desc ∈ Ts) (hdc : Cond.declares x ∈ Ts) (hin : Cond.instanceMethod z ∈ Ts) (hse : Cond.selects q.1 x z ∈ Ts) (hci : ci < 10) (hc : vwCl[ci]? = some q)
    (hx0 : x.cls ≠ "java/lang/invoke/MethodHandle" ∧ x.cls ≠ "java/lang/invoke/VarHandle") (hlen : (parseMethodDescriptor x.desc).map (fun dd => dd.parameters.length) = some as.length) (ho : o < h.2.2) (hkd : h.1 o = (ci, N)) : mp_I G E h cc pc z (.ref (G.1 + o) :: as) (as.reverse ++ .ref (G.1 + o) :: rest) rest := by
  intro T locs cs sl ls hR S
  obtain ⟨r0, r, hn, hrm, hstR, hsigR⟩ := va_Decl.abs (va_Nw.of rfl (X.hts _ hdc))
  obtain ⟨cn, ck, r1, hcn, hck, hni, hf, hn1⟩ := Cond.sameMethod_found (X.hts _ hsm)
  cases hn.symm.trans hn1
  obtain ⟨mk, methM, hnamed, hmethM, -, habM⟩ := Cond.instanceMethod_spec (X.hts _ hin)
  obtain ⟨cellB, hcB, hoB, hclB⟩ := mp_recv X hR ho hkd hci hc
  obtain ⟨c2, r2, m2, q1, q2, q3, q4, kP, hkP, hkPi⟩ := Cond.selects_spec (X.hts _ hse)
  cases hclB.symm.trans q1
  cases hf.symm.trans q2
  cases hnamed.symm.trans q3
  have hselP : selectMethod E.e.platform E.s.vm cellB.cls r0 = .method mk := by rw [Launch.admits_selectMethod S.admits]; exact q4
  have hl2 : as.length = r.sig.parameters.length := by rw [hsigR] at hlen; exact (Option.some.inj hlen).symm
  obtain ⟨vm₁, X₁, hstep₁⟩ := S.invokevirtualUp X.1 X.own (X.hts _ hlk) (X.hts _ hsm) hx0 hn hrm hstR (a := G.1 + o) (cell := cellB) hcB
    (fun z h => by rw [h] at hoB; cases hoB) hselP hmethM habM hkP hkPi (g := F0 E.m pc ls (as.reverse ++ .ref (G.1 + o) :: rest)) rfl (argsL := as) (rest := rest) hl2 rfl (by rw [X.2.1]; exact hd)
  exact ⟨vm₁, mk, _, hd, X₁, X₁.named hnamed, fun target ht => hstep₁ _ fun acts => by rw [doInvoke_state]; exact ht⟩
/-- invokespecial of a constructor -/
theorem mp_II (X : mp_C G Ts E y cc nL rt hh d mc ms) {index o : Nat} (hd : decode cc pc = .ok (.invokespecial index, 3)) (hz1 : z.name = "<init>") (hcode : Cond.code z cz nz none ∈ Ts) (hlk : Cond.methodLink y.cls index z ∈ Ts) (hin : Cond.instanceMethod z ∈ Ts)
    (hz0 : z.cls ≠ "java/lang/invoke/MethodHandle" ∧ z.cls ≠ "java/lang/invoke/VarHandle") (hlen : (parseMethodDescriptor z.desc).map (fun dd => dd.parameters.length) = some as.length) : mp_I G E h cc pc z (.ref (G.1 + o) :: as) (as.reverse ++ .ref (G.1 + o) :: rest) rest := by
  intro T locs cs sl ls hR S
  have hpl : E.e.platform.magicAccessors = ({} : Platform).magicAccessors := by rw [S.admits.platform]
  have hl2 : ∀ sig, parseMethodDescriptor z.desc = some sig → as.length = sig.parameters.length := fun sig hs => by rw [hs] at hlen; exact (Option.some.inj hlen).symm
  obtain ⟨mk, methM, cM, kP, vm₁, hnamed, hmethM, hcodeM, -, hlocalsM, -, hkP, -, hW₁, hstep₁⟩ := Steps.initColdArgs (e := E.e) S.here X.1 S.warmed hpl X.own hz1 hz0 (X.hts _ hlk) (X.hts _ hin) (X.hts _ hcode) (f := F0 E.m pc ls (as.reverse ++ .ref (G.1 + o) :: rest)) rfl hl2 rfl (by rw [X.2.1]; exact hd)
  have X₁ := S.noted hW₁
  exact ⟨vm₁, mk, _, hd, X₁, X₁.named hnamed, fun target ht => hstep₁ _ fun acts => by rw [doInvoke_state]; exact ht⟩
theorem mp_objInit (X : mp_C G Ts E y cc nL rt hh d mc ms) (pc' : Nat) {idx a : Nat} (hlk : Cond.methodLink y.cls idx Lib.objectInit ∈ Ts) (hin : Cond.instanceMethod Lib.objectInit ∈ Ts) (hco : Cond.code Lib.objectInit ⟨#[0xb1]⟩ 1 none ∈ Ts) (hd : decode cc pc = .ok (.invokespecial idx, 3)) (hp : pc + 3 = pc') (hLn : L.length = nL) (hd1 : 1 ≤ d) (hW : (st.map fun v => v.category).sum ≤ 8)
    (kk : mp_W G E h cs sl Q pc' L st) : mp_W G E h cs sl Q pc L (.ref a :: st) := by
  subst hp
  intro H locs hR hl
  exact W.objInit X.1 X.2.1 X.own (X.hts _ hlk) (X.hts _ hin) (X.hts _ hco) rfl (by rw [X.2.2.1]; simpa using hLn) rfl hd (X.rf hd1) (X.rl (by simp; omega)) (kk H locs hR hl)
end MPCALL
