theorem mp_xuse {G : mp_G} {U : State} (hX : mp_X G U) (hb : ∀ q, q < G.1 → U.heap[q]? = G.2.1[q]?) (args : Array Value) : ∀ w ∈ mp_xw, w.before args U = true := by
  obtain ⟨hsz, hX⟩ := hX
  have key : ∀ a cell, G.2.1[a]? = some cell → U.heap[a]? = some cell := fun a cell hc => by
    rw [hb a (by rw [← hsz]; exact (Array.getElem?_eq_some_iff.mp hc).1)]; exact hc
  have hst : ∀ C n dd, (Cond.isRef (.static C n dd)).before #[] ({ U with heap := G.2.1 } : State) = true → (Cond.isRef (.static C n dd)).before args U = true := by
    intro C n dd h
    have e : ({ U with heap := G.2.1 } : State).fieldNamed? C n dd true = U.fieldNamed? C n dd true := rfl
    simp only [Cond.before, Cond.holds, Cond.value, Term.eval] at h ⊢
    rw [e] at h
    cases hf : U.fieldNamed? C n dd true with
    | none => simp [hf] at h
    | some p =>
      obtain ⟨c, k, sl⟩ := p
      simp only [hf] at h ⊢
      cases hs : k.statics with
      | none => simp [hs] at h
      | some a =>
        cases hc : G.2.1[a]? with
        | none => simp [hs, hc] at h
        | some cell =>
          have := key a cell hc
          simp [hs, hc] at h
          simp [hs, this]
          exact h
  have hls : ∀ C n dd, (Cond.laysStatic C n dd).before #[] ({ U with heap := G.2.1 } : State) = true → (Cond.laysStatic C n dd).before args U = true := by
    intro C n dd h
    have e : ({ U with heap := G.2.1 } : State).fieldFound? C n dd = U.fieldFound? C n dd := rfl
    simp only [Cond.before, Cond.holds, Cond.value] at h ⊢
    rw [e] at h
    cases hg : U.vm.findClass C with
    | none => simp [hg] at h
    | some c0 =>
      cases hf : U.fieldFound? C n dd with
      | none => simp [hg, hf] at h
      | some p =>
        obtain ⟨c, k, i, f⟩ := p
        simp only [hg, hf] at h ⊢
        cases hs : k.statics with
        | none => simp [hs] at h
        | some a =>
          cases hc : G.2.1[a]? with
          | none => simp [hs, hc] at h
          | some cell =>
            have := key a cell hc
            simp [hs, hc] at h
            simp [hs, this]
            exact h
  intro w hw
  have h1 := hX w hw
  simp only [mp_xw, List.mem_cons, List.not_mem_nil, or_false] at hw
  rcases hw with rfl | rfl | rfl | rfl
  · exact hst _ _ _ h1
  · exact hst _ _ _ h1
  · exact hls _ _ _ h1
  · exact hls _ _ _ h1
section MPT
variable {G : mp_G} {Ts : List Cond} {E : mp_E} {y : MethodName} {cc : ByteArray} {nL : Nat} {rt : Option FieldType} {hh : List (Nat × Nat × Nat × Nat)} {d mc ms : Nat} {h : mp_H} {pc : Nat} {L : List Slot} {Pr : Option Value → mp_H → Prop} {Pt : Nat → mp_H → Prop}
/-- 'throw new X()' where the method has changed nothing yet -/
theorem mp_throw (X : mp_C G Ts E y cc nL rt [] d mc ms) (htr : E.l.stackTraces = false) {x ic im : Nat} (hx : x < 3) (h0 : decode cc pc = .ok (.new ic, 3)) (h1 : decode cc (pc + 3) = .ok (.dup, 1)) (h2 : decode cc (pc + 4) = .ok (.invokespecial im, 3)) (h3 : decode cc (pc + 7) = .ok (.athrow, 1))
    (hcl : Cond.classLink y.cls ic (mp_xn x) ∈ Ts) (hin : Cond.instantiable (mp_xn x) 6 ∈ Ts) (hini : Cond.initialized (mp_xn x) ∈ Ts) (hat : ∀ w ∈ Bundle.ownAtoms0 y.cls im (mp_xn x) ["java/lang/RuntimeException", "java/lang/Exception"], w ∈ Ts ∨ w ∈ mp_xw)
    (hd6 : 6 ≤ d) (hc : 1 ≤ mc) (hs : 6 ≤ ms) (hLn : L.length = nL) (hR : mp_R G h E.s.heap) (hPt : Pt x (mp_new h (20 + x) 0 (fun _ => .null))) :
    W E.p E.l E.e E.R E.s E.m E.args E.below E.meth E.c E.s.heap [] 0 0 (mp_Q G E mc ms Pr Pt) (F0 E.m pc L.toArray []) := by
  refine W.newc X.1 X.2.1 X.own (X.hts _ hcl) (X.hts _ hin) (X.hts _ hini) rfl h0 (X.rc (by omega)) (X.rs (by omega)) fun cC kC e1 e2 e3 e4 => ?_
  refine lv_dup (pc := pc + 3) X.1 X.2.1 h1 rfl ?_
  intro T2 hT2 S2
  have hcell : T2.heap[E.s.heap.size]? = some { cls := cC, slots := kC.instanceTypes.map defaultValue, vm := .none } := by
    rw [hT2, Array.getElem?_push_size]
  have hout : ∀ x ∈ E.c.exceptionTable.toList, covers x (pc + 4 + 3) = false := by
    intro x hx
    have : E.c.exceptionTable.toList = [] := List.map_eq_nil_iff.mp X.exc
    rw [this] at hx
    cases hx
  have hfit : Bundle.fit (mp_xn x) = true := by
    rcases (show x = 0 ∨ x = 1 ∨ x = 2 by omega) with rfl | rfl | rfl <;> decide
  obtain ⟨U, hsteps, hrun, hend, hWU, hsame, ce, hce, hoc⟩ := S2.ctorThrow0 X.1 (by rw [S2.admits.platform]; exact htr) X.own (cls := mp_xn x) (names := ["java/lang/RuntimeException", "java/lang/Exception"]) (ic := im) hfit (by decide)
    (fun w hw => by
      rcases hat w hw with h9 | h9
      · exact X.hts w h9
      · exact mp_xuse X.K.2.2.1 hR.2.1 _ w h9) (fun z hz => by cases hz) (a := E.s.heap.size) e1 e2 hcell (Nat.le_refl _) (g := F0 E.m (pc + 4) L.toArray [.ref E.s.heap.size, .ref E.s.heap.size]) rfl (by rw [X.2.2.1]; simpa using hLn) rfl rfl (rest := []) rfl (by rw [X.2.1]; exact h2) (by rw [X.2.1]; exact h3) hout
    (X.rf (show 2 + 3 + 1 ≤ d by omega)) (X.rl (by simp [Value.category]; omega)) X.locks
  have hsz : G.1 + h.2.2 = E.s.heap.size := hR.1
  refine ⟨U, hsteps, .threw E.s.heap.size, mp_new h (20 + x) 0 (fun _ => .null), hrun, hend, ⟨hWU, [], hsame.mono (by omega) (by omega), fun q hq => by cases hq⟩, ?_, h.2.2, x, hsz.symm, by show h.2.2 < h.2.2 + 1; omega, by simp [mp_new], hx, hPt⟩
  obtain ⟨-, q2, q3, -, -, q6⟩ := hsame
  have q3' : U.heap.size ≤ E.s.heap.size + 1 := q3
  have hlt : E.s.heap.size < U.heap.size := (Array.getElem?_eq_some_iff.mp hce).1
  have hold : ∀ q, q < E.s.heap.size → U.heap[q]? = E.s.heap[q]? := by
    intro q hq
    have hg : E.s.heap[q]? = some E.s.heap[q] := Array.getElem?_eq_getElem hq
    obtain ⟨c', g1, g2, g3, g4⟩ := q6 q _ hg
    have g1' : U.heap[q]? = some c' := g1
    rw [g1', hg, g2]
    have e : c'.slots = (E.s.heap[q]).slots := by
      apply Array.ext_getElem?
      intro i
      exact g4 i (fun hm => by cases hm)
    rw [e]
  refine hR.push (by omega) hold ?_
  unfold mp_cell
  rw [if_neg (by show ¬ 20 + x < 10; omega), if_neg (by show ¬ 20 + x < 20; omega)]
  refine ⟨ce, by rw [hsz]; exact hce, ?_, hoc.vm⟩
  have e9 := (X.K.2.1 x hx).symm.trans hoc.cls
  rw [show 20 + x - 20 = x by omega]
  exact (Option.some.inj e9).symm
end MPT
