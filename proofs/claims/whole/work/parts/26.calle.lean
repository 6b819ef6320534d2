section MPCE
variable {G : mp_G} {Ts : List Cond} {E : mp_E} {y z : MethodName} {cc cz : ByteArray} {nL nz : Nat} {rt rz : Option FieldType} {hh hz : List (Nat × Nat × Nat × Nat)} {d mc ms dz mz sz : Nat} {h : mp_H} {cs sl : Nat} {Q : State → Prop} {pc : Nat} {L : List Slot} {st rest as : List Value}
/-- a call that leaves the heap as it is and answers r -/
theorem mp_callE (X : mp_C G Ts E y cc nL rt hh d mc ms) (hok : ∀ w ∈ Ts, mp_okw w = true) (pc' : Nat) {r : Option Value} {st2 : List Value} (hM : mp_M G Ts E.l z dz mz sz as h (fun v h' => h' = h ∧ v = r) (fun _ _ => False)) (hY : mp_Y Ts z cz nz rz hz) (hini : Cond.initialized z.cls ∈ Ts) (hI : mp_I G E h cc pc z as st rest) (hp : pc + 3 = pc')
    (hfr : dz + 1 ≤ d) (hlo : 19 + nz ≤ 32) (hce : cs + mz ≤ mc) (hsl : sl + sz ≤ ms) (hLn : L.length = nL) (hW : (rest.map fun v => v.category).sum ≤ 8) (hst : r.toList ++ rest = st2)
    (kr : mp_W G E h (cs + mz) (sl + sz) Q pc' L st2) : mp_W G E h cs sl Q pc L st := by
  refine mp_call X hok pc' hM hY hini hI hp hfr hlo hce hsl hLn hW (fun v h' hp => ?_) (fun x h' q hp => hp.elim)
  rw [hp.1, hp.2, hst]
  exact kr
theorem mp_rs (h : mp_H) (o i : Nat) (v : Value) (a b : Nat) : (mp_set h o i v).2.1 a b = if a = o ∧ b = i then v else h.2.1 a b := rfl
end MPCE
