/-- a field as the instruction names it: of class number ci with N fields, the k-th -/
def mp_L (Ts : List Cond) (own : String) (index ci N k : Nat) : Prop := ci < 10 ∧ k < N ∧ ∃ (C : String) (T : u_T) (ref : String), vwCl[ci]? = some (C, T, N) ∧ (∀ w ∈ u_ws C T N, w ∈ Ts) ∧ Cond.fieldLink own index ref (T k).2.1 (T k).2.2.1 ∈ Ts ∧ (ref = (T k).1 ∨ Cond.sameField ref (T k).1 (T k).2.1 (T k).2.2.1 ∈ Ts)
/-- the same, for a store: its type, final or not -/
def mp_LS (Ts : List Cond) (own : String) (index ci N k : Nat) (fin : Bool) (ty : FieldType) : Prop := ci < 10 ∧ k < N ∧ ∃ (C : String) (T : u_T) (ref : String) (ty0 : Nat → FieldType), vwCl[ci]? = some (C, T, N) ∧ (∀ w ∈ u_ws C T N, w ∈ Ts) ∧ Cond.fieldLink own index ref (T k).2.1 (T k).2.2.1 ∈ Ts ∧ (ref = (T k).1 ∨ Cond.sameField ref (T k).1 (T k).2.1 (T k).2.2.1 ∈ Ts) ∧
  (∀ k, k < N → parseFieldDescriptor (T k).2.2.1 = some (ty0 k)) ∧ (∀ a, a < N → ∀ b, b < N → a ≠ b → (T a).2.1 ≠ (T b).2.1) ∧ (T k).2.2.2 = fin ∧ ((T k).1 = own ∨ fin = false) ∧ ty0 k = ty
/-- a class that is made -/
def mp_LN (Ts : List Cond) (own : String) (index ci N : Nat) (f : Nat → Value) : Prop := ci < 10 ∧ ∃ (C : String) (T : u_T) (ty0 : Nat → FieldType), vwCl[ci]? = some (C, T, N) ∧ (∀ w ∈ u_ws C T N, w ∈ Ts) ∧ (∀ k, k < N → parseFieldDescriptor (T k).2.2.1 = some (ty0 k)) ∧ Cond.classLink own index C ∈ Ts ∧ Cond.instantiable C N ∈ Ts ∧ Cond.initialized C ∈ Ts ∧ ∀ k, k < N → defaultValue (ty0 k) = f k
section MPH
variable {G : mp_G} {Ts : List Cond} {E : mp_E} {y : MethodName} {cc : ByteArray} {nL : Nat} {rt : Option FieldType} {hh : List (Nat × Nat × Nat × Nat)} {d mc ms : Nat} {h : mp_H} {cs sl : Nat} {Q : State → Prop} {pc : Nat} {L : List Slot} {st : List Value}
theorem mp_same {Ts : List Cond} {args : Array Value} {s : State} {ref O n dd : String} (hts : ∀ w ∈ Ts, w.before args s = true) (h : ref = O ∨ Cond.sameField ref O n dd ∈ Ts) {x : ClassId × Class × Nat × Field} (hi : s.fieldFound? O n dd = some x) : s.fieldFound? ref n dd = some x := by
  rcases h with rfl | h
  · exact hi
  · exact u_same (hts _ h) x hi
theorem mp_getf (X : mp_C G Ts E y cc nL rt hh d mc ms) (pc' : Nat) {index ci N k o : Nat} {v : Value} (hL : mp_L Ts y.cls index ci N k) (hd : decode cc pc = .ok (.getfield index, 3)) (hp : pc + 3 = pc') (ho : o < h.2.2) (hkd : h.1 o = (ci, N)) (hv : h.2.1 o k = v)
    (kk : mp_W G E h cs sl Q pc' L (v :: st)) : mp_W G E h cs sl Q pc L (.ref (G.1 + o) :: st) := by
  subst hp
  intro H locs hR hl
  obtain ⟨hci, hk, C, T, ref, hc, hin, hlk, hsm⟩ := hL
  have hcell := hR.2.2 o ho
  rw [hkd] at hcell
  obtain ⟨cell, q1, q2, q3, q4⟩ := hcell.obj hci
  obtain ⟨hS, hfc, kC, hkC, hkind⟩ := X.K.1.1 ci _ hc
  obtain ⟨cf, kf, fi, f, hi, hsl⟩ := hS k hk
  refine W.getf X.1 X.2.1 X.own (X.hts _ hlk) (mp_same X.hts hsm hi) (u_facts hfc hkC (u_lays X.hts hin hk) hi).1 q1 (by rw [q3]; exact fun q => by cases q) (v := v) ?_ rfl rfl hd (kk H locs hR hl)
  rw [hsl, q4 k hk, hv]
theorem mp_putf (X : mp_C G Ts E y cc nL rt hh d mc ms) (pc' : Nat) {index ci N k o : Nat} {v : Value} {fin : Bool} {ty : FieldType} (hL : mp_LS Ts y.cls index ci N k fin ty) (hd : decode cc pc = .ok (.putfield index, 3)) (hp : pc + 3 = pc') (hini : fin = false ∨ y.name = "<init>") (ho : o < h.2.2) (hkd : h.1 o = (ci, N)) (hn : narrow ty v = v) (hfit : fits ty v = true)
    (kk : mp_W G E (mp_set h o k v) cs sl Q pc' L st) : mp_W G E h cs sl Q pc L (v :: .ref (G.1 + o) :: st) := by
  subst hp
  intro H locs hR hl
  obtain ⟨hci, hk, C, T, ref, ty0, hc, hin, hlk, hsm, hty, hnm, hfin, hdecl, rfl⟩ := hL
  have hap := va_apart (own := y.cls) X.hts hin ty0 hty hnm X.K.1 hc
  have hcell := hR.2.2 o ho
  rw [hkd] at hcell
  obtain ⟨cell, q1, q2, q3, q4⟩ := hcell.obj hci
  obtain ⟨hS, hfc, kC, hkC, hkind⟩ := X.K.1.1 ci _ hc
  obtain ⟨cf, kf, fi, f, hi, hsl⟩ := hS k hk
  have hlay := X.hts _ (hin _ (u_in_lay hk))
  have hst := (u_facts hfc hkC (u_lays X.hts hin hk) hi).1
  have fin2 : ∀ H' : Heap, H'[G.1 + o]? = some (cell.setSlot f.slot v) → H'.size = H.size → (∀ q, q ≠ G.1 + o → H'[q]? = H[q]?) → W E.p E.l E.e E.R E.s E.m E.args E.below E.meth E.c H' (locs ++ [⟨G.1 + o, f.slot⟩]) cs sl Q (F0 E.m (pc + 3) L.toArray st) := by
    intro H' e1 e2 e3
    refine kk H' _ (hR.put e2 e3 ?_) (fun q hq => ?_)
    · rw [hkd]
      unfold mp_cell
      rw [if_pos hci]
      rw [hsl] at e1
      exact ⟨_, e1, q2, q3, t_set q4 hap hk v⟩
    · rcases List.mem_append.mp hq with h1 | h1
      · exact hl q h1
      · rw [List.mem_singleton.mp h1]; exact Nat.le_add_right _ _
  cases fin with
  | false =>
    unfold u_lay at hlay
    rw [if_neg (by rw [hfin]; decide)] at hlay
    have h6 := u_store hfc hkC hkind hlay hi (hty k hk) hn hfit
    exact W.putK X.1 X.2.1 (f := f) ⟨X.own, X.hts _ hlk, ⟨_, _, _, mp_same X.hts hsm hi⟩, hst⟩ (by rw [q2]; exact h6) q1 q3 (by rw [hsl]; exact k2_hasslot (q4 k hk)) rfl rfl hd fin2
  | true =>
    have hin2 : y.name = "<init>" := by rcases hini with h1 | h1; cases h1; exact h1
    have hdecl' : (T k).1 = y.cls := by rcases hdecl with h1 | h1; exact h1; cases h1
    unfold u_lay at hlay
    rw [if_pos hfin] at hlay
    have hcf : E.m.cls = cf := by
      obtain ⟨_, _, c', _, _, _, -, -, hf', -, -, -, hown2, -⟩ := Cond.laysFinal_spec hlay
      have e1 : c' = cf := by have := hi.symm.trans hf'; simp at this; exact this.1.symm
      rw [hdecl'] at hown2
      rw [← e1]; exact Option.some.inj (X.own.symm.trans hown2)
    have h6 := u_fits hfc hkC hkind (Or.inr hlay) hi (hty k hk) hn hfit
    exact W.putFinK X.1 X.2.1 X.own (X.hts _ hlk) (mp_same X.hts hsm hi) hst hcf (by rw [X.nm]; exact hin2) (by rw [q2]; exact h6) q1 q3 (by rw [hsl]; exact k2_hasslot (q4 k hk)) rfl rfl hd fin2
theorem mp_newo (X : mp_C G Ts E y cc nL rt hh d mc ms) (pc' : Nat) {index ci N : Nat} {f : Nat → Value} (hL : mp_LN Ts y.cls index ci N f) (hd : decode cc pc = .ok (.new index, 3)) (hp : pc + 3 = pc') (hcs : cs + 1 ≤ mc) (hsl : sl + N ≤ ms)
    (kk : mp_W G E (mp_new h ci N f) (cs + 1) (sl + N) Q pc' L (.ref (G.1 + h.2.2) :: st)) : mp_W G E h cs sl Q pc L st := by
  subst hp
  intro H locs hR hl
  obtain ⟨hci, C, T, ty0, hc, hin, hty, hlk, hins, hini, hf⟩ := hL
  have hKn := X.K.1.1 ci _ hc
  refine W.newcK X.1 X.2.1 X.own (X.hts _ hlk) (X.hts _ hins) (X.hts _ hini) rfl hd (X.rc hcs) (X.rs hsl) hKn.2.1 hR.1.symm fun H1 kC hkC e1 z1 o1 => ?_
  refine kk H1 locs (hR.push (by rw [z1, hR.1]) (fun q hq => o1 q (by rw [hR.1]; exact hq)) ?_) hl
  unfold mp_cell
  rw [if_pos hci]
  exact (u_born ty0 X.hts hin hKn hkC e1 hty).to hf
theorem mp_tyAt (G : mp_G) {t : Nat} (ht : t < 8) : (mp_T G)[t]? = some (G.2.2.2.1 t, mp_ty t) := by
  rcases (show t = 0 ∨ t = 1 ∨ t = 2 ∨ t = 3 ∨ t = 4 ∨ t = 5 ∨ t = 6 ∨ t = 7 by omega) with rfl | rfl | rfl | rfl | rfl | rfl | rfl | rfl <;> rfl
theorem mp_arrOf (X : mp_C G Ts E y cc nL rt hh d mc ms) {t : Nat} (ht : t < 8) : ArrOfT E.s (G.2.2.2.1 t) (mp_ty t) ∧ va_RA E.s (G.2.2.2.1 t) (mp_ty t) := X.K.1.2 t _ (mp_tyAt G ht)
theorem mp_R.arr {H : Heap} {o t n : Nat} (hR : mp_R G h H) (ho : o < h.2.2) (hkd : h.1 o = (10 + t, n)) (ht : t < 8) : H[G.1 + o]? = some (arrV (G.2.2.2.1 t) n (h.2.1 o)) := by
  have hc := hR.2.2 o ho
  rw [hkd] at hc
  exact hc.arr (by omega)
theorem mp_ix {j n : Nat} {i : Int32} (hi : i = nI j) (hj : j < n) (hn : n < 2 ^ 31) (cA : ClassId) (f : Nat → Value) : ¬ (i < 0 ∨ (arrV cA n f).slots.size ≤ i.toNatClampNeg) := by
  rw [arrV_size, hi]
  exact vp_in_nI hj hn
theorem mp_cl {j n : Nat} {i : Int32} (hi : i = nI j) (hj : j < n) (hn : n < 2 ^ 31) : i.toNatClampNeg = j := by
  rw [hi]
  exact nI_clamp (by omega)
theorem mp_rd {j n : Nat} {i : Int32} (hi : i = nI j) (hj : j < n) (hn : n < 2 ^ 31) (cA : ClassId) (f : Nat → Value) {v : Value} (hv : f j = v) : (arrV cA n f).slots[i.toNatClampNeg]? = some v := by
  rw [mp_cl hi hj hn, arrV_read _ _ hj, hv]
/-- behind a store into an array -/
theorem mp_aput {H : Heap} {locs : List Loc} {o t n j : Nat} {i : Int32} {v : Value} (hR : mp_R G h H) (hl : ∀ q ∈ locs, G.1 ≤ q.base) (hkd : h.1 o = (10 + t, n)) (ht : t < 8) (hi : i = nI j) (hj : j < n) (hn : n < 2 ^ 31) {pc : Nat} {st : List Value}
    (kk : mp_W G E (mp_set h o j v) cs sl Q pc L st) : ∀ H' : Heap, H'[G.1 + o]? = some ((arrV (G.2.2.2.1 t) n (h.2.1 o)).setSlot i.toNatClampNeg v) → H'.size = H.size → (∀ q, q ≠ G.1 + o → H'[q]? = H[q]?) → W E.p E.l E.e E.R E.s E.m E.args E.below E.meth E.c H' (locs ++ [⟨G.1 + o, i.toNatClampNeg⟩]) cs sl Q (F0 E.m pc L.toArray st) := by
  intro H' e1 e2 e3
  refine kk H' _ (hR.put e2 e3 ?_) (fun q hq => ?_)
  · rw [hkd]
    unfold mp_cell
    rw [if_neg (by show ¬ 10 + t < 10; omega), if_pos (by show 10 + t < 20; omega), e1, mp_cl hi hj hn, arrV_store]
    show _ = some (arrV (G.2.2.2.1 (10 + t - 10)) n _)
    rw [show 10 + t - 10 = t by omega]
  · rcases List.mem_append.mp hq with h1 | h1
    · exact hl q h1
    · rw [List.mem_singleton.mp h1]; exact Nat.le_add_right _ _
theorem mp_iald (X : mp_C G Ts E y cc nL rt hh d mc ms) (pc' : Nat) {o n : Nat} (j : Nat) {i : Int32} {v : Value} (hd : decode cc pc = .ok (.iaload, 1)) (hp : pc + 1 = pc') (ho : o < h.2.2) (hkd : h.1 o = (10, n)) (hi : i = nI j) (hj : j < n) (hn : n < 2 ^ 31) (hv : h.2.1 o j = v)
    (kk : mp_W G E h cs sl Q pc' L (v :: st)) : mp_W G E h cs sl Q pc L (.int i :: .ref (G.1 + o) :: st) := by
  subst hp
  intro H locs hR hl
  exact W.iald (v := v) X.1 X.2.1 (hR.arr (t := 0) ho hkd (by decide)) ((mp_arrOf X (t := 0) (by decide)).1 n _) (fun q => by cases q) (mp_ix hi hj hn _ _) (mp_rd hi hj hn _ _ hv) rfl rfl hd (kk H locs hR hl)
theorem mp_zald (X : mp_C G Ts E y cc nL rt hh d mc ms) (pc' : Nat) {o n : Nat} (j : Nat) {i : Int32} {v : Value} (hd : decode cc pc = .ok (.baload, 1)) (hp : pc + 1 = pc') (ho : o < h.2.2) (hkd : h.1 o = (11, n)) (hi : i = nI j) (hj : j < n) (hn : n < 2 ^ 31) (hv : h.2.1 o j = v)
    (kk : mp_W G E h cs sl Q pc' L (v :: st)) : mp_W G E h cs sl Q pc L (.int i :: .ref (G.1 + o) :: st) := by
  subst hp
  intro H locs hR hl
  exact W.zald (v := v) X.1 X.2.1 (hR.arr (t := 1) ho hkd (by decide)) ((mp_arrOf X (t := 1) (by decide)).1 n _) (fun q => by cases q) (mp_ix hi hj hn _ _) (mp_rd hi hj hn _ _ hv) rfl rfl hd (kk H locs hR hl)
theorem mp_cald (X : mp_C G Ts E y cc nL rt hh d mc ms) (pc' : Nat) {o n : Nat} (j : Nat) {i : Int32} {v : Value} (hd : decode cc pc = .ok (.caload, 1)) (hp : pc + 1 = pc') (ho : o < h.2.2) (hkd : h.1 o = (12, n)) (hi : i = nI j) (hj : j < n) (hn : n < 2 ^ 31) (hv : h.2.1 o j = v)
    (kk : mp_W G E h cs sl Q pc' L (v :: st)) : mp_W G E h cs sl Q pc L (.int i :: .ref (G.1 + o) :: st) := by
  subst hp
  intro H locs hR hl
  exact W.cald (v := v) X.1 X.2.1 (hR.arr (t := 2) ho hkd (by decide)) ((mp_arrOf X (t := 2) (by decide)).1 n _) (fun q => by cases q) (mp_ix hi hj hn _ _) (mp_rd hi hj hn _ _ hv) rfl rfl hd (kk H locs hR hl)
theorem mp_lald (X : mp_C G Ts E y cc nL rt hh d mc ms) (pc' : Nat) {o n : Nat} (j : Nat) {i : Int32} {v : Value} (hd : decode cc pc = .ok (.laload, 1)) (hp : pc + 1 = pc') (ho : o < h.2.2) (hkd : h.1 o = (13, n)) (hi : i = nI j) (hj : j < n) (hn : n < 2 ^ 31) (hv : h.2.1 o j = v)
    (kk : mp_W G E h cs sl Q pc' L (v :: st)) : mp_W G E h cs sl Q pc L (.int i :: .ref (G.1 + o) :: st) := by
  subst hp
  intro H locs hR hl
  exact W.lald (v := v) X.1 X.2.1 (hR.arr (t := 3) ho hkd (by decide)) ((mp_arrOf X (t := 3) (by decide)).1 n _) (fun q => by cases q) (mp_ix hi hj hn _ _) (mp_rd hi hj hn _ _ hv) rfl rfl hd (kk H locs hR hl)
theorem mp_aald (X : mp_C G Ts E y cc nL rt hh d mc ms) (pc' : Nat) {o n t : Nat} (j : Nat) {i : Int32} {v : Value} (hd : decode cc pc = .ok (.aaload, 1)) (hp : pc + 1 = pc') (ho : o < h.2.2) (hkd : h.1 o = (10 + t, n)) (ht : t < 8) (ht4 : 4 ≤ t) (hi : i = nI j) (hj : j < n) (hn : n < 2 ^ 31) (hv : h.2.1 o j = v)
    (kk : mp_W G E h cs sl Q pc' L (v :: st)) : mp_W G E h cs sl Q pc L (.int i :: .ref (G.1 + o) :: st) := by
  subst hp
  intro H locs hR hl
  have href : (mp_ty t).isReference = true := by
    rcases (show t = 4 ∨ t = 5 ∨ t = 6 ∨ t = 7 by omega) with rfl | rfl | rfl | rfl <;> rfl
  exact W.aald (v := v) X.1 X.2.1 (hR.arr (t := t) ho hkd ht) ((mp_arrOf X (t := t) ht).1 n _) href (fun q => by cases q) (mp_ix hi hj hn _ _) (mp_rd hi hj hn _ _ hv) rfl rfl hd (kk H locs hR hl)
theorem mp_iast (X : mp_C G Ts E y cc nL rt hh d mc ms) (pc' : Nat) {o n : Nat} (j : Nat) {i x : Int32} (hd : decode cc pc = .ok (.iastore, 1)) (hp : pc + 1 = pc') (ho : o < h.2.2) (hkd : h.1 o = (10, n)) (hi : i = nI j) (hj : j < n) (hn : n < 2 ^ 31)
    (kk : mp_W G E (mp_set h o j (.int x)) cs sl Q pc' L st) : mp_W G E h cs sl Q pc L (.int x :: .int i :: .ref (G.1 + o) :: st) := by
  subst hp
  intro H locs hR hl
  exact W.iast X.1 X.2.1 (hR.arr (t := 0) ho hkd (by decide)) ((mp_arrOf X (t := 0) (by decide)).1 n _) (fun q => by cases q) (mp_ix hi hj hn _ _) rfl rfl hd (mp_aput hR hl hkd (by decide) hi hj hn kk)
theorem mp_zast (X : mp_C G Ts E y cc nL rt hh d mc ms) (pc' : Nat) {o n : Nat} (j : Nat) {i x : Int32} (hd : decode cc pc = .ok (.bastore, 1)) (hp : pc + 1 = pc') (ho : o < h.2.2) (hkd : h.1 o = (11, n)) (hi : i = nI j) (hj : j < n) (hn : n < 2 ^ 31) (hx : narrow .boolean (.int x) = .int x)
    (kk : mp_W G E (mp_set h o j (.int x)) cs sl Q pc' L st) : mp_W G E h cs sl Q pc L (.int x :: .int i :: .ref (G.1 + o) :: st) := by
  subst hp
  intro H locs hR hl
  refine W.zast X.1 X.2.1 (hR.arr (t := 1) ho hkd (by decide)) ((mp_arrOf X (t := 1) (by decide)).1 n _) (fun q => by cases q) (mp_ix hi hj hn _ _) rfl rfl hd ?_
  rw [hx]
  exact mp_aput hR hl hkd (by decide) hi hj hn kk
theorem mp_cast (X : mp_C G Ts E y cc nL rt hh d mc ms) (pc' : Nat) {o n : Nat} (j : Nat) {i x : Int32} (hd : decode cc pc = .ok (.castore, 1)) (hp : pc + 1 = pc') (ho : o < h.2.2) (hkd : h.1 o = (12, n)) (hi : i = nI j) (hj : j < n) (hn : n < 2 ^ 31) (hx : narrow .char (.int x) = .int x)
    (kk : mp_W G E (mp_set h o j (.int x)) cs sl Q pc' L st) : mp_W G E h cs sl Q pc L (.int x :: .int i :: .ref (G.1 + o) :: st) := by
  subst hp
  intro H locs hR hl
  refine W.cast X.1 X.2.1 (hR.arr (t := 2) ho hkd (by decide)) ((mp_arrOf X (t := 2) (by decide)).1 n _) (fun q => by cases q) (mp_ix hi hj hn _ _) rfl rfl hd ?_
  rw [hx]
  exact mp_aput hR hl hkd (by decide) hi hj hn kk
theorem mp_last (X : mp_C G Ts E y cc nL rt hh d mc ms) (pc' : Nat) {o n : Nat} (j : Nat) {i : Int32} {x : Int64} (hd : decode cc pc = .ok (.lastore, 1)) (hp : pc + 1 = pc') (ho : o < h.2.2) (hkd : h.1 o = (13, n)) (hi : i = nI j) (hj : j < n) (hn : n < 2 ^ 31)
    (kk : mp_W G E (mp_set h o j (.long x)) cs sl Q pc' L st) : mp_W G E h cs sl Q pc L (.long x :: .int i :: .ref (G.1 + o) :: st) := by
  subst hp
  intro H locs hR hl
  exact W.last X.1 X.2.1 (hR.arr (t := 3) ho hkd (by decide)) ((mp_arrOf X (t := 3) (by decide)).1 n _) (fun q => by cases q) (mp_ix hi hj hn _ _) rfl rfl hd (mp_aput hR hl hkd (by decide) hi hj hn kk)
/-- a reference into an array: class ci fits the array's component -/
def mp_LA (Ts : List Cond) (t ci N : Nat) : Prop := t < 8 ∧ ci < 10 ∧ ∃ (C : String) (T : u_T) (D : String), vwCl[ci]? = some (C, T, N) ∧ mp_ty t = .object D ∧ (C = D ∨ Cond.castable C D ∈ Ts)
theorem mp_aast (X : mp_C G Ts E y cc nL rt hh d mc ms) (pc' : Nat) {o n t ci N q : Nat} (j : Nat) {i : Int32} (hL : mp_LA Ts t ci N) (hd : decode cc pc = .ok (.aastore, 1)) (hp : pc + 1 = pc') (ho : o < h.2.2) (hkd : h.1 o = (10 + t, n)) (hq : q < h.2.2) (hkq : h.1 q = (ci, N)) (hi : i = nI j) (hj : j < n) (hn : n < 2 ^ 31)
    (kk : mp_W G E (mp_set h o j (.ref (G.1 + q))) cs sl Q pc' L st) : mp_W G E h cs sl Q pc L (.ref (G.1 + q) :: .int i :: .ref (G.1 + o) :: st) := by
  subst hp
  intro H locs hR hl
  obtain ⟨ht, hci, C, T, D, hc, hty, hcast⟩ := hL
  have hcell := hR.2.2 q hq
  rw [hkq] at hcell
  obtain ⟨cell, q1, q2, q3, q4⟩ := hcell.obj hci
  obtain ⟨hS, hfc, kC, hkC, hkind⟩ := X.K.1.1 ci _ hc
  have hRA := (mp_arrOf X (t := t) ht).2
  rw [hty] at hRA
  obtain ⟨kA, comp, k1, k2, k3, -⟩ := hRA
  obtain ⟨kD, hkD, hasg⟩ : ∃ kD, E.s.vm.classes[comp]? = some kD ∧ E.s.vm.assignable (G.2.2.1.1 ci) comp = true := by
    rcases hcast with rfl | hcast
    · have e1 : comp = G.2.2.1.1 ci := Option.some.inj (k3.symm.trans hfc)
      subst e1
      exact ⟨kC, hkC, va_assign ⟨hfc, kC, hkC, hkind⟩⟩
    · obtain ⟨c0, t0, f1, f2, f3⟩ := Cond.castable_spec (X.hts _ hcast)
      cases hfc.symm.trans f1
      cases k3.symm.trans f2
      obtain ⟨kD, hkD, -⟩ := Vm.findClass_spec k3
      exact ⟨kD, hkD, f3⟩
  have h0 : ¬ i < 0 := fun z => mp_ix hi hj hn (G.2.2.2.1 t) (h.2.1 o) (Or.inl z)
  exact W.aast X.1 X.2.1 (hR.arr (t := t) ho hkd ht) (fun z h => by cases h) (fun h => by cases h) k1 k2 rfl hkD ⟨h0, Nat.not_le.mp fun z => mp_ix hi hj hn (G.2.2.2.1 t) (h.2.1 o) (Or.inr z)⟩ q1 (fun z h => by rw [q3] at h; cases h) (by rw [q2]; exact hkC) (by rw [q2]; exact hasg) rfl rfl hd (mp_aput hR hl hkd ht hi hj hn kk)
theorem mp_newa (X : mp_C G Ts E y cc nL rt hh d mc ms) (pc' : Nat) {t n : Nat} {z : Int32} {atype : ArrayType} {v0 : Value} (ht : t < 4) (hat : newarray.typeOf atype = mp_ty t) (hw : Cond.arrayClass (mp_ty t) ∈ Ts) (hv0 : defaultValue (mp_ty t) = v0) (hd : decode cc pc = .ok (.newarray atype, 2)) (hp : pc + 2 = pc') (hz : z = nI n) (hn : n ≤ 1000) (hcs : cs + 1 ≤ mc) (hsl : sl + n ≤ ms)
    (kk : mp_W G E (mp_new h (10 + t) n (fun _ => v0)) (cs + 1) (sl + n) Q pc' L (.ref (G.1 + h.2.2) :: st)) : mp_W G E h cs sl Q pc L (.int z :: st) := by
  subst hp
  intro H locs hR hl
  have hz0 : ¬ z < 0 := by rw [hz]; exact nI_pos (by omega)
  have hzn : z.toNatClampNeg = n := by rw [hz]; exact nI_clamp (by omega)
  have hby : n * componentBytes (newarray.typeOf atype) ≤ 536870912 := by
    rw [hat]
    rcases (show t = 0 ∨ t = 1 ∨ t = 2 ∨ t = 3 by omega) with rfl | rfl | rfl | rfl <;> simp [mp_ty, componentBytes] <;> omega
  refine va_newaK X.1 X.2.1 (by rw [hat]; exact X.hts _ hw) rfl hd rfl hz0 hzn hby (X.rc hcs) (X.rs hsl) hR.1.symm fun H1 cA e1 z1 o1 hAr hNm => ?_
  have hRA := (mp_arrOf X (t := t) (by omega)).2
  have ecA : cA = G.2.2.2.1 t := by
    rw [hat] at hNm
    rcases (show t = 0 ∨ t = 1 ∨ t = 2 ∨ t = 3 by omega) with rfl | rfl | rfl | rfl <;> exact Option.some.inj (hNm.symm.trans hRA)
  refine kk H1 locs (hR.push (by rw [z1, hR.1]) (fun q hq => o1 q (by rw [hR.1]; exact hq)) ?_) hl
  unfold mp_cell
  rw [if_neg (by show ¬ 10 + t < 10; omega), if_pos (by show 10 + t < 20; omega), e1, hat, ecA, hv0]
  show _ = some (arrV (G.2.2.2.1 (10 + t - 10)) n _)
  rw [show 10 + t - 10 = t by omega]
theorem mp_newr (X : mp_C G Ts E y cc nL rt hh d mc ms) (pc' : Nat) {t n index : Nat} {z : Int32} {C : String} (ht : t < 8) (hty : mp_ty t = .object C) (hlk : Cond.classLink y.cls index C ∈ Ts) (hov : Cond.arrayOver (.object C) ∈ Ts) (hd : decode cc pc = .ok (.anewarray index, 3)) (hp : pc + 3 = pc') (hz : z = nI n) (hn : n ≤ 1000) (hcs : cs + 1 ≤ mc) (hsl : sl + n ≤ ms)
    (kk : mp_W G E (mp_new h (10 + t) n (fun _ => .null)) (cs + 1) (sl + n) Q pc' L (.ref (G.1 + h.2.2) :: st)) : mp_W G E h cs sl Q pc L (.int z :: st) := by
  subst hp
  intro H locs hR hl
  have hz0 : ¬ z < 0 := by rw [hz]; exact nI_pos (by omega)
  have hzn : z.toNatClampNeg = n := by rw [hz]; exact nI_clamp (by omega)
  refine W.anew X.1 X.2.1 X.own (X.hts _ hlk) (X.hts _ hov) rfl hd rfl hz0 (by rw [hzn]; omega) (X.rc hcs) (by rw [hzn]; exact X.rs hsl) fun cA kA comp f1 f2 f3 f4 => ?_
  have hRA := (mp_arrOf X (t := t) ht).2
  rw [hty] at hRA
  obtain ⟨kA', comp', k1, k2, k3, k4⟩ := hRA
  have ecA : cA = G.2.2.2.1 t := Option.some.inj (f1.symm.trans k4)
  rw [hzn, ← hR.1]
  refine kk _ locs (hR.push (by simp) (fun q hq => by rw [Array.getElem?_push, if_neg (Nat.ne_of_lt hq)]) ?_) hl
  unfold mp_cell
  rw [if_neg (by show ¬ 10 + t < 10; omega), if_pos (by show 10 + t < 20; omega), hR.1, Array.getElem?_push_size, arrV_new, ecA]
  show _ = some (arrV (G.2.2.2.1 (10 + t - 10)) n _)
  rw [show 10 + t - 10 = t by omega]
end MPH
