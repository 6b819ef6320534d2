section MPR
variable {G : mp_G} {Ts : List Cond} {E : mp_E} {y : MethodName} {cc : ByteArray} {nL : Nat} {rt : Option FieldType} {hh : List (Nat × Nat × Nat × Nat)} {d mc ms : Nat} {h : mp_H} {cs sl : Nat} {Q : State → Prop} {pc : Nat} {L : List Slot} {st : List Value}
theorem mp_iconst (X : mp_C G Ts E y cc nL rt hh d mc ms) (pc' : Nat) {n : Int} {v : Int32} (hd : decode cc pc = .ok (.iconst n, 1)) (hp : pc + 1 = pc') (hv : Int32.ofInt n = v) (k : mp_W G E h cs sl Q pc' L (.int v :: st)) : mp_W G E h cs sl Q pc L (st) := by
  subst hp
  exact fun H locs hR hl => lv_iconst X.1 X.2.1 hd hv (k H locs hR hl)
theorem mp_bipush (X : mp_C G Ts E y cc nL rt hh d mc ms) (pc' : Nat) {n : Int} {v : Int32} (hd : decode cc pc = .ok (.bipush n, 2)) (hp : pc + 2 = pc') (hv : (Int8.ofInt n).toInt32 = v) (k : mp_W G E h cs sl Q pc' L (.int v :: st)) : mp_W G E h cs sl Q pc L (st) := by
  subst hp
  exact fun H locs hR hl => lv_bipush X.1 X.2.1 hd hv (k H locs hR hl)
theorem mp_sipush (X : mp_C G Ts E y cc nL rt hh d mc ms) (pc' : Nat) {n : Int} {v : Int32} (hd : decode cc pc = .ok (.sipush n, 3)) (hp : pc + 3 = pc') (hv : (Int16.ofInt n).toInt32 = v) (k : mp_W G E h cs sl Q pc' L (.int v :: st)) : mp_W G E h cs sl Q pc L (st) := by
  subst hp
  exact fun H locs hR hl => lv_sipush X.1 X.2.1 hd hv (k H locs hR hl)
theorem mp_lconst (X : mp_C G Ts E y cc nL rt hh d mc ms) (pc' : Nat) {n : Fin 2} {v : Int64} (hd : decode cc pc = .ok (.lconst n, 1)) (hp : pc + 1 = pc') (hv : Int64.ofNat (n : Nat) = v) (k : mp_W G E h cs sl Q pc' L (.long v :: st)) : mp_W G E h cs sl Q pc L (st) := by
  subst hp
  exact fun H locs hR hl => lv_lconst X.1 X.2.1 hd hv (k H locs hR hl)
theorem mp_null (X : mp_C G Ts E y cc nL rt hh d mc ms) (pc' : Nat)  (hd : decode cc pc = .ok (.aconst_null, 1)) (hp : pc + 1 = pc')  (k : mp_W G E h cs sl Q pc' L (.null :: st)) : mp_W G E h cs sl Q pc L (st) := by
  subst hp
  exact fun H locs hR hl => lv_null X.1 X.2.1 hd  (k H locs hR hl)
theorem mp_iload_n (X : mp_C G Ts E y cc nL rt hh d mc ms) (pc' : Nat) {k : Fin 4} {i : Nat} {x : Int32} (hd : decode cc pc = .ok (.iload_n k, 1)) (hi : (k : Nat) = i) (hp : pc + 1 = pc') (hl0 : L[i]? = some (.val (.int x))) (kk : mp_W G E h cs sl Q pc' L (.int x :: st)) : mp_W G E h cs sl Q pc L (st) := by
  subst hp
  exact fun H locs hR hl => lv_iload_n X.1 X.2.1 hd hi (by rw [List.getElem?_toArray]; exact hl0) (kk H locs hR hl)
theorem mp_iload (X : mp_C G Ts E y cc nL rt hh d mc ms) (pc' : Nat) {i : Nat} {x : Int32} (hd : decode cc pc = .ok (.iload i, 2)) (hp : pc + 2 = pc') (hl0 : L[i]? = some (.val (.int x))) (kk : mp_W G E h cs sl Q pc' L (.int x :: st)) : mp_W G E h cs sl Q pc L (st) := by
  subst hp
  exact fun H locs hR hl => lv_iload X.1 X.2.1 hd (by rw [List.getElem?_toArray]; exact hl0) (kk H locs hR hl)
theorem mp_aload_n (X : mp_C G Ts E y cc nL rt hh d mc ms) (pc' : Nat) {k : Fin 4} {i : Nat} {x : Nat} (hd : decode cc pc = .ok (.aload_n k, 1)) (hi : (k : Nat) = i) (hp : pc + 1 = pc') (hl0 : L[i]? = some (.val (.ref x))) (kk : mp_W G E h cs sl Q pc' L (.ref x :: st)) : mp_W G E h cs sl Q pc L (st) := by
  subst hp
  exact fun H locs hR hl => lv_aload_n X.1 X.2.1 hd hi (by rw [List.getElem?_toArray]; exact hl0) (kk H locs hR hl)
theorem mp_aload (X : mp_C G Ts E y cc nL rt hh d mc ms) (pc' : Nat) {i : Nat} {x : Nat} (hd : decode cc pc = .ok (.aload i, 2)) (hp : pc + 2 = pc') (hl0 : L[i]? = some (.val (.ref x))) (kk : mp_W G E h cs sl Q pc' L (.ref x :: st)) : mp_W G E h cs sl Q pc L (st) := by
  subst hp
  exact fun H locs hR hl => lv_aload X.1 X.2.1 hd (by rw [List.getElem?_toArray]; exact hl0) (kk H locs hR hl)
theorem mp_aload_nN (X : mp_C G Ts E y cc nL rt hh d mc ms) (pc' : Nat) {k : Fin 4} {i : Nat} (hd : decode cc pc = .ok (.aload_n k, 1)) (hi : (k : Nat) = i) (hp : pc + 1 = pc') (hl0 : L[i]? = some (.val (.null))) (kk : mp_W G E h cs sl Q pc' L (.null :: st)) : mp_W G E h cs sl Q pc L (st) := by
  subst hp
  exact fun H locs hR hl => lv_aload_nN X.1 X.2.1 hd hi (by rw [List.getElem?_toArray]; exact hl0) (kk H locs hR hl)
theorem mp_aloadN (X : mp_C G Ts E y cc nL rt hh d mc ms) (pc' : Nat) {i : Nat} (hd : decode cc pc = .ok (.aload i, 2)) (hp : pc + 2 = pc') (hl0 : L[i]? = some (.val (.null))) (kk : mp_W G E h cs sl Q pc' L (.null :: st)) : mp_W G E h cs sl Q pc L (st) := by
  subst hp
  exact fun H locs hR hl => lv_aloadN X.1 X.2.1 hd (by rw [List.getElem?_toArray]; exact hl0) (kk H locs hR hl)
def mp_s1 : Slot → Bool
  | .unset => true
  | .second => false
  | .val v => v.category == 1
theorem mp_store {L : List Slot} {i : Nat} {x : Slot} {v : Value} (h : L[i]? = some x) (hx : mp_s1 x = true) (hv : v.category = 1) : storeLocals L.toArray i v = some (L.set i (.val v)).toArray := by
  have hi : i < L.length := (List.getElem?_eq_some_iff.mp h).1
  have e1 : L.toArray[i]? = some x := by rw [List.getElem?_toArray]; exact h
  have e2 : storeSelf L.toArray i v = some (L.set i (.val v)).toArray := by
    simp [storeSelf, setAt, hi, hv]
  unfold storeLocals
  rw [e1]
  cases x with
  | unset => exact e2
  | second => simp [mp_s1] at hx
  | val w =>
    have hw : w.category = 1 := by simpa [mp_s1] using hx
    simp [hw]
    exact e2
theorem mp_istore_n (X : mp_C G Ts E y cc nL rt hh d mc ms) (pc' : Nat) {k : Fin 4} {i : Nat} {x : Int32} {z : Slot} {L' : List Slot} (hd : decode cc pc = .ok (.istore_n k, 1)) (hi : (k : Nat) = i) (hp : pc + 1 = pc') (hz : L[i]? = some z) (hz1 : mp_s1 z = true) (hL : L.set i (.val (.int x)) = L') (kk : mp_W G E h cs sl Q pc' L' (st)) : mp_W G E h cs sl Q pc L (.int x :: st) := by
  subst hp
  subst hL
  subst hi
  intro H locs hR hl T hT S
  obtain ⟨t, a, b⟩ := kk H locs hR hl T hT S
  have hexec := X.1
  have hb := X.2.1
  have e' := mp_store (v := .int x) hz hz1 rfl
  refine ⟨t, ?_, b⟩
  jvm_step S.here [S.here.top, ↓top_set S.here.top, hexec, hb, hd, e']
  exact a
theorem mp_istore (X : mp_C G Ts E y cc nL rt hh d mc ms) (pc' : Nat) {i : Nat} {x : Int32} {z : Slot} {L' : List Slot} (hd : decode cc pc = .ok (.istore i, 2)) (hp : pc + 2 = pc') (hz : L[i]? = some z) (hz1 : mp_s1 z = true) (hL : L.set i (.val (.int x)) = L') (kk : mp_W G E h cs sl Q pc' L' (st)) : mp_W G E h cs sl Q pc L (.int x :: st) := by
  subst hp
  subst hL
  intro H locs hR hl T hT S
  obtain ⟨t, a, b⟩ := kk H locs hR hl T hT S
  have hexec := X.1
  have hb := X.2.1
  have e' := mp_store (v := .int x) hz hz1 rfl
  refine ⟨t, ?_, b⟩
  jvm_step S.here [S.here.top, ↓top_set S.here.top, hexec, hb, hd, e']
  exact a
theorem mp_astore_n (X : mp_C G Ts E y cc nL rt hh d mc ms) (pc' : Nat) {k : Fin 4} {i : Nat} {x : Nat} {z : Slot} {L' : List Slot} (hd : decode cc pc = .ok (.astore_n k, 1)) (hi : (k : Nat) = i) (hp : pc + 1 = pc') (hz : L[i]? = some z) (hz1 : mp_s1 z = true) (hL : L.set i (.val (.ref x)) = L') (kk : mp_W G E h cs sl Q pc' L' (st)) : mp_W G E h cs sl Q pc L (.ref x :: st) := by
  subst hp
  subst hL
  subst hi
  intro H locs hR hl T hT S
  obtain ⟨t, a, b⟩ := kk H locs hR hl T hT S
  have hexec := X.1
  have hb := X.2.1
  have e' := mp_store (v := .ref x) hz hz1 rfl
  refine ⟨t, ?_, b⟩
  jvm_step S.here [S.here.top, ↓top_set S.here.top, hexec, hb, hd, e', Value.isRef]
  exact a
theorem mp_astore (X : mp_C G Ts E y cc nL rt hh d mc ms) (pc' : Nat) {i : Nat} {x : Nat} {z : Slot} {L' : List Slot} (hd : decode cc pc = .ok (.astore i, 2)) (hp : pc + 2 = pc') (hz : L[i]? = some z) (hz1 : mp_s1 z = true) (hL : L.set i (.val (.ref x)) = L') (kk : mp_W G E h cs sl Q pc' L' (st)) : mp_W G E h cs sl Q pc L (.ref x :: st) := by
  subst hp
  subst hL
  intro H locs hR hl T hT S
  obtain ⟨t, a, b⟩ := kk H locs hR hl T hT S
  have hexec := X.1
  have hb := X.2.1
  have e' := mp_store (v := .ref x) hz hz1 rfl
  refine ⟨t, ?_, b⟩
  jvm_step S.here [S.here.top, ↓top_set S.here.top, hexec, hb, hd, e', Value.isRef]
  exact a
theorem mp_astoreN (X : mp_C G Ts E y cc nL rt hh d mc ms) (pc' : Nat) {i : Nat} {z : Slot} {L' : List Slot} (hd : decode cc pc = .ok (.astore i, 2)) (hp : pc + 2 = pc') (hz : L[i]? = some z) (hz1 : mp_s1 z = true) (hL : L.set i (.val .null) = L') (kk : mp_W G E h cs sl Q pc' L' (st)) : mp_W G E h cs sl Q pc L (.null :: st) := by
  subst hp
  subst hL
  intro H locs hR hl T hT S
  obtain ⟨t, a, b⟩ := kk H locs hR hl T hT S
  have hexec := X.1
  have hb := X.2.1
  have e' := mp_store (v := .null) hz hz1 rfl
  refine ⟨t, ?_, b⟩
  jvm_step S.here [S.here.top, ↓top_set S.here.top, hexec, hb, hd, e', Value.isRef]
  exact a
theorem mp_iinc (X : mp_C G Ts E y cc nL rt hh d mc ms) (pc' : Nat) {i : Nat} {n : Int} {x v : Int32} {L' : List Slot} (hd : decode cc pc = .ok (.iinc i n, 3)) (hp : pc + 3 = pc') (hz : L[i]? = some (.val (.int x))) (hv : x + Int32.ofInt n = v) (hL : L.set i (.val (.int v)) = L') (kk : mp_W G E h cs sl Q pc' L' (st)) : mp_W G E h cs sl Q pc L (st) := by
  subst hp
  subst hL
  subst hv
  intro H locs hR hl T hT S
  obtain ⟨t, a, b⟩ := kk H locs hR hl T hT S
  have hexec := X.1
  have hb := X.2.1
  have hg : L.toArray[i]? = some (.val (.int x)) := by rw [List.getElem?_toArray]; exact hz
  have e' := mp_store (v := .int (x + Int32.ofInt n)) hz rfl rfl
  refine ⟨t, ?_, b⟩
  jvm_step S.here [S.here.top, ↓top_set S.here.top, hexec, hb, hd, hg, e']
  exact a
theorem mp_iadd (X : mp_C G Ts E y cc nL rt hh d mc ms) (pc' : Nat) {a b : Int32} (hd : decode cc pc = .ok (.iadd, 1)) (hp : pc + 1 = pc')  (k : mp_W G E h cs sl Q pc' L (.int (a + b) :: st)) : mp_W G E h cs sl Q pc L (.int b :: .int a :: st) := by
  subst hp
  exact fun H locs hR hl => lv_iadd X.1 X.2.1 hd  (k H locs hR hl)
theorem mp_isub (X : mp_C G Ts E y cc nL rt hh d mc ms) (pc' : Nat) {a b : Int32} (hd : decode cc pc = .ok (.isub, 1)) (hp : pc + 1 = pc')  (k : mp_W G E h cs sl Q pc' L (.int (a - b) :: st)) : mp_W G E h cs sl Q pc L (.int b :: .int a :: st) := by
  subst hp
  exact fun H locs hR hl => lv_isub X.1 X.2.1 hd  (k H locs hR hl)
theorem mp_imul (X : mp_C G Ts E y cc nL rt hh d mc ms) (pc' : Nat) {a b : Int32} (hd : decode cc pc = .ok (.imul, 1)) (hp : pc + 1 = pc')  (k : mp_W G E h cs sl Q pc' L (.int (a * b) :: st)) : mp_W G E h cs sl Q pc L (.int b :: .int a :: st) := by
  subst hp
  exact fun H locs hR hl => lv_imul X.1 X.2.1 hd  (k H locs hR hl)
theorem mp_iand (X : mp_C G Ts E y cc nL rt hh d mc ms) (pc' : Nat) {a b : Int32} (hd : decode cc pc = .ok (.iand, 1)) (hp : pc + 1 = pc')  (k : mp_W G E h cs sl Q pc' L (.int (a &&& b) :: st)) : mp_W G E h cs sl Q pc L (.int b :: .int a :: st) := by
  subst hp
  exact fun H locs hR hl => lv_iand X.1 X.2.1 hd  (k H locs hR hl)
theorem mp_ior (X : mp_C G Ts E y cc nL rt hh d mc ms) (pc' : Nat) {a b : Int32} (hd : decode cc pc = .ok (.ior, 1)) (hp : pc + 1 = pc')  (k : mp_W G E h cs sl Q pc' L (.int (a ||| b) :: st)) : mp_W G E h cs sl Q pc L (.int b :: .int a :: st) := by
  subst hp
  exact fun H locs hR hl => lv_ior X.1 X.2.1 hd  (k H locs hR hl)
theorem mp_ixor (X : mp_C G Ts E y cc nL rt hh d mc ms) (pc' : Nat) {a b : Int32} (hd : decode cc pc = .ok (.ixor, 1)) (hp : pc + 1 = pc')  (k : mp_W G E h cs sl Q pc' L (.int (a ^^^ b) :: st)) : mp_W G E h cs sl Q pc L (.int b :: .int a :: st) := by
  subst hp
  exact fun H locs hR hl => lv_ixor X.1 X.2.1 hd  (k H locs hR hl)
theorem mp_ishl (X : mp_C G Ts E y cc nL rt hh d mc ms) (pc' : Nat) {a b : Int32} (hd : decode cc pc = .ok (.ishl, 1)) (hp : pc + 1 = pc')  (k : mp_W G E h cs sl Q pc' L (.int (a <<< (b &&& 31)) :: st)) : mp_W G E h cs sl Q pc L (.int b :: .int a :: st) := by
  subst hp
  exact fun H locs hR hl => lv_ishl X.1 X.2.1 hd  (k H locs hR hl)
theorem mp_idiv (X : mp_C G Ts E y cc nL rt hh d mc ms) (pc' : Nat) {a b : Int32} (hd : decode cc pc = .ok (.idiv, 1)) (hp : pc + 1 = pc') (hne : ¬ b = 0) (k : mp_W G E h cs sl Q pc' L (.int (a / b) :: st)) : mp_W G E h cs sl Q pc L (.int b :: .int a :: st) := by
  subst hp
  exact fun H locs hR hl => lv_idiv X.1 X.2.1 hd hne (k H locs hR hl)
theorem mp_irem (X : mp_C G Ts E y cc nL rt hh d mc ms) (pc' : Nat) {a b : Int32} (hd : decode cc pc = .ok (.irem, 1)) (hp : pc + 1 = pc') (hne : ¬ b = 0) (k : mp_W G E h cs sl Q pc' L (.int (a - a / b * b) :: st)) : mp_W G E h cs sl Q pc L (.int b :: .int a :: st) := by
  subst hp
  exact fun H locs hR hl => lv_irem X.1 X.2.1 hd hne (k H locs hR hl)
theorem mp_i2l (X : mp_C G Ts E y cc nL rt hh d mc ms) (pc' : Nat) {a : Int32} {v : Int64} (hd : decode cc pc = .ok (.i2l, 1)) (hp : pc + 1 = pc') (hv : a.toInt64 = v) (k : mp_W G E h cs sl Q pc' L (.long v :: st)) : mp_W G E h cs sl Q pc L (.int a :: st) := by
  subst hp
  exact fun H locs hR hl => lv_i2l X.1 X.2.1 hd hv (k H locs hR hl)
theorem mp_i2c (X : mp_C G Ts E y cc nL rt hh d mc ms) (pc' : Nat) {a v : Int32} (hd : decode cc pc = .ok (.i2c, 1)) (hp : pc + 1 = pc') (hv : (a.toUInt32 % 65536).toInt32 = v) (k : mp_W G E h cs sl Q pc' L (.int v :: st)) : mp_W G E h cs sl Q pc L (.int a :: st) := by
  subst hp
  exact fun H locs hR hl => lv_i2c X.1 X.2.1 hd hv (k H locs hR hl)
theorem mp_lcmp (X : mp_C G Ts E y cc nL rt hh d mc ms) (pc' : Nat) {a b : Int64} (hd : decode cc pc = .ok (.lcmp, 1)) (hp : pc + 1 = pc')  (k : mp_W G E h cs sl Q pc' L (.int (lg_cmp a b) :: st)) : mp_W G E h cs sl Q pc L (.long b :: .long a :: st) := by
  subst hp
  exact fun H locs hR hl => W.lcmp X.1 X.2.1 hd  (k H locs hR hl)
theorem mp_dup (X : mp_C G Ts E y cc nL rt hh d mc ms) (pc' : Nat) {va : Value} (hd : decode cc pc = .ok (.dup, 1)) (hp : pc + 1 = pc') (hva : va.category = 1) (k : mp_W G E h cs sl Q pc' L (va :: va :: st)) : mp_W G E h cs sl Q pc L (va :: st) := by
  subst hp
  exact fun H locs hR hl => lv_dup X.1 X.2.1 hd hva (k H locs hR hl)
theorem mp_pop (X : mp_C G Ts E y cc nL rt hh d mc ms) (pc' : Nat) {va : Value} (hd : decode cc pc = .ok (.pop, 1)) (hp : pc + 1 = pc') (hva : va.category = 1) (k : mp_W G E h cs sl Q pc' L (st)) : mp_W G E h cs sl Q pc L (va :: st) := by
  subst hp
  exact fun H locs hR hl => lv_pop X.1 X.2.1 hd hva (k H locs hR hl)
theorem mp_dup_x1 (X : mp_C G Ts E y cc nL rt hh d mc ms) (pc' : Nat) {va vb : Value} (hd : decode cc pc = .ok (.dup_x1, 1)) (hp : pc + 1 = pc') (hva : va.category = 1) (hvb : vb.category = 1) (k : mp_W G E h cs sl Q pc' L (va :: vb :: va :: st)) : mp_W G E h cs sl Q pc L (va :: vb :: st) := by
  subst hp
  exact fun H locs hR hl => lv_dup_x1 X.1 X.2.1 hd hva hvb (k H locs hR hl)
theorem mp_dup2 (X : mp_C G Ts E y cc nL rt hh d mc ms) (pc' : Nat) {va vb : Value} (hd : decode cc pc = .ok (.dup2, 1)) (hp : pc + 1 = pc') (hva : va.category = 1) (hvb : vb.category = 1) (k : mp_W G E h cs sl Q pc' L (va :: vb :: va :: vb :: st)) : mp_W G E h cs sl Q pc L (va :: vb :: st) := by
  subst hp
  exact fun H locs hR hl => lv_dup2_11 X.1 X.2.1 hd hva hvb (k H locs hR hl)
theorem mp_if_eq (X : mp_C G Ts E y cc nL rt hh d mc ms) (tgt pc' : Nat) {a : Int32} {off : Int} (hd : decode cc pc = .ok (.ifCond .eq off, 3)) (ht : (pc : Int) + off = (tgt : Int)) (hp : pc + 3 = pc') (kt : a = 0 → mp_W G E h cs sl Q tgt L (st)) (kf : ¬ a = 0 → mp_W G E h cs sl Q pc' L (st)) : mp_W G E h cs sl Q pc L (.int a :: st) := by
  subst hp
  exact fun H locs hR hl => lv_if_eq X.1 X.2.1 hd ht (fun q => kt q H locs hR hl) (fun q => kf q H locs hR hl)
theorem mp_icmp_eq (X : mp_C G Ts E y cc nL rt hh d mc ms) (tgt pc' : Nat) {a b : Int32} {off : Int} (hd : decode cc pc = .ok (.if_icmp .eq off, 3)) (ht : (pc : Int) + off = (tgt : Int)) (hp : pc + 3 = pc') (kt : a = b → mp_W G E h cs sl Q tgt L (st)) (kf : ¬ a = b → mp_W G E h cs sl Q pc' L (st)) : mp_W G E h cs sl Q pc L (.int b :: .int a :: st) := by
  subst hp
  exact fun H locs hR hl => lv_icmp_eq X.1 X.2.1 hd ht (fun q => kt q H locs hR hl) (fun q => kf q H locs hR hl)
theorem mp_if_ne (X : mp_C G Ts E y cc nL rt hh d mc ms) (tgt pc' : Nat) {a : Int32} {off : Int} (hd : decode cc pc = .ok (.ifCond .ne off, 3)) (ht : (pc : Int) + off = (tgt : Int)) (hp : pc + 3 = pc') (kt : ¬ a = 0 → mp_W G E h cs sl Q tgt L (st)) (kf : a = 0 → mp_W G E h cs sl Q pc' L (st)) : mp_W G E h cs sl Q pc L (.int a :: st) := by
  subst hp
  exact fun H locs hR hl => lv_if_ne X.1 X.2.1 hd ht (fun q => kt q H locs hR hl) (fun q => kf q H locs hR hl)
theorem mp_icmp_ne (X : mp_C G Ts E y cc nL rt hh d mc ms) (tgt pc' : Nat) {a b : Int32} {off : Int} (hd : decode cc pc = .ok (.if_icmp .ne off, 3)) (ht : (pc : Int) + off = (tgt : Int)) (hp : pc + 3 = pc') (kt : ¬ a = b → mp_W G E h cs sl Q tgt L (st)) (kf : a = b → mp_W G E h cs sl Q pc' L (st)) : mp_W G E h cs sl Q pc L (.int b :: .int a :: st) := by
  subst hp
  exact fun H locs hR hl => lv_icmp_ne X.1 X.2.1 hd ht (fun q => kt q H locs hR hl) (fun q => kf q H locs hR hl)
theorem mp_if_lt (X : mp_C G Ts E y cc nL rt hh d mc ms) (tgt pc' : Nat) {a : Int32} {off : Int} (hd : decode cc pc = .ok (.ifCond .lt off, 3)) (ht : (pc : Int) + off = (tgt : Int)) (hp : pc + 3 = pc') (kt : a < 0 → mp_W G E h cs sl Q tgt L (st)) (kf : ¬ a < 0 → mp_W G E h cs sl Q pc' L (st)) : mp_W G E h cs sl Q pc L (.int a :: st) := by
  subst hp
  exact fun H locs hR hl => lv_if_lt X.1 X.2.1 hd ht (fun q => kt q H locs hR hl) (fun q => kf q H locs hR hl)
theorem mp_icmp_lt (X : mp_C G Ts E y cc nL rt hh d mc ms) (tgt pc' : Nat) {a b : Int32} {off : Int} (hd : decode cc pc = .ok (.if_icmp .lt off, 3)) (ht : (pc : Int) + off = (tgt : Int)) (hp : pc + 3 = pc') (kt : a < b → mp_W G E h cs sl Q tgt L (st)) (kf : ¬ a < b → mp_W G E h cs sl Q pc' L (st)) : mp_W G E h cs sl Q pc L (.int b :: .int a :: st) := by
  subst hp
  exact fun H locs hR hl => lv_icmp_lt X.1 X.2.1 hd ht (fun q => kt q H locs hR hl) (fun q => kf q H locs hR hl)
theorem mp_if_ge (X : mp_C G Ts E y cc nL rt hh d mc ms) (tgt pc' : Nat) {a : Int32} {off : Int} (hd : decode cc pc = .ok (.ifCond .ge off, 3)) (ht : (pc : Int) + off = (tgt : Int)) (hp : pc + 3 = pc') (kt : 0 ≤ a → mp_W G E h cs sl Q tgt L (st)) (kf : ¬ 0 ≤ a → mp_W G E h cs sl Q pc' L (st)) : mp_W G E h cs sl Q pc L (.int a :: st) := by
  subst hp
  exact fun H locs hR hl => lv_if_ge X.1 X.2.1 hd ht (fun q => kt q H locs hR hl) (fun q => kf q H locs hR hl)
theorem mp_icmp_ge (X : mp_C G Ts E y cc nL rt hh d mc ms) (tgt pc' : Nat) {a b : Int32} {off : Int} (hd : decode cc pc = .ok (.if_icmp .ge off, 3)) (ht : (pc : Int) + off = (tgt : Int)) (hp : pc + 3 = pc') (kt : b ≤ a → mp_W G E h cs sl Q tgt L (st)) (kf : ¬ b ≤ a → mp_W G E h cs sl Q pc' L (st)) : mp_W G E h cs sl Q pc L (.int b :: .int a :: st) := by
  subst hp
  exact fun H locs hR hl => lv_icmp_ge X.1 X.2.1 hd ht (fun q => kt q H locs hR hl) (fun q => kf q H locs hR hl)
theorem mp_if_gt (X : mp_C G Ts E y cc nL rt hh d mc ms) (tgt pc' : Nat) {a : Int32} {off : Int} (hd : decode cc pc = .ok (.ifCond .gt off, 3)) (ht : (pc : Int) + off = (tgt : Int)) (hp : pc + 3 = pc') (kt : 0 < a → mp_W G E h cs sl Q tgt L (st)) (kf : ¬ 0 < a → mp_W G E h cs sl Q pc' L (st)) : mp_W G E h cs sl Q pc L (.int a :: st) := by
  subst hp
  exact fun H locs hR hl => lv_if_gt X.1 X.2.1 hd ht (fun q => kt q H locs hR hl) (fun q => kf q H locs hR hl)
theorem mp_icmp_gt (X : mp_C G Ts E y cc nL rt hh d mc ms) (tgt pc' : Nat) {a b : Int32} {off : Int} (hd : decode cc pc = .ok (.if_icmp .gt off, 3)) (ht : (pc : Int) + off = (tgt : Int)) (hp : pc + 3 = pc') (kt : b < a → mp_W G E h cs sl Q tgt L (st)) (kf : ¬ b < a → mp_W G E h cs sl Q pc' L (st)) : mp_W G E h cs sl Q pc L (.int b :: .int a :: st) := by
  subst hp
  exact fun H locs hR hl => lv_icmp_gt X.1 X.2.1 hd ht (fun q => kt q H locs hR hl) (fun q => kf q H locs hR hl)
theorem mp_if_le (X : mp_C G Ts E y cc nL rt hh d mc ms) (tgt pc' : Nat) {a : Int32} {off : Int} (hd : decode cc pc = .ok (.ifCond .le off, 3)) (ht : (pc : Int) + off = (tgt : Int)) (hp : pc + 3 = pc') (kt : a ≤ 0 → mp_W G E h cs sl Q tgt L (st)) (kf : ¬ a ≤ 0 → mp_W G E h cs sl Q pc' L (st)) : mp_W G E h cs sl Q pc L (.int a :: st) := by
  subst hp
  exact fun H locs hR hl => lv_if_le X.1 X.2.1 hd ht (fun q => kt q H locs hR hl) (fun q => kf q H locs hR hl)
theorem mp_icmp_le (X : mp_C G Ts E y cc nL rt hh d mc ms) (tgt pc' : Nat) {a b : Int32} {off : Int} (hd : decode cc pc = .ok (.if_icmp .le off, 3)) (ht : (pc : Int) + off = (tgt : Int)) (hp : pc + 3 = pc') (kt : a ≤ b → mp_W G E h cs sl Q tgt L (st)) (kf : ¬ a ≤ b → mp_W G E h cs sl Q pc' L (st)) : mp_W G E h cs sl Q pc L (.int b :: .int a :: st) := by
  subst hp
  exact fun H locs hR hl => lv_icmp_le X.1 X.2.1 hd ht (fun q => kt q H locs hR hl) (fun q => kf q H locs hR hl)
theorem mp_goto (X : mp_C G Ts E y cc nL rt hh d mc ms) (tgt : Nat) {off : Int} (hd : decode cc pc = .ok (.goto off, 3)) (ht : (pc : Int) + off = (tgt : Int)) (k : mp_W G E h cs sl Q tgt L (st)) : mp_W G E h cs sl Q pc L (st) :=
  fun H locs hR hl => lv_goto X.1 X.2.1 hd ht (k H locs hR hl)
theorem mp_ifnonnull (X : mp_C G Ts E y cc nL rt hh d mc ms) (tgt : Nat) {x : Nat} {off : Int} (hd : decode cc pc = .ok (.ifnonnull off, 3)) (ht : (pc : Int) + off = (tgt : Int)) (k : mp_W G E h cs sl Q tgt L (st)) : mp_W G E h cs sl Q pc L (.ref x :: st) :=
  fun H locs hR hl => lv_ifnonnull X.1 X.2.1 hd ht (k H locs hR hl)
theorem mp_ifnonnullN (X : mp_C G Ts E y cc nL rt hh d mc ms) (pc' : Nat) {off : Int} (hd : decode cc pc = .ok (.ifnonnull off, 3)) (hp : pc + 3 = pc') (k : mp_W G E h cs sl Q pc' L (st)) : mp_W G E h cs sl Q pc L (.null :: st) := by
  subst hp
  exact fun H locs hR hl => lv_ifnonnullN X.1 X.2.1 hd (k H locs hR hl)
theorem mp_ifnull (X : mp_C G Ts E y cc nL rt hh d mc ms) (pc' : Nat) {x : Nat} {off : Int} (hd : decode cc pc = .ok (.ifnull off, 3)) (hp : pc + 3 = pc') (k : mp_W G E h cs sl Q pc' L (st)) : mp_W G E h cs sl Q pc L (.ref x :: st) := by
  subst hp
  exact fun H locs hR hl => lv_ifnull X.1 X.2.1 hd (k H locs hR hl)
theorem mp_ifnullN (X : mp_C G Ts E y cc nL rt hh d mc ms) (tgt : Nat) {off : Int} (hd : decode cc pc = .ok (.ifnull off, 3)) (ht : (pc : Int) + off = (tgt : Int)) (k : mp_W G E h cs sl Q tgt L (st)) : mp_W G E h cs sl Q pc L (.null :: st) :=
  fun H locs hR hl => lv_ifnullN X.1 X.2.1 hd ht (k H locs hR hl)
theorem mp_tableIn (X : mp_C G Ts E y cc nL rt hh d mc ms) (tgt : Nat) {dflt lo hi : Int} {offs : Array Int} {len : Nat} {x : Int32} {off : Int} (hd : decode cc pc = .ok (.tableswitch dflt lo hi offs, len)) (h1 : ¬ x.toInt < lo) (h2 : ¬ hi < x.toInt) (ho : offs[(x.toInt - lo).toNat]? = some off) (ht : (pc : Int) + off = (tgt : Int)) (k : mp_W G E h cs sl Q tgt L (st)) : mp_W G E h cs sl Q pc L (.int x :: st) :=
  fun H locs hR hl => lv_tableIn X.1 X.2.1 hd h1 h2 ho ht (k H locs hR hl)
theorem mp_tableOut (X : mp_C G Ts E y cc nL rt hh d mc ms) (tgt : Nat) {dflt lo hi : Int} {offs : Array Int} {len : Nat} {x : Int32} (hd : decode cc pc = .ok (.tableswitch dflt lo hi offs, len)) (hq : x.toInt < lo ∨ hi < x.toInt) (ht : (pc : Int) + dflt = (tgt : Int)) (k : mp_W G E h cs sl Q tgt L (st)) : mp_W G E h cs sl Q pc L (.int x :: st) :=
  fun H locs hR hl => lv_tableOut X.1 X.2.1 hd hq ht (k H locs hR hl)
theorem mp_lookup (X : mp_C G Ts E y cc nL rt hh d mc ms) (tgt : Nat) {dflt : Int} {ps : Array (Int × Int)} {len : Nat} {x : Int32} {off : Int} (hd : decode cc pc = .ok (.lookupswitch dflt ps, len)) (hs : (ps.toList.zip (ps.toList.drop 1)).all (fun (a, next) => a.1 < next.1) = true) (ho : Op.lookupswitch.offset ps.toList dflt x.toInt = off) (ht : (pc : Int) + off = (tgt : Int)) (k : mp_W G E h cs sl Q tgt L (st)) : mp_W G E h cs sl Q pc L (.int x :: st) :=
  fun H locs hR hl => lv_lookup X.1 X.2.1 hd hs ho ht (k H locs hR hl)
end MPR
