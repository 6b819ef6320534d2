/-! Math.max, learn, constructors of operations (rows laid by program). -/
theorem wd_mx : Cond.code Lib.Math.max.name Lib.Math.max.code 2 (some .int) ∈ mp_Ts := mp_Ts_in 278 (by decide +kernel) (by decide +kernel)
section MPMM
variable {G : mp_G} {Ts : List Cond} {E : mp_E} {y : MethodName} {cc : ByteArray} {nL : Nat} {rt : Option FieldType} {hh : List (Nat × Nat × Nat × Nat)} {d mc ms : Nat} {h : mp_H} {cs sl : Nat} {Q : State → Prop} {pc : Nat} {L : List Slot} {st : List Value}
theorem mp_mmax (X : mp_C G Ts E y cc nL rt hh d mc ms) (pc' : Nat) {index : Nat} {x z : Int32} (hlk : Cond.methodLink y.cls index Lib.Math.max.name ∈ Ts) (hst : Cond.static Lib.Math.max.name ∈ Ts) (hini : Cond.initialized "java/lang/Math" ∈ Ts) (hco : Cond.code Lib.Math.max.name Lib.Math.max.code 2 (some .int) ∈ Ts) (hd : decode cc pc = .ok (.invokestatic index, 3)) (hp : pc + 3 = pc') (hLn : L.length = nL) (hd1 : 1 ≤ d) (hW : (st.map fun v => v.category).sum ≤ 8) (hc : cs ≤ mc) (hs : sl ≤ ms)
    (kk : mp_W G E h cs sl Q pc' L (.int (if x < z then z else x) :: st)) : mp_W G E h cs sl Q pc L (.int z :: .int x :: st) := by
  subst hp
  intro H locs hR hl
  exact va_mmax X.1 X.2.1 (by rw [X.2.2.1]; simpa using hLn.symm) X.own (X.hts _ hlk) (X.hts _ hst) (X.hts _ hini) (X.hts _ hco) (X.rf hd1) (X.rl (by omega)) (X.rc hc) (X.rs hs) hd (kk H locs hR hl)
theorem mp_aastop (X : mp_C G Ts E y cc nL rt hh d mc ms) (pc' : Nat) {o n t q : Nat} (j : Nat) {i : Int32} (h2 : mp_LA Ts t 2 5) (h3 : mp_LA Ts t 3 4) (h4 : mp_LA Ts t 4 8) (hd : decode cc pc = .ok (.aastore, 1)) (hp : pc + 1 = pc') (ho : o < h.2.2) (hkd : h.1 o = (10 + t, n)) (hq : q < h.2.2) (hkq : h.1 q = (2, 5) ∨ h.1 q = (3, 4) ∨ h.1 q = (4, 8)) (hi : i = nI j) (hj : j < n) (hn : n < 2 ^ 31)
    (kk : mp_W G E (mp_set h o j (.ref (G.1 + q))) cs sl Q pc' L st) : mp_W G E h cs sl Q pc L (.ref (G.1 + q) :: .int i :: .ref (G.1 + o) :: st) := by
  rcases hkq with e | e | e
  · exact mp_aast X pc' j h2 hd hp ho hkd hq e hi hj hn kk
  · exact mp_aast X pc' j h3 hd hp ho hkd hq e hi hj hn kk
  · exact mp_aast X pc' j h4 hd hp ho hkd hq e hi hj hn kk
theorem mp_putop (X : mp_C G Ts E y cc nL rt hh d mc ms) (pc' : Nat) {index k o : Nat} {v : Value} {fin : Bool} {ty : FieldType} (h2 : mp_LS Ts y.cls index 2 5 k fin ty) (h3 : mp_LS Ts y.cls index 3 4 k fin ty) (h4 : mp_LS Ts y.cls index 4 8 k fin ty) (hd : decode cc pc = .ok (.putfield index, 3)) (hp : pc + 3 = pc') (hini : fin = false ∨ y.name = "<init>") (ho : o < h.2.2) (hkd : h.1 o = (2, 5) ∨ h.1 o = (3, 4) ∨ h.1 o = (4, 8)) (hn : narrow ty v = v) (hfit : fits ty v = true)
    (kk : mp_W G E (mp_set h o k v) cs sl Q pc' L st) : mp_W G E h cs sl Q pc L (v :: .ref (G.1 + o) :: st) := by
  rcases hkd with e | e | e
  · exact mp_putf X pc' h2 hd hp hini ho e hn hfit kk
  · exact mp_putf X pc' h3 hd hp hini ho e hn hfit kk
  · exact mp_putf X pc' h4 hd hp hini ho e hn hfit kk
end MPMM
section CPFR
variable {G : mp_G} {h h' : mp_H} {ad : Nat → Nat} {P : Nat} {A : Nat → Nat → Prop}
theorem cp_knw.fr {kn : Nat → Nat} {c : Nat} (hk : cp_knw G h ad P kn c) (hf : mp_fr A h h') (a : ¬ A P 1) (b : ∀ i, ¬ A (P + 1) i) (d : ∀ i, ¬ A (P + 5) i) : cp_knw G h' ad P kn c := ⟨(hf.2.2 _ _ a).trans hk.1, fun i hi => (hf.2.2 _ _ (b i)).trans (hk.2.1 i hi), fun i hi => (hf.2.2 _ _ (d i)).trans (hk.2.2 i hi)⟩
theorem cp_row.fr {r : List Nat} (hk : cp_row G h ad P r) (hf : mp_fr A h h') (a : ¬ A P 4) (b : ∀ i, ¬ A (P + 2) i) (d : ∀ i, ¬ A (P + 7) i) : cp_row G h' ad P r := ⟨(hf.2.2 _ _ a).trans hk.1, fun i x hx => ⟨(hf.2.2 _ _ (b i)).trans (hk.2 i x hx).1, (hf.2.2 _ _ (d x)).trans (hk.2 i x hx).2⟩⟩
theorem cp_txt.fr {r : List Nat} (hk : cp_txt G h ad P r) (hf : mp_fr A h h') (a : ¬ A P 6) (b : ∀ i, ¬ A (P + 3) i) : cp_txt G h' ad P r := ⟨(hf.2.2 _ _ a).trans hk.1, fun i x hx => (hf.2.2 _ _ (b i)).trans (hk.2 i x hx)⟩
theorem cp_mks.fr {r : List Nat} (hk : cp_mks G h ad P r) (hf : mp_fr A h h') (a : ¬ A P 8) (b : ∀ i, ¬ A (P + 4) i) : cp_mks G h' ad P r := ⟨(hf.2.2 _ _ a).trans hk.1, fun i x hx => (hf.2.2 _ _ (b i)).trans (hk.2 i x hx)⟩
theorem cp_gon.fr {g : Nat → Bool} (hk : cp_gon h P g) (hf : mp_fr A h h') (b : ∀ i, ¬ A (P + 6) i) : cp_gon h' P g := fun k hk9 => (hf.2.2 _ _ (b k)).trans (hk k hk9)
end CPFR
theorem pq_mk_ext {O O' : pq_O} {kn kn' : Nat → Nat} {M : Nat} (hO : ∀ k, k < M → O' k = O k) : ∀ c, (∀ i, i < c → kn' i = kn i) → (∀ i, i < c → kn i < M) → pq_mk O' kn' c = pq_mk O kn c ∧ ∀ x ∈ pq_mk O kn c, x < M
  | 0, _, _ => ⟨rfl, fun x hx => by cases hx⟩
  | c + 1, h, hM => by
    obtain ⟨h1, h2⟩ := pq_mk_ext hO c (fun i hi => h i (by omega)) (fun i hi => hM i (by omega))
    have hc := hM c (by omega)
    have ek := h c (by omega)
    have eid : ∀ x, x < M → pq_id O' x = pq_id O x := fun x hx => by unfold pq_id pq_tm pq_pg; rw [hO x hx]
    unfold pq_mk
    rw [ek, h1]
    have es : pq_so O' (kn c) = pq_so O (kn c) := by unfold pq_so; rw [hO _ hc]
    rw [es]
    by_cases hs : pq_so O (kn c) = 2
    · rw [if_pos hs, if_pos hs]
      refine ⟨?_, fun x hx => ?_⟩
      · unfold pq_mins
        have eq : ∀ l : List Nat, (∀ x ∈ l, x < M) → l.takeWhile (fun x => decide (pq_id O' x < pq_id O' (kn c))) = l.takeWhile (fun x => decide (pq_id O x < pq_id O (kn c))) ∧ l.dropWhile (fun x => decide (pq_id O' x < pq_id O' (kn c))) = l.dropWhile (fun x => decide (pq_id O x < pq_id O (kn c))) := by
          intro l
          induction l with
          | nil => intro _; exact ⟨rfl, rfl⟩
          | cons a l ih =>
            intro hl
            obtain ⟨i1, i2⟩ := ih (fun x hx => hl x (by simp [hx]))
            have ea := eid a (hl a (by simp))
            simp only [List.takeWhile_cons, List.dropWhile_cons, ea, eid _ hc]
            rw [eid _ hc] at i1 i2
            rw [i1, i2]
            exact ⟨rfl, rfl⟩
        rw [(eq _ h2).1, (eq _ h2).2]
      · rcases pq_mins_mem.mp hx with rfl | hx
        · exact hc
        · exact h2 x hx
    · rw [if_neg hs, if_neg hs]
      exact ⟨rfl, h2⟩
set_option maxRecDepth 100000 in
set_option maxHeartbeats 4000000 in
theorem k_P_learn (l : Launch) {G : mp_G} {h : mp_H} {M P c k : Nat} {O : pq_O} {ad kn kn' : Nat → Nat} (hK : cp_K G h P) (hO : cp_O G h M O ad) (hP41 : P + 8 ≤ 41) (hw : pq_wf M O) (hM : M ≤ 90) (hP : cp_P G h O ad P kn c) (hkn : pq_kn M O kn c) (hkn' : pq_kn M O kn' (c + 1)) (e1 : ∀ i, i < c → kn' i = kn i) (e2 : kn' c = k) :
    mp_M G mp_Ts l y_P_learn 3 0 0 [.ref (G.1 + P), .ref (G.1 + ad k)] h (fun v h' => v = none ∧ mp_fr (cp_A P) h h' ∧ cp_P G h' O ad P kn' (c + 1)) (fun _ _ => False) := by
  obtain ⟨p1, p2, p3, p4, p5, p6⟩ := hP
  have hkM : k < M := by rw [← e2]; exact hkn'.1 c (by omega)
  have hcM := pq_kn_le hkn'
  have hok := hO k hkM
  have hod := hok.kd (hw.2.2.2.1 k hkM).2.2.2.1
  have htk := (hw.2.2.2.1 k hkM).2.1
  have hnk : ∀ i, i < c → kn i ≠ k := fun i hi z => by
    have := hkn'.2.1 i c (by omega) (by omega) (by rw [e1 i hi, e2]; exact z)
    omega
  have erow : pq_row O kn' c = pq_row O kn c := pq_row_ext c e1 (fun _ _ => rfl) (fun i hi p hp => hkn.2.2 i hi p (Or.inl hp))
  have emk : pq_mk O kn' c = pq_mk O kn c := (pq_mk_ext (M := M) (fun _ _ => rfl) c e1 hkn.1).1
  have emx : pq_mx O kn' c = pq_mx O kn c := pq_mx_ext c e1 (fun _ _ => rfl)
  have egn : ∀ x, pq_gn O kn' c x = pq_gn O kn c x := fun x => pq_gn_ext x c e1 (fun _ _ => rfl)
  have ekw : ∀ x, pq_kw kn' c x = pq_kw kn c x := fun x => pq_kw_ext x c e1
  have emx1 : pq_mx O kn' (c + 1) = max (pq_mx O kn c) (pq_tm O k) := by show max (pq_mx O kn' c) (pq_tm O (kn' c)) = _; rw [emx, e2]
  have erow1 : pq_row O kn' (c + 1) = if pq_so O k = 0 then pq_ins O (pq_row O kn c) k else pq_row O kn c := by show (if pq_so O (kn' c) = 0 then pq_ins O (pq_row O kn' c) (kn' c) else pq_row O kn' c) = _; rw [erow, e2]
  have emk1 : pq_mk O kn' (c + 1) = if pq_so O k = 2 then pq_mins O (pq_mk O kn c) k else pq_mk O kn c := by show (if pq_so O (kn' c) = 2 then pq_mins O (pq_mk O kn' c) (kn' c) else pq_mk O kn' c) = _; rw [emk, e2]
  have egn1 : ∀ x, pq_gn O kn' (c + 1) x = (pq_gn O kn c x || (pq_so O k == 1 && pq_fi O k == some x)) := fun x => by show (pq_gn O kn' c x || (pq_so O (kn' c) == 1 && pq_fi O (kn' c) == some x)) = _; rw [egn, e2]
  have hmx : pq_mx O kn c ≤ M := pq_mx_le c fun i hi => by
    have h1 := hkn.1 i hi
    have h2 := (hw.2.2.2.1 _ h1).2.1
    omega
  obtain ⟨hrm, -⟩ := pq_row_ok hw c hkn
  obtain ⟨hrm1, -⟩ := pq_row_ok hw (c + 1) hkn'
  obtain ⟨hmm, hms⟩ := pq_mk_ok hw c hkn
  have hrM : ∀ p ∈ pq_row O kn c, p < M ∧ pq_so O p = 0 := fun p hp => by
    obtain ⟨a, i, hi, b⟩ := (hrm p).mp hp
    exact ⟨by rw [← b]; exact hkn.1 i hi, a⟩
  have hrM1 : ∀ p ∈ pq_row O kn' (c + 1), p < M ∧ pq_so O p = 0 := fun p hp => by
    obtain ⟨a, i, hi, b⟩ := (hrm1 p).mp hp
    exact ⟨by rw [← b]; exact hkn'.1 i hi, a⟩
  have hmM : ∀ p ∈ pq_mk O kn c, p < M ∧ pq_so O p = 2 := fun p hp => by
    obtain ⟨a, i, hi, b⟩ := (hmm p).mp hp
    exact ⟨by rw [← b]; exact hkn.1 i hi, a⟩
  have hrl := pq_row_len O kn c
  have hrl1 := pq_row_len O kn' (c + 1)
  have hml := pq_mk_len O kn c
  have w0 := hok.1.1
  refine mp_enter (by decide) Y_P_learn fun E hl X => ?_
  subst hl
  refine mp_eq rfl (L2 := [.val (.ref (G.1 + P)), .val (.ref (G.1 + ad k))]) rfl rfl ?_
  have cont : ∀ g, mp_fr (cp_A P) h g → cp_knw G g ad P kn' (c + 1) → g.2.1 P 2 = .int (nI (pq_mx O kn' (c + 1))) → cp_row G g ad P (pq_row O kn' (c + 1)) → cp_gon g P (pq_gn O kn' (c + 1)) → cp_mks G g ad P (pq_mk O kn' (c + 1)) → mp_W G E g 0 0 (mp_Q G E 0 0 (fun v h' => v = none ∧ mp_fr (cp_A P) h h' ∧ cp_P G h' O ad P kn' (c + 1)) (fun _ _ => False)) 50 [.val (.ref (G.1 + P)), .val (.ref (G.1 + ad k))] [] := by
    intro g hfg g1 g2 g3 g4 g5
    have hKg : cp_K G g P := hK.fr hfg
    have hOg : cp_O G g M O ad := hO.fr hP41 hfg
    refine mp_aload_n X 51 d_P_learn_50 rfl rfl rfl ?_
    refine mp_call X mp_Ts_ok 54 (rest := []) (k_P_gatherText _ hKg hOg hP41 hM g3 g4 hrM1 (by omega)) Y_P_gatherText in_P (mp_IV X (q := (nR_P, nT_P, 12)) d_P_learn_51 Y_P_gatherText ml_P_66 im_P_gatherText se_P_gatherText (by decide) rfl (by decide) (by show _ = some 0; decide) (hKg.sz (by omega)) hKg.ob) rfl (by decide) (by decide) (by decide) (by decide) rfl (by decide) (fun v g6 hp => ?_) (fun x9 g6 q9 hp => hp.elim)
    obtain ⟨rfl, hf6, ht6⟩ := hp
    refine mp_eq rfl rfl (st2 := []) rfl ?_
    refine mp_vret X d_P_learn_54 rfl (by decide) (by decide) ⟨rfl, hfg.tr (hf6.mono fun o i => cp_DA), ?_⟩
    exact ⟨g1.fr hf6 (by unfold cp_D; omega) (by intro i; unfold cp_D; omega) (by intro i; unfold cp_D; omega), (hf6.2.2 P 2 (by unfold cp_D; omega)).trans g2, g3.fr hf6 (by unfold cp_D; omega) (by intro i; unfold cp_D; omega) (by intro i; unfold cp_D; omega), g4.fr hf6 (by intro i; unfold cp_D; omega), g5.fr hf6 (by unfold cp_D; omega) (by intro i; unfold cp_D; omega), ht6⟩
  refine mp_aload_n X 1 d_P_learn_0 rfl rfl rfl ?_
  refine mp_getf (v := .ref (G.1 + (P + 1))) X 4 lk_P_11_P d_P_learn_1 rfl (hK.sz (by omega)) hK.ob hK.r_known ?_
  refine mp_aload_n X 5 d_P_learn_4 rfl rfl rfl ?_
  refine mp_getf (v := .int (nI c)) X 8 lk_P_47_P d_P_learn_5 rfl (hK.sz (by omega)) hK.ob p1.1 ?_
  refine mp_aload_n X 9 d_P_learn_8 rfl rfl rfl ?_
  refine mp_aastop X 10 (c) la_5W la_5E la_5K d_P_learn_9 rfl (hK.sz (by omega)) hK.k_known hok.1.2 hod rfl (by omega) (by decide) ?_
  obtain ⟨h1, eh1⟩ : ∃ z, z = mp_set h (P + 1) c (.ref (G.1 + ad k)) := ⟨_, rfl⟩
  rw [← eh1]
  have hf1 : mp_fr (cp_A P) h h1 := by rw [eh1]; exact mp_fr.rf.set (by unfold cp_A; omega)
  have hK1 : cp_K G h1 P := hK.fr hf1
  have hO1 : cp_O G h1 M O ad := hO.fr hP41 hf1
  have ho1 := hO1 k hkM
  have hd1 := ho1.kd (hw.2.2.2.1 k hkM).2.2.2.1
  have rh1 : ∀ a b, h1.2.1 a b = if a = P + 1 ∧ b = c then .ref (G.1 + ad k) else h.2.1 a b := by intro a b; rw [eh1]; rfl
  have s1 : h1.2.1 P 1 = .int (nI c) := by rw [rh1, if_neg (by omega)]; exact p1.1
  refine mp_aload_n X 11 d_P_learn_10 rfl rfl rfl ?_
  refine mp_dup X 12 d_P_learn_11 rfl rfl ?_
  refine mp_getf (v := .int (nI c)) X 15 lk_P_47_P d_P_learn_12 rfl (hK1.sz (by omega)) hK1.ob s1 ?_
  refine mp_iconst X 16 (v := nI 1) d_P_learn_15 rfl (by decide) ?_
  refine mp_iadd X 17 d_P_learn_16 rfl ?_
  rw [nI_add]
  refine mp_putf X 20 ls_P_47_P d_P_learn_17 rfl (Or.inl rfl) (hK1.sz (by omega)) hK1.ob rfl rfl ?_
  obtain ⟨h2, eh2⟩ : ∃ z, z = mp_set h1 P 1 (.int (nI (c + 1))) := ⟨_, rfl⟩
  rw [← eh2]
  have hf2 : mp_fr (cp_A P) h h2 := by rw [eh2]; exact hf1.set (by unfold cp_A; omega)
  have hK2 : cp_K G h2 P := hK.fr hf2
  have hO2 : cp_O G h2 M O ad := hO.fr hP41 hf2
  have ho2 := hO2 k hkM
  have hd2 := ho2.kd (hw.2.2.2.1 k hkM).2.2.2.1
  have rh2 : ∀ a b, h2.2.1 a b = if a = P ∧ b = 1 then .int (nI (c + 1)) else h1.2.1 a b := by intro a b; rw [eh2]; rfl
  refine mp_aload_n X 21 d_P_learn_20 rfl rfl rfl ?_
  refine mp_getf (v := .ref (G.1 + (P + 5))) X 24 lk_P_32_P d_P_learn_21 rfl (hK2.sz (by omega)) hK2.ob hK2.r_knows ?_
  refine mp_aload_n X 25 d_P_learn_24 rfl rfl rfl ?_
  refine mp_getop (v := .int (nI k)) X 28 lk_P_50_W lk_P_50_E lk_P_50_K d_P_learn_25 rfl ho2.1.2 hd2 ho2.2.1 ?_
  refine mp_iconst X 29 (v := nI 1) d_P_learn_28 rfl (by decide) ?_
  refine mp_zast X 30 (k) d_P_learn_29 rfl (hK2.sz (by omega)) hK2.k_knows rfl (by omega) (by decide) rfl ?_
  obtain ⟨h3, eh3⟩ : ∃ z, z = mp_set h2 (P + 5) k (.int (nI 1)) := ⟨_, rfl⟩
  rw [← eh3]
  have hf3 : mp_fr (cp_A P) h h3 := by rw [eh3]; exact hf2.set (by unfold cp_A; omega)
  have hK3 : cp_K G h3 P := hK.fr hf3
  have hO3 : cp_O G h3 M O ad := hO.fr hP41 hf3
  have ho3 := hO3 k hkM
  have hd3 := ho3.kd (hw.2.2.2.1 k hkM).2.2.2.1
  have rh3 : ∀ a b, h3.2.1 a b = if a = P + 5 ∧ b = k then .int (nI 1) else h2.2.1 a b := by intro a b; rw [eh3]; rfl
  have s3 : h3.2.1 P 2 = .int (nI (pq_mx O kn c)) := by rw [rh3, if_neg (by omega), rh2, if_neg (by omega), rh1, if_neg (by omega)]; exact p2
  refine mp_aload_n X 31 d_P_learn_30 rfl rfl rfl ?_
  refine mp_aload_n X 32 d_P_learn_31 rfl rfl rfl ?_
  refine mp_getf (v := .int (nI ((pq_mx O kn c)))) X 35 lk_P_43_P d_P_learn_32 rfl (hK3.sz (by omega)) hK3.ob s3 ?_
  refine mp_aload_n X 36 d_P_learn_35 rfl rfl rfl ?_
  refine mp_getop (v := .int (nI ((pq_tm O k)))) X 39 lk_P_53_W lk_P_53_E lk_P_53_K d_P_learn_36 rfl ho3.1.2 hd3 ho3.2.2.1 ?_
  refine mp_mmax X 42 ml_P_56 wd_277 wd_28 wd_mx d_P_learn_39 rfl rfl (by decide) (Nat.le_of_ble_eq_true rfl) (by decide) (by decide) ?_
  have emm : (if nI (pq_mx O kn c) < nI (pq_tm O k) then nI (pq_tm O k) else nI (pq_mx O kn c)) = nI (pq_mx O kn' (c + 1)) := by
    rw [emx1]
    by_cases hlt : pq_mx O kn c < pq_tm O k
    · rw [if_pos ((nI_ltI (by omega) (by omega)).mpr hlt), Nat.max_eq_right (by omega)]
    · rw [if_neg (fun z => hlt ((nI_ltI (by omega) (by omega)).mp z)), Nat.max_eq_left (by omega)]
  rw [emm]
  refine mp_putf X 45 ls_P_43_P d_P_learn_42 rfl (Or.inl rfl) (hK3.sz (by omega)) hK3.ob rfl rfl ?_
  obtain ⟨h4, eh4⟩ : ∃ z, z = mp_set h3 P 2 (.int (nI (pq_mx O kn' (c + 1)))) := ⟨_, rfl⟩
  rw [← eh4]
  have hf4 : mp_fr (cp_A P) h h4 := by rw [eh4]; exact hf3.set (by unfold cp_A; omega)
  have hK4 : cp_K G h4 P := hK.fr hf4
  have hO4 : cp_O G h4 M O ad := hO.fr hP41 hf4
  have ho4 := hO4 k hkM
  have hd4 := ho4.kd (hw.2.2.2.1 k hkM).2.2.2.1
  have rh4 : ∀ a b, h4.2.1 a b = if a = P ∧ b = 2 then .int (nI (pq_mx O kn' (c + 1))) else h3.2.1 a b := by intro a b; rw [eh4]; rfl
  refine mp_aload_n X 46 d_P_learn_45 rfl rfl rfl ?_
  refine mp_aload_n X 47 d_P_learn_46 rfl rfl rfl ?_
  have hk4 : cp_knw G h4 ad P kn' (c + 1) := by
    refine ⟨by rw [rh4, if_neg (by omega), rh3, if_neg (by omega), rh2, if_pos ⟨rfl, rfl⟩], fun i hi => ?_, fun x hx => ?_⟩
    · rw [rh4, if_neg (by omega), rh3, if_neg (by omega), rh2, if_neg (by omega), rh1]
      by_cases e9 : i = c
      · rw [if_pos ⟨rfl, e9⟩, e9, e2]
      · rw [if_neg (by omega), e1 i (by omega)]; exact p1.2.1 i (by omega)
    · have ek1 : pq_kw kn' (c + 1) x = (pq_kw kn c x || k == x) := by show (pq_kw kn' c x || kn' c == x) = _; rw [ekw, e2]
      rw [rh4, if_neg (by omega), rh3, ek1]
      by_cases e9 : x = k
      · rw [if_pos ⟨rfl, e9⟩, e9]; simp [rm_b]
      · have e10 : (k == x) = false := by simpa using fun z : k = x => e9 z.symm
        rw [if_neg (by omega), rh2, if_neg (by omega), rh1, if_neg (by omega), e10, Bool.or_false]; exact p1.2.2 x hx
  have hm4 : h4.2.1 P 2 = .int (nI (pq_mx O kn' (c + 1))) := by rw [rh4, if_pos ⟨rfl, rfl⟩]
  have fB : mp_fr (fun o i => (o = P ∧ (i = 1 ∨ i = 2)) ∨ o = P + 1 ∨ o = P + 5) h h4 := by rw [eh4, eh3, eh2, eh1]; exact (((mp_fr.rf.set (by omega)).set (by omega)).set (by omega)).set (by omega)
  have r4 : cp_row G h4 ad P (pq_row O kn c) := p3.fr fB (by omega) (by intro i; omega) (by intro i; omega)
  have g4 : cp_gon h4 P (pq_gn O kn c) := p4.fr fB (by intro i; omega)
  have m4 : cp_mks G h4 ad P (pq_mk O kn c) := p5.fr fB (by omega) (by intro i; omega)
  rcases (show pq_so O k = 0 ∨ pq_so O k = 1 ∨ pq_so O k = 2 by have := (hw.2.2.2.1 k hkM).2.2.2.1; omega) with hs | hs | hs
  · obtain ⟨hxr, hpa⟩ : k ∉ pq_row O kn c ∧ ∀ p, pq_fi O k = some p → p ∈ pq_row O kn c := ⟨fun z => (by obtain ⟨-, i, hi, hz⟩ := (hrm k).mp z; exact hnk i hi hz), fun p hp => (hrm p).mpr ⟨(hw.1 k hkM p hp).2.1, (by obtain ⟨j9, hj9, hk9⟩ := hkn'.2.2 c (by omega) p (by rw [e2]; exact Or.inl hp); exact ⟨j9, hj9, by rw [← e1 j9 hj9]; exact hk9⟩)⟩⟩
    refine mp_call X mp_Ts_ok 50 (rest := []) (k_W_reach _ hK4 (k_P_putIntoRow _ hK4 hO4 hP41 hw hM r4 (pq_row_nodup hw hkn) hrM hkM hs hxr hpa (by omega))) Y_W_reach in_W (mp_IVA X (q := (nR_W, nT_W, 5)) d_P_learn_47 ml_P_62 wd_281 wd_280 im_W_reach se_W_reach (by decide) rfl (by decide) (by show _ = some 1; decide) ho4.1.2 (ho4.2.2.2.2.1 hs).1) rfl (by decide) (by decide) (by decide) (by decide) rfl (by decide) (fun v g hp => ?_) (fun x9 g q9 hp => hp.elim)
    obtain ⟨rfl, hfg, hrg⟩ := hp
    refine mp_eq rfl rfl (st2 := []) rfl ?_
    refine cont g (hf4.tr (hfg.mono fun o i => cp_BA)) (hk4.fr hfg (by unfold cp_B; omega) (by intro i; unfold cp_B; omega) (by intro i; unfold cp_B; omega)) ((hfg.2.2 P 2 (by unfold cp_B; omega)).trans hm4) (by rw [erow1, if_pos hs]; exact hrg) (fun x hx => ?_) (by rw [emk1, if_neg (by omega)]; exact m4.fr hfg (by unfold cp_B; omega) (by intro i; unfold cp_B; omega))
    rw [egn1 x, hs, hfg.2.2 _ _ (by unfold cp_B; omega)]
    simpa using g4 x hx
  · obtain ⟨f, hf⟩ : ∃ f, pq_fi O k = some f := by
      rcases hw.2.2.2.2 k hkM with h9 | h9
      · rw [hs] at h9; cases h9
      · exact h9
    obtain ⟨hfk, hfs, -⟩ := hw.1 k hkM f hf
    refine mp_call X mp_Ts_ok 50 (rest := []) (k_E_reach _ hK4 hO4 hM hkM hs hf (by omega) hfs) Y_E_reach in_E (mp_IVA X (q := (nR_E, nT_E, 4)) d_P_learn_47 ml_P_62 wd_281 wd_280 im_E_reach se_E_reach (by decide) rfl (by decide) (by show _ = some 1; decide) ho4.1.2 (ho4.2.2.2.2.2.1 hs).1) rfl (by decide) (by decide) (by decide) (by decide) rfl (by decide) (fun v g hp => ?_) (fun x9 g q9 hp => hp.elim)
    obtain ⟨rfl, hg9⟩ := hp
    have hfg : mp_fr (fun o i => o = P + 6) h4 g := by rw [hg9]; exact mp_fr.rf.set rfl
    refine mp_eq rfl rfl (st2 := []) rfl ?_
    refine cont g (hf4.tr (hfg.mono fun o i z => by unfold cp_A; omega)) (hk4.fr hfg (by omega) (by intro i; omega) (by intro i; omega)) ((hfg.2.2 P 2 (by omega)).trans hm4) (by rw [erow1, if_neg (by omega)]; exact r4.fr hfg (by omega) (by intro i; omega) (by intro i; omega)) (fun x hx => ?_) (by rw [emk1, if_neg (by omega)]; exact m4.fr hfg (by omega) (by intro i; omega))
    rw [egn1 x, hs, hf, hg9, mp_rs]
    by_cases e9 : x = f
    · rw [if_pos ⟨rfl, e9⟩, e9]; simp [rm_b]
    · have e10 : (some f == some x) = false := by simpa using fun z : f = x => e9 z.symm
      rw [if_neg (by omega), e10, Bool.and_false, Bool.or_false]; exact g4 x hx
  · have hxr : k ∉ pq_mk O kn c := fun z => (by obtain ⟨-, i, hi, hz⟩ := (hmm k).mp z; exact hnk i hi hz)
    refine mp_call X mp_Ts_ok 50 (rest := []) (k_K_reach _ hK4 (k_P_addMarking _ hK4 hO4 hP41 hw hM m4 hms hmM hkM hs hxr (by omega))) Y_K_reach in_K (mp_IVA X (q := (nR_K, nT_K, 8)) d_P_learn_47 ml_P_62 wd_281 wd_280 im_K_reach se_K_reach (by decide) rfl (by decide) (by show _ = some 1; decide) ho4.1.2 (ho4.2.2.2.2.2.2 hs).1) rfl (by decide) (by decide) (by decide) (by decide) rfl (by decide) (fun v g hp => ?_) (fun x9 g q9 hp => hp.elim)
    obtain ⟨rfl, hfg, hrg⟩ := hp
    refine mp_eq rfl rfl (st2 := []) rfl ?_
    refine cont g (hf4.tr (hfg.mono fun o i => cp_CA)) (hk4.fr hfg (by unfold cp_C; omega) (by intro i; unfold cp_C; omega) (by intro i; unfold cp_C; omega)) ((hfg.2.2 P 2 (by unfold cp_C; omega)).trans hm4) (by rw [erow1, if_neg (by omega)]; exact r4.fr hfg (by unfold cp_C; omega) (by intro i; unfold cp_C; omega) (by intro i; unfold cp_C; omega)) (fun x hx => ?_) (by rw [emk1, if_pos hs]; exact hrg)
    rw [egn1 x, hs, hfg.2.2 _ _ (by unfold cp_C; omega)]
    simpa using g4 x hx
