/-! The class as a whole. -/
/-- what the class may write: cells below 26 -/
def cm_A (o _i : Nat) : Prop := o < 26
def mp_nA (_o _i : Nat) : Prop := False
def cm_Q (G : mp_G) (h : mp_H) (m : Nat) (S : pq_S) (ad : Nat → Nat) : Prop := cm_K G h ∧ h.2.1 0 1 = .int (nI m) ∧ cp_O G h S.1 S.2.1 ad ∧ ∀ j, j < 3 → cp_K G h (2 + 8 * j) ∧ cp_P G h S.2.1 ad (2 + 8 * j) (S.2.2.1 j) (S.2.2.2 j)
abbrev cm_S (G : mp_G) (h : mp_H) (S : pq_S) (ad : Nat → Nat) : Prop := cm_Q G h S.1 S ad
theorem cm_K.gr {G : mp_G} {h h' : mp_H} (hK : cm_K G h) {A : Nat → Nat → Prop} (hA : ¬ A 0 0 ∧ ∀ i, ¬ A 1 i) (hf : mp_gr A h h') : cm_K G h' := by
  obtain ⟨a, b, c, d, e⟩ := hK
  exact ⟨Nat.le_trans a hf.1, by rw [hf.2.1 0 (by omega)]; exact b, by rw [hf.2.1 1 (by omega)]; exact c, by rw [hf.2.2 0 0 (by omega) hA.1]; exact d, fun j hj => by rw [hf.2.2 1 j (by omega) (hA.2 j)]; exact e j hj⟩
theorem cm_Q.gr {G : mp_G} {h h' : mp_H} {m : Nat} {S : pq_S} {ad : Nat → Nat} (hQ : cm_Q G h m S ad) {A : Nat → Nat → Prop} (hA : ∀ o i, (o < 26 ∨ 41 ≤ o) → ¬ A o i) (hf : mp_gr A h h') : cm_Q G h' m S ad := by
  obtain ⟨a, b, c, d⟩ := hQ
  have hs := a.1
  refine ⟨a.gr ⟨hA 0 0 (by omega), fun i => hA 1 i (by omega)⟩ hf, by rw [hf.2.2 0 1 (by omega) (hA 0 1 (by omega))]; exact b, c.gr (fun o i ho => hA o i (by omega)) hf, fun j hj => ⟨(d j hj).1.gr (fun i _ _ _ _ _ => hA _ i (by omega)) hf, (d j hj).2.gr (d j hj).1.1 (fun o i h1 h2 => hA o i (by omega)) hf⟩⟩
theorem cm_Q.gr0 {G : mp_G} {h h' : mp_H} {m : Nat} {S : pq_S} {ad : Nat → Nat} (hQ : cm_Q G h m S ad) (hf : mp_gr mp_nA h h') : cm_Q G h' m S ad := hQ.gr (fun _ _ _ z => z) hf
theorem mp_nx_gr {A : Nat → Nat → Prop} (h : mp_H) (x : Nat) : mp_gr A h (mp_nx h x) := mp_gr.new _ _ _
/-- one more operation, at a -/
def cm_ad (ad : Nat → Nat) (n a k : Nat) : Nat := if k = n then a else ad k
theorem cp_O.ext {G : mp_G} {h : mp_H} {M : Nat} {O O' : pq_O} {ad ad' : Nat → Nat} (hO : cp_O G h M O ad) (hw : pq_wf M O) (ha : ∀ k, k < M → ad' k = ad k) (ho : ∀ k, k < M → O' k = O k) : cp_O G h M O' ad' := by
  intro k hk
  have e1 : cp_r G ad' (pq_fi O k) = cp_r G ad (pq_fi O k) := by
    cases hf : pq_fi O k with
    | none => rfl
    | some p =>
      have := (hw.1 k hk p hf).1
      show Value.ref (G.1 + ad' p) = Value.ref (G.1 + ad p)
      rw [ha p (by omega)]
  have e2 : cp_r G ad' (pq_en O k) = cp_r G ad (pq_en O k) := by
    cases hf : pq_en O k with
    | none => rfl
    | some p =>
      have := (hw.2.1 k hk p hf).1
      show Value.ref (G.1 + ad' p) = Value.ref (G.1 + ad p)
      rw [ha p (by omega)]
  have h9 := hO k hk
  unfold cp_o pq_id pq_so pq_tm pq_pg pq_wh pq_le pq_fi pq_en at h9 ⊢
  unfold pq_fi at e1
  unfold pq_en at e2
  rw [ho k hk, ha k hk, e1, e2]
  exact h9
theorem cp_P.ext {G : mp_G} {h : mp_H} {M P c : Nat} {O O' : pq_O} {ad ad' kn : Nat → Nat} (hP : cp_P G h O ad P kn c) (hw : pq_wf M O) (hkn : pq_kn M O kn c) (ha : ∀ k, k < M → ad' k = ad k) (ho : ∀ k, k < M → O' k = O k) : cp_P G h O' ad' P kn c := by
  obtain ⟨p1, p2, p3, p4, p5, p6⟩ := hP
  have erow : pq_row O' kn c = pq_row O kn c := pq_row_ext c (fun _ _ => rfl) (fun i hi => ho _ (hkn.1 i hi)) (fun i hi p hp => hkn.2.2 i hi p (Or.inl hp))
  obtain ⟨emk, hmk⟩ := pq_mk_ext ho c (fun _ _ => rfl) hkn.1
  have emx : pq_mx O' kn c = pq_mx O kn c := pq_mx_ext c (fun _ _ => rfl) (fun i hi => ho _ (hkn.1 i hi))
  have egn : ∀ x, pq_gn O' kn c x = pq_gn O kn c x := fun x => pq_gn_ext x c (fun _ _ => rfl) (fun i hi => ho _ (hkn.1 i hi))
  have etx : pq_tx O' kn c = pq_tx O kn c := by
    unfold pq_tx
    rw [erow]
    congr 1
    funext x
    rw [egn]
  obtain ⟨hrm, -⟩ := pq_row_ok hw c hkn
  have hrM : ∀ p ∈ pq_row O kn c, p < M := fun p hp => by
    obtain ⟨a, i, hi, b⟩ := (hrm p).mp hp
    rw [← b]; exact hkn.1 i hi
  refine ⟨⟨p1.1, fun i hi => by rw [ha _ (hkn.1 i hi)]; exact p1.2.1 i hi, p1.2.2⟩, by rw [emx]; exact p2, ?_, fun k hk => by rw [egn]; exact p4 k hk, ?_, ?_⟩
  · rw [erow]
    exact ⟨p3.1, fun i x hx => by rw [ha x (hrM x (List.mem_of_getElem? hx))]; exact p3.2 i x hx⟩
  · rw [emk]
    exact ⟨p5.1, fun i x hx => by rw [ha x (hmk x (List.mem_of_getElem? hx))]; exact p5.2 i x hx⟩
  · rw [etx]
    exact ⟨p6.1, fun i x hx => by rw [ha x (hrM x (List.mem_filter.mp (List.mem_of_getElem? hx)).1)]; exact p6.2 i x hx⟩
theorem cm_grow {G : mp_G} {h g : mp_H} {S : pq_S} {ad : Nat → Nat} {a : Nat} {o : Nat × Nat × Nat × Option Nat × Option Nat × Nat × Int32} (hS : cm_S G h S ad) (hok : pq_ok S) (hg : mp_gr mp_nA h g) (hn : cp_o G g (pq_add S o).2.1 (cm_ad ad S.1 a) S.1) : cm_Q G g S.1 (pq_add S o) (cm_ad ad S.1 a) := by
  obtain ⟨b, c, d, e⟩ := hS.gr0 hg
  have ha : ∀ k, k < S.1 → cm_ad ad S.1 a k = ad k := fun k hk => by unfold cm_ad; rw [if_neg (by omega)]
  have ho : ∀ k, k < S.1 → (pq_add S o).2.1 k = S.2.1 k := fun k hk => by show (if k = S.1 then o else S.2.1 k) = _; rw [if_neg (by omega)]
  refine ⟨b, c, fun k hk => ?_, fun j hj => ⟨(e j hj).1, (e j hj).2.ext hok.2.1 (hok.2.2.1 j hj) ha ho⟩⟩
  by_cases ek : k = S.1
  · rw [ek]; exact hn
  · have hk' : k < S.1 + 1 := hk
    exact (d.ext hok.2.1 ha ho) k (by omega)
set_option maxRecDepth 100000 in
set_option maxHeartbeats 4000000 in
theorem k_M_learn (l : Launch) {G : mp_G} {h : mp_H} {m j k : Nat} {T : pq_S} {ad : Nat → Nat} (hQ : cm_Q G h m T ad) (hok : pq_ok (pq_lrn T j k)) (hj : j < 3) :
    mp_M G mp_Ts l y_P_learn 3 0 0 [.ref (G.1 + (2 + 8 * j)), .ref (G.1 + ad k)] h (fun v h' => v = none ∧ cm_Q G h' m (pq_lrn T j k) ad ∧ mp_gr cm_A h h') (fun _ _ => False) := by
  obtain ⟨q1, q2, q3, q4⟩ := hQ
  obtain ⟨k1, k2, k3, k4⟩ := hok
  have ec : (pq_lrn T j k).2.2.2 j = T.2.2.2 j + 1 := by simp [pq_lrn]
  have hkn' := k3 j hj
  rw [ec] at hkn'
  have e1 : ∀ i, i < T.2.2.2 j → (pq_lrn T j k).2.2.1 j i = T.2.2.1 j i := fun i hi => by
    show (if j = j ∧ i = T.2.2.2 j then k else T.2.2.1 j i) = _
    rw [if_neg (by omega)]
  have e2 : (pq_lrn T j k).2.2.1 j (T.2.2.2 j) = k := by
    show (if j = j ∧ T.2.2.2 j = T.2.2.2 j then k else _) = _
    rw [if_pos ⟨rfl, rfl⟩]
  have hkn : pq_kn T.1 T.2.1 (T.2.2.1 j) (T.2.2.2 j) := by
    obtain ⟨a, b, c⟩ := hkn'
    refine ⟨fun i hi => by rw [← e1 i hi]; exact a i (by omega), fun i i2 hi hi2 hz => b i i2 (by omega) (by omega) (by rw [e1 i hi, e1 i2 hi2]; exact hz), fun i hi p hp => ?_⟩
    obtain ⟨j9, hj9, hk9⟩ := c i (by omega) p (by rw [e1 i hi]; exact hp)
    exact ⟨j9, hj9, by rw [← e1 j9 (by omega)]; exact hk9⟩
  refine (k_P_learn (P := 2 + 8 * j) (c := T.2.2.2 j) (kn := T.2.2.1 j) (kn' := (pq_lrn T j k).2.2.1 j) l (q4 j hj).1 q3 (by omega) k2 k1 (q4 j hj).2 hkn hkn' e1 e2).imp (fun v h' hp => ?_) (fun _ _ hp => hp)
  obtain ⟨rfl, hf, hP⟩ := hp
  have hg := mp_gr.of hf
  refine ⟨rfl, ⟨q1.gr ⟨by unfold cp_A; omega, by intro i; unfold cp_A; omega⟩ hg, by rw [hf.2.2 0 1 (by unfold cp_A; omega)]; exact q2, q3.fr (by omega) hf, fun c hc => ?_⟩, hg.mono fun o i z => by unfold cp_A at z; unfold cm_A; omega⟩
  by_cases ej : c = j
  · subst ej
    refine ⟨(q4 c hc).1.fr hf, ?_⟩
    rw [ec]
    exact hP
  · have e3 : (pq_lrn T j k).2.2.1 c = T.2.2.1 c := by
      funext q
      show (if c = j ∧ q = _ then _ else _) = _
      rw [if_neg (fun z => ej z.1)]
    have e4 : (pq_lrn T j k).2.2.2 c = T.2.2.2 c := by
      show (if c = j then _ else _) = _
      rw [if_neg ej]
    rw [e3, e4]
    exact ⟨(q4 c hc).1.gr (by intro i _ _ _ _ _; unfold cp_A; omega) hg, (q4 c hc).2.gr (q4 c hc).1.1 (by intro o i h1 h2; unfold cp_A; omega) hg⟩
set_option maxRecDepth 100000 in
set_option maxHeartbeats 4000000 in
theorem k_M_make (l : Launch) {G : mp_G} {h : mp_H} {m j : Nat} {T : pq_S} {ad : Nat → Nat} (hQ : cm_Q G h m T ad) (hm : T.1 = m + 1) (hok : pq_ok (pq_lrn T j m)) (hj : j < 3) :
    mp_M G mp_Ts l y_M_make 4 0 0 [.ref (G.1 + 0), .ref (G.1 + (2 + 8 * j)), .ref (G.1 + ad m)] h (fun v h' => v = some (.int (nI (pq_tm T.2.1 m))) ∧ cm_S G h' (pq_lrn T j m) ad ∧ mp_gr cm_A h h') (fun _ _ => False) := by
  obtain ⟨q1, q2, q3, q4⟩ := hQ
  have h90 : T.1 ≤ 90 := hok.1
  refine mp_enter (by decide) Y_M_make fun E hl X => ?_
  subst hl
  refine mp_eq rfl (L2 := [.val (.ref (G.1 + 0)), .val (.ref (G.1 + (2 + 8 * j))), .val (.ref (G.1 + ad m))]) rfl rfl ?_
  refine mp_aload_n X 1 d_M_make_0 rfl rfl rfl ?_
  refine mp_dup X 2 d_M_make_1 rfl rfl ?_
  refine mp_getf (v := .int (nI m)) X 5 lk_M_16_M d_M_make_2 rfl (Nat.lt_of_lt_of_le (by decide) q1.1) q1.2.1 q2 ?_
  refine mp_iconst X 6 (v := nI 1) d_M_make_5 rfl (by decide) ?_
  refine mp_iadd X 7 d_M_make_6 rfl ?_
  rw [nI_add]
  refine mp_putf X 10 ls_M_16_M d_M_make_7 rfl (Or.inl rfl) (Nat.lt_of_lt_of_le (by decide) q1.1) q1.2.1 rfl rfl ?_
  obtain ⟨h1, eh1⟩ : ∃ z, z = mp_set h 0 1 (.int (nI (m + 1))) := ⟨_, rfl⟩
  rw [← eh1]
  have hg1 : mp_gr (fun o i => o = 0 ∧ i = 1) h h1 := by rw [eh1]; exact mp_gr.rf.set (Or.inr ⟨rfl, rfl⟩)
  have hQ1 : cm_Q G h1 (m + 1) T ad := ⟨q1.gr ⟨by omega, by intro i; omega⟩ hg1, by rw [eh1, mp_set_at], q3.gr (by intro o i ho; omega) hg1, fun c hc => ⟨(q4 c hc).1.gr (by intro i _ _ _ _ _; omega) hg1, (q4 c hc).2.gr (q4 c hc).1.1 (by intro o i a b; omega) hg1⟩⟩
  have q4 := hQ1.2.2.2
  refine mp_aload_n X 11 d_M_make_10 rfl rfl rfl ?_
  refine mp_aload_n X 12 d_M_make_11 rfl rfl rfl ?_
  refine mp_call X mp_Ts_ok 15 (rest := []) (k_M_learn _ hQ1 hok hj) Y_P_learn in_P (mp_IV X (q := (nR_P, nT_P, 12)) d_M_make_12 Y_P_learn ml_M_92 im_P_learn se_P_learn (by decide) rfl (by decide) (by show _ = some 1; decide) ((q4 j hj).1.sz (by omega)) (q4 j hj).1.ob) rfl (by decide) (by decide) (by decide) (by decide) rfl (by decide) (fun v g hp => ?_) (fun x9 g q9 hp => hp.elim)
  obtain ⟨rfl, hQg, hgg⟩ := hp
  have hmg := hQg.2.2.1 m (by show m < T.1; omega)
  have hdg := hmg.kd (hok.2.1.2.2.2.1 m (by show m < T.1; omega)).2.2.2.1
  refine mp_eq rfl rfl (st2 := []) rfl ?_
  refine mp_aload_n X 16 d_M_make_15 rfl rfl rfl ?_
  refine mp_getop (v := .int (nI ((pq_tm T.2.1 m)))) X 19 lk_M_123_W lk_M_123_E lk_M_123_K d_M_make_16 rfl hmg.1.2 hdg hmg.2.2.1 ?_
  refine mp_iret X d_M_make_19 rfl rfl (by decide) (by decide) ⟨rfl, ?_, (hg1.mono fun o i z => by unfold cm_A; omega).tr hgg⟩
  show cm_Q G g T.1 _ ad
  rw [hm]
  exact hQg
