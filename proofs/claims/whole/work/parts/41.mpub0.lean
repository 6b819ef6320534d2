theorem mp_M.imp {G : mp_G} {Ts : List Cond} {l : Launch} {y : MethodName} {d mc ms : Nat} {as : List Value} {h : mp_H} {Pr Pr' : Option Value → mp_H → Prop} {Pt Pt' : Nat → mp_H → Prop} (hM : mp_M G Ts l y d mc ms as h Pr Pt) (h1 : ∀ v h', Pr v h' → Pr' v h') (h2 : ∀ x h', Pt x h' → Pt' x h') : mp_M G Ts l y d mc ms as h Pr' Pt' := by
  intro p e ha hc hk s m args below hf happ hP hK
  obtain ⟨n, o, b1, b2, b3, b4, h', b5, b6⟩ := hM p e ha hc hk s m args below hf happ hP hK
  refine ⟨n, o, b1, b2, b3, b4, h', b5, ?_⟩
  cases o with
  | returned v => exact h1 v h' b6
  | threw a =>
    obtain ⟨q, x, c1, c2, c3, c4, c5⟩ := b6
    exact ⟨q, x, c1, c2, c3, c4, h2 x h' c5⟩
theorem k_R_isPageT (l : Launch) {G : mp_G} {h : mp_H} {j : Nat} (hj : j < 3) : mp_M G mp_Ts l y_R_isPage 0 0 0 [.int (nI j)] h (fun v h' => h' = h ∧ v = some (.int (nI 1))) (fun _ _ => False) := by
  refine (k_R_isPage l (nI j)).imp (fun v h' hp => ⟨hp.1, ?_⟩) (fun _ _ hp => hp)
  rcases hp.2 with ⟨i, hi, h1, h2⟩ | ⟨h1, h2⟩
  · exact h2
  · exact absurd rfl (h1 j hj)
theorem k_R_isPageF (l : Launch) {G : mp_G} {h : mp_H} {x : Int32} (hx : sp_ix 3 x = none) : mp_M G mp_Ts l y_R_isPage 0 0 0 [.int x] h (fun v h' => h' = h ∧ v = some (.int (nI 0))) (fun _ _ => False) := by
  refine (k_R_isPage l x).imp (fun v h' hp => ⟨hp.1, ?_⟩) (fun _ _ hp => hp)
  rcases hp.2 with ⟨i, hi, h1, h2⟩ | ⟨h1, h2⟩
  · rw [h1, sp_ix_of hi (by decide)] at hx; cases hx
  · exact h2
theorem rm_V.st {h : mp_H} {S : pq_S} {j o i : Nat} {v : Value} (hV : rm_V h S j) (ho : o ≠ 37 ∧ o ≠ 38 ∧ (o ≠ 26 ∨ i ≠ 14)) : rm_V (mp_set h o i v) S j := by
  obtain ⟨a, b, c⟩ := hV
  exact ⟨by rw [mp_set_ne _ _ (by omega)]; exact a, fun q x hx => by rw [mp_set_ne _ _ (by omega)]; exact b q x hx, fun q x hx => by rw [mp_set_ne _ _ (by omega)]; exact c q x hx⟩
theorem rm_S.cd {h : mp_H} {S : pq_S} {v : Value} (hS : rm_S h S) : rm_S (mp_set h 26 0 v) S := hS.fr (mp_fr.rf.set (by unfold rm_P; omega))
theorem rm_S.lt {h : mp_H} {S : pq_S} {v : Value} (hS : rm_S h S) : rm_S (mp_set h 32 S.1 v) S := by
  obtain ⟨s1, s2, s3⟩ := hS
  have e0 : ∀ a b, a ≠ 32 → (mp_set h 32 S.1 v).2.1 a b = h.2.1 a b := fun a b ha => mp_set_ne _ _ (fun z => ha z.1)
  refine ⟨by rw [e0 _ _ (by decide)]; exact s1, fun k hk => ?_, fun j hj => ?_⟩
  · rw [e0 27 k (by decide), e0 28 k (by decide), e0 29 k (by decide), e0 30 k (by decide), e0 31 k (by decide), mp_set_ne _ _ (by omega)]
    exact s2 k hk
  · obtain ⟨a, b, c⟩ := s3 j hj
    exact ⟨by rw [e0 _ _ (by decide)]; exact a, fun i hi => by rw [e0 _ _ (by decide)]; exact b i hi, fun k hk => by rw [e0 _ _ (by decide)]; exact c k hk⟩
theorem rm_Z.code {h h' : mp_H} {S : pq_S} {n : Nat} {r z : Int32} (h1 : h'.2.1 26 0 = .int (nI n)) (hn : n ≠ 0) (hS : rm_S h' S) (hf : mp_fr rm_A h h') : rm_Z h (n, r, S) (some (.int z)) h' := ⟨h1, hS, ⟨z, rfl, fun e => absurd e hn⟩, hf⟩
