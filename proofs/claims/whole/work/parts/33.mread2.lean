/-! The reference: nextBehind, greatest (rows laid by program). -/
def rm_ch (S : pq_S) (j : Nat) (pa : Option Nat) (ps : Nat → Bool) (k : Nat) : Bool := ((pq_kw (S.2.2.1 j) (S.2.2.2 j) k && pq_so S.2.1 k == 0) && pq_fi S.2.1 k == pa) && !ps k
theorem rm_ch_t {S : pq_S} {j : Nat} {pa : Option Nat} {ps : Nat → Bool} {k : Nat} (h1 : pq_kw (S.2.2.1 j) (S.2.2.2 j) k = true) (h2 : pq_so S.2.1 k = 0) (h3 : pq_fi S.2.1 k = pa) (h4 : ps k = false) : rm_ch S j pa ps k = true := by
  unfold rm_ch; rw [h1, h2, h3, h4]; simp
theorem pq_best_keep {ids : Nat → Nat} {c : Nat → Bool} {n : Nat} (h : c n = false) : pq_best ids c (n + 1) = pq_best ids c n := by
  show (if c n && _ then some n else pq_best ids c n) = _
  rw [h]; rfl
theorem pq_best_new {ids : Nat → Nat} {c : Nat → Bool} {n : Nat} (h : c n = true) (hb : pq_best ids c n = none) : pq_best ids c (n + 1) = some n := by
  show (if c n && (match pq_best ids c n with | none => true | some b => decide (ids b < ids n)) then some n else pq_best ids c n) = _
  rw [h, hb]; rfl
theorem pq_best_up {ids : Nat → Nat} {c : Nat → Bool} {n b : Nat} (h : c n = true) (hb : pq_best ids c n = some b) (hl : ids b < ids n) : pq_best ids c (n + 1) = some n := by
  show (if c n && (match pq_best ids c n with | none => true | some b => decide (ids b < ids n)) then some n else pq_best ids c n) = _
  rw [h, hb]; simp [hl]
theorem pq_best_no {ids : Nat → Nat} {c : Nat → Bool} {n b : Nat} (hb : pq_best ids c n = some b) (hl : ids n ≤ ids b) : pq_best ids c (n + 1) = some b := by
  show (if c n && (match pq_best ids c n with | none => true | some b => decide (ids b < ids n)) then some n else pq_best ids c n) = _
  rw [hb]
  have : ¬ ids b < ids n := by omega
  simp [this]
theorem pq_id_lt {M : Nat} {O : pq_O} (hw : pq_wf M O) (hM : M ≤ 90) {k : Nat} (hk : k < M) : pq_id O k < 1000 := by
  have := hw.2.2.2.1 k hk
  unfold pq_id
  omega
set_option maxRecDepth 100000 in
set_option maxHeartbeats 4000000 in
theorem k_R_nextBehind (l : Launch) {G : mp_G} {h : mp_H} {S : pq_S} {j : Nat} {pa : Option Nat} {ps : Nat → Bool} (hK : rm_K G h) (hS : rm_S h S) (hok : pq_ok S) (hj : j < 3) (hpa : ∀ p, pa = some p → p < 90) (hps : ∀ k, k < S.1 → h.2.1 39 k = .int (rm_b (ps k))) :
    mp_M G mp_Ts l y_R_nextBehind 0 0 0 [.ref (G.1 + 26), .int (nI j), .int (rm_i pa)] h (fun v h' => h' = h ∧ v = some (.int (rm_i (pq_best (pq_id S.2.1) (rm_ch S j pa ps) S.1)))) (fun _ _ => False) := by
  have hM : S.1 ≤ 90 := hok.1
  have hw := hok.2.1
  obtain ⟨s1, s2, s3⟩ := hS
  obtain ⟨-, -, s6⟩ := s3 j hj
  refine mp_enter (by decide) Y_R_nextBehind fun E hl X => ?_
  have hloop : ∀ (n k : Nat) (r : Option Nat) (z : Slot), mp_s1 z = true → k + n = S.1 → r = pq_best (pq_id S.2.1) (rm_ch S j pa ps) k → mp_W G E h 0 0 (mp_Q G E 0 0 (fun v h' => h' = h ∧ v = some (.int (rm_i (pq_best (pq_id S.2.1) (rm_ch S j pa ps) S.1)))) (fun _ _ => False)) 5 [.val (.ref (G.1 + 26)), .val (.int (nI j)), .val (.int (rm_i pa)), .val (.int (rm_i r)), .val (.int (nI k)), z] [] := by
    intro n
    induction n with
    | zero =>
      intro k r z hz hkn hr
      refine mp_iload X 7 d_R_nextBehind_5 rfl rfl ?_
      refine mp_aload_n X 8 d_R_nextBehind_7 rfl rfl rfl ?_
      refine mp_getf X 11 lk_R_55_R d_R_nextBehind_8 rfl (hK.sz (by decide)) hK.ob s1 ?_
      refine mp_Nge X 105 14 d_R_nextBehind_11 (by decide) rfl (by omega) (by omega) (fun q1 => ?_) (fun q1 => ?_)
      · refine mp_iload_n X 106 d_R_nextBehind_105 rfl rfl rfl ?_
        have hk : k = S.1 := by omega
        subst hk
        exact mp_iret X d_R_nextBehind_106 rfl rfl (by decide) (by decide) ⟨rfl, by rw [hr]⟩
      · omega
    | succ n ih =>
      intro k r z hz hkn hr
      have hkM : k < S.1 := by omega
      obtain ⟨t1, t2, t3, t4, t5, t6⟩ := s2 k hkM
      have hso := (hw.2.2.2.1 k hkM).2.2.2.1
      have hidk := pq_id_lt hw hM hkM
      have hf : ∀ p, pq_fi S.2.1 k = some p → p < 1000 := fun p hp => by have := (hw.1 k hkM p hp).1; omega
      have hpa' : ∀ p, pa = some p → p < 1000 := fun p hp => by have := hpa p hp; omega
      have s_kb := s6 k (by omega)
      have s_pb := hps k hkM
      cases r with
      | none =>
        refine mp_eq rfl (L2 := [.val (.ref (G.1 + 26)), .val (.int (nI j)), .val (.int (rm_i pa)), .val (.int (-1)), .val (.int (nI k)), z]) rfl rfl ?_
        refine mp_iload X 7 d_R_nextBehind_5 rfl rfl ?_
        refine mp_aload_n X 8 d_R_nextBehind_7 rfl rfl rfl ?_
        refine mp_getf X 11 lk_R_55_R d_R_nextBehind_8 rfl (hK.sz (by decide)) hK.ob s1 ?_
        refine mp_Nge X 105 14 d_R_nextBehind_11 (by decide) rfl (by omega) (by omega) (fun q1 => ?_) (fun q1 => ?_)
        · omega
        · obtain ⟨kb, kb1, hkb⟩ : ∃ kb : Nat, (kb = 1 ∧ pq_kw (S.2.2.1 j) (S.2.2.2 j) k = true ∨ kb = 0 ∧ pq_kw (S.2.2.1 j) (S.2.2.2 j) k = false) ∧ h.2.1 34 (90 * j + k) = .int (nI kb) := by
            cases hkw : pq_kw (S.2.2.1 j) (S.2.2.2 j) k with
            | true => rw [hkw] at s_kb; exact ⟨1, Or.inl ⟨rfl, rfl⟩, s_kb⟩
            | false => rw [hkw] at s_kb; exact ⟨0, Or.inr ⟨rfl, rfl⟩, s_kb⟩
          have kbb : kb < 2 := by omega
          refine mp_aload_n X 15 d_R_nextBehind_14 rfl rfl rfl ?_
          refine mp_getf X 18 lk_R_32_R d_R_nextBehind_15 rfl (hK.sz (by decide)) hK.ob hK.r_knows ?_
          refine mp_bipush X 20 (v := nI 90) d_R_nextBehind_18 rfl (by decide) ?_
          refine mp_iload_n X 21 d_R_nextBehind_20 rfl rfl rfl ?_
          refine mp_imul X 22 d_R_nextBehind_21 rfl ?_
          rw [pk_mul]
          refine mp_iload X 24 d_R_nextBehind_22 rfl rfl ?_
          refine mp_iadd X 25 d_R_nextBehind_24 rfl ?_
          rw [nI_add]
          refine mp_zald X 26 (90 * j + k) d_R_nextBehind_25 rfl (hK.sz (by decide)) hK.k_knows rfl (by omega) (by decide) hkb ?_
          refine mp_Zeq X 64 29 d_R_nextBehind_26 (by decide) rfl (by omega) (fun q2 => ?_) (fun q2 => ?_)
          · have hkw : pq_kw (S.2.2.1 j) (S.2.2.2 j) k = false := by rcases kb1 with ⟨h1, h2⟩ | ⟨h1, h2⟩; omega; exact h2
            refine mp_iconst X 65 (v := nI 0) d_R_nextBehind_64 rfl (by decide) ?_
            refine mp_istore X 67 (L' := [.val (.ref (G.1 + 26)), .val (.int (nI j)), .val (.int (rm_i pa)), .val (.int (-1)), .val (.int (nI k)), .val (.int (nI 0))]) d_R_nextBehind_65 rfl rfl hz rfl ?_
            refine mp_iload X 69 d_R_nextBehind_67 rfl rfl ?_
            refine mp_Zeq X 97 72 d_R_nextBehind_69 (by decide) rfl (by omega) (fun q3 => ?_) (fun q3 => ?_)
            · refine mp_iload_n X 98 d_R_nextBehind_97 rfl rfl rfl ?_
              refine mp_istore_n X 99 (L' := [.val (.ref (G.1 + 26)), .val (.int (nI j)), .val (.int (rm_i pa)), .val (.int (-1)), .val (.int (nI k)), .val (.int (nI 0))]) d_R_nextBehind_98 rfl rfl rfl rfl rfl ?_
              refine mp_iinc X 102 (L' := [.val (.ref (G.1 + 26)), .val (.int (nI j)), .val (.int (rm_i pa)), .val (.int (-1)), .val (.int (nI (k + 1))), .val (.int (nI 0))]) (v := nI (k + 1)) d_R_nextBehind_99 rfl rfl (nI_1 _) rfl ?_
              refine mp_goto X 5 d_R_nextBehind_102 (by decide) ?_
              exact ih (k + 1) none _ rfl (by omega) (by rw [pq_best_keep (show rm_ch S j pa ps k = false by unfold rm_ch; rw [hkw]; rfl), ← hr])
            · exact absurd rfl q3
          · have hkw : pq_kw (S.2.2.1 j) (S.2.2.2 j) k = true := by rcases kb1 with ⟨h1, h2⟩ | ⟨h1, h2⟩; exact h2; omega
            refine mp_aload_n X 30 d_R_nextBehind_29 rfl rfl rfl ?_
            refine mp_getf X 33 lk_R_7_R d_R_nextBehind_30 rfl (hK.sz (by decide)) hK.ob hK.r_sort ?_
            refine mp_iload X 35 d_R_nextBehind_33 rfl rfl ?_
            refine mp_iald X 36 (k) d_R_nextBehind_35 rfl (hK.sz (by decide)) hK.k_sort rfl (by omega) (by decide) t1 ?_
            refine mp_Zne X 64 39 d_R_nextBehind_36 (by decide) rfl (by omega) (fun q4 => ?_) (fun q4 => ?_)
            · refine mp_iconst X 65 (v := nI 0) d_R_nextBehind_64 rfl (by decide) ?_
              refine mp_istore X 67 (L' := [.val (.ref (G.1 + 26)), .val (.int (nI j)), .val (.int (rm_i pa)), .val (.int (-1)), .val (.int (nI k)), .val (.int (nI 0))]) d_R_nextBehind_65 rfl rfl hz rfl ?_
              refine mp_iload X 69 d_R_nextBehind_67 rfl rfl ?_
              refine mp_Zeq X 97 72 d_R_nextBehind_69 (by decide) rfl (by omega) (fun q5 => ?_) (fun q5 => ?_)
              · refine mp_iload_n X 98 d_R_nextBehind_97 rfl rfl rfl ?_
                refine mp_istore_n X 99 (L' := [.val (.ref (G.1 + 26)), .val (.int (nI j)), .val (.int (rm_i pa)), .val (.int (-1)), .val (.int (nI k)), .val (.int (nI 0))]) d_R_nextBehind_98 rfl rfl rfl rfl rfl ?_
                refine mp_iinc X 102 (L' := [.val (.ref (G.1 + 26)), .val (.int (nI j)), .val (.int (rm_i pa)), .val (.int (-1)), .val (.int (nI (k + 1))), .val (.int (nI 0))]) (v := nI (k + 1)) d_R_nextBehind_99 rfl rfl (nI_1 _) rfl ?_
                refine mp_goto X 5 d_R_nextBehind_102 (by decide) ?_
                exact ih (k + 1) none _ rfl (by omega) (by rw [pq_best_keep (show rm_ch S j pa ps k = false by unfold rm_ch; simp [q4]), ← hr])
              · exact absurd rfl q5
            · refine mp_aload_n X 40 d_R_nextBehind_39 rfl rfl rfl ?_
              refine mp_getf X 43 lk_R_16_R d_R_nextBehind_40 rfl (hK.sz (by decide)) hK.ob hK.r_first ?_
              refine mp_iload X 45 d_R_nextBehind_43 rfl rfl ?_
              refine mp_iald X 46 (k) d_R_nextBehind_45 rfl (hK.sz (by decide)) hK.k_first rfl (by omega) (by decide) t3 ?_
              refine mp_iload_n X 47 d_R_nextBehind_46 rfl rfl rfl ?_
              refine mp_icmp_ne X 64 50 d_R_nextBehind_47 (by decide) rfl (fun q6 => ?_) (fun q6 => ?_)
              · refine mp_iconst X 65 (v := nI 0) d_R_nextBehind_64 rfl (by decide) ?_
                refine mp_istore X 67 (L' := [.val (.ref (G.1 + 26)), .val (.int (nI j)), .val (.int (rm_i pa)), .val (.int (-1)), .val (.int (nI k)), .val (.int (nI 0))]) d_R_nextBehind_65 rfl rfl hz rfl ?_
                refine mp_iload X 69 d_R_nextBehind_67 rfl rfl ?_
                refine mp_Zeq X 97 72 d_R_nextBehind_69 (by decide) rfl (by omega) (fun q7 => ?_) (fun q7 => ?_)
                · refine mp_iload_n X 98 d_R_nextBehind_97 rfl rfl rfl ?_
                  refine mp_istore_n X 99 (L' := [.val (.ref (G.1 + 26)), .val (.int (nI j)), .val (.int (rm_i pa)), .val (.int (-1)), .val (.int (nI k)), .val (.int (nI 0))]) d_R_nextBehind_98 rfl rfl rfl rfl rfl ?_
                  refine mp_iinc X 102 (L' := [.val (.ref (G.1 + 26)), .val (.int (nI j)), .val (.int (rm_i pa)), .val (.int (-1)), .val (.int (nI (k + 1))), .val (.int (nI 0))]) (v := nI (k + 1)) d_R_nextBehind_99 rfl rfl (nI_1 _) rfl ?_
                  refine mp_goto X 5 d_R_nextBehind_102 (by decide) ?_
                  have e9 : ¬ pq_fi S.2.1 k = pa := fun e => q6 (by rw [e])
                  exact ih (k + 1) none _ rfl (by omega) (by rw [pq_best_keep (show rm_ch S j pa ps k = false by unfold rm_ch; simp [e9]), ← hr])
                · exact absurd rfl q7
              · obtain ⟨pb, pb1, hpb⟩ : ∃ pb : Nat, (pb = 1 ∧ ps k = true ∨ pb = 0 ∧ ps k = false) ∧ h.2.1 39 (k) = .int (nI pb) := by
                  cases hkw : ps k with
                  | true => rw [hkw] at s_pb; exact ⟨1, Or.inl ⟨rfl, rfl⟩, s_pb⟩
                  | false => rw [hkw] at s_pb; exact ⟨0, Or.inr ⟨rfl, rfl⟩, s_pb⟩
                have pbb : pb < 2 := by omega
                refine mp_aload_n X 51 d_R_nextBehind_50 rfl rfl rfl ?_
                refine mp_getf X 54 lk_R_48_R d_R_nextBehind_51 rfl (hK.sz (by decide)) hK.ob hK.r_passed ?_
                refine mp_iload X 56 d_R_nextBehind_54 rfl rfl ?_
                refine mp_zald X 57 (k) d_R_nextBehind_56 rfl (hK.sz (by decide)) hK.k_passed rfl (by omega) (by decide) hpb ?_
                refine mp_Zne X 64 60 d_R_nextBehind_57 (by decide) rfl (by omega) (fun q8 => ?_) (fun q8 => ?_)
                · have hpw : ps k = true := by rcases pb1 with ⟨h1, h2⟩ | ⟨h1, h2⟩; exact h2; omega
                  refine mp_iconst X 65 (v := nI 0) d_R_nextBehind_64 rfl (by decide) ?_
                  refine mp_istore X 67 (L' := [.val (.ref (G.1 + 26)), .val (.int (nI j)), .val (.int (rm_i pa)), .val (.int (-1)), .val (.int (nI k)), .val (.int (nI 0))]) d_R_nextBehind_65 rfl rfl hz rfl ?_
                  refine mp_iload X 69 d_R_nextBehind_67 rfl rfl ?_
                  refine mp_Zeq X 97 72 d_R_nextBehind_69 (by decide) rfl (by omega) (fun q9 => ?_) (fun q9 => ?_)
                  · refine mp_iload_n X 98 d_R_nextBehind_97 rfl rfl rfl ?_
                    refine mp_istore_n X 99 (L' := [.val (.ref (G.1 + 26)), .val (.int (nI j)), .val (.int (rm_i pa)), .val (.int (-1)), .val (.int (nI k)), .val (.int (nI 0))]) d_R_nextBehind_98 rfl rfl rfl rfl rfl ?_
                    refine mp_iinc X 102 (L' := [.val (.ref (G.1 + 26)), .val (.int (nI j)), .val (.int (rm_i pa)), .val (.int (-1)), .val (.int (nI (k + 1))), .val (.int (nI 0))]) (v := nI (k + 1)) d_R_nextBehind_99 rfl rfl (nI_1 _) rfl ?_
                    refine mp_goto X 5 d_R_nextBehind_102 (by decide) ?_
                    exact ih (k + 1) none _ rfl (by omega) (by rw [pq_best_keep (show rm_ch S j pa ps k = false by unfold rm_ch; rw [hpw]; simp), ← hr])
                  · exact absurd rfl q9
                · have hpw : ps k = false := by rcases pb1 with ⟨h1, h2⟩ | ⟨h1, h2⟩; omega; exact h2
                  refine mp_iconst X 61 (v := nI 1) d_R_nextBehind_60 rfl (by decide) ?_
                  refine mp_goto X 65 d_R_nextBehind_61 (by decide) ?_
                  refine mp_istore X 67 (L' := [.val (.ref (G.1 + 26)), .val (.int (nI j)), .val (.int (rm_i pa)), .val (.int (-1)), .val (.int (nI k)), .val (.int (nI 1))]) d_R_nextBehind_65 rfl rfl hz rfl ?_
                  refine mp_iload X 69 d_R_nextBehind_67 rfl rfl ?_
                  refine mp_Zeq X 97 72 d_R_nextBehind_69 (by decide) rfl (by omega) (fun q10 => ?_) (fun q10 => ?_)
                  · exact absurd q10 (by decide)
                  · refine mp_iload_n X 73 d_R_nextBehind_72 rfl rfl rfl ?_
                    refine mp_if_lt X 92 76 d_R_nextBehind_73 (by decide) rfl (fun q11 => ?_) (fun q11 => ?_)
                    · refine mp_iload X 94 d_R_nextBehind_92 rfl rfl ?_
                      refine mp_goto X 98 d_R_nextBehind_94 (by decide) ?_
                      refine mp_istore_n X 99 (L' := [.val (.ref (G.1 + 26)), .val (.int (nI j)), .val (.int (rm_i pa)), .val (.int (nI k)), .val (.int (nI k)), .val (.int (nI 1))]) d_R_nextBehind_98 rfl rfl rfl rfl rfl ?_
                      refine mp_iinc X 102 (L' := [.val (.ref (G.1 + 26)), .val (.int (nI j)), .val (.int (rm_i pa)), .val (.int (nI k)), .val (.int (nI (k + 1))), .val (.int (nI 1))]) (v := nI (k + 1)) d_R_nextBehind_99 rfl rfl (nI_1 _) rfl ?_
                      refine mp_goto X 5 d_R_nextBehind_102 (by decide) ?_
                      have e9 : pq_fi S.2.1 k = pa := (rm_i_eq hf hpa').mp q6
                      have hct : rm_ch S j pa ps k = true := rm_ch_t hkw q4 e9 hpw
                      exact ih (k + 1) (some k) _ rfl (by omega) (by rw [pq_best_new hct hr.symm])
                    · exact absurd (by decide) q11
      | some b0 =>
        obtain ⟨hb0, -, -⟩ := (pq_best_spec (pq_id S.2.1) (rm_ch S j pa ps) k).1 b0 hr.symm
        have hidb := pq_id_lt hw hM (show b0 < S.1 by omega)
        have tb := (s2 b0 (by omega)).2.1
        refine mp_eq rfl (L2 := [.val (.ref (G.1 + 26)), .val (.int (nI j)), .val (.int (rm_i pa)), .val (.int (nI b0)), .val (.int (nI k)), z]) rfl rfl ?_
        refine mp_iload X 7 d_R_nextBehind_5 rfl rfl ?_
        refine mp_aload_n X 8 d_R_nextBehind_7 rfl rfl rfl ?_
        refine mp_getf X 11 lk_R_55_R d_R_nextBehind_8 rfl (hK.sz (by decide)) hK.ob s1 ?_
        refine mp_Nge X 105 14 d_R_nextBehind_11 (by decide) rfl (by omega) (by omega) (fun q1 => ?_) (fun q1 => ?_)
        · omega
        · obtain ⟨kb, kb1, hkb⟩ : ∃ kb : Nat, (kb = 1 ∧ pq_kw (S.2.2.1 j) (S.2.2.2 j) k = true ∨ kb = 0 ∧ pq_kw (S.2.2.1 j) (S.2.2.2 j) k = false) ∧ h.2.1 34 (90 * j + k) = .int (nI kb) := by
            cases hkw : pq_kw (S.2.2.1 j) (S.2.2.2 j) k with
            | true => rw [hkw] at s_kb; exact ⟨1, Or.inl ⟨rfl, rfl⟩, s_kb⟩
            | false => rw [hkw] at s_kb; exact ⟨0, Or.inr ⟨rfl, rfl⟩, s_kb⟩
          have kbb : kb < 2 := by omega
          refine mp_aload_n X 15 d_R_nextBehind_14 rfl rfl rfl ?_
          refine mp_getf X 18 lk_R_32_R d_R_nextBehind_15 rfl (hK.sz (by decide)) hK.ob hK.r_knows ?_
          refine mp_bipush X 20 (v := nI 90) d_R_nextBehind_18 rfl (by decide) ?_
          refine mp_iload_n X 21 d_R_nextBehind_20 rfl rfl rfl ?_
          refine mp_imul X 22 d_R_nextBehind_21 rfl ?_
          rw [pk_mul]
          refine mp_iload X 24 d_R_nextBehind_22 rfl rfl ?_
          refine mp_iadd X 25 d_R_nextBehind_24 rfl ?_
          rw [nI_add]
          refine mp_zald X 26 (90 * j + k) d_R_nextBehind_25 rfl (hK.sz (by decide)) hK.k_knows rfl (by omega) (by decide) hkb ?_
          refine mp_Zeq X 64 29 d_R_nextBehind_26 (by decide) rfl (by omega) (fun q2 => ?_) (fun q2 => ?_)
          · have hkw : pq_kw (S.2.2.1 j) (S.2.2.2 j) k = false := by rcases kb1 with ⟨h1, h2⟩ | ⟨h1, h2⟩; omega; exact h2
            refine mp_iconst X 65 (v := nI 0) d_R_nextBehind_64 rfl (by decide) ?_
            refine mp_istore X 67 (L' := [.val (.ref (G.1 + 26)), .val (.int (nI j)), .val (.int (rm_i pa)), .val (.int (nI b0)), .val (.int (nI k)), .val (.int (nI 0))]) d_R_nextBehind_65 rfl rfl hz rfl ?_
            refine mp_iload X 69 d_R_nextBehind_67 rfl rfl ?_
            refine mp_Zeq X 97 72 d_R_nextBehind_69 (by decide) rfl (by omega) (fun q3 => ?_) (fun q3 => ?_)
            · refine mp_iload_n X 98 d_R_nextBehind_97 rfl rfl rfl ?_
              refine mp_istore_n X 99 (L' := [.val (.ref (G.1 + 26)), .val (.int (nI j)), .val (.int (rm_i pa)), .val (.int (nI b0)), .val (.int (nI k)), .val (.int (nI 0))]) d_R_nextBehind_98 rfl rfl rfl rfl rfl ?_
              refine mp_iinc X 102 (L' := [.val (.ref (G.1 + 26)), .val (.int (nI j)), .val (.int (rm_i pa)), .val (.int (nI b0)), .val (.int (nI (k + 1))), .val (.int (nI 0))]) (v := nI (k + 1)) d_R_nextBehind_99 rfl rfl (nI_1 _) rfl ?_
              refine mp_goto X 5 d_R_nextBehind_102 (by decide) ?_
              exact ih (k + 1) (some b0) _ rfl (by omega) (by rw [pq_best_keep (show rm_ch S j pa ps k = false by unfold rm_ch; rw [hkw]; rfl), ← hr])
            · exact absurd rfl q3
          · have hkw : pq_kw (S.2.2.1 j) (S.2.2.2 j) k = true := by rcases kb1 with ⟨h1, h2⟩ | ⟨h1, h2⟩; exact h2; omega
            refine mp_aload_n X 30 d_R_nextBehind_29 rfl rfl rfl ?_
            refine mp_getf X 33 lk_R_7_R d_R_nextBehind_30 rfl (hK.sz (by decide)) hK.ob hK.r_sort ?_
            refine mp_iload X 35 d_R_nextBehind_33 rfl rfl ?_
            refine mp_iald X 36 (k) d_R_nextBehind_35 rfl (hK.sz (by decide)) hK.k_sort rfl (by omega) (by decide) t1 ?_
            refine mp_Zne X 64 39 d_R_nextBehind_36 (by decide) rfl (by omega) (fun q4 => ?_) (fun q4 => ?_)
            · refine mp_iconst X 65 (v := nI 0) d_R_nextBehind_64 rfl (by decide) ?_
              refine mp_istore X 67 (L' := [.val (.ref (G.1 + 26)), .val (.int (nI j)), .val (.int (rm_i pa)), .val (.int (nI b0)), .val (.int (nI k)), .val (.int (nI 0))]) d_R_nextBehind_65 rfl rfl hz rfl ?_
              refine mp_iload X 69 d_R_nextBehind_67 rfl rfl ?_
              refine mp_Zeq X 97 72 d_R_nextBehind_69 (by decide) rfl (by omega) (fun q5 => ?_) (fun q5 => ?_)
              · refine mp_iload_n X 98 d_R_nextBehind_97 rfl rfl rfl ?_
                refine mp_istore_n X 99 (L' := [.val (.ref (G.1 + 26)), .val (.int (nI j)), .val (.int (rm_i pa)), .val (.int (nI b0)), .val (.int (nI k)), .val (.int (nI 0))]) d_R_nextBehind_98 rfl rfl rfl rfl rfl ?_
                refine mp_iinc X 102 (L' := [.val (.ref (G.1 + 26)), .val (.int (nI j)), .val (.int (rm_i pa)), .val (.int (nI b0)), .val (.int (nI (k + 1))), .val (.int (nI 0))]) (v := nI (k + 1)) d_R_nextBehind_99 rfl rfl (nI_1 _) rfl ?_
                refine mp_goto X 5 d_R_nextBehind_102 (by decide) ?_
                exact ih (k + 1) (some b0) _ rfl (by omega) (by rw [pq_best_keep (show rm_ch S j pa ps k = false by unfold rm_ch; simp [q4]), ← hr])
              · exact absurd rfl q5
            · refine mp_aload_n X 40 d_R_nextBehind_39 rfl rfl rfl ?_
              refine mp_getf X 43 lk_R_16_R d_R_nextBehind_40 rfl (hK.sz (by decide)) hK.ob hK.r_first ?_
              refine mp_iload X 45 d_R_nextBehind_43 rfl rfl ?_
              refine mp_iald X 46 (k) d_R_nextBehind_45 rfl (hK.sz (by decide)) hK.k_first rfl (by omega) (by decide) t3 ?_
              refine mp_iload_n X 47 d_R_nextBehind_46 rfl rfl rfl ?_
              refine mp_icmp_ne X 64 50 d_R_nextBehind_47 (by decide) rfl (fun q6 => ?_) (fun q6 => ?_)
              · refine mp_iconst X 65 (v := nI 0) d_R_nextBehind_64 rfl (by decide) ?_
                refine mp_istore X 67 (L' := [.val (.ref (G.1 + 26)), .val (.int (nI j)), .val (.int (rm_i pa)), .val (.int (nI b0)), .val (.int (nI k)), .val (.int (nI 0))]) d_R_nextBehind_65 rfl rfl hz rfl ?_
                refine mp_iload X 69 d_R_nextBehind_67 rfl rfl ?_
                refine mp_Zeq X 97 72 d_R_nextBehind_69 (by decide) rfl (by omega) (fun q7 => ?_) (fun q7 => ?_)
                · refine mp_iload_n X 98 d_R_nextBehind_97 rfl rfl rfl ?_
                  refine mp_istore_n X 99 (L' := [.val (.ref (G.1 + 26)), .val (.int (nI j)), .val (.int (rm_i pa)), .val (.int (nI b0)), .val (.int (nI k)), .val (.int (nI 0))]) d_R_nextBehind_98 rfl rfl rfl rfl rfl ?_
                  refine mp_iinc X 102 (L' := [.val (.ref (G.1 + 26)), .val (.int (nI j)), .val (.int (rm_i pa)), .val (.int (nI b0)), .val (.int (nI (k + 1))), .val (.int (nI 0))]) (v := nI (k + 1)) d_R_nextBehind_99 rfl rfl (nI_1 _) rfl ?_
                  refine mp_goto X 5 d_R_nextBehind_102 (by decide) ?_
                  have e9 : ¬ pq_fi S.2.1 k = pa := fun e => q6 (by rw [e])
                  exact ih (k + 1) (some b0) _ rfl (by omega) (by rw [pq_best_keep (show rm_ch S j pa ps k = false by unfold rm_ch; simp [e9]), ← hr])
                · exact absurd rfl q7
              · obtain ⟨pb, pb1, hpb⟩ : ∃ pb : Nat, (pb = 1 ∧ ps k = true ∨ pb = 0 ∧ ps k = false) ∧ h.2.1 39 (k) = .int (nI pb) := by
                  cases hkw : ps k with
                  | true => rw [hkw] at s_pb; exact ⟨1, Or.inl ⟨rfl, rfl⟩, s_pb⟩
                  | false => rw [hkw] at s_pb; exact ⟨0, Or.inr ⟨rfl, rfl⟩, s_pb⟩
                have pbb : pb < 2 := by omega
                refine mp_aload_n X 51 d_R_nextBehind_50 rfl rfl rfl ?_
                refine mp_getf X 54 lk_R_48_R d_R_nextBehind_51 rfl (hK.sz (by decide)) hK.ob hK.r_passed ?_
                refine mp_iload X 56 d_R_nextBehind_54 rfl rfl ?_
                refine mp_zald X 57 (k) d_R_nextBehind_56 rfl (hK.sz (by decide)) hK.k_passed rfl (by omega) (by decide) hpb ?_
                refine mp_Zne X 64 60 d_R_nextBehind_57 (by decide) rfl (by omega) (fun q8 => ?_) (fun q8 => ?_)
                · have hpw : ps k = true := by rcases pb1 with ⟨h1, h2⟩ | ⟨h1, h2⟩; exact h2; omega
                  refine mp_iconst X 65 (v := nI 0) d_R_nextBehind_64 rfl (by decide) ?_
                  refine mp_istore X 67 (L' := [.val (.ref (G.1 + 26)), .val (.int (nI j)), .val (.int (rm_i pa)), .val (.int (nI b0)), .val (.int (nI k)), .val (.int (nI 0))]) d_R_nextBehind_65 rfl rfl hz rfl ?_
                  refine mp_iload X 69 d_R_nextBehind_67 rfl rfl ?_
                  refine mp_Zeq X 97 72 d_R_nextBehind_69 (by decide) rfl (by omega) (fun q9 => ?_) (fun q9 => ?_)
                  · refine mp_iload_n X 98 d_R_nextBehind_97 rfl rfl rfl ?_
                    refine mp_istore_n X 99 (L' := [.val (.ref (G.1 + 26)), .val (.int (nI j)), .val (.int (rm_i pa)), .val (.int (nI b0)), .val (.int (nI k)), .val (.int (nI 0))]) d_R_nextBehind_98 rfl rfl rfl rfl rfl ?_
                    refine mp_iinc X 102 (L' := [.val (.ref (G.1 + 26)), .val (.int (nI j)), .val (.int (rm_i pa)), .val (.int (nI b0)), .val (.int (nI (k + 1))), .val (.int (nI 0))]) (v := nI (k + 1)) d_R_nextBehind_99 rfl rfl (nI_1 _) rfl ?_
                    refine mp_goto X 5 d_R_nextBehind_102 (by decide) ?_
                    exact ih (k + 1) (some b0) _ rfl (by omega) (by rw [pq_best_keep (show rm_ch S j pa ps k = false by unfold rm_ch; rw [hpw]; simp), ← hr])
                  · exact absurd rfl q9
                · have hpw : ps k = false := by rcases pb1 with ⟨h1, h2⟩ | ⟨h1, h2⟩; omega; exact h2
                  refine mp_iconst X 61 (v := nI 1) d_R_nextBehind_60 rfl (by decide) ?_
                  refine mp_goto X 65 d_R_nextBehind_61 (by decide) ?_
                  refine mp_istore X 67 (L' := [.val (.ref (G.1 + 26)), .val (.int (nI j)), .val (.int (rm_i pa)), .val (.int (nI b0)), .val (.int (nI k)), .val (.int (nI 1))]) d_R_nextBehind_65 rfl rfl hz rfl ?_
                  refine mp_iload X 69 d_R_nextBehind_67 rfl rfl ?_
                  refine mp_Zeq X 97 72 d_R_nextBehind_69 (by decide) rfl (by omega) (fun q10 => ?_) (fun q10 => ?_)
                  · exact absurd q10 (by decide)
                  · refine mp_iload_n X 73 d_R_nextBehind_72 rfl rfl rfl ?_
                    refine mp_Zlt X 92 76 d_R_nextBehind_73 (by decide) rfl (by omega) (fun q11 => ?_) (fun q11 => ?_)
                    · exact q11.elim
                    · refine mp_aload_n X 77 d_R_nextBehind_76 rfl rfl rfl ?_
                      refine mp_getf X 80 lk_R_13_R d_R_nextBehind_77 rfl (hK.sz (by decide)) hK.ob hK.r_ids ?_
                      refine mp_iload X 82 d_R_nextBehind_80 rfl rfl ?_
                      refine mp_iald X 83 (k) d_R_nextBehind_82 rfl (hK.sz (by decide)) hK.k_ids rfl (by omega) (by decide) t2 ?_
                      refine mp_aload_n X 84 d_R_nextBehind_83 rfl rfl rfl ?_
                      refine mp_getf X 87 lk_R_13_R d_R_nextBehind_84 rfl (hK.sz (by decide)) hK.ob hK.r_ids ?_
                      refine mp_iload_n X 88 d_R_nextBehind_87 rfl rfl rfl ?_
                      refine mp_iald X 89 (b0) d_R_nextBehind_88 rfl (hK.sz (by decide)) hK.k_ids rfl (by omega) (by decide) tb ?_
                      refine mp_Nle X 97 92 d_R_nextBehind_89 (by decide) rfl (by omega) (by omega) (fun q12 => ?_) (fun q12 => ?_)
                      · refine mp_iload_n X 98 d_R_nextBehind_97 rfl rfl rfl ?_
                        refine mp_istore_n X 99 (L' := [.val (.ref (G.1 + 26)), .val (.int (nI j)), .val (.int (rm_i pa)), .val (.int (nI b0)), .val (.int (nI k)), .val (.int (nI 1))]) d_R_nextBehind_98 rfl rfl rfl rfl rfl ?_
                        refine mp_iinc X 102 (L' := [.val (.ref (G.1 + 26)), .val (.int (nI j)), .val (.int (rm_i pa)), .val (.int (nI b0)), .val (.int (nI (k + 1))), .val (.int (nI 1))]) (v := nI (k + 1)) d_R_nextBehind_99 rfl rfl (nI_1 _) rfl ?_
                        refine mp_goto X 5 d_R_nextBehind_102 (by decide) ?_
                        have e9 : pq_fi S.2.1 k = pa := (rm_i_eq hf hpa').mp q6
                        have hct : rm_ch S j pa ps k = true := rm_ch_t hkw q4 e9 hpw
                        exact ih (k + 1) (some b0) _ rfl (by omega) (by rw [pq_best_no hr.symm q12])
                      · refine mp_iload X 94 d_R_nextBehind_92 rfl rfl ?_
                        refine mp_goto X 98 d_R_nextBehind_94 (by decide) ?_
                        refine mp_istore_n X 99 (L' := [.val (.ref (G.1 + 26)), .val (.int (nI j)), .val (.int (rm_i pa)), .val (.int (nI k)), .val (.int (nI k)), .val (.int (nI 1))]) d_R_nextBehind_98 rfl rfl rfl rfl rfl ?_
                        refine mp_iinc X 102 (L' := [.val (.ref (G.1 + 26)), .val (.int (nI j)), .val (.int (rm_i pa)), .val (.int (nI k)), .val (.int (nI (k + 1))), .val (.int (nI 1))]) (v := nI (k + 1)) d_R_nextBehind_99 rfl rfl (nI_1 _) rfl ?_
                        refine mp_goto X 5 d_R_nextBehind_102 (by decide) ?_
                        have e9 : pq_fi S.2.1 k = pa := (rm_i_eq hf hpa').mp q6
                        have hct : rm_ch S j pa ps k = true := rm_ch_t hkw q4 e9 hpw
                        exact ih (k + 1) (some k) _ rfl (by omega) (by rw [pq_best_up hct hr.symm q12])
  refine mp_eq rfl (L2 := [.val (.ref (G.1 + 26)), .val (.int (nI j)), .val (.int (rm_i pa)), .unset, .unset, .unset]) rfl rfl ?_
  refine mp_iconst X 1 (v := -1) d_R_nextBehind_0 rfl (by decide) ?_
  refine mp_istore_n X 2 (L' := [.val (.ref (G.1 + 26)), .val (.int (nI j)), .val (.int (rm_i pa)), .val (.int (-1)), .unset, .unset]) d_R_nextBehind_1 rfl rfl rfl rfl rfl ?_
  refine mp_iconst X 3 (v := nI 0) d_R_nextBehind_2 rfl (by decide) ?_
  refine mp_istore X 5 (L' := [.val (.ref (G.1 + 26)), .val (.int (nI j)), .val (.int (rm_i pa)), .val (.int (-1)), .val (.int (nI 0)), .unset]) d_R_nextBehind_3 rfl rfl rfl rfl ?_
  exact hloop S.1 0 none .unset rfl (by omega) rfl
