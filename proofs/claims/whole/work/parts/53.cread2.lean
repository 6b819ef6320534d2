/-! A page: startsRun, startOfRun, knowsAllOf, writingShownAt; pageNumbered (rows laid by program). -/
theorem pq_sr_full {f : Nat → Nat} {r n : Nat} (h : pq_ru f n ≤ r) : pq_sr f r n = n := by
  cases n with
  | zero => rfl
  | succ n => unfold pq_sr; rw [if_pos h]
theorem cp_tx {G : mp_G} {h : mp_H} {S : pq_S} {P j q : Nat} {ad : Nat → Nat} (hP : cp_P G h S.2.1 ad P (S.2.2.1 j) (S.2.2.2 j)) (hq : q < (rm_T S j).length) : h.2.1 (P + 3) q = .ref (G.1 + ad (sp_t S j q)) := hP.2.2.2.2.2.2 q _ (sp_t_mem hq)
section MPGO
variable {G : mp_G} {Ts : List Cond} {E : mp_E} {y : MethodName} {cc : ByteArray} {nL : Nat} {rt : Option FieldType} {hh : List (Nat × Nat × Nat × Nat)} {d mc ms : Nat} {h : mp_H} {cs sl : Nat} {Q : State → Prop} {pc : Nat} {L : List Slot} {st : List Value}
/-- a field that all operations have -/
theorem mp_getop (X : mp_C G Ts E y cc nL rt hh d mc ms) (pc' : Nat) {index k o : Nat} {v : Value} (hW : mp_L Ts y.cls index 2 5 k) (hE : mp_L Ts y.cls index 3 4 k) (hM : mp_L Ts y.cls index 4 8 k) (hd : decode cc pc = .ok (.getfield index, 3)) (hp : pc + 3 = pc') (ho : o < h.2.2) (hkd : h.1 o = (2, 5) ∨ h.1 o = (3, 4) ∨ h.1 o = (4, 8)) (hv : h.2.1 o k = v)
    (kk : mp_W G E h cs sl Q pc' L (v :: st)) : mp_W G E h cs sl Q pc L (.ref (G.1 + o) :: st) := by
  rcases hkd with h1 | h1 | h1
  · exact mp_getf X pc' hW hd hp ho h1 hv kk
  · exact mp_getf X pc' hE hd hp ho h1 hv kk
  · exact mp_getf X pc' hM hd hp ho h1 hv kk
end MPGO
theorem cp_o.kd {G : mp_G} {h : mp_H} {O : pq_O} {ad : Nat → Nat} {k : Nat} (ho : cp_o G h O ad k) (hs : pq_so O k < 3) : h.1 (ad k) = (2, 5) ∨ h.1 (ad k) = (3, 4) ∨ h.1 (ad k) = (4, 8) := by
  rcases (show pq_so O k = 0 ∨ pq_so O k = 1 ∨ pq_so O k = 2 by omega) with h1 | h1 | h1
  · exact Or.inl (ho.2.2.2.2.1 h1).1
  · exact Or.inr (Or.inl (ho.2.2.2.2.2.1 h1).1)
  · exact Or.inr (Or.inr (ho.2.2.2.2.2.2 h1).1)
set_option maxRecDepth 100000 in
set_option maxHeartbeats 4000000 in
theorem k_P_startsRun0 (l : Launch) {G : mp_G} {h : mp_H} {S : pq_S} {P j : Nat} {ad : Nat → Nat} {p : Nat} (hK : cp_K G h P) (hO : cp_O G h S.1 S.2.1 ad) (hP : cp_P G h S.2.1 ad P (S.2.2.1 j) (S.2.2.2 j)) (hok : pq_ok S) (hj : j < 3) (hp : p < (rm_T S j).length) :
    mp_M G mp_Ts l y_P_startsRun 2 0 0 [.ref (G.1 + P), .int (nI p)] h (fun v h' => h' = h ∧ v = some (.int (rm_b (pq_bg (sp_fm S j) p)))) (fun _ _ => False) := by
  have hTl := sp_T_len hok hj
  have hf1 := pq_fm_lt S.2.1 (rm_F S j) (sp_t S j p) (sp_mk S j)
  have hf2 := pq_fm_lt S.2.1 (rm_F S j) (sp_t S j (p - 1)) (sp_mk S j)
  change sp_fm S j p < 16 at hf1
  change sp_fm S j (p - 1) < 16 at hf2
  refine mp_enter (by decide) Y_P_startsRun fun E hl X => ?_
  refine mp_eq rfl (L2 := [.val (.ref (G.1 + P)), .val (.int (nI p))]) rfl rfl ?_
  refine mp_iload_n X 1 d_P_startsRun_0 rfl rfl rfl ?_
  refine mp_Zeq X 29 4 d_P_startsRun_1 (by decide) rfl (by omega) (fun q1 => ?_) (fun q1 => ?_)
  · refine mp_iconst X 30 (v := nI 1) d_P_startsRun_29 rfl (by decide) ?_
    refine mp_goto X 34 d_P_startsRun_30 (by decide) ?_
    have eb : pq_bg (sp_fm S j) p = true := by unfold pq_bg; rw [q1]; rfl
    exact mp_iret X d_P_startsRun_34 rfl rfl (by decide) (by decide) ⟨rfl, by rw [eb]; rfl⟩
  · refine mp_aload_n X 5 d_P_startsRun_4 rfl rfl rfl ?_
    refine mp_aload_n X 6 d_P_startsRun_5 rfl rfl rfl ?_
    refine mp_getf (v := .ref (G.1 + (P + 3))) X 9 lk_P_23_P d_P_startsRun_6 rfl (hK.sz (by omega)) hK.ob hK.r_text ?_
    refine mp_iload_n X 10 d_P_startsRun_9 rfl rfl rfl ?_
    refine mp_aald (t := 6) (v := .ref (G.1 + (ad (sp_t S j p)))) X 11 (p) d_P_startsRun_10 rfl (hK.sz (by omega)) hK.k_text (by decide) (by decide) rfl (by omega) (by decide) (cp_tx hP (by omega)) ?_
    refine mp_callE X mp_Ts_ok 14 (rest := []) (k_P_formatOf _ hK hO hP hok.2.1 hok.1 (hok.2.2.1 j hj) (sp_t_row (q := p) (by omega))) Y_P_formatOf in_P (mp_IV X (q := (nR_P, nT_P, 12)) d_P_startsRun_11 Y_P_formatOf ml_P_106 im_P_formatOf se_P_formatOf (by decide) rfl (by decide) (by show _ = some 1; decide) (hK.sz (by omega)) hK.ob) rfl (by decide) (by decide) (by decide) (by decide) rfl (Nat.le_of_ble_eq_true rfl) rfl ?_
    refine mp_eq rfl rfl (st2 := [.int (nI ((sp_fm S j p)))]) rfl ?_
    refine mp_aload_n X 15 d_P_startsRun_14 rfl rfl rfl ?_
    refine mp_aload_n X 16 d_P_startsRun_15 rfl rfl rfl ?_
    refine mp_getf (v := .ref (G.1 + (P + 3))) X 19 lk_P_23_P d_P_startsRun_16 rfl (hK.sz (by omega)) hK.ob hK.r_text ?_
    refine mp_iload_n X 20 d_P_startsRun_19 rfl rfl rfl ?_
    refine mp_iconst X 21 (v := nI 1) d_P_startsRun_20 rfl (by decide) ?_
    refine mp_isub X 22 d_P_startsRun_21 rfl ?_
    have e2 : nI p - nI 1 = nI (p - 1) := pk_sub (by omega)
    rw [e2]
    refine mp_aald (t := 6) (v := .ref (G.1 + (ad (sp_t S j (p - 1))))) X 23 (p - 1) d_P_startsRun_22 rfl (hK.sz (by omega)) hK.k_text (by decide) (by decide) rfl (by omega) (by decide) (cp_tx hP (by omega)) ?_
    refine mp_callE X mp_Ts_ok 26 (rest := [.int (nI ((sp_fm S j p)))]) (k_P_formatOf _ hK hO hP hok.2.1 hok.1 (hok.2.2.1 j hj) (sp_t_row (q := (p - 1)) (by omega))) Y_P_formatOf in_P (mp_IV X (q := (nR_P, nT_P, 12)) d_P_startsRun_23 Y_P_formatOf ml_P_106 im_P_formatOf se_P_formatOf (by decide) rfl (by decide) (by show _ = some 1; decide) (hK.sz (by omega)) hK.ob) rfl (by decide) (by decide) (by decide) (by decide) rfl (Nat.le_of_ble_eq_true rfl) rfl ?_
    refine mp_eq rfl rfl (st2 := [.int (nI ((sp_fm S j (p - 1)))), .int (nI ((sp_fm S j p)))]) rfl ?_
    refine mp_Neq X 33 29 d_P_startsRun_26 (by decide) rfl (by omega) (by omega) (fun q3 => ?_) (fun q3 => ?_)
    · refine mp_iconst X 34 (v := nI 0) d_P_startsRun_33 rfl (by decide) ?_
      have eb : pq_bg (sp_fm S j) p = false := by simp [pq_bg, q1, q3]
      exact mp_iret X d_P_startsRun_34 rfl rfl (by decide) (by decide) ⟨rfl, by rw [eb]; rfl⟩
    · refine mp_iconst X 30 (v := nI 1) d_P_startsRun_29 rfl (by decide) ?_
      refine mp_goto X 34 d_P_startsRun_30 (by decide) ?_
      have eb : pq_bg (sp_fm S j) p = true := by simp [pq_bg, q1, q3]
      exact mp_iret X d_P_startsRun_34 rfl rfl (by decide) (by decide) ⟨rfl, by rw [eb]; rfl⟩
theorem k_P_startsRun (l : Launch) {G : mp_G} {h : mp_H} {S : pq_S} {P j : Nat} {ad : Nat → Nat} {p n : Nat} (hK : cp_K G h P) (hO : cp_O G h S.1 S.2.1 ad) (hP : cp_P G h S.2.1 ad P (S.2.2.1 j) (S.2.2.2 j)) (hok : pq_ok S) (hj : j < 3) (hp : p < (rm_T S j).length) (hn : rm_b (pq_bg (sp_fm S j) p) = nI n) :
    mp_M G mp_Ts l y_P_startsRun 2 0 0 [.ref (G.1 + P), .int (nI p)] h (fun v h' => h' = h ∧ v = some (.int (nI n))) (fun _ _ => False) := by
  rw [← hn]
  exact k_P_startsRun0 l hK hO hP hok hj hp
set_option maxRecDepth 100000 in
set_option maxHeartbeats 4000000 in
theorem k_P_startOfRunA (l : Launch) {G : mp_G} {h : mp_H} {S : pq_S} {P j : Nat} {ad : Nat → Nat} {r : Nat} (hK : cp_K G h P) (hO : cp_O G h S.1 S.2.1 ad) (hP : cp_P G h S.2.1 ad P (S.2.2.1 j) (S.2.2.2 j)) (hok : pq_ok S) (hj : j < 3) (hr : r < 2 ^ 31) :
    mp_M G mp_Ts l y_P_startOfRun 3 0 0 [.ref (G.1 + P), .int (nI r)] h (fun v h' => h' = h ∧ v = some (.int (nI (pq_sr (sp_fm S j) r (rm_T S j).length)))) (fun _ _ => False) := by
  have hTl := sp_T_len hok hj
  have hts : h.2.1 P 6 = .int (nI (rm_T S j).length) := hP.2.2.2.2.2.1
  refine mp_enter (by decide) Y_P_startOfRun fun E hl X => ?_
  refine mp_eq rfl (L2 := [.val (.ref (G.1 + P)), .val (.int (nI r)), .unset, .unset]) rfl rfl ?_
  have hloop : ∀ (n p : Nat), p + n = (rm_T S j).length → (pq_ru (sp_fm S j) p) ≤ r → mp_W G E h 0 0 (mp_Q G E 0 0 (fun v h' => h' = h ∧ v = some (.int (nI (pq_sr (sp_fm S j) r (rm_T S j).length)))) (fun _ _ => False)) 4 [.val (.ref (G.1 + P)), .val (.int (nI r)), .val (.int (nI (pq_ru (sp_fm S j) p))), .val (.int (nI p))] [] := by
    intro n
    induction n with
    | zero =>
      intro p hpn hru
      have hpl : p = (rm_T S j).length := by omega
      subst hpl
      refine mp_iload_n X 5 d_P_startOfRun_4 rfl rfl rfl ?_
      refine mp_aload_n X 6 d_P_startOfRun_5 rfl rfl rfl ?_
      refine mp_getf (v := .int (nI ((rm_T S j).length))) X 9 lk_P_88_P d_P_startOfRun_6 rfl (hK.sz (by omega)) hK.ob hts ?_
      refine mp_Nge X 36 12 d_P_startOfRun_9 (by decide) rfl (by omega) (by omega) (fun q1 => ?_) (fun q1 => ?_)
      · refine mp_aload_n X 37 d_P_startOfRun_36 rfl rfl rfl ?_
        refine mp_getf (v := .int (nI ((rm_T S j).length))) X 40 lk_P_88_P d_P_startOfRun_37 rfl (hK.sz (by omega)) hK.ob hts ?_
        rw [pq_sr_full hru]
        exact mp_iret X d_P_startOfRun_40 rfl rfl (by decide) (by decide) ⟨rfl, rfl⟩
      · omega
    | succ n ih =>
      intro p hpn hru
      obtain ⟨bn, hbn, hb⟩ := rm_b_n (pq_bg (sp_fm S j) p)
      have hbl : bn < 2 := by omega
      have hrs := pq_ru_s (sp_fm S j) p
      have hrl := pq_ru_le (sp_fm S j) p
      refine mp_iload_n X 5 d_P_startOfRun_4 rfl rfl rfl ?_
      refine mp_aload_n X 6 d_P_startOfRun_5 rfl rfl rfl ?_
      refine mp_getf (v := .int (nI ((rm_T S j).length))) X 9 lk_P_88_P d_P_startOfRun_6 rfl (hK.sz (by omega)) hK.ob hts ?_
      refine mp_Nge X 36 12 d_P_startOfRun_9 (by decide) rfl (by omega) (by omega) (fun q1 => ?_) (fun q1 => ?_)
      · omega
      · refine mp_aload_n X 13 d_P_startOfRun_12 rfl rfl rfl ?_
        refine mp_iload_n X 14 d_P_startOfRun_13 rfl rfl rfl ?_
        refine mp_callE X mp_Ts_ok 17 (rest := []) (k_P_startsRun (p := p) (n := bn) _ hK hO hP hok hj (by omega) hbn) Y_P_startsRun in_P (mp_IV X (q := (nR_P, nT_P, 12)) d_P_startOfRun_14 Y_P_startsRun ml_P_110 im_P_startsRun se_P_startsRun (by decide) rfl (by decide) (by show _ = some 1; decide) (hK.sz (by omega)) hK.ob) rfl (by decide) (by decide) (by decide) (by decide) rfl (Nat.le_of_ble_eq_true rfl) rfl ?_
        refine mp_Zeq X 30 20 d_P_startOfRun_17 (by decide) rfl (by omega) (fun q2 => ?_) (fun q2 => ?_)
        · refine mp_iinc X 33 (L' := [.val (.ref (G.1 + P)), .val (.int (nI r)), .val (.int (nI ((pq_ru (sp_fm S j) p)))), .val (.int (nI (p + 1)))]) (v := nI (p + 1)) d_P_startOfRun_30 rfl rfl (nI_1 _) rfl ?_
          refine mp_goto X 4 d_P_startOfRun_33 (by decide) ?_
          have hbb : pq_bg (sp_fm S j) p = false := by rcases hb with ⟨h1, h2⟩ | ⟨h1, h2⟩ <;> first | exact h2 | omega
          have eg : pq_ru (sp_fm S j) (p + 1) = (pq_ru (sp_fm S j) p) := by rw [hrs, hbb]; rfl
          have hg := ih (p + 1) (by omega) (by omega)
          rw [eg] at hg
          exact hg
        · have hbb : pq_bg (sp_fm S j) p = true := by rcases hb with ⟨h1, h2⟩ | ⟨h1, h2⟩ <;> first | exact h2 | omega
          refine mp_iload_n X 21 d_P_startOfRun_20 rfl rfl rfl ?_
          refine mp_iload_n X 22 d_P_startOfRun_21 rfl rfl rfl ?_
          refine mp_Nne X 27 25 d_P_startOfRun_22 (by decide) rfl (by omega) (by omega) (fun q3 => ?_) (fun q3 => ?_)
          · refine mp_iinc X 30 (L' := [.val (.ref (G.1 + P)), .val (.int (nI r)), .val (.int (nI ((pq_ru (sp_fm S j) p) + 1))), .val (.int (nI p))]) (v := nI ((pq_ru (sp_fm S j) p) + 1)) d_P_startOfRun_27 rfl rfl (nI_1 _) rfl ?_
            refine mp_iinc X 33 (L' := [.val (.ref (G.1 + P)), .val (.int (nI r)), .val (.int (nI ((pq_ru (sp_fm S j) p) + 1))), .val (.int (nI (p + 1)))]) (v := nI (p + 1)) d_P_startOfRun_30 rfl rfl (nI_1 _) rfl ?_
            refine mp_goto X 4 d_P_startOfRun_33 (by decide) ?_
            have eg : pq_ru (sp_fm S j) (p + 1) = (pq_ru (sp_fm S j) p) + 1 := by rw [hrs, hbb]; rfl
            have hg := ih (p + 1) (by omega) (by omega)
            rw [eg] at hg
            exact hg
          · refine mp_iload_n X 26 d_P_startOfRun_25 rfl rfl rfl ?_
            rw [pq_sr_bg (n := (rm_T S j).length) (by omega) hbb (show (pq_ru (sp_fm S j) p) = r by omega)]
            exact mp_iret X d_P_startOfRun_26 rfl rfl (by decide) (by decide) ⟨rfl, rfl⟩
  refine mp_iconst X 1 (v := nI 0) d_P_startOfRun_0 rfl (by decide) ?_
  refine mp_istore_n X 2 (L' := [.val (.ref (G.1 + P)), .val (.int (nI r)), .val (.int (nI 0)), .unset]) d_P_startOfRun_1 rfl rfl rfl rfl rfl ?_
  refine mp_iconst X 3 (v := nI 0) d_P_startOfRun_2 rfl (by decide) ?_
  refine mp_istore_n X 4 (L' := [.val (.ref (G.1 + P)), .val (.int (nI r)), .val (.int (nI 0)), .val (.int (nI 0))]) d_P_startOfRun_3 rfl rfl rfl rfl rfl ?_
  exact hloop (rm_T S j).length 0 (by omega) (Nat.zero_le _)
set_option maxRecDepth 100000 in
set_option maxHeartbeats 4000000 in
theorem k_P_startOfRunB (l : Launch) {G : mp_G} {h : mp_H} {S : pq_S} {P j : Nat} {ad : Nat → Nat} {k : Int32} (hK : cp_K G h P) (hO : cp_O G h S.1 S.2.1 ad) (hP : cp_P G h S.2.1 ad P (S.2.2.1 j) (S.2.2.2 j)) (hok : pq_ok S) (hj : j < 3) (hk : k < 0) :
    mp_M G mp_Ts l y_P_startOfRun 3 0 0 [.ref (G.1 + P), .int k] h (fun v h' => h' = h ∧ v = some (.int (nI (rm_T S j).length))) (fun _ _ => False) := by
  have hTl := sp_T_len hok hj
  have hts : h.2.1 P 6 = .int (nI (rm_T S j).length) := hP.2.2.2.2.2.1
  refine mp_enter (by decide) Y_P_startOfRun fun E hl X => ?_
  refine mp_eq rfl (L2 := [.val (.ref (G.1 + P)), .val (.int k), .unset, .unset]) rfl rfl ?_
  have hloop : ∀ (n p : Nat), p + n = (rm_T S j).length → mp_W G E h 0 0 (mp_Q G E 0 0 (fun v h' => h' = h ∧ v = some (.int (nI (rm_T S j).length))) (fun _ _ => False)) 4 [.val (.ref (G.1 + P)), .val (.int k), .val (.int (nI (pq_ru (sp_fm S j) p))), .val (.int (nI p))] [] := by
    intro n
    induction n with
    | zero =>
      intro p hpn
      have hpl : p = (rm_T S j).length := by omega
      subst hpl
      refine mp_iload_n X 5 d_P_startOfRun_4 rfl rfl rfl ?_
      refine mp_aload_n X 6 d_P_startOfRun_5 rfl rfl rfl ?_
      refine mp_getf (v := .int (nI ((rm_T S j).length))) X 9 lk_P_88_P d_P_startOfRun_6 rfl (hK.sz (by omega)) hK.ob hts ?_
      refine mp_Nge X 36 12 d_P_startOfRun_9 (by decide) rfl (by omega) (by omega) (fun q1 => ?_) (fun q1 => ?_)
      · refine mp_aload_n X 37 d_P_startOfRun_36 rfl rfl rfl ?_
        refine mp_getf (v := .int (nI ((rm_T S j).length))) X 40 lk_P_88_P d_P_startOfRun_37 rfl (hK.sz (by omega)) hK.ob hts ?_
        exact mp_iret X d_P_startOfRun_40 rfl rfl (by decide) (by decide) ⟨rfl, rfl⟩
      · omega
    | succ n ih =>
      intro p hpn
      obtain ⟨bn, hbn, hb⟩ := rm_b_n (pq_bg (sp_fm S j) p)
      have hbl : bn < 2 := by omega
      have hrs := pq_ru_s (sp_fm S j) p
      have hrl := pq_ru_le (sp_fm S j) p
      refine mp_iload_n X 5 d_P_startOfRun_4 rfl rfl rfl ?_
      refine mp_aload_n X 6 d_P_startOfRun_5 rfl rfl rfl ?_
      refine mp_getf (v := .int (nI ((rm_T S j).length))) X 9 lk_P_88_P d_P_startOfRun_6 rfl (hK.sz (by omega)) hK.ob hts ?_
      refine mp_Nge X 36 12 d_P_startOfRun_9 (by decide) rfl (by omega) (by omega) (fun q1 => ?_) (fun q1 => ?_)
      · omega
      · refine mp_aload_n X 13 d_P_startOfRun_12 rfl rfl rfl ?_
        refine mp_iload_n X 14 d_P_startOfRun_13 rfl rfl rfl ?_
        refine mp_callE X mp_Ts_ok 17 (rest := []) (k_P_startsRun (p := p) (n := bn) _ hK hO hP hok hj (by omega) hbn) Y_P_startsRun in_P (mp_IV X (q := (nR_P, nT_P, 12)) d_P_startOfRun_14 Y_P_startsRun ml_P_110 im_P_startsRun se_P_startsRun (by decide) rfl (by decide) (by show _ = some 1; decide) (hK.sz (by omega)) hK.ob) rfl (by decide) (by decide) (by decide) (by decide) rfl (Nat.le_of_ble_eq_true rfl) rfl ?_
        refine mp_Zeq X 30 20 d_P_startOfRun_17 (by decide) rfl (by omega) (fun q2 => ?_) (fun q2 => ?_)
        · refine mp_iinc X 33 (L' := [.val (.ref (G.1 + P)), .val (.int (k)), .val (.int (nI ((pq_ru (sp_fm S j) p)))), .val (.int (nI (p + 1)))]) (v := nI (p + 1)) d_P_startOfRun_30 rfl rfl (nI_1 _) rfl ?_
          refine mp_goto X 4 d_P_startOfRun_33 (by decide) ?_
          have hbb : pq_bg (sp_fm S j) p = false := by rcases hb with ⟨h1, h2⟩ | ⟨h1, h2⟩ <;> first | exact h2 | omega
          have eg : pq_ru (sp_fm S j) (p + 1) = (pq_ru (sp_fm S j) p) := by rw [hrs, hbb]; rfl
          have hg := ih (p + 1) (by omega)
          rw [eg] at hg
          exact hg
        · refine mp_iload_n X 21 d_P_startOfRun_20 rfl rfl rfl ?_
          refine mp_iload_n X 22 d_P_startOfRun_21 rfl rfl rfl ?_
          refine mp_icmp_ne X 27 25 d_P_startOfRun_22 (by decide) rfl (fun q3 => ?_) (fun q3 => ?_)
          · refine mp_iinc X 30 (L' := [.val (.ref (G.1 + P)), .val (.int (k)), .val (.int (nI ((pq_ru (sp_fm S j) p) + 1))), .val (.int (nI p))]) (v := nI ((pq_ru (sp_fm S j) p) + 1)) d_P_startOfRun_27 rfl rfl (nI_1 _) rfl ?_
            refine mp_iinc X 33 (L' := [.val (.ref (G.1 + P)), .val (.int (k)), .val (.int (nI ((pq_ru (sp_fm S j) p) + 1))), .val (.int (nI (p + 1)))]) (v := nI (p + 1)) d_P_startOfRun_30 rfl rfl (nI_1 _) rfl ?_
            refine mp_goto X 4 d_P_startOfRun_33 (by decide) ?_
            have hbb : pq_bg (sp_fm S j) p = true := by rcases hb with ⟨h1, h2⟩ | ⟨h1, h2⟩ <;> first | exact h2 | omega
            have eg : pq_ru (sp_fm S j) (p + 1) = (pq_ru (sp_fm S j) p) + 1 := by rw [hrs, hbb]; rfl
            have hg := ih (p + 1) (by omega)
            rw [eg] at hg
            exact hg
          · exact absurd hk (by rw [← q3]; exact nI_pos (by omega))
  refine mp_iconst X 1 (v := nI 0) d_P_startOfRun_0 rfl (by decide) ?_
  refine mp_istore_n X 2 (L' := [.val (.ref (G.1 + P)), .val (.int (k)), .val (.int (nI 0)), .unset]) d_P_startOfRun_1 rfl rfl rfl rfl rfl ?_
  refine mp_iconst X 3 (v := nI 0) d_P_startOfRun_2 rfl (by decide) ?_
  refine mp_istore_n X 4 (L' := [.val (.ref (G.1 + P)), .val (.int (k)), .val (.int (nI 0)), .val (.int (nI 0))]) d_P_startOfRun_3 rfl rfl rfl rfl rfl ?_
  exact hloop (rm_T S j).length 0 (by omega)
def cp_al (kn2 kn : Nat → Nat) (c : Nat) : Nat → Bool
  | 0 => true
  | n + 1 => cp_al kn2 kn c n && pq_kw kn c (kn2 n)
theorem cp_al_f {kn2 kn : Nat → Nat} {c k : Nat} (h : cp_al kn2 kn c k = false) : ∀ m, cp_al kn2 kn c (k + m) = false
  | 0 => h
  | m + 1 => by
    show (cp_al kn2 kn c (k + m) && _) = false
    rw [cp_al_f h m]; rfl
set_option maxRecDepth 100000 in
set_option maxHeartbeats 4000000 in
theorem k_P_knowsAllOf (l : Launch) {G : mp_G} {h : mp_H} {M P P2 c c2 : Nat} {O : pq_O} {ad kn kn2 : Nat → Nat} (hK : cp_K G h P) (hK2 : cp_K G h P2) (hO : cp_O G h M O ad) (hn : cp_knw G h ad P kn c) (hn2 : cp_knw G h ad P2 kn2 c2) (hw : pq_wf M O) (hM : M ≤ 90) (hkn2 : pq_kn M O kn2 c2) :
    mp_M G mp_Ts l y_P_knowsAllOf 0 0 0 [.ref (G.1 + P), .ref (G.1 + P2)] h (fun v h' => h' = h ∧ v = some (.int (rm_b (cp_al kn2 kn c c2)))) (fun _ _ => False) := by
  have hc2 := pq_kn_le hkn2
  have hks := hn2.1
  refine mp_enter (by decide) Y_P_knowsAllOf fun E hl X => ?_
  refine mp_eq rfl (L2 := [.val (.ref (G.1 + P)), .val (.ref (G.1 + P2)), .unset]) rfl rfl ?_
  have hloop : ∀ (n i : Nat), i + n = c2 → cp_al kn2 kn c i = true → mp_W G E h 0 0 (mp_Q G E 0 0 (fun v h' => h' = h ∧ v = some (.int (rm_b (cp_al kn2 kn c c2)))) (fun _ _ => False)) 2 [.val (.ref (G.1 + P)), .val (.ref (G.1 + P2)), .val (.int (nI i))] [] := by
    intro n
    induction n with
    | zero =>
      intro i hin hal
      have hi : i = c2 := by omega
      subst hi
      rw [hal]
      refine mp_iload_n X 3 d_P_knowsAllOf_2 rfl rfl rfl ?_
      refine mp_aload_n X 4 d_P_knowsAllOf_3 rfl rfl rfl ?_
      refine mp_getf (v := .int (nI i)) X 7 lk_P_47_P d_P_knowsAllOf_4 rfl (hK2.sz (by omega)) hK2.ob hks ?_
      refine mp_Nge X 35 10 d_P_knowsAllOf_7 (by decide) rfl (by omega) (by omega) (fun q1 => ?_) (fun q1 => ?_)
      · refine mp_iconst X 36 (v := nI 1) d_P_knowsAllOf_35 rfl (by decide) ?_
        exact mp_iret X d_P_knowsAllOf_36 rfl rfl (by decide) (by decide) ⟨rfl, rfl⟩
      · omega
    | succ n ih =>
      intro i hin hal
      have hki := hkn2.1 i (by omega)
      have hoi := hO (kn2 i) hki
      have hod := hoi.kd (hw.2.2.2.1 _ hki).2.2.2.1
      have hpi := hn2.2.1 i (by omega)
      have s_kb := hn.2.2 (kn2 i) (by omega)
      obtain ⟨kb, kb1, hkb⟩ : ∃ kb : Nat, (kb = 1 ∧ pq_kw kn c (kn2 i) = true ∨ kb = 0 ∧ pq_kw kn c (kn2 i) = false) ∧ h.2.1 (P + 5) (kn2 i) = .int (nI kb) := by
        cases hkw : pq_kw kn c (kn2 i) with
        | true => rw [hkw] at s_kb; exact ⟨1, Or.inl ⟨rfl, rfl⟩, s_kb⟩
        | false => rw [hkw] at s_kb; exact ⟨0, Or.inr ⟨rfl, rfl⟩, s_kb⟩
      have kbb : kb < 2 := by omega
      refine mp_iload_n X 3 d_P_knowsAllOf_2 rfl rfl rfl ?_
      refine mp_aload_n X 4 d_P_knowsAllOf_3 rfl rfl rfl ?_
      refine mp_getf (v := .int (nI c2)) X 7 lk_P_47_P d_P_knowsAllOf_4 rfl (hK2.sz (by omega)) hK2.ob hks ?_
      refine mp_Nge X 35 10 d_P_knowsAllOf_7 (by decide) rfl (by omega) (by omega) (fun q1 => ?_) (fun q1 => ?_)
      · omega
      · refine mp_aload_n X 11 d_P_knowsAllOf_10 rfl rfl rfl ?_
        refine mp_getf (v := .ref (G.1 + (P + 5))) X 14 lk_P_32_P d_P_knowsAllOf_11 rfl (hK.sz (by omega)) hK.ob hK.r_knows ?_
        refine mp_aload_n X 15 d_P_knowsAllOf_14 rfl rfl rfl ?_
        refine mp_getf (v := .ref (G.1 + (P2 + 1))) X 18 lk_P_11_P d_P_knowsAllOf_15 rfl (hK2.sz (by omega)) hK2.ob hK2.r_known ?_
        refine mp_iload_n X 19 d_P_knowsAllOf_18 rfl rfl rfl ?_
        refine mp_aald (t := 5) (v := .ref (G.1 + (ad (kn2 i)))) X 20 (i) d_P_knowsAllOf_19 rfl (hK2.sz (by omega)) hK2.k_known (by decide) (by decide) rfl (by omega) (by decide) hpi ?_
        refine mp_getop (v := .int (nI ((kn2 i)))) X 23 lk_P_50_W lk_P_50_E lk_P_50_K d_P_knowsAllOf_20 rfl hoi.1.2 hod hoi.2.1 ?_
        refine mp_zald (v := .int (nI kb)) X 24 ((kn2 i)) d_P_knowsAllOf_23 rfl (hK.sz (by omega)) hK.k_knows rfl (by omega) (by decide) hkb ?_
        refine mp_Zne X 29 27 d_P_knowsAllOf_24 (by decide) rfl (by omega) (fun q2 => ?_) (fun q2 => ?_)
        · refine mp_iinc X 32 (L' := [.val (.ref (G.1 + P)), .val (.ref (G.1 + P2)), .val (.int (nI (i + 1)))]) (v := nI (i + 1)) d_P_knowsAllOf_29 rfl rfl (nI_1 _) rfl ?_
          refine mp_goto X 2 d_P_knowsAllOf_32 (by decide) ?_
          have hkw : pq_kw kn c (kn2 i) = true := by rcases kb1 with ⟨h1, h2⟩ | ⟨h1, h2⟩; exact h2; omega
          exact ih (i + 1) (by omega) (by show (cp_al kn2 kn c i && _) = true; rw [hal, hkw]; rfl)
        · refine mp_iconst X 28 (v := nI 0) d_P_knowsAllOf_27 rfl (by decide) ?_
          have hkw : pq_kw kn c (kn2 i) = false := by rcases kb1 with ⟨h1, h2⟩ | ⟨h1, h2⟩; omega; exact h2
          have hfl : cp_al kn2 kn c c2 = false := by have := cp_al_f (kn2 := kn2) (kn := kn) (c := c) (k := i + 1) (by show (cp_al kn2 kn c i && _) = false; rw [hkw]; exact Bool.and_false _) (c2 - (i + 1)); rw [show i + 1 + (c2 - (i + 1)) = c2 by omega] at this; exact this
          rw [hfl]
          exact mp_iret X d_P_knowsAllOf_28 rfl rfl (by decide) (by decide) ⟨rfl, rfl⟩
  refine mp_iconst X 1 (v := nI 0) d_P_knowsAllOf_0 rfl (by decide) ?_
  refine mp_istore_n X 2 (L' := [.val (.ref (G.1 + P)), .val (.ref (G.1 + P2)), .val (.int (nI 0))]) d_P_knowsAllOf_1 rfl rfl rfl rfl rfl ?_
  exact hloop c2 0 (by omega) rfl
set_option maxRecDepth 100000 in
set_option maxHeartbeats 4000000 in
theorem k_P_writingShownAtT (l : Launch) {G : mp_G} {h : mp_H} {S : pq_S} {P j : Nat} {ad : Nat → Nat} {p : Nat} (hK : cp_K G h P) (hP : cp_P G h S.2.1 ad P (S.2.2.1 j) (S.2.2.2 j)) (hok : pq_ok S) (hj : j < 3) (hp : p < (rm_T S j).length) :
    mp_M G mp_Ts l y_P_writingShownAt 1 0 0 [.ref (G.1 + P), .int (nI p)] h (fun v h' => h' = h ∧ v = some (.ref (G.1 + ad (sp_t S j p)))) (fun _ _ => False) := by
  have hTl := sp_T_len hok hj
  have hts : h.2.1 P 6 = .int (nI (rm_T S j).length) := hP.2.2.2.2.2.1
  refine mp_enter (by decide) Y_P_writingShownAt fun E hl X => ?_
  refine mp_eq rfl (L2 := [.val (.ref (G.1 + P)), .val (.int (nI p))]) rfl rfl ?_
  refine mp_iload_n X 1 d_P_writingShownAt_0 rfl rfl rfl ?_
  refine mp_Zlt X 16 4 d_P_writingShownAt_1 (by decide) rfl (by omega) (fun q1 => ?_) (fun q1 => ?_)
  · exact q1.elim
  · refine mp_iload_n X 5 d_P_writingShownAt_4 rfl rfl rfl ?_
    refine mp_aload_n X 6 d_P_writingShownAt_5 rfl rfl rfl ?_
    refine mp_getf (v := .int (nI ((rm_T S j).length))) X 9 lk_P_88_P d_P_writingShownAt_6 rfl (hK.sz (by omega)) hK.ob hts ?_
    refine mp_Nge X 16 12 d_P_writingShownAt_9 (by decide) rfl (by omega) (by omega) (fun q2 => ?_) (fun q2 => ?_)
    · omega
    · refine mp_iconst X 13 (v := nI 1) d_P_writingShownAt_12 rfl (by decide) ?_
      refine mp_goto X 17 d_P_writingShownAt_13 (by decide) ?_
      refine mp_callE X mp_Ts_ok 20 (rest := []) (k_M_riT _) Y_M_refuseIndexUnless in_M (mp_ISN X d_P_writingShownAt_17 Y_M_refuseIndexUnless mn_P_91 st_M_refuseIndexUnless in_M (by decide) (by show _ = some 1; decide)) rfl (by decide) (by decide) (by decide) (by decide) rfl (Nat.le_of_ble_eq_true rfl) rfl ?_
      refine mp_aload_n X 21 d_P_writingShownAt_20 rfl rfl rfl ?_
      refine mp_getf (v := .ref (G.1 + (P + 3))) X 24 lk_P_23_P d_P_writingShownAt_21 rfl (hK.sz (by omega)) hK.ob hK.r_text ?_
      refine mp_iload_n X 25 d_P_writingShownAt_24 rfl rfl rfl ?_
      refine mp_aald (t := 6) (v := .ref (G.1 + (ad (sp_t S j p)))) X 26 (p) d_P_writingShownAt_25 rfl (hK.sz (by omega)) hK.k_text (by decide) (by decide) rfl (by omega) (by decide) (cp_tx hP hp) ?_
      exact mp_aret X d_P_writingShownAt_26 rfl (Or.inr ⟨_, rfl⟩) (by decide) (by decide) ⟨rfl, rfl⟩
set_option maxRecDepth 100000 in
set_option maxHeartbeats 4000000 in
theorem k_P_writingShownAtF {l : Launch} (hl0 : l.stackTraces = false) {G : mp_G} {h : mp_H} {S : pq_S} {P j : Nat} {ad : Nat → Nat} {x : Int32} (hK : cp_K G h P) (hP : cp_P G h S.2.1 ad P (S.2.2.1 j) (S.2.2.2 j)) (hok : pq_ok S) (hj : j < 3) (hx : sp_ix (rm_T S j).length x = none) :
    mp_M G mp_Ts l y_P_writingShownAt 7 1 6 [.ref (G.1 + P), .int x] h (fun _ _ => False) (fun y h' => y = 1 ∧ h' = mp_nx h 1) := by
  have hTl := sp_T_len hok hj
  have hts : h.2.1 P 6 = .int (nI (rm_T S j).length) := hP.2.2.2.2.2.1
  refine mp_enter (by decide) Y_P_writingShownAt fun E hl X => ?_
  refine mp_eq rfl (L2 := [.val (.ref (G.1 + P)), .val (.int x)]) rfl rfl ?_
  refine mp_iload_n X 1 d_P_writingShownAt_0 rfl rfl rfl ?_
  refine mp_if_lt X 16 4 d_P_writingShownAt_1 (by decide) rfl (fun q1 => ?_) (fun q1 => ?_)
  · refine mp_iconst X 17 (v := nI 0) d_P_writingShownAt_16 rfl (by decide) ?_
    refine mp_call X mp_Ts_ok 20 (rest := []) (k_M_riF (by rw [hl]; exact hl0)) Y_M_refuseIndexUnless in_M (mp_ISN X d_P_writingShownAt_17 Y_M_refuseIndexUnless mn_P_91 st_M_refuseIndexUnless in_M (by decide) (by show _ = some 1; decide)) rfl (by decide) (by decide) (by decide) (by decide) rfl (Nat.le_of_ble_eq_true rfl) (fun v h9 hp9 => hp9.elim) (fun x h9 q9 hp9 hq9 hk9 hx9 => ?_)
    obtain ⟨rfl, rfl⟩ := hp9
    exact mp_out X (by decide) (by decide) hq9 hk9 hx9 ⟨rfl, rfl⟩
  · refine mp_iload_n X 5 d_P_writingShownAt_4 rfl rfl rfl ?_
    refine mp_aload_n X 6 d_P_writingShownAt_5 rfl rfl rfl ?_
    refine mp_getf (v := .int (nI ((rm_T S j).length))) X 9 lk_P_88_P d_P_writingShownAt_6 rfl (hK.sz (by omega)) hK.ob hts ?_
    refine mp_icmp_ge X 16 12 d_P_writingShownAt_9 (by decide) rfl (fun q2 => ?_) (fun q2 => ?_)
    · refine mp_iconst X 17 (v := nI 0) d_P_writingShownAt_16 rfl (by decide) ?_
      refine mp_call X mp_Ts_ok 20 (rest := []) (k_M_riF (by rw [hl]; exact hl0)) Y_M_refuseIndexUnless in_M (mp_ISN X d_P_writingShownAt_17 Y_M_refuseIndexUnless mn_P_91 st_M_refuseIndexUnless in_M (by decide) (by show _ = some 1; decide)) rfl (by decide) (by decide) (by decide) (by decide) rfl (Nat.le_of_ble_eq_true rfl) (fun v h9 hp9 => hp9.elim) (fun x h9 q9 hp9 hq9 hk9 hx9 => ?_)
      obtain ⟨rfl, rfl⟩ := hp9
      exact mp_out X (by decide) (by decide) hq9 hk9 hx9 ⟨rfl, rfl⟩
    · exfalso; obtain ⟨q0, hq0, rfl⟩ := nI_of q1; have := Nat.not_le.mp fun z => q2 ((nI_leI (by omega) hq0).mpr z); rw [sp_ix_of (by omega) (by omega)] at hx; cases hx
/-- the class's own cells -/
def cm_K (G : mp_G) (h : mp_H) : Prop := 41 ≤ h.2.2 ∧ h.1 0 = (0, 2) ∧ h.1 1 = (14, 3) ∧ h.2.1 0 0 = .ref (G.1 + 1) ∧ ∀ j, j < 3 → h.2.1 1 j = .ref (G.1 + (2 + 8 * j))
set_option maxRecDepth 100000 in
set_option maxHeartbeats 4000000 in
theorem k_M_pageNumberedT (l : Launch) {G : mp_G} {h : mp_H} {j : Nat} (hK : cm_K G h) (hj : j < 3) :
    mp_M G mp_Ts l y_M_pageNumbered 1 0 0 [.ref (G.1 + 0), .int (nI j)] h (fun v h' => h' = h ∧ v = some (.ref (G.1 + (2 + 8 * j)))) (fun _ _ => False) := by
  refine mp_enter (by decide) Y_M_pageNumbered fun E hl X => ?_
  refine mp_eq rfl (L2 := [.val (.ref (G.1 + 0)), .val (.int (nI j))]) rfl rfl ?_
  refine mp_iload_n X 1 d_M_pageNumbered_0 rfl rfl rfl ?_
  refine mp_Zlt X 13 4 d_M_pageNumbered_1 (by decide) rfl (by omega) (fun q1 => ?_) (fun q1 => ?_)
  · exact q1.elim
  · refine mp_iload_n X 5 d_M_pageNumbered_4 rfl rfl rfl ?_
    refine mp_iconst X 6 (v := nI 3) d_M_pageNumbered_5 rfl (by decide) ?_
    refine mp_Nge X 13 9 d_M_pageNumbered_6 (by decide) rfl (by omega) (by omega) (fun q2 => ?_) (fun q2 => ?_)
    · omega
    · refine mp_iconst X 10 (v := nI 1) d_M_pageNumbered_9 rfl (by decide) ?_
      refine mp_goto X 14 d_M_pageNumbered_10 (by decide) ?_
      refine mp_callE X mp_Ts_ok 17 (rest := []) (k_M_raT _) Y_M_refuseArgumentUnless in_M (mp_IS X d_M_pageNumbered_14 Y_M_refuseArgumentUnless ml_M_64 st_M_refuseArgumentUnless in_M (by decide) (by show _ = some 1; decide)) rfl (by decide) (by decide) (by decide) (by decide) rfl (Nat.le_of_ble_eq_true rfl) rfl ?_
      refine mp_aload_n X 18 d_M_pageNumbered_17 rfl rfl rfl ?_
      refine mp_getf (v := .ref (G.1 + 1)) X 21 lk_M_11_M d_M_pageNumbered_18 rfl (Nat.lt_of_lt_of_le (by decide) hK.1) hK.2.1 hK.2.2.2.1 ?_
      refine mp_iload_n X 22 d_M_pageNumbered_21 rfl rfl rfl ?_
      refine mp_aald (t := 4) (v := .ref (G.1 + (2 + 8 * j))) X 23 (j) d_M_pageNumbered_22 rfl (Nat.lt_of_lt_of_le (by decide) hK.1) hK.2.2.1 (by decide) (by decide) rfl (by omega) (by decide) (hK.2.2.2.2 j hj) ?_
      exact mp_aret X d_M_pageNumbered_23 rfl (Or.inr ⟨_, rfl⟩) (by decide) (by decide) ⟨rfl, rfl⟩
set_option maxRecDepth 100000 in
set_option maxHeartbeats 4000000 in
theorem k_M_pageNumberedF {l : Launch} (hl0 : l.stackTraces = false) {G : mp_G} {h : mp_H} {x : Int32} (hK : cm_K G h) (hx : sp_ix 3 x = none) :
    mp_M G mp_Ts l y_M_pageNumbered 7 1 6 [.ref (G.1 + 0), .int x] h (fun _ _ => False) (fun y h' => y = 0 ∧ h' = mp_nx h 0) := by
  refine mp_enter (by decide) Y_M_pageNumbered fun E hl X => ?_
  refine mp_eq rfl (L2 := [.val (.ref (G.1 + 0)), .val (.int x)]) rfl rfl ?_
  refine mp_iload_n X 1 d_M_pageNumbered_0 rfl rfl rfl ?_
  refine mp_if_lt X 13 4 d_M_pageNumbered_1 (by decide) rfl (fun q1 => ?_) (fun q1 => ?_)
  · refine mp_iconst X 14 (v := nI 0) d_M_pageNumbered_13 rfl (by decide) ?_
    refine mp_call X mp_Ts_ok 17 (rest := []) (k_M_raF (by rw [hl]; exact hl0)) Y_M_refuseArgumentUnless in_M (mp_IS X d_M_pageNumbered_14 Y_M_refuseArgumentUnless ml_M_64 st_M_refuseArgumentUnless in_M (by decide) (by show _ = some 1; decide)) rfl (by decide) (by decide) (by decide) (by decide) rfl (Nat.le_of_ble_eq_true rfl) (fun v h9 hp9 => hp9.elim) (fun x h9 q9 hp9 hq9 hk9 hx9 => ?_)
    obtain ⟨rfl, rfl⟩ := hp9
    exact mp_out X (by decide) (by decide) hq9 hk9 hx9 ⟨rfl, rfl⟩
  · refine mp_iload_n X 5 d_M_pageNumbered_4 rfl rfl rfl ?_
    refine mp_iconst X 6 (v := nI 3) d_M_pageNumbered_5 rfl (by decide) ?_
    refine mp_icmp_ge X 13 9 d_M_pageNumbered_6 (by decide) rfl (fun q2 => ?_) (fun q2 => ?_)
    · refine mp_iconst X 14 (v := nI 0) d_M_pageNumbered_13 rfl (by decide) ?_
      refine mp_call X mp_Ts_ok 17 (rest := []) (k_M_raF (by rw [hl]; exact hl0)) Y_M_refuseArgumentUnless in_M (mp_IS X d_M_pageNumbered_14 Y_M_refuseArgumentUnless ml_M_64 st_M_refuseArgumentUnless in_M (by decide) (by show _ = some 1; decide)) rfl (by decide) (by decide) (by decide) (by decide) rfl (Nat.le_of_ble_eq_true rfl) (fun v h9 hp9 => hp9.elim) (fun x h9 q9 hp9 hq9 hk9 hx9 => ?_)
      obtain ⟨rfl, rfl⟩ := hp9
      exact mp_out X (by decide) (by decide) hq9 hk9 hx9 ⟨rfl, rfl⟩
    · exfalso; obtain ⟨q0, hq0, rfl⟩ := nI_of q1; have := Nat.not_le.mp fun z => q2 ((nI_leI (by decide) hq0).mpr z); rw [sp_ix_of (by omega) (by decide)] at hx; cases hx
