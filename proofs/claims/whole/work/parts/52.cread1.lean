/-! A page: nextTime, covers, formatOf (rows laid by program). -/
set_option maxRecDepth 100000 in
set_option maxHeartbeats 4000000 in
theorem k_P_nextTime (l : Launch) {G : mp_G} {h : mp_H} {P n : Nat} (hK : cp_K G h P) (hn : h.2.1 P 2 = .int (nI n)) :
    mp_M G mp_Ts l y_P_nextTime 0 0 0 [.ref (G.1 + P)] h (fun v h' => h' = h ∧ v = some (.int (nI (1 + n)))) (fun _ _ => False) := by
  refine mp_enter (by decide) Y_P_nextTime fun E hl X => ?_
  refine mp_eq rfl (L2 := [.val (.ref (G.1 + P))]) rfl rfl ?_
  refine mp_aload_n X 1 d_P_nextTime_0 rfl rfl rfl ?_
  refine mp_getf (v := .int (nI n)) X 4 lk_P_43_P d_P_nextTime_1 rfl (hK.sz (by omega)) hK.ob hn ?_
  refine mp_iconst X 5 (v := nI 1) d_P_nextTime_4 rfl (by decide) ?_
  refine mp_iadd X 6 d_P_nextTime_5 rfl ?_
  rw [nI_add]
  exact mp_iret X d_P_nextTime_6 rfl rfl (by decide) (by decide) ⟨rfl, by rw [Nat.add_comm]⟩
theorem cp_O.wr {G : mp_G} {h : mp_H} {M : Nat} {O : pq_O} {ad : Nat → Nat} (hO : cp_O G h M O ad) {k : Nat} (hk : k < M) (hs : pq_so O k = 0) : ad k < h.2.2 ∧ h.1 (ad k) = (2, 5) ∧ h.2.1 (ad k) 0 = .int (nI k) ∧ h.2.1 (ad k) 2 = .int (nI (pq_id O k)) ∧ h.2.1 (ad k) 3 = .int (pq_le O k) ∧ h.2.1 (ad k) 4 = cp_r G ad (pq_fi O k) :=
  ⟨(hO k hk).1.2, ((hO k hk).2.2.2.2.1 hs).1, (hO k hk).2.1, (hO k hk).2.2.2.1, ((hO k hk).2.2.2.2.1 hs).2⟩
set_option maxRecDepth 100000 in
set_option maxHeartbeats 4000000 in
theorem k_K_covers (l : Launch) {G : mp_G} {h : mp_H} {M P m lt f : Nat} {O : pq_O} {ad : Nat → Nat} {r : List Nat} (hK : cp_K G h P) (hO : cp_O G h M O ad) (hr : cp_row G h ad P r) (hM : M ≤ 90) (hrl : r.length ≤ 90) (hm : m < M) (hso : pq_so O m = 2) (hf : pq_fi O m = some f) (hrM : ∀ p ∈ r, p < M ∧ pq_so O p = 0) (hfr : f ∈ r) (her : ∀ e, pq_en O m = some e → e ∈ r) (hlt : lt ∈ r) :
    mp_M G mp_Ts l y_K_covers 0 0 0 [.ref (G.1 + ad m), .int (nI (r.idxOf lt)), .ref (G.1 + (P + 7))] h (fun v h' => h' = h ∧ v = some (.int (rm_b (pq_cv O r m lt)))) (fun _ _ => False) := by
  obtain ⟨⟨-, m2⟩, -, -, -, -, -, m8⟩ := hO m hm
  obtain ⟨m9, -, -, m12, m13, m14⟩ := m8 hso
  rw [hf] at m13
  change h.2.1 (ad m) 6 = .ref (G.1 + ad f) at m13
  obtain ⟨f1, f2, f3, -⟩ := hO.wr (hrM f hfr).1 (hrM f hfr).2
  have hfM := (hrM f hfr).1
  have pf := hr.pl hfr
  have if1 := List.idxOf_lt_length_of_mem hfr
  have il1 := List.idxOf_lt_length_of_mem hlt
  obtain ⟨cb, hcb, hcw⟩ : ∃ cb : Nat, h.2.1 (ad m) 5 = .int (nI cb) ∧ (cb = 0 ∧ pq_wh O m < 4 ∨ cb = 1 ∧ ¬ pq_wh O m < 4) := by
    by_cases h4 : pq_wh O m < 4
    · exact ⟨0, by rw [m12, if_pos h4], Or.inl ⟨rfl, h4⟩⟩
    · exact ⟨1, by rw [m12, if_neg h4], Or.inr ⟨rfl, h4⟩⟩
  have ecv : pq_cv O r m lt = (decide (r.idxOf f ≤ r.idxOf lt) && (match pq_en O m with | none => true | some e => if pq_wh O m < 4 then decide (r.idxOf lt < r.idxOf e) else decide (r.idxOf lt ≤ r.idxOf e))) := by unfold pq_cv; rw [hf]; rfl
  refine mp_enter (by decide) Y_K_covers fun E hl X => ?_
  refine mp_eq rfl (L2 := [.val (.ref (G.1 + ad m)), .val (.int (nI (r.idxOf lt))), .val (.ref (G.1 + (P + 7))), .unset]) rfl rfl ?_
  cases hen : pq_en O m with
  | none =>
    rw [hen] at m14 ecv
    change h.2.1 (ad m) 7 = .null at m14
    simp only [Bool.and_true] at ecv
    refine mp_iload_n X 1 d_K_covers_0 rfl rfl rfl ?_
    refine mp_aload_n X 2 d_K_covers_1 rfl rfl rfl ?_
    refine mp_aload_n X 3 d_K_covers_2 rfl rfl rfl ?_
    refine mp_getf (v := .ref (G.1 + (ad f))) X 6 lk_K_24_K d_K_covers_3 rfl m2 m9 m13 ?_
    refine mp_getf (v := .int (nI f)) X 9 lk_K_37_W d_K_covers_6 rfl f1 f2 f3 ?_
    refine mp_iald (v := .int (nI ((r.idxOf f)))) X 10 (f) d_K_covers_9 rfl (hK.sz (by omega)) hK.k_places rfl (by omega) (by decide) pf ?_
    refine mp_Nge X 15 13 d_K_covers_10 (by decide) rfl (by omega) (by omega) (fun q1 => ?_) (fun q1 => ?_)
    · refine mp_aload_n X 16 d_K_covers_15 rfl rfl rfl ?_
      refine mp_getf (v := .null) X 19 lk_K_28_K d_K_covers_16 rfl m2 m9 m14 ?_
      refine mp_ifnonnullN X 22 d_K_covers_19 rfl ?_
      refine mp_iconst X 23 (v := nI 1) d_K_covers_22 rfl (by decide) ?_
      have ev : pq_cv O r m lt = true := by
        rw [ecv, decide_eq_true (by omega)]
      exact mp_iret X d_K_covers_23 rfl rfl (by decide) (by decide) ⟨rfl, by rw [ev]; rfl⟩
    · refine mp_iconst X 14 (v := nI 0) d_K_covers_13 rfl (by decide) ?_
      have ev : pq_cv O r m lt = false := by
        rw [ecv, decide_eq_false (by omega)]
      exact mp_iret X d_K_covers_14 rfl rfl (by decide) (by decide) ⟨rfl, by rw [ev]; rfl⟩
  | some e =>
    rw [hen] at m14 ecv
    change h.2.1 (ad m) 7 = .ref (G.1 + ad e) at m14
    simp only [] at ecv
    have her' := her e hen
    obtain ⟨e1, e2, e3, -⟩ := hO.wr (hrM e her').1 (hrM e her').2
    have heM := (hrM e her').1
    have pe := hr.pl her'
    have ie1 := List.idxOf_lt_length_of_mem her'
    refine mp_iload_n X 1 d_K_covers_0 rfl rfl rfl ?_
    refine mp_aload_n X 2 d_K_covers_1 rfl rfl rfl ?_
    refine mp_aload_n X 3 d_K_covers_2 rfl rfl rfl ?_
    refine mp_getf (v := .ref (G.1 + (ad f))) X 6 lk_K_24_K d_K_covers_3 rfl m2 m9 m13 ?_
    refine mp_getf (v := .int (nI f)) X 9 lk_K_37_W d_K_covers_6 rfl f1 f2 f3 ?_
    refine mp_iald (v := .int (nI ((r.idxOf f)))) X 10 (f) d_K_covers_9 rfl (hK.sz (by omega)) hK.k_places rfl (by omega) (by decide) pf ?_
    refine mp_Nge X 15 13 d_K_covers_10 (by decide) rfl (by omega) (by omega) (fun q1 => ?_) (fun q1 => ?_)
    · refine mp_aload_n X 16 d_K_covers_15 rfl rfl rfl ?_
      refine mp_getf (v := .ref (G.1 + (ad e))) X 19 lk_K_28_K d_K_covers_16 rfl m2 m9 m14 ?_
      refine mp_ifnonnull X 24 d_K_covers_19 (by decide) ?_
      refine mp_aload_n X 25 d_K_covers_24 rfl rfl rfl ?_
      refine mp_aload_n X 26 d_K_covers_25 rfl rfl rfl ?_
      refine mp_getf (v := .ref (G.1 + (ad e))) X 29 lk_K_28_K d_K_covers_26 rfl m2 m9 m14 ?_
      refine mp_getf (v := .int (nI e)) X 32 lk_K_37_W d_K_covers_29 rfl e1 e2 e3 ?_
      refine mp_iald (v := .int (nI ((r.idxOf e)))) X 33 (e) d_K_covers_32 rfl (hK.sz (by omega)) hK.k_places rfl (by omega) (by decide) pe ?_
      refine mp_istore_n X 34 (L' := [.val (.ref (G.1 + (ad m))), .val (.int (nI ((r.idxOf lt)))), .val (.ref (G.1 + (P + 7))), .val (.int (nI ((r.idxOf e))))]) d_K_covers_33 rfl rfl rfl rfl rfl ?_
      refine mp_iload_n X 35 d_K_covers_34 rfl rfl rfl ?_
      refine mp_iload_n X 36 d_K_covers_35 rfl rfl rfl ?_
      refine mp_Nlt X 51 39 d_K_covers_36 (by decide) rfl (by omega) (by omega) (fun q2 => ?_) (fun q2 => ?_)
      · refine mp_iconst X 52 (v := nI 1) d_K_covers_51 rfl (by decide) ?_
        refine mp_goto X 56 d_K_covers_52 (by decide) ?_
        have ev : pq_cv O r m lt = true := by
          rw [ecv, decide_eq_true (by omega)]
          rcases hcw with ⟨h1, h2⟩ | ⟨h1, h2⟩
          · rw [if_pos h2]; simp; omega
          · rw [if_neg h2]; simp; omega
        exact mp_iret X d_K_covers_56 rfl rfl (by decide) (by decide) ⟨rfl, by rw [ev]; rfl⟩
      · refine mp_iload_n X 40 d_K_covers_39 rfl rfl rfl ?_
        refine mp_iload_n X 41 d_K_covers_40 rfl rfl rfl ?_
        refine mp_Nne X 55 44 d_K_covers_41 (by decide) rfl (by omega) (by omega) (fun q3 => ?_) (fun q3 => ?_)
        · refine mp_iconst X 56 (v := nI 0) d_K_covers_55 rfl (by decide) ?_
          have ev : pq_cv O r m lt = false := by
            rw [ecv, decide_eq_true (by omega)]
            rcases hcw with ⟨h1, h2⟩ | ⟨h1, h2⟩
            · rw [if_pos h2]; simp; omega
            · rw [if_neg h2]; simp; omega
          exact mp_iret X d_K_covers_56 rfl rfl (by decide) (by decide) ⟨rfl, by rw [ev]; rfl⟩
        · refine mp_aload_n X 45 d_K_covers_44 rfl rfl rfl ?_
          refine mp_getf (v := .int (nI cb)) X 48 lk_K_21_K d_K_covers_45 rfl m2 m9 hcb ?_
          refine mp_Zeq X 55 51 d_K_covers_48 (by decide) rfl (by omega) (fun q4 => ?_) (fun q4 => ?_)
          · refine mp_iconst X 56 (v := nI 0) d_K_covers_55 rfl (by decide) ?_
            have ev : pq_cv O r m lt = false := by
              rw [ecv, decide_eq_true (by omega)]
              rcases hcw with ⟨h1, h2⟩ | ⟨h1, h2⟩
              · rw [if_pos h2]; simp; omega
              · rw [if_neg h2]; simp; omega
            exact mp_iret X d_K_covers_56 rfl rfl (by decide) (by decide) ⟨rfl, by rw [ev]; rfl⟩
          · refine mp_iconst X 52 (v := nI 1) d_K_covers_51 rfl (by decide) ?_
            refine mp_goto X 56 d_K_covers_52 (by decide) ?_
            have ev : pq_cv O r m lt = true := by
              rw [ecv, decide_eq_true (by omega)]
              rcases hcw with ⟨h1, h2⟩ | ⟨h1, h2⟩
              · rw [if_pos h2]; simp; omega
              · rw [if_neg h2]; simp; omega
            exact mp_iret X d_K_covers_56 rfl rfl (by decide) (by decide) ⟨rfl, by rw [ev]; rfl⟩
    · refine mp_iconst X 14 (v := nI 0) d_K_covers_13 rfl (by decide) ?_
      have ev : pq_cv O r m lt = false := by
        rw [ecv, decide_eq_false (by omega)]
        rfl
      exact mp_iret X d_K_covers_14 rfl rfl (by decide) (by decide) ⟨rfl, by rw [ev]; rfl⟩
theorem cp_w0 (b0 b1 b2 b3 : Bool) : nI (pq_b b0 + 2 * pq_b b1 + 4 * pq_b b2 + 8 * pq_b b3) ||| nI 1 = nI (pq_b true + 2 * pq_b b1 + 4 * pq_b b2 + 8 * pq_b b3) ∧ nI (pq_b b0 + 2 * pq_b b1 + 4 * pq_b b2 + 8 * pq_b b3) &&& (nI 1 ^^^ -1) = nI (pq_b false + 2 * pq_b b1 + 4 * pq_b b2 + 8 * pq_b b3) := by cases b0 <;> cases b1 <;> cases b2 <;> cases b3 <;> decide
theorem cp_w1 (b0 b1 b2 b3 : Bool) : nI (pq_b b0 + 2 * pq_b b1 + 4 * pq_b b2 + 8 * pq_b b3) ||| nI 2 = nI (pq_b b0 + 2 * pq_b true + 4 * pq_b b2 + 8 * pq_b b3) ∧ nI (pq_b b0 + 2 * pq_b b1 + 4 * pq_b b2 + 8 * pq_b b3) &&& (nI 2 ^^^ -1) = nI (pq_b b0 + 2 * pq_b false + 4 * pq_b b2 + 8 * pq_b b3) := by cases b0 <;> cases b1 <;> cases b2 <;> cases b3 <;> decide
theorem cp_w2 (b0 b1 b2 b3 : Bool) : nI (pq_b b0 + 2 * pq_b b1 + 4 * pq_b b2 + 8 * pq_b b3) ||| nI 4 = nI (pq_b b0 + 2 * pq_b b1 + 4 * pq_b true + 8 * pq_b b3) ∧ nI (pq_b b0 + 2 * pq_b b1 + 4 * pq_b b2 + 8 * pq_b b3) &&& (nI 4 ^^^ -1) = nI (pq_b b0 + 2 * pq_b b1 + 4 * pq_b false + 8 * pq_b b3) := by cases b0 <;> cases b1 <;> cases b2 <;> cases b3 <;> decide
theorem cp_w3 (b0 b1 b2 b3 : Bool) : nI (pq_b b0 + 2 * pq_b b1 + 4 * pq_b b2 + 8 * pq_b b3) ||| nI 8 = nI (pq_b b0 + 2 * pq_b b1 + 4 * pq_b b2 + 8 * pq_b true) ∧ nI (pq_b b0 + 2 * pq_b b1 + 4 * pq_b b2 + 8 * pq_b b3) &&& (nI 8 ^^^ -1) = nI (pq_b b0 + 2 * pq_b b1 + 4 * pq_b b2 + 8 * pq_b false) := by cases b0 <;> cases b1 <;> cases b2 <;> cases b3 <;> decide
theorem cp_hs (O : pq_O) (r : List Nat) (l kind : Nat) (ms : List Nat) (m : Nat) : pq_hs O r l kind (ms ++ [m]) = if (decide (pq_wh O m / 2 = kind) && pq_cv O r m l) = true then decide (pq_wh O m % 2 = 1) else pq_hs O r l kind ms := by
  unfold pq_hs
  rw [List.foldl_append]
  rfl
theorem cp_fm0 {O : pq_O} {r : List Nat} {l : Nat} {ms : List Nat} {m : Nat} (hc : pq_cv O r m l = false) : pq_fm O r l (ms ++ [m]) = pq_fm O r l ms := by
  unfold pq_fm
  simp only [cp_hs, hc, Bool.and_false]
  rfl
theorem cp_fm1 {O : pq_O} {r : List Nat} {l : Nat} {ms : List Nat} {m : Nat} (hc : pq_cv O r m l = true) (hwh : pq_wh O m < 8) :
    (pq_wh O m % 2 = 1 → nI (pq_fm O r l ms) ||| nI (2 ^ (pq_wh O m / 2)) = nI (pq_fm O r l (ms ++ [m]))) ∧ (pq_wh O m % 2 = 0 → nI (pq_fm O r l ms) &&& (nI (2 ^ (pq_wh O m / 2)) ^^^ -1) = nI (pq_fm O r l (ms ++ [m]))) := by
  unfold pq_fm
  simp only [cp_hs, hc, Bool.and_true]
  generalize pq_hs O r l 0 ms = b0
  generalize pq_hs O r l 1 ms = b1
  generalize pq_hs O r l 2 ms = b2
  generalize pq_hs O r l 3 ms = b3
  generalize pq_wh O m = wh at hwh
  rcases (show wh = 0 ∨ wh = 1 ∨ wh = 2 ∨ wh = 3 ∨ wh = 4 ∨ wh = 5 ∨ wh = 6 ∨ wh = 7 by omega) with rfl | rfl | rfl | rfl | rfl | rfl | rfl | rfl
  · exact ⟨fun z => (by cases z), fun _ => (cp_w0 b0 b1 b2 b3).2⟩
  · exact ⟨fun _ => (cp_w0 b0 b1 b2 b3).1, fun z => by cases z⟩
  · exact ⟨fun z => (by cases z), fun _ => (cp_w1 b0 b1 b2 b3).2⟩
  · exact ⟨fun _ => (cp_w1 b0 b1 b2 b3).1, fun z => by cases z⟩
  · exact ⟨fun z => (by cases z), fun _ => (cp_w2 b0 b1 b2 b3).2⟩
  · exact ⟨fun _ => (cp_w2 b0 b1 b2 b3).1, fun z => by cases z⟩
  · exact ⟨fun z => (by cases z), fun _ => (cp_w3 b0 b1 b2 b3).2⟩
  · exact ⟨fun _ => (cp_w3 b0 b1 b2 b3).1, fun z => by cases z⟩
theorem cp_take {l : List Nat} {i x : Nat} (h : l[i]? = some x) : l.take (i + 1) = l.take i ++ [x] := by
  rw [List.take_add_one, h]; rfl
set_option maxRecDepth 100000 in
set_option maxHeartbeats 4000000 in
theorem k_P_formatOf (l : Launch) {G : mp_G} {h : mp_H} {M P c : Nat} {O : pq_O} {ad kn : Nat → Nat} {lt : Nat} (hK : cp_K G h P) (hO : cp_O G h M O ad) (hP : cp_P G h O ad P kn c) (hw : pq_wf M O) (hM : M ≤ 90) (hkn : pq_kn M O kn c) (hlt : lt ∈ (pq_row O kn c)) :
    mp_M G mp_Ts l y_P_formatOf 1 0 0 [.ref (G.1 + P), .ref (G.1 + ad lt)] h (fun v h' => h' = h ∧ v = some (.int (nI (pq_fm O (pq_row O kn c) lt (pq_mk O kn c))))) (fun _ _ => False) := by
  obtain ⟨p1, p2, p3, p4, p5, p6⟩ := hP
  obtain ⟨hrm, -⟩ := pq_row_ok hw c hkn
  obtain ⟨hmm, -⟩ := pq_mk_ok hw c hkn
  have hcM := pq_kn_le hkn
  have hrl := pq_row_len O kn c
  have hml := pq_mk_len O kn c
  have hrM : ∀ p ∈ (pq_row O kn c), p < M ∧ pq_so O p = 0 := fun p hp => by
    obtain ⟨a, i, hi, b⟩ := (hrm p).mp hp
    exact ⟨by rw [← b]; exact hkn.1 i hi, a⟩
  obtain ⟨w1, w2, w3, -⟩ := hO.wr (hrM lt hlt).1 (hrM lt hlt).2
  have hltM := (hrM lt hlt).1
  have wp := p3.pl hlt
  have s8 := p5.1
  refine mp_enter (by decide) Y_P_formatOf fun E hl X => ?_
  refine mp_eq rfl (L2 := [.val (.ref (G.1 + P)), .val (.ref (G.1 + ad lt)), .unset, .unset, .unset, .unset]) rfl rfl ?_
  have hloop : ∀ (n i : Nat) (z : Slot), mp_s1 z = true → i + n = (pq_mk O kn c).length → mp_W G E h 0 0 (mp_Q G E 0 0 (fun v h' => h' = h ∧ v = some (.int (nI (pq_fm O (pq_row O kn c) lt (pq_mk O kn c))))) (fun _ _ => False)) 15 [.val (.ref (G.1 + P)), .val (.ref (G.1 + ad lt)), .val (.int (nI ((pq_row O kn c).idxOf lt))), .val (.int (nI (pq_fm O (pq_row O kn c) lt ((pq_mk O kn c).take i)))), .val (.int (nI i)), z] [] := by
    intro n
    induction n with
    | zero =>
      intro i z hz1 hin
      have hi : i = (pq_mk O kn c).length := by omega
      subst hi
      rw [List.take_length]
      refine mp_iload X 17 d_P_formatOf_15 rfl rfl ?_
      refine mp_aload_n X 18 d_P_formatOf_17 rfl rfl rfl ?_
      refine mp_getf (v := .int (nI ((pq_mk O kn c).length))) X 21 lk_P_84_P d_P_formatOf_18 rfl (hK.sz (by omega)) hK.ob s8 ?_
      refine mp_Nge X 80 24 d_P_formatOf_21 (by decide) rfl (by omega) (by omega) (fun q1 => ?_) (fun q1 => ?_)
      · refine mp_iload_n X 81 d_P_formatOf_80 rfl rfl rfl ?_
        exact mp_iret X d_P_formatOf_81 rfl rfl (by decide) (by decide) ⟨rfl, rfl⟩
      · omega
    | succ n ih =>
      intro i z hz1 hin
      have hil : i < (pq_mk O kn c).length := by omega
      obtain ⟨m, hmi⟩ : ∃ m, (pq_mk O kn c)[i]? = some m := ⟨_, List.getElem?_eq_getElem hil⟩
      have hmem := List.mem_of_getElem? hmi
      obtain ⟨hso, im, him, hkm⟩ := (hmm m).mp hmem
      have hmM : m < M := by rw [← hkm]; exact hkn.1 im him
      have hpm := p5.2 i m hmi
      obtain ⟨⟨-, m2⟩, -, -, -, -, -, m8⟩ := hO m hmM
      obtain ⟨m9, m10, m11, -⟩ := m8 hso
      have hwh := (hw.2.2.2.1 m hmM).2.2.2.2
      obtain ⟨f, hf⟩ : ∃ f, pq_fi O m = some f := by
        rcases hw.2.2.2.2 m hmM with h9 | h9
        · rw [hso] at h9; cases h9
        · exact h9
      have hfr : f ∈ (pq_row O kn c) := (hrm f).mpr ⟨(hw.1 m hmM f hf).2.1, by
        obtain ⟨j9, hj9, hk9⟩ := hkn.2.2 im him f (by rw [hkm]; exact Or.inl hf)
        exact ⟨j9, by omega, hk9⟩⟩
      have her : ∀ e, pq_en O m = some e → e ∈ (pq_row O kn c) := fun e he => (hrm e).mpr ⟨(hw.2.1 m hmM e he).2, by
        obtain ⟨j9, hj9, hk9⟩ := hkn.2.2 im him e (by rw [hkm]; exact Or.inr he)
        exact ⟨j9, by omega, hk9⟩⟩
      obtain ⟨bn, hbn, hb⟩ := rm_b_n (pq_cv O (pq_row O kn c) m lt)
      have hbl : bn < 2 := by omega
      have hon := Nat.mod_lt (pq_wh O m) (show 0 < 2 by decide)
      have hck := k_K_covers E.l hK hO p3 hM (by omega) hmM hso hf hrM hfr her hlt
      rw [hbn] at hck
      have hg := ih (i + 1) (.val (.ref (G.1 + ad m))) rfl (by omega)
      rw [cp_take hmi] at hg
      refine mp_iload X 17 d_P_formatOf_15 rfl rfl ?_
      refine mp_aload_n X 18 d_P_formatOf_17 rfl rfl rfl ?_
      refine mp_getf (v := .int (nI ((pq_mk O kn c).length))) X 21 lk_P_84_P d_P_formatOf_18 rfl (hK.sz (by omega)) hK.ob s8 ?_
      refine mp_Nge X 80 24 d_P_formatOf_21 (by decide) rfl (by omega) (by omega) (fun q1 => ?_) (fun q1 => ?_)
      · omega
      · refine mp_aload_n X 25 d_P_formatOf_24 rfl rfl rfl ?_
        refine mp_getf (v := .ref (G.1 + (P + 4))) X 28 lk_P_28_P d_P_formatOf_25 rfl (hK.sz (by omega)) hK.ob hK.r_markings ?_
        refine mp_iload X 30 d_P_formatOf_28 rfl rfl ?_
        refine mp_aald (t := 7) (v := .ref (G.1 + (ad m))) X 31 (i) d_P_formatOf_30 rfl (hK.sz (by omega)) hK.k_markings (by decide) (by decide) rfl (by omega) (by decide) hpm ?_
        refine mp_astore X 33 (L' := [.val (.ref (G.1 + P)), .val (.ref (G.1 + (ad lt))), .val (.int (nI (((pq_row O kn c).idxOf lt)))), .val (.int (nI ((pq_fm O (pq_row O kn c) lt ((pq_mk O kn c).take i))))), .val (.int (nI i)), .val (.ref (G.1 + (ad m)))]) d_P_formatOf_31 rfl rfl hz1 rfl ?_
        refine mp_aload X 35 d_P_formatOf_33 rfl rfl ?_
        refine mp_iload_n X 36 d_P_formatOf_35 rfl rfl rfl ?_
        refine mp_aload_n X 37 d_P_formatOf_36 rfl rfl rfl ?_
        refine mp_getf (v := .ref (G.1 + (P + 7))) X 40 lk_P_39_P d_P_formatOf_37 rfl (hK.sz (by omega)) hK.ob hK.r_places ?_
        refine mp_callE X mp_Ts_ok 43 (rest := []) hck Y_K_covers in_K (mp_IV X (q := (nR_K, nT_K, 8)) d_P_formatOf_40 Y_K_covers ml_P_95 im_K_covers se_K_covers (by decide) rfl (by decide) (by show _ = some 2; decide) m2 m9) rfl (by decide) (by decide) (by decide) (by decide) rfl (Nat.le_of_ble_eq_true rfl) rfl ?_
        refine mp_Zeq X 74 46 d_P_formatOf_43 (by decide) rfl (by omega) (fun q2 => ?_) (fun q2 => ?_)
        · refine mp_iinc X 77 (L' := [.val (.ref (G.1 + P)), .val (.ref (G.1 + (ad lt))), .val (.int (nI (((pq_row O kn c).idxOf lt)))), .val (.int (nI ((pq_fm O (pq_row O kn c) lt ((pq_mk O kn c).take i))))), .val (.int (nI (i + 1))), .val (.ref (G.1 + (ad m)))]) (v := nI (i + 1)) d_P_formatOf_74 rfl rfl (nI_1 _) rfl ?_
          refine mp_goto X 15 d_P_formatOf_77 (by decide) ?_
          have hcv : pq_cv O (pq_row O kn c) m lt = false := by rcases hb with ⟨h1, h2⟩ | ⟨h1, h2⟩ <;> first | exact h2 | omega
          rw [cp_fm0 hcv] at hg
          exact hg
        · refine mp_aload X 48 d_P_formatOf_46 rfl rfl ?_
          refine mp_getf (v := .int (nI ((pq_wh O m % 2)))) X 51 lk_P_99_K d_P_formatOf_48 rfl m2 m9 m10 ?_
          refine mp_Zeq X 64 54 d_P_formatOf_51 (by decide) rfl (by omega) (fun q3 => ?_) (fun q3 => ?_)
          · refine mp_iload_n X 65 d_P_formatOf_64 rfl rfl rfl ?_
            refine mp_aload X 67 d_P_formatOf_65 rfl rfl ?_
            refine mp_getf (v := .int (nI ((2 ^ (pq_wh O m / 2))))) X 70 lk_P_103_K d_P_formatOf_67 rfl m2 m9 m11 ?_
            refine mp_iconst X 71 (v := -1) d_P_formatOf_70 rfl (by decide) ?_
            refine mp_ixor X 72 d_P_formatOf_71 rfl ?_
            have hcv : pq_cv O (pq_row O kn c) m lt = true := by rcases hb with ⟨h1, h2⟩ | ⟨h1, h2⟩ <;> first | exact h2 | omega
            refine mp_iand X 73 d_P_formatOf_72 rfl ?_
            rw [(cp_fm1 (ms := (pq_mk O kn c).take i) hcv hwh).2 (by omega)]
            refine mp_istore_n X 74 (L' := [.val (.ref (G.1 + P)), .val (.ref (G.1 + (ad lt))), .val (.int (nI (((pq_row O kn c).idxOf lt)))), .val (.int (nI ((pq_fm O (pq_row O kn c) lt ((pq_mk O kn c).take i ++ [m]))))), .val (.int (nI i)), .val (.ref (G.1 + (ad m)))]) d_P_formatOf_73 rfl rfl rfl rfl rfl ?_
            refine mp_iinc X 77 (L' := [.val (.ref (G.1 + P)), .val (.ref (G.1 + (ad lt))), .val (.int (nI (((pq_row O kn c).idxOf lt)))), .val (.int (nI ((pq_fm O (pq_row O kn c) lt ((pq_mk O kn c).take i ++ [m]))))), .val (.int (nI (i + 1))), .val (.ref (G.1 + (ad m)))]) (v := nI (i + 1)) d_P_formatOf_74 rfl rfl (nI_1 _) rfl ?_
            refine mp_goto X 15 d_P_formatOf_77 (by decide) ?_
            exact hg
          · refine mp_iload_n X 55 d_P_formatOf_54 rfl rfl rfl ?_
            refine mp_aload X 57 d_P_formatOf_55 rfl rfl ?_
            refine mp_getf (v := .int (nI ((2 ^ (pq_wh O m / 2))))) X 60 lk_P_103_K d_P_formatOf_57 rfl m2 m9 m11 ?_
            have hcv : pq_cv O (pq_row O kn c) m lt = true := by rcases hb with ⟨h1, h2⟩ | ⟨h1, h2⟩ <;> first | exact h2 | omega
            refine mp_ior X 61 d_P_formatOf_60 rfl ?_
            rw [(cp_fm1 (ms := (pq_mk O kn c).take i) hcv hwh).1 (by omega)]
            refine mp_goto X 73 d_P_formatOf_61 (by decide) ?_
            refine mp_istore_n X 74 (L' := [.val (.ref (G.1 + P)), .val (.ref (G.1 + (ad lt))), .val (.int (nI (((pq_row O kn c).idxOf lt)))), .val (.int (nI ((pq_fm O (pq_row O kn c) lt ((pq_mk O kn c).take i ++ [m]))))), .val (.int (nI i)), .val (.ref (G.1 + (ad m)))]) d_P_formatOf_73 rfl rfl rfl rfl rfl ?_
            refine mp_iinc X 77 (L' := [.val (.ref (G.1 + P)), .val (.ref (G.1 + (ad lt))), .val (.int (nI (((pq_row O kn c).idxOf lt)))), .val (.int (nI ((pq_fm O (pq_row O kn c) lt ((pq_mk O kn c).take i ++ [m]))))), .val (.int (nI (i + 1))), .val (.ref (G.1 + (ad m)))]) (v := nI (i + 1)) d_P_formatOf_74 rfl rfl (nI_1 _) rfl ?_
            refine mp_goto X 15 d_P_formatOf_77 (by decide) ?_
            exact hg
  refine mp_aload_n X 1 d_P_formatOf_0 rfl rfl rfl ?_
  refine mp_getf (v := .ref (G.1 + (P + 7))) X 4 lk_P_39_P d_P_formatOf_1 rfl (hK.sz (by omega)) hK.ob hK.r_places ?_
  refine mp_aload_n X 5 d_P_formatOf_4 rfl rfl rfl ?_
  refine mp_getf (v := .int (nI lt)) X 8 lk_P_73_W d_P_formatOf_5 rfl w1 w2 w3 ?_
  refine mp_iald (v := .int (nI (((pq_row O kn c).idxOf lt)))) X 9 (lt) d_P_formatOf_8 rfl (hK.sz (by omega)) hK.k_places rfl (by omega) (by decide) wp ?_
  refine mp_istore_n X 10 (L' := [.val (.ref (G.1 + P)), .val (.ref (G.1 + (ad lt))), .val (.int (nI (((pq_row O kn c).idxOf lt)))), .unset, .unset, .unset]) d_P_formatOf_9 rfl rfl rfl rfl rfl ?_
  refine mp_iconst X 11 (v := nI 0) d_P_formatOf_10 rfl (by decide) ?_
  refine mp_istore_n X 12 (L' := [.val (.ref (G.1 + P)), .val (.ref (G.1 + (ad lt))), .val (.int (nI (((pq_row O kn c).idxOf lt)))), .val (.int (nI 0)), .unset, .unset]) d_P_formatOf_11 rfl rfl rfl rfl rfl ?_
  refine mp_iconst X 13 (v := nI 0) d_P_formatOf_12 rfl (by decide) ?_
  refine mp_istore X 15 (L' := [.val (.ref (G.1 + P)), .val (.ref (G.1 + (ad lt))), .val (.int (nI (((pq_row O kn c).idxOf lt)))), .val (.int (nI 0)), .val (.int (nI 0)), .unset]) d_P_formatOf_13 rfl rfl rfl rfl ?_
  exact hloop (pq_mk O kn c).length 0 .unset rfl (by omega)
