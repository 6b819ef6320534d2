/-! The reference: covers, formatOf, greatest, learn, make (rows laid by program). -/
set_option maxRecDepth 100000 in
set_option maxHeartbeats 4000000 in
theorem k_R_covers (l : Launch) {G : mp_G} {h : mp_H} {S : pq_S} {j mm lt : Nat} (hK : rm_K G h) (hS : rm_S h S) (hV : rm_V h S j) (hok : pq_ok S) (hj : j < 3) (hmm : mm < S.1) (hkw : pq_kw (S.2.2.1 j) (S.2.2.2 j) mm = true) (hso : pq_so S.2.1 mm = 2) (hlt : lt ∈ rm_F S j) :
    mp_M G mp_Ts l y_R_covers 0 0 0 [.ref (G.1 + 26), .int (nI mm), .int (nI lt)] h (fun v h' => h' = h ∧ v = some (.int (rm_b (pq_cv S.2.1 (rm_F S j) mm lt)))) (fun _ _ => False) := by
  have hM : S.1 ≤ 90 := hok.1
  have hw := hok.2.1
  obtain ⟨t1, t2, t3, t4, t5, t6⟩ := hS.2.1 mm hmm
  have hwh := (hw.2.2.2.1 mm hmm).2.2.2.2
  obtain ⟨f, hf⟩ : ∃ p, pq_fi S.2.1 mm = some p := by rcases hw.2.2.2.2 mm hmm with h0 | h0; omega; exact h0
  have hfF := rm_known_in hok hj hkw (Or.inl hf)
  have hfM := (rm_row_lt hw (hok.2.2.1 j hj) hfF).1
  have hltM := (rm_row_lt hw (hok.2.2.1 j hj) hlt).1
  have pl := hV.pl hlt
  have pf := hV.pl hfF
  have bl := rm_F_idx hok hj hlt
  have bf := rm_F_idx hok hj hfF
  rw [hf] at t3
  refine mp_enter (by decide) Y_R_covers fun E hl X => ?_
  refine mp_eq rfl (L2 := [.val (.ref (G.1 + 26)), .val (.int (nI mm)), .val (.int (nI lt)), .unset, .unset]) rfl rfl ?_
  cases hen : pq_en S.2.1 mm with
  | none =>
    rw [hen] at t4
    refine mp_aload_n X 1 d_R_covers_0 rfl rfl rfl ?_
    refine mp_getf (v := .ref (G.1 + 37)) X 4 lk_R_42_R d_R_covers_1 rfl (hK.sz (by decide)) hK.ob hK.r_place ?_
    refine mp_iload_n X 5 d_R_covers_4 rfl rfl rfl ?_
    refine mp_iald (v := .int (nI (((rm_F S j).idxOf lt)))) X 6 (lt) d_R_covers_5 rfl (hK.sz (by decide)) hK.k_place rfl (by omega) (by decide) pl ?_
    refine mp_istore_n X 7 (L' := [.val (.ref (G.1 + 26)), .val (.int (nI mm)), .val (.int (nI lt)), .val (.int (nI (((rm_F S j).idxOf lt)))), .unset]) d_R_covers_6 rfl rfl rfl rfl rfl ?_
    refine mp_iload_n X 8 d_R_covers_7 rfl rfl rfl ?_
    refine mp_aload_n X 9 d_R_covers_8 rfl rfl rfl ?_
    refine mp_getf (v := .ref (G.1 + 37)) X 12 lk_R_42_R d_R_covers_9 rfl (hK.sz (by decide)) hK.ob hK.r_place ?_
    refine mp_aload_n X 13 d_R_covers_12 rfl rfl rfl ?_
    refine mp_getf (v := .ref (G.1 + 29)) X 16 lk_R_16_R d_R_covers_13 rfl (hK.sz (by decide)) hK.ob hK.r_first ?_
    refine mp_iload_n X 17 d_R_covers_16 rfl rfl rfl ?_
    refine mp_iald (v := .int (nI f)) X 18 (mm) d_R_covers_17 rfl (hK.sz (by decide)) hK.k_first rfl (by omega) (by decide) t3 ?_
    refine mp_iald (v := .int (nI (((rm_F S j).idxOf f)))) X 19 (f) d_R_covers_18 rfl (hK.sz (by decide)) hK.k_place rfl (by omega) (by decide) pf ?_
    refine mp_Nge X 24 22 d_R_covers_19 (by decide) rfl (by omega) (by omega) (fun q1 => ?_) (fun q1 => ?_)
    · refine mp_aload_n X 25 d_R_covers_24 rfl rfl rfl ?_
      refine mp_getf (v := .ref (G.1 + 30)) X 28 lk_R_19_R d_R_covers_25 rfl (hK.sz (by decide)) hK.ob hK.r_end ?_
      refine mp_iload_n X 29 d_R_covers_28 rfl rfl rfl ?_
      refine mp_iald (v := .int (-1)) X 30 (mm) d_R_covers_29 rfl (hK.sz (by decide)) hK.k_end rfl (by omega) (by decide) t4 ?_
      refine mp_if_ge X 35 33 d_R_covers_30 (by decide) rfl (fun q2 => ?_) (fun q2 => ?_)
      · exact absurd q2 (by decide)
      · refine mp_iconst X 34 (v := nI 1) d_R_covers_33 rfl (by decide) ?_
        exact mp_iret X d_R_covers_34 rfl rfl (by decide) (by decide) ⟨rfl, congrArg (fun b => some (Value.int (rm_b b))) (show true = _ by unfold pq_cv; rw [hf, hen]; simp; omega)⟩
    · refine mp_iconst X 23 (v := nI 0) d_R_covers_22 rfl (by decide) ?_
      exact mp_iret X d_R_covers_23 rfl rfl (by decide) (by decide) ⟨rfl, congrArg (fun b => some (Value.int (rm_b b))) (show false = _ by unfold pq_cv; rw [hf, hen]; simp; omega)⟩
  | some e =>
    rw [hen] at t4
    have heF := rm_known_in hok hj hkw (Or.inr hen)
    have heM := (rm_row_lt hw (hok.2.2.1 j hj) heF).1
    have pe := hV.pl heF
    have be := rm_F_idx hok hj heF
    refine mp_aload_n X 1 d_R_covers_0 rfl rfl rfl ?_
    refine mp_getf (v := .ref (G.1 + 37)) X 4 lk_R_42_R d_R_covers_1 rfl (hK.sz (by decide)) hK.ob hK.r_place ?_
    refine mp_iload_n X 5 d_R_covers_4 rfl rfl rfl ?_
    refine mp_iald (v := .int (nI (((rm_F S j).idxOf lt)))) X 6 (lt) d_R_covers_5 rfl (hK.sz (by decide)) hK.k_place rfl (by omega) (by decide) pl ?_
    refine mp_istore_n X 7 (L' := [.val (.ref (G.1 + 26)), .val (.int (nI mm)), .val (.int (nI lt)), .val (.int (nI (((rm_F S j).idxOf lt)))), .unset]) d_R_covers_6 rfl rfl rfl rfl rfl ?_
    refine mp_iload_n X 8 d_R_covers_7 rfl rfl rfl ?_
    refine mp_aload_n X 9 d_R_covers_8 rfl rfl rfl ?_
    refine mp_getf (v := .ref (G.1 + 37)) X 12 lk_R_42_R d_R_covers_9 rfl (hK.sz (by decide)) hK.ob hK.r_place ?_
    refine mp_aload_n X 13 d_R_covers_12 rfl rfl rfl ?_
    refine mp_getf (v := .ref (G.1 + 29)) X 16 lk_R_16_R d_R_covers_13 rfl (hK.sz (by decide)) hK.ob hK.r_first ?_
    refine mp_iload_n X 17 d_R_covers_16 rfl rfl rfl ?_
    refine mp_iald (v := .int (nI f)) X 18 (mm) d_R_covers_17 rfl (hK.sz (by decide)) hK.k_first rfl (by omega) (by decide) t3 ?_
    refine mp_iald (v := .int (nI (((rm_F S j).idxOf f)))) X 19 (f) d_R_covers_18 rfl (hK.sz (by decide)) hK.k_place rfl (by omega) (by decide) pf ?_
    refine mp_Nge X 24 22 d_R_covers_19 (by decide) rfl (by omega) (by omega) (fun q1 => ?_) (fun q1 => ?_)
    · refine mp_aload_n X 25 d_R_covers_24 rfl rfl rfl ?_
      refine mp_getf (v := .ref (G.1 + 30)) X 28 lk_R_19_R d_R_covers_25 rfl (hK.sz (by decide)) hK.ob hK.r_end ?_
      refine mp_iload_n X 29 d_R_covers_28 rfl rfl rfl ?_
      refine mp_iald (v := .int (nI e)) X 30 (mm) d_R_covers_29 rfl (hK.sz (by decide)) hK.k_end rfl (by omega) (by decide) t4 ?_
      refine mp_Zge X 35 33 d_R_covers_30 (by decide) rfl (by omega) (fun q2 => ?_) (fun q2 => ?_)
      · refine mp_aload_n X 36 d_R_covers_35 rfl rfl rfl ?_
        refine mp_getf (v := .ref (G.1 + 37)) X 39 lk_R_42_R d_R_covers_36 rfl (hK.sz (by decide)) hK.ob hK.r_place ?_
        refine mp_aload_n X 40 d_R_covers_39 rfl rfl rfl ?_
        refine mp_getf (v := .ref (G.1 + 30)) X 43 lk_R_19_R d_R_covers_40 rfl (hK.sz (by decide)) hK.ob hK.r_end ?_
        refine mp_iload_n X 44 d_R_covers_43 rfl rfl rfl ?_
        refine mp_iald (v := .int (nI e)) X 45 (mm) d_R_covers_44 rfl (hK.sz (by decide)) hK.k_end rfl (by omega) (by decide) t4 ?_
        refine mp_iald (v := .int (nI (((rm_F S j).idxOf e)))) X 46 (e) d_R_covers_45 rfl (hK.sz (by decide)) hK.k_place rfl (by omega) (by decide) pe ?_
        refine mp_istore X 48 (L' := [.val (.ref (G.1 + 26)), .val (.int (nI mm)), .val (.int (nI lt)), .val (.int (nI (((rm_F S j).idxOf lt)))), .val (.int (nI (((rm_F S j).idxOf e))))]) d_R_covers_46 rfl rfl rfl rfl ?_
        refine mp_aload_n X 49 d_R_covers_48 rfl rfl rfl ?_
        refine mp_getf (v := .ref (G.1 + 31)) X 52 lk_R_22_R d_R_covers_49 rfl (hK.sz (by decide)) hK.ob hK.r_what ?_
        refine mp_iload_n X 53 d_R_covers_52 rfl rfl rfl ?_
        refine mp_iald (v := .int (nI ((pq_wh S.2.1 mm)))) X 54 (mm) d_R_covers_53 rfl (hK.sz (by decide)) hK.k_what rfl (by omega) (by decide) t5 ?_
        refine mp_iconst X 55 (v := nI 4) d_R_covers_54 rfl (by decide) ?_
        refine mp_Nge X 72 58 d_R_covers_55 (by decide) rfl (by omega) (by omega) (fun q3 => ?_) (fun q3 => ?_)
        · refine mp_iload_n X 73 d_R_covers_72 rfl rfl rfl ?_
          refine mp_iload X 75 d_R_covers_73 rfl rfl ?_
          refine mp_Ngt X 82 78 d_R_covers_75 (by decide) rfl (by omega) (by omega) (fun q4 => ?_) (fun q4 => ?_)
          · refine mp_iconst X 83 (v := nI 0) d_R_covers_82 rfl (by decide) ?_
            exact mp_iret X d_R_covers_83 rfl rfl (by decide) (by decide) ⟨rfl, congrArg (fun b => some (Value.int (rm_b b))) (show false = _ by unfold pq_cv; rw [hf, hen]; simp only []; split <;> simp <;> omega)⟩
          · refine mp_iconst X 79 (v := nI 1) d_R_covers_78 rfl (by decide) ?_
            refine mp_goto X 83 d_R_covers_79 (by decide) ?_
            exact mp_iret X d_R_covers_83 rfl rfl (by decide) (by decide) ⟨rfl, congrArg (fun b => some (Value.int (rm_b b))) (show true = _ by unfold pq_cv; rw [hf, hen]; simp only []; split <;> simp <;> omega)⟩
        · refine mp_iload_n X 59 d_R_covers_58 rfl rfl rfl ?_
          refine mp_iload X 61 d_R_covers_59 rfl rfl ?_
          refine mp_Nge X 68 64 d_R_covers_61 (by decide) rfl (by omega) (by omega) (fun q5 => ?_) (fun q5 => ?_)
          · refine mp_iconst X 69 (v := nI 0) d_R_covers_68 rfl (by decide) ?_
            refine mp_goto X 83 d_R_covers_69 (by decide) ?_
            exact mp_iret X d_R_covers_83 rfl rfl (by decide) (by decide) ⟨rfl, congrArg (fun b => some (Value.int (rm_b b))) (show false = _ by unfold pq_cv; rw [hf, hen]; simp only []; split <;> simp <;> omega)⟩
          · refine mp_iconst X 65 (v := nI 1) d_R_covers_64 rfl (by decide) ?_
            refine mp_goto X 83 d_R_covers_65 (by decide) ?_
            exact mp_iret X d_R_covers_83 rfl rfl (by decide) (by decide) ⟨rfl, congrArg (fun b => some (Value.int (rm_b b))) (show true = _ by unfold pq_cv; rw [hf, hen]; simp only []; split <;> simp <;> omega)⟩
      · exact q2.elim
    · refine mp_iconst X 23 (v := nI 0) d_R_covers_22 rfl (by decide) ?_
      exact mp_iret X d_R_covers_23 rfl rfl (by decide) (by decide) ⟨rfl, congrArg (fun b => some (Value.int (rm_b b))) (show false = _ by unfold pq_cv; rw [hf, hen]; simp only []; split <;> simp <;> omega)⟩
set_option maxRecDepth 100000 in
set_option maxHeartbeats 4000000 in
theorem k_R_formatOf (l : Launch) {G : mp_G} {h : mp_H} {S : pq_S} {j lt : Nat} (hK : rm_K G h) (hS : rm_S h S) (hV : rm_V h S j) (hok : pq_ok S) (hj : j < 3) (hlt : lt ∈ rm_F S j) :
    mp_M G mp_Ts l y_R_formatOf 1 0 0 [.ref (G.1 + 26), .int (nI j), .int (nI lt)] h (fun v h' => h' = h ∧ v = some (.int (nI (pq_fm S.2.1 (rm_F S j) lt (pq_mk S.2.1 (S.2.2.1 j) (S.2.2.2 j)))))) (fun _ _ => False) := by
  have hM : S.1 ≤ 90 := hok.1
  have hw := hok.2.1
  have s1 := hS.1
  have s2 := hS.2.1
  obtain ⟨-, -, s6⟩ := hS.2.2 j hj
  have hltM := (rm_row_lt hw (hok.2.2.1 j hj) hlt).1
  refine mp_enter (by decide) Y_R_formatOf fun E hl X => ?_
  have hout : ∀ (n kind : Nat) (z5 z6 z7 : Slot), mp_s1 z5 = true → mp_s1 z6 = true → mp_s1 z7 = true → kind + n = 4 → mp_W G E h 0 0 (mp_Q G E 0 0 (fun v h' => h' = h ∧ v = some (.int (nI (pq_fm S.2.1 (rm_F S j) lt (pq_mk S.2.1 (S.2.2.1 j) (S.2.2.2 j)))))) (fun _ _ => False)) 5 [.val (.ref (G.1 + 26)), .val (.int (nI j)), .val (.int (nI lt)), .val (.int (nI (rm_sm S.2.1 (rm_F S j) lt (pq_mk S.2.1 (S.2.2.1 j) (S.2.2.2 j)) kind))), .val (.int (nI kind)), z5, z6, z7] [] := by
    intro n
    induction n with
    | zero =>
      intro kind z5 z6 z7 hz5 hz6 hz7 hkn
      have hk4 : kind = 4 := by omega
      subst hk4
      refine mp_iload X 7 d_R_formatOf_5 rfl rfl ?_
      refine mp_iconst X 8 (v := nI 4) d_R_formatOf_7 rfl (by decide) ?_
      refine mp_Nge X 160 11 d_R_formatOf_8 (by decide) rfl (by omega) (by omega) (fun q1 => ?_) (fun q1 => ?_)
      · refine mp_iload_n X 161 d_R_formatOf_160 rfl rfl rfl ?_
        exact mp_iret X d_R_formatOf_161 rfl rfl (by decide) (by decide) ⟨rfl, by rw [rm_sm_4]⟩
      · omega
    | succ n ih =>
      intro kind z5 z6 z7 hz5 hz6 hz7 hkn
      have hk4 : kind < 4 := by omega
      have hsm := rm_sm_lt S.2.1 (rm_F S j) lt (pq_mk S.2.1 (S.2.2.1 j) (S.2.2.2 j)) kind
      have hsm2 : 2 ^ kind ≤ 16 := Nat.pow_le_pow_right (by decide) (by omega : kind ≤ 4)
      have hbest := pq_hs_best hw (hok.2.2.1 j hj) (rm_F S j) lt kind
      have hin : ∀ (m k : Nat) (r : Option Nat) (z : Slot), mp_s1 z = true → k + m = S.1 → r = pq_best (pq_id S.2.1) (rm_cm S j lt kind) k → mp_W G E h 0 0 (mp_Q G E 0 0 (fun v h' => h' = h ∧ v = some (.int (nI (pq_fm S.2.1 (rm_F S j) lt (pq_mk S.2.1 (S.2.2.1 j) (S.2.2.2 j)))))) (fun _ _ => False)) 17 [.val (.ref (G.1 + 26)), .val (.int (nI j)), .val (.int (nI lt)), .val (.int (nI (rm_sm S.2.1 (rm_F S j) lt (pq_mk S.2.1 (S.2.2.1 j) (S.2.2.2 j)) kind))), .val (.int (nI kind)), .val (.int (rm_i r)), .val (.int (nI k)), z] [] := by
        intro m
        induction m with
        | zero =>
          intro k r z hz hkm hr
          have hk : k = S.1 := by omega
          subst hk
          cases r with
          | none =>
            have hb2 : pq_hs S.2.1 (rm_F S j) lt kind (pq_mk S.2.1 (S.2.2.1 j) (S.2.2.2 j)) = false := by
              have hr2 : pq_best (pq_id S.2.1) (fun k => (pq_kw (S.2.2.1 j) (S.2.2.2 j) k && pq_so S.2.1 k == 2) && decide (pq_wh S.2.1 k / 2 = kind) && pq_cv S.2.1 (rm_F S j) k lt) S.1 = none := hr.symm
              rw [hbest, hr2]
            refine mp_eq rfl (L2 := [.val (.ref (G.1 + 26)), .val (.int (nI j)), .val (.int (nI lt)), .val (.int (nI ((rm_sm S.2.1 (rm_F S j) lt (pq_mk S.2.1 (S.2.2.1 j) (S.2.2.2 j)) kind)))), .val (.int (nI kind)), .val (.int (-1)), .val (.int (nI (S.1))), z]) rfl rfl ?_
            refine mp_iload X 19 d_R_formatOf_17 rfl rfl ?_
            refine mp_aload_n X 20 d_R_formatOf_19 rfl rfl rfl ?_
            refine mp_getf (v := .int (nI (S.1))) X 23 lk_R_55_R d_R_formatOf_20 rfl (hK.sz (by decide)) hK.ob s1 ?_
            refine mp_Nge X 125 26 d_R_formatOf_23 (by decide) rfl (by omega) (by omega) (fun q1 => ?_) (fun q1 => ?_)
            · refine mp_iload_n X 126 d_R_formatOf_125 rfl rfl rfl ?_
              refine mp_iload X 128 d_R_formatOf_126 rfl rfl ?_
              refine mp_if_lt X 151 131 d_R_formatOf_128 (by decide) rfl (fun q2 => ?_) (fun q2 => ?_)
              · refine mp_iconst X 152 (v := nI 0) d_R_formatOf_151 rfl (by decide) ?_
                refine mp_iadd X 153 d_R_formatOf_152 rfl ?_
                rw [nI_add]
                have esm : (rm_sm S.2.1 (rm_F S j) lt (pq_mk S.2.1 (S.2.2.1 j) (S.2.2.2 j)) kind) + 0 = (rm_sm S.2.1 (rm_F S j) lt (pq_mk S.2.1 (S.2.2.1 j) (S.2.2.2 j)) (kind + 1)) := by
                  show _ = _ + (if _ then 2 ^ kind else 0)
                  rw [hb2]; rfl
                rw [esm]
                refine mp_istore_n X 154 (L' := [.val (.ref (G.1 + 26)), .val (.int (nI j)), .val (.int (nI lt)), .val (.int (nI ((rm_sm S.2.1 (rm_F S j) lt (pq_mk S.2.1 (S.2.2.1 j) (S.2.2.2 j)) (kind + 1))))), .val (.int (nI kind)), .val (.int (-1)), .val (.int (nI (S.1))), z]) d_R_formatOf_153 rfl rfl rfl rfl rfl ?_
                refine mp_iinc X 157 (L' := [.val (.ref (G.1 + 26)), .val (.int (nI j)), .val (.int (nI lt)), .val (.int (nI ((rm_sm S.2.1 (rm_F S j) lt (pq_mk S.2.1 (S.2.2.1 j) (S.2.2.2 j)) (kind + 1))))), .val (.int (nI (kind + 1))), .val (.int (-1)), .val (.int (nI (S.1))), z]) (v := nI (kind + 1)) d_R_formatOf_154 rfl rfl (nI_1 _) rfl ?_
                refine mp_goto X 5 d_R_formatOf_157 (by decide) ?_
                exact ih (kind + 1) _ _ _ rfl rfl hz (by omega)
              · exact absurd (by decide) q2
            · omega
          | some b0 =>
            have hb2 : pq_hs S.2.1 (rm_F S j) lt kind (pq_mk S.2.1 (S.2.2.1 j) (S.2.2.2 j)) = decide (pq_wh S.2.1 b0 % 2 = 1) := by
              have hr2 : pq_best (pq_id S.2.1) (fun k => (pq_kw (S.2.2.1 j) (S.2.2.2 j) k && pq_so S.2.1 k == 2) && decide (pq_wh S.2.1 k / 2 = kind) && pq_cv S.2.1 (rm_F S j) k lt) S.1 = some b0 := hr.symm
              rw [hbest, hr2]
            obtain ⟨hb0, -, -⟩ := (pq_best_spec (pq_id S.2.1) (rm_cm S j lt kind) S.1).1 b0 hr.symm
            have tb := (s2 b0 hb0).2.2.2.2.1
            have hwb := (hw.2.2.2.1 b0 hb0).2.2.2.2
            refine mp_eq rfl (L2 := [.val (.ref (G.1 + 26)), .val (.int (nI j)), .val (.int (nI lt)), .val (.int (nI ((rm_sm S.2.1 (rm_F S j) lt (pq_mk S.2.1 (S.2.2.1 j) (S.2.2.2 j)) kind)))), .val (.int (nI kind)), .val (.int (nI b0)), .val (.int (nI (S.1))), z]) rfl rfl ?_
            refine mp_iload X 19 d_R_formatOf_17 rfl rfl ?_
            refine mp_aload_n X 20 d_R_formatOf_19 rfl rfl rfl ?_
            refine mp_getf (v := .int (nI (S.1))) X 23 lk_R_55_R d_R_formatOf_20 rfl (hK.sz (by decide)) hK.ob s1 ?_
            refine mp_Nge X 125 26 d_R_formatOf_23 (by decide) rfl (by omega) (by omega) (fun q1 => ?_) (fun q1 => ?_)
            · refine mp_iload_n X 126 d_R_formatOf_125 rfl rfl rfl ?_
              refine mp_iload X 128 d_R_formatOf_126 rfl rfl ?_
              refine mp_Zlt X 151 131 d_R_formatOf_128 (by decide) rfl (by omega) (fun q2 => ?_) (fun q2 => ?_)
              · exact q2.elim
              · refine mp_aload_n X 132 d_R_formatOf_131 rfl rfl rfl ?_
                refine mp_getf (v := .ref (G.1 + 31)) X 135 lk_R_22_R d_R_formatOf_132 rfl (hK.sz (by decide)) hK.ob hK.r_what ?_
                refine mp_iload X 137 d_R_formatOf_135 rfl rfl ?_
                refine mp_iald (v := .int (nI ((pq_wh S.2.1 b0)))) X 138 (b0) d_R_formatOf_137 rfl (hK.sz (by decide)) hK.k_what rfl (by omega) (by decide) tb ?_
                refine mp_iconst X 139 (v := nI 2) d_R_formatOf_138 rfl (by decide) ?_
                refine mp_irem X 140 d_R_formatOf_139 rfl (by decide) ?_
                have e3 : nI ((pq_wh S.2.1 b0)) - nI ((pq_wh S.2.1 b0)) / nI 2 * nI 2 = nI ((pq_wh S.2.1 b0) % 2) := pk_rem (by omega) (by decide) (by decide)
                rw [e3]
                refine mp_iconst X 141 (v := nI 1) d_R_formatOf_140 rfl (by decide) ?_
                refine mp_Nne X 151 144 d_R_formatOf_141 (by decide) rfl (by omega) (by omega) (fun q4 => ?_) (fun q4 => ?_)
                · refine mp_iconst X 152 (v := nI 0) d_R_formatOf_151 rfl (by decide) ?_
                  refine mp_iadd X 153 d_R_formatOf_152 rfl ?_
                  rw [nI_add]
                  have esm : (rm_sm S.2.1 (rm_F S j) lt (pq_mk S.2.1 (S.2.2.1 j) (S.2.2.2 j)) kind) + 0 = (rm_sm S.2.1 (rm_F S j) lt (pq_mk S.2.1 (S.2.2.1 j) (S.2.2.2 j)) (kind + 1)) := by
                    show _ = _ + (if _ then 2 ^ kind else 0)
                    rw [hb2, decide_eq_false q4]; rfl
                  rw [esm]
                  refine mp_istore_n X 154 (L' := [.val (.ref (G.1 + 26)), .val (.int (nI j)), .val (.int (nI lt)), .val (.int (nI ((rm_sm S.2.1 (rm_F S j) lt (pq_mk S.2.1 (S.2.2.1 j) (S.2.2.2 j)) (kind + 1))))), .val (.int (nI kind)), .val (.int (nI b0)), .val (.int (nI (S.1))), z]) d_R_formatOf_153 rfl rfl rfl rfl rfl ?_
                  refine mp_iinc X 157 (L' := [.val (.ref (G.1 + 26)), .val (.int (nI j)), .val (.int (nI lt)), .val (.int (nI ((rm_sm S.2.1 (rm_F S j) lt (pq_mk S.2.1 (S.2.2.1 j) (S.2.2.2 j)) (kind + 1))))), .val (.int (nI (kind + 1))), .val (.int (nI b0)), .val (.int (nI (S.1))), z]) (v := nI (kind + 1)) d_R_formatOf_154 rfl rfl (nI_1 _) rfl ?_
                  refine mp_goto X 5 d_R_formatOf_157 (by decide) ?_
                  exact ih (kind + 1) _ _ _ rfl rfl hz (by omega)
                · refine mp_iconst X 145 (v := nI 1) d_R_formatOf_144 rfl (by decide) ?_
                  refine mp_iload X 147 d_R_formatOf_145 rfl rfl ?_
                  refine mp_ishl X 148 d_R_formatOf_147 rfl ?_
                  have e5 : (nI 1) <<< ((nI kind) &&& 31) = nI (2 ^ kind) := rm_shl kind hk4
                  rw [e5]
                  refine mp_goto X 152 d_R_formatOf_148 (by decide) ?_
                  refine mp_iadd X 153 d_R_formatOf_152 rfl ?_
                  rw [nI_add]
                  have esm : (rm_sm S.2.1 (rm_F S j) lt (pq_mk S.2.1 (S.2.2.1 j) (S.2.2.2 j)) kind) + 2 ^ kind = (rm_sm S.2.1 (rm_F S j) lt (pq_mk S.2.1 (S.2.2.1 j) (S.2.2.2 j)) (kind + 1)) := by
                    show _ = _ + (if _ then 2 ^ kind else 0)
                    rw [hb2, q4]; rfl
                  rw [esm]
                  refine mp_istore_n X 154 (L' := [.val (.ref (G.1 + 26)), .val (.int (nI j)), .val (.int (nI lt)), .val (.int (nI ((rm_sm S.2.1 (rm_F S j) lt (pq_mk S.2.1 (S.2.2.1 j) (S.2.2.2 j)) (kind + 1))))), .val (.int (nI kind)), .val (.int (nI b0)), .val (.int (nI (S.1))), z]) d_R_formatOf_153 rfl rfl rfl rfl rfl ?_
                  refine mp_iinc X 157 (L' := [.val (.ref (G.1 + 26)), .val (.int (nI j)), .val (.int (nI lt)), .val (.int (nI ((rm_sm S.2.1 (rm_F S j) lt (pq_mk S.2.1 (S.2.2.1 j) (S.2.2.2 j)) (kind + 1))))), .val (.int (nI (kind + 1))), .val (.int (nI b0)), .val (.int (nI (S.1))), z]) (v := nI (kind + 1)) d_R_formatOf_154 rfl rfl (nI_1 _) rfl ?_
                  refine mp_goto X 5 d_R_formatOf_157 (by decide) ?_
                  exact ih (kind + 1) _ _ _ rfl rfl hz (by omega)
            · omega
        | succ m ihm =>
          intro k r z hz hkm hr
          have hkM : k < S.1 := by omega
          obtain ⟨t1, t2, t3, t4, t5, t6⟩ := s2 k hkM
          obtain ⟨-, -, -, hso3, hwh⟩ := hw.2.2.2.1 k hkM
          have hidk := pq_id_lt hw hM hkM
          have s_kb := s6 k (by omega)
          cases r with
          | none =>
            refine mp_eq rfl (L2 := [.val (.ref (G.1 + 26)), .val (.int (nI j)), .val (.int (nI lt)), .val (.int (nI ((rm_sm S.2.1 (rm_F S j) lt (pq_mk S.2.1 (S.2.2.1 j) (S.2.2.2 j)) kind)))), .val (.int (nI kind)), .val (.int (-1)), .val (.int (nI k)), z]) rfl rfl ?_
            refine mp_iload X 19 d_R_formatOf_17 rfl rfl ?_
            refine mp_aload_n X 20 d_R_formatOf_19 rfl rfl rfl ?_
            refine mp_getf (v := .int (nI (S.1))) X 23 lk_R_55_R d_R_formatOf_20 rfl (hK.sz (by decide)) hK.ob s1 ?_
            refine mp_Nge X 125 26 d_R_formatOf_23 (by decide) rfl (by omega) (by omega) (fun q1 => ?_) (fun q1 => ?_)
            · omega
            · obtain ⟨kb, kb1, hkb⟩ : ∃ kb : Nat, (kb = 1 ∧ pq_kw (S.2.2.1 j) (S.2.2.2 j) k = true ∨ kb = 0 ∧ pq_kw (S.2.2.1 j) (S.2.2.2 j) k = false) ∧ h.2.1 34 (90 * j + k) = .int (nI kb) := by
                cases hkw : pq_kw (S.2.2.1 j) (S.2.2.2 j) k with
                | true => rw [hkw] at s_kb; exact ⟨1, Or.inl ⟨rfl, rfl⟩, s_kb⟩
                | false => rw [hkw] at s_kb; exact ⟨0, Or.inr ⟨rfl, rfl⟩, s_kb⟩
              have kbb : kb < 2 := by omega
              refine mp_aload_n X 27 d_R_formatOf_26 rfl rfl rfl ?_
              refine mp_getf (v := .ref (G.1 + 34)) X 30 lk_R_32_R d_R_formatOf_27 rfl (hK.sz (by decide)) hK.ob hK.r_knows ?_
              refine mp_bipush X 32 (v := nI 90) d_R_formatOf_30 rfl (by decide) ?_
              refine mp_iload_n X 33 d_R_formatOf_32 rfl rfl rfl ?_
              refine mp_imul X 34 d_R_formatOf_33 rfl ?_
              rw [pk_mul]
              refine mp_iload X 36 d_R_formatOf_34 rfl rfl ?_
              refine mp_iadd X 37 d_R_formatOf_36 rfl ?_
              rw [nI_add]
              refine mp_zald (v := .int (nI kb)) X 38 (90 * j + k) d_R_formatOf_37 rfl (hK.sz (by decide)) hK.k_knows rfl (by omega) (by decide) hkb ?_
              refine mp_Zeq X 70 41 d_R_formatOf_38 (by decide) rfl (by omega) (fun q2 => ?_) (fun q2 => ?_)
              · have hkw : pq_kw (S.2.2.1 j) (S.2.2.2 j) k = false := by rcases kb1 with ⟨h1, h2⟩ | ⟨h1, h2⟩; omega; exact h2
                refine mp_iconst X 71 (v := nI 0) d_R_formatOf_70 rfl (by decide) ?_
                refine mp_istore X 73 (L' := [.val (.ref (G.1 + 26)), .val (.int (nI j)), .val (.int (nI lt)), .val (.int (nI ((rm_sm S.2.1 (rm_F S j) lt (pq_mk S.2.1 (S.2.2.1 j) (S.2.2.2 j)) kind)))), .val (.int (nI kind)), .val (.int (-1)), .val (.int (nI k)), .val (.int (nI 0))]) d_R_formatOf_71 rfl rfl hz rfl ?_
                refine mp_iload X 75 d_R_formatOf_73 rfl rfl ?_
                refine mp_Zeq X 115 78 d_R_formatOf_75 (by decide) rfl (by omega) (fun q3 => ?_) (fun q3 => ?_)
                · refine mp_iload X 117 d_R_formatOf_115 rfl rfl ?_
                  refine mp_istore X 119 (L' := [.val (.ref (G.1 + 26)), .val (.int (nI j)), .val (.int (nI lt)), .val (.int (nI ((rm_sm S.2.1 (rm_F S j) lt (pq_mk S.2.1 (S.2.2.1 j) (S.2.2.2 j)) kind)))), .val (.int (nI kind)), .val (.int (-1)), .val (.int (nI k)), .val (.int (nI 0))]) d_R_formatOf_117 rfl rfl rfl rfl ?_
                  refine mp_iinc X 122 (L' := [.val (.ref (G.1 + 26)), .val (.int (nI j)), .val (.int (nI lt)), .val (.int (nI ((rm_sm S.2.1 (rm_F S j) lt (pq_mk S.2.1 (S.2.2.1 j) (S.2.2.2 j)) kind)))), .val (.int (nI kind)), .val (.int (-1)), .val (.int (nI (k + 1))), .val (.int (nI 0))]) (v := nI (k + 1)) d_R_formatOf_119 rfl rfl (nI_1 _) rfl ?_
                  refine mp_goto X 17 d_R_formatOf_122 (by decide) ?_
                  exact ihm (k + 1) none _ rfl (by omega) (by rw [pq_best_keep (show rm_cm S j lt kind k = false by unfold rm_cm; rw [hkw]; rfl), ← hr])
                · exact absurd rfl q3
              · have hkw : pq_kw (S.2.2.1 j) (S.2.2.2 j) k = true := by rcases kb1 with ⟨h1, h2⟩ | ⟨h1, h2⟩; exact h2; omega
                refine mp_aload_n X 42 d_R_formatOf_41 rfl rfl rfl ?_
                refine mp_getf (v := .ref (G.1 + 27)) X 45 lk_R_7_R d_R_formatOf_42 rfl (hK.sz (by decide)) hK.ob hK.r_sort ?_
                refine mp_iload X 47 d_R_formatOf_45 rfl rfl ?_
                refine mp_iald (v := .int (nI ((pq_so S.2.1 k)))) X 48 (k) d_R_formatOf_47 rfl (hK.sz (by decide)) hK.k_sort rfl (by omega) (by decide) t1 ?_
                refine mp_iconst X 49 (v := nI 2) d_R_formatOf_48 rfl (by decide) ?_
                refine mp_Nne X 70 52 d_R_formatOf_49 (by decide) rfl (by omega) (by omega) (fun q4 => ?_) (fun q4 => ?_)
                · refine mp_iconst X 71 (v := nI 0) d_R_formatOf_70 rfl (by decide) ?_
                  refine mp_istore X 73 (L' := [.val (.ref (G.1 + 26)), .val (.int (nI j)), .val (.int (nI lt)), .val (.int (nI ((rm_sm S.2.1 (rm_F S j) lt (pq_mk S.2.1 (S.2.2.1 j) (S.2.2.2 j)) kind)))), .val (.int (nI kind)), .val (.int (-1)), .val (.int (nI k)), .val (.int (nI 0))]) d_R_formatOf_71 rfl rfl hz rfl ?_
                  refine mp_iload X 75 d_R_formatOf_73 rfl rfl ?_
                  refine mp_Zeq X 115 78 d_R_formatOf_75 (by decide) rfl (by omega) (fun q5 => ?_) (fun q5 => ?_)
                  · refine mp_iload X 117 d_R_formatOf_115 rfl rfl ?_
                    refine mp_istore X 119 (L' := [.val (.ref (G.1 + 26)), .val (.int (nI j)), .val (.int (nI lt)), .val (.int (nI ((rm_sm S.2.1 (rm_F S j) lt (pq_mk S.2.1 (S.2.2.1 j) (S.2.2.2 j)) kind)))), .val (.int (nI kind)), .val (.int (-1)), .val (.int (nI k)), .val (.int (nI 0))]) d_R_formatOf_117 rfl rfl rfl rfl ?_
                    refine mp_iinc X 122 (L' := [.val (.ref (G.1 + 26)), .val (.int (nI j)), .val (.int (nI lt)), .val (.int (nI ((rm_sm S.2.1 (rm_F S j) lt (pq_mk S.2.1 (S.2.2.1 j) (S.2.2.2 j)) kind)))), .val (.int (nI kind)), .val (.int (-1)), .val (.int (nI (k + 1))), .val (.int (nI 0))]) (v := nI (k + 1)) d_R_formatOf_119 rfl rfl (nI_1 _) rfl ?_
                    refine mp_goto X 17 d_R_formatOf_122 (by decide) ?_
                    exact ihm (k + 1) none _ rfl (by omega) (by rw [pq_best_keep (show rm_cm S j lt kind k = false by unfold rm_cm; simp [q4]), ← hr])
                  · exact absurd rfl q5
                · refine mp_aload_n X 53 d_R_formatOf_52 rfl rfl rfl ?_
                  refine mp_getf (v := .ref (G.1 + 31)) X 56 lk_R_22_R d_R_formatOf_53 rfl (hK.sz (by decide)) hK.ob hK.r_what ?_
                  refine mp_iload X 58 d_R_formatOf_56 rfl rfl ?_
                  refine mp_iald (v := .int (nI ((pq_wh S.2.1 k)))) X 59 (k) d_R_formatOf_58 rfl (hK.sz (by decide)) hK.k_what rfl (by omega) (by decide) t5 ?_
                  refine mp_iconst X 60 (v := nI 2) d_R_formatOf_59 rfl (by decide) ?_
                  refine mp_idiv X 61 d_R_formatOf_60 rfl (by decide) ?_
                  have e6 : (nI ((pq_wh S.2.1 k))) / nI 2 = nI ((pq_wh S.2.1 k) / 2) := pk_div (by omega) (by decide) (by decide)
                  rw [e6]
                  refine mp_iload X 63 d_R_formatOf_61 rfl rfl ?_
                  refine mp_Nne X 70 66 d_R_formatOf_63 (by decide) rfl (by omega) (by omega) (fun q7 => ?_) (fun q7 => ?_)
                  · refine mp_iconst X 71 (v := nI 0) d_R_formatOf_70 rfl (by decide) ?_
                    refine mp_istore X 73 (L' := [.val (.ref (G.1 + 26)), .val (.int (nI j)), .val (.int (nI lt)), .val (.int (nI ((rm_sm S.2.1 (rm_F S j) lt (pq_mk S.2.1 (S.2.2.1 j) (S.2.2.2 j)) kind)))), .val (.int (nI kind)), .val (.int (-1)), .val (.int (nI k)), .val (.int (nI 0))]) d_R_formatOf_71 rfl rfl hz rfl ?_
                    refine mp_iload X 75 d_R_formatOf_73 rfl rfl ?_
                    refine mp_Zeq X 115 78 d_R_formatOf_75 (by decide) rfl (by omega) (fun q8 => ?_) (fun q8 => ?_)
                    · refine mp_iload X 117 d_R_formatOf_115 rfl rfl ?_
                      refine mp_istore X 119 (L' := [.val (.ref (G.1 + 26)), .val (.int (nI j)), .val (.int (nI lt)), .val (.int (nI ((rm_sm S.2.1 (rm_F S j) lt (pq_mk S.2.1 (S.2.2.1 j) (S.2.2.2 j)) kind)))), .val (.int (nI kind)), .val (.int (-1)), .val (.int (nI k)), .val (.int (nI 0))]) d_R_formatOf_117 rfl rfl rfl rfl ?_
                      refine mp_iinc X 122 (L' := [.val (.ref (G.1 + 26)), .val (.int (nI j)), .val (.int (nI lt)), .val (.int (nI ((rm_sm S.2.1 (rm_F S j) lt (pq_mk S.2.1 (S.2.2.1 j) (S.2.2.2 j)) kind)))), .val (.int (nI kind)), .val (.int (-1)), .val (.int (nI (k + 1))), .val (.int (nI 0))]) (v := nI (k + 1)) d_R_formatOf_119 rfl rfl (nI_1 _) rfl ?_
                      refine mp_goto X 17 d_R_formatOf_122 (by decide) ?_
                      exact ihm (k + 1) none _ rfl (by omega) (by rw [pq_best_keep (show rm_cm S j lt kind k = false by unfold rm_cm; simp [q7]), ← hr])
                    · exact absurd rfl q8
                  · refine mp_iconst X 67 (v := nI 1) d_R_formatOf_66 rfl (by decide) ?_
                    refine mp_goto X 71 d_R_formatOf_67 (by decide) ?_
                    refine mp_istore X 73 (L' := [.val (.ref (G.1 + 26)), .val (.int (nI j)), .val (.int (nI lt)), .val (.int (nI ((rm_sm S.2.1 (rm_F S j) lt (pq_mk S.2.1 (S.2.2.1 j) (S.2.2.2 j)) kind)))), .val (.int (nI kind)), .val (.int (-1)), .val (.int (nI k)), .val (.int (nI 1))]) d_R_formatOf_71 rfl rfl hz rfl ?_
                    refine mp_iload X 75 d_R_formatOf_73 rfl rfl ?_
                    refine mp_Zeq X 115 78 d_R_formatOf_75 (by decide) rfl (by omega) (fun q9 => ?_) (fun q9 => ?_)
                    · exact absurd q9 (by decide)
                    · refine mp_aload_n X 79 d_R_formatOf_78 rfl rfl rfl ?_
                      refine mp_iload X 81 d_R_formatOf_79 rfl rfl ?_
                      refine mp_iload_n X 82 d_R_formatOf_81 rfl rfl rfl ?_
                      obtain ⟨cb, cb1, hcb⟩ : ∃ cb : Nat, (cb = 1 ∧ pq_cv S.2.1 (rm_F S j) k lt = true ∨ cb = 0 ∧ pq_cv S.2.1 (rm_F S j) k lt = false) ∧ rm_b (pq_cv S.2.1 (rm_F S j) k lt) = nI cb := by
                        cases hcv : pq_cv S.2.1 (rm_F S j) k lt with
                        | true => exact ⟨1, Or.inl ⟨rfl, rfl⟩, rfl⟩
                        | false => exact ⟨0, Or.inr ⟨rfl, rfl⟩, rfl⟩
                      refine mp_callE X mp_Ts_ok 85 (rest := []) (st2 := [.int (nI cb)]) (k_R_covers (mm := k) (lt := lt) _ hK hS hV hok hj hkM hkw q4 hlt) Y_R_covers in_R (mp_IV X (q := (nR_R, nT_R, 17)) d_R_formatOf_82 Y_R_covers ml_R_72 im_R_covers se_R_covers (by decide) rfl (by decide) (by show _ = some 2; decide) (hK.sz (by decide)) hK.ob) rfl (by decide) (by decide) (by decide) (by decide) rfl (by decide) (by rw [hcb]; rfl) ?_
                      refine mp_Zeq X 115 88 d_R_formatOf_85 (by decide) rfl (by omega) (fun q10 => ?_) (fun q10 => ?_)
                      · have hcv : pq_cv S.2.1 (rm_F S j) k lt = false := by rcases cb1 with ⟨a1, a2⟩ | ⟨a1, a2⟩; omega; exact a2
                        refine mp_iload X 117 d_R_formatOf_115 rfl rfl ?_
                        refine mp_istore X 119 (L' := [.val (.ref (G.1 + 26)), .val (.int (nI j)), .val (.int (nI lt)), .val (.int (nI ((rm_sm S.2.1 (rm_F S j) lt (pq_mk S.2.1 (S.2.2.1 j) (S.2.2.2 j)) kind)))), .val (.int (nI kind)), .val (.int (-1)), .val (.int (nI k)), .val (.int (nI 1))]) d_R_formatOf_117 rfl rfl rfl rfl ?_
                        refine mp_iinc X 122 (L' := [.val (.ref (G.1 + 26)), .val (.int (nI j)), .val (.int (nI lt)), .val (.int (nI ((rm_sm S.2.1 (rm_F S j) lt (pq_mk S.2.1 (S.2.2.1 j) (S.2.2.2 j)) kind)))), .val (.int (nI kind)), .val (.int (-1)), .val (.int (nI (k + 1))), .val (.int (nI 1))]) (v := nI (k + 1)) d_R_formatOf_119 rfl rfl (nI_1 _) rfl ?_
                        refine mp_goto X 17 d_R_formatOf_122 (by decide) ?_
                        exact ihm (k + 1) none _ rfl (by omega) (by rw [pq_best_keep (show rm_cm S j lt kind k = false by unfold rm_cm; rw [hcv]; simp), ← hr])
                      · have hcv : pq_cv S.2.1 (rm_F S j) k lt = true := by rcases cb1 with ⟨a1, a2⟩ | ⟨a1, a2⟩; exact a2; omega
                        refine mp_iload X 90 d_R_formatOf_88 rfl rfl ?_
                        refine mp_if_lt X 110 93 d_R_formatOf_90 (by decide) rfl (fun q11 => ?_) (fun q11 => ?_)
                        · refine mp_iload X 112 d_R_formatOf_110 rfl rfl ?_
                          refine mp_goto X 117 d_R_formatOf_112 (by decide) ?_
                          refine mp_istore X 119 (L' := [.val (.ref (G.1 + 26)), .val (.int (nI j)), .val (.int (nI lt)), .val (.int (nI ((rm_sm S.2.1 (rm_F S j) lt (pq_mk S.2.1 (S.2.2.1 j) (S.2.2.2 j)) kind)))), .val (.int (nI kind)), .val (.int (nI k)), .val (.int (nI k)), .val (.int (nI 1))]) d_R_formatOf_117 rfl rfl rfl rfl ?_
                          refine mp_iinc X 122 (L' := [.val (.ref (G.1 + 26)), .val (.int (nI j)), .val (.int (nI lt)), .val (.int (nI ((rm_sm S.2.1 (rm_F S j) lt (pq_mk S.2.1 (S.2.2.1 j) (S.2.2.2 j)) kind)))), .val (.int (nI kind)), .val (.int (nI k)), .val (.int (nI (k + 1))), .val (.int (nI 1))]) (v := nI (k + 1)) d_R_formatOf_119 rfl rfl (nI_1 _) rfl ?_
                          refine mp_goto X 17 d_R_formatOf_122 (by decide) ?_
                          have hct : rm_cm S j lt kind k = true := by unfold rm_cm; rw [hkw, hcv, q4, q7]; simp
                          exact ihm (k + 1) (some k) _ rfl (by omega) (by rw [pq_best_new hct hr.symm])
                        · exact absurd (by decide) q11
          | some b0 =>
            obtain ⟨hb0, -, -⟩ := (pq_best_spec (pq_id S.2.1) (rm_cm S j lt kind) k).1 b0 hr.symm
            have hidb := pq_id_lt hw hM (show b0 < S.1 by omega)
            have tb := (s2 b0 (by omega)).2.1
            refine mp_eq rfl (L2 := [.val (.ref (G.1 + 26)), .val (.int (nI j)), .val (.int (nI lt)), .val (.int (nI ((rm_sm S.2.1 (rm_F S j) lt (pq_mk S.2.1 (S.2.2.1 j) (S.2.2.2 j)) kind)))), .val (.int (nI kind)), .val (.int (nI b0)), .val (.int (nI k)), z]) rfl rfl ?_
            refine mp_iload X 19 d_R_formatOf_17 rfl rfl ?_
            refine mp_aload_n X 20 d_R_formatOf_19 rfl rfl rfl ?_
            refine mp_getf (v := .int (nI (S.1))) X 23 lk_R_55_R d_R_formatOf_20 rfl (hK.sz (by decide)) hK.ob s1 ?_
            refine mp_Nge X 125 26 d_R_formatOf_23 (by decide) rfl (by omega) (by omega) (fun q1 => ?_) (fun q1 => ?_)
            · omega
            · obtain ⟨kb, kb1, hkb⟩ : ∃ kb : Nat, (kb = 1 ∧ pq_kw (S.2.2.1 j) (S.2.2.2 j) k = true ∨ kb = 0 ∧ pq_kw (S.2.2.1 j) (S.2.2.2 j) k = false) ∧ h.2.1 34 (90 * j + k) = .int (nI kb) := by
                cases hkw : pq_kw (S.2.2.1 j) (S.2.2.2 j) k with
                | true => rw [hkw] at s_kb; exact ⟨1, Or.inl ⟨rfl, rfl⟩, s_kb⟩
                | false => rw [hkw] at s_kb; exact ⟨0, Or.inr ⟨rfl, rfl⟩, s_kb⟩
              have kbb : kb < 2 := by omega
              refine mp_aload_n X 27 d_R_formatOf_26 rfl rfl rfl ?_
              refine mp_getf (v := .ref (G.1 + 34)) X 30 lk_R_32_R d_R_formatOf_27 rfl (hK.sz (by decide)) hK.ob hK.r_knows ?_
              refine mp_bipush X 32 (v := nI 90) d_R_formatOf_30 rfl (by decide) ?_
              refine mp_iload_n X 33 d_R_formatOf_32 rfl rfl rfl ?_
              refine mp_imul X 34 d_R_formatOf_33 rfl ?_
              rw [pk_mul]
              refine mp_iload X 36 d_R_formatOf_34 rfl rfl ?_
              refine mp_iadd X 37 d_R_formatOf_36 rfl ?_
              rw [nI_add]
              refine mp_zald (v := .int (nI kb)) X 38 (90 * j + k) d_R_formatOf_37 rfl (hK.sz (by decide)) hK.k_knows rfl (by omega) (by decide) hkb ?_
              refine mp_Zeq X 70 41 d_R_formatOf_38 (by decide) rfl (by omega) (fun q2 => ?_) (fun q2 => ?_)
              · have hkw : pq_kw (S.2.2.1 j) (S.2.2.2 j) k = false := by rcases kb1 with ⟨h1, h2⟩ | ⟨h1, h2⟩; omega; exact h2
                refine mp_iconst X 71 (v := nI 0) d_R_formatOf_70 rfl (by decide) ?_
                refine mp_istore X 73 (L' := [.val (.ref (G.1 + 26)), .val (.int (nI j)), .val (.int (nI lt)), .val (.int (nI ((rm_sm S.2.1 (rm_F S j) lt (pq_mk S.2.1 (S.2.2.1 j) (S.2.2.2 j)) kind)))), .val (.int (nI kind)), .val (.int (nI b0)), .val (.int (nI k)), .val (.int (nI 0))]) d_R_formatOf_71 rfl rfl hz rfl ?_
                refine mp_iload X 75 d_R_formatOf_73 rfl rfl ?_
                refine mp_Zeq X 115 78 d_R_formatOf_75 (by decide) rfl (by omega) (fun q3 => ?_) (fun q3 => ?_)
                · refine mp_iload X 117 d_R_formatOf_115 rfl rfl ?_
                  refine mp_istore X 119 (L' := [.val (.ref (G.1 + 26)), .val (.int (nI j)), .val (.int (nI lt)), .val (.int (nI ((rm_sm S.2.1 (rm_F S j) lt (pq_mk S.2.1 (S.2.2.1 j) (S.2.2.2 j)) kind)))), .val (.int (nI kind)), .val (.int (nI b0)), .val (.int (nI k)), .val (.int (nI 0))]) d_R_formatOf_117 rfl rfl rfl rfl ?_
                  refine mp_iinc X 122 (L' := [.val (.ref (G.1 + 26)), .val (.int (nI j)), .val (.int (nI lt)), .val (.int (nI ((rm_sm S.2.1 (rm_F S j) lt (pq_mk S.2.1 (S.2.2.1 j) (S.2.2.2 j)) kind)))), .val (.int (nI kind)), .val (.int (nI b0)), .val (.int (nI (k + 1))), .val (.int (nI 0))]) (v := nI (k + 1)) d_R_formatOf_119 rfl rfl (nI_1 _) rfl ?_
                  refine mp_goto X 17 d_R_formatOf_122 (by decide) ?_
                  exact ihm (k + 1) (some b0) _ rfl (by omega) (by rw [pq_best_keep (show rm_cm S j lt kind k = false by unfold rm_cm; rw [hkw]; rfl), ← hr])
                · exact absurd rfl q3
              · have hkw : pq_kw (S.2.2.1 j) (S.2.2.2 j) k = true := by rcases kb1 with ⟨h1, h2⟩ | ⟨h1, h2⟩; exact h2; omega
                refine mp_aload_n X 42 d_R_formatOf_41 rfl rfl rfl ?_
                refine mp_getf (v := .ref (G.1 + 27)) X 45 lk_R_7_R d_R_formatOf_42 rfl (hK.sz (by decide)) hK.ob hK.r_sort ?_
                refine mp_iload X 47 d_R_formatOf_45 rfl rfl ?_
                refine mp_iald (v := .int (nI ((pq_so S.2.1 k)))) X 48 (k) d_R_formatOf_47 rfl (hK.sz (by decide)) hK.k_sort rfl (by omega) (by decide) t1 ?_
                refine mp_iconst X 49 (v := nI 2) d_R_formatOf_48 rfl (by decide) ?_
                refine mp_Nne X 70 52 d_R_formatOf_49 (by decide) rfl (by omega) (by omega) (fun q4 => ?_) (fun q4 => ?_)
                · refine mp_iconst X 71 (v := nI 0) d_R_formatOf_70 rfl (by decide) ?_
                  refine mp_istore X 73 (L' := [.val (.ref (G.1 + 26)), .val (.int (nI j)), .val (.int (nI lt)), .val (.int (nI ((rm_sm S.2.1 (rm_F S j) lt (pq_mk S.2.1 (S.2.2.1 j) (S.2.2.2 j)) kind)))), .val (.int (nI kind)), .val (.int (nI b0)), .val (.int (nI k)), .val (.int (nI 0))]) d_R_formatOf_71 rfl rfl hz rfl ?_
                  refine mp_iload X 75 d_R_formatOf_73 rfl rfl ?_
                  refine mp_Zeq X 115 78 d_R_formatOf_75 (by decide) rfl (by omega) (fun q5 => ?_) (fun q5 => ?_)
                  · refine mp_iload X 117 d_R_formatOf_115 rfl rfl ?_
                    refine mp_istore X 119 (L' := [.val (.ref (G.1 + 26)), .val (.int (nI j)), .val (.int (nI lt)), .val (.int (nI ((rm_sm S.2.1 (rm_F S j) lt (pq_mk S.2.1 (S.2.2.1 j) (S.2.2.2 j)) kind)))), .val (.int (nI kind)), .val (.int (nI b0)), .val (.int (nI k)), .val (.int (nI 0))]) d_R_formatOf_117 rfl rfl rfl rfl ?_
                    refine mp_iinc X 122 (L' := [.val (.ref (G.1 + 26)), .val (.int (nI j)), .val (.int (nI lt)), .val (.int (nI ((rm_sm S.2.1 (rm_F S j) lt (pq_mk S.2.1 (S.2.2.1 j) (S.2.2.2 j)) kind)))), .val (.int (nI kind)), .val (.int (nI b0)), .val (.int (nI (k + 1))), .val (.int (nI 0))]) (v := nI (k + 1)) d_R_formatOf_119 rfl rfl (nI_1 _) rfl ?_
                    refine mp_goto X 17 d_R_formatOf_122 (by decide) ?_
                    exact ihm (k + 1) (some b0) _ rfl (by omega) (by rw [pq_best_keep (show rm_cm S j lt kind k = false by unfold rm_cm; simp [q4]), ← hr])
                  · exact absurd rfl q5
                · refine mp_aload_n X 53 d_R_formatOf_52 rfl rfl rfl ?_
                  refine mp_getf (v := .ref (G.1 + 31)) X 56 lk_R_22_R d_R_formatOf_53 rfl (hK.sz (by decide)) hK.ob hK.r_what ?_
                  refine mp_iload X 58 d_R_formatOf_56 rfl rfl ?_
                  refine mp_iald (v := .int (nI ((pq_wh S.2.1 k)))) X 59 (k) d_R_formatOf_58 rfl (hK.sz (by decide)) hK.k_what rfl (by omega) (by decide) t5 ?_
                  refine mp_iconst X 60 (v := nI 2) d_R_formatOf_59 rfl (by decide) ?_
                  refine mp_idiv X 61 d_R_formatOf_60 rfl (by decide) ?_
                  have e6 : (nI ((pq_wh S.2.1 k))) / nI 2 = nI ((pq_wh S.2.1 k) / 2) := pk_div (by omega) (by decide) (by decide)
                  rw [e6]
                  refine mp_iload X 63 d_R_formatOf_61 rfl rfl ?_
                  refine mp_Nne X 70 66 d_R_formatOf_63 (by decide) rfl (by omega) (by omega) (fun q7 => ?_) (fun q7 => ?_)
                  · refine mp_iconst X 71 (v := nI 0) d_R_formatOf_70 rfl (by decide) ?_
                    refine mp_istore X 73 (L' := [.val (.ref (G.1 + 26)), .val (.int (nI j)), .val (.int (nI lt)), .val (.int (nI ((rm_sm S.2.1 (rm_F S j) lt (pq_mk S.2.1 (S.2.2.1 j) (S.2.2.2 j)) kind)))), .val (.int (nI kind)), .val (.int (nI b0)), .val (.int (nI k)), .val (.int (nI 0))]) d_R_formatOf_71 rfl rfl hz rfl ?_
                    refine mp_iload X 75 d_R_formatOf_73 rfl rfl ?_
                    refine mp_Zeq X 115 78 d_R_formatOf_75 (by decide) rfl (by omega) (fun q8 => ?_) (fun q8 => ?_)
                    · refine mp_iload X 117 d_R_formatOf_115 rfl rfl ?_
                      refine mp_istore X 119 (L' := [.val (.ref (G.1 + 26)), .val (.int (nI j)), .val (.int (nI lt)), .val (.int (nI ((rm_sm S.2.1 (rm_F S j) lt (pq_mk S.2.1 (S.2.2.1 j) (S.2.2.2 j)) kind)))), .val (.int (nI kind)), .val (.int (nI b0)), .val (.int (nI k)), .val (.int (nI 0))]) d_R_formatOf_117 rfl rfl rfl rfl ?_
                      refine mp_iinc X 122 (L' := [.val (.ref (G.1 + 26)), .val (.int (nI j)), .val (.int (nI lt)), .val (.int (nI ((rm_sm S.2.1 (rm_F S j) lt (pq_mk S.2.1 (S.2.2.1 j) (S.2.2.2 j)) kind)))), .val (.int (nI kind)), .val (.int (nI b0)), .val (.int (nI (k + 1))), .val (.int (nI 0))]) (v := nI (k + 1)) d_R_formatOf_119 rfl rfl (nI_1 _) rfl ?_
                      refine mp_goto X 17 d_R_formatOf_122 (by decide) ?_
                      exact ihm (k + 1) (some b0) _ rfl (by omega) (by rw [pq_best_keep (show rm_cm S j lt kind k = false by unfold rm_cm; simp [q7]), ← hr])
                    · exact absurd rfl q8
                  · refine mp_iconst X 67 (v := nI 1) d_R_formatOf_66 rfl (by decide) ?_
                    refine mp_goto X 71 d_R_formatOf_67 (by decide) ?_
                    refine mp_istore X 73 (L' := [.val (.ref (G.1 + 26)), .val (.int (nI j)), .val (.int (nI lt)), .val (.int (nI ((rm_sm S.2.1 (rm_F S j) lt (pq_mk S.2.1 (S.2.2.1 j) (S.2.2.2 j)) kind)))), .val (.int (nI kind)), .val (.int (nI b0)), .val (.int (nI k)), .val (.int (nI 1))]) d_R_formatOf_71 rfl rfl hz rfl ?_
                    refine mp_iload X 75 d_R_formatOf_73 rfl rfl ?_
                    refine mp_Zeq X 115 78 d_R_formatOf_75 (by decide) rfl (by omega) (fun q9 => ?_) (fun q9 => ?_)
                    · exact absurd q9 (by decide)
                    · refine mp_aload_n X 79 d_R_formatOf_78 rfl rfl rfl ?_
                      refine mp_iload X 81 d_R_formatOf_79 rfl rfl ?_
                      refine mp_iload_n X 82 d_R_formatOf_81 rfl rfl rfl ?_
                      obtain ⟨cb, cb1, hcb⟩ : ∃ cb : Nat, (cb = 1 ∧ pq_cv S.2.1 (rm_F S j) k lt = true ∨ cb = 0 ∧ pq_cv S.2.1 (rm_F S j) k lt = false) ∧ rm_b (pq_cv S.2.1 (rm_F S j) k lt) = nI cb := by
                        cases hcv : pq_cv S.2.1 (rm_F S j) k lt with
                        | true => exact ⟨1, Or.inl ⟨rfl, rfl⟩, rfl⟩
                        | false => exact ⟨0, Or.inr ⟨rfl, rfl⟩, rfl⟩
                      refine mp_callE X mp_Ts_ok 85 (rest := []) (st2 := [.int (nI cb)]) (k_R_covers (mm := k) (lt := lt) _ hK hS hV hok hj hkM hkw q4 hlt) Y_R_covers in_R (mp_IV X (q := (nR_R, nT_R, 17)) d_R_formatOf_82 Y_R_covers ml_R_72 im_R_covers se_R_covers (by decide) rfl (by decide) (by show _ = some 2; decide) (hK.sz (by decide)) hK.ob) rfl (by decide) (by decide) (by decide) (by decide) rfl (by decide) (by rw [hcb]; rfl) ?_
                      refine mp_Zeq X 115 88 d_R_formatOf_85 (by decide) rfl (by omega) (fun q10 => ?_) (fun q10 => ?_)
                      · have hcv : pq_cv S.2.1 (rm_F S j) k lt = false := by rcases cb1 with ⟨a1, a2⟩ | ⟨a1, a2⟩; omega; exact a2
                        refine mp_iload X 117 d_R_formatOf_115 rfl rfl ?_
                        refine mp_istore X 119 (L' := [.val (.ref (G.1 + 26)), .val (.int (nI j)), .val (.int (nI lt)), .val (.int (nI ((rm_sm S.2.1 (rm_F S j) lt (pq_mk S.2.1 (S.2.2.1 j) (S.2.2.2 j)) kind)))), .val (.int (nI kind)), .val (.int (nI b0)), .val (.int (nI k)), .val (.int (nI 1))]) d_R_formatOf_117 rfl rfl rfl rfl ?_
                        refine mp_iinc X 122 (L' := [.val (.ref (G.1 + 26)), .val (.int (nI j)), .val (.int (nI lt)), .val (.int (nI ((rm_sm S.2.1 (rm_F S j) lt (pq_mk S.2.1 (S.2.2.1 j) (S.2.2.2 j)) kind)))), .val (.int (nI kind)), .val (.int (nI b0)), .val (.int (nI (k + 1))), .val (.int (nI 1))]) (v := nI (k + 1)) d_R_formatOf_119 rfl rfl (nI_1 _) rfl ?_
                        refine mp_goto X 17 d_R_formatOf_122 (by decide) ?_
                        exact ihm (k + 1) (some b0) _ rfl (by omega) (by rw [pq_best_keep (show rm_cm S j lt kind k = false by unfold rm_cm; rw [hcv]; simp), ← hr])
                      · have hcv : pq_cv S.2.1 (rm_F S j) k lt = true := by rcases cb1 with ⟨a1, a2⟩ | ⟨a1, a2⟩; exact a2; omega
                        refine mp_iload X 90 d_R_formatOf_88 rfl rfl ?_
                        refine mp_Zlt X 110 93 d_R_formatOf_90 (by decide) rfl (by omega) (fun q11 => ?_) (fun q11 => ?_)
                        · exact q11.elim
                        · refine mp_aload_n X 94 d_R_formatOf_93 rfl rfl rfl ?_
                          refine mp_getf (v := .ref (G.1 + 28)) X 97 lk_R_13_R d_R_formatOf_94 rfl (hK.sz (by decide)) hK.ob hK.r_ids ?_
                          refine mp_iload X 99 d_R_formatOf_97 rfl rfl ?_
                          refine mp_iald (v := .int (nI ((pq_id S.2.1 k)))) X 100 (k) d_R_formatOf_99 rfl (hK.sz (by decide)) hK.k_ids rfl (by omega) (by decide) t2 ?_
                          refine mp_aload_n X 101 d_R_formatOf_100 rfl rfl rfl ?_
                          refine mp_getf (v := .ref (G.1 + 28)) X 104 lk_R_13_R d_R_formatOf_101 rfl (hK.sz (by decide)) hK.ob hK.r_ids ?_
                          refine mp_iload X 106 d_R_formatOf_104 rfl rfl ?_
                          refine mp_iald (v := .int (nI ((pq_id S.2.1 b0)))) X 107 (b0) d_R_formatOf_106 rfl (hK.sz (by decide)) hK.k_ids rfl (by omega) (by decide) tb ?_
                          refine mp_Nle X 115 110 d_R_formatOf_107 (by decide) rfl (by omega) (by omega) (fun q12 => ?_) (fun q12 => ?_)
                          · refine mp_iload X 117 d_R_formatOf_115 rfl rfl ?_
                            refine mp_istore X 119 (L' := [.val (.ref (G.1 + 26)), .val (.int (nI j)), .val (.int (nI lt)), .val (.int (nI ((rm_sm S.2.1 (rm_F S j) lt (pq_mk S.2.1 (S.2.2.1 j) (S.2.2.2 j)) kind)))), .val (.int (nI kind)), .val (.int (nI b0)), .val (.int (nI k)), .val (.int (nI 1))]) d_R_formatOf_117 rfl rfl rfl rfl ?_
                            refine mp_iinc X 122 (L' := [.val (.ref (G.1 + 26)), .val (.int (nI j)), .val (.int (nI lt)), .val (.int (nI ((rm_sm S.2.1 (rm_F S j) lt (pq_mk S.2.1 (S.2.2.1 j) (S.2.2.2 j)) kind)))), .val (.int (nI kind)), .val (.int (nI b0)), .val (.int (nI (k + 1))), .val (.int (nI 1))]) (v := nI (k + 1)) d_R_formatOf_119 rfl rfl (nI_1 _) rfl ?_
                            refine mp_goto X 17 d_R_formatOf_122 (by decide) ?_
                            have hct : rm_cm S j lt kind k = true := by unfold rm_cm; rw [hkw, hcv, q4, q7]; simp
                            exact ihm (k + 1) (some b0) _ rfl (by omega) (by rw [pq_best_no hr.symm q12])
                          · refine mp_iload X 112 d_R_formatOf_110 rfl rfl ?_
                            refine mp_goto X 117 d_R_formatOf_112 (by decide) ?_
                            refine mp_istore X 119 (L' := [.val (.ref (G.1 + 26)), .val (.int (nI j)), .val (.int (nI lt)), .val (.int (nI ((rm_sm S.2.1 (rm_F S j) lt (pq_mk S.2.1 (S.2.2.1 j) (S.2.2.2 j)) kind)))), .val (.int (nI kind)), .val (.int (nI k)), .val (.int (nI k)), .val (.int (nI 1))]) d_R_formatOf_117 rfl rfl rfl rfl ?_
                            refine mp_iinc X 122 (L' := [.val (.ref (G.1 + 26)), .val (.int (nI j)), .val (.int (nI lt)), .val (.int (nI ((rm_sm S.2.1 (rm_F S j) lt (pq_mk S.2.1 (S.2.2.1 j) (S.2.2.2 j)) kind)))), .val (.int (nI kind)), .val (.int (nI k)), .val (.int (nI (k + 1))), .val (.int (nI 1))]) (v := nI (k + 1)) d_R_formatOf_119 rfl rfl (nI_1 _) rfl ?_
                            refine mp_goto X 17 d_R_formatOf_122 (by decide) ?_
                            have hct : rm_cm S j lt kind k = true := by unfold rm_cm; rw [hkw, hcv, q4, q7]; simp
                            exact ihm (k + 1) (some k) _ rfl (by omega) (by rw [pq_best_up hct hr.symm q12])
      refine mp_iload X 7 d_R_formatOf_5 rfl rfl ?_
      refine mp_iconst X 8 (v := nI 4) d_R_formatOf_7 rfl (by decide) ?_
      refine mp_Nge X 160 11 d_R_formatOf_8 (by decide) rfl (by omega) (by omega) (fun q1 => ?_) (fun q1 => ?_)
      · omega
      · refine mp_iconst X 12 (v := -1) d_R_formatOf_11 rfl (by decide) ?_
        refine mp_istore X 14 (L' := [.val (.ref (G.1 + 26)), .val (.int (nI j)), .val (.int (nI lt)), .val (.int (nI ((rm_sm S.2.1 (rm_F S j) lt (pq_mk S.2.1 (S.2.2.1 j) (S.2.2.2 j)) kind)))), .val (.int (nI kind)), .val (.int (-1)), z6, z7]) d_R_formatOf_12 rfl rfl hz5 rfl ?_
        refine mp_iconst X 15 (v := nI 0) d_R_formatOf_14 rfl (by decide) ?_
        refine mp_istore X 17 (L' := [.val (.ref (G.1 + 26)), .val (.int (nI j)), .val (.int (nI lt)), .val (.int (nI ((rm_sm S.2.1 (rm_F S j) lt (pq_mk S.2.1 (S.2.2.1 j) (S.2.2.2 j)) kind)))), .val (.int (nI kind)), .val (.int (-1)), .val (.int (nI 0)), z7]) d_R_formatOf_15 rfl rfl hz6 rfl ?_
        exact hin S.1 0 none z7 hz7 (by omega) rfl
  refine mp_eq rfl (L2 := [.val (.ref (G.1 + 26)), .val (.int (nI j)), .val (.int (nI lt)), .unset, .unset, .unset, .unset, .unset]) rfl rfl ?_
  refine mp_iconst X 1 (v := nI 0) d_R_formatOf_0 rfl (by decide) ?_
  refine mp_istore_n X 2 (L' := [.val (.ref (G.1 + 26)), .val (.int (nI j)), .val (.int (nI lt)), .val (.int (nI 0)), .unset, .unset, .unset, .unset]) d_R_formatOf_1 rfl rfl rfl rfl rfl ?_
  refine mp_iconst X 3 (v := nI 0) d_R_formatOf_2 rfl (by decide) ?_
  refine mp_istore X 5 (L' := [.val (.ref (G.1 + 26)), .val (.int (nI j)), .val (.int (nI lt)), .val (.int (nI 0)), .val (.int (nI 0)), .unset, .unset, .unset]) d_R_formatOf_3 rfl rfl rfl rfl ?_
  exact hout 4 0 .unset .unset .unset rfl rfl rfl (by omega)
