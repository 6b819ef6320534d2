/-! The reference: greatest, learn, make (rows laid by program). -/
theorem rm_tm {M : Nat} {O : pq_O} (hw : pq_wf M O) {k : Nat} (hk : k < M) : pq_id O k / 4 = pq_tm O k := by
  have := hw.2.2.2.1 k hk
  unfold pq_id
  omega
theorem rm_gm_bd {M : Nat} {O : pq_O} {kn : Nat → Nat} {c : Nat} (hw : pq_wf M O) (hM : M ≤ 90) (hk : ∀ i, i < c → kn i < M) (n : Nat) : rm_gm O kn c n ≤ 90 := by
  refine Nat.le_trans (rm_gm_le O kn c n) (pq_mx_le c fun i hi => ?_)
  have := hw.2.2.2.1 (kn i) (hk i hi)
  have := hk i hi
  omega
set_option maxRecDepth 100000 in
set_option maxHeartbeats 4000000 in
theorem k_R_greatest (l : Launch) {G : mp_G} {h : mp_H} {S : pq_S} {j : Nat} (hK : rm_K G h) (hS : rm_S h S) (hok : pq_ok S) (hj : j < 3) :
    mp_M G mp_Ts l y_R_greatest 0 0 0 [.ref (G.1 + 26), .int (nI j)] h (fun v h' => h' = h ∧ v = some (.int (nI (pq_mx S.2.1 (S.2.2.1 j) (S.2.2.2 j))))) (fun _ _ => False) := by
  have hM : S.1 ≤ 90 := hok.1
  have hw := hok.2.1
  have s1 := hS.1
  have s2 := hS.2.1
  obtain ⟨-, -, s6⟩ := hS.2.2 j hj
  refine mp_enter (by decide) Y_R_greatest fun E hl X => ?_
  have hloop : ∀ (n k : Nat), k + n = S.1 → mp_W G E h 0 0 (mp_Q G E 0 0 (fun v h' => h' = h ∧ v = some (.int (nI (pq_mx S.2.1 (S.2.2.1 j) (S.2.2.2 j))))) (fun _ _ => False)) 4 [.val (.ref (G.1 + 26)), .val (.int (nI j)), .val (.int (nI (rm_gm S.2.1 (S.2.2.1 j) (S.2.2.2 j) k))), .val (.int (nI k))] [] := by
    intro n
    induction n with
    | zero =>
      intro k hkn
      have hk : k = S.1 := by omega
      subst hk
      refine mp_iload_n X 5 d_R_greatest_4 rfl rfl rfl ?_
      refine mp_aload_n X 6 d_R_greatest_5 rfl rfl rfl ?_
      refine mp_getf (v := .int (nI (S.1))) X 9 lk_R_55_R d_R_greatest_6 rfl (hK.sz (by decide)) hK.ob s1 ?_
      refine mp_Nge X 57 12 d_R_greatest_9 (by decide) rfl (by omega) (by omega) (fun q1 => ?_) (fun q1 => ?_)
      · refine mp_iload_n X 58 d_R_greatest_57 rfl rfl rfl ?_
        exact mp_iret X d_R_greatest_58 rfl rfl (by decide) (by decide) ⟨rfl, by rw [rm_gm_eq (hok.2.2.1 j hj).1]⟩
      · omega
    | succ n ih =>
      intro k hkn
      have hkM : k < S.1 := by omega
      obtain ⟨t1, t2, t3, t4, t5, t6⟩ := s2 k hkM
      have hidk := pq_id_lt hw hM hkM
      have htm := rm_tm hw hkM
      have hgb := rm_gm_bd hw hM (hok.2.2.1 j hj).1 k
      have htk := (hw.2.2.2.1 k hkM).2.1
      have s_kb := s6 k (by omega)
      refine mp_iload_n X 5 d_R_greatest_4 rfl rfl rfl ?_
      refine mp_aload_n X 6 d_R_greatest_5 rfl rfl rfl ?_
      refine mp_getf (v := .int (nI (S.1))) X 9 lk_R_55_R d_R_greatest_6 rfl (hK.sz (by decide)) hK.ob s1 ?_
      refine mp_Nge X 57 12 d_R_greatest_9 (by decide) rfl (by omega) (by omega) (fun q1 => ?_) (fun q1 => ?_)
      · omega
      · obtain ⟨kb, kb1, hkb⟩ : ∃ kb : Nat, (kb = 1 ∧ pq_kw (S.2.2.1 j) (S.2.2.2 j) k = true ∨ kb = 0 ∧ pq_kw (S.2.2.1 j) (S.2.2.2 j) k = false) ∧ h.2.1 34 (90 * j + k) = .int (nI kb) := by
          cases hkw : pq_kw (S.2.2.1 j) (S.2.2.2 j) k with
          | true => rw [hkw] at s_kb; exact ⟨1, Or.inl ⟨rfl, rfl⟩, s_kb⟩
          | false => rw [hkw] at s_kb; exact ⟨0, Or.inr ⟨rfl, rfl⟩, s_kb⟩
        have kbb : kb < 2 := by omega
        refine mp_aload_n X 13 d_R_greatest_12 rfl rfl rfl ?_
        refine mp_getf (v := .ref (G.1 + 34)) X 16 lk_R_32_R d_R_greatest_13 rfl (hK.sz (by decide)) hK.ob hK.r_knows ?_
        refine mp_bipush X 18 (v := nI 90) d_R_greatest_16 rfl (by decide) ?_
        refine mp_iload_n X 19 d_R_greatest_18 rfl rfl rfl ?_
        refine mp_imul X 20 d_R_greatest_19 rfl ?_
        rw [pk_mul]
        refine mp_iload_n X 21 d_R_greatest_20 rfl rfl rfl ?_
        refine mp_iadd X 22 d_R_greatest_21 rfl ?_
        rw [nI_add]
        refine mp_zald (v := .int (nI kb)) X 23 (90 * j + k) d_R_greatest_22 rfl (hK.sz (by decide)) hK.k_knows rfl (by omega) (by decide) hkb ?_
        refine mp_Zeq X 49 26 d_R_greatest_23 (by decide) rfl (by omega) (fun q2 => ?_) (fun q2 => ?_)
        · have hkw : pq_kw (S.2.2.1 j) (S.2.2.2 j) k = false := by rcases kb1 with ⟨h1, h2⟩ | ⟨h1, h2⟩; omega; exact h2
          refine mp_iload_n X 50 d_R_greatest_49 rfl rfl rfl ?_
          refine mp_istore_n X 51 (L' := [.val (.ref (G.1 + 26)), .val (.int (nI j)), .val (.int (nI ((rm_gm S.2.1 (S.2.2.1 j) (S.2.2.2 j) k)))), .val (.int (nI k))]) d_R_greatest_50 rfl rfl rfl rfl rfl ?_
          refine mp_iinc X 54 (L' := [.val (.ref (G.1 + 26)), .val (.int (nI j)), .val (.int (nI ((rm_gm S.2.1 (S.2.2.1 j) (S.2.2.2 j) k)))), .val (.int (nI (k + 1)))]) (v := nI (k + 1)) d_R_greatest_51 rfl rfl (nI_1 _) rfl ?_
          refine mp_goto X 4 d_R_greatest_54 (by decide) ?_
          have eg : (rm_gm S.2.1 (S.2.2.1 j) (S.2.2.2 j) (k + 1)) = (rm_gm S.2.1 (S.2.2.1 j) (S.2.2.2 j) k) := by
            show (if _ then _ else _) = _
            rw [if_neg (fun z => by rw [hkw] at z; cases z.1)]
          have hg := ih (k + 1) (by omega)
          rw [eg] at hg
          exact hg
        · have hkw : pq_kw (S.2.2.1 j) (S.2.2.2 j) k = true := by rcases kb1 with ⟨h1, h2⟩ | ⟨h1, h2⟩; exact h2; omega
          refine mp_aload_n X 27 d_R_greatest_26 rfl rfl rfl ?_
          refine mp_getf (v := .ref (G.1 + 28)) X 30 lk_R_13_R d_R_greatest_27 rfl (hK.sz (by decide)) hK.ob hK.r_ids ?_
          refine mp_iload_n X 31 d_R_greatest_30 rfl rfl rfl ?_
          refine mp_iald (v := .int (nI ((pq_id S.2.1 k)))) X 32 (k) d_R_greatest_31 rfl (hK.sz (by decide)) hK.k_ids rfl (by omega) (by decide) t2 ?_
          refine mp_iconst X 33 (v := nI 4) d_R_greatest_32 rfl (by decide) ?_
          refine mp_idiv X 34 d_R_greatest_33 rfl (by decide) ?_
          have e3 : (nI ((pq_id S.2.1 k))) / nI 4 = nI (pq_tm S.2.1 k) := by rw [pk_div (by omega) (by decide) (by decide), htm]
          rw [e3]
          refine mp_iload_n X 35 d_R_greatest_34 rfl rfl rfl ?_
          refine mp_Nle X 49 38 d_R_greatest_35 (by decide) rfl (by omega) (by omega) (fun q4 => ?_) (fun q4 => ?_)
          · refine mp_iload_n X 50 d_R_greatest_49 rfl rfl rfl ?_
            refine mp_istore_n X 51 (L' := [.val (.ref (G.1 + 26)), .val (.int (nI j)), .val (.int (nI ((rm_gm S.2.1 (S.2.2.1 j) (S.2.2.2 j) k)))), .val (.int (nI k))]) d_R_greatest_50 rfl rfl rfl rfl rfl ?_
            refine mp_iinc X 54 (L' := [.val (.ref (G.1 + 26)), .val (.int (nI j)), .val (.int (nI ((rm_gm S.2.1 (S.2.2.1 j) (S.2.2.2 j) k)))), .val (.int (nI (k + 1)))]) (v := nI (k + 1)) d_R_greatest_51 rfl rfl (nI_1 _) rfl ?_
            refine mp_goto X 4 d_R_greatest_54 (by decide) ?_
            have eg : (rm_gm S.2.1 (S.2.2.1 j) (S.2.2.2 j) (k + 1)) = (rm_gm S.2.1 (S.2.2.1 j) (S.2.2.2 j) k) := by
              show (if _ then _ else _) = _
              rw [if_neg (fun z => by have := z.2; omega)]
            have hg := ih (k + 1) (by omega)
            rw [eg] at hg
            exact hg
          · refine mp_aload_n X 39 d_R_greatest_38 rfl rfl rfl ?_
            refine mp_getf (v := .ref (G.1 + 28)) X 42 lk_R_13_R d_R_greatest_39 rfl (hK.sz (by decide)) hK.ob hK.r_ids ?_
            refine mp_iload_n X 43 d_R_greatest_42 rfl rfl rfl ?_
            refine mp_iald (v := .int (nI ((pq_id S.2.1 k)))) X 44 (k) d_R_greatest_43 rfl (hK.sz (by decide)) hK.k_ids rfl (by omega) (by decide) t2 ?_
            refine mp_iconst X 45 (v := nI 4) d_R_greatest_44 rfl (by decide) ?_
            refine mp_idiv X 46 d_R_greatest_45 rfl (by decide) ?_
            have e5 : (nI ((pq_id S.2.1 k))) / nI 4 = nI (pq_tm S.2.1 k) := by rw [pk_div (by omega) (by decide) (by decide), htm]
            rw [e5]
            refine mp_goto X 50 d_R_greatest_46 (by decide) ?_
            refine mp_istore_n X 51 (L' := [.val (.ref (G.1 + 26)), .val (.int (nI j)), .val (.int (nI (pq_tm S.2.1 k))), .val (.int (nI k))]) d_R_greatest_50 rfl rfl rfl rfl rfl ?_
            refine mp_iinc X 54 (L' := [.val (.ref (G.1 + 26)), .val (.int (nI j)), .val (.int (nI (pq_tm S.2.1 k))), .val (.int (nI (k + 1)))]) (v := nI (k + 1)) d_R_greatest_51 rfl rfl (nI_1 _) rfl ?_
            refine mp_goto X 4 d_R_greatest_54 (by decide) ?_
            have eg : (rm_gm S.2.1 (S.2.2.1 j) (S.2.2.2 j) (k + 1)) = pq_tm S.2.1 k := by
              show (if _ then _ else _) = _
              rw [if_pos ⟨hkw, q4⟩]
            have hg := ih (k + 1) (by omega)
            rw [eg] at hg
            exact hg
  refine mp_eq rfl (L2 := [.val (.ref (G.1 + 26)), .val (.int (nI j)), .unset, .unset]) rfl rfl ?_
  refine mp_iconst X 1 (v := nI 0) d_R_greatest_0 rfl (by decide) ?_
  refine mp_istore_n X 2 (L' := [.val (.ref (G.1 + 26)), .val (.int (nI j)), .val (.int (nI 0)), .unset]) d_R_greatest_1 rfl rfl rfl rfl rfl ?_
  refine mp_iconst X 3 (v := nI 0) d_R_greatest_2 rfl (by decide) ?_
  refine mp_istore_n X 4 (L' := [.val (.ref (G.1 + 26)), .val (.int (nI j)), .val (.int (nI 0)), .val (.int (nI 0))]) d_R_greatest_3 rfl rfl rfl rfl rfl ?_
  exact hloop S.1 0 (by omega)
def rm_L (o i : Nat) : Prop := o = 33 ∨ o = 34 ∨ o = 35
set_option maxRecDepth 100000 in
set_option maxHeartbeats 4000000 in
theorem k_R_learn (l : Launch) {G : mp_G} {h : mp_H} {S : pq_S} {j k : Nat} (hK : rm_K G h) (hS : rm_S h S) (hj : j < 3) (hk : k < 90) (hc : S.2.2.2 j < 90) (hc3 : ∀ a, a < 3 → S.2.2.2 a ≤ 90) :
    mp_M G mp_Ts l y_R_learn 0 0 0 [.ref (G.1 + 26), .int (nI j), .int (nI k)] h (fun v h' => v = none ∧ rm_S h' (pq_lrn S j k) ∧ mp_fr rm_L h h') (fun _ _ => False) := by
  have sc := (hS.2.2 j hj).1
  refine mp_enter (by decide) Y_R_learn fun E hl X => ?_
  refine mp_eq rfl (L2 := [.val (.ref (G.1 + 26)), .val (.int (nI j)), .val (.int (nI k))]) rfl rfl ?_
  refine mp_aload_n X 1 d_R_learn_0 rfl rfl rfl ?_
  refine mp_getf (v := .ref (G.1 + 33)) X 4 lk_R_29_R d_R_learn_1 rfl (hK.sz (by decide)) hK.ob hK.r_known ?_
  refine mp_bipush X 6 (v := nI 90) d_R_learn_4 rfl (by decide) ?_
  refine mp_iload_n X 7 d_R_learn_6 rfl rfl rfl ?_
  refine mp_imul X 8 d_R_learn_7 rfl ?_
  rw [pk_mul]
  refine mp_aload_n X 9 d_R_learn_8 rfl rfl rfl ?_
  refine mp_getf (v := .ref (G.1 + 35)) X 12 lk_R_36_R d_R_learn_9 rfl (hK.sz (by decide)) hK.ob hK.r_count ?_
  refine mp_iload_n X 13 d_R_learn_12 rfl rfl rfl ?_
  refine mp_iald (v := .int (nI ((S.2.2.2 j)))) X 14 (j) d_R_learn_13 rfl (hK.sz (by decide)) hK.k_count rfl (by omega) (by decide) sc ?_
  refine mp_iadd X 15 d_R_learn_14 rfl ?_
  rw [nI_add]
  refine mp_iload_n X 16 d_R_learn_15 rfl rfl rfl ?_
  refine mp_iast X 17 (90 * j + S.2.2.2 j) d_R_learn_16 rfl (hK.sz (by decide)) hK.k_known rfl (by omega) (by decide) ?_
  obtain ⟨h2, eh2⟩ : ∃ z, z = mp_set h 33 (90 * j + S.2.2.2 j) (.int (nI k)) := ⟨_, rfl⟩
  rw [← eh2]
  have rh2 : ∀ a b, h2.2.1 a b = if a = 33 ∧ b = 90 * j + S.2.2.2 j then .int (nI k) else h.2.1 a b := by intro a b; rw [eh2]; rfl
  have hK2 : rm_K G h2 := by rw [eh2]; exact hK.st (Or.inl (by decide))
  have hf2 : mp_fr rm_L h h2 := by rw [eh2]; exact mp_fr.rf.set (by unfold rm_L; omega)
  refine mp_aload_n X 18 d_R_learn_17 rfl rfl rfl ?_
  refine mp_getf (v := .ref (G.1 + 35)) X 21 lk_R_36_R d_R_learn_18 rfl (hK2.sz (by decide)) hK2.ob hK2.r_count ?_
  refine mp_iload_n X 22 d_R_learn_21 rfl rfl rfl ?_
  refine mp_dup2 X 23 d_R_learn_22 rfl rfl rfl ?_
  refine mp_iald (v := .int (nI ((S.2.2.2 j)))) X 24 (j) d_R_learn_23 rfl (hK2.sz (by decide)) hK2.k_count rfl (by omega) (by decide) (by rw [rh2, if_neg (by omega)]; exact sc) ?_
  refine mp_iconst X 25 (v := nI 1) d_R_learn_24 rfl (by decide) ?_
  refine mp_iadd X 26 d_R_learn_25 rfl ?_
  rw [nI_add]
  refine mp_iast X 27 (j) d_R_learn_26 rfl (hK2.sz (by decide)) hK2.k_count rfl (by omega) (by decide) ?_
  obtain ⟨h3, eh3⟩ : ∃ z, z = mp_set h2 35 (j) (.int (nI (S.2.2.2 j + 1))) := ⟨_, rfl⟩
  rw [← eh3]
  have rh3 : ∀ a b, h3.2.1 a b = if a = 35 ∧ b = j then .int (nI (S.2.2.2 j + 1)) else h2.2.1 a b := by intro a b; rw [eh3]; rfl
  have hK3 : rm_K G h3 := by rw [eh3]; exact hK2.st (Or.inl (by decide))
  have hf3 : mp_fr rm_L h h3 := by rw [eh3]; exact hf2.set (by unfold rm_L; omega)
  refine mp_aload_n X 28 d_R_learn_27 rfl rfl rfl ?_
  refine mp_getf (v := .ref (G.1 + 34)) X 31 lk_R_32_R d_R_learn_28 rfl (hK3.sz (by decide)) hK3.ob hK3.r_knows ?_
  refine mp_bipush X 33 (v := nI 90) d_R_learn_31 rfl (by decide) ?_
  refine mp_iload_n X 34 d_R_learn_33 rfl rfl rfl ?_
  refine mp_imul X 35 d_R_learn_34 rfl ?_
  rw [pk_mul]
  refine mp_iload_n X 36 d_R_learn_35 rfl rfl rfl ?_
  refine mp_iadd X 37 d_R_learn_36 rfl ?_
  rw [nI_add]
  refine mp_iconst X 38 (v := nI 1) d_R_learn_37 rfl (by decide) ?_
  refine mp_zast X 39 (90 * j + k) d_R_learn_38 rfl (hK3.sz (by decide)) hK3.k_knows rfl (by omega) (by decide) rfl ?_
  obtain ⟨h4, eh4⟩ : ∃ z, z = mp_set h3 34 (90 * j + k) (.int (nI 1)) := ⟨_, rfl⟩
  rw [← eh4]
  have rh4 : ∀ a b, h4.2.1 a b = if a = 34 ∧ b = 90 * j + k then .int (nI 1) else h3.2.1 a b := by intro a b; rw [eh4]; rfl
  have hK4 : rm_K G h4 := by rw [eh4]; exact hK3.st (Or.inl (by decide))
  have hf4 : mp_fr rm_L h h4 := by rw [eh4]; exact hf3.set (by unfold rm_L; omega)
  exact mp_vret X d_R_learn_39 rfl (by decide) (by decide) ⟨rfl, rm_S_lrn hj hk hc hc3 hS (fun a b => by rw [rh4, rh3, rh2]), hf4⟩
def rm_W (o i : Nat) : Prop := (o = 26 ∧ i = 1) ∨ (27 ≤ o ∧ o ≤ 31) ∨ o = 33 ∨ o = 34 ∨ o = 35
set_option maxRecDepth 100000 in
set_option maxHeartbeats 4000000 in
theorem k_R_make (l : Launch) {G : mp_G} {h : mp_H} {S : pq_S} {j so wh : Nat} {fi en : Option Nat} {le : Int32} (hK : rm_K G h) (hS : rm_S h S) (hok : pq_ok S) (hj : j < 3) (hM : S.1 < 90) (hle : so = 0 → h.2.1 32 S.1 = .int le) :
    mp_M G mp_Ts l y_R_make 1 0 0 [.ref (G.1 + 26), .int (nI j), .int (nI so), .int (rm_i fi), .int (rm_i en), .int (nI wh)] h (fun v h' => v = some (.int (nI (1 + pq_mx S.2.1 (S.2.2.1 j) (S.2.2.2 j)))) ∧ rm_S h' (pq_lrn (pq_add S (so, 1 + pq_mx S.2.1 (S.2.2.1 j) (S.2.2.2 j), j, fi, en, wh, le)) j S.1) ∧ mp_fr rm_W h h') (fun _ _ => False) := by
  have hw := hok.2.1
  have s1 := hS.1
  have hcn := pq_kn_le (hok.2.2.1 j hj)
  have hcn3 : ∀ a, a < 3 → S.2.2.2 a ≤ 90 := fun a ha => by have := pq_kn_le (hok.2.2.1 a ha); omega
  refine mp_enter (by decide) Y_R_make fun E hl X => ?_
  refine mp_eq rfl (L2 := [.val (.ref (G.1 + 26)), .val (.int (nI j)), .val (.int (nI so)), .val (.int (rm_i fi)), .val (.int (rm_i en)), .val (.int (nI wh)), .unset]) rfl rfl ?_
  refine mp_iconst X 1 (v := nI 1) d_R_make_0 rfl (by decide) ?_
  refine mp_aload_n X 2 d_R_make_1 rfl rfl rfl ?_
  refine mp_iload_n X 3 d_R_make_2 rfl rfl rfl ?_
  refine mp_callE X mp_Ts_ok 6 (rest := [.int (nI 1)]) (k_R_greatest _ hK hS hok hj) Y_R_greatest in_R (mp_IV X (q := (nR_R, nT_R, 17)) d_R_make_3 Y_R_greatest ml_R_75 im_R_greatest se_R_greatest (by decide) rfl (by decide) (by show _ = some 1; decide) (hK.sz (by decide)) hK.ob) rfl (by decide) (by decide) (by decide) (by decide) rfl (by decide) rfl ?_
  refine mp_iadd X 7 d_R_make_6 rfl ?_
  rw [nI_add]
  refine mp_istore X 9 (L' := [.val (.ref (G.1 + 26)), .val (.int (nI j)), .val (.int (nI so)), .val (.int (rm_i fi)), .val (.int (rm_i en)), .val (.int (nI wh)), .val (.int (nI (1 + (pq_mx S.2.1 (S.2.2.1 j) (S.2.2.2 j)))))]) d_R_make_7 rfl rfl rfl rfl ?_
  refine mp_aload_n X 10 d_R_make_9 rfl rfl rfl ?_
  refine mp_getf (v := .ref (G.1 + 27)) X 13 lk_R_7_R d_R_make_10 rfl (hK.sz (by decide)) hK.ob hK.r_sort ?_
  refine mp_aload_n X 14 d_R_make_13 rfl rfl rfl ?_
  refine mp_getf (v := .int (nI (S.1))) X 17 lk_R_55_R d_R_make_14 rfl (hK.sz (by decide)) hK.ob s1 ?_
  refine mp_iload_n X 18 d_R_make_17 rfl rfl rfl ?_
  refine mp_iast X 19 (S.1) d_R_make_18 rfl (hK.sz (by decide)) hK.k_sort rfl (by omega) (by decide) ?_
  obtain ⟨h2, eh2⟩ : ∃ z, z = mp_set h 27 (S.1) (.int (nI so)) := ⟨_, rfl⟩
  rw [← eh2]
  have rh2 : ∀ a b, h2.2.1 a b = if a = 27 ∧ b = S.1 then .int (nI so) else h.2.1 a b := by intro a b; rw [eh2]; rfl
  have hK2 : rm_K G h2 := by rw [eh2]; exact hK.st (Or.inl (by decide))
  have hf2 : mp_fr rm_W h h2 := by rw [eh2]; exact mp_fr.rf.set (by unfold rm_W; omega)
  refine mp_aload_n X 20 d_R_make_19 rfl rfl rfl ?_
  refine mp_getf (v := .ref (G.1 + 28)) X 23 lk_R_13_R d_R_make_20 rfl (hK2.sz (by decide)) hK2.ob hK2.r_ids ?_
  refine mp_aload_n X 24 d_R_make_23 rfl rfl rfl ?_
  refine mp_getf (v := .int (nI (S.1))) X 27 lk_R_55_R d_R_make_24 rfl (hK2.sz (by decide)) hK2.ob (by rw [rh2, if_neg (by omega)]; exact s1) ?_
  refine mp_iconst X 28 (v := nI 4) d_R_make_27 rfl (by decide) ?_
  refine mp_iload X 30 d_R_make_28 rfl rfl ?_
  refine mp_imul X 31 d_R_make_30 rfl ?_
  rw [pk_mul]
  refine mp_iload_n X 32 d_R_make_31 rfl rfl rfl ?_
  refine mp_iadd X 33 d_R_make_32 rfl ?_
  rw [nI_add]
  refine mp_iast X 34 (S.1) d_R_make_33 rfl (hK2.sz (by decide)) hK2.k_ids rfl (by omega) (by decide) ?_
  obtain ⟨h3, eh3⟩ : ∃ z, z = mp_set h2 28 (S.1) (.int (nI (4 * (1 + (pq_mx S.2.1 (S.2.2.1 j) (S.2.2.2 j))) + j))) := ⟨_, rfl⟩
  rw [← eh3]
  have rh3 : ∀ a b, h3.2.1 a b = if a = 28 ∧ b = S.1 then .int (nI (4 * (1 + (pq_mx S.2.1 (S.2.2.1 j) (S.2.2.2 j))) + j)) else h2.2.1 a b := by intro a b; rw [eh3]; rfl
  have hK3 : rm_K G h3 := by rw [eh3]; exact hK2.st (Or.inl (by decide))
  have hf3 : mp_fr rm_W h h3 := by rw [eh3]; exact hf2.set (by unfold rm_W; omega)
  refine mp_aload_n X 35 d_R_make_34 rfl rfl rfl ?_
  refine mp_getf (v := .ref (G.1 + 29)) X 38 lk_R_16_R d_R_make_35 rfl (hK3.sz (by decide)) hK3.ob hK3.r_first ?_
  refine mp_aload_n X 39 d_R_make_38 rfl rfl rfl ?_
  refine mp_getf (v := .int (nI (S.1))) X 42 lk_R_55_R d_R_make_39 rfl (hK3.sz (by decide)) hK3.ob (by rw [rh3, if_neg (by omega), rh2, if_neg (by omega)]; exact s1) ?_
  refine mp_iload_n X 43 d_R_make_42 rfl rfl rfl ?_
  refine mp_iast X 44 (S.1) d_R_make_43 rfl (hK3.sz (by decide)) hK3.k_first rfl (by omega) (by decide) ?_
  obtain ⟨h4, eh4⟩ : ∃ z, z = mp_set h3 29 (S.1) (.int (rm_i fi)) := ⟨_, rfl⟩
  rw [← eh4]
  have rh4 : ∀ a b, h4.2.1 a b = if a = 29 ∧ b = S.1 then .int (rm_i fi) else h3.2.1 a b := by intro a b; rw [eh4]; rfl
  have hK4 : rm_K G h4 := by rw [eh4]; exact hK3.st (Or.inl (by decide))
  have hf4 : mp_fr rm_W h h4 := by rw [eh4]; exact hf3.set (by unfold rm_W; omega)
  refine mp_aload_n X 45 d_R_make_44 rfl rfl rfl ?_
  refine mp_getf (v := .ref (G.1 + 30)) X 48 lk_R_19_R d_R_make_45 rfl (hK4.sz (by decide)) hK4.ob hK4.r_end ?_
  refine mp_aload_n X 49 d_R_make_48 rfl rfl rfl ?_
  refine mp_getf (v := .int (nI (S.1))) X 52 lk_R_55_R d_R_make_49 rfl (hK4.sz (by decide)) hK4.ob (by rw [rh4, if_neg (by omega), rh3, if_neg (by omega), rh2, if_neg (by omega)]; exact s1) ?_
  refine mp_iload X 54 d_R_make_52 rfl rfl ?_
  refine mp_iast X 55 (S.1) d_R_make_54 rfl (hK4.sz (by decide)) hK4.k_end rfl (by omega) (by decide) ?_
  obtain ⟨h5, eh5⟩ : ∃ z, z = mp_set h4 30 (S.1) (.int (rm_i en)) := ⟨_, rfl⟩
  rw [← eh5]
  have rh5 : ∀ a b, h5.2.1 a b = if a = 30 ∧ b = S.1 then .int (rm_i en) else h4.2.1 a b := by intro a b; rw [eh5]; rfl
  have hK5 : rm_K G h5 := by rw [eh5]; exact hK4.st (Or.inl (by decide))
  have hf5 : mp_fr rm_W h h5 := by rw [eh5]; exact hf4.set (by unfold rm_W; omega)
  refine mp_aload_n X 56 d_R_make_55 rfl rfl rfl ?_
  refine mp_getf (v := .ref (G.1 + 31)) X 59 lk_R_22_R d_R_make_56 rfl (hK5.sz (by decide)) hK5.ob hK5.r_what ?_
  refine mp_aload_n X 60 d_R_make_59 rfl rfl rfl ?_
  refine mp_getf (v := .int (nI (S.1))) X 63 lk_R_55_R d_R_make_60 rfl (hK5.sz (by decide)) hK5.ob (by rw [rh5, if_neg (by omega), rh4, if_neg (by omega), rh3, if_neg (by omega), rh2, if_neg (by omega)]; exact s1) ?_
  refine mp_iload X 65 d_R_make_63 rfl rfl ?_
  refine mp_iast X 66 (S.1) d_R_make_65 rfl (hK5.sz (by decide)) hK5.k_what rfl (by omega) (by decide) ?_
  obtain ⟨h6, eh6⟩ : ∃ z, z = mp_set h5 31 (S.1) (.int (nI wh)) := ⟨_, rfl⟩
  rw [← eh6]
  have rh6 : ∀ a b, h6.2.1 a b = if a = 31 ∧ b = S.1 then .int (nI wh) else h5.2.1 a b := by intro a b; rw [eh6]; rfl
  have hK6 : rm_K G h6 := by rw [eh6]; exact hK5.st (Or.inl (by decide))
  have hf6 : mp_fr rm_W h h6 := by rw [eh6]; exact hf5.set (by unfold rm_W; omega)
  refine mp_aload_n X 67 d_R_make_66 rfl rfl rfl ?_
  refine mp_dup X 68 d_R_make_67 rfl rfl ?_
  refine mp_getf (v := .int (nI (S.1))) X 71 lk_R_55_R d_R_make_68 rfl (hK6.sz (by decide)) hK6.ob (by rw [rh6, if_neg (by omega), rh5, if_neg (by omega), rh4, if_neg (by omega), rh3, if_neg (by omega), rh2, if_neg (by omega)]; exact s1) ?_
  refine mp_iconst X 72 (v := nI 1) d_R_make_71 rfl (by decide) ?_
  refine mp_iadd X 73 d_R_make_72 rfl ?_
  rw [nI_add]
  refine mp_putf X 76 ls_R_55_R d_R_make_73 rfl (Or.inl rfl) (hK6.sz (by decide)) hK6.ob rfl rfl ?_
  obtain ⟨h7, eh7⟩ : ∃ z, z = mp_set h6 26 (1) (.int (nI (S.1 + 1))) := ⟨_, rfl⟩
  rw [← eh7]
  have rh7 : ∀ a b, h7.2.1 a b = if a = 26 ∧ b = 1 then .int (nI (S.1 + 1)) else h6.2.1 a b := by intro a b; rw [eh7]; rfl
  have hK7 : rm_K G h7 := by rw [eh7]; exact hK6.st (Or.inr (Or.inr (Or.inl rfl)))
  have hf7 : mp_fr rm_W h h7 := by rw [eh7]; exact hf6.set (by unfold rm_W; omega)
  have hS7 : rm_S h7 (pq_add S (so, 1 + pq_mx S.2.1 (S.2.2.1 j) (S.2.2.2 j), j, fi, en, wh, le)) := rm_S_add hS hle (fun a b => by rw [rh7, rh6, rh5, rh4, rh3, rh2])
  refine mp_aload_n X 77 d_R_make_76 rfl rfl rfl ?_
  refine mp_iload_n X 78 d_R_make_77 rfl rfl rfl ?_
  refine mp_aload_n X 79 d_R_make_78 rfl rfl rfl ?_
  refine mp_getf (v := .int (nI ((S.1 + 1)))) X 82 lk_R_55_R d_R_make_79 rfl (hK7.sz (by decide)) hK7.ob (by rw [rh7, if_pos ⟨rfl, rfl⟩]) ?_
  refine mp_iconst X 83 (v := nI 1) d_R_make_82 rfl (by decide) ?_
  refine mp_isub X 84 d_R_make_83 rfl ?_
  have e1 : (nI ((S.1 + 1))) - nI 1 = nI (S.1) := by rw [pk_sub (by omega)]; rfl
  rw [e1]
  refine mp_call X mp_Ts_ok 87 (rest := []) (k_R_learn (k := S.1) _ hK7 hS7 hj (by omega) (show S.2.2.2 j < 90 by omega) hcn3) Y_R_learn in_R (mp_IV X (q := (nR_R, nT_R, 17)) d_R_make_84 Y_R_learn ml_R_79 im_R_learn se_R_learn (by decide) rfl (by decide) (by show _ = some 2; decide) (hK7.sz (by decide)) hK7.ob) rfl (by decide) (by decide) (by decide) (by decide) rfl (by decide) (fun v h8 hp => ?_) (fun x h8 q hp => hp.elim)
  obtain ⟨rfl, hS8, hf8⟩ := hp
  refine mp_eq rfl rfl (st2 := []) rfl ?_
  refine mp_iload X 89 d_R_make_87 rfl rfl ?_
  exact mp_iret X d_R_make_89 rfl rfl (by decide) (by decide) ⟨rfl, hS8, hf7.tr (hf8.mono fun o i z => by unfold rm_L at z; unfold rm_W; omega)⟩
