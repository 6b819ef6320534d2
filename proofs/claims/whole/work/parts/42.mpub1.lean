/-! The reference: write, erase, mark (rows laid by program). -/
set_option maxRecDepth 100000 in
set_option maxHeartbeats 4000000 in
theorem k_R_write (l : Launch) {G : mp_G} {h : mp_H} {S : pq_S} {x p c : Int32} (hK1 : rm_K G h) (hS1 : rm_S h S) (hok : pq_ok S) (hcc : narrow .char (.int c) = .int c) :
    mp_M G mp_Ts l y_R_write 2 0 0 [.ref (G.1 + 26), .int x, .int p, .int c] h (rm_Z h (sp_write S x p c)) (fun _ _ => False) := by
  have hM : S.1 ≤ 90 := hok.1
  have hw := hok.2.1
  have hf1 : mp_fr rm_A h h := mp_fr.rf
  refine mp_enter (by decide) Y_R_write fun E hl X => ?_
  refine mp_eq rfl (L2 := [.val (.ref (G.1 + 26)), .val (.int x), .val (.int p), .val (.int c)]) rfl rfl ?_
  cases hx : sp_ix 3 x with
  | none =>
    have hz : sp_write S x p c = (1, 0, S) := by unfold sp_write; rw [hx]
    rw [hz]
    refine mp_aload_n X 1 d_R_write_0 rfl rfl rfl ?_
    refine mp_iload_n X 2 d_R_write_1 rfl rfl rfl ?_
    refine mp_callE X mp_Ts_ok 5 (rest := [.ref (G.1 + 26)]) (k_R_isPageF _ hx) Y_R_isPage in_R (mp_IS X d_R_write_2 Y_R_isPage ml_R_83 st_R_isPage in_R (by decide) (by show _ = some 1; decide)) rfl (by decide) (by decide) (by decide) (by decide) rfl (Nat.le_of_ble_eq_true rfl) rfl ?_
    refine mp_Zeq X 12 8 d_R_write_5 (by decide) rfl (by omega) (fun q1 => ?_) (fun q1 => ?_)
    · refine mp_iconst X 13 (v := nI 1) d_R_write_12 rfl (by decide) ?_
      refine mp_putf X 16 ls_R_51_R d_R_write_13 rfl (Or.inl rfl) (hK1.sz (by decide)) hK1.ob rfl rfl ?_
      obtain ⟨h2, eh2⟩ : ∃ z, z = mp_set h 26 (0) (.int (nI 1)) := ⟨_, rfl⟩
      rw [← eh2]
      have rh2 : ∀ a b, h2.2.1 a b = if a = 26 ∧ b = 0 then .int (nI 1) else h.2.1 a b := by intro a b; rw [eh2]; rfl
      have hK2 : rm_K G h2 := by rw [eh2]; exact hK1.st (Or.inr (Or.inl rfl))
      have hf2 : mp_fr rm_A h h2 := by rw [eh2]; exact hf1.set (by unfold rm_A; omega)
      have hS2 : rm_S h2 S := by rw [eh2]; exact hS1.cd
      have hc2 : h2.2.1 26 0 = .int (nI 1) := by rw [rh2, if_pos ⟨rfl, rfl⟩]
      refine mp_aload_n X 17 d_R_write_16 rfl rfl rfl ?_
      refine mp_getf (v := .int (nI 1)) X 20 lk_R_51_R d_R_write_17 rfl (hK2.sz (by decide)) hK2.ob hc2 ?_
      refine mp_Zle X 25 23 d_R_write_20 (by decide) rfl (by omega) (fun q2 => ?_) (fun q2 => ?_)
      · omega
      · refine mp_iconst X 24 (v := nI 0) d_R_write_23 rfl (by decide) ?_
        exact mp_iret X d_R_write_24 rfl rfl (by decide) (by decide) (rm_Z.code hc2 (by decide) hS2 hf2)
    · exact absurd rfl q1
  | some j =>
    obtain ⟨hj, rfl⟩ := sp_ix_some hx (by decide)
    have hTl := sp_T_len hok hj
    cases hp0 : sp_ix ((rm_T S j).length + 1) p with
    | none =>
      have hz : sp_write S (nI j) p c = (2, 0, S) := by unfold sp_write; rw [hx]; simp only []; rw [hp0]
      rw [hz]
      refine mp_aload_n X 1 d_R_write_0 rfl rfl rfl ?_
      refine mp_iload_n X 2 d_R_write_1 rfl rfl rfl ?_
      refine mp_callE X mp_Ts_ok 5 (rest := [.ref (G.1 + 26)]) (k_R_isPageT _ hj) Y_R_isPage in_R (mp_IS X d_R_write_2 Y_R_isPage ml_R_83 st_R_isPage in_R (by decide) (by show _ = some 1; decide)) rfl (by decide) (by decide) (by decide) (by decide) rfl (Nat.le_of_ble_eq_true rfl) rfl ?_
      refine mp_Zeq X 12 8 d_R_write_5 (by decide) rfl (by omega) (fun q1 => ?_) (fun q1 => ?_)
      · exact absurd q1 (by decide)
      · refine mp_iconst X 9 (v := nI 0) d_R_write_8 rfl (by decide) ?_
        refine mp_goto X 13 d_R_write_9 (by decide) ?_
        refine mp_putf X 16 ls_R_51_R d_R_write_13 rfl (Or.inl rfl) (hK1.sz (by decide)) hK1.ob rfl rfl ?_
        obtain ⟨h2, eh2⟩ : ∃ z, z = mp_set h 26 (0) (.int (nI 0)) := ⟨_, rfl⟩
        rw [← eh2]
        have rh2 : ∀ a b, h2.2.1 a b = if a = 26 ∧ b = 0 then .int (nI 0) else h.2.1 a b := by intro a b; rw [eh2]; rfl
        have hK2 : rm_K G h2 := by rw [eh2]; exact hK1.st (Or.inr (Or.inl rfl))
        have hf2 : mp_fr rm_A h h2 := by rw [eh2]; exact hf1.set (by unfold rm_A; omega)
        have hS2 : rm_S h2 S := by rw [eh2]; exact hS1.cd
        have hc2 : h2.2.1 26 0 = .int (nI 0) := by rw [rh2, if_pos ⟨rfl, rfl⟩]
        refine mp_aload_n X 17 d_R_write_16 rfl rfl rfl ?_
        refine mp_getf (v := .int (nI 0)) X 20 lk_R_51_R d_R_write_17 rfl (hK2.sz (by decide)) hK2.ob hc2 ?_
        refine mp_Zle X 25 23 d_R_write_20 (by decide) rfl (by omega) (fun q2 => ?_) (fun q2 => ?_)
        · refine mp_aload_n X 26 d_R_write_25 rfl rfl rfl ?_
          refine mp_iload_n X 27 d_R_write_26 rfl rfl rfl ?_
          refine mp_call X mp_Ts_ok 30 (rest := []) (k_R_look _ hK2 hS2 hok hj) Y_R_look in_R (mp_IV X (q := (nR_R, nT_R, 17)) d_R_write_27 Y_R_look ml_R_87 im_R_look se_R_look (by decide) rfl (by decide) (by show _ = some 1; decide) (hK2.sz (by decide)) hK2.ob) rfl (by decide) (by decide) (by decide) (by decide) rfl (by decide) (fun v h3 hp => ?_) (fun x h3 q hp => hp.elim)
          obtain ⟨rfl, hq3, hV3⟩ := hp
          have hK3 : rm_K G h3 := hK2.fr rm_Q (by intro i a b c d; unfold rm_Q; omega) hq3
          have hS3 : rm_S h3 S := hS2.fr (hq3.mono fun o i => rm_QP)
          have hf3 : mp_fr rm_A h h3 := hf2.tr (hq3.mono fun o i => rm_QA)
          refine mp_eq rfl rfl (st2 := []) rfl ?_
          refine mp_aload_n X 31 d_R_write_30 rfl rfl rfl ?_
          refine mp_iload_n X 32 d_R_write_31 rfl rfl rfl ?_
          refine mp_if_lt X 43 35 d_R_write_32 (by decide) rfl (fun q3 => ?_) (fun q3 => ?_)
          · refine mp_iconst X 44 (v := nI 2) d_R_write_43 rfl (by decide) ?_
            refine mp_goto X 61 d_R_write_44 (by decide) ?_
            refine mp_putf X 64 ls_R_51_R d_R_write_61 rfl (Or.inl rfl) (hK3.sz (by decide)) hK3.ob rfl rfl ?_
            obtain ⟨h4, eh4⟩ : ∃ z, z = mp_set h3 26 (0) (.int (nI 2)) := ⟨_, rfl⟩
            rw [← eh4]
            have rh4 : ∀ a b, h4.2.1 a b = if a = 26 ∧ b = 0 then .int (nI 2) else h3.2.1 a b := by intro a b; rw [eh4]; rfl
            have hK4 : rm_K G h4 := by rw [eh4]; exact hK3.st (Or.inr (Or.inl rfl))
            have hf4 : mp_fr rm_A h h4 := by rw [eh4]; exact hf3.set (by unfold rm_A; omega)
            have hS4 : rm_S h4 S := by rw [eh4]; exact hS3.cd
            have hV4 : rm_V h4 S j := by rw [eh4]; exact hV3.st (by omega)
            have hc4 : h4.2.1 26 0 = .int (nI 2) := by rw [rh4, if_pos ⟨rfl, rfl⟩]
            refine mp_aload_n X 65 d_R_write_64 rfl rfl rfl ?_
            refine mp_getf (v := .int (nI 2)) X 68 lk_R_51_R d_R_write_65 rfl (hK4.sz (by decide)) hK4.ob hc4 ?_
            refine mp_Zle X 73 71 d_R_write_68 (by decide) rfl (by omega) (fun q4 => ?_) (fun q4 => ?_)
            · omega
            · refine mp_iconst X 72 (v := nI 0) d_R_write_71 rfl (by decide) ?_
              exact mp_iret X d_R_write_72 rfl rfl (by decide) (by decide) (rm_Z.code hc4 (by decide) hS4 hf4)
          · refine mp_iload_n X 36 d_R_write_35 rfl rfl rfl ?_
            refine mp_aload_n X 37 d_R_write_36 rfl rfl rfl ?_
            refine mp_getf (v := .int (nI ((rm_T S j).length))) X 40 lk_R_61_R d_R_write_37 rfl (hK3.sz (by decide)) hK3.ob hV3.1 ?_
            refine mp_icmp_le X 47 43 d_R_write_40 (by decide) rfl (fun q5 => ?_) (fun q5 => ?_)
            · exfalso; obtain ⟨q0, hq0, rfl⟩ := nI_of q3; have := (nI_leI hq0 (by omega)).mp q5; rw [sp_ix_of (by omega) (by omega)] at hp0; cases hp0
            · refine mp_iconst X 44 (v := nI 2) d_R_write_43 rfl (by decide) ?_
              refine mp_goto X 61 d_R_write_44 (by decide) ?_
              refine mp_putf X 64 ls_R_51_R d_R_write_61 rfl (Or.inl rfl) (hK3.sz (by decide)) hK3.ob rfl rfl ?_
              obtain ⟨h4, eh4⟩ : ∃ z, z = mp_set h3 26 (0) (.int (nI 2)) := ⟨_, rfl⟩
              rw [← eh4]
              have rh4 : ∀ a b, h4.2.1 a b = if a = 26 ∧ b = 0 then .int (nI 2) else h3.2.1 a b := by intro a b; rw [eh4]; rfl
              have hK4 : rm_K G h4 := by rw [eh4]; exact hK3.st (Or.inr (Or.inl rfl))
              have hf4 : mp_fr rm_A h h4 := by rw [eh4]; exact hf3.set (by unfold rm_A; omega)
              have hS4 : rm_S h4 S := by rw [eh4]; exact hS3.cd
              have hV4 : rm_V h4 S j := by rw [eh4]; exact hV3.st (by omega)
              have hc4 : h4.2.1 26 0 = .int (nI 2) := by rw [rh4, if_pos ⟨rfl, rfl⟩]
              refine mp_aload_n X 65 d_R_write_64 rfl rfl rfl ?_
              refine mp_getf (v := .int (nI 2)) X 68 lk_R_51_R d_R_write_65 rfl (hK4.sz (by decide)) hK4.ob hc4 ?_
              refine mp_Zle X 73 71 d_R_write_68 (by decide) rfl (by omega) (fun q6 => ?_) (fun q6 => ?_)
              · omega
              · refine mp_iconst X 72 (v := nI 0) d_R_write_71 rfl (by decide) ?_
                exact mp_iret X d_R_write_72 rfl rfl (by decide) (by decide) (rm_Z.code hc4 (by decide) hS4 hf4)
        · omega
    | some q =>
      obtain ⟨hq, rfl⟩ := sp_ix_some hp0 (by omega)
      have hz : sp_write S (nI j) (nI q) c = if S.1 = 90 then (3, 0, S) else (0, nI (1 + sp_mx S j), sp_new S j 0 (if q = 0 then none else some (sp_t S j (q - 1))) none 0 c) := by unfold sp_write; rw [hx]; simp only []; rw [hp0]
      rw [hz]
      refine mp_aload_n X 1 d_R_write_0 rfl rfl rfl ?_
      refine mp_iload_n X 2 d_R_write_1 rfl rfl rfl ?_
      refine mp_callE X mp_Ts_ok 5 (rest := [.ref (G.1 + 26)]) (k_R_isPageT _ hj) Y_R_isPage in_R (mp_IS X d_R_write_2 Y_R_isPage ml_R_83 st_R_isPage in_R (by decide) (by show _ = some 1; decide)) rfl (by decide) (by decide) (by decide) (by decide) rfl (Nat.le_of_ble_eq_true rfl) rfl ?_
      refine mp_Zeq X 12 8 d_R_write_5 (by decide) rfl (by omega) (fun q1 => ?_) (fun q1 => ?_)
      · exact absurd q1 (by decide)
      · refine mp_iconst X 9 (v := nI 0) d_R_write_8 rfl (by decide) ?_
        refine mp_goto X 13 d_R_write_9 (by decide) ?_
        refine mp_putf X 16 ls_R_51_R d_R_write_13 rfl (Or.inl rfl) (hK1.sz (by decide)) hK1.ob rfl rfl ?_
        obtain ⟨h2, eh2⟩ : ∃ z, z = mp_set h 26 (0) (.int (nI 0)) := ⟨_, rfl⟩
        rw [← eh2]
        have rh2 : ∀ a b, h2.2.1 a b = if a = 26 ∧ b = 0 then .int (nI 0) else h.2.1 a b := by intro a b; rw [eh2]; rfl
        have hK2 : rm_K G h2 := by rw [eh2]; exact hK1.st (Or.inr (Or.inl rfl))
        have hf2 : mp_fr rm_A h h2 := by rw [eh2]; exact hf1.set (by unfold rm_A; omega)
        have hS2 : rm_S h2 S := by rw [eh2]; exact hS1.cd
        have hc2 : h2.2.1 26 0 = .int (nI 0) := by rw [rh2, if_pos ⟨rfl, rfl⟩]
        refine mp_aload_n X 17 d_R_write_16 rfl rfl rfl ?_
        refine mp_getf (v := .int (nI 0)) X 20 lk_R_51_R d_R_write_17 rfl (hK2.sz (by decide)) hK2.ob hc2 ?_
        refine mp_Zle X 25 23 d_R_write_20 (by decide) rfl (by omega) (fun q2 => ?_) (fun q2 => ?_)
        · refine mp_aload_n X 26 d_R_write_25 rfl rfl rfl ?_
          refine mp_iload_n X 27 d_R_write_26 rfl rfl rfl ?_
          refine mp_call X mp_Ts_ok 30 (rest := []) (k_R_look _ hK2 hS2 hok hj) Y_R_look in_R (mp_IV X (q := (nR_R, nT_R, 17)) d_R_write_27 Y_R_look ml_R_87 im_R_look se_R_look (by decide) rfl (by decide) (by show _ = some 1; decide) (hK2.sz (by decide)) hK2.ob) rfl (by decide) (by decide) (by decide) (by decide) rfl (by decide) (fun v h3 hp => ?_) (fun x h3 q hp => hp.elim)
          obtain ⟨rfl, hq3, hV3⟩ := hp
          have hK3 : rm_K G h3 := hK2.fr rm_Q (by intro i a b c d; unfold rm_Q; omega) hq3
          have hS3 : rm_S h3 S := hS2.fr (hq3.mono fun o i => rm_QP)
          have hf3 : mp_fr rm_A h h3 := hf2.tr (hq3.mono fun o i => rm_QA)
          refine mp_eq rfl rfl (st2 := []) rfl ?_
          refine mp_aload_n X 31 d_R_write_30 rfl rfl rfl ?_
          refine mp_iload_n X 32 d_R_write_31 rfl rfl rfl ?_
          refine mp_Zlt X 43 35 d_R_write_32 (by decide) rfl (by omega) (fun q3 => ?_) (fun q3 => ?_)
          · exact q3.elim
          · refine mp_iload_n X 36 d_R_write_35 rfl rfl rfl ?_
            refine mp_aload_n X 37 d_R_write_36 rfl rfl rfl ?_
            refine mp_getf (v := .int (nI ((rm_T S j).length))) X 40 lk_R_61_R d_R_write_37 rfl (hK3.sz (by decide)) hK3.ob hV3.1 ?_
            refine mp_Nle X 47 43 d_R_write_40 (by decide) rfl (by omega) (by omega) (fun q4 => ?_) (fun q4 => ?_)
            · refine mp_aload_n X 48 d_R_write_47 rfl rfl rfl ?_
              refine mp_getf (v := .int (nI (S.1))) X 51 lk_R_55_R d_R_write_48 rfl (hK3.sz (by decide)) hK3.ob hS3.1 ?_
              refine mp_bipush X 53 (v := nI 90) d_R_write_51 rfl (by decide) ?_
              refine mp_Nne X 60 56 d_R_write_53 (by decide) rfl (by omega) (by omega) (fun q5 => ?_) (fun q5 => ?_)
              · refine mp_iconst X 61 (v := nI 0) d_R_write_60 rfl (by decide) ?_
                refine mp_putf X 64 ls_R_51_R d_R_write_61 rfl (Or.inl rfl) (hK3.sz (by decide)) hK3.ob rfl rfl ?_
                obtain ⟨h4, eh4⟩ : ∃ z, z = mp_set h3 26 (0) (.int (nI 0)) := ⟨_, rfl⟩
                rw [← eh4]
                have rh4 : ∀ a b, h4.2.1 a b = if a = 26 ∧ b = 0 then .int (nI 0) else h3.2.1 a b := by intro a b; rw [eh4]; rfl
                have hK4 : rm_K G h4 := by rw [eh4]; exact hK3.st (Or.inr (Or.inl rfl))
                have hf4 : mp_fr rm_A h h4 := by rw [eh4]; exact hf3.set (by unfold rm_A; omega)
                have hS4 : rm_S h4 S := by rw [eh4]; exact hS3.cd
                have hV4 : rm_V h4 S j := by rw [eh4]; exact hV3.st (by omega)
                have hc4 : h4.2.1 26 0 = .int (nI 0) := by rw [rh4, if_pos ⟨rfl, rfl⟩]
                refine mp_aload_n X 65 d_R_write_64 rfl rfl rfl ?_
                refine mp_getf (v := .int (nI 0)) X 68 lk_R_51_R d_R_write_65 rfl (hK4.sz (by decide)) hK4.ob hc4 ?_
                refine mp_Zle X 73 71 d_R_write_68 (by decide) rfl (by omega) (fun q6 => ?_) (fun q6 => ?_)
                · refine mp_aload_n X 74 d_R_write_73 rfl rfl rfl ?_
                  refine mp_getf (v := .ref (G.1 + 32)) X 77 lk_R_25_R d_R_write_74 rfl (hK4.sz (by decide)) hK4.ob hK4.r_letters ?_
                  refine mp_aload_n X 78 d_R_write_77 rfl rfl rfl ?_
                  refine mp_getf (v := .int (nI (S.1))) X 81 lk_R_55_R d_R_write_78 rfl (hK4.sz (by decide)) hK4.ob hS4.1 ?_
                  refine mp_iload_n X 82 d_R_write_81 rfl rfl rfl ?_
                  refine mp_cast X 83 (S.1) d_R_write_82 rfl (hK4.sz (by decide)) hK4.k_letters rfl (by omega) (by decide) hcc ?_
                  obtain ⟨h5, eh5⟩ : ∃ z, z = mp_set h4 32 (S.1) (.int c) := ⟨_, rfl⟩
                  rw [← eh5]
                  have rh5 : ∀ a b, h5.2.1 a b = if a = 32 ∧ b = S.1 then .int c else h4.2.1 a b := by intro a b; rw [eh5]; rfl
                  have hK5 : rm_K G h5 := by rw [eh5]; exact hK4.st (Or.inl (by decide))
                  have hf5 : mp_fr rm_A h h5 := by rw [eh5]; exact hf4.set (by unfold rm_A; omega)
                  have hS5 : rm_S h5 S := by rw [eh5]; exact hS4.lt
                  have hV5 : rm_V h5 S j := by rw [eh5]; exact hV4.st (by omega)
                  refine mp_aload_n X 84 d_R_write_83 rfl rfl rfl ?_
                  refine mp_iload_n X 85 d_R_write_84 rfl rfl rfl ?_
                  refine mp_iconst X 86 (v := nI 0) d_R_write_85 rfl (by decide) ?_
                  refine mp_iload_n X 87 d_R_write_86 rfl rfl rfl ?_
                  refine mp_Zne X 94 90 d_R_write_87 (by decide) rfl (by omega) (fun q7 => ?_) (fun q7 => ?_)
                  · refine mp_aload_n X 95 d_R_write_94 rfl rfl rfl ?_
                    refine mp_getf (v := .ref (G.1 + 38)) X 98 lk_R_45_R d_R_write_95 rfl (hK5.sz (by decide)) hK5.ob hK5.r_text ?_
                    refine mp_iload_n X 99 d_R_write_98 rfl rfl rfl ?_
                    refine mp_iconst X 100 (v := nI 1) d_R_write_99 rfl (by decide) ?_
                    refine mp_isub X 101 d_R_write_100 rfl ?_
                    have e8 : nI q - nI 1 = nI (q - 1) := pk_sub (by omega)
                    rw [e8]
                    refine mp_iald (v := .int (nI ((sp_t S j (q - 1))))) X 102 (q - 1) d_R_write_101 rfl (hK5.sz (by decide)) hK5.k_text rfl (by omega) (by decide) (hV5.2.1 _ _ (sp_t_mem (by omega))) ?_
                    refine mp_iconst X 103 (v := -1) d_R_write_102 rfl (by decide) ?_
                    refine mp_iconst X 104 (v := nI 0) d_R_write_103 rfl (by decide) ?_
                    refine mp_call X mp_Ts_ok 107 (rest := []) (k_R_make (j := j) (so := 0) (wh := 0) (fi := some (sp_t S j (q - 1))) (en := none) (le := c) _ hK5 hS5 hok hj (by omega) (fun _ => by rw [rh5, if_pos ⟨rfl, rfl⟩])) Y_R_make in_R (mp_IV X (q := (nR_R, nT_R, 17)) d_R_write_104 Y_R_make ml_R_91 im_R_make se_R_make (by decide) rfl (by decide) (by show _ = some 5; decide) (hK5.sz (by decide)) hK5.ob) rfl (by decide) (by decide) (by decide) (by decide) rfl (by decide) (fun v h9 hp => ?_) (fun x h9 q hp => hp.elim)
                    obtain ⟨rfl, hS9, hf9⟩ := hp
                    refine mp_eq rfl rfl (st2 := [.int (nI (1 + sp_mx S j))]) rfl ?_
                    rw [if_neg q5]
                    rw [if_neg q7]
                    refine mp_iret X d_R_write_107 rfl rfl (by decide) (by decide) ⟨?_, hS9, ⟨_, rfl, fun _ => rfl⟩, hf5.tr (hf9.mono fun o i => rm_WA)⟩
                    rw [hf9.2.2 26 0 (by unfold rm_W; omega), rh5, if_neg (by omega)]
                    exact hc4
                  · refine mp_iconst X 91 (v := -1) d_R_write_90 rfl (by decide) ?_
                    refine mp_goto X 102 d_R_write_91 (by decide) ?_
                    refine mp_iconst X 103 (v := -1) d_R_write_102 rfl (by decide) ?_
                    refine mp_iconst X 104 (v := nI 0) d_R_write_103 rfl (by decide) ?_
                    refine mp_call X mp_Ts_ok 107 (rest := []) (k_R_make (j := j) (so := 0) (wh := 0) (fi := none) (en := none) (le := c) _ hK5 hS5 hok hj (by omega) (fun _ => by rw [rh5, if_pos ⟨rfl, rfl⟩])) Y_R_make in_R (mp_IV X (q := (nR_R, nT_R, 17)) d_R_write_104 Y_R_make ml_R_91 im_R_make se_R_make (by decide) rfl (by decide) (by show _ = some 5; decide) (hK5.sz (by decide)) hK5.ob) rfl (by decide) (by decide) (by decide) (by decide) rfl (by decide) (fun v h9 hp => ?_) (fun x h9 q hp => hp.elim)
                    obtain ⟨rfl, hS9, hf9⟩ := hp
                    refine mp_eq rfl rfl (st2 := [.int (nI (1 + sp_mx S j))]) rfl ?_
                    rw [if_neg q5]
                    rw [if_pos q7]
                    refine mp_iret X d_R_write_107 rfl rfl (by decide) (by decide) ⟨?_, hS9, ⟨_, rfl, fun _ => rfl⟩, hf5.tr (hf9.mono fun o i => rm_WA)⟩
                    rw [hf9.2.2 26 0 (by unfold rm_W; omega), rh5, if_neg (by omega)]
                    exact hc4
                · omega
              · refine mp_iconst X 57 (v := nI 3) d_R_write_56 rfl (by decide) ?_
                refine mp_goto X 61 d_R_write_57 (by decide) ?_
                refine mp_putf X 64 ls_R_51_R d_R_write_61 rfl (Or.inl rfl) (hK3.sz (by decide)) hK3.ob rfl rfl ?_
                obtain ⟨h4, eh4⟩ : ∃ z, z = mp_set h3 26 (0) (.int (nI 3)) := ⟨_, rfl⟩
                rw [← eh4]
                have rh4 : ∀ a b, h4.2.1 a b = if a = 26 ∧ b = 0 then .int (nI 3) else h3.2.1 a b := by intro a b; rw [eh4]; rfl
                have hK4 : rm_K G h4 := by rw [eh4]; exact hK3.st (Or.inr (Or.inl rfl))
                have hf4 : mp_fr rm_A h h4 := by rw [eh4]; exact hf3.set (by unfold rm_A; omega)
                have hS4 : rm_S h4 S := by rw [eh4]; exact hS3.cd
                have hV4 : rm_V h4 S j := by rw [eh4]; exact hV3.st (by omega)
                have hc4 : h4.2.1 26 0 = .int (nI 3) := by rw [rh4, if_pos ⟨rfl, rfl⟩]
                refine mp_aload_n X 65 d_R_write_64 rfl rfl rfl ?_
                refine mp_getf (v := .int (nI 3)) X 68 lk_R_51_R d_R_write_65 rfl (hK4.sz (by decide)) hK4.ob hc4 ?_
                refine mp_Zle X 73 71 d_R_write_68 (by decide) rfl (by omega) (fun q9 => ?_) (fun q9 => ?_)
                · omega
                · refine mp_iconst X 72 (v := nI 0) d_R_write_71 rfl (by decide) ?_
                  rw [if_pos q5]
                  exact mp_iret X d_R_write_72 rfl rfl (by decide) (by decide) (rm_Z.code hc4 (by decide) hS4 hf4)
            · omega
        · omega
set_option maxRecDepth 100000 in
set_option maxHeartbeats 4000000 in
theorem k_R_erase (l : Launch) {G : mp_G} {h : mp_H} {S : pq_S} {x p : Int32} (hK1 : rm_K G h) (hS1 : rm_S h S) (hok : pq_ok S) (hcl : ∀ k, k < S.1 → pq_so S.2.1 k = 0 → narrow .char (.int (pq_le S.2.1 k)) = .int (pq_le S.2.1 k)) :
    mp_M G mp_Ts l y_R_erase 2 0 0 [.ref (G.1 + 26), .int x, .int p] h (rm_Z h (sp_erase S x p)) (fun _ _ => False) := by
  have hM : S.1 ≤ 90 := hok.1
  have hw := hok.2.1
  have hf1 : mp_fr rm_A h h := mp_fr.rf
  refine mp_enter (by decide) Y_R_erase fun E hl X => ?_
  refine mp_eq rfl (L2 := [.val (.ref (G.1 + 26)), .val (.int x), .val (.int p), .unset]) rfl rfl ?_
  cases hx : sp_ix 3 x with
  | none =>
    have hz : sp_erase S x p = (1, 0, S) := by unfold sp_erase; rw [hx]
    rw [hz]
    refine mp_aload_n X 1 d_R_erase_0 rfl rfl rfl ?_
    refine mp_iload_n X 2 d_R_erase_1 rfl rfl rfl ?_
    refine mp_callE X mp_Ts_ok 5 (rest := [.ref (G.1 + 26)]) (k_R_isPageF _ hx) Y_R_isPage in_R (mp_IS X d_R_erase_2 Y_R_isPage ml_R_83 st_R_isPage in_R (by decide) (by show _ = some 1; decide)) rfl (by decide) (by decide) (by decide) (by decide) rfl (Nat.le_of_ble_eq_true rfl) rfl ?_
    refine mp_Zeq X 12 8 d_R_erase_5 (by decide) rfl (by omega) (fun q1 => ?_) (fun q1 => ?_)
    · refine mp_iconst X 13 (v := nI 1) d_R_erase_12 rfl (by decide) ?_
      refine mp_putf X 16 ls_R_51_R d_R_erase_13 rfl (Or.inl rfl) (hK1.sz (by decide)) hK1.ob rfl rfl ?_
      obtain ⟨h2, eh2⟩ : ∃ z, z = mp_set h 26 (0) (.int (nI 1)) := ⟨_, rfl⟩
      rw [← eh2]
      have rh2 : ∀ a b, h2.2.1 a b = if a = 26 ∧ b = 0 then .int (nI 1) else h.2.1 a b := by intro a b; rw [eh2]; rfl
      have hK2 : rm_K G h2 := by rw [eh2]; exact hK1.st (Or.inr (Or.inl rfl))
      have hf2 : mp_fr rm_A h h2 := by rw [eh2]; exact hf1.set (by unfold rm_A; omega)
      have hS2 : rm_S h2 S := by rw [eh2]; exact hS1.cd
      have hc2 : h2.2.1 26 0 = .int (nI 1) := by rw [rh2, if_pos ⟨rfl, rfl⟩]
      refine mp_aload_n X 17 d_R_erase_16 rfl rfl rfl ?_
      refine mp_getf (v := .int (nI 1)) X 20 lk_R_51_R d_R_erase_17 rfl (hK2.sz (by decide)) hK2.ob hc2 ?_
      refine mp_Zle X 25 23 d_R_erase_20 (by decide) rfl (by omega) (fun q2 => ?_) (fun q2 => ?_)
      · omega
      · refine mp_iconst X 24 (v := nI 0) d_R_erase_23 rfl (by decide) ?_
        exact mp_iret X d_R_erase_24 rfl rfl (by decide) (by decide) (rm_Z.code hc2 (by decide) hS2 hf2)
    · exact absurd rfl q1
  | some j =>
    obtain ⟨hj, rfl⟩ := sp_ix_some hx (by decide)
    have hTl := sp_T_len hok hj
    cases hp0 : sp_ix (rm_T S j).length p with
    | none =>
      have hz : sp_erase S (nI j) p = (2, 0, S) := by unfold sp_erase; rw [hx]; simp only []; rw [hp0]
      rw [hz]
      refine mp_aload_n X 1 d_R_erase_0 rfl rfl rfl ?_
      refine mp_iload_n X 2 d_R_erase_1 rfl rfl rfl ?_
      refine mp_callE X mp_Ts_ok 5 (rest := [.ref (G.1 + 26)]) (k_R_isPageT _ hj) Y_R_isPage in_R (mp_IS X d_R_erase_2 Y_R_isPage ml_R_83 st_R_isPage in_R (by decide) (by show _ = some 1; decide)) rfl (by decide) (by decide) (by decide) (by decide) rfl (Nat.le_of_ble_eq_true rfl) rfl ?_
      refine mp_Zeq X 12 8 d_R_erase_5 (by decide) rfl (by omega) (fun q1 => ?_) (fun q1 => ?_)
      · exact absurd q1 (by decide)
      · refine mp_iconst X 9 (v := nI 0) d_R_erase_8 rfl (by decide) ?_
        refine mp_goto X 13 d_R_erase_9 (by decide) ?_
        refine mp_putf X 16 ls_R_51_R d_R_erase_13 rfl (Or.inl rfl) (hK1.sz (by decide)) hK1.ob rfl rfl ?_
        obtain ⟨h2, eh2⟩ : ∃ z, z = mp_set h 26 (0) (.int (nI 0)) := ⟨_, rfl⟩
        rw [← eh2]
        have rh2 : ∀ a b, h2.2.1 a b = if a = 26 ∧ b = 0 then .int (nI 0) else h.2.1 a b := by intro a b; rw [eh2]; rfl
        have hK2 : rm_K G h2 := by rw [eh2]; exact hK1.st (Or.inr (Or.inl rfl))
        have hf2 : mp_fr rm_A h h2 := by rw [eh2]; exact hf1.set (by unfold rm_A; omega)
        have hS2 : rm_S h2 S := by rw [eh2]; exact hS1.cd
        have hc2 : h2.2.1 26 0 = .int (nI 0) := by rw [rh2, if_pos ⟨rfl, rfl⟩]
        refine mp_aload_n X 17 d_R_erase_16 rfl rfl rfl ?_
        refine mp_getf (v := .int (nI 0)) X 20 lk_R_51_R d_R_erase_17 rfl (hK2.sz (by decide)) hK2.ob hc2 ?_
        refine mp_Zle X 25 23 d_R_erase_20 (by decide) rfl (by omega) (fun q2 => ?_) (fun q2 => ?_)
        · refine mp_aload_n X 26 d_R_erase_25 rfl rfl rfl ?_
          refine mp_iload_n X 27 d_R_erase_26 rfl rfl rfl ?_
          refine mp_call X mp_Ts_ok 30 (rest := []) (k_R_look _ hK2 hS2 hok hj) Y_R_look in_R (mp_IV X (q := (nR_R, nT_R, 17)) d_R_erase_27 Y_R_look ml_R_87 im_R_look se_R_look (by decide) rfl (by decide) (by show _ = some 1; decide) (hK2.sz (by decide)) hK2.ob) rfl (by decide) (by decide) (by decide) (by decide) rfl (by decide) (fun v h3 hp => ?_) (fun x h3 q hp => hp.elim)
          obtain ⟨rfl, hq3, hV3⟩ := hp
          have hK3 : rm_K G h3 := hK2.fr rm_Q (by intro i a b c d; unfold rm_Q; omega) hq3
          have hS3 : rm_S h3 S := hS2.fr (hq3.mono fun o i => rm_QP)
          have hf3 : mp_fr rm_A h h3 := hf2.tr (hq3.mono fun o i => rm_QA)
          refine mp_eq rfl rfl (st2 := []) rfl ?_
          refine mp_aload_n X 31 d_R_erase_30 rfl rfl rfl ?_
          refine mp_iload_n X 32 d_R_erase_31 rfl rfl rfl ?_
          refine mp_if_lt X 43 35 d_R_erase_32 (by decide) rfl (fun q3 => ?_) (fun q3 => ?_)
          · refine mp_iconst X 44 (v := nI 2) d_R_erase_43 rfl (by decide) ?_
            refine mp_goto X 61 d_R_erase_44 (by decide) ?_
            refine mp_putf X 64 ls_R_51_R d_R_erase_61 rfl (Or.inl rfl) (hK3.sz (by decide)) hK3.ob rfl rfl ?_
            obtain ⟨h4, eh4⟩ : ∃ z, z = mp_set h3 26 (0) (.int (nI 2)) := ⟨_, rfl⟩
            rw [← eh4]
            have rh4 : ∀ a b, h4.2.1 a b = if a = 26 ∧ b = 0 then .int (nI 2) else h3.2.1 a b := by intro a b; rw [eh4]; rfl
            have hK4 : rm_K G h4 := by rw [eh4]; exact hK3.st (Or.inr (Or.inl rfl))
            have hf4 : mp_fr rm_A h h4 := by rw [eh4]; exact hf3.set (by unfold rm_A; omega)
            have hS4 : rm_S h4 S := by rw [eh4]; exact hS3.cd
            have hV4 : rm_V h4 S j := by rw [eh4]; exact hV3.st (by omega)
            have hc4 : h4.2.1 26 0 = .int (nI 2) := by rw [rh4, if_pos ⟨rfl, rfl⟩]
            refine mp_aload_n X 65 d_R_erase_64 rfl rfl rfl ?_
            refine mp_getf (v := .int (nI 2)) X 68 lk_R_51_R d_R_erase_65 rfl (hK4.sz (by decide)) hK4.ob hc4 ?_
            refine mp_Zle X 73 71 d_R_erase_68 (by decide) rfl (by omega) (fun q4 => ?_) (fun q4 => ?_)
            · omega
            · refine mp_iconst X 72 (v := nI 0) d_R_erase_71 rfl (by decide) ?_
              exact mp_iret X d_R_erase_72 rfl rfl (by decide) (by decide) (rm_Z.code hc4 (by decide) hS4 hf4)
          · refine mp_iload_n X 36 d_R_erase_35 rfl rfl rfl ?_
            refine mp_aload_n X 37 d_R_erase_36 rfl rfl rfl ?_
            refine mp_getf (v := .int (nI ((rm_T S j).length))) X 40 lk_R_61_R d_R_erase_37 rfl (hK3.sz (by decide)) hK3.ob hV3.1 ?_
            refine mp_icmp_lt X 47 43 d_R_erase_40 (by decide) rfl (fun q5 => ?_) (fun q5 => ?_)
            · exfalso; obtain ⟨q0, hq0, rfl⟩ := nI_of q3; have := (nI_ltI hq0 (by omega)).mp q5; rw [sp_ix_of (by omega) (by omega)] at hp0; cases hp0
            · refine mp_iconst X 44 (v := nI 2) d_R_erase_43 rfl (by decide) ?_
              refine mp_goto X 61 d_R_erase_44 (by decide) ?_
              refine mp_putf X 64 ls_R_51_R d_R_erase_61 rfl (Or.inl rfl) (hK3.sz (by decide)) hK3.ob rfl rfl ?_
              obtain ⟨h4, eh4⟩ : ∃ z, z = mp_set h3 26 (0) (.int (nI 2)) := ⟨_, rfl⟩
              rw [← eh4]
              have rh4 : ∀ a b, h4.2.1 a b = if a = 26 ∧ b = 0 then .int (nI 2) else h3.2.1 a b := by intro a b; rw [eh4]; rfl
              have hK4 : rm_K G h4 := by rw [eh4]; exact hK3.st (Or.inr (Or.inl rfl))
              have hf4 : mp_fr rm_A h h4 := by rw [eh4]; exact hf3.set (by unfold rm_A; omega)
              have hS4 : rm_S h4 S := by rw [eh4]; exact hS3.cd
              have hV4 : rm_V h4 S j := by rw [eh4]; exact hV3.st (by omega)
              have hc4 : h4.2.1 26 0 = .int (nI 2) := by rw [rh4, if_pos ⟨rfl, rfl⟩]
              refine mp_aload_n X 65 d_R_erase_64 rfl rfl rfl ?_
              refine mp_getf (v := .int (nI 2)) X 68 lk_R_51_R d_R_erase_65 rfl (hK4.sz (by decide)) hK4.ob hc4 ?_
              refine mp_Zle X 73 71 d_R_erase_68 (by decide) rfl (by omega) (fun q6 => ?_) (fun q6 => ?_)
              · omega
              · refine mp_iconst X 72 (v := nI 0) d_R_erase_71 rfl (by decide) ?_
                exact mp_iret X d_R_erase_72 rfl rfl (by decide) (by decide) (rm_Z.code hc4 (by decide) hS4 hf4)
        · omega
    | some q =>
      obtain ⟨hq, rfl⟩ := sp_ix_some hp0 (by omega)
      have hz : sp_erase S (nI j) (nI q) = if S.1 = 90 then (3, 0, S) else (0, pq_le S.2.1 (sp_t S j q), sp_new S j 1 (some (sp_t S j q)) none 0 0) := by unfold sp_erase; rw [hx]; simp only []; rw [hp0]
      rw [hz]
      have htr := sp_t_row hq
      obtain ⟨htM, htso, -, -⟩ := rm_row_lt hw (hok.2.2.1 j hj) htr
      refine mp_aload_n X 1 d_R_erase_0 rfl rfl rfl ?_
      refine mp_iload_n X 2 d_R_erase_1 rfl rfl rfl ?_
      refine mp_callE X mp_Ts_ok 5 (rest := [.ref (G.1 + 26)]) (k_R_isPageT _ hj) Y_R_isPage in_R (mp_IS X d_R_erase_2 Y_R_isPage ml_R_83 st_R_isPage in_R (by decide) (by show _ = some 1; decide)) rfl (by decide) (by decide) (by decide) (by decide) rfl (Nat.le_of_ble_eq_true rfl) rfl ?_
      refine mp_Zeq X 12 8 d_R_erase_5 (by decide) rfl (by omega) (fun q1 => ?_) (fun q1 => ?_)
      · exact absurd q1 (by decide)
      · refine mp_iconst X 9 (v := nI 0) d_R_erase_8 rfl (by decide) ?_
        refine mp_goto X 13 d_R_erase_9 (by decide) ?_
        refine mp_putf X 16 ls_R_51_R d_R_erase_13 rfl (Or.inl rfl) (hK1.sz (by decide)) hK1.ob rfl rfl ?_
        obtain ⟨h2, eh2⟩ : ∃ z, z = mp_set h 26 (0) (.int (nI 0)) := ⟨_, rfl⟩
        rw [← eh2]
        have rh2 : ∀ a b, h2.2.1 a b = if a = 26 ∧ b = 0 then .int (nI 0) else h.2.1 a b := by intro a b; rw [eh2]; rfl
        have hK2 : rm_K G h2 := by rw [eh2]; exact hK1.st (Or.inr (Or.inl rfl))
        have hf2 : mp_fr rm_A h h2 := by rw [eh2]; exact hf1.set (by unfold rm_A; omega)
        have hS2 : rm_S h2 S := by rw [eh2]; exact hS1.cd
        have hc2 : h2.2.1 26 0 = .int (nI 0) := by rw [rh2, if_pos ⟨rfl, rfl⟩]
        refine mp_aload_n X 17 d_R_erase_16 rfl rfl rfl ?_
        refine mp_getf (v := .int (nI 0)) X 20 lk_R_51_R d_R_erase_17 rfl (hK2.sz (by decide)) hK2.ob hc2 ?_
        refine mp_Zle X 25 23 d_R_erase_20 (by decide) rfl (by omega) (fun q2 => ?_) (fun q2 => ?_)
        · refine mp_aload_n X 26 d_R_erase_25 rfl rfl rfl ?_
          refine mp_iload_n X 27 d_R_erase_26 rfl rfl rfl ?_
          refine mp_call X mp_Ts_ok 30 (rest := []) (k_R_look _ hK2 hS2 hok hj) Y_R_look in_R (mp_IV X (q := (nR_R, nT_R, 17)) d_R_erase_27 Y_R_look ml_R_87 im_R_look se_R_look (by decide) rfl (by decide) (by show _ = some 1; decide) (hK2.sz (by decide)) hK2.ob) rfl (by decide) (by decide) (by decide) (by decide) rfl (by decide) (fun v h3 hp => ?_) (fun x h3 q hp => hp.elim)
          obtain ⟨rfl, hq3, hV3⟩ := hp
          have hK3 : rm_K G h3 := hK2.fr rm_Q (by intro i a b c d; unfold rm_Q; omega) hq3
          have hS3 : rm_S h3 S := hS2.fr (hq3.mono fun o i => rm_QP)
          have hf3 : mp_fr rm_A h h3 := hf2.tr (hq3.mono fun o i => rm_QA)
          refine mp_eq rfl rfl (st2 := []) rfl ?_
          refine mp_aload_n X 31 d_R_erase_30 rfl rfl rfl ?_
          refine mp_iload_n X 32 d_R_erase_31 rfl rfl rfl ?_
          refine mp_Zlt X 43 35 d_R_erase_32 (by decide) rfl (by omega) (fun q3 => ?_) (fun q3 => ?_)
          · exact q3.elim
          · refine mp_iload_n X 36 d_R_erase_35 rfl rfl rfl ?_
            refine mp_aload_n X 37 d_R_erase_36 rfl rfl rfl ?_
            refine mp_getf (v := .int (nI ((rm_T S j).length))) X 40 lk_R_61_R d_R_erase_37 rfl (hK3.sz (by decide)) hK3.ob hV3.1 ?_
            refine mp_Nlt X 47 43 d_R_erase_40 (by decide) rfl (by omega) (by omega) (fun q4 => ?_) (fun q4 => ?_)
            · refine mp_aload_n X 48 d_R_erase_47 rfl rfl rfl ?_
              refine mp_getf (v := .int (nI (S.1))) X 51 lk_R_55_R d_R_erase_48 rfl (hK3.sz (by decide)) hK3.ob hS3.1 ?_
              refine mp_bipush X 53 (v := nI 90) d_R_erase_51 rfl (by decide) ?_
              refine mp_Nne X 60 56 d_R_erase_53 (by decide) rfl (by omega) (by omega) (fun q5 => ?_) (fun q5 => ?_)
              · refine mp_iconst X 61 (v := nI 0) d_R_erase_60 rfl (by decide) ?_
                refine mp_putf X 64 ls_R_51_R d_R_erase_61 rfl (Or.inl rfl) (hK3.sz (by decide)) hK3.ob rfl rfl ?_
                obtain ⟨h4, eh4⟩ : ∃ z, z = mp_set h3 26 (0) (.int (nI 0)) := ⟨_, rfl⟩
                rw [← eh4]
                have rh4 : ∀ a b, h4.2.1 a b = if a = 26 ∧ b = 0 then .int (nI 0) else h3.2.1 a b := by intro a b; rw [eh4]; rfl
                have hK4 : rm_K G h4 := by rw [eh4]; exact hK3.st (Or.inr (Or.inl rfl))
                have hf4 : mp_fr rm_A h h4 := by rw [eh4]; exact hf3.set (by unfold rm_A; omega)
                have hS4 : rm_S h4 S := by rw [eh4]; exact hS3.cd
                have hV4 : rm_V h4 S j := by rw [eh4]; exact hV3.st (by omega)
                have hc4 : h4.2.1 26 0 = .int (nI 0) := by rw [rh4, if_pos ⟨rfl, rfl⟩]
                refine mp_aload_n X 65 d_R_erase_64 rfl rfl rfl ?_
                refine mp_getf (v := .int (nI 0)) X 68 lk_R_51_R d_R_erase_65 rfl (hK4.sz (by decide)) hK4.ob hc4 ?_
                refine mp_Zle X 73 71 d_R_erase_68 (by decide) rfl (by omega) (fun q6 => ?_) (fun q6 => ?_)
                · refine mp_aload_n X 74 d_R_erase_73 rfl rfl rfl ?_
                  refine mp_getf (v := .ref (G.1 + 38)) X 77 lk_R_45_R d_R_erase_74 rfl (hK4.sz (by decide)) hK4.ob hK4.r_text ?_
                  refine mp_iload_n X 78 d_R_erase_77 rfl rfl rfl ?_
                  refine mp_iald (v := .int (nI ((sp_t S j q)))) X 79 (q) d_R_erase_78 rfl (hK4.sz (by decide)) hK4.k_text rfl (by omega) (by decide) (hV4.2.1 _ _ (sp_t_mem hq)) ?_
                  refine mp_istore_n X 80 (L' := [.val (.ref (G.1 + 26)), .val (.int (nI j)), .val (.int (nI q)), .val (.int (nI ((sp_t S j q))))]) d_R_erase_79 rfl rfl rfl rfl rfl ?_
                  refine mp_aload_n X 81 d_R_erase_80 rfl rfl rfl ?_
                  refine mp_iload_n X 82 d_R_erase_81 rfl rfl rfl ?_
                  refine mp_iconst X 83 (v := nI 1) d_R_erase_82 rfl (by decide) ?_
                  refine mp_iload_n X 84 d_R_erase_83 rfl rfl rfl ?_
                  refine mp_iconst X 85 (v := -1) d_R_erase_84 rfl (by decide) ?_
                  refine mp_iconst X 86 (v := nI 0) d_R_erase_85 rfl (by decide) ?_
                  refine mp_call X mp_Ts_ok 89 (rest := []) (k_R_make (j := j) (so := 1) (wh := 0) (fi := some (sp_t S j q)) (en := none) (le := 0) _ hK4 hS4 hok hj (by omega) (fun z => by cases z)) Y_R_make in_R (mp_IV X (q := (nR_R, nT_R, 17)) d_R_erase_86 Y_R_make ml_R_91 im_R_make se_R_make (by decide) rfl (by decide) (by show _ = some 5; decide) (hK4.sz (by decide)) hK4.ob) rfl (by decide) (by decide) (by decide) (by decide) rfl (by decide) (fun v h9 hp => ?_) (fun x h9 q hp => hp.elim)
                  obtain ⟨rfl, hS9, hf9⟩ := hp
                  refine mp_eq rfl rfl (st2 := [.int (nI (1 + sp_mx S j))]) rfl ?_
                  have hK9 : rm_K G h9 := hK4.fr rm_W (by intro i a b c d; unfold rm_W; omega) hf9
                  have hl9 : h9.2.1 32 (sp_t S j q) = .int (pq_le S.2.1 (sp_t S j q)) := by rw [hf9.2.2 32 _ (by unfold rm_W; omega)]; exact (hS4.2.1 _ htM).2.2.2.2.2 htso
                  refine mp_pop X 90 d_R_erase_89 rfl rfl ?_
                  refine mp_aload_n X 91 d_R_erase_90 rfl rfl rfl ?_
                  refine mp_getf (v := .ref (G.1 + 32)) X 94 lk_R_25_R d_R_erase_91 rfl (hK9.sz (by decide)) hK9.ob hK9.r_letters ?_
                  refine mp_iload_n X 95 d_R_erase_94 rfl rfl rfl ?_
                  refine mp_cald (v := .int (pq_le S.2.1 (sp_t S j q))) X 96 ((sp_t S j q)) d_R_erase_95 rfl (hK9.sz (by decide)) hK9.k_letters rfl (by omega) (by decide) hl9 ?_
                  rw [if_neg q5]
                  refine mp_iret X d_R_erase_96 rfl (hcl _ htM htso) (by decide) (by decide) ⟨?_, hS9, ⟨_, rfl, fun _ => rfl⟩, hf4.tr (hf9.mono fun o i => rm_WA)⟩
                  rw [hf9.2.2 26 0 (by unfold rm_W; omega)]
                  exact hc4
                · omega
              · refine mp_iconst X 57 (v := nI 3) d_R_erase_56 rfl (by decide) ?_
                refine mp_goto X 61 d_R_erase_57 (by decide) ?_
                refine mp_putf X 64 ls_R_51_R d_R_erase_61 rfl (Or.inl rfl) (hK3.sz (by decide)) hK3.ob rfl rfl ?_
                obtain ⟨h4, eh4⟩ : ∃ z, z = mp_set h3 26 (0) (.int (nI 3)) := ⟨_, rfl⟩
                rw [← eh4]
                have rh4 : ∀ a b, h4.2.1 a b = if a = 26 ∧ b = 0 then .int (nI 3) else h3.2.1 a b := by intro a b; rw [eh4]; rfl
                have hK4 : rm_K G h4 := by rw [eh4]; exact hK3.st (Or.inr (Or.inl rfl))
                have hf4 : mp_fr rm_A h h4 := by rw [eh4]; exact hf3.set (by unfold rm_A; omega)
                have hS4 : rm_S h4 S := by rw [eh4]; exact hS3.cd
                have hV4 : rm_V h4 S j := by rw [eh4]; exact hV3.st (by omega)
                have hc4 : h4.2.1 26 0 = .int (nI 3) := by rw [rh4, if_pos ⟨rfl, rfl⟩]
                refine mp_aload_n X 65 d_R_erase_64 rfl rfl rfl ?_
                refine mp_getf (v := .int (nI 3)) X 68 lk_R_51_R d_R_erase_65 rfl (hK4.sz (by decide)) hK4.ob hc4 ?_
                refine mp_Zle X 73 71 d_R_erase_68 (by decide) rfl (by omega) (fun q7 => ?_) (fun q7 => ?_)
                · omega
                · refine mp_iconst X 72 (v := nI 0) d_R_erase_71 rfl (by decide) ?_
                  rw [if_pos q5]
                  exact mp_iret X d_R_erase_72 rfl rfl (by decide) (by decide) (rm_Z.code hc4 (by decide) hS4 hf4)
            · omega
        · omega
