/-! The reference: mark, length, finds, at, format, id (rows laid by program). -/
set_option maxRecDepth 100000 in
set_option maxHeartbeats 4000000 in
theorem k_R_mark (l : Launch) {G : mp_G} {h : mp_H} {S : pq_S} {x f t w : Int32} (hK1 : rm_K G h) (hS1 : rm_S h S) (hok : pq_ok S) :
    mp_M G mp_Ts l y_R_mark 2 0 0 [.ref (G.1 + 26), .int x, .int f, .int t, .int w] h (rm_Z h (sp_mark S x f t w)) (fun _ _ => False) := by
  have hM : S.1 ≤ 90 := hok.1
  have hw := hok.2.1
  have hf1 : mp_fr rm_A h h := mp_fr.rf
  refine mp_enter (by decide) Y_R_mark fun E hl X => ?_
  refine mp_eq rfl (L2 := [.val (.ref (G.1 + 26)), .val (.int x), .val (.int f), .val (.int t), .val (.int w), .unset]) rfl rfl ?_
  cases hx : sp_ix 3 x with
  | none =>
    have hz : sp_mark S x f t w = (1, 0, S) := by unfold sp_mark; rw [hx]
    rw [hz]
    refine mp_aload_n X 1 d_R_mark_0 rfl rfl rfl ?_
    refine mp_iload_n X 2 d_R_mark_1 rfl rfl rfl ?_
    refine mp_callE X mp_Ts_ok 5 (rest := [.ref (G.1 + 26)]) (k_R_isPageF _ hx) Y_R_isPage in_R (mp_IS X d_R_mark_2 Y_R_isPage ml_R_83 st_R_isPage in_R (by decide) (by show _ = some 1; decide)) rfl (by decide) (by decide) (by decide) (by decide) rfl (Nat.le_of_ble_eq_true rfl) rfl ?_
    refine mp_Zeq X 24 8 d_R_mark_5 (by decide) rfl (by omega) (fun q1 => ?_) (fun q1 => ?_)
    · refine mp_iconst X 25 (v := nI 1) d_R_mark_24 rfl (by decide) ?_
      refine mp_putf X 28 ls_R_51_R d_R_mark_25 rfl (Or.inl rfl) (hK1.sz (by decide)) hK1.ob rfl rfl ?_
      obtain ⟨h2, eh2⟩ : ∃ z, z = mp_set h 26 (0) (.int (nI 1)) := ⟨_, rfl⟩
      rw [← eh2]
      have rh2 : ∀ a b, h2.2.1 a b = if a = 26 ∧ b = 0 then .int (nI 1) else h.2.1 a b := by intro a b; rw [eh2]; rfl
      have hK2 : rm_K G h2 := by rw [eh2]; exact hK1.st (Or.inr (Or.inl rfl))
      have hf2 : mp_fr rm_A h h2 := by rw [eh2]; exact hf1.set (by unfold rm_A; omega)
      have hS2 : rm_S h2 S := by rw [eh2]; exact hS1.cd
      have hc2 : h2.2.1 26 0 = .int (nI 1) := by rw [rh2, if_pos ⟨rfl, rfl⟩]
      refine mp_aload_n X 29 d_R_mark_28 rfl rfl rfl ?_
      refine mp_getf (v := .int (nI 1)) X 32 lk_R_51_R d_R_mark_29 rfl (hK2.sz (by decide)) hK2.ob hc2 ?_
      refine mp_Zle X 37 35 d_R_mark_32 (by decide) rfl (by omega) (fun q2 => ?_) (fun q2 => ?_)
      · omega
      · refine mp_iconst X 36 (v := nI 0) d_R_mark_35 rfl (by decide) ?_
        exact mp_iret X d_R_mark_36 rfl rfl (by decide) (by decide) (rm_Z.code hc2 (by decide) hS2 hf2)
    · exact absurd rfl q1
  | some j =>
    obtain ⟨hj, rfl⟩ := sp_ix_some hx (by decide)
    have hTl := sp_T_len hok hj
    cases hw8 : sp_ix 8 w with
    | none =>
      have hz : sp_mark S (nI j) f t w = (1, 0, S) := by unfold sp_mark; rw [hx, hw8]
      rw [hz]
      refine mp_aload_n X 1 d_R_mark_0 rfl rfl rfl ?_
      refine mp_iload_n X 2 d_R_mark_1 rfl rfl rfl ?_
      refine mp_callE X mp_Ts_ok 5 (rest := [.ref (G.1 + 26)]) (k_R_isPageT _ hj) Y_R_isPage in_R (mp_IS X d_R_mark_2 Y_R_isPage ml_R_83 st_R_isPage in_R (by decide) (by show _ = some 1; decide)) rfl (by decide) (by decide) (by decide) (by decide) rfl (Nat.le_of_ble_eq_true rfl) rfl ?_
      refine mp_Zeq X 24 8 d_R_mark_5 (by decide) rfl (by omega) (fun q1 => ?_) (fun q1 => ?_)
      · exact absurd q1 (by decide)
      · refine mp_iload X 10 d_R_mark_8 rfl rfl ?_
        refine mp_if_lt X 24 13 d_R_mark_10 (by decide) rfl (fun q2 => ?_) (fun q2 => ?_)
        · refine mp_iconst X 25 (v := nI 1) d_R_mark_24 rfl (by decide) ?_
          refine mp_putf X 28 ls_R_51_R d_R_mark_25 rfl (Or.inl rfl) (hK1.sz (by decide)) hK1.ob rfl rfl ?_
          obtain ⟨h2, eh2⟩ : ∃ z, z = mp_set h 26 (0) (.int (nI 1)) := ⟨_, rfl⟩
          rw [← eh2]
          have rh2 : ∀ a b, h2.2.1 a b = if a = 26 ∧ b = 0 then .int (nI 1) else h.2.1 a b := by intro a b; rw [eh2]; rfl
          have hK2 : rm_K G h2 := by rw [eh2]; exact hK1.st (Or.inr (Or.inl rfl))
          have hf2 : mp_fr rm_A h h2 := by rw [eh2]; exact hf1.set (by unfold rm_A; omega)
          have hS2 : rm_S h2 S := by rw [eh2]; exact hS1.cd
          have hc2 : h2.2.1 26 0 = .int (nI 1) := by rw [rh2, if_pos ⟨rfl, rfl⟩]
          refine mp_aload_n X 29 d_R_mark_28 rfl rfl rfl ?_
          refine mp_getf (v := .int (nI 1)) X 32 lk_R_51_R d_R_mark_29 rfl (hK2.sz (by decide)) hK2.ob hc2 ?_
          refine mp_Zle X 37 35 d_R_mark_32 (by decide) rfl (by omega) (fun q3 => ?_) (fun q3 => ?_)
          · omega
          · refine mp_iconst X 36 (v := nI 0) d_R_mark_35 rfl (by decide) ?_
            exact mp_iret X d_R_mark_36 rfl rfl (by decide) (by decide) (rm_Z.code hc2 (by decide) hS2 hf2)
        · refine mp_iload X 15 d_R_mark_13 rfl rfl ?_
          refine mp_bipush X 17 (v := nI 7) d_R_mark_15 rfl (by decide) ?_
          refine mp_icmp_gt X 24 20 d_R_mark_17 (by decide) rfl (fun q4 => ?_) (fun q4 => ?_)
          · refine mp_iconst X 25 (v := nI 1) d_R_mark_24 rfl (by decide) ?_
            refine mp_putf X 28 ls_R_51_R d_R_mark_25 rfl (Or.inl rfl) (hK1.sz (by decide)) hK1.ob rfl rfl ?_
            obtain ⟨h2, eh2⟩ : ∃ z, z = mp_set h 26 (0) (.int (nI 1)) := ⟨_, rfl⟩
            rw [← eh2]
            have rh2 : ∀ a b, h2.2.1 a b = if a = 26 ∧ b = 0 then .int (nI 1) else h.2.1 a b := by intro a b; rw [eh2]; rfl
            have hK2 : rm_K G h2 := by rw [eh2]; exact hK1.st (Or.inr (Or.inl rfl))
            have hf2 : mp_fr rm_A h h2 := by rw [eh2]; exact hf1.set (by unfold rm_A; omega)
            have hS2 : rm_S h2 S := by rw [eh2]; exact hS1.cd
            have hc2 : h2.2.1 26 0 = .int (nI 1) := by rw [rh2, if_pos ⟨rfl, rfl⟩]
            refine mp_aload_n X 29 d_R_mark_28 rfl rfl rfl ?_
            refine mp_getf (v := .int (nI 1)) X 32 lk_R_51_R d_R_mark_29 rfl (hK2.sz (by decide)) hK2.ob hc2 ?_
            refine mp_Zle X 37 35 d_R_mark_32 (by decide) rfl (by omega) (fun q5 => ?_) (fun q5 => ?_)
            · omega
            · refine mp_iconst X 36 (v := nI 0) d_R_mark_35 rfl (by decide) ?_
              exact mp_iret X d_R_mark_36 rfl rfl (by decide) (by decide) (rm_Z.code hc2 (by decide) hS2 hf2)
          · exfalso; obtain ⟨q0, hq0, rfl⟩ := nI_of q2; have := Nat.not_lt.mp fun z => q4 ((nI_ltI (by decide) hq0).mpr z); rw [sp_ix_of (by omega) (by decide)] at hw8; cases hw8
    | some k =>
      obtain ⟨hk, rfl⟩ := sp_ix_some hw8 (by decide)
      cases hf0 : sp_ix (rm_T S j).length f with
      | none =>
        have hz : sp_mark S (nI j) f t (nI k) = (2, 0, S) := by unfold sp_mark; rw [hx, hw8]; simp only []; rw [hf0]
        rw [hz]
        refine mp_aload_n X 1 d_R_mark_0 rfl rfl rfl ?_
        refine mp_iload_n X 2 d_R_mark_1 rfl rfl rfl ?_
        refine mp_callE X mp_Ts_ok 5 (rest := [.ref (G.1 + 26)]) (k_R_isPageT _ hj) Y_R_isPage in_R (mp_IS X d_R_mark_2 Y_R_isPage ml_R_83 st_R_isPage in_R (by decide) (by show _ = some 1; decide)) rfl (by decide) (by decide) (by decide) (by decide) rfl (Nat.le_of_ble_eq_true rfl) rfl ?_
        refine mp_Zeq X 24 8 d_R_mark_5 (by decide) rfl (by omega) (fun q1 => ?_) (fun q1 => ?_)
        · exact absurd q1 (by decide)
        · refine mp_iload X 10 d_R_mark_8 rfl rfl ?_
          refine mp_Zlt X 24 13 d_R_mark_10 (by decide) rfl (by omega) (fun q2 => ?_) (fun q2 => ?_)
          · exact q2.elim
          · refine mp_iload X 15 d_R_mark_13 rfl rfl ?_
            refine mp_bipush X 17 (v := nI 7) d_R_mark_15 rfl (by decide) ?_
            refine mp_Ngt X 24 20 d_R_mark_17 (by decide) rfl (by omega) (by omega) (fun q3 => ?_) (fun q3 => ?_)
            · omega
            · refine mp_iconst X 21 (v := nI 0) d_R_mark_20 rfl (by decide) ?_
              refine mp_goto X 25 d_R_mark_21 (by decide) ?_
              refine mp_putf X 28 ls_R_51_R d_R_mark_25 rfl (Or.inl rfl) (hK1.sz (by decide)) hK1.ob rfl rfl ?_
              obtain ⟨h2, eh2⟩ : ∃ z, z = mp_set h 26 (0) (.int (nI 0)) := ⟨_, rfl⟩
              rw [← eh2]
              have rh2 : ∀ a b, h2.2.1 a b = if a = 26 ∧ b = 0 then .int (nI 0) else h.2.1 a b := by intro a b; rw [eh2]; rfl
              have hK2 : rm_K G h2 := by rw [eh2]; exact hK1.st (Or.inr (Or.inl rfl))
              have hf2 : mp_fr rm_A h h2 := by rw [eh2]; exact hf1.set (by unfold rm_A; omega)
              have hS2 : rm_S h2 S := by rw [eh2]; exact hS1.cd
              have hc2 : h2.2.1 26 0 = .int (nI 0) := by rw [rh2, if_pos ⟨rfl, rfl⟩]
              refine mp_aload_n X 29 d_R_mark_28 rfl rfl rfl ?_
              refine mp_getf (v := .int (nI 0)) X 32 lk_R_51_R d_R_mark_29 rfl (hK2.sz (by decide)) hK2.ob hc2 ?_
              refine mp_Zle X 37 35 d_R_mark_32 (by decide) rfl (by omega) (fun q4 => ?_) (fun q4 => ?_)
              · refine mp_aload_n X 38 d_R_mark_37 rfl rfl rfl ?_
                refine mp_iload_n X 39 d_R_mark_38 rfl rfl rfl ?_
                refine mp_call X mp_Ts_ok 42 (rest := []) (k_R_look _ hK2 hS2 hok hj) Y_R_look in_R (mp_IV X (q := (nR_R, nT_R, 17)) d_R_mark_39 Y_R_look ml_R_87 im_R_look se_R_look (by decide) rfl (by decide) (by show _ = some 1; decide) (hK2.sz (by decide)) hK2.ob) rfl (by decide) (by decide) (by decide) (by decide) rfl (by decide) (fun v h3 hp => ?_) (fun x h3 q hp => hp.elim)
                obtain ⟨rfl, hq3, hV3⟩ := hp
                have hK3 : rm_K G h3 := hK2.fr rm_Q (by intro i a b c d; unfold rm_Q; omega) hq3
                have hS3 : rm_S h3 S := hS2.fr (hq3.mono fun o i => rm_QP)
                have hf3 : mp_fr rm_A h h3 := hf2.tr (hq3.mono fun o i => rm_QA)
                refine mp_eq rfl rfl (st2 := []) rfl ?_
                refine mp_aload_n X 43 d_R_mark_42 rfl rfl rfl ?_
                refine mp_iload_n X 44 d_R_mark_43 rfl rfl rfl ?_
                refine mp_if_lt X 60 47 d_R_mark_44 (by decide) rfl (fun q5 => ?_) (fun q5 => ?_)
                · refine mp_iconst X 61 (v := nI 2) d_R_mark_60 rfl (by decide) ?_
                  refine mp_goto X 78 d_R_mark_61 (by decide) ?_
                  refine mp_putf X 81 ls_R_51_R d_R_mark_78 rfl (Or.inl rfl) (hK3.sz (by decide)) hK3.ob rfl rfl ?_
                  obtain ⟨h4, eh4⟩ : ∃ z, z = mp_set h3 26 (0) (.int (nI 2)) := ⟨_, rfl⟩
                  rw [← eh4]
                  have rh4 : ∀ a b, h4.2.1 a b = if a = 26 ∧ b = 0 then .int (nI 2) else h3.2.1 a b := by intro a b; rw [eh4]; rfl
                  have hK4 : rm_K G h4 := by rw [eh4]; exact hK3.st (Or.inr (Or.inl rfl))
                  have hf4 : mp_fr rm_A h h4 := by rw [eh4]; exact hf3.set (by unfold rm_A; omega)
                  have hS4 : rm_S h4 S := by rw [eh4]; exact hS3.cd
                  have hV4 : rm_V h4 S j := by rw [eh4]; exact hV3.st (by omega)
                  have hc4 : h4.2.1 26 0 = .int (nI 2) := by rw [rh4, if_pos ⟨rfl, rfl⟩]
                  refine mp_aload_n X 82 d_R_mark_81 rfl rfl rfl ?_
                  refine mp_getf (v := .int (nI 2)) X 85 lk_R_51_R d_R_mark_82 rfl (hK4.sz (by decide)) hK4.ob hc4 ?_
                  refine mp_Zle X 90 88 d_R_mark_85 (by decide) rfl (by omega) (fun q6 => ?_) (fun q6 => ?_)
                  · omega
                  · refine mp_iconst X 89 (v := nI 0) d_R_mark_88 rfl (by decide) ?_
                    exact mp_iret X d_R_mark_89 rfl rfl (by decide) (by decide) (rm_Z.code hc4 (by decide) hS4 hf4)
                · refine mp_iload_n X 48 d_R_mark_47 rfl rfl rfl ?_
                  refine mp_iload_n X 49 d_R_mark_48 rfl rfl rfl ?_
                  refine mp_icmp_ge X 60 52 d_R_mark_49 (by decide) rfl (fun q7 => ?_) (fun q7 => ?_)
                  · refine mp_iconst X 61 (v := nI 2) d_R_mark_60 rfl (by decide) ?_
                    refine mp_goto X 78 d_R_mark_61 (by decide) ?_
                    refine mp_putf X 81 ls_R_51_R d_R_mark_78 rfl (Or.inl rfl) (hK3.sz (by decide)) hK3.ob rfl rfl ?_
                    obtain ⟨h4, eh4⟩ : ∃ z, z = mp_set h3 26 (0) (.int (nI 2)) := ⟨_, rfl⟩
                    rw [← eh4]
                    have rh4 : ∀ a b, h4.2.1 a b = if a = 26 ∧ b = 0 then .int (nI 2) else h3.2.1 a b := by intro a b; rw [eh4]; rfl
                    have hK4 : rm_K G h4 := by rw [eh4]; exact hK3.st (Or.inr (Or.inl rfl))
                    have hf4 : mp_fr rm_A h h4 := by rw [eh4]; exact hf3.set (by unfold rm_A; omega)
                    have hS4 : rm_S h4 S := by rw [eh4]; exact hS3.cd
                    have hV4 : rm_V h4 S j := by rw [eh4]; exact hV3.st (by omega)
                    have hc4 : h4.2.1 26 0 = .int (nI 2) := by rw [rh4, if_pos ⟨rfl, rfl⟩]
                    refine mp_aload_n X 82 d_R_mark_81 rfl rfl rfl ?_
                    refine mp_getf (v := .int (nI 2)) X 85 lk_R_51_R d_R_mark_82 rfl (hK4.sz (by decide)) hK4.ob hc4 ?_
                    refine mp_Zle X 90 88 d_R_mark_85 (by decide) rfl (by omega) (fun q8 => ?_) (fun q8 => ?_)
                    · omega
                    · refine mp_iconst X 89 (v := nI 0) d_R_mark_88 rfl (by decide) ?_
                      exact mp_iret X d_R_mark_89 rfl rfl (by decide) (by decide) (rm_Z.code hc4 (by decide) hS4 hf4)
                  · refine mp_iload_n X 53 d_R_mark_52 rfl rfl rfl ?_
                    refine mp_aload_n X 54 d_R_mark_53 rfl rfl rfl ?_
                    refine mp_getf (v := .int (nI ((rm_T S j).length))) X 57 lk_R_61_R d_R_mark_54 rfl (hK3.sz (by decide)) hK3.ob hV3.1 ?_
                    refine mp_icmp_le X 64 60 d_R_mark_57 (by decide) rfl (fun q9 => ?_) (fun q9 => ?_)
                    · exfalso; obtain ⟨q0, hq0, rfl⟩ := nI_of q5; have h49 : nI q0 < t := Int32.not_le.mp q7; obtain ⟨q1, hq1, rfl⟩ := nI_of (fun z => q5 (Int32.lt_trans h49 z)); have a1 := (nI_ltI hq0 hq1).mp h49; have a2 := (nI_leI hq1 (by omega)).mp q9; rw [sp_ix_of (by omega) (by omega)] at hf0; cases hf0
                    · refine mp_iconst X 61 (v := nI 2) d_R_mark_60 rfl (by decide) ?_
                      refine mp_goto X 78 d_R_mark_61 (by decide) ?_
                      refine mp_putf X 81 ls_R_51_R d_R_mark_78 rfl (Or.inl rfl) (hK3.sz (by decide)) hK3.ob rfl rfl ?_
                      obtain ⟨h4, eh4⟩ : ∃ z, z = mp_set h3 26 (0) (.int (nI 2)) := ⟨_, rfl⟩
                      rw [← eh4]
                      have rh4 : ∀ a b, h4.2.1 a b = if a = 26 ∧ b = 0 then .int (nI 2) else h3.2.1 a b := by intro a b; rw [eh4]; rfl
                      have hK4 : rm_K G h4 := by rw [eh4]; exact hK3.st (Or.inr (Or.inl rfl))
                      have hf4 : mp_fr rm_A h h4 := by rw [eh4]; exact hf3.set (by unfold rm_A; omega)
                      have hS4 : rm_S h4 S := by rw [eh4]; exact hS3.cd
                      have hV4 : rm_V h4 S j := by rw [eh4]; exact hV3.st (by omega)
                      have hc4 : h4.2.1 26 0 = .int (nI 2) := by rw [rh4, if_pos ⟨rfl, rfl⟩]
                      refine mp_aload_n X 82 d_R_mark_81 rfl rfl rfl ?_
                      refine mp_getf (v := .int (nI 2)) X 85 lk_R_51_R d_R_mark_82 rfl (hK4.sz (by decide)) hK4.ob hc4 ?_
                      refine mp_Zle X 90 88 d_R_mark_85 (by decide) rfl (by omega) (fun q10 => ?_) (fun q10 => ?_)
                      · omega
                      · refine mp_iconst X 89 (v := nI 0) d_R_mark_88 rfl (by decide) ?_
                        exact mp_iret X d_R_mark_89 rfl rfl (by decide) (by decide) (rm_Z.code hc4 (by decide) hS4 hf4)
              · omega
      | some a =>
        obtain ⟨ha, rfl⟩ := sp_ix_some hf0 (by omega)
        cases ht0 : sp_ix ((rm_T S j).length + 1) t with
        | none =>
          have hz : sp_mark S (nI j) (nI a) t (nI k) = (2, 0, S) := by unfold sp_mark; rw [hx, hw8]; simp only []; rw [hf0, ht0]
          rw [hz]
          refine mp_aload_n X 1 d_R_mark_0 rfl rfl rfl ?_
          refine mp_iload_n X 2 d_R_mark_1 rfl rfl rfl ?_
          refine mp_callE X mp_Ts_ok 5 (rest := [.ref (G.1 + 26)]) (k_R_isPageT _ hj) Y_R_isPage in_R (mp_IS X d_R_mark_2 Y_R_isPage ml_R_83 st_R_isPage in_R (by decide) (by show _ = some 1; decide)) rfl (by decide) (by decide) (by decide) (by decide) rfl (Nat.le_of_ble_eq_true rfl) rfl ?_
          refine mp_Zeq X 24 8 d_R_mark_5 (by decide) rfl (by omega) (fun q1 => ?_) (fun q1 => ?_)
          · exact absurd q1 (by decide)
          · refine mp_iload X 10 d_R_mark_8 rfl rfl ?_
            refine mp_Zlt X 24 13 d_R_mark_10 (by decide) rfl (by omega) (fun q2 => ?_) (fun q2 => ?_)
            · exact q2.elim
            · refine mp_iload X 15 d_R_mark_13 rfl rfl ?_
              refine mp_bipush X 17 (v := nI 7) d_R_mark_15 rfl (by decide) ?_
              refine mp_Ngt X 24 20 d_R_mark_17 (by decide) rfl (by omega) (by omega) (fun q3 => ?_) (fun q3 => ?_)
              · omega
              · refine mp_iconst X 21 (v := nI 0) d_R_mark_20 rfl (by decide) ?_
                refine mp_goto X 25 d_R_mark_21 (by decide) ?_
                refine mp_putf X 28 ls_R_51_R d_R_mark_25 rfl (Or.inl rfl) (hK1.sz (by decide)) hK1.ob rfl rfl ?_
                obtain ⟨h2, eh2⟩ : ∃ z, z = mp_set h 26 (0) (.int (nI 0)) := ⟨_, rfl⟩
                rw [← eh2]
                have rh2 : ∀ a b, h2.2.1 a b = if a = 26 ∧ b = 0 then .int (nI 0) else h.2.1 a b := by intro a b; rw [eh2]; rfl
                have hK2 : rm_K G h2 := by rw [eh2]; exact hK1.st (Or.inr (Or.inl rfl))
                have hf2 : mp_fr rm_A h h2 := by rw [eh2]; exact hf1.set (by unfold rm_A; omega)
                have hS2 : rm_S h2 S := by rw [eh2]; exact hS1.cd
                have hc2 : h2.2.1 26 0 = .int (nI 0) := by rw [rh2, if_pos ⟨rfl, rfl⟩]
                refine mp_aload_n X 29 d_R_mark_28 rfl rfl rfl ?_
                refine mp_getf (v := .int (nI 0)) X 32 lk_R_51_R d_R_mark_29 rfl (hK2.sz (by decide)) hK2.ob hc2 ?_
                refine mp_Zle X 37 35 d_R_mark_32 (by decide) rfl (by omega) (fun q4 => ?_) (fun q4 => ?_)
                · refine mp_aload_n X 38 d_R_mark_37 rfl rfl rfl ?_
                  refine mp_iload_n X 39 d_R_mark_38 rfl rfl rfl ?_
                  refine mp_call X mp_Ts_ok 42 (rest := []) (k_R_look _ hK2 hS2 hok hj) Y_R_look in_R (mp_IV X (q := (nR_R, nT_R, 17)) d_R_mark_39 Y_R_look ml_R_87 im_R_look se_R_look (by decide) rfl (by decide) (by show _ = some 1; decide) (hK2.sz (by decide)) hK2.ob) rfl (by decide) (by decide) (by decide) (by decide) rfl (by decide) (fun v h3 hp => ?_) (fun x h3 q hp => hp.elim)
                  obtain ⟨rfl, hq3, hV3⟩ := hp
                  have hK3 : rm_K G h3 := hK2.fr rm_Q (by intro i a b c d; unfold rm_Q; omega) hq3
                  have hS3 : rm_S h3 S := hS2.fr (hq3.mono fun o i => rm_QP)
                  have hf3 : mp_fr rm_A h h3 := hf2.tr (hq3.mono fun o i => rm_QA)
                  refine mp_eq rfl rfl (st2 := []) rfl ?_
                  refine mp_aload_n X 43 d_R_mark_42 rfl rfl rfl ?_
                  refine mp_iload_n X 44 d_R_mark_43 rfl rfl rfl ?_
                  refine mp_Zlt X 60 47 d_R_mark_44 (by decide) rfl (by omega) (fun q5 => ?_) (fun q5 => ?_)
                  · exact q5.elim
                  · refine mp_iload_n X 48 d_R_mark_47 rfl rfl rfl ?_
                    refine mp_iload_n X 49 d_R_mark_48 rfl rfl rfl ?_
                    refine mp_icmp_ge X 60 52 d_R_mark_49 (by decide) rfl (fun q6 => ?_) (fun q6 => ?_)
                    · refine mp_iconst X 61 (v := nI 2) d_R_mark_60 rfl (by decide) ?_
                      refine mp_goto X 78 d_R_mark_61 (by decide) ?_
                      refine mp_putf X 81 ls_R_51_R d_R_mark_78 rfl (Or.inl rfl) (hK3.sz (by decide)) hK3.ob rfl rfl ?_
                      obtain ⟨h4, eh4⟩ : ∃ z, z = mp_set h3 26 (0) (.int (nI 2)) := ⟨_, rfl⟩
                      rw [← eh4]
                      have rh4 : ∀ a b, h4.2.1 a b = if a = 26 ∧ b = 0 then .int (nI 2) else h3.2.1 a b := by intro a b; rw [eh4]; rfl
                      have hK4 : rm_K G h4 := by rw [eh4]; exact hK3.st (Or.inr (Or.inl rfl))
                      have hf4 : mp_fr rm_A h h4 := by rw [eh4]; exact hf3.set (by unfold rm_A; omega)
                      have hS4 : rm_S h4 S := by rw [eh4]; exact hS3.cd
                      have hV4 : rm_V h4 S j := by rw [eh4]; exact hV3.st (by omega)
                      have hc4 : h4.2.1 26 0 = .int (nI 2) := by rw [rh4, if_pos ⟨rfl, rfl⟩]
                      refine mp_aload_n X 82 d_R_mark_81 rfl rfl rfl ?_
                      refine mp_getf (v := .int (nI 2)) X 85 lk_R_51_R d_R_mark_82 rfl (hK4.sz (by decide)) hK4.ob hc4 ?_
                      refine mp_Zle X 90 88 d_R_mark_85 (by decide) rfl (by omega) (fun q7 => ?_) (fun q7 => ?_)
                      · omega
                      · refine mp_iconst X 89 (v := nI 0) d_R_mark_88 rfl (by decide) ?_
                        exact mp_iret X d_R_mark_89 rfl rfl (by decide) (by decide) (rm_Z.code hc4 (by decide) hS4 hf4)
                    · refine mp_iload_n X 53 d_R_mark_52 rfl rfl rfl ?_
                      refine mp_aload_n X 54 d_R_mark_53 rfl rfl rfl ?_
                      refine mp_getf (v := .int (nI ((rm_T S j).length))) X 57 lk_R_61_R d_R_mark_54 rfl (hK3.sz (by decide)) hK3.ob hV3.1 ?_
                      refine mp_icmp_le X 64 60 d_R_mark_57 (by decide) rfl (fun q8 => ?_) (fun q8 => ?_)
                      · exfalso; have h49 : nI a < t := Int32.not_le.mp q6; obtain ⟨q1, hq1, rfl⟩ := nI_of (fun z => nI_pos (n := a) (by omega) (Int32.lt_trans h49 z)); have a2 := (nI_leI hq1 (by omega)).mp q8; rw [sp_ix_of (by omega) (by omega)] at ht0; cases ht0
                      · refine mp_iconst X 61 (v := nI 2) d_R_mark_60 rfl (by decide) ?_
                        refine mp_goto X 78 d_R_mark_61 (by decide) ?_
                        refine mp_putf X 81 ls_R_51_R d_R_mark_78 rfl (Or.inl rfl) (hK3.sz (by decide)) hK3.ob rfl rfl ?_
                        obtain ⟨h4, eh4⟩ : ∃ z, z = mp_set h3 26 (0) (.int (nI 2)) := ⟨_, rfl⟩
                        rw [← eh4]
                        have rh4 : ∀ a b, h4.2.1 a b = if a = 26 ∧ b = 0 then .int (nI 2) else h3.2.1 a b := by intro a b; rw [eh4]; rfl
                        have hK4 : rm_K G h4 := by rw [eh4]; exact hK3.st (Or.inr (Or.inl rfl))
                        have hf4 : mp_fr rm_A h h4 := by rw [eh4]; exact hf3.set (by unfold rm_A; omega)
                        have hS4 : rm_S h4 S := by rw [eh4]; exact hS3.cd
                        have hV4 : rm_V h4 S j := by rw [eh4]; exact hV3.st (by omega)
                        have hc4 : h4.2.1 26 0 = .int (nI 2) := by rw [rh4, if_pos ⟨rfl, rfl⟩]
                        refine mp_aload_n X 82 d_R_mark_81 rfl rfl rfl ?_
                        refine mp_getf (v := .int (nI 2)) X 85 lk_R_51_R d_R_mark_82 rfl (hK4.sz (by decide)) hK4.ob hc4 ?_
                        refine mp_Zle X 90 88 d_R_mark_85 (by decide) rfl (by omega) (fun q9 => ?_) (fun q9 => ?_)
                        · omega
                        · refine mp_iconst X 89 (v := nI 0) d_R_mark_88 rfl (by decide) ?_
                          exact mp_iret X d_R_mark_89 rfl rfl (by decide) (by decide) (rm_Z.code hc4 (by decide) hS4 hf4)
                · omega
        | some b =>
          obtain ⟨hb, rfl⟩ := sp_ix_some ht0 (by omega)
          have hz : sp_mark S (nI j) (nI a) (nI b) (nI k) = if b ≤ a then (2, 0, S) else if S.1 = 90 then (3, 0, S) else (0, nI (1 + sp_mx S j), sp_new S j 2 (some (sp_t S j a)) (if 3 < k then some (sp_t S j (b - 1)) else if b < (rm_T S j).length then some (sp_t S j b) else none) k 0) := by unfold sp_mark; rw [hx, hw8]; simp only []; rw [hf0, ht0]
          rw [hz]
          refine mp_aload_n X 1 d_R_mark_0 rfl rfl rfl ?_
          refine mp_iload_n X 2 d_R_mark_1 rfl rfl rfl ?_
          refine mp_callE X mp_Ts_ok 5 (rest := [.ref (G.1 + 26)]) (k_R_isPageT _ hj) Y_R_isPage in_R (mp_IS X d_R_mark_2 Y_R_isPage ml_R_83 st_R_isPage in_R (by decide) (by show _ = some 1; decide)) rfl (by decide) (by decide) (by decide) (by decide) rfl (Nat.le_of_ble_eq_true rfl) rfl ?_
          refine mp_Zeq X 24 8 d_R_mark_5 (by decide) rfl (by omega) (fun q1 => ?_) (fun q1 => ?_)
          · exact absurd q1 (by decide)
          · refine mp_iload X 10 d_R_mark_8 rfl rfl ?_
            refine mp_Zlt X 24 13 d_R_mark_10 (by decide) rfl (by omega) (fun q2 => ?_) (fun q2 => ?_)
            · exact q2.elim
            · refine mp_iload X 15 d_R_mark_13 rfl rfl ?_
              refine mp_bipush X 17 (v := nI 7) d_R_mark_15 rfl (by decide) ?_
              refine mp_Ngt X 24 20 d_R_mark_17 (by decide) rfl (by omega) (by omega) (fun q3 => ?_) (fun q3 => ?_)
              · omega
              · refine mp_iconst X 21 (v := nI 0) d_R_mark_20 rfl (by decide) ?_
                refine mp_goto X 25 d_R_mark_21 (by decide) ?_
                refine mp_putf X 28 ls_R_51_R d_R_mark_25 rfl (Or.inl rfl) (hK1.sz (by decide)) hK1.ob rfl rfl ?_
                obtain ⟨h2, eh2⟩ : ∃ z, z = mp_set h 26 (0) (.int (nI 0)) := ⟨_, rfl⟩
                rw [← eh2]
                have rh2 : ∀ a b, h2.2.1 a b = if a = 26 ∧ b = 0 then .int (nI 0) else h.2.1 a b := by intro a b; rw [eh2]; rfl
                have hK2 : rm_K G h2 := by rw [eh2]; exact hK1.st (Or.inr (Or.inl rfl))
                have hf2 : mp_fr rm_A h h2 := by rw [eh2]; exact hf1.set (by unfold rm_A; omega)
                have hS2 : rm_S h2 S := by rw [eh2]; exact hS1.cd
                have hc2 : h2.2.1 26 0 = .int (nI 0) := by rw [rh2, if_pos ⟨rfl, rfl⟩]
                refine mp_aload_n X 29 d_R_mark_28 rfl rfl rfl ?_
                refine mp_getf (v := .int (nI 0)) X 32 lk_R_51_R d_R_mark_29 rfl (hK2.sz (by decide)) hK2.ob hc2 ?_
                refine mp_Zle X 37 35 d_R_mark_32 (by decide) rfl (by omega) (fun q4 => ?_) (fun q4 => ?_)
                · refine mp_aload_n X 38 d_R_mark_37 rfl rfl rfl ?_
                  refine mp_iload_n X 39 d_R_mark_38 rfl rfl rfl ?_
                  refine mp_call X mp_Ts_ok 42 (rest := []) (k_R_look _ hK2 hS2 hok hj) Y_R_look in_R (mp_IV X (q := (nR_R, nT_R, 17)) d_R_mark_39 Y_R_look ml_R_87 im_R_look se_R_look (by decide) rfl (by decide) (by show _ = some 1; decide) (hK2.sz (by decide)) hK2.ob) rfl (by decide) (by decide) (by decide) (by decide) rfl (by decide) (fun v h3 hp => ?_) (fun x h3 q hp => hp.elim)
                  obtain ⟨rfl, hq3, hV3⟩ := hp
                  have hK3 : rm_K G h3 := hK2.fr rm_Q (by intro i a b c d; unfold rm_Q; omega) hq3
                  have hS3 : rm_S h3 S := hS2.fr (hq3.mono fun o i => rm_QP)
                  have hf3 : mp_fr rm_A h h3 := hf2.tr (hq3.mono fun o i => rm_QA)
                  refine mp_eq rfl rfl (st2 := []) rfl ?_
                  refine mp_aload_n X 43 d_R_mark_42 rfl rfl rfl ?_
                  refine mp_iload_n X 44 d_R_mark_43 rfl rfl rfl ?_
                  refine mp_Zlt X 60 47 d_R_mark_44 (by decide) rfl (by omega) (fun q5 => ?_) (fun q5 => ?_)
                  · exact q5.elim
                  · refine mp_iload_n X 48 d_R_mark_47 rfl rfl rfl ?_
                    refine mp_iload_n X 49 d_R_mark_48 rfl rfl rfl ?_
                    refine mp_Nge X 60 52 d_R_mark_49 (by decide) rfl (by omega) (by omega) (fun q6 => ?_) (fun q6 => ?_)
                    · refine mp_iconst X 61 (v := nI 2) d_R_mark_60 rfl (by decide) ?_
                      refine mp_goto X 78 d_R_mark_61 (by decide) ?_
                      refine mp_putf X 81 ls_R_51_R d_R_mark_78 rfl (Or.inl rfl) (hK3.sz (by decide)) hK3.ob rfl rfl ?_
                      obtain ⟨h4, eh4⟩ : ∃ z, z = mp_set h3 26 (0) (.int (nI 2)) := ⟨_, rfl⟩
                      rw [← eh4]
                      have rh4 : ∀ a b, h4.2.1 a b = if a = 26 ∧ b = 0 then .int (nI 2) else h3.2.1 a b := by intro a b; rw [eh4]; rfl
                      have hK4 : rm_K G h4 := by rw [eh4]; exact hK3.st (Or.inr (Or.inl rfl))
                      have hf4 : mp_fr rm_A h h4 := by rw [eh4]; exact hf3.set (by unfold rm_A; omega)
                      have hS4 : rm_S h4 S := by rw [eh4]; exact hS3.cd
                      have hV4 : rm_V h4 S j := by rw [eh4]; exact hV3.st (by omega)
                      have hc4 : h4.2.1 26 0 = .int (nI 2) := by rw [rh4, if_pos ⟨rfl, rfl⟩]
                      refine mp_aload_n X 82 d_R_mark_81 rfl rfl rfl ?_
                      refine mp_getf (v := .int (nI 2)) X 85 lk_R_51_R d_R_mark_82 rfl (hK4.sz (by decide)) hK4.ob hc4 ?_
                      refine mp_Zle X 90 88 d_R_mark_85 (by decide) rfl (by omega) (fun q7 => ?_) (fun q7 => ?_)
                      · omega
                      · refine mp_iconst X 89 (v := nI 0) d_R_mark_88 rfl (by decide) ?_
                        rw [if_pos q6]
                        exact mp_iret X d_R_mark_89 rfl rfl (by decide) (by decide) (rm_Z.code hc4 (by decide) hS4 hf4)
                    · refine mp_iload_n X 53 d_R_mark_52 rfl rfl rfl ?_
                      refine mp_aload_n X 54 d_R_mark_53 rfl rfl rfl ?_
                      refine mp_getf (v := .int (nI ((rm_T S j).length))) X 57 lk_R_61_R d_R_mark_54 rfl (hK3.sz (by decide)) hK3.ob hV3.1 ?_
                      refine mp_Nle X 64 60 d_R_mark_57 (by decide) rfl (by omega) (by omega) (fun q8 => ?_) (fun q8 => ?_)
                      · refine mp_aload_n X 65 d_R_mark_64 rfl rfl rfl ?_
                        refine mp_getf (v := .int (nI (S.1))) X 68 lk_R_55_R d_R_mark_65 rfl (hK3.sz (by decide)) hK3.ob hS3.1 ?_
                        refine mp_bipush X 70 (v := nI 90) d_R_mark_68 rfl (by decide) ?_
                        refine mp_Nne X 77 73 d_R_mark_70 (by decide) rfl (by omega) (by omega) (fun q9 => ?_) (fun q9 => ?_)
                        · refine mp_iconst X 78 (v := nI 0) d_R_mark_77 rfl (by decide) ?_
                          refine mp_putf X 81 ls_R_51_R d_R_mark_78 rfl (Or.inl rfl) (hK3.sz (by decide)) hK3.ob rfl rfl ?_
                          obtain ⟨h4, eh4⟩ : ∃ z, z = mp_set h3 26 (0) (.int (nI 0)) := ⟨_, rfl⟩
                          rw [← eh4]
                          have rh4 : ∀ a b, h4.2.1 a b = if a = 26 ∧ b = 0 then .int (nI 0) else h3.2.1 a b := by intro a b; rw [eh4]; rfl
                          have hK4 : rm_K G h4 := by rw [eh4]; exact hK3.st (Or.inr (Or.inl rfl))
                          have hf4 : mp_fr rm_A h h4 := by rw [eh4]; exact hf3.set (by unfold rm_A; omega)
                          have hS4 : rm_S h4 S := by rw [eh4]; exact hS3.cd
                          have hV4 : rm_V h4 S j := by rw [eh4]; exact hV3.st (by omega)
                          have hc4 : h4.2.1 26 0 = .int (nI 0) := by rw [rh4, if_pos ⟨rfl, rfl⟩]
                          refine mp_aload_n X 82 d_R_mark_81 rfl rfl rfl ?_
                          refine mp_getf (v := .int (nI 0)) X 85 lk_R_51_R d_R_mark_82 rfl (hK4.sz (by decide)) hK4.ob hc4 ?_
                          refine mp_Zle X 90 88 d_R_mark_85 (by decide) rfl (by omega) (fun q10 => ?_) (fun q10 => ?_)
                          · refine mp_iload X 92 d_R_mark_90 rfl rfl ?_
                            refine mp_iconst X 93 (v := nI 3) d_R_mark_92 rfl (by decide) ?_
                            refine mp_Nle X 107 96 d_R_mark_93 (by decide) rfl (by omega) (by omega) (fun q11 => ?_) (fun q11 => ?_)
                            · refine mp_iload_n X 108 d_R_mark_107 rfl rfl rfl ?_
                              refine mp_aload_n X 109 d_R_mark_108 rfl rfl rfl ?_
                              refine mp_getf (v := .int (nI ((rm_T S j).length))) X 112 lk_R_61_R d_R_mark_109 rfl (hK4.sz (by decide)) hK4.ob hV4.1 ?_
                              refine mp_Nge X 124 115 d_R_mark_112 (by decide) rfl (by omega) (by omega) (fun q12 => ?_) (fun q12 => ?_)
                              · refine mp_iconst X 125 (v := -1) d_R_mark_124 rfl (by decide) ?_
                                refine mp_istore X 127 (L' := [.val (.ref (G.1 + 26)), .val (.int (nI j)), .val (.int (nI a)), .val (.int (nI b)), .val (.int (nI k)), .val (.int (-1))]) d_R_mark_125 rfl rfl rfl rfl ?_
                                refine mp_aload_n X 128 d_R_mark_127 rfl rfl rfl ?_
                                refine mp_iload_n X 129 d_R_mark_128 rfl rfl rfl ?_
                                refine mp_iconst X 130 (v := nI 2) d_R_mark_129 rfl (by decide) ?_
                                refine mp_aload_n X 131 d_R_mark_130 rfl rfl rfl ?_
                                refine mp_getf (v := .ref (G.1 + 38)) X 134 lk_R_45_R d_R_mark_131 rfl (hK4.sz (by decide)) hK4.ob hK4.r_text ?_
                                refine mp_iload_n X 135 d_R_mark_134 rfl rfl rfl ?_
                                refine mp_iald (v := .int (nI ((sp_t S j a)))) X 136 (a) d_R_mark_135 rfl (hK4.sz (by decide)) hK4.k_text rfl (by omega) (by decide) (hV4.2.1 _ _ (sp_t_mem (by omega))) ?_
                                refine mp_iload X 138 d_R_mark_136 rfl rfl ?_
                                refine mp_iload X 140 d_R_mark_138 rfl rfl ?_
                                refine mp_call X mp_Ts_ok 143 (rest := []) (k_R_make (j := j) (so := 2) (wh := k) (fi := some (sp_t S j a)) (en := none) (le := 0) _ hK4 hS4 hok hj (by omega) (fun z => by cases z)) Y_R_make in_R (mp_IV X (q := (nR_R, nT_R, 17)) d_R_mark_140 Y_R_make ml_R_91 im_R_make se_R_make (by decide) rfl (by decide) (by show _ = some 5; decide) (hK4.sz (by decide)) hK4.ob) rfl (by decide) (by decide) (by decide) (by decide) rfl (by decide) (fun v h9 hp => ?_) (fun x h9 q hp => hp.elim)
                                obtain ⟨rfl, hS9, hf9⟩ := hp
                                refine mp_eq rfl rfl (st2 := [.int (nI (1 + sp_mx S j))]) rfl ?_
                                rw [if_neg (show ¬ b ≤ a by omega), if_neg q9, if_neg (show ¬ 3 < k by omega), if_neg (show ¬ b < (rm_T S j).length by omega)]
                                refine mp_iret X d_R_mark_143 rfl rfl (by decide) (by decide) ⟨?_, hS9, ⟨_, rfl, fun _ => rfl⟩, hf4.tr (hf9.mono fun o i => rm_WA)⟩
                                rw [hf9.2.2 26 0 (by unfold rm_W; omega)]
                                exact hc4
                              · refine mp_aload_n X 116 d_R_mark_115 rfl rfl rfl ?_
                                refine mp_getf (v := .ref (G.1 + 38)) X 119 lk_R_45_R d_R_mark_116 rfl (hK4.sz (by decide)) hK4.ob hK4.r_text ?_
                                refine mp_iload_n X 120 d_R_mark_119 rfl rfl rfl ?_
                                refine mp_iald (v := .int (nI ((sp_t S j b)))) X 121 (b) d_R_mark_120 rfl (hK4.sz (by decide)) hK4.k_text rfl (by omega) (by decide) (hV4.2.1 _ _ (sp_t_mem (by omega))) ?_
                                refine mp_goto X 125 d_R_mark_121 (by decide) ?_
                                refine mp_istore X 127 (L' := [.val (.ref (G.1 + 26)), .val (.int (nI j)), .val (.int (nI a)), .val (.int (nI b)), .val (.int (nI k)), .val (.int (nI ((sp_t S j b))))]) d_R_mark_125 rfl rfl rfl rfl ?_
                                refine mp_aload_n X 128 d_R_mark_127 rfl rfl rfl ?_
                                refine mp_iload_n X 129 d_R_mark_128 rfl rfl rfl ?_
                                refine mp_iconst X 130 (v := nI 2) d_R_mark_129 rfl (by decide) ?_
                                refine mp_aload_n X 131 d_R_mark_130 rfl rfl rfl ?_
                                refine mp_getf (v := .ref (G.1 + 38)) X 134 lk_R_45_R d_R_mark_131 rfl (hK4.sz (by decide)) hK4.ob hK4.r_text ?_
                                refine mp_iload_n X 135 d_R_mark_134 rfl rfl rfl ?_
                                refine mp_iald (v := .int (nI ((sp_t S j a)))) X 136 (a) d_R_mark_135 rfl (hK4.sz (by decide)) hK4.k_text rfl (by omega) (by decide) (hV4.2.1 _ _ (sp_t_mem (by omega))) ?_
                                refine mp_iload X 138 d_R_mark_136 rfl rfl ?_
                                refine mp_iload X 140 d_R_mark_138 rfl rfl ?_
                                refine mp_call X mp_Ts_ok 143 (rest := []) (k_R_make (j := j) (so := 2) (wh := k) (fi := some (sp_t S j a)) (en := some (sp_t S j b)) (le := 0) _ hK4 hS4 hok hj (by omega) (fun z => by cases z)) Y_R_make in_R (mp_IV X (q := (nR_R, nT_R, 17)) d_R_mark_140 Y_R_make ml_R_91 im_R_make se_R_make (by decide) rfl (by decide) (by show _ = some 5; decide) (hK4.sz (by decide)) hK4.ob) rfl (by decide) (by decide) (by decide) (by decide) rfl (by decide) (fun v h9 hp => ?_) (fun x h9 q hp => hp.elim)
                                obtain ⟨rfl, hS9, hf9⟩ := hp
                                refine mp_eq rfl rfl (st2 := [.int (nI (1 + sp_mx S j))]) rfl ?_
                                rw [if_neg (show ¬ b ≤ a by omega), if_neg q9, if_neg (show ¬ 3 < k by omega), if_pos (show b < (rm_T S j).length by omega)]
                                refine mp_iret X d_R_mark_143 rfl rfl (by decide) (by decide) ⟨?_, hS9, ⟨_, rfl, fun _ => rfl⟩, hf4.tr (hf9.mono fun o i => rm_WA)⟩
                                rw [hf9.2.2 26 0 (by unfold rm_W; omega)]
                                exact hc4
                            · refine mp_aload_n X 97 d_R_mark_96 rfl rfl rfl ?_
                              refine mp_getf (v := .ref (G.1 + 38)) X 100 lk_R_45_R d_R_mark_97 rfl (hK4.sz (by decide)) hK4.ob hK4.r_text ?_
                              refine mp_iload_n X 101 d_R_mark_100 rfl rfl rfl ?_
                              refine mp_iconst X 102 (v := nI 1) d_R_mark_101 rfl (by decide) ?_
                              refine mp_isub X 103 d_R_mark_102 rfl ?_
                              have e13 : nI b - nI 1 = nI (b - 1) := pk_sub (by omega)
                              rw [e13]
                              refine mp_iald (v := .int (nI ((sp_t S j (b - 1))))) X 104 (b - 1) d_R_mark_103 rfl (hK4.sz (by decide)) hK4.k_text rfl (by omega) (by decide) (hV4.2.1 _ _ (sp_t_mem (by omega))) ?_
                              refine mp_goto X 125 d_R_mark_104 (by decide) ?_
                              refine mp_istore X 127 (L' := [.val (.ref (G.1 + 26)), .val (.int (nI j)), .val (.int (nI a)), .val (.int (nI b)), .val (.int (nI k)), .val (.int (nI ((sp_t S j (b - 1)))))]) d_R_mark_125 rfl rfl rfl rfl ?_
                              refine mp_aload_n X 128 d_R_mark_127 rfl rfl rfl ?_
                              refine mp_iload_n X 129 d_R_mark_128 rfl rfl rfl ?_
                              refine mp_iconst X 130 (v := nI 2) d_R_mark_129 rfl (by decide) ?_
                              refine mp_aload_n X 131 d_R_mark_130 rfl rfl rfl ?_
                              refine mp_getf (v := .ref (G.1 + 38)) X 134 lk_R_45_R d_R_mark_131 rfl (hK4.sz (by decide)) hK4.ob hK4.r_text ?_
                              refine mp_iload_n X 135 d_R_mark_134 rfl rfl rfl ?_
                              refine mp_iald (v := .int (nI ((sp_t S j a)))) X 136 (a) d_R_mark_135 rfl (hK4.sz (by decide)) hK4.k_text rfl (by omega) (by decide) (hV4.2.1 _ _ (sp_t_mem (by omega))) ?_
                              refine mp_iload X 138 d_R_mark_136 rfl rfl ?_
                              refine mp_iload X 140 d_R_mark_138 rfl rfl ?_
                              refine mp_call X mp_Ts_ok 143 (rest := []) (k_R_make (j := j) (so := 2) (wh := k) (fi := some (sp_t S j a)) (en := some (sp_t S j (b - 1))) (le := 0) _ hK4 hS4 hok hj (by omega) (fun z => by cases z)) Y_R_make in_R (mp_IV X (q := (nR_R, nT_R, 17)) d_R_mark_140 Y_R_make ml_R_91 im_R_make se_R_make (by decide) rfl (by decide) (by show _ = some 5; decide) (hK4.sz (by decide)) hK4.ob) rfl (by decide) (by decide) (by decide) (by decide) rfl (by decide) (fun v h9 hp => ?_) (fun x h9 q hp => hp.elim)
                              obtain ⟨rfl, hS9, hf9⟩ := hp
                              refine mp_eq rfl rfl (st2 := [.int (nI (1 + sp_mx S j))]) rfl ?_
                              rw [if_neg (show ¬ b ≤ a by omega), if_neg q9, if_pos (show 3 < k by omega)]
                              refine mp_iret X d_R_mark_143 rfl rfl (by decide) (by decide) ⟨?_, hS9, ⟨_, rfl, fun _ => rfl⟩, hf4.tr (hf9.mono fun o i => rm_WA)⟩
                              rw [hf9.2.2 26 0 (by unfold rm_W; omega)]
                              exact hc4
                          · omega
                        · refine mp_iconst X 74 (v := nI 3) d_R_mark_73 rfl (by decide) ?_
                          refine mp_goto X 78 d_R_mark_74 (by decide) ?_
                          refine mp_putf X 81 ls_R_51_R d_R_mark_78 rfl (Or.inl rfl) (hK3.sz (by decide)) hK3.ob rfl rfl ?_
                          obtain ⟨h4, eh4⟩ : ∃ z, z = mp_set h3 26 (0) (.int (nI 3)) := ⟨_, rfl⟩
                          rw [← eh4]
                          have rh4 : ∀ a b, h4.2.1 a b = if a = 26 ∧ b = 0 then .int (nI 3) else h3.2.1 a b := by intro a b; rw [eh4]; rfl
                          have hK4 : rm_K G h4 := by rw [eh4]; exact hK3.st (Or.inr (Or.inl rfl))
                          have hf4 : mp_fr rm_A h h4 := by rw [eh4]; exact hf3.set (by unfold rm_A; omega)
                          have hS4 : rm_S h4 S := by rw [eh4]; exact hS3.cd
                          have hV4 : rm_V h4 S j := by rw [eh4]; exact hV3.st (by omega)
                          have hc4 : h4.2.1 26 0 = .int (nI 3) := by rw [rh4, if_pos ⟨rfl, rfl⟩]
                          refine mp_aload_n X 82 d_R_mark_81 rfl rfl rfl ?_
                          refine mp_getf (v := .int (nI 3)) X 85 lk_R_51_R d_R_mark_82 rfl (hK4.sz (by decide)) hK4.ob hc4 ?_
                          refine mp_Zle X 90 88 d_R_mark_85 (by decide) rfl (by omega) (fun q14 => ?_) (fun q14 => ?_)
                          · omega
                          · refine mp_iconst X 89 (v := nI 0) d_R_mark_88 rfl (by decide) ?_
                            rw [if_neg (show ¬ b ≤ a by omega), if_pos q9]
                            exact mp_iret X d_R_mark_89 rfl rfl (by decide) (by decide) (rm_Z.code hc4 (by decide) hS4 hf4)
                      · omega
                · omega
set_option maxRecDepth 100000 in
set_option maxHeartbeats 4000000 in
theorem k_R_length (l : Launch) {G : mp_G} {h : mp_H} {S : pq_S} {x : Int32} (hK1 : rm_K G h) (hS1 : rm_S h S) (hok : pq_ok S) :
    mp_M G mp_Ts l y_R_length 2 0 0 [.ref (G.1 + 26), .int x] h (rm_Z h (sp_length S x)) (fun _ _ => False) := by
  have hM : S.1 ≤ 90 := hok.1
  have hw := hok.2.1
  have hf1 : mp_fr rm_A h h := mp_fr.rf
  refine mp_enter (by decide) Y_R_length fun E hl X => ?_
  refine mp_eq rfl (L2 := [.val (.ref (G.1 + 26)), .val (.int x)]) rfl rfl ?_
  cases hx : sp_ix 3 x with
  | none =>
    have hz : sp_length S x = (1, 0, S) := by unfold sp_length; rw [hx]
    rw [hz]
    refine mp_aload_n X 1 d_R_length_0 rfl rfl rfl ?_
    refine mp_iload_n X 2 d_R_length_1 rfl rfl rfl ?_
    refine mp_callE X mp_Ts_ok 5 (rest := [.ref (G.1 + 26)]) (k_R_isPageF _ hx) Y_R_isPage in_R (mp_IS X d_R_length_2 Y_R_isPage ml_R_83 st_R_isPage in_R (by decide) (by show _ = some 1; decide)) rfl (by decide) (by decide) (by decide) (by decide) rfl (Nat.le_of_ble_eq_true rfl) rfl ?_
    refine mp_Zeq X 12 8 d_R_length_5 (by decide) rfl (by omega) (fun q1 => ?_) (fun q1 => ?_)
    · refine mp_iconst X 13 (v := nI 1) d_R_length_12 rfl (by decide) ?_
      refine mp_putf X 16 ls_R_51_R d_R_length_13 rfl (Or.inl rfl) (hK1.sz (by decide)) hK1.ob rfl rfl ?_
      obtain ⟨h2, eh2⟩ : ∃ z, z = mp_set h 26 (0) (.int (nI 1)) := ⟨_, rfl⟩
      rw [← eh2]
      have rh2 : ∀ a b, h2.2.1 a b = if a = 26 ∧ b = 0 then .int (nI 1) else h.2.1 a b := by intro a b; rw [eh2]; rfl
      have hK2 : rm_K G h2 := by rw [eh2]; exact hK1.st (Or.inr (Or.inl rfl))
      have hf2 : mp_fr rm_A h h2 := by rw [eh2]; exact hf1.set (by unfold rm_A; omega)
      have hS2 : rm_S h2 S := by rw [eh2]; exact hS1.cd
      have hc2 : h2.2.1 26 0 = .int (nI 1) := by rw [rh2, if_pos ⟨rfl, rfl⟩]
      refine mp_aload_n X 17 d_R_length_16 rfl rfl rfl ?_
      refine mp_getf (v := .int (nI 1)) X 20 lk_R_51_R d_R_length_17 rfl (hK2.sz (by decide)) hK2.ob hc2 ?_
      refine mp_Zle X 25 23 d_R_length_20 (by decide) rfl (by omega) (fun q2 => ?_) (fun q2 => ?_)
      · omega
      · refine mp_iconst X 24 (v := nI 0) d_R_length_23 rfl (by decide) ?_
        exact mp_iret X d_R_length_24 rfl rfl (by decide) (by decide) (rm_Z.code hc2 (by decide) hS2 hf2)
    · exact absurd rfl q1
  | some j =>
    obtain ⟨hj, rfl⟩ := sp_ix_some hx (by decide)
    have hz : sp_length S (nI j) = (0, nI (rm_T S j).length, S) := by unfold sp_length; rw [hx]
    rw [hz]
    refine mp_aload_n X 1 d_R_length_0 rfl rfl rfl ?_
    refine mp_iload_n X 2 d_R_length_1 rfl rfl rfl ?_
    refine mp_callE X mp_Ts_ok 5 (rest := [.ref (G.1 + 26)]) (k_R_isPageT _ hj) Y_R_isPage in_R (mp_IS X d_R_length_2 Y_R_isPage ml_R_83 st_R_isPage in_R (by decide) (by show _ = some 1; decide)) rfl (by decide) (by decide) (by decide) (by decide) rfl (Nat.le_of_ble_eq_true rfl) rfl ?_
    refine mp_Zeq X 12 8 d_R_length_5 (by decide) rfl (by omega) (fun q1 => ?_) (fun q1 => ?_)
    · exact absurd q1 (by decide)
    · refine mp_iconst X 9 (v := nI 0) d_R_length_8 rfl (by decide) ?_
      refine mp_goto X 13 d_R_length_9 (by decide) ?_
      refine mp_putf X 16 ls_R_51_R d_R_length_13 rfl (Or.inl rfl) (hK1.sz (by decide)) hK1.ob rfl rfl ?_
      obtain ⟨h2, eh2⟩ : ∃ z, z = mp_set h 26 (0) (.int (nI 0)) := ⟨_, rfl⟩
      rw [← eh2]
      have rh2 : ∀ a b, h2.2.1 a b = if a = 26 ∧ b = 0 then .int (nI 0) else h.2.1 a b := by intro a b; rw [eh2]; rfl
      have hK2 : rm_K G h2 := by rw [eh2]; exact hK1.st (Or.inr (Or.inl rfl))
      have hf2 : mp_fr rm_A h h2 := by rw [eh2]; exact hf1.set (by unfold rm_A; omega)
      have hS2 : rm_S h2 S := by rw [eh2]; exact hS1.cd
      have hc2 : h2.2.1 26 0 = .int (nI 0) := by rw [rh2, if_pos ⟨rfl, rfl⟩]
      refine mp_aload_n X 17 d_R_length_16 rfl rfl rfl ?_
      refine mp_getf (v := .int (nI 0)) X 20 lk_R_51_R d_R_length_17 rfl (hK2.sz (by decide)) hK2.ob hc2 ?_
      refine mp_Zle X 25 23 d_R_length_20 (by decide) rfl (by omega) (fun q2 => ?_) (fun q2 => ?_)
      · refine mp_aload_n X 26 d_R_length_25 rfl rfl rfl ?_
        refine mp_iload_n X 27 d_R_length_26 rfl rfl rfl ?_
        refine mp_call X mp_Ts_ok 30 (rest := []) (k_R_look _ hK2 hS2 hok hj) Y_R_look in_R (mp_IV X (q := (nR_R, nT_R, 17)) d_R_length_27 Y_R_look ml_R_87 im_R_look se_R_look (by decide) rfl (by decide) (by show _ = some 1; decide) (hK2.sz (by decide)) hK2.ob) rfl (by decide) (by decide) (by decide) (by decide) rfl (by decide) (fun v h3 hp => ?_) (fun x h3 q hp => hp.elim)
        obtain ⟨rfl, hq3, hV3⟩ := hp
        have hK3 : rm_K G h3 := hK2.fr rm_Q (by intro i a b c d; unfold rm_Q; omega) hq3
        have hS3 : rm_S h3 S := hS2.fr (hq3.mono fun o i => rm_QP)
        have hf3 : mp_fr rm_A h h3 := hf2.tr (hq3.mono fun o i => rm_QA)
        refine mp_eq rfl rfl (st2 := []) rfl ?_
        refine mp_aload_n X 31 d_R_length_30 rfl rfl rfl ?_
        refine mp_getf (v := .int (nI ((rm_T S j).length))) X 34 lk_R_61_R d_R_length_31 rfl (hK3.sz (by decide)) hK3.ob hV3.1 ?_
        refine mp_iret X d_R_length_34 rfl rfl (by decide) (by decide) ⟨?_, hS3, ⟨_, rfl, fun _ => rfl⟩, hf3⟩
        rw [hq3.2.2 26 0 (by unfold rm_Q; omega)]
        exact hc2
      · omega
/-- the code of a place that is asked for -/
def sp_fd (S : pq_S) (x p : Int32) : Nat := match sp_ix 3 x with
  | none => 1
  | some j => match sp_ix (rm_T S j).length p with
    | none => 2
    | some _ => 0
def rm_N (h : mp_H) (S : pq_S) (x p : Int32) (v : Option Value) (h' : mp_H) : Prop := h'.2.1 26 0 = .int (nI (sp_fd S x p)) ∧ rm_S h' S ∧ v = some (.int (if sp_fd S x p = 0 then nI 1 else nI 0)) ∧ mp_fr rm_A h h' ∧ ∀ j q, sp_ix 3 x = some j → sp_ix (rm_T S j).length p = some q → rm_V h' S j
set_option maxRecDepth 100000 in
set_option maxHeartbeats 4000000 in
theorem k_R_finds (l : Launch) {G : mp_G} {h : mp_H} {S : pq_S} {x p : Int32} (hK1 : rm_K G h) (hS1 : rm_S h S) (hok : pq_ok S) :
    mp_M G mp_Ts l y_R_finds 2 0 0 [.ref (G.1 + 26), .int x, .int p] h (rm_N h S x p) (fun _ _ => False) := by
  have hM : S.1 ≤ 90 := hok.1
  have hw := hok.2.1
  have hf1 : mp_fr rm_A h h := mp_fr.rf
  refine mp_enter (by decide) Y_R_finds fun E hl X => ?_
  refine mp_eq rfl (L2 := [.val (.ref (G.1 + 26)), .val (.int x), .val (.int p)]) rfl rfl ?_
  cases hx : sp_ix 3 x with
  | none =>
    have hz : sp_fd S x p = 1 := by unfold sp_fd; rw [hx]
    refine mp_aload_n X 1 d_R_finds_0 rfl rfl rfl ?_
    refine mp_iload_n X 2 d_R_finds_1 rfl rfl rfl ?_
    refine mp_callE X mp_Ts_ok 5 (rest := [.ref (G.1 + 26)]) (k_R_isPageF _ hx) Y_R_isPage in_R (mp_IS X d_R_finds_2 Y_R_isPage ml_R_83 st_R_isPage in_R (by decide) (by show _ = some 1; decide)) rfl (by decide) (by decide) (by decide) (by decide) rfl (Nat.le_of_ble_eq_true rfl) rfl ?_
    refine mp_Zeq X 12 8 d_R_finds_5 (by decide) rfl (by omega) (fun q1 => ?_) (fun q1 => ?_)
    · refine mp_iconst X 13 (v := nI 1) d_R_finds_12 rfl (by decide) ?_
      refine mp_putf X 16 ls_R_51_R d_R_finds_13 rfl (Or.inl rfl) (hK1.sz (by decide)) hK1.ob rfl rfl ?_
      obtain ⟨h2, eh2⟩ : ∃ z, z = mp_set h 26 (0) (.int (nI 1)) := ⟨_, rfl⟩
      rw [← eh2]
      have rh2 : ∀ a b, h2.2.1 a b = if a = 26 ∧ b = 0 then .int (nI 1) else h.2.1 a b := by intro a b; rw [eh2]; rfl
      have hK2 : rm_K G h2 := by rw [eh2]; exact hK1.st (Or.inr (Or.inl rfl))
      have hf2 : mp_fr rm_A h h2 := by rw [eh2]; exact hf1.set (by unfold rm_A; omega)
      have hS2 : rm_S h2 S := by rw [eh2]; exact hS1.cd
      have hc2 : h2.2.1 26 0 = .int (nI 1) := by rw [rh2, if_pos ⟨rfl, rfl⟩]
      refine mp_aload_n X 17 d_R_finds_16 rfl rfl rfl ?_
      refine mp_getf (v := .int (nI 1)) X 20 lk_R_51_R d_R_finds_17 rfl (hK2.sz (by decide)) hK2.ob hc2 ?_
      refine mp_Zne X 49 23 d_R_finds_20 (by decide) rfl (by omega) (fun q2 => ?_) (fun q2 => ?_)
      · refine mp_aload_n X 50 d_R_finds_49 rfl rfl rfl ?_
        refine mp_getf (v := .int (nI 1)) X 53 lk_R_51_R d_R_finds_50 rfl (hK2.sz (by decide)) hK2.ob hc2 ?_
        refine mp_Zne X 60 56 d_R_finds_53 (by decide) rfl (by omega) (fun q3 => ?_) (fun q3 => ?_)
        · refine mp_iconst X 61 (v := nI 0) d_R_finds_60 rfl (by decide) ?_
          exact mp_iret X d_R_finds_61 rfl rfl (by decide) (by decide) ⟨by rw [hz]; exact hc2, hS2, by rw [hz]; rfl, hf2, fun j q hj9 => by rw [hx] at hj9; cases hj9⟩
        · omega
      · omega
    · exact absurd rfl q1
  | some j =>
    obtain ⟨hj, rfl⟩ := sp_ix_some hx (by decide)
    have hTl := sp_T_len hok hj
    cases hp0 : sp_ix (rm_T S j).length p with
    | none =>
      have hz : sp_fd S (nI j) p = 2 := by unfold sp_fd; rw [hx]; simp only []; rw [hp0]
      refine mp_aload_n X 1 d_R_finds_0 rfl rfl rfl ?_
      refine mp_iload_n X 2 d_R_finds_1 rfl rfl rfl ?_
      refine mp_callE X mp_Ts_ok 5 (rest := [.ref (G.1 + 26)]) (k_R_isPageT _ hj) Y_R_isPage in_R (mp_IS X d_R_finds_2 Y_R_isPage ml_R_83 st_R_isPage in_R (by decide) (by show _ = some 1; decide)) rfl (by decide) (by decide) (by decide) (by decide) rfl (Nat.le_of_ble_eq_true rfl) rfl ?_
      refine mp_Zeq X 12 8 d_R_finds_5 (by decide) rfl (by omega) (fun q1 => ?_) (fun q1 => ?_)
      · exact absurd q1 (by decide)
      · refine mp_iconst X 9 (v := nI 0) d_R_finds_8 rfl (by decide) ?_
        refine mp_goto X 13 d_R_finds_9 (by decide) ?_
        refine mp_putf X 16 ls_R_51_R d_R_finds_13 rfl (Or.inl rfl) (hK1.sz (by decide)) hK1.ob rfl rfl ?_
        obtain ⟨h2, eh2⟩ : ∃ z, z = mp_set h 26 (0) (.int (nI 0)) := ⟨_, rfl⟩
        rw [← eh2]
        have rh2 : ∀ a b, h2.2.1 a b = if a = 26 ∧ b = 0 then .int (nI 0) else h.2.1 a b := by intro a b; rw [eh2]; rfl
        have hK2 : rm_K G h2 := by rw [eh2]; exact hK1.st (Or.inr (Or.inl rfl))
        have hf2 : mp_fr rm_A h h2 := by rw [eh2]; exact hf1.set (by unfold rm_A; omega)
        have hS2 : rm_S h2 S := by rw [eh2]; exact hS1.cd
        have hc2 : h2.2.1 26 0 = .int (nI 0) := by rw [rh2, if_pos ⟨rfl, rfl⟩]
        refine mp_aload_n X 17 d_R_finds_16 rfl rfl rfl ?_
        refine mp_getf (v := .int (nI 0)) X 20 lk_R_51_R d_R_finds_17 rfl (hK2.sz (by decide)) hK2.ob hc2 ?_
        refine mp_Zne X 49 23 d_R_finds_20 (by decide) rfl (by omega) (fun q2 => ?_) (fun q2 => ?_)
        · exact absurd rfl q2
        · refine mp_aload_n X 24 d_R_finds_23 rfl rfl rfl ?_
          refine mp_iload_n X 25 d_R_finds_24 rfl rfl rfl ?_
          refine mp_call X mp_Ts_ok 28 (rest := []) (k_R_look _ hK2 hS2 hok hj) Y_R_look in_R (mp_IV X (q := (nR_R, nT_R, 17)) d_R_finds_25 Y_R_look ml_R_87 im_R_look se_R_look (by decide) rfl (by decide) (by show _ = some 1; decide) (hK2.sz (by decide)) hK2.ob) rfl (by decide) (by decide) (by decide) (by decide) rfl (by decide) (fun v h3 hp => ?_) (fun x h3 q hp => hp.elim)
          obtain ⟨rfl, hq3, hV3⟩ := hp
          have hK3 : rm_K G h3 := hK2.fr rm_Q (by intro i a b c d; unfold rm_Q; omega) hq3
          have hS3 : rm_S h3 S := hS2.fr (hq3.mono fun o i => rm_QP)
          have hf3 : mp_fr rm_A h h3 := hf2.tr (hq3.mono fun o i => rm_QA)
          refine mp_eq rfl rfl (st2 := []) rfl ?_
          refine mp_aload_n X 29 d_R_finds_28 rfl rfl rfl ?_
          refine mp_iload_n X 30 d_R_finds_29 rfl rfl rfl ?_
          refine mp_if_lt X 41 33 d_R_finds_30 (by decide) rfl (fun q3 => ?_) (fun q3 => ?_)
          · refine mp_iconst X 42 (v := nI 2) d_R_finds_41 rfl (by decide) ?_
            refine mp_goto X 46 d_R_finds_42 (by decide) ?_
            refine mp_putf X 49 ls_R_51_R d_R_finds_46 rfl (Or.inl rfl) (hK3.sz (by decide)) hK3.ob rfl rfl ?_
            obtain ⟨h4, eh4⟩ : ∃ z, z = mp_set h3 26 (0) (.int (nI 2)) := ⟨_, rfl⟩
            rw [← eh4]
            have rh4 : ∀ a b, h4.2.1 a b = if a = 26 ∧ b = 0 then .int (nI 2) else h3.2.1 a b := by intro a b; rw [eh4]; rfl
            have hK4 : rm_K G h4 := by rw [eh4]; exact hK3.st (Or.inr (Or.inl rfl))
            have hf4 : mp_fr rm_A h h4 := by rw [eh4]; exact hf3.set (by unfold rm_A; omega)
            have hS4 : rm_S h4 S := by rw [eh4]; exact hS3.cd
            have hV4 : rm_V h4 S j := by rw [eh4]; exact hV3.st (by omega)
            have hc4 : h4.2.1 26 0 = .int (nI 2) := by rw [rh4, if_pos ⟨rfl, rfl⟩]
            refine mp_aload_n X 50 d_R_finds_49 rfl rfl rfl ?_
            refine mp_getf (v := .int (nI 2)) X 53 lk_R_51_R d_R_finds_50 rfl (hK4.sz (by decide)) hK4.ob hc4 ?_
            refine mp_Zne X 60 56 d_R_finds_53 (by decide) rfl (by omega) (fun q4 => ?_) (fun q4 => ?_)
            · refine mp_iconst X 61 (v := nI 0) d_R_finds_60 rfl (by decide) ?_
              exact mp_iret X d_R_finds_61 rfl rfl (by decide) (by decide) ⟨by rw [hz]; exact hc4, hS4, by rw [hz]; rfl, hf4, fun j9 q hj9 hq9 => by rw [hx] at hj9; cases hj9; rw [hp0] at hq9; cases hq9⟩
            · omega
          · refine mp_iload_n X 34 d_R_finds_33 rfl rfl rfl ?_
            refine mp_aload_n X 35 d_R_finds_34 rfl rfl rfl ?_
            refine mp_getf (v := .int (nI ((rm_T S j).length))) X 38 lk_R_61_R d_R_finds_35 rfl (hK3.sz (by decide)) hK3.ob hV3.1 ?_
            refine mp_icmp_lt X 45 41 d_R_finds_38 (by decide) rfl (fun q5 => ?_) (fun q5 => ?_)
            · exfalso; obtain ⟨q0, hq0, rfl⟩ := nI_of q3; have := (nI_ltI hq0 (by omega)).mp q5; rw [sp_ix_of (by omega) (by omega)] at hp0; cases hp0
            · refine mp_iconst X 42 (v := nI 2) d_R_finds_41 rfl (by decide) ?_
              refine mp_goto X 46 d_R_finds_42 (by decide) ?_
              refine mp_putf X 49 ls_R_51_R d_R_finds_46 rfl (Or.inl rfl) (hK3.sz (by decide)) hK3.ob rfl rfl ?_
              obtain ⟨h4, eh4⟩ : ∃ z, z = mp_set h3 26 (0) (.int (nI 2)) := ⟨_, rfl⟩
              rw [← eh4]
              have rh4 : ∀ a b, h4.2.1 a b = if a = 26 ∧ b = 0 then .int (nI 2) else h3.2.1 a b := by intro a b; rw [eh4]; rfl
              have hK4 : rm_K G h4 := by rw [eh4]; exact hK3.st (Or.inr (Or.inl rfl))
              have hf4 : mp_fr rm_A h h4 := by rw [eh4]; exact hf3.set (by unfold rm_A; omega)
              have hS4 : rm_S h4 S := by rw [eh4]; exact hS3.cd
              have hV4 : rm_V h4 S j := by rw [eh4]; exact hV3.st (by omega)
              have hc4 : h4.2.1 26 0 = .int (nI 2) := by rw [rh4, if_pos ⟨rfl, rfl⟩]
              refine mp_aload_n X 50 d_R_finds_49 rfl rfl rfl ?_
              refine mp_getf (v := .int (nI 2)) X 53 lk_R_51_R d_R_finds_50 rfl (hK4.sz (by decide)) hK4.ob hc4 ?_
              refine mp_Zne X 60 56 d_R_finds_53 (by decide) rfl (by omega) (fun q6 => ?_) (fun q6 => ?_)
              · refine mp_iconst X 61 (v := nI 0) d_R_finds_60 rfl (by decide) ?_
                exact mp_iret X d_R_finds_61 rfl rfl (by decide) (by decide) ⟨by rw [hz]; exact hc4, hS4, by rw [hz]; rfl, hf4, fun j9 q hj9 hq9 => by rw [hx] at hj9; cases hj9; rw [hp0] at hq9; cases hq9⟩
              · omega
    | some q =>
      obtain ⟨hq, rfl⟩ := sp_ix_some hp0 (by omega)
      have hz : sp_fd S (nI j) (nI q) = 0 := by unfold sp_fd; rw [hx]; simp only []; rw [hp0]
      refine mp_aload_n X 1 d_R_finds_0 rfl rfl rfl ?_
      refine mp_iload_n X 2 d_R_finds_1 rfl rfl rfl ?_
      refine mp_callE X mp_Ts_ok 5 (rest := [.ref (G.1 + 26)]) (k_R_isPageT _ hj) Y_R_isPage in_R (mp_IS X d_R_finds_2 Y_R_isPage ml_R_83 st_R_isPage in_R (by decide) (by show _ = some 1; decide)) rfl (by decide) (by decide) (by decide) (by decide) rfl (Nat.le_of_ble_eq_true rfl) rfl ?_
      refine mp_Zeq X 12 8 d_R_finds_5 (by decide) rfl (by omega) (fun q1 => ?_) (fun q1 => ?_)
      · exact absurd q1 (by decide)
      · refine mp_iconst X 9 (v := nI 0) d_R_finds_8 rfl (by decide) ?_
        refine mp_goto X 13 d_R_finds_9 (by decide) ?_
        refine mp_putf X 16 ls_R_51_R d_R_finds_13 rfl (Or.inl rfl) (hK1.sz (by decide)) hK1.ob rfl rfl ?_
        obtain ⟨h2, eh2⟩ : ∃ z, z = mp_set h 26 (0) (.int (nI 0)) := ⟨_, rfl⟩
        rw [← eh2]
        have rh2 : ∀ a b, h2.2.1 a b = if a = 26 ∧ b = 0 then .int (nI 0) else h.2.1 a b := by intro a b; rw [eh2]; rfl
        have hK2 : rm_K G h2 := by rw [eh2]; exact hK1.st (Or.inr (Or.inl rfl))
        have hf2 : mp_fr rm_A h h2 := by rw [eh2]; exact hf1.set (by unfold rm_A; omega)
        have hS2 : rm_S h2 S := by rw [eh2]; exact hS1.cd
        have hc2 : h2.2.1 26 0 = .int (nI 0) := by rw [rh2, if_pos ⟨rfl, rfl⟩]
        refine mp_aload_n X 17 d_R_finds_16 rfl rfl rfl ?_
        refine mp_getf (v := .int (nI 0)) X 20 lk_R_51_R d_R_finds_17 rfl (hK2.sz (by decide)) hK2.ob hc2 ?_
        refine mp_Zne X 49 23 d_R_finds_20 (by decide) rfl (by omega) (fun q2 => ?_) (fun q2 => ?_)
        · exact absurd rfl q2
        · refine mp_aload_n X 24 d_R_finds_23 rfl rfl rfl ?_
          refine mp_iload_n X 25 d_R_finds_24 rfl rfl rfl ?_
          refine mp_call X mp_Ts_ok 28 (rest := []) (k_R_look _ hK2 hS2 hok hj) Y_R_look in_R (mp_IV X (q := (nR_R, nT_R, 17)) d_R_finds_25 Y_R_look ml_R_87 im_R_look se_R_look (by decide) rfl (by decide) (by show _ = some 1; decide) (hK2.sz (by decide)) hK2.ob) rfl (by decide) (by decide) (by decide) (by decide) rfl (by decide) (fun v h3 hp => ?_) (fun x h3 q hp => hp.elim)
          obtain ⟨rfl, hq3, hV3⟩ := hp
          have hK3 : rm_K G h3 := hK2.fr rm_Q (by intro i a b c d; unfold rm_Q; omega) hq3
          have hS3 : rm_S h3 S := hS2.fr (hq3.mono fun o i => rm_QP)
          have hf3 : mp_fr rm_A h h3 := hf2.tr (hq3.mono fun o i => rm_QA)
          refine mp_eq rfl rfl (st2 := []) rfl ?_
          refine mp_aload_n X 29 d_R_finds_28 rfl rfl rfl ?_
          refine mp_iload_n X 30 d_R_finds_29 rfl rfl rfl ?_
          refine mp_Zlt X 41 33 d_R_finds_30 (by decide) rfl (by omega) (fun q3 => ?_) (fun q3 => ?_)
          · exact q3.elim
          · refine mp_iload_n X 34 d_R_finds_33 rfl rfl rfl ?_
            refine mp_aload_n X 35 d_R_finds_34 rfl rfl rfl ?_
            refine mp_getf (v := .int (nI ((rm_T S j).length))) X 38 lk_R_61_R d_R_finds_35 rfl (hK3.sz (by decide)) hK3.ob hV3.1 ?_
            refine mp_Nlt X 45 41 d_R_finds_38 (by decide) rfl (by omega) (by omega) (fun q4 => ?_) (fun q4 => ?_)
            · refine mp_iconst X 46 (v := nI 0) d_R_finds_45 rfl (by decide) ?_
              refine mp_putf X 49 ls_R_51_R d_R_finds_46 rfl (Or.inl rfl) (hK3.sz (by decide)) hK3.ob rfl rfl ?_
              obtain ⟨h4, eh4⟩ : ∃ z, z = mp_set h3 26 (0) (.int (nI 0)) := ⟨_, rfl⟩
              rw [← eh4]
              have rh4 : ∀ a b, h4.2.1 a b = if a = 26 ∧ b = 0 then .int (nI 0) else h3.2.1 a b := by intro a b; rw [eh4]; rfl
              have hK4 : rm_K G h4 := by rw [eh4]; exact hK3.st (Or.inr (Or.inl rfl))
              have hf4 : mp_fr rm_A h h4 := by rw [eh4]; exact hf3.set (by unfold rm_A; omega)
              have hS4 : rm_S h4 S := by rw [eh4]; exact hS3.cd
              have hV4 : rm_V h4 S j := by rw [eh4]; exact hV3.st (by omega)
              have hc4 : h4.2.1 26 0 = .int (nI 0) := by rw [rh4, if_pos ⟨rfl, rfl⟩]
              refine mp_aload_n X 50 d_R_finds_49 rfl rfl rfl ?_
              refine mp_getf (v := .int (nI 0)) X 53 lk_R_51_R d_R_finds_50 rfl (hK4.sz (by decide)) hK4.ob hc4 ?_
              refine mp_Zne X 60 56 d_R_finds_53 (by decide) rfl (by omega) (fun q5 => ?_) (fun q5 => ?_)
              · exact absurd rfl q5
              · refine mp_iconst X 57 (v := nI 1) d_R_finds_56 rfl (by decide) ?_
                refine mp_goto X 61 d_R_finds_57 (by decide) ?_
                exact mp_iret X d_R_finds_61 rfl rfl (by decide) (by decide) ⟨by rw [hz]; exact hc4, hS4, by rw [hz]; rfl, hf4, fun j9 q9 hj9 hq9 => by rw [hx] at hj9; cases hj9; exact hV4⟩
            · omega
set_option maxRecDepth 100000 in
set_option maxHeartbeats 4000000 in
theorem k_R_at (l : Launch) {G : mp_G} {h : mp_H} {S : pq_S} {x p : Int32} (hK1 : rm_K G h) (hS1 : rm_S h S) (hok : pq_ok S) (hcl : ∀ k, k < S.1 → pq_so S.2.1 k = 0 → narrow .char (.int (pq_le S.2.1 k)) = .int (pq_le S.2.1 k)) :
    mp_M G mp_Ts l y_R_at 3 0 0 [.ref (G.1 + 26), .int x, .int p] h (rm_Z h (sp_at S x p)) (fun _ _ => False) := by
  have hM : S.1 ≤ 90 := hok.1
  have hw := hok.2.1
  have hf1 : mp_fr rm_A h h := mp_fr.rf
  refine mp_enter (by decide) Y_R_at fun E hl X => ?_
  refine mp_eq rfl (L2 := [.val (.ref (G.1 + 26)), .val (.int x), .val (.int p)]) rfl rfl ?_
  cases hx : sp_ix 3 x with
  | none =>
    have hz : sp_at S x p = (1, 0, S) := by unfold sp_at sp_get; rw [hx]
    have hfd : sp_fd S x p = 1 := by unfold sp_fd; rw [hx]
    rw [hz]
    refine mp_aload_n X 1 d_R_at_0 rfl rfl rfl ?_
    refine mp_iload_n X 2 d_R_at_1 rfl rfl rfl ?_
    refine mp_iload_n X 3 d_R_at_2 rfl rfl rfl ?_
    refine mp_call X mp_Ts_ok 6 (rest := []) (k_R_finds _ hK1 hS1 hok) Y_R_finds in_R (mp_IV X (q := (nR_R, nT_R, 17)) d_R_at_3 Y_R_finds ml_R_95 im_R_finds se_R_finds (by decide) rfl (by decide) (by show _ = some 2; decide) (hK1.sz (by decide)) hK1.ob) rfl (by decide) (by decide) (by decide) (by decide) rfl (by decide) (fun v h2 hp => ?_) (fun x h2 q hp => hp.elim)
    obtain ⟨hc2, hS2, hv, hf2, hV2⟩ := hp
    rw [hfd] at hc2 hv
    subst hv
    have hK2 : rm_K G h2 := rm_K.frA hK1 hf2
    refine mp_eq rfl rfl (st2 := [.int (nI 0)]) rfl ?_
    refine mp_Zeq X 23 9 d_R_at_6 (by decide) rfl (by omega) (fun q1 => ?_) (fun q1 => ?_)
    · refine mp_iconst X 24 (v := nI 0) d_R_at_23 rfl (by decide) ?_
      exact mp_iret X d_R_at_24 rfl rfl (by decide) (by decide) (rm_Z.code hc2 (by decide) hS2 hf2)
    · exact absurd rfl q1
  | some j =>
    obtain ⟨hj, rfl⟩ := sp_ix_some hx (by decide)
    have hTl := sp_T_len hok hj
    cases hp0 : sp_ix (rm_T S j).length p with
    | none =>
      have hz : sp_at S (nI j) p = (2, 0, S) := by unfold sp_at sp_get; rw [hx]; simp only []; rw [hp0]
      have hfd : sp_fd S (nI j) p = 2 := by unfold sp_fd; rw [hx]; simp only []; rw [hp0]
      rw [hz]
      refine mp_aload_n X 1 d_R_at_0 rfl rfl rfl ?_
      refine mp_iload_n X 2 d_R_at_1 rfl rfl rfl ?_
      refine mp_iload_n X 3 d_R_at_2 rfl rfl rfl ?_
      refine mp_call X mp_Ts_ok 6 (rest := []) (k_R_finds _ hK1 hS1 hok) Y_R_finds in_R (mp_IV X (q := (nR_R, nT_R, 17)) d_R_at_3 Y_R_finds ml_R_95 im_R_finds se_R_finds (by decide) rfl (by decide) (by show _ = some 2; decide) (hK1.sz (by decide)) hK1.ob) rfl (by decide) (by decide) (by decide) (by decide) rfl (by decide) (fun v h2 hp => ?_) (fun x h2 q hp => hp.elim)
      obtain ⟨hc2, hS2, hv, hf2, hV2⟩ := hp
      rw [hfd] at hc2 hv
      subst hv
      have hK2 : rm_K G h2 := rm_K.frA hK1 hf2
      refine mp_eq rfl rfl (st2 := [.int (nI 0)]) rfl ?_
      refine mp_Zeq X 23 9 d_R_at_6 (by decide) rfl (by omega) (fun q1 => ?_) (fun q1 => ?_)
      · refine mp_iconst X 24 (v := nI 0) d_R_at_23 rfl (by decide) ?_
        exact mp_iret X d_R_at_24 rfl rfl (by decide) (by decide) (rm_Z.code hc2 (by decide) hS2 hf2)
      · exact absurd rfl q1
    | some q =>
      obtain ⟨hq, rfl⟩ := sp_ix_some hp0 (by omega)
      have hz : sp_at S (nI j) (nI q) = (0, pq_le S.2.1 (sp_t S j q), S) := by unfold sp_at sp_get; rw [hx]; simp only []; rw [hp0]
      have hfd : sp_fd S (nI j) (nI q) = 0 := by unfold sp_fd; rw [hx]; simp only []; rw [hp0]
      rw [hz]
      have htr := sp_t_row hq
      obtain ⟨htM, htso, -, -⟩ := rm_row_lt hw (hok.2.2.1 j hj) htr
      refine mp_aload_n X 1 d_R_at_0 rfl rfl rfl ?_
      refine mp_iload_n X 2 d_R_at_1 rfl rfl rfl ?_
      refine mp_iload_n X 3 d_R_at_2 rfl rfl rfl ?_
      refine mp_call X mp_Ts_ok 6 (rest := []) (k_R_finds _ hK1 hS1 hok) Y_R_finds in_R (mp_IV X (q := (nR_R, nT_R, 17)) d_R_at_3 Y_R_finds ml_R_95 im_R_finds se_R_finds (by decide) rfl (by decide) (by show _ = some 2; decide) (hK1.sz (by decide)) hK1.ob) rfl (by decide) (by decide) (by decide) (by decide) rfl (by decide) (fun v h2 hp => ?_) (fun x h2 q hp => hp.elim)
      obtain ⟨hc2, hS2, hv, hf2, hV2⟩ := hp
      rw [hfd] at hc2 hv
      subst hv
      have hK2 : rm_K G h2 := rm_K.frA hK1 hf2
      have hV2 := hV2 j q hx hp0
      refine mp_eq rfl rfl (st2 := [.int (nI 1)]) rfl ?_
      refine mp_Zeq X 23 9 d_R_at_6 (by decide) rfl (by omega) (fun q1 => ?_) (fun q1 => ?_)
      · exact absurd q1 (by decide)
      · refine mp_aload_n X 10 d_R_at_9 rfl rfl rfl ?_
        refine mp_getf (v := .ref (G.1 + 32)) X 13 lk_R_25_R d_R_at_10 rfl (hK2.sz (by decide)) hK2.ob hK2.r_letters ?_
        refine mp_aload_n X 14 d_R_at_13 rfl rfl rfl ?_
        refine mp_getf (v := .ref (G.1 + 38)) X 17 lk_R_45_R d_R_at_14 rfl (hK2.sz (by decide)) hK2.ob hK2.r_text ?_
        refine mp_iload_n X 18 d_R_at_17 rfl rfl rfl ?_
        refine mp_iald (v := .int (nI ((sp_t S j q)))) X 19 (q) d_R_at_18 rfl (hK2.sz (by decide)) hK2.k_text rfl (by omega) (by decide) (hV2.2.1 _ _ (sp_t_mem hq)) ?_
        refine mp_cald (v := .int (pq_le S.2.1 (sp_t S j q))) X 20 ((sp_t S j q)) d_R_at_19 rfl (hK2.sz (by decide)) hK2.k_letters rfl (by omega) (by decide) ((hS2.2.1 _ htM).2.2.2.2.2 htso) ?_
        refine mp_goto X 24 d_R_at_20 (by decide) ?_
        exact mp_iret X d_R_at_24 rfl (hcl _ htM htso) (by decide) (by decide) ⟨hc2, hS2, ⟨_, rfl, fun _ => rfl⟩, hf2⟩
set_option maxRecDepth 100000 in
set_option maxHeartbeats 4000000 in
theorem k_R_id (l : Launch) {G : mp_G} {h : mp_H} {S : pq_S} {x p : Int32} (hK1 : rm_K G h) (hS1 : rm_S h S) (hok : pq_ok S) :
    mp_M G mp_Ts l y_R_id 3 0 0 [.ref (G.1 + 26), .int x, .int p] h (rm_Z h (sp_id S x p)) (fun _ _ => False) := by
  have hM : S.1 ≤ 90 := hok.1
  have hw := hok.2.1
  have hf1 : mp_fr rm_A h h := mp_fr.rf
  refine mp_enter (by decide) Y_R_id fun E hl X => ?_
  refine mp_eq rfl (L2 := [.val (.ref (G.1 + 26)), .val (.int x), .val (.int p)]) rfl rfl ?_
  cases hx : sp_ix 3 x with
  | none =>
    have hz : sp_id S x p = (1, 0, S) := by unfold sp_id sp_get; rw [hx]
    have hfd : sp_fd S x p = 1 := by unfold sp_fd; rw [hx]
    rw [hz]
    refine mp_aload_n X 1 d_R_id_0 rfl rfl rfl ?_
    refine mp_iload_n X 2 d_R_id_1 rfl rfl rfl ?_
    refine mp_iload_n X 3 d_R_id_2 rfl rfl rfl ?_
    refine mp_call X mp_Ts_ok 6 (rest := []) (k_R_finds _ hK1 hS1 hok) Y_R_finds in_R (mp_IV X (q := (nR_R, nT_R, 17)) d_R_id_3 Y_R_finds ml_R_95 im_R_finds se_R_finds (by decide) rfl (by decide) (by show _ = some 2; decide) (hK1.sz (by decide)) hK1.ob) rfl (by decide) (by decide) (by decide) (by decide) rfl (by decide) (fun v h2 hp => ?_) (fun x h2 q hp => hp.elim)
    obtain ⟨hc2, hS2, hv, hf2, hV2⟩ := hp
    rw [hfd] at hc2 hv
    subst hv
    have hK2 : rm_K G h2 := rm_K.frA hK1 hf2
    refine mp_eq rfl rfl (st2 := [.int (nI 0)]) rfl ?_
    refine mp_Zeq X 23 9 d_R_id_6 (by decide) rfl (by omega) (fun q1 => ?_) (fun q1 => ?_)
    · refine mp_iconst X 24 (v := nI 0) d_R_id_23 rfl (by decide) ?_
      exact mp_iret X d_R_id_24 rfl rfl (by decide) (by decide) (rm_Z.code hc2 (by decide) hS2 hf2)
    · exact absurd rfl q1
  | some j =>
    obtain ⟨hj, rfl⟩ := sp_ix_some hx (by decide)
    have hTl := sp_T_len hok hj
    cases hp0 : sp_ix (rm_T S j).length p with
    | none =>
      have hz : sp_id S (nI j) p = (2, 0, S) := by unfold sp_id sp_get; rw [hx]; simp only []; rw [hp0]
      have hfd : sp_fd S (nI j) p = 2 := by unfold sp_fd; rw [hx]; simp only []; rw [hp0]
      rw [hz]
      refine mp_aload_n X 1 d_R_id_0 rfl rfl rfl ?_
      refine mp_iload_n X 2 d_R_id_1 rfl rfl rfl ?_
      refine mp_iload_n X 3 d_R_id_2 rfl rfl rfl ?_
      refine mp_call X mp_Ts_ok 6 (rest := []) (k_R_finds _ hK1 hS1 hok) Y_R_finds in_R (mp_IV X (q := (nR_R, nT_R, 17)) d_R_id_3 Y_R_finds ml_R_95 im_R_finds se_R_finds (by decide) rfl (by decide) (by show _ = some 2; decide) (hK1.sz (by decide)) hK1.ob) rfl (by decide) (by decide) (by decide) (by decide) rfl (by decide) (fun v h2 hp => ?_) (fun x h2 q hp => hp.elim)
      obtain ⟨hc2, hS2, hv, hf2, hV2⟩ := hp
      rw [hfd] at hc2 hv
      subst hv
      have hK2 : rm_K G h2 := rm_K.frA hK1 hf2
      refine mp_eq rfl rfl (st2 := [.int (nI 0)]) rfl ?_
      refine mp_Zeq X 23 9 d_R_id_6 (by decide) rfl (by omega) (fun q1 => ?_) (fun q1 => ?_)
      · refine mp_iconst X 24 (v := nI 0) d_R_id_23 rfl (by decide) ?_
        exact mp_iret X d_R_id_24 rfl rfl (by decide) (by decide) (rm_Z.code hc2 (by decide) hS2 hf2)
      · exact absurd rfl q1
    | some q =>
      obtain ⟨hq, rfl⟩ := sp_ix_some hp0 (by omega)
      have hz : sp_id S (nI j) (nI q) = (0, nI (pq_id S.2.1 (sp_t S j q)), S) := by unfold sp_id sp_get; rw [hx]; simp only []; rw [hp0]
      have hfd : sp_fd S (nI j) (nI q) = 0 := by unfold sp_fd; rw [hx]; simp only []; rw [hp0]
      rw [hz]
      have htr := sp_t_row hq
      obtain ⟨htM, htso, -, -⟩ := rm_row_lt hw (hok.2.2.1 j hj) htr
      refine mp_aload_n X 1 d_R_id_0 rfl rfl rfl ?_
      refine mp_iload_n X 2 d_R_id_1 rfl rfl rfl ?_
      refine mp_iload_n X 3 d_R_id_2 rfl rfl rfl ?_
      refine mp_call X mp_Ts_ok 6 (rest := []) (k_R_finds _ hK1 hS1 hok) Y_R_finds in_R (mp_IV X (q := (nR_R, nT_R, 17)) d_R_id_3 Y_R_finds ml_R_95 im_R_finds se_R_finds (by decide) rfl (by decide) (by show _ = some 2; decide) (hK1.sz (by decide)) hK1.ob) rfl (by decide) (by decide) (by decide) (by decide) rfl (by decide) (fun v h2 hp => ?_) (fun x h2 q hp => hp.elim)
      obtain ⟨hc2, hS2, hv, hf2, hV2⟩ := hp
      rw [hfd] at hc2 hv
      subst hv
      have hK2 : rm_K G h2 := rm_K.frA hK1 hf2
      have hV2 := hV2 j q hx hp0
      refine mp_eq rfl rfl (st2 := [.int (nI 1)]) rfl ?_
      refine mp_Zeq X 23 9 d_R_id_6 (by decide) rfl (by omega) (fun q1 => ?_) (fun q1 => ?_)
      · exact absurd q1 (by decide)
      · refine mp_aload_n X 10 d_R_id_9 rfl rfl rfl ?_
        refine mp_getf (v := .ref (G.1 + 28)) X 13 lk_R_13_R d_R_id_10 rfl (hK2.sz (by decide)) hK2.ob hK2.r_ids ?_
        refine mp_aload_n X 14 d_R_id_13 rfl rfl rfl ?_
        refine mp_getf (v := .ref (G.1 + 38)) X 17 lk_R_45_R d_R_id_14 rfl (hK2.sz (by decide)) hK2.ob hK2.r_text ?_
        refine mp_iload_n X 18 d_R_id_17 rfl rfl rfl ?_
        refine mp_iald (v := .int (nI ((sp_t S j q)))) X 19 (q) d_R_id_18 rfl (hK2.sz (by decide)) hK2.k_text rfl (by omega) (by decide) (hV2.2.1 _ _ (sp_t_mem hq)) ?_
        refine mp_iald (v := .int (nI ((pq_id S.2.1 (sp_t S j q))))) X 20 ((sp_t S j q)) d_R_id_19 rfl (hK2.sz (by decide)) hK2.k_ids rfl (by omega) (by decide) ((hS2.2.1 _ htM).2.1) ?_
        refine mp_goto X 24 d_R_id_20 (by decide) ?_
        exact mp_iret X d_R_id_24 rfl rfl (by decide) (by decide) ⟨hc2, hS2, ⟨_, rfl, fun _ => rfl⟩, hf2⟩
set_option maxRecDepth 100000 in
set_option maxHeartbeats 4000000 in
theorem k_R_format (l : Launch) {G : mp_G} {h : mp_H} {S : pq_S} {x p : Int32} (hK1 : rm_K G h) (hS1 : rm_S h S) (hok : pq_ok S) :
    mp_M G mp_Ts l y_R_format 3 0 0 [.ref (G.1 + 26), .int x, .int p] h (rm_Z h (sp_format S x p)) (fun _ _ => False) := by
  have hM : S.1 ≤ 90 := hok.1
  have hw := hok.2.1
  have hf1 : mp_fr rm_A h h := mp_fr.rf
  refine mp_enter (by decide) Y_R_format fun E hl X => ?_
  refine mp_eq rfl (L2 := [.val (.ref (G.1 + 26)), .val (.int x), .val (.int p)]) rfl rfl ?_
  cases hx : sp_ix 3 x with
  | none =>
    have hz : sp_format S x p = (1, 0, S) := by unfold sp_format sp_get; rw [hx]
    have hfd : sp_fd S x p = 1 := by unfold sp_fd; rw [hx]
    rw [hz]
    refine mp_aload_n X 1 d_R_format_0 rfl rfl rfl ?_
    refine mp_iload_n X 2 d_R_format_1 rfl rfl rfl ?_
    refine mp_iload_n X 3 d_R_format_2 rfl rfl rfl ?_
    refine mp_call X mp_Ts_ok 6 (rest := []) (k_R_finds _ hK1 hS1 hok) Y_R_finds in_R (mp_IV X (q := (nR_R, nT_R, 17)) d_R_format_3 Y_R_finds ml_R_95 im_R_finds se_R_finds (by decide) rfl (by decide) (by show _ = some 2; decide) (hK1.sz (by decide)) hK1.ob) rfl (by decide) (by decide) (by decide) (by decide) rfl (by decide) (fun v h2 hp => ?_) (fun x h2 q hp => hp.elim)
    obtain ⟨hc2, hS2, hv, hf2, hV2⟩ := hp
    rw [hfd] at hc2 hv
    subst hv
    have hK2 : rm_K G h2 := rm_K.frA hK1 hf2
    refine mp_eq rfl rfl (st2 := [.int (nI 0)]) rfl ?_
    refine mp_Zeq X 23 9 d_R_format_6 (by decide) rfl (by omega) (fun q1 => ?_) (fun q1 => ?_)
    · refine mp_iconst X 24 (v := nI 0) d_R_format_23 rfl (by decide) ?_
      exact mp_iret X d_R_format_24 rfl rfl (by decide) (by decide) (rm_Z.code hc2 (by decide) hS2 hf2)
    · exact absurd rfl q1
  | some j =>
    obtain ⟨hj, rfl⟩ := sp_ix_some hx (by decide)
    have hTl := sp_T_len hok hj
    cases hp0 : sp_ix (rm_T S j).length p with
    | none =>
      have hz : sp_format S (nI j) p = (2, 0, S) := by unfold sp_format sp_get; rw [hx]; simp only []; rw [hp0]
      have hfd : sp_fd S (nI j) p = 2 := by unfold sp_fd; rw [hx]; simp only []; rw [hp0]
      rw [hz]
      refine mp_aload_n X 1 d_R_format_0 rfl rfl rfl ?_
      refine mp_iload_n X 2 d_R_format_1 rfl rfl rfl ?_
      refine mp_iload_n X 3 d_R_format_2 rfl rfl rfl ?_
      refine mp_call X mp_Ts_ok 6 (rest := []) (k_R_finds _ hK1 hS1 hok) Y_R_finds in_R (mp_IV X (q := (nR_R, nT_R, 17)) d_R_format_3 Y_R_finds ml_R_95 im_R_finds se_R_finds (by decide) rfl (by decide) (by show _ = some 2; decide) (hK1.sz (by decide)) hK1.ob) rfl (by decide) (by decide) (by decide) (by decide) rfl (by decide) (fun v h2 hp => ?_) (fun x h2 q hp => hp.elim)
      obtain ⟨hc2, hS2, hv, hf2, hV2⟩ := hp
      rw [hfd] at hc2 hv
      subst hv
      have hK2 : rm_K G h2 := rm_K.frA hK1 hf2
      refine mp_eq rfl rfl (st2 := [.int (nI 0)]) rfl ?_
      refine mp_Zeq X 23 9 d_R_format_6 (by decide) rfl (by omega) (fun q1 => ?_) (fun q1 => ?_)
      · refine mp_iconst X 24 (v := nI 0) d_R_format_23 rfl (by decide) ?_
        exact mp_iret X d_R_format_24 rfl rfl (by decide) (by decide) (rm_Z.code hc2 (by decide) hS2 hf2)
      · exact absurd rfl q1
    | some q =>
      obtain ⟨hq, rfl⟩ := sp_ix_some hp0 (by omega)
      have hz : sp_format S (nI j) (nI q) = (0, nI (sp_fm S j q), S) := by unfold sp_format sp_get; rw [hx]; simp only []; rw [hp0]
      have hfd : sp_fd S (nI j) (nI q) = 0 := by unfold sp_fd; rw [hx]; simp only []; rw [hp0]
      rw [hz]
      have htr := sp_t_row hq
      obtain ⟨htM, htso, -, -⟩ := rm_row_lt hw (hok.2.2.1 j hj) htr
      refine mp_aload_n X 1 d_R_format_0 rfl rfl rfl ?_
      refine mp_iload_n X 2 d_R_format_1 rfl rfl rfl ?_
      refine mp_iload_n X 3 d_R_format_2 rfl rfl rfl ?_
      refine mp_call X mp_Ts_ok 6 (rest := []) (k_R_finds _ hK1 hS1 hok) Y_R_finds in_R (mp_IV X (q := (nR_R, nT_R, 17)) d_R_format_3 Y_R_finds ml_R_95 im_R_finds se_R_finds (by decide) rfl (by decide) (by show _ = some 2; decide) (hK1.sz (by decide)) hK1.ob) rfl (by decide) (by decide) (by decide) (by decide) rfl (by decide) (fun v h2 hp => ?_) (fun x h2 q hp => hp.elim)
      obtain ⟨hc2, hS2, hv, hf2, hV2⟩ := hp
      rw [hfd] at hc2 hv
      subst hv
      have hK2 : rm_K G h2 := rm_K.frA hK1 hf2
      have hV2 := hV2 j q hx hp0
      refine mp_eq rfl rfl (st2 := [.int (nI 1)]) rfl ?_
      refine mp_Zeq X 23 9 d_R_format_6 (by decide) rfl (by omega) (fun q1 => ?_) (fun q1 => ?_)
      · exact absurd q1 (by decide)
      · refine mp_aload_n X 10 d_R_format_9 rfl rfl rfl ?_
        refine mp_iload_n X 11 d_R_format_10 rfl rfl rfl ?_
        refine mp_aload_n X 12 d_R_format_11 rfl rfl rfl ?_
        refine mp_getf (v := .ref (G.1 + 38)) X 15 lk_R_45_R d_R_format_12 rfl (hK2.sz (by decide)) hK2.ob hK2.r_text ?_
        refine mp_iload_n X 16 d_R_format_15 rfl rfl rfl ?_
        refine mp_iald (v := .int (nI ((sp_t S j q)))) X 17 (q) d_R_format_16 rfl (hK2.sz (by decide)) hK2.k_text rfl (by omega) (by decide) (hV2.2.1 _ _ (sp_t_mem hq)) ?_
        refine mp_callE X mp_Ts_ok 20 (rest := []) (k_R_formatOf _ hK2 hS2 hV2 hok hj htr) Y_R_formatOf in_R (mp_IV X (q := (nR_R, nT_R, 17)) d_R_format_17 Y_R_formatOf ml_R_98 im_R_formatOf se_R_formatOf (by decide) rfl (by decide) (by show _ = some 2; decide) (hK2.sz (by decide)) hK2.ob) rfl (by decide) (by decide) (by decide) (by decide) rfl (by decide) rfl ?_
        refine mp_goto X 24 d_R_format_20 (by decide) ?_
        exact mp_iret X d_R_format_24 rfl rfl (by decide) (by decide) ⟨hc2, hS2, ⟨_, rfl, fun _ => rfl⟩, hf2⟩
