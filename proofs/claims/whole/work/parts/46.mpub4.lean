/-! The reference: alike, tell, constructor (rows laid by program). -/
set_option maxRecDepth 100000 in
set_option maxHeartbeats 4000000 in
theorem k_R_alike (l : Launch) {G : mp_G} {h : mp_H} {S : pq_S} {x y : Int32} (hK1 : rm_K G h) (hS1 : rm_S h S) (hok : pq_ok S) :
    mp_M G mp_Ts l y_R_alike 1 0 0 [.ref (G.1 + 26), .int x, .int y] h (rm_Z h (sp_alike S x y)) (fun _ _ => False) := by
  have hM : S.1 ≤ 90 := hok.1
  have hw := hok.2.1
  have hf1 : mp_fr rm_A h h := mp_fr.rf
  refine mp_enter (by decide) Y_R_alike fun E hl X => ?_
  refine mp_eq rfl (L2 := [.val (.ref (G.1 + 26)), .val (.int x), .val (.int y), .unset, .unset]) rfl rfl ?_
  cases hx : sp_ix 3 x with
  | none =>
    have hz : sp_alike S x y = (1, 0, S) := by unfold sp_alike; rw [hx]
    rw [hz]
    refine mp_aload_n X 1 d_R_alike_0 rfl rfl rfl ?_
    refine mp_iload_n X 2 d_R_alike_1 rfl rfl rfl ?_
    refine mp_callE X mp_Ts_ok 5 (rest := [.ref (G.1 + 26)]) (k_R_isPageF _ hx) Y_R_isPage in_R (mp_IS X d_R_alike_2 Y_R_isPage ml_R_83 st_R_isPage in_R (by decide) (by show _ = some 1; decide)) rfl (by decide) (by decide) (by decide) (by decide) rfl (Nat.le_of_ble_eq_true rfl) rfl ?_
    refine mp_Zeq X 19 8 d_R_alike_5 (by decide) rfl (by omega) (fun q1 => ?_) (fun q1 => ?_)
    · refine mp_iconst X 20 (v := nI 1) d_R_alike_19 rfl (by decide) ?_
      refine mp_putf X 23 ls_R_51_R d_R_alike_20 rfl (Or.inl rfl) (hK1.sz (by decide)) hK1.ob rfl rfl ?_
      obtain ⟨h2, eh2⟩ : ∃ z, z = mp_set h 26 (0) (.int (nI 1)) := ⟨_, rfl⟩
      rw [← eh2]
      have rh2 : ∀ a b, h2.2.1 a b = if a = 26 ∧ b = 0 then .int (nI 1) else h.2.1 a b := by intro a b; rw [eh2]; rfl
      have hK2 : rm_K G h2 := by rw [eh2]; exact hK1.st (Or.inr (Or.inl rfl))
      have hf2 : mp_fr rm_A h h2 := by rw [eh2]; exact hf1.set (by unfold rm_A; omega)
      have hS2 : rm_S h2 S := by rw [eh2]; exact hS1.cd
      have hc2 : h2.2.1 26 0 = .int (nI 1) := by rw [rh2, if_pos ⟨rfl, rfl⟩]
      refine mp_aload_n X 24 d_R_alike_23 rfl rfl rfl ?_
      refine mp_getf (v := .int (nI 1)) X 27 lk_R_51_R d_R_alike_24 rfl (hK2.sz (by decide)) hK2.ob hc2 ?_
      refine mp_Zne X 34 30 d_R_alike_27 (by decide) rfl (by omega) (fun q2 => ?_) (fun q2 => ?_)
      · refine mp_iconst X 35 (v := nI 0) d_R_alike_34 rfl (by decide) ?_
        refine mp_istore_n X 36 (L' := [.val (.ref (G.1 + 26)), .val (.int (x)), .val (.int (y)), .val (.int (nI 0)), .unset]) d_R_alike_35 rfl rfl rfl rfl rfl ?_
        refine mp_iconst X 37 (v := nI 0) d_R_alike_36 rfl (by decide) ?_
        refine mp_istore X 39 (L' := [.val (.ref (G.1 + 26)), .val (.int (x)), .val (.int (y)), .val (.int (nI 0)), .val (.int (nI 0))]) d_R_alike_37 rfl rfl rfl rfl ?_
        refine mp_iload X 41 d_R_alike_39 rfl rfl ?_
        refine mp_aload_n X 42 d_R_alike_41 rfl rfl rfl ?_
        refine mp_getf (v := .int (nI (S.1))) X 45 lk_R_55_R d_R_alike_42 rfl (hK2.sz (by decide)) hK2.ob hS2.1 ?_
        refine mp_Nge X 91 48 d_R_alike_45 (by decide) rfl (by omega) (by omega) (fun q3 => ?_) (fun q3 => ?_)
        · refine mp_iload_n X 92 d_R_alike_91 rfl rfl rfl ?_
          exact mp_iret X d_R_alike_92 rfl rfl (by decide) (by decide) (rm_Z.code hc2 (by decide) hS2 hf2)
        · refine mp_iload_n X 49 d_R_alike_48 rfl rfl rfl ?_
          refine mp_Zeq X 91 52 d_R_alike_49 (by decide) rfl (by omega) (fun q4 => ?_) (fun q4 => ?_)
          · refine mp_iload_n X 92 d_R_alike_91 rfl rfl rfl ?_
            exact mp_iret X d_R_alike_92 rfl rfl (by decide) (by decide) (rm_Z.code hc2 (by decide) hS2 hf2)
          · exact absurd rfl q4
      · omega
    · exact absurd rfl q1
  | some a =>
    obtain ⟨ha, rfl⟩ := sp_ix_some hx (by decide)
    cases hy : sp_ix 3 y with
    | none =>
      have hz : sp_alike S (nI a) y = (1, 0, S) := by unfold sp_alike; rw [hx, hy]
      rw [hz]
      refine mp_aload_n X 1 d_R_alike_0 rfl rfl rfl ?_
      refine mp_iload_n X 2 d_R_alike_1 rfl rfl rfl ?_
      refine mp_callE X mp_Ts_ok 5 (rest := [.ref (G.1 + 26)]) (k_R_isPageT _ ha) Y_R_isPage in_R (mp_IS X d_R_alike_2 Y_R_isPage ml_R_83 st_R_isPage in_R (by decide) (by show _ = some 1; decide)) rfl (by decide) (by decide) (by decide) (by decide) rfl (Nat.le_of_ble_eq_true rfl) rfl ?_
      refine mp_Zeq X 19 8 d_R_alike_5 (by decide) rfl (by omega) (fun q1 => ?_) (fun q1 => ?_)
      · exact absurd q1 (by decide)
      · refine mp_iload_n X 9 d_R_alike_8 rfl rfl rfl ?_
        refine mp_callE X mp_Ts_ok 12 (rest := [.ref (G.1 + 26)]) (k_R_isPageF _ hy) Y_R_isPage in_R (mp_IS X d_R_alike_9 Y_R_isPage ml_R_83 st_R_isPage in_R (by decide) (by show _ = some 1; decide)) rfl (by decide) (by decide) (by decide) (by decide) rfl (Nat.le_of_ble_eq_true rfl) rfl ?_
        refine mp_Zeq X 19 15 d_R_alike_12 (by decide) rfl (by omega) (fun q2 => ?_) (fun q2 => ?_)
        · refine mp_iconst X 20 (v := nI 1) d_R_alike_19 rfl (by decide) ?_
          refine mp_putf X 23 ls_R_51_R d_R_alike_20 rfl (Or.inl rfl) (hK1.sz (by decide)) hK1.ob rfl rfl ?_
          obtain ⟨h2, eh2⟩ : ∃ z, z = mp_set h 26 (0) (.int (nI 1)) := ⟨_, rfl⟩
          rw [← eh2]
          have rh2 : ∀ a b, h2.2.1 a b = if a = 26 ∧ b = 0 then .int (nI 1) else h.2.1 a b := by intro a b; rw [eh2]; rfl
          have hK2 : rm_K G h2 := by rw [eh2]; exact hK1.st (Or.inr (Or.inl rfl))
          have hf2 : mp_fr rm_A h h2 := by rw [eh2]; exact hf1.set (by unfold rm_A; omega)
          have hS2 : rm_S h2 S := by rw [eh2]; exact hS1.cd
          have hc2 : h2.2.1 26 0 = .int (nI 1) := by rw [rh2, if_pos ⟨rfl, rfl⟩]
          refine mp_aload_n X 24 d_R_alike_23 rfl rfl rfl ?_
          refine mp_getf (v := .int (nI 1)) X 27 lk_R_51_R d_R_alike_24 rfl (hK2.sz (by decide)) hK2.ob hc2 ?_
          refine mp_Zne X 34 30 d_R_alike_27 (by decide) rfl (by omega) (fun q3 => ?_) (fun q3 => ?_)
          · refine mp_iconst X 35 (v := nI 0) d_R_alike_34 rfl (by decide) ?_
            refine mp_istore_n X 36 (L' := [.val (.ref (G.1 + 26)), .val (.int (nI a)), .val (.int (y)), .val (.int (nI 0)), .unset]) d_R_alike_35 rfl rfl rfl rfl rfl ?_
            refine mp_iconst X 37 (v := nI 0) d_R_alike_36 rfl (by decide) ?_
            refine mp_istore X 39 (L' := [.val (.ref (G.1 + 26)), .val (.int (nI a)), .val (.int (y)), .val (.int (nI 0)), .val (.int (nI 0))]) d_R_alike_37 rfl rfl rfl rfl ?_
            refine mp_iload X 41 d_R_alike_39 rfl rfl ?_
            refine mp_aload_n X 42 d_R_alike_41 rfl rfl rfl ?_
            refine mp_getf (v := .int (nI (S.1))) X 45 lk_R_55_R d_R_alike_42 rfl (hK2.sz (by decide)) hK2.ob hS2.1 ?_
            refine mp_Nge X 91 48 d_R_alike_45 (by decide) rfl (by omega) (by omega) (fun q4 => ?_) (fun q4 => ?_)
            · refine mp_iload_n X 92 d_R_alike_91 rfl rfl rfl ?_
              exact mp_iret X d_R_alike_92 rfl rfl (by decide) (by decide) (rm_Z.code hc2 (by decide) hS2 hf2)
            · refine mp_iload_n X 49 d_R_alike_48 rfl rfl rfl ?_
              refine mp_Zeq X 91 52 d_R_alike_49 (by decide) rfl (by omega) (fun q5 => ?_) (fun q5 => ?_)
              · refine mp_iload_n X 92 d_R_alike_91 rfl rfl rfl ?_
                exact mp_iret X d_R_alike_92 rfl rfl (by decide) (by decide) (rm_Z.code hc2 (by decide) hS2 hf2)
              · exact absurd rfl q5
          · omega
        · exact absurd rfl q2
    | some b =>
      obtain ⟨hb, rfl⟩ := sp_ix_some hy (by decide)
      have hz : sp_alike S (nI a) (nI b) = (0, rm_b (sp_ak S a b S.1), S) := by unfold sp_alike; rw [hx, hy]
      rw [hz]
      refine mp_aload_n X 1 d_R_alike_0 rfl rfl rfl ?_
      refine mp_iload_n X 2 d_R_alike_1 rfl rfl rfl ?_
      refine mp_callE X mp_Ts_ok 5 (rest := [.ref (G.1 + 26)]) (k_R_isPageT _ ha) Y_R_isPage in_R (mp_IS X d_R_alike_2 Y_R_isPage ml_R_83 st_R_isPage in_R (by decide) (by show _ = some 1; decide)) rfl (by decide) (by decide) (by decide) (by decide) rfl (Nat.le_of_ble_eq_true rfl) rfl ?_
      refine mp_Zeq X 19 8 d_R_alike_5 (by decide) rfl (by omega) (fun q1 => ?_) (fun q1 => ?_)
      · exact absurd q1 (by decide)
      · refine mp_iload_n X 9 d_R_alike_8 rfl rfl rfl ?_
        refine mp_callE X mp_Ts_ok 12 (rest := [.ref (G.1 + 26)]) (k_R_isPageT _ hb) Y_R_isPage in_R (mp_IS X d_R_alike_9 Y_R_isPage ml_R_83 st_R_isPage in_R (by decide) (by show _ = some 1; decide)) rfl (by decide) (by decide) (by decide) (by decide) rfl (Nat.le_of_ble_eq_true rfl) rfl ?_
        refine mp_Zeq X 19 15 d_R_alike_12 (by decide) rfl (by omega) (fun q2 => ?_) (fun q2 => ?_)
        · exact absurd q2 (by decide)
        · refine mp_iconst X 16 (v := nI 0) d_R_alike_15 rfl (by decide) ?_
          refine mp_goto X 20 d_R_alike_16 (by decide) ?_
          refine mp_putf X 23 ls_R_51_R d_R_alike_20 rfl (Or.inl rfl) (hK1.sz (by decide)) hK1.ob rfl rfl ?_
          obtain ⟨h2, eh2⟩ : ∃ z, z = mp_set h 26 (0) (.int (nI 0)) := ⟨_, rfl⟩
          rw [← eh2]
          have rh2 : ∀ a b, h2.2.1 a b = if a = 26 ∧ b = 0 then .int (nI 0) else h.2.1 a b := by intro a b; rw [eh2]; rfl
          have hK2 : rm_K G h2 := by rw [eh2]; exact hK1.st (Or.inr (Or.inl rfl))
          have hf2 : mp_fr rm_A h h2 := by rw [eh2]; exact hf1.set (by unfold rm_A; omega)
          have hS2 : rm_S h2 S := by rw [eh2]; exact hS1.cd
          have hc2 : h2.2.1 26 0 = .int (nI 0) := by rw [rh2, if_pos ⟨rfl, rfl⟩]
          refine mp_aload_n X 24 d_R_alike_23 rfl rfl rfl ?_
          refine mp_getf (v := .int (nI 0)) X 27 lk_R_51_R d_R_alike_24 rfl (hK2.sz (by decide)) hK2.ob hc2 ?_
          refine mp_Zne X 34 30 d_R_alike_27 (by decide) rfl (by omega) (fun q3 => ?_) (fun q3 => ?_)
          · exact absurd rfl q3
          · refine mp_iconst X 31 (v := nI 1) d_R_alike_30 rfl (by decide) ?_
            refine mp_goto X 35 d_R_alike_31 (by decide) ?_
            refine mp_istore_n X 36 (L' := [.val (.ref (G.1 + 26)), .val (.int (nI a)), .val (.int (nI b)), .val (.int (nI 1)), .unset]) d_R_alike_35 rfl rfl rfl rfl rfl ?_
            refine mp_iconst X 37 (v := nI 0) d_R_alike_36 rfl (by decide) ?_
            refine mp_istore X 39 (L' := [.val (.ref (G.1 + 26)), .val (.int (nI a)), .val (.int (nI b)), .val (.int (nI 1)), .val (.int (nI 0))]) d_R_alike_37 rfl rfl rfl rfl ?_
            have hloop : ∀ (n k : Nat), k + n = S.1 → mp_W G E h2 0 0 (mp_Q G E 0 0 (rm_Z h (0, rm_b (sp_ak S a b S.1), S)) (fun _ _ => False)) 39 [.val (.ref (G.1 + 26)), .val (.int (nI a)), .val (.int (nI b)), .val (.int (rm_b (sp_ak S a b k))), .val (.int (nI k))] [] := by
              intro n
              induction n with
              | zero =>
                intro k hkn
                have hk : k = S.1 := by omega
                subst hk
                cases hak : sp_ak S a b S.1
                · show mp_W _ _ _ _ _ _ _ [_, _, _, .val (.int (nI 0)), _] _
                  refine mp_iload X 41 d_R_alike_39 rfl rfl ?_
                  refine mp_aload_n X 42 d_R_alike_41 rfl rfl rfl ?_
                  refine mp_getf (v := .int (nI (S.1))) X 45 lk_R_55_R d_R_alike_42 rfl (hK2.sz (by decide)) hK2.ob hS2.1 ?_
                  refine mp_Nge X 91 48 d_R_alike_45 (by decide) rfl (by omega) (by omega) (fun q1 => ?_) (fun q1 => ?_)
                  · refine mp_iload_n X 92 d_R_alike_91 rfl rfl rfl ?_
                    exact mp_iret X d_R_alike_92 rfl rfl (by decide) (by decide) ⟨hc2, hS2, ⟨_, rfl, fun _ => rfl⟩, hf2⟩
                  · omega
                · show mp_W _ _ _ _ _ _ _ [_, _, _, .val (.int (nI 1)), _] _
                  refine mp_iload X 41 d_R_alike_39 rfl rfl ?_
                  refine mp_aload_n X 42 d_R_alike_41 rfl rfl rfl ?_
                  refine mp_getf (v := .int (nI (S.1))) X 45 lk_R_55_R d_R_alike_42 rfl (hK2.sz (by decide)) hK2.ob hS2.1 ?_
                  refine mp_Nge X 91 48 d_R_alike_45 (by decide) rfl (by omega) (by omega) (fun q1 => ?_) (fun q1 => ?_)
                  · refine mp_iload_n X 92 d_R_alike_91 rfl rfl rfl ?_
                    exact mp_iret X d_R_alike_92 rfl rfl (by decide) (by decide) ⟨hc2, hS2, ⟨_, rfl, fun _ => rfl⟩, hf2⟩
                  · omega
              | succ n ih =>
                intro k hkn
                have hkM : k < S.1 := by omega
                have s_ka := (hS2.2.2 a ha).2.2 k (by omega)
                have s_kc := (hS2.2.2 b hb).2.2 k (by omega)
                have hg := ih (k + 1) (by omega)
                have hct : sp_ak S a b (k + 1) = (sp_ak S a b k && (pq_kw (S.2.2.1 a) (S.2.2.2 a) k == pq_kw (S.2.2.1 b) (S.2.2.2 b) k)) := rfl
                rw [hct] at hg
                obtain ⟨ka, ka1, hka⟩ : ∃ ka : Nat, (ka = 1 ∧ pq_kw (S.2.2.1 a) (S.2.2.2 a) k = true ∨ ka = 0 ∧ pq_kw (S.2.2.1 a) (S.2.2.2 a) k = false) ∧ h2.2.1 34 (90 * a + k) = .int (nI ka) := by
                  cases hkw : pq_kw (S.2.2.1 a) (S.2.2.2 a) k with
                  | true => rw [hkw] at s_ka; exact ⟨1, Or.inl ⟨rfl, rfl⟩, s_ka⟩
                  | false => rw [hkw] at s_ka; exact ⟨0, Or.inr ⟨rfl, rfl⟩, s_ka⟩
                have kab : ka < 2 := by omega
                obtain ⟨kc, kc1, hkc⟩ : ∃ kc : Nat, (kc = 1 ∧ pq_kw (S.2.2.1 b) (S.2.2.2 b) k = true ∨ kc = 0 ∧ pq_kw (S.2.2.1 b) (S.2.2.2 b) k = false) ∧ h2.2.1 34 (90 * b + k) = .int (nI kc) := by
                  cases hkw : pq_kw (S.2.2.1 b) (S.2.2.2 b) k with
                  | true => rw [hkw] at s_kc; exact ⟨1, Or.inl ⟨rfl, rfl⟩, s_kc⟩
                  | false => rw [hkw] at s_kc; exact ⟨0, Or.inr ⟨rfl, rfl⟩, s_kc⟩
                have kcb : kc < 2 := by omega
                cases hak : sp_ak S a b k
                · have hfl : sp_ak S a b S.1 = false := by have := sp_ak_f hak (S.1 - k); rw [show k + (S.1 - k) = S.1 by omega] at this; exact this
                  rw [hfl]
                  show mp_W _ _ _ _ _ _ _ [_, _, _, .val (.int (nI 0)), _] _
                  refine mp_iload X 41 d_R_alike_39 rfl rfl ?_
                  refine mp_aload_n X 42 d_R_alike_41 rfl rfl rfl ?_
                  refine mp_getf (v := .int (nI (S.1))) X 45 lk_R_55_R d_R_alike_42 rfl (hK2.sz (by decide)) hK2.ob hS2.1 ?_
                  refine mp_Nge X 91 48 d_R_alike_45 (by decide) rfl (by omega) (by omega) (fun q1 => ?_) (fun q1 => ?_)
                  · omega
                  · refine mp_iload_n X 49 d_R_alike_48 rfl rfl rfl ?_
                    refine mp_Zeq X 91 52 d_R_alike_49 (by decide) rfl (by omega) (fun q2 => ?_) (fun q2 => ?_)
                    · refine mp_iload_n X 92 d_R_alike_91 rfl rfl rfl ?_
                      exact mp_iret X d_R_alike_92 rfl rfl (by decide) (by decide) ⟨hc2, hS2, ⟨_, rfl, fun _ => rfl⟩, hf2⟩
                    · exact absurd rfl q2
                · rw [hak] at hg
                  show mp_W _ _ _ _ _ _ _ [_, _, _, .val (.int (nI 1)), _] _
                  refine mp_iload X 41 d_R_alike_39 rfl rfl ?_
                  refine mp_aload_n X 42 d_R_alike_41 rfl rfl rfl ?_
                  refine mp_getf (v := .int (nI (S.1))) X 45 lk_R_55_R d_R_alike_42 rfl (hK2.sz (by decide)) hK2.ob hS2.1 ?_
                  refine mp_Nge X 91 48 d_R_alike_45 (by decide) rfl (by omega) (by omega) (fun q1 => ?_) (fun q1 => ?_)
                  · omega
                  · refine mp_iload_n X 49 d_R_alike_48 rfl rfl rfl ?_
                    refine mp_Zeq X 91 52 d_R_alike_49 (by decide) rfl (by omega) (fun q2 => ?_) (fun q2 => ?_)
                    · exact absurd q2 (by decide)
                    · refine mp_aload_n X 53 d_R_alike_52 rfl rfl rfl ?_
                      refine mp_getf (v := .ref (G.1 + 34)) X 56 lk_R_32_R d_R_alike_53 rfl (hK2.sz (by decide)) hK2.ob hK2.r_knows ?_
                      refine mp_bipush X 58 (v := nI 90) d_R_alike_56 rfl (by decide) ?_
                      refine mp_iload_n X 59 d_R_alike_58 rfl rfl rfl ?_
                      refine mp_imul X 60 d_R_alike_59 rfl ?_
                      rw [pk_mul]
                      refine mp_iload X 62 d_R_alike_60 rfl rfl ?_
                      refine mp_iadd X 63 d_R_alike_62 rfl ?_
                      rw [nI_add]
                      refine mp_zald (v := .int (nI ka)) X 64 (90 * a + k) d_R_alike_63 rfl (hK2.sz (by decide)) hK2.k_knows rfl (by omega) (by decide) hka ?_
                      refine mp_aload_n X 65 d_R_alike_64 rfl rfl rfl ?_
                      refine mp_getf (v := .ref (G.1 + 34)) X 68 lk_R_32_R d_R_alike_65 rfl (hK2.sz (by decide)) hK2.ob hK2.r_knows ?_
                      refine mp_bipush X 70 (v := nI 90) d_R_alike_68 rfl (by decide) ?_
                      refine mp_iload_n X 71 d_R_alike_70 rfl rfl rfl ?_
                      refine mp_imul X 72 d_R_alike_71 rfl ?_
                      rw [pk_mul]
                      refine mp_iload X 74 d_R_alike_72 rfl rfl ?_
                      refine mp_iadd X 75 d_R_alike_74 rfl ?_
                      rw [nI_add]
                      refine mp_zald (v := .int (nI kc)) X 76 (90 * b + k) d_R_alike_75 rfl (hK2.sz (by decide)) hK2.k_knows rfl (by omega) (by decide) hkc ?_
                      refine mp_Nne X 83 79 d_R_alike_76 (by decide) rfl (by omega) (by omega) (fun q3 => ?_) (fun q3 => ?_)
                      · refine mp_iconst X 84 (v := nI 0) d_R_alike_83 rfl (by decide) ?_
                        refine mp_istore_n X 85 (L' := [.val (.ref (G.1 + 26)), .val (.int (nI a)), .val (.int (nI b)), .val (.int (nI 0)), .val (.int (nI k))]) d_R_alike_84 rfl rfl rfl rfl rfl ?_
                        refine mp_iinc X 88 (L' := [.val (.ref (G.1 + 26)), .val (.int (nI a)), .val (.int (nI b)), .val (.int (nI 0)), .val (.int (nI (k + 1)))]) (v := nI (k + 1)) d_R_alike_85 rfl rfl (nI_1 _) rfl ?_
                        refine mp_goto X 39 d_R_alike_88 (by decide) ?_
                        have he : (pq_kw (S.2.2.1 a) (S.2.2.2 a) k == pq_kw (S.2.2.1 b) (S.2.2.2 b) k) = false := by rcases ka1 with ⟨h1, h2⟩ | ⟨h1, h2⟩ <;> rcases kc1 with ⟨h3, h4⟩ | ⟨h3, h4⟩ <;> rw [h2, h4] <;> first | rfl | omega
                        rw [he] at hg
                        exact hg
                      · refine mp_iconst X 80 (v := nI 1) d_R_alike_79 rfl (by decide) ?_
                        refine mp_goto X 84 d_R_alike_80 (by decide) ?_
                        refine mp_istore_n X 85 (L' := [.val (.ref (G.1 + 26)), .val (.int (nI a)), .val (.int (nI b)), .val (.int (nI 1)), .val (.int (nI k))]) d_R_alike_84 rfl rfl rfl rfl rfl ?_
                        refine mp_iinc X 88 (L' := [.val (.ref (G.1 + 26)), .val (.int (nI a)), .val (.int (nI b)), .val (.int (nI 1)), .val (.int (nI (k + 1)))]) (v := nI (k + 1)) d_R_alike_85 rfl rfl (nI_1 _) rfl ?_
                        refine mp_goto X 39 d_R_alike_88 (by decide) ?_
                        have he : (pq_kw (S.2.2.1 a) (S.2.2.2 a) k == pq_kw (S.2.2.1 b) (S.2.2.2 b) k) = true := by rcases ka1 with ⟨h1, h2⟩ | ⟨h1, h2⟩ <;> rcases kc1 with ⟨h3, h4⟩ | ⟨h3, h4⟩ <;> rw [h2, h4] <;> first | rfl | omega
                        rw [he] at hg
                        exact hg
            exact hloop S.1 0 (by omega)
set_option maxRecDepth 100000 in
set_option maxHeartbeats 4000000 in
theorem k_R_tell (l : Launch) {G : mp_G} {h : mp_H} {S : pq_S} {x y n : Int32} (hK1 : rm_K G h) (hS1 : rm_S h S) (hok : pq_ok S) :
    mp_M G mp_Ts l y_R_tell 1 0 0 [.ref (G.1 + 26), .int x, .int y, .int n] h (rm_Z h (sp_tell S x y n)) (fun _ _ => False) := by
  have hM : S.1 ≤ 90 := hok.1
  have hw := hok.2.1
  have hf1 : mp_fr rm_A h h := mp_fr.rf
  refine mp_enter (by decide) Y_R_tell fun E hl X => ?_
  refine mp_eq rfl (L2 := [.val (.ref (G.1 + 26)), .val (.int x), .val (.int y), .val (.int n), .unset, .unset, .unset]) rfl rfl ?_
  cases hx : sp_ix 3 x with
  | none =>
    have hz : sp_tell S x y n = (1, 0, S) := by unfold sp_tell; rw [hx]
    rw [hz]
    refine mp_aload_n X 1 d_R_tell_0 rfl rfl rfl ?_
    refine mp_iload_n X 2 d_R_tell_1 rfl rfl rfl ?_
    refine mp_callE X mp_Ts_ok 5 (rest := [.ref (G.1 + 26)]) (k_R_isPageF _ hx) Y_R_isPage in_R (mp_IS X d_R_tell_2 Y_R_isPage ml_R_83 st_R_isPage in_R (by decide) (by show _ = some 1; decide)) rfl (by decide) (by decide) (by decide) (by decide) rfl (Nat.le_of_ble_eq_true rfl) rfl ?_
    refine mp_Zeq X 23 8 d_R_tell_5 (by decide) rfl (by omega) (fun q1 => ?_) (fun q1 => ?_)
    · refine mp_iconst X 24 (v := nI 1) d_R_tell_23 rfl (by decide) ?_
      refine mp_putf X 27 ls_R_51_R d_R_tell_24 rfl (Or.inl rfl) (hK1.sz (by decide)) hK1.ob rfl rfl ?_
      obtain ⟨h2, eh2⟩ : ∃ z, z = mp_set h 26 (0) (.int (nI 1)) := ⟨_, rfl⟩
      rw [← eh2]
      have rh2 : ∀ a b, h2.2.1 a b = if a = 26 ∧ b = 0 then .int (nI 1) else h.2.1 a b := by intro a b; rw [eh2]; rfl
      have hK2 : rm_K G h2 := by rw [eh2]; exact hK1.st (Or.inr (Or.inl rfl))
      have hf2 : mp_fr rm_A h h2 := by rw [eh2]; exact hf1.set (by unfold rm_A; omega)
      have hS2 : rm_S h2 S := by rw [eh2]; exact hS1.cd
      have hc2 : h2.2.1 26 0 = .int (nI 1) := by rw [rh2, if_pos ⟨rfl, rfl⟩]
      refine mp_iconst X 28 (v := nI 0) d_R_tell_27 rfl (by decide) ?_
      refine mp_istore X 30 (L' := [.val (.ref (G.1 + 26)), .val (.int (x)), .val (.int (y)), .val (.int (n)), .val (.int (nI 0)), .unset, .unset]) d_R_tell_28 rfl rfl rfl rfl ?_
      refine mp_iconst X 31 (v := nI 0) d_R_tell_30 rfl (by decide) ?_
      refine mp_istore X 33 (L' := [.val (.ref (G.1 + 26)), .val (.int (x)), .val (.int (y)), .val (.int (n)), .val (.int (nI 0)), .val (.int (nI 0)), .unset]) d_R_tell_31 rfl rfl rfl rfl ?_
      refine mp_aload_n X 34 d_R_tell_33 rfl rfl rfl ?_
      refine mp_getf (v := .int (nI 1)) X 37 lk_R_51_R d_R_tell_34 rfl (hK2.sz (by decide)) hK2.ob hc2 ?_
      refine mp_Zne X 102 40 d_R_tell_37 (by decide) rfl (by omega) (fun q2 => ?_) (fun q2 => ?_)
      · refine mp_iload X 104 d_R_tell_102 rfl rfl ?_
        exact mp_iret X d_R_tell_104 rfl rfl (by decide) (by decide) (rm_Z.code hc2 (by decide) hS2 hf2)
      · omega
    · exact absurd rfl q1
  | some a =>
    obtain ⟨ha, rfl⟩ := sp_ix_some hx (by decide)
    cases hy : sp_ix 3 y with
    | none =>
      have hz : sp_tell S (nI a) y n = (1, 0, S) := by unfold sp_tell; rw [hx, hy]
      rw [hz]
      refine mp_aload_n X 1 d_R_tell_0 rfl rfl rfl ?_
      refine mp_iload_n X 2 d_R_tell_1 rfl rfl rfl ?_
      refine mp_callE X mp_Ts_ok 5 (rest := [.ref (G.1 + 26)]) (k_R_isPageT _ ha) Y_R_isPage in_R (mp_IS X d_R_tell_2 Y_R_isPage ml_R_83 st_R_isPage in_R (by decide) (by show _ = some 1; decide)) rfl (by decide) (by decide) (by decide) (by decide) rfl (Nat.le_of_ble_eq_true rfl) rfl ?_
      refine mp_Zeq X 23 8 d_R_tell_5 (by decide) rfl (by omega) (fun q1 => ?_) (fun q1 => ?_)
      · exact absurd q1 (by decide)
      · refine mp_iload_n X 9 d_R_tell_8 rfl rfl rfl ?_
        refine mp_callE X mp_Ts_ok 12 (rest := [.ref (G.1 + 26)]) (k_R_isPageF _ hy) Y_R_isPage in_R (mp_IS X d_R_tell_9 Y_R_isPage ml_R_83 st_R_isPage in_R (by decide) (by show _ = some 1; decide)) rfl (by decide) (by decide) (by decide) (by decide) rfl (Nat.le_of_ble_eq_true rfl) rfl ?_
        refine mp_Zeq X 23 15 d_R_tell_12 (by decide) rfl (by omega) (fun q2 => ?_) (fun q2 => ?_)
        · refine mp_iconst X 24 (v := nI 1) d_R_tell_23 rfl (by decide) ?_
          refine mp_putf X 27 ls_R_51_R d_R_tell_24 rfl (Or.inl rfl) (hK1.sz (by decide)) hK1.ob rfl rfl ?_
          obtain ⟨h2, eh2⟩ : ∃ z, z = mp_set h 26 (0) (.int (nI 1)) := ⟨_, rfl⟩
          rw [← eh2]
          have rh2 : ∀ a b, h2.2.1 a b = if a = 26 ∧ b = 0 then .int (nI 1) else h.2.1 a b := by intro a b; rw [eh2]; rfl
          have hK2 : rm_K G h2 := by rw [eh2]; exact hK1.st (Or.inr (Or.inl rfl))
          have hf2 : mp_fr rm_A h h2 := by rw [eh2]; exact hf1.set (by unfold rm_A; omega)
          have hS2 : rm_S h2 S := by rw [eh2]; exact hS1.cd
          have hc2 : h2.2.1 26 0 = .int (nI 1) := by rw [rh2, if_pos ⟨rfl, rfl⟩]
          refine mp_iconst X 28 (v := nI 0) d_R_tell_27 rfl (by decide) ?_
          refine mp_istore X 30 (L' := [.val (.ref (G.1 + 26)), .val (.int (nI a)), .val (.int (y)), .val (.int (n)), .val (.int (nI 0)), .unset, .unset]) d_R_tell_28 rfl rfl rfl rfl ?_
          refine mp_iconst X 31 (v := nI 0) d_R_tell_30 rfl (by decide) ?_
          refine mp_istore X 33 (L' := [.val (.ref (G.1 + 26)), .val (.int (nI a)), .val (.int (y)), .val (.int (n)), .val (.int (nI 0)), .val (.int (nI 0)), .unset]) d_R_tell_31 rfl rfl rfl rfl ?_
          refine mp_aload_n X 34 d_R_tell_33 rfl rfl rfl ?_
          refine mp_getf (v := .int (nI 1)) X 37 lk_R_51_R d_R_tell_34 rfl (hK2.sz (by decide)) hK2.ob hc2 ?_
          refine mp_Zne X 102 40 d_R_tell_37 (by decide) rfl (by omega) (fun q3 => ?_) (fun q3 => ?_)
          · refine mp_iload X 104 d_R_tell_102 rfl rfl ?_
            exact mp_iret X d_R_tell_104 rfl rfl (by decide) (by decide) (rm_Z.code hc2 (by decide) hS2 hf2)
          · omega
        · exact absurd rfl q2
    | some b =>
      obtain ⟨hb, rfl⟩ := sp_ix_some hy (by decide)
      by_cases hn : n < 0
      · have hz : sp_tell S (nI a) (nI b) n = (1, 0, S) := by unfold sp_tell; rw [hx, hy]; simp only []; rw [if_pos hn]
        rw [hz]
        refine mp_aload_n X 1 d_R_tell_0 rfl rfl rfl ?_
        refine mp_iload_n X 2 d_R_tell_1 rfl rfl rfl ?_
        refine mp_callE X mp_Ts_ok 5 (rest := [.ref (G.1 + 26)]) (k_R_isPageT _ ha) Y_R_isPage in_R (mp_IS X d_R_tell_2 Y_R_isPage ml_R_83 st_R_isPage in_R (by decide) (by show _ = some 1; decide)) rfl (by decide) (by decide) (by decide) (by decide) rfl (Nat.le_of_ble_eq_true rfl) rfl ?_
        refine mp_Zeq X 23 8 d_R_tell_5 (by decide) rfl (by omega) (fun q1 => ?_) (fun q1 => ?_)
        · exact absurd q1 (by decide)
        · refine mp_iload_n X 9 d_R_tell_8 rfl rfl rfl ?_
          refine mp_callE X mp_Ts_ok 12 (rest := [.ref (G.1 + 26)]) (k_R_isPageT _ hb) Y_R_isPage in_R (mp_IS X d_R_tell_9 Y_R_isPage ml_R_83 st_R_isPage in_R (by decide) (by show _ = some 1; decide)) rfl (by decide) (by decide) (by decide) (by decide) rfl (Nat.le_of_ble_eq_true rfl) rfl ?_
          refine mp_Zeq X 23 15 d_R_tell_12 (by decide) rfl (by omega) (fun q2 => ?_) (fun q2 => ?_)
          · exact absurd q2 (by decide)
          · refine mp_iload_n X 16 d_R_tell_15 rfl rfl rfl ?_
            refine mp_if_lt X 23 19 d_R_tell_16 (by decide) rfl (fun q3 => ?_) (fun q3 => ?_)
            · refine mp_iconst X 24 (v := nI 1) d_R_tell_23 rfl (by decide) ?_
              refine mp_putf X 27 ls_R_51_R d_R_tell_24 rfl (Or.inl rfl) (hK1.sz (by decide)) hK1.ob rfl rfl ?_
              obtain ⟨h2, eh2⟩ : ∃ z, z = mp_set h 26 (0) (.int (nI 1)) := ⟨_, rfl⟩
              rw [← eh2]
              have rh2 : ∀ a b, h2.2.1 a b = if a = 26 ∧ b = 0 then .int (nI 1) else h.2.1 a b := by intro a b; rw [eh2]; rfl
              have hK2 : rm_K G h2 := by rw [eh2]; exact hK1.st (Or.inr (Or.inl rfl))
              have hf2 : mp_fr rm_A h h2 := by rw [eh2]; exact hf1.set (by unfold rm_A; omega)
              have hS2 : rm_S h2 S := by rw [eh2]; exact hS1.cd
              have hc2 : h2.2.1 26 0 = .int (nI 1) := by rw [rh2, if_pos ⟨rfl, rfl⟩]
              refine mp_iconst X 28 (v := nI 0) d_R_tell_27 rfl (by decide) ?_
              refine mp_istore X 30 (L' := [.val (.ref (G.1 + 26)), .val (.int (nI a)), .val (.int (nI b)), .val (.int (n)), .val (.int (nI 0)), .unset, .unset]) d_R_tell_28 rfl rfl rfl rfl ?_
              refine mp_iconst X 31 (v := nI 0) d_R_tell_30 rfl (by decide) ?_
              refine mp_istore X 33 (L' := [.val (.ref (G.1 + 26)), .val (.int (nI a)), .val (.int (nI b)), .val (.int (n)), .val (.int (nI 0)), .val (.int (nI 0)), .unset]) d_R_tell_31 rfl rfl rfl rfl ?_
              refine mp_aload_n X 34 d_R_tell_33 rfl rfl rfl ?_
              refine mp_getf (v := .int (nI 1)) X 37 lk_R_51_R d_R_tell_34 rfl (hK2.sz (by decide)) hK2.ob hc2 ?_
              refine mp_Zne X 102 40 d_R_tell_37 (by decide) rfl (by omega) (fun q4 => ?_) (fun q4 => ?_)
              · refine mp_iload X 104 d_R_tell_102 rfl rfl ?_
                exact mp_iret X d_R_tell_104 rfl rfl (by decide) (by decide) (rm_Z.code hc2 (by decide) hS2 hf2)
              · omega
            · exact absurd hn q3
      · obtain ⟨m, hm, rfl⟩ := nI_of hn
        have hmt : (nI m).toInt.toNat = m := by rw [nI_toInt hm]; simp
        have hz : sp_tell S (nI a) (nI b) (nI m) = (0, nI (sp_tl S a b m (S.2.2.2 a)).2, (sp_tl S a b m (S.2.2.2 a)).1) := by unfold sp_tell; rw [hx, hy]; simp only []; rw [if_neg hn, hmt]
        rw [hz]
        have hca := pq_kn_le (hok.2.2.1 a ha)
        refine mp_aload_n X 1 d_R_tell_0 rfl rfl rfl ?_
        refine mp_iload_n X 2 d_R_tell_1 rfl rfl rfl ?_
        refine mp_callE X mp_Ts_ok 5 (rest := [.ref (G.1 + 26)]) (k_R_isPageT _ ha) Y_R_isPage in_R (mp_IS X d_R_tell_2 Y_R_isPage ml_R_83 st_R_isPage in_R (by decide) (by show _ = some 1; decide)) rfl (by decide) (by decide) (by decide) (by decide) rfl (Nat.le_of_ble_eq_true rfl) rfl ?_
        refine mp_Zeq X 23 8 d_R_tell_5 (by decide) rfl (by omega) (fun q1 => ?_) (fun q1 => ?_)
        · exact absurd q1 (by decide)
        · refine mp_iload_n X 9 d_R_tell_8 rfl rfl rfl ?_
          refine mp_callE X mp_Ts_ok 12 (rest := [.ref (G.1 + 26)]) (k_R_isPageT _ hb) Y_R_isPage in_R (mp_IS X d_R_tell_9 Y_R_isPage ml_R_83 st_R_isPage in_R (by decide) (by show _ = some 1; decide)) rfl (by decide) (by decide) (by decide) (by decide) rfl (Nat.le_of_ble_eq_true rfl) rfl ?_
          refine mp_Zeq X 23 15 d_R_tell_12 (by decide) rfl (by omega) (fun q2 => ?_) (fun q2 => ?_)
          · exact absurd q2 (by decide)
          · refine mp_iload_n X 16 d_R_tell_15 rfl rfl rfl ?_
            refine mp_Zlt X 23 19 d_R_tell_16 (by decide) rfl (by omega) (fun q3 => ?_) (fun q3 => ?_)
            · exact q3.elim
            · refine mp_iconst X 20 (v := nI 0) d_R_tell_19 rfl (by decide) ?_
              refine mp_goto X 24 d_R_tell_20 (by decide) ?_
              refine mp_putf X 27 ls_R_51_R d_R_tell_24 rfl (Or.inl rfl) (hK1.sz (by decide)) hK1.ob rfl rfl ?_
              obtain ⟨h2, eh2⟩ : ∃ z, z = mp_set h 26 (0) (.int (nI 0)) := ⟨_, rfl⟩
              rw [← eh2]
              have rh2 : ∀ a b, h2.2.1 a b = if a = 26 ∧ b = 0 then .int (nI 0) else h.2.1 a b := by intro a b; rw [eh2]; rfl
              have hK2 : rm_K G h2 := by rw [eh2]; exact hK1.st (Or.inr (Or.inl rfl))
              have hf2 : mp_fr rm_A h h2 := by rw [eh2]; exact hf1.set (by unfold rm_A; omega)
              have hS2 : rm_S h2 S := by rw [eh2]; exact hS1.cd
              have hc2 : h2.2.1 26 0 = .int (nI 0) := by rw [rh2, if_pos ⟨rfl, rfl⟩]
              refine mp_iconst X 28 (v := nI 0) d_R_tell_27 rfl (by decide) ?_
              refine mp_istore X 30 (L' := [.val (.ref (G.1 + 26)), .val (.int (nI a)), .val (.int (nI b)), .val (.int (nI m)), .val (.int (nI 0)), .unset, .unset]) d_R_tell_28 rfl rfl rfl rfl ?_
              refine mp_iconst X 31 (v := nI 0) d_R_tell_30 rfl (by decide) ?_
              refine mp_istore X 33 (L' := [.val (.ref (G.1 + 26)), .val (.int (nI a)), .val (.int (nI b)), .val (.int (nI m)), .val (.int (nI 0)), .val (.int (nI 0)), .unset]) d_R_tell_31 rfl rfl rfl rfl ?_
              have hloop : ∀ (r i : Nat) (g : mp_H) (z : Slot), mp_s1 z = true → i + r = S.2.2.2 a → rm_K G g → rm_S g (sp_tl S a b m i).1 → mp_fr rm_A h g → g.2.1 26 0 = .int (nI 0) → mp_W G E g 0 0 (mp_Q G E 0 0 (rm_Z h (0, nI (sp_tl S a b m (S.2.2.2 a)).2, (sp_tl S a b m (S.2.2.2 a)).1)) (fun _ _ => False)) 33 [.val (.ref (G.1 + 26)), .val (.int (nI a)), .val (.int (nI b)), .val (.int (nI m)), .val (.int (nI (sp_tl S a b m i).2)), .val (.int (nI i)), z] [] := by
                intro r
                induction r with
                | zero =>
                  intro i g z hz1 hir hKg hSg hfg hcg
                  have hi : i = S.2.2.2 a := by omega
                  subst hi
                  obtain ⟨ok1, e1, e2, e3, e4, e5, e6, e7⟩ := sp_tl_ok hok (n := m) ha hb (S.2.2.2 a) (Nat.le_refl _)
                  have sca := (hSg.2.2 a ha).1
                  have hcq : (sp_tl S a b m (S.2.2.2 a)).1.2.2.2 a = S.2.2.2 a := by by_cases hab : a = b; rw [e4 hab]; exact (e3 a hab).2
                  rw [hcq] at sca
                  refine mp_aload_n X 34 d_R_tell_33 rfl rfl rfl ?_
                  refine mp_getf (v := .int (nI 0)) X 37 lk_R_51_R d_R_tell_34 rfl (hKg.sz (by decide)) hKg.ob hcg ?_
                  refine mp_Zne X 102 40 d_R_tell_37 (by decide) rfl (by omega) (fun q1 => ?_) (fun q1 => ?_)
                  · exact absurd rfl q1
                  · refine mp_iload X 42 d_R_tell_40 rfl rfl ?_
                    refine mp_aload_n X 43 d_R_tell_42 rfl rfl rfl ?_
                    refine mp_getf (v := .ref (G.1 + 35)) X 46 lk_R_36_R d_R_tell_43 rfl (hKg.sz (by decide)) hKg.ob hKg.r_count ?_
                    refine mp_iload_n X 47 d_R_tell_46 rfl rfl rfl ?_
                    refine mp_iald (v := .int (nI ((S.2.2.2 a)))) X 48 (a) d_R_tell_47 rfl (hKg.sz (by decide)) hKg.k_count rfl (by omega) (by decide) sca ?_
                    refine mp_Nge X 102 51 d_R_tell_48 (by decide) rfl (by omega) (by omega) (fun q2 => ?_) (fun q2 => ?_)
                    · refine mp_iload X 104 d_R_tell_102 rfl rfl ?_
                      exact mp_iret X d_R_tell_104 rfl rfl (by decide) (by decide) ⟨hcg, hSg, ⟨_, rfl, fun _ => rfl⟩, hfg⟩
                    · omega
                | succ r ih =>
                  intro i g z hz1 hir hKg hSg hfg hcg
                  obtain ⟨ok1, e1, e2, e3, e4, e5, e6, e7⟩ := sp_tl_ok hok (n := m) ha hb i (by omega)
                  have sca := (hSg.2.2 a ha).1
                  have hcq : (sp_tl S a b m i).1.2.2.2 a = S.2.2.2 a := by by_cases hab : a = b; rw [e4 hab]; exact (e3 a hab).2
                  have hcr : (sp_tl S a b m i).1.2.2.1 a = S.2.2.1 a := by by_cases hab : a = b; rw [e4 hab]; exact (e3 a hab).1
                  rw [hcq] at sca
                  have skn := (hSg.2.2 a ha).2.1 i (by rw [hcq]; omega)
                  rw [hcr] at skn
                  have hkM : S.2.2.1 a i < S.1 := (hok.2.2.1 a ha).1 i (by omega)
                  have hst : sp_tl S a b m (i + 1) = if (sp_tl S a b m i).2 < m ∧ pq_kw ((sp_tl S a b m i).1.2.2.1 b) ((sp_tl S a b m i).1.2.2.2 b) (S.2.2.1 a i) = false then (pq_lrn (sp_tl S a b m i).1 b (S.2.2.1 a i), (sp_tl S a b m i).2 + 1) else (sp_tl S a b m i) := rfl
                  have s_kb := (hSg.2.2 b hb).2.2 (S.2.2.1 a i) (by omega)
                  obtain ⟨kb, kb1, hkb⟩ : ∃ kb : Nat, (kb = 1 ∧ pq_kw ((sp_tl S a b m i).1.2.2.1 b) ((sp_tl S a b m i).1.2.2.2 b) (S.2.2.1 a i) = true ∨ kb = 0 ∧ pq_kw ((sp_tl S a b m i).1.2.2.1 b) ((sp_tl S a b m i).1.2.2.2 b) (S.2.2.1 a i) = false) ∧ g.2.1 34 (90 * b + S.2.2.1 a i) = .int (nI kb) := by
                    cases hkw : pq_kw ((sp_tl S a b m i).1.2.2.1 b) ((sp_tl S a b m i).1.2.2.2 b) (S.2.2.1 a i) with
                    | true => rw [hkw] at s_kb; exact ⟨1, Or.inl ⟨rfl, rfl⟩, s_kb⟩
                    | false => rw [hkw] at s_kb; exact ⟨0, Or.inr ⟨rfl, rfl⟩, s_kb⟩
                  have kbb : kb < 2 := by omega
                  refine mp_aload_n X 34 d_R_tell_33 rfl rfl rfl ?_
                  refine mp_getf (v := .int (nI 0)) X 37 lk_R_51_R d_R_tell_34 rfl (hKg.sz (by decide)) hKg.ob hcg ?_
                  refine mp_Zne X 102 40 d_R_tell_37 (by decide) rfl (by omega) (fun q1 => ?_) (fun q1 => ?_)
                  · exact absurd rfl q1
                  · refine mp_iload X 42 d_R_tell_40 rfl rfl ?_
                    refine mp_aload_n X 43 d_R_tell_42 rfl rfl rfl ?_
                    refine mp_getf (v := .ref (G.1 + 35)) X 46 lk_R_36_R d_R_tell_43 rfl (hKg.sz (by decide)) hKg.ob hKg.r_count ?_
                    refine mp_iload_n X 47 d_R_tell_46 rfl rfl rfl ?_
                    refine mp_iald (v := .int (nI ((S.2.2.2 a)))) X 48 (a) d_R_tell_47 rfl (hKg.sz (by decide)) hKg.k_count rfl (by omega) (by decide) sca ?_
                    refine mp_Nge X 102 51 d_R_tell_48 (by decide) rfl (by omega) (by omega) (fun q2 => ?_) (fun q2 => ?_)
                    · omega
                    · refine mp_iload X 53 d_R_tell_51 rfl rfl ?_
                      refine mp_iload_n X 54 d_R_tell_53 rfl rfl rfl ?_
                      refine mp_Nge X 102 57 d_R_tell_54 (by decide) rfl (by omega) (by omega) (fun q3 => ?_) (fun q3 => ?_)
                      · refine mp_iload X 104 d_R_tell_102 rfl rfl ?_
                        have hsp := sp_tl_stop (S := S) (a := a) (b := b) (n := m) (i := i) (by omega) (S.2.2.2 a - i)
                        rw [show i + (S.2.2.2 a - i) = S.2.2.2 a by omega] at hsp
                        rw [hsp]
                        exact mp_iret X d_R_tell_104 rfl rfl (by decide) (by decide) ⟨hcg, hSg, ⟨_, rfl, fun _ => rfl⟩, hfg⟩
                      · refine mp_aload_n X 58 d_R_tell_57 rfl rfl rfl ?_
                        refine mp_getf (v := .ref (G.1 + 33)) X 61 lk_R_29_R d_R_tell_58 rfl (hKg.sz (by decide)) hKg.ob hKg.r_known ?_
                        refine mp_bipush X 63 (v := nI 90) d_R_tell_61 rfl (by decide) ?_
                        refine mp_iload_n X 64 d_R_tell_63 rfl rfl rfl ?_
                        refine mp_imul X 65 d_R_tell_64 rfl ?_
                        rw [pk_mul]
                        refine mp_iload X 67 d_R_tell_65 rfl rfl ?_
                        refine mp_iadd X 68 d_R_tell_67 rfl ?_
                        rw [nI_add]
                        refine mp_iald (v := .int (nI ((S.2.2.1 a i)))) X 69 (90 * a + i) d_R_tell_68 rfl (hKg.sz (by decide)) hKg.k_known rfl (by omega) (by decide) skn ?_
                        refine mp_istore X 71 (L' := [.val (.ref (G.1 + 26)), .val (.int (nI a)), .val (.int (nI b)), .val (.int (nI m)), .val (.int (nI ((sp_tl S a b m i).2))), .val (.int (nI i)), .val (.int (nI ((S.2.2.1 a i))))]) d_R_tell_69 rfl rfl hz1 rfl ?_
                        refine mp_aload_n X 72 d_R_tell_71 rfl rfl rfl ?_
                        refine mp_getf (v := .ref (G.1 + 34)) X 75 lk_R_32_R d_R_tell_72 rfl (hKg.sz (by decide)) hKg.ob hKg.r_knows ?_
                        refine mp_bipush X 77 (v := nI 90) d_R_tell_75 rfl (by decide) ?_
                        refine mp_iload_n X 78 d_R_tell_77 rfl rfl rfl ?_
                        refine mp_imul X 79 d_R_tell_78 rfl ?_
                        rw [pk_mul]
                        refine mp_iload X 81 d_R_tell_79 rfl rfl ?_
                        refine mp_iadd X 82 d_R_tell_81 rfl ?_
                        rw [nI_add]
                        refine mp_zald (v := .int (nI kb)) X 83 (90 * b + S.2.2.1 a i) d_R_tell_82 rfl (hKg.sz (by decide)) hKg.k_knows rfl (by omega) (by decide) hkb ?_
                        refine mp_Zne X 96 86 d_R_tell_83 (by decide) rfl (by omega) (fun q4 => ?_) (fun q4 => ?_)
                        · refine mp_iinc X 99 (L' := [.val (.ref (G.1 + 26)), .val (.int (nI a)), .val (.int (nI b)), .val (.int (nI m)), .val (.int (nI ((sp_tl S a b m i).2))), .val (.int (nI (i + 1))), .val (.int (nI ((S.2.2.1 a i))))]) (v := nI (i + 1)) d_R_tell_96 rfl rfl (nI_1 _) rfl ?_
                          refine mp_goto X 33 d_R_tell_99 (by decide) ?_
                          have hkw : pq_kw ((sp_tl S a b m i).1.2.2.1 b) ((sp_tl S a b m i).1.2.2.2 b) (S.2.2.1 a i) = true := by rcases kb1 with ⟨h1, h2⟩ | ⟨h1, h2⟩; exact h2; omega
                          rw [if_neg (fun z => by rw [hkw] at z; cases z.2)] at hst
                          have hg := ih (i + 1) g (.val (.int (nI (S.2.2.1 a i)))) rfl (by omega) hKg (by rw [hst]; exact hSg) hfg hcg
                          rw [hst] at hg
                          exact hg
                        · refine mp_aload_n X 87 d_R_tell_86 rfl rfl rfl ?_
                          refine mp_iload_n X 88 d_R_tell_87 rfl rfl rfl ?_
                          refine mp_iload X 90 d_R_tell_88 rfl rfl ?_
                          have hkw : pq_kw ((sp_tl S a b m i).1.2.2.1 b) ((sp_tl S a b m i).1.2.2.2 b) (S.2.2.1 a i) = false := by rcases kb1 with ⟨h1, h2⟩ | ⟨h1, h2⟩; omega; exact h2
                          rw [if_pos ⟨q3, hkw⟩] at hst
                          obtain ⟨ok2, -⟩ := sp_tl_ok hok (n := m) ha hb (i + 1) (by omega)
                          rw [hst] at ok2
                          have hlc := pq_kn_le (ok2.2.2.1 b hb)
                          have hlc2 : (pq_lrn (sp_tl S a b m i).1 b (S.2.2.1 a i)).2.2.2 b = (sp_tl S a b m i).1.2.2.2 b + 1 := by show (if b = b then _ else _) = _; rw [if_pos rfl]
                          have hlc3 : (pq_lrn (sp_tl S a b m i).1 b (S.2.2.1 a i)).1 = S.1 := e1
                          have hc3 : ∀ c, c < 3 → (sp_tl S a b m i).1.2.2.2 c ≤ 90 := fun c hc => by have h1 := pq_kn_le (ok1.2.2.1 c hc); rw [e1] at h1; omega
                          have hlt9 : (sp_tl S a b m i).1.2.2.2 b < 90 := by simp only [] at hlc hlc2 hlc3; omega
                          refine mp_call X mp_Ts_ok 93 (rest := []) (k_R_learn (j := b) (k := S.2.2.1 a i) _ hKg hSg hb (by omega) hlt9 hc3) Y_R_learn in_R (mp_IV X (q := (nR_R, nT_R, 17)) d_R_tell_90 Y_R_learn ml_R_79 im_R_learn se_R_learn (by decide) rfl (by decide) (by show _ = some 2; decide) (hKg.sz (by decide)) hKg.ob) rfl (by decide) (by decide) (by decide) (by decide) rfl (by decide) (fun v g2 hp => ?_) (fun x g2 q hp => hp.elim)
                          obtain ⟨rfl, hS5, hf5⟩ := hp
                          have hf6 : mp_fr rm_A g g2 := hf5.mono fun o i => rm_LA
                          have hg := ih (i + 1) g2 (.val (.int (nI (S.2.2.1 a i)))) rfl (by omega) (hKg.frA hf6) (by rw [hst]; exact hS5) (hfg.tr hf6) (by rw [hf5.2.2 26 0 (by unfold rm_L; omega)]; exact hcg)
                          rw [hst] at hg
                          refine mp_eq rfl rfl (st2 := []) rfl ?_
                          refine mp_iinc X 96 (L' := [.val (.ref (G.1 + 26)), .val (.int (nI a)), .val (.int (nI b)), .val (.int (nI m)), .val (.int (nI ((sp_tl S a b m i).2 + 1))), .val (.int (nI i)), .val (.int (nI ((S.2.2.1 a i))))]) (v := nI ((sp_tl S a b m i).2 + 1)) d_R_tell_93 rfl rfl (nI_1 _) rfl ?_
                          refine mp_iinc X 99 (L' := [.val (.ref (G.1 + 26)), .val (.int (nI a)), .val (.int (nI b)), .val (.int (nI m)), .val (.int (nI ((sp_tl S a b m i).2 + 1))), .val (.int (nI (i + 1))), .val (.int (nI ((S.2.2.1 a i))))]) (v := nI (i + 1)) d_R_tell_96 rfl rfl (nI_1 _) rfl ?_
                          refine mp_goto X 33 d_R_tell_99 (by decide) ?_
                          exact hg
              exact hloop (S.2.2.2 a) 0 h2 .unset rfl (by omega) hK2 hS2 hf2 hc2
theorem wd_oi : Cond.code Lib.objectInit ⟨#[0xb1]⟩ 1 none ∈ mp_Ts := mp_Ts_in 38 (by decide +kernel) (by decide +kernel)
/-- a fresh cell, and a reference to it -/
theorem mp_ns (h : mp_H) (k n : Nat) (f : Nat → Value) (o i : Nat) (v : Value) : ∃ g, g = mp_set (mp_new h k n f) o i v ∧ g.2.2 = h.2.2 + 1 ∧ (∀ a, g.1 a = if a = h.2.2 then (k, n) else h.1 a) ∧ ∀ a b, g.2.1 a b = if a = o ∧ b = i then v else if a = h.2.2 then f b else h.2.1 a b := ⟨_, rfl, rfl, fun _ => rfl, fun _ _ => rfl⟩
def sp_0 : pq_S := (0, fun _ => (0, 0, 0, none, none, 0, 0), fun _ _ => 0, fun _ => 0)
set_option maxRecDepth 100000 in
set_option maxHeartbeats 4000000 in
theorem k_R_init (l : Launch) {G : mp_G} {h : mp_H} (hz : h.2.2 = 27) (hk : h.1 26 = (5, 17)) (h0 : h.2.1 26 0 = .int 0) (h1 : h.2.1 26 1 = .int 0) :
    mp_M G mp_Ts l y_R_init 1 13 1443 [.ref (G.1 + 26)] h (fun v g => v = none ∧ g.2.2 = 40 ∧ (∀ o, o < 26 → g.1 o = h.1 o ∧ g.2.1 o = h.2.1 o) ∧ ∀ g', 41 ≤ g'.2.2 → (∀ o, 26 ≤ o → o < 40 → g'.1 o = g.1 o ∧ g'.2.1 o = g.2.1 o) → rm_K G g' ∧ rm_S g' sp_0) (fun _ _ => False) := by
  refine mp_enter (by decide) Y_R_init fun E hl X => ?_
  refine mp_eq rfl (L2 := [.val (.ref (G.1 + 26))]) rfl rfl ?_
  refine mp_aload_n X 1 d_R_init_0 rfl rfl rfl ?_
  refine mp_objInit X 4 ml_R_1 wd_37 wd_oi d_R_init_1 rfl rfl (by decide) (by decide) ?_
  refine mp_aload_n X 5 d_R_init_4 rfl rfl rfl ?_
  refine mp_bipush X 7 (v := nI 90) d_R_init_5 rfl (by decide) ?_
  refine mp_newa X 9 (t := 0) (n := 90) (v0 := .int 0) (by decide) rfl wd_99 rfl d_R_init_7 rfl rfl (by decide) (by decide) (by decide) ?_
  have kn1 : (mp_new h (10 + 0) 90 (fun _ => .int 0)).1 26 = (5, 17) := by show (if 26 = h.2.2 then _ else _) = _; rw [if_neg (by omega)]; exact hk
  refine mp_putf X 12 ls_R_7_R d_R_init_9 rfl (Or.inr rfl) (by show 26 < h.2.2 + 1; omega) kn1 rfl rfl ?_
  obtain ⟨g1, eg1, zg1, kg1, rg1⟩ := mp_ns h (10 + 0) 90 (fun _ => .int 0) 26 2 (.ref (G.1 + h.2.2))
  rw [← eg1]
  rw [hz] at zg1 kg1 rg1
  have ko1 : g1.1 26 = (5, 17) := by rw [kg1, if_neg (by decide)]; exact hk
  refine mp_aload_n X 13 d_R_init_12 rfl rfl rfl ?_
  refine mp_bipush X 15 (v := nI 90) d_R_init_13 rfl (by decide) ?_
  refine mp_newa X 17 (t := 0) (n := 90) (v0 := .int 0) (by decide) rfl wd_99 rfl d_R_init_15 rfl rfl (by decide) (by decide) (by decide) ?_
  have kn2 : (mp_new g1 (10 + 0) 90 (fun _ => .int 0)).1 26 = (5, 17) := by show (if 26 = g1.2.2 then _ else _) = _; rw [if_neg (by omega)]; exact ko1
  refine mp_putf X 20 ls_R_13_R d_R_init_17 rfl (Or.inr rfl) (by show 26 < g1.2.2 + 1; omega) kn2 rfl rfl ?_
  obtain ⟨g2, eg2, zg2, kg2, rg2⟩ := mp_ns g1 (10 + 0) 90 (fun _ => .int 0) 26 3 (.ref (G.1 + g1.2.2))
  rw [← eg2]
  rw [zg1] at zg2 kg2 rg2
  have ko2 : g2.1 26 = (5, 17) := by rw [kg2, if_neg (by decide)]; exact ko1
  refine mp_aload_n X 21 d_R_init_20 rfl rfl rfl ?_
  refine mp_bipush X 23 (v := nI 90) d_R_init_21 rfl (by decide) ?_
  refine mp_newa X 25 (t := 0) (n := 90) (v0 := .int 0) (by decide) rfl wd_99 rfl d_R_init_23 rfl rfl (by decide) (by decide) (by decide) ?_
  have kn3 : (mp_new g2 (10 + 0) 90 (fun _ => .int 0)).1 26 = (5, 17) := by show (if 26 = g2.2.2 then _ else _) = _; rw [if_neg (by omega)]; exact ko2
  refine mp_putf X 28 ls_R_16_R d_R_init_25 rfl (Or.inr rfl) (by show 26 < g2.2.2 + 1; omega) kn3 rfl rfl ?_
  obtain ⟨g3, eg3, zg3, kg3, rg3⟩ := mp_ns g2 (10 + 0) 90 (fun _ => .int 0) 26 4 (.ref (G.1 + g2.2.2))
  rw [← eg3]
  rw [zg2] at zg3 kg3 rg3
  have ko3 : g3.1 26 = (5, 17) := by rw [kg3, if_neg (by decide)]; exact ko2
  refine mp_aload_n X 29 d_R_init_28 rfl rfl rfl ?_
  refine mp_bipush X 31 (v := nI 90) d_R_init_29 rfl (by decide) ?_
  refine mp_newa X 33 (t := 0) (n := 90) (v0 := .int 0) (by decide) rfl wd_99 rfl d_R_init_31 rfl rfl (by decide) (by decide) (by decide) ?_
  have kn4 : (mp_new g3 (10 + 0) 90 (fun _ => .int 0)).1 26 = (5, 17) := by show (if 26 = g3.2.2 then _ else _) = _; rw [if_neg (by omega)]; exact ko3
  refine mp_putf X 36 ls_R_19_R d_R_init_33 rfl (Or.inr rfl) (by show 26 < g3.2.2 + 1; omega) kn4 rfl rfl ?_
  obtain ⟨g4, eg4, zg4, kg4, rg4⟩ := mp_ns g3 (10 + 0) 90 (fun _ => .int 0) 26 5 (.ref (G.1 + g3.2.2))
  rw [← eg4]
  rw [zg3] at zg4 kg4 rg4
  have ko4 : g4.1 26 = (5, 17) := by rw [kg4, if_neg (by decide)]; exact ko3
  refine mp_aload_n X 37 d_R_init_36 rfl rfl rfl ?_
  refine mp_bipush X 39 (v := nI 90) d_R_init_37 rfl (by decide) ?_
  refine mp_newa X 41 (t := 0) (n := 90) (v0 := .int 0) (by decide) rfl wd_99 rfl d_R_init_39 rfl rfl (by decide) (by decide) (by decide) ?_
  have kn5 : (mp_new g4 (10 + 0) 90 (fun _ => .int 0)).1 26 = (5, 17) := by show (if 26 = g4.2.2 then _ else _) = _; rw [if_neg (by omega)]; exact ko4
  refine mp_putf X 44 ls_R_22_R d_R_init_41 rfl (Or.inr rfl) (by show 26 < g4.2.2 + 1; omega) kn5 rfl rfl ?_
  obtain ⟨g5, eg5, zg5, kg5, rg5⟩ := mp_ns g4 (10 + 0) 90 (fun _ => .int 0) 26 6 (.ref (G.1 + g4.2.2))
  rw [← eg5]
  rw [zg4] at zg5 kg5 rg5
  have ko5 : g5.1 26 = (5, 17) := by rw [kg5, if_neg (by decide)]; exact ko4
  refine mp_aload_n X 45 d_R_init_44 rfl rfl rfl ?_
  refine mp_bipush X 47 (v := nI 90) d_R_init_45 rfl (by decide) ?_
  refine mp_newa X 49 (t := 2) (n := 90) (v0 := .int 0) (by decide) rfl wd_513 rfl d_R_init_47 rfl rfl (by decide) (by decide) (by decide) ?_
  have kn6 : (mp_new g5 (10 + 2) 90 (fun _ => .int 0)).1 26 = (5, 17) := by show (if 26 = g5.2.2 then _ else _) = _; rw [if_neg (by omega)]; exact ko5
  refine mp_putf X 52 ls_R_25_R d_R_init_49 rfl (Or.inr rfl) (by show 26 < g5.2.2 + 1; omega) kn6 rfl rfl ?_
  obtain ⟨g6, eg6, zg6, kg6, rg6⟩ := mp_ns g5 (10 + 2) 90 (fun _ => .int 0) 26 7 (.ref (G.1 + g5.2.2))
  rw [← eg6]
  rw [zg5] at zg6 kg6 rg6
  have ko6 : g6.1 26 = (5, 17) := by rw [kg6, if_neg (by decide)]; exact ko5
  refine mp_aload_n X 53 d_R_init_52 rfl rfl rfl ?_
  refine mp_sipush X 56 (v := nI 270) d_R_init_53 rfl (by decide) ?_
  refine mp_newa X 58 (t := 0) (n := 270) (v0 := .int 0) (by decide) rfl wd_99 rfl d_R_init_56 rfl rfl (by decide) (by decide) (by decide) ?_
  have kn7 : (mp_new g6 (10 + 0) 270 (fun _ => .int 0)).1 26 = (5, 17) := by show (if 26 = g6.2.2 then _ else _) = _; rw [if_neg (by omega)]; exact ko6
  refine mp_putf X 61 ls_R_29_R d_R_init_58 rfl (Or.inr rfl) (by show 26 < g6.2.2 + 1; omega) kn7 rfl rfl ?_
  obtain ⟨g7, eg7, zg7, kg7, rg7⟩ := mp_ns g6 (10 + 0) 270 (fun _ => .int 0) 26 8 (.ref (G.1 + g6.2.2))
  rw [← eg7]
  rw [zg6] at zg7 kg7 rg7
  have ko7 : g7.1 26 = (5, 17) := by rw [kg7, if_neg (by decide)]; exact ko6
  refine mp_aload_n X 62 d_R_init_61 rfl rfl rfl ?_
  refine mp_sipush X 65 (v := nI 270) d_R_init_62 rfl (by decide) ?_
  refine mp_newa X 67 (t := 1) (n := 270) (v0 := .int 0) (by decide) rfl wd_98 rfl d_R_init_65 rfl rfl (by decide) (by decide) (by decide) ?_
  have kn8 : (mp_new g7 (10 + 1) 270 (fun _ => .int 0)).1 26 = (5, 17) := by show (if 26 = g7.2.2 then _ else _) = _; rw [if_neg (by omega)]; exact ko7
  refine mp_putf X 70 ls_R_32_R d_R_init_67 rfl (Or.inr rfl) (by show 26 < g7.2.2 + 1; omega) kn8 rfl rfl ?_
  obtain ⟨g8, eg8, zg8, kg8, rg8⟩ := mp_ns g7 (10 + 1) 270 (fun _ => .int 0) 26 9 (.ref (G.1 + g7.2.2))
  rw [← eg8]
  rw [zg7] at zg8 kg8 rg8
  have ko8 : g8.1 26 = (5, 17) := by rw [kg8, if_neg (by decide)]; exact ko7
  refine mp_aload_n X 71 d_R_init_70 rfl rfl rfl ?_
  refine mp_iconst X 72 (v := nI 3) d_R_init_71 rfl (by decide) ?_
  refine mp_newa X 74 (t := 0) (n := 3) (v0 := .int 0) (by decide) rfl wd_99 rfl d_R_init_72 rfl rfl (by decide) (by decide) (by decide) ?_
  have kn9 : (mp_new g8 (10 + 0) 3 (fun _ => .int 0)).1 26 = (5, 17) := by show (if 26 = g8.2.2 then _ else _) = _; rw [if_neg (by omega)]; exact ko8
  refine mp_putf X 77 ls_R_36_R d_R_init_74 rfl (Or.inr rfl) (by show 26 < g8.2.2 + 1; omega) kn9 rfl rfl ?_
  obtain ⟨g9, eg9, zg9, kg9, rg9⟩ := mp_ns g8 (10 + 0) 3 (fun _ => .int 0) 26 10 (.ref (G.1 + g8.2.2))
  rw [← eg9]
  rw [zg8] at zg9 kg9 rg9
  have ko9 : g9.1 26 = (5, 17) := by rw [kg9, if_neg (by decide)]; exact ko8
  refine mp_aload_n X 78 d_R_init_77 rfl rfl rfl ?_
  refine mp_bipush X 80 (v := nI 90) d_R_init_78 rfl (by decide) ?_
  refine mp_newa X 82 (t := 0) (n := 90) (v0 := .int 0) (by decide) rfl wd_99 rfl d_R_init_80 rfl rfl (by decide) (by decide) (by decide) ?_
  have kn10 : (mp_new g9 (10 + 0) 90 (fun _ => .int 0)).1 26 = (5, 17) := by show (if 26 = g9.2.2 then _ else _) = _; rw [if_neg (by omega)]; exact ko9
  refine mp_putf X 85 ls_R_39_R d_R_init_82 rfl (Or.inr rfl) (by show 26 < g9.2.2 + 1; omega) kn10 rfl rfl ?_
  obtain ⟨g10, eg10, zg10, kg10, rg10⟩ := mp_ns g9 (10 + 0) 90 (fun _ => .int 0) 26 12 (.ref (G.1 + g9.2.2))
  rw [← eg10]
  rw [zg9] at zg10 kg10 rg10
  have ko10 : g10.1 26 = (5, 17) := by rw [kg10, if_neg (by decide)]; exact ko9
  refine mp_aload_n X 86 d_R_init_85 rfl rfl rfl ?_
  refine mp_bipush X 88 (v := nI 90) d_R_init_86 rfl (by decide) ?_
  refine mp_newa X 90 (t := 0) (n := 90) (v0 := .int 0) (by decide) rfl wd_99 rfl d_R_init_88 rfl rfl (by decide) (by decide) (by decide) ?_
  have kn11 : (mp_new g10 (10 + 0) 90 (fun _ => .int 0)).1 26 = (5, 17) := by show (if 26 = g10.2.2 then _ else _) = _; rw [if_neg (by omega)]; exact ko10
  refine mp_putf X 93 ls_R_42_R d_R_init_90 rfl (Or.inr rfl) (by show 26 < g10.2.2 + 1; omega) kn11 rfl rfl ?_
  obtain ⟨g11, eg11, zg11, kg11, rg11⟩ := mp_ns g10 (10 + 0) 90 (fun _ => .int 0) 26 13 (.ref (G.1 + g10.2.2))
  rw [← eg11]
  rw [zg10] at zg11 kg11 rg11
  have ko11 : g11.1 26 = (5, 17) := by rw [kg11, if_neg (by decide)]; exact ko10
  refine mp_aload_n X 94 d_R_init_93 rfl rfl rfl ?_
  refine mp_bipush X 96 (v := nI 90) d_R_init_94 rfl (by decide) ?_
  refine mp_newa X 98 (t := 0) (n := 90) (v0 := .int 0) (by decide) rfl wd_99 rfl d_R_init_96 rfl rfl (by decide) (by decide) (by decide) ?_
  have kn12 : (mp_new g11 (10 + 0) 90 (fun _ => .int 0)).1 26 = (5, 17) := by show (if 26 = g11.2.2 then _ else _) = _; rw [if_neg (by omega)]; exact ko11
  refine mp_putf X 101 ls_R_45_R d_R_init_98 rfl (Or.inr rfl) (by show 26 < g11.2.2 + 1; omega) kn12 rfl rfl ?_
  obtain ⟨g12, eg12, zg12, kg12, rg12⟩ := mp_ns g11 (10 + 0) 90 (fun _ => .int 0) 26 15 (.ref (G.1 + g11.2.2))
  rw [← eg12]
  rw [zg11] at zg12 kg12 rg12
  have ko12 : g12.1 26 = (5, 17) := by rw [kg12, if_neg (by decide)]; exact ko11
  refine mp_aload_n X 102 d_R_init_101 rfl rfl rfl ?_
  refine mp_bipush X 104 (v := nI 90) d_R_init_102 rfl (by decide) ?_
  refine mp_newa X 106 (t := 1) (n := 90) (v0 := .int 0) (by decide) rfl wd_98 rfl d_R_init_104 rfl rfl (by decide) (by decide) (by decide) ?_
  have kn13 : (mp_new g12 (10 + 1) 90 (fun _ => .int 0)).1 26 = (5, 17) := by show (if 26 = g12.2.2 then _ else _) = _; rw [if_neg (by omega)]; exact ko12
  refine mp_putf X 109 ls_R_48_R d_R_init_106 rfl (Or.inr rfl) (by show 26 < g12.2.2 + 1; omega) kn13 rfl rfl ?_
  obtain ⟨g13, eg13, zg13, kg13, rg13⟩ := mp_ns g12 (10 + 1) 90 (fun _ => .int 0) 26 16 (.ref (G.1 + g12.2.2))
  rw [← eg13]
  rw [zg12] at zg13 kg13 rg13
  have ko13 : g13.1 26 = (5, 17) := by rw [kg13, if_neg (by decide)]; exact ko12
  refine mp_vret X d_R_init_109 rfl (by decide) (by decide) ⟨rfl, zg13, fun o ho => ⟨?_, ?_⟩, fun g' hg' he => ⟨?_, ?_, ?_, ?_⟩⟩
  · simp only [kg13, kg12, kg11, kg10, kg9, kg8, kg7, kg6, kg5, kg4, kg3, kg2, kg1]
    repeat rw [if_neg (by omega)]
  · funext b
    simp only [rg13, rg12, rg11, rg10, rg9, rg8, rg7, rg6, rg5, rg4, rg3, rg2, rg1]
    repeat rw [if_neg (by omega)]
  · unfold rm_K
    refine ⟨hg', ?_⟩
    rw [(he 26 (by decide) (by decide)).1, (he 26 (by decide) (by decide)).2, (he 27 (by decide) (by decide)).1, (he 28 (by decide) (by decide)).1, (he 29 (by decide) (by decide)).1, (he 30 (by decide) (by decide)).1, (he 31 (by decide) (by decide)).1, (he 32 (by decide) (by decide)).1, (he 33 (by decide) (by decide)).1, (he 34 (by decide) (by decide)).1, (he 35 (by decide) (by decide)).1, (he 36 (by decide) (by decide)).1, (he 37 (by decide) (by decide)).1, (he 38 (by decide) (by decide)).1, (he 39 (by decide) (by decide)).1]
    simp [kg13, kg12, kg11, kg10, kg9, kg8, kg7, kg6, kg5, kg4, kg3, kg2, kg1, rg13, rg12, rg11, rg10, rg9, rg8, rg7, rg6, rg5, rg4, rg3, rg2, rg1, hk]
  · rw [(he 26 (by decide) (by decide)).2]
    simp only [rg13, rg12, rg11, rg10, rg9, rg8, rg7, rg6, rg5, rg4, rg3, rg2, rg1]
    simp
    exact h1
  · intro k hk9
    cases hk9
  · intro j hj
    refine ⟨?_, fun i hi => absurd hi (Nat.not_lt_zero i), fun k hk9 => ?_⟩
    · rw [(he 35 (by decide) (by decide)).2]
      simp only [rg13, rg12, rg11, rg10, rg9, rg8, rg7, rg6, rg5, rg4, rg3, rg2, rg1]
      simp
      rfl
    · rw [(he 34 (by decide) (by decide)).2]
      simp only [rg13, rg12, rg11, rg10, rg9, rg8, rg7, rg6, rg5, rg4, rg3, rg2, rg1]
      simp
      rfl
