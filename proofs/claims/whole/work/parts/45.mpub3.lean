/-! The reference: begins, runs, run, count, alike, tell (rows laid by program). -/
theorem rm_b_n (b : Bool) : ∃ n : Nat, rm_b b = nI n ∧ (n = 1 ∧ b = true ∨ n = 0 ∧ b = false) := by
  cases b
  · exact ⟨0, rfl, Or.inr ⟨rfl, rfl⟩⟩
  · exact ⟨1, rfl, Or.inl ⟨rfl, rfl⟩⟩
theorem rm_LA {o i : Nat} (h : rm_L o i) : rm_A o i := by unfold rm_L at h; unfold rm_A; omega
def rm_m : Nat → Int32
  | 0 => -1
  | n + 1 => nI n
theorem rm_m1 (n : Nat) : rm_m n + nI 1 = rm_m (n + 1) := by
  cases n with
  | zero => decide
  | succ n => exact nI_add _ _
theorem rm_m0 {n : Nat} (h : 0 < n) : rm_m n + nI 0 = rm_m n := by
  cases n with
  | zero => omega
  | succ n => exact nI_add _ _
theorem rm_mp {n : Nat} (h : 0 < n) : rm_m n = nI (n - 1) := by
  cases n with
  | zero => omega
  | succ n => rfl
theorem pq_ru_s (f : Nat → Nat) (p : Nat) : pq_ru f (p + 1) = pq_ru f p + (if pq_bg f p then 1 else 0) := rfl
theorem pq_sr_in {f : Nat → Nat} {r n : Nat} (h : r < pq_ru f n) : pq_sr f r n < n := by
  have h1 := pq_sr_le f r n
  have h2 : n ≠ 0 := fun z => by subst z; cases h
  rcases Nat.lt_or_ge (pq_sr f r n) n with h3 | h3
  · exact h3
  · have h4 := (pq_sr_spec f r n (n - 1) (by omega)).mp (by omega)
    rw [show n - 1 + 1 = n by omega] at h4
    omega
theorem sp_ak_f {S : pq_S} {a b k : Nat} (h : sp_ak S a b k = false) : ∀ m, sp_ak S a b (k + m) = false
  | 0 => h
  | m + 1 => by
    show (sp_ak S a b (k + m) && _) = false
    rw [sp_ak_f h m]; rfl
set_option maxRecDepth 100000 in
set_option maxHeartbeats 4000000 in
theorem k_R_begins0 (l : Launch) {G : mp_G} {h : mp_H} {S : pq_S} {j p : Nat} (hK1 : rm_K G h) (hS1 : rm_S h S) (hV1 : rm_V h S j) (hok : pq_ok S) (hj : j < 3) (hp : p < (rm_T S j).length) :
    mp_M G mp_Ts l y_R_begins 2 0 0 [.ref (G.1 + 26), .int (nI j), .int (nI p)] h (fun v h' => h' = h ∧ v = some (.int (rm_b (pq_bg (sp_fm S j) p)))) (fun _ _ => False) := by
  have hTl := sp_T_len hok hj
  have hf1 := pq_fm_lt S.2.1 (rm_F S j) (sp_t S j p) (sp_mk S j)
  have hf2 := pq_fm_lt S.2.1 (rm_F S j) (sp_t S j (p - 1)) (sp_mk S j)
  change sp_fm S j p < 16 at hf1
  change sp_fm S j (p - 1) < 16 at hf2
  refine mp_enter (by decide) Y_R_begins fun E hl X => ?_
  refine mp_eq rfl (L2 := [.val (.ref (G.1 + 26)), .val (.int (nI j)), .val (.int (nI p)), .unset]) rfl rfl ?_
  refine mp_iload_n X 1 d_R_begins_0 rfl rfl rfl ?_
  refine mp_Zne X 6 4 d_R_begins_1 (by decide) rfl (by omega) (fun q1 => ?_) (fun q1 => ?_)
  · refine mp_aload_n X 7 d_R_begins_6 rfl rfl rfl ?_
    refine mp_iload_n X 8 d_R_begins_7 rfl rfl rfl ?_
    refine mp_aload_n X 9 d_R_begins_8 rfl rfl rfl ?_
    refine mp_getf (v := .ref (G.1 + 38)) X 12 lk_R_45_R d_R_begins_9 rfl (hK1.sz (by decide)) hK1.ob hK1.r_text ?_
    refine mp_iload_n X 13 d_R_begins_12 rfl rfl rfl ?_
    refine mp_iconst X 14 (v := nI 1) d_R_begins_13 rfl (by decide) ?_
    refine mp_isub X 15 d_R_begins_14 rfl ?_
    have e2 : nI p - nI 1 = nI (p - 1) := pk_sub (by omega)
    rw [e2]
    refine mp_iald (v := .int (nI ((sp_t S j (p - 1))))) X 16 (p - 1) d_R_begins_15 rfl (hK1.sz (by decide)) hK1.k_text rfl (by omega) (by decide) (hV1.2.1 _ _ (sp_t_mem (by omega))) ?_
    refine mp_callE X mp_Ts_ok 19 (rest := []) (k_R_formatOf _ hK1 hS1 hV1 hok hj (sp_t_row (q := (p - 1)) (by omega))) Y_R_formatOf in_R (mp_IV X (q := (nR_R, nT_R, 17)) d_R_begins_16 Y_R_formatOf ml_R_98 im_R_formatOf se_R_formatOf (by decide) rfl (by decide) (by show _ = some 2; decide) (hK1.sz (by decide)) hK1.ob) rfl (by decide) (by decide) (by decide) (by decide) rfl (by decide) rfl ?_
    refine mp_eq rfl rfl (st2 := [.int (nI (sp_fm S j (p - 1)))]) rfl ?_
    refine mp_istore_n X 20 (L' := [.val (.ref (G.1 + 26)), .val (.int (nI j)), .val (.int (nI p)), .val (.int (nI ((sp_fm S j (p - 1)))))]) d_R_begins_19 rfl rfl rfl rfl rfl ?_
    refine mp_aload_n X 21 d_R_begins_20 rfl rfl rfl ?_
    refine mp_iload_n X 22 d_R_begins_21 rfl rfl rfl ?_
    refine mp_aload_n X 23 d_R_begins_22 rfl rfl rfl ?_
    refine mp_getf (v := .ref (G.1 + 38)) X 26 lk_R_45_R d_R_begins_23 rfl (hK1.sz (by decide)) hK1.ob hK1.r_text ?_
    refine mp_iload_n X 27 d_R_begins_26 rfl rfl rfl ?_
    refine mp_iald (v := .int (nI ((sp_t S j p)))) X 28 (p) d_R_begins_27 rfl (hK1.sz (by decide)) hK1.k_text rfl (by omega) (by decide) (hV1.2.1 _ _ (sp_t_mem (by omega))) ?_
    refine mp_callE X mp_Ts_ok 31 (rest := []) (k_R_formatOf _ hK1 hS1 hV1 hok hj (sp_t_row (q := p) (by omega))) Y_R_formatOf in_R (mp_IV X (q := (nR_R, nT_R, 17)) d_R_begins_28 Y_R_formatOf ml_R_98 im_R_formatOf se_R_formatOf (by decide) rfl (by decide) (by show _ = some 2; decide) (hK1.sz (by decide)) hK1.ob) rfl (by decide) (by decide) (by decide) (by decide) rfl (by decide) rfl ?_
    refine mp_eq rfl rfl (st2 := [.int (nI (sp_fm S j p))]) rfl ?_
    refine mp_iload_n X 32 d_R_begins_31 rfl rfl rfl ?_
    refine mp_Neq X 39 35 d_R_begins_32 (by decide) rfl (by omega) (by omega) (fun q3 => ?_) (fun q3 => ?_)
    · refine mp_iconst X 40 (v := nI 0) d_R_begins_39 rfl (by decide) ?_
      have eb : pq_bg (sp_fm S j) p = false := by simp [pq_bg, q1, q3]
      exact mp_iret X d_R_begins_40 rfl rfl (by decide) (by decide) ⟨rfl, by rw [eb]; rfl⟩
    · refine mp_iconst X 36 (v := nI 1) d_R_begins_35 rfl (by decide) ?_
      refine mp_goto X 40 d_R_begins_36 (by decide) ?_
      have eb : pq_bg (sp_fm S j) p = true := by simp [pq_bg, q1, q3]
      exact mp_iret X d_R_begins_40 rfl rfl (by decide) (by decide) ⟨rfl, by rw [eb]; rfl⟩
  · refine mp_iconst X 5 (v := nI 1) d_R_begins_4 rfl (by decide) ?_
    have eb : pq_bg (sp_fm S j) p = true := by unfold pq_bg; rw [q1]; rfl
    exact mp_iret X d_R_begins_5 rfl rfl (by decide) (by decide) ⟨rfl, by rw [eb]; rfl⟩
theorem k_R_begins (l : Launch) {G : mp_G} {h : mp_H} {S : pq_S} {j p n : Nat} (hK1 : rm_K G h) (hS1 : rm_S h S) (hV1 : rm_V h S j) (hok : pq_ok S) (hj : j < 3) (hp : p < (rm_T S j).length) (hn : rm_b (pq_bg (sp_fm S j) p) = nI n) :
    mp_M G mp_Ts l y_R_begins 2 0 0 [.ref (G.1 + 26), .int (nI j), .int (nI p)] h (fun v h' => h' = h ∧ v = some (.int (nI n))) (fun _ _ => False) := by
  rw [← hn]
  exact k_R_begins0 l hK1 hS1 hV1 hok hj hp
set_option maxRecDepth 100000 in
set_option maxHeartbeats 4000000 in
theorem k_R_runs (l : Launch) {G : mp_G} {h : mp_H} {S : pq_S} {x : Int32} (hK1 : rm_K G h) (hS1 : rm_S h S) (hok : pq_ok S) :
    mp_M G mp_Ts l y_R_runs 3 0 0 [.ref (G.1 + 26), .int x] h (rm_Z h (sp_runs S x)) (fun _ _ => False) := by
  have hM : S.1 ≤ 90 := hok.1
  have hw := hok.2.1
  have hf1 : mp_fr rm_A h h := mp_fr.rf
  refine mp_enter (by decide) Y_R_runs fun E hl X => ?_
  refine mp_eq rfl (L2 := [.val (.ref (G.1 + 26)), .val (.int x), .unset, .unset]) rfl rfl ?_
  cases hx : sp_ix 3 x with
  | none =>
    have hz : sp_runs S x = (1, 0, S) := by unfold sp_runs; rw [hx]
    rw [hz]
    refine mp_aload_n X 1 d_R_runs_0 rfl rfl rfl ?_
    refine mp_iload_n X 2 d_R_runs_1 rfl rfl rfl ?_
    refine mp_callE X mp_Ts_ok 5 (rest := [.ref (G.1 + 26)]) (k_R_isPageF _ hx) Y_R_isPage in_R (mp_IS X d_R_runs_2 Y_R_isPage ml_R_83 st_R_isPage in_R (by decide) (by show _ = some 1; decide)) rfl (by decide) (by decide) (by decide) (by decide) rfl (Nat.le_of_ble_eq_true rfl) rfl ?_
    refine mp_Zeq X 12 8 d_R_runs_5 (by decide) rfl (by omega) (fun q1 => ?_) (fun q1 => ?_)
    · refine mp_iconst X 13 (v := nI 1) d_R_runs_12 rfl (by decide) ?_
      refine mp_putf X 16 ls_R_51_R d_R_runs_13 rfl (Or.inl rfl) (hK1.sz (by decide)) hK1.ob rfl rfl ?_
      obtain ⟨h2, eh2⟩ : ∃ z, z = mp_set h 26 (0) (.int (nI 1)) := ⟨_, rfl⟩
      rw [← eh2]
      have rh2 : ∀ a b, h2.2.1 a b = if a = 26 ∧ b = 0 then .int (nI 1) else h.2.1 a b := by intro a b; rw [eh2]; rfl
      have hK2 : rm_K G h2 := by rw [eh2]; exact hK1.st (Or.inr (Or.inl rfl))
      have hf2 : mp_fr rm_A h h2 := by rw [eh2]; exact hf1.set (by unfold rm_A; omega)
      have hS2 : rm_S h2 S := by rw [eh2]; exact hS1.cd
      have hc2 : h2.2.1 26 0 = .int (nI 1) := by rw [rh2, if_pos ⟨rfl, rfl⟩]
      refine mp_aload_n X 17 d_R_runs_16 rfl rfl rfl ?_
      refine mp_getf (v := .int (nI 1)) X 20 lk_R_51_R d_R_runs_17 rfl (hK2.sz (by decide)) hK2.ob hc2 ?_
      refine mp_Zle X 25 23 d_R_runs_20 (by decide) rfl (by omega) (fun q2 => ?_) (fun q2 => ?_)
      · omega
      · refine mp_iconst X 24 (v := nI 0) d_R_runs_23 rfl (by decide) ?_
        exact mp_iret X d_R_runs_24 rfl rfl (by decide) (by decide) (rm_Z.code hc2 (by decide) hS2 hf2)
    · exact absurd rfl q1
  | some j =>
    obtain ⟨hj, rfl⟩ := sp_ix_some hx (by decide)
    have hTl := sp_T_len hok hj
    have hz : sp_runs S (nI j) = (0, nI (pq_ru (sp_fm S j) (rm_T S j).length), S) := by unfold sp_runs; rw [hx]
    rw [hz]
    refine mp_aload_n X 1 d_R_runs_0 rfl rfl rfl ?_
    refine mp_iload_n X 2 d_R_runs_1 rfl rfl rfl ?_
    refine mp_callE X mp_Ts_ok 5 (rest := [.ref (G.1 + 26)]) (k_R_isPageT _ hj) Y_R_isPage in_R (mp_IS X d_R_runs_2 Y_R_isPage ml_R_83 st_R_isPage in_R (by decide) (by show _ = some 1; decide)) rfl (by decide) (by decide) (by decide) (by decide) rfl (Nat.le_of_ble_eq_true rfl) rfl ?_
    refine mp_Zeq X 12 8 d_R_runs_5 (by decide) rfl (by omega) (fun q1 => ?_) (fun q1 => ?_)
    · exact absurd q1 (by decide)
    · refine mp_iconst X 9 (v := nI 0) d_R_runs_8 rfl (by decide) ?_
      refine mp_goto X 13 d_R_runs_9 (by decide) ?_
      refine mp_putf X 16 ls_R_51_R d_R_runs_13 rfl (Or.inl rfl) (hK1.sz (by decide)) hK1.ob rfl rfl ?_
      obtain ⟨h2, eh2⟩ : ∃ z, z = mp_set h 26 (0) (.int (nI 0)) := ⟨_, rfl⟩
      rw [← eh2]
      have rh2 : ∀ a b, h2.2.1 a b = if a = 26 ∧ b = 0 then .int (nI 0) else h.2.1 a b := by intro a b; rw [eh2]; rfl
      have hK2 : rm_K G h2 := by rw [eh2]; exact hK1.st (Or.inr (Or.inl rfl))
      have hf2 : mp_fr rm_A h h2 := by rw [eh2]; exact hf1.set (by unfold rm_A; omega)
      have hS2 : rm_S h2 S := by rw [eh2]; exact hS1.cd
      have hc2 : h2.2.1 26 0 = .int (nI 0) := by rw [rh2, if_pos ⟨rfl, rfl⟩]
      refine mp_aload_n X 17 d_R_runs_16 rfl rfl rfl ?_
      refine mp_getf (v := .int (nI 0)) X 20 lk_R_51_R d_R_runs_17 rfl (hK2.sz (by decide)) hK2.ob hc2 ?_
      refine mp_Zle X 25 23 d_R_runs_20 (by decide) rfl (by omega) (fun q2 => ?_) (fun q2 => ?_)
      · refine mp_aload_n X 26 d_R_runs_25 rfl rfl rfl ?_
        refine mp_iload_n X 27 d_R_runs_26 rfl rfl rfl ?_
        refine mp_call X mp_Ts_ok 30 (rest := []) (k_R_look _ hK2 hS2 hok hj) Y_R_look in_R (mp_IV X (q := (nR_R, nT_R, 17)) d_R_runs_27 Y_R_look ml_R_87 im_R_look se_R_look (by decide) rfl (by decide) (by show _ = some 1; decide) (hK2.sz (by decide)) hK2.ob) rfl (by decide) (by decide) (by decide) (by decide) rfl (by decide) (fun v h3 hp => ?_) (fun x h3 q hp => hp.elim)
        obtain ⟨rfl, hq3, hV3⟩ := hp
        have hK3 : rm_K G h3 := hK2.fr rm_Q (by intro i a b c d; unfold rm_Q; omega) hq3
        have hS3 : rm_S h3 S := hS2.fr (hq3.mono fun o i => rm_QP)
        have hf3 : mp_fr rm_A h h3 := hf2.tr (hq3.mono fun o i => rm_QA)
        refine mp_eq rfl rfl (st2 := []) rfl ?_
        refine mp_iconst X 31 (v := nI 0) d_R_runs_30 rfl (by decide) ?_
        refine mp_istore_n X 32 (L' := [.val (.ref (G.1 + 26)), .val (.int (nI j)), .val (.int (nI 0)), .unset]) d_R_runs_31 rfl rfl rfl rfl rfl ?_
        refine mp_iconst X 33 (v := nI 0) d_R_runs_32 rfl (by decide) ?_
        refine mp_istore_n X 34 (L' := [.val (.ref (G.1 + 26)), .val (.int (nI j)), .val (.int (nI 0)), .val (.int (nI 0))]) d_R_runs_33 rfl rfl rfl rfl rfl ?_
        have hc3 : h3.2.1 26 0 = .int (nI 0) := by rw [hq3.2.2 26 0 (by unfold rm_Q; omega)]; exact hc2
        have hloop : ∀ (n p : Nat), p + n = (rm_T S j).length → mp_W G E h3 0 0 (mp_Q G E 0 0 (rm_Z h (0, nI (pq_ru (sp_fm S j) (rm_T S j).length), S)) (fun _ _ => False)) 34 [.val (.ref (G.1 + 26)), .val (.int (nI j)), .val (.int (nI (pq_ru (sp_fm S j) p))), .val (.int (nI p))] [] := by
          intro n
          induction n with
          | zero =>
            intro p hpn
            have hpl : p = (rm_T S j).length := by omega
            subst hpl
            refine mp_iload_n X 35 d_R_runs_34 rfl rfl rfl ?_
            refine mp_aload_n X 36 d_R_runs_35 rfl rfl rfl ?_
            refine mp_getf (v := .int (nI ((rm_T S j).length))) X 39 lk_R_61_R d_R_runs_36 rfl (hK3.sz (by decide)) hK3.ob hV3.1 ?_
            refine mp_Nge X 65 42 d_R_runs_39 (by decide) rfl (by omega) (by omega) (fun q1 => ?_) (fun q1 => ?_)
            · refine mp_iload_n X 66 d_R_runs_65 rfl rfl rfl ?_
              exact mp_iret X d_R_runs_66 rfl rfl (by decide) (by decide) ⟨hc3, hS3, ⟨_, rfl, fun _ => rfl⟩, hf3⟩
            · omega
          | succ n ih =>
            intro p hpn
            obtain ⟨bn, hbn, hb⟩ := rm_b_n (pq_bg (sp_fm S j) p)
            have hbl : bn < 2 := by omega
            refine mp_iload_n X 35 d_R_runs_34 rfl rfl rfl ?_
            refine mp_aload_n X 36 d_R_runs_35 rfl rfl rfl ?_
            refine mp_getf (v := .int (nI ((rm_T S j).length))) X 39 lk_R_61_R d_R_runs_36 rfl (hK3.sz (by decide)) hK3.ob hV3.1 ?_
            refine mp_Nge X 65 42 d_R_runs_39 (by decide) rfl (by omega) (by omega) (fun q1 => ?_) (fun q1 => ?_)
            · omega
            · refine mp_iload_n X 43 d_R_runs_42 rfl rfl rfl ?_
              refine mp_aload_n X 44 d_R_runs_43 rfl rfl rfl ?_
              refine mp_iload_n X 45 d_R_runs_44 rfl rfl rfl ?_
              refine mp_iload_n X 46 d_R_runs_45 rfl rfl rfl ?_
              refine mp_callE X mp_Ts_ok 49 (rest := [.int (nI ((pq_ru (sp_fm S j) p)))]) (k_R_begins (p := p) (n := bn) _ hK3 hS3 hV3 hok hj (by omega) hbn) Y_R_begins in_R (mp_IV X (q := (nR_R, nT_R, 17)) d_R_runs_46 Y_R_begins ml_R_101 im_R_begins se_R_begins (by decide) rfl (by decide) (by show _ = some 2; decide) (hK3.sz (by decide)) hK3.ob) rfl (by decide) (by decide) (by decide) (by decide) rfl (Nat.le_of_ble_eq_true rfl) rfl ?_
              refine mp_Zeq X 56 52 d_R_runs_49 (by decide) rfl (by omega) (fun q2 => ?_) (fun q2 => ?_)
              · refine mp_iconst X 57 (v := nI 0) d_R_runs_56 rfl (by decide) ?_
                refine mp_iadd X 58 d_R_runs_57 rfl ?_
                rw [nI_add]
                refine mp_istore_n X 59 (L' := [.val (.ref (G.1 + 26)), .val (.int (nI j)), .val (.int (nI ((pq_ru (sp_fm S j) p) + 0))), .val (.int (nI p))]) d_R_runs_58 rfl rfl rfl rfl rfl ?_
                refine mp_iinc X 62 (L' := [.val (.ref (G.1 + 26)), .val (.int (nI j)), .val (.int (nI ((pq_ru (sp_fm S j) p) + 0))), .val (.int (nI (p + 1)))]) (v := nI (p + 1)) d_R_runs_59 rfl rfl (nI_1 _) rfl ?_
                refine mp_goto X 34 d_R_runs_62 (by decide) ?_
                have hbb : pq_bg (sp_fm S j) p = false := by rcases hb with ⟨h1, h2⟩ | ⟨h1, h2⟩ <;> first | exact h2 | omega
                have eg : pq_ru (sp_fm S j) (p + 1) = (pq_ru (sp_fm S j) p) + 0 := by rw [pq_ru_s, hbb]; rfl
                have hg := ih (p + 1) (by omega)
                rw [eg] at hg
                exact hg
              · refine mp_iconst X 53 (v := nI 1) d_R_runs_52 rfl (by decide) ?_
                refine mp_goto X 57 d_R_runs_53 (by decide) ?_
                refine mp_iadd X 58 d_R_runs_57 rfl ?_
                rw [nI_add]
                refine mp_istore_n X 59 (L' := [.val (.ref (G.1 + 26)), .val (.int (nI j)), .val (.int (nI ((pq_ru (sp_fm S j) p) + 1))), .val (.int (nI p))]) d_R_runs_58 rfl rfl rfl rfl rfl ?_
                refine mp_iinc X 62 (L' := [.val (.ref (G.1 + 26)), .val (.int (nI j)), .val (.int (nI ((pq_ru (sp_fm S j) p) + 1))), .val (.int (nI (p + 1)))]) (v := nI (p + 1)) d_R_runs_59 rfl rfl (nI_1 _) rfl ?_
                refine mp_goto X 34 d_R_runs_62 (by decide) ?_
                have hbb : pq_bg (sp_fm S j) p = true := by rcases hb with ⟨h1, h2⟩ | ⟨h1, h2⟩ <;> first | exact h2 | omega
                have eg : pq_ru (sp_fm S j) (p + 1) = (pq_ru (sp_fm S j) p) + 1 := by rw [pq_ru_s, hbb]; rfl
                have hg := ih (p + 1) (by omega)
                rw [eg] at hg
                exact hg
        exact hloop (rm_T S j).length 0 (by omega)
      · omega
set_option maxRecDepth 100000 in
set_option maxHeartbeats 4000000 in
theorem k_R_run (l : Launch) {G : mp_G} {h : mp_H} {S : pq_S} {x k w : Int32} (hK1 : rm_K G h) (hS1 : rm_S h S) (hok : pq_ok S) :
    mp_M G mp_Ts l y_R_run 3 0 0 [.ref (G.1 + 26), .int x, .int k, .int w] h (rm_Z h (sp_run S x k w)) (fun _ _ => False) := by
  have hM : S.1 ≤ 90 := hok.1
  have hw := hok.2.1
  have hf1 : mp_fr rm_A h h := mp_fr.rf
  refine mp_enter (by decide) Y_R_run fun E hl X => ?_
  refine mp_eq rfl (L2 := [.val (.ref (G.1 + 26)), .val (.int x), .val (.int k), .val (.int w), .unset, .unset, .unset, .unset]) rfl rfl ?_
  cases hx : sp_ix 3 x with
  | none =>
    have hz : sp_run S x k w = (1, 0, S) := by unfold sp_run; rw [hx]
    rw [hz]
    refine mp_aload_n X 1 d_R_run_0 rfl rfl rfl ?_
    refine mp_iload_n X 2 d_R_run_1 rfl rfl rfl ?_
    refine mp_callE X mp_Ts_ok 5 (rest := [.ref (G.1 + 26)]) (k_R_isPageF _ hx) Y_R_isPage in_R (mp_IS X d_R_run_2 Y_R_isPage ml_R_83 st_R_isPage in_R (by decide) (by show _ = some 1; decide)) rfl (by decide) (by decide) (by decide) (by decide) rfl (Nat.le_of_ble_eq_true rfl) rfl ?_
    refine mp_Zeq X 21 8 d_R_run_5 (by decide) rfl (by omega) (fun q1 => ?_) (fun q1 => ?_)
    · refine mp_iconst X 22 (v := nI 1) d_R_run_21 rfl (by decide) ?_
      refine mp_putf X 25 ls_R_51_R d_R_run_22 rfl (Or.inl rfl) (hK1.sz (by decide)) hK1.ob rfl rfl ?_
      obtain ⟨h2, eh2⟩ : ∃ z, z = mp_set h 26 (0) (.int (nI 1)) := ⟨_, rfl⟩
      rw [← eh2]
      have rh2 : ∀ a b, h2.2.1 a b = if a = 26 ∧ b = 0 then .int (nI 1) else h.2.1 a b := by intro a b; rw [eh2]; rfl
      have hK2 : rm_K G h2 := by rw [eh2]; exact hK1.st (Or.inr (Or.inl rfl))
      have hf2 : mp_fr rm_A h h2 := by rw [eh2]; exact hf1.set (by unfold rm_A; omega)
      have hS2 : rm_S h2 S := by rw [eh2]; exact hS1.cd
      have hc2 : h2.2.1 26 0 = .int (nI 1) := by rw [rh2, if_pos ⟨rfl, rfl⟩]
      refine mp_aload_n X 26 d_R_run_25 rfl rfl rfl ?_
      refine mp_getf (v := .int (nI 1)) X 29 lk_R_51_R d_R_run_26 rfl (hK2.sz (by decide)) hK2.ob hc2 ?_
      refine mp_Zle X 34 32 d_R_run_29 (by decide) rfl (by omega) (fun q2 => ?_) (fun q2 => ?_)
      · omega
      · refine mp_iconst X 33 (v := nI 0) d_R_run_32 rfl (by decide) ?_
        exact mp_iret X d_R_run_33 rfl rfl (by decide) (by decide) (rm_Z.code hc2 (by decide) hS2 hf2)
    · exact absurd rfl q1
  | some j =>
    obtain ⟨hj, rfl⟩ := sp_ix_some hx (by decide)
    have hTl := sp_T_len hok hj
    have hrl := pq_ru_le (sp_fm S j) (rm_T S j).length
    cases hw3 : sp_ix 3 w with
    | none =>
      have hz : sp_run S (nI j) k w = (1, 0, S) := by unfold sp_run; rw [hx, hw3]
      rw [hz]
      refine mp_aload_n X 1 d_R_run_0 rfl rfl rfl ?_
      refine mp_iload_n X 2 d_R_run_1 rfl rfl rfl ?_
      refine mp_callE X mp_Ts_ok 5 (rest := [.ref (G.1 + 26)]) (k_R_isPageT _ hj) Y_R_isPage in_R (mp_IS X d_R_run_2 Y_R_isPage ml_R_83 st_R_isPage in_R (by decide) (by show _ = some 1; decide)) rfl (by decide) (by decide) (by decide) (by decide) rfl (Nat.le_of_ble_eq_true rfl) rfl ?_
      refine mp_Zeq X 21 8 d_R_run_5 (by decide) rfl (by omega) (fun q1 => ?_) (fun q1 => ?_)
      · exact absurd q1 (by decide)
      · refine mp_iload_n X 9 d_R_run_8 rfl rfl rfl ?_
        refine mp_if_lt X 21 12 d_R_run_9 (by decide) rfl (fun q2 => ?_) (fun q2 => ?_)
        · refine mp_iconst X 22 (v := nI 1) d_R_run_21 rfl (by decide) ?_
          refine mp_putf X 25 ls_R_51_R d_R_run_22 rfl (Or.inl rfl) (hK1.sz (by decide)) hK1.ob rfl rfl ?_
          obtain ⟨h2, eh2⟩ : ∃ z, z = mp_set h 26 (0) (.int (nI 1)) := ⟨_, rfl⟩
          rw [← eh2]
          have rh2 : ∀ a b, h2.2.1 a b = if a = 26 ∧ b = 0 then .int (nI 1) else h.2.1 a b := by intro a b; rw [eh2]; rfl
          have hK2 : rm_K G h2 := by rw [eh2]; exact hK1.st (Or.inr (Or.inl rfl))
          have hf2 : mp_fr rm_A h h2 := by rw [eh2]; exact hf1.set (by unfold rm_A; omega)
          have hS2 : rm_S h2 S := by rw [eh2]; exact hS1.cd
          have hc2 : h2.2.1 26 0 = .int (nI 1) := by rw [rh2, if_pos ⟨rfl, rfl⟩]
          refine mp_aload_n X 26 d_R_run_25 rfl rfl rfl ?_
          refine mp_getf (v := .int (nI 1)) X 29 lk_R_51_R d_R_run_26 rfl (hK2.sz (by decide)) hK2.ob hc2 ?_
          refine mp_Zle X 34 32 d_R_run_29 (by decide) rfl (by omega) (fun q3 => ?_) (fun q3 => ?_)
          · omega
          · refine mp_iconst X 33 (v := nI 0) d_R_run_32 rfl (by decide) ?_
            exact mp_iret X d_R_run_33 rfl rfl (by decide) (by decide) (rm_Z.code hc2 (by decide) hS2 hf2)
        · refine mp_iload_n X 13 d_R_run_12 rfl rfl rfl ?_
          refine mp_iconst X 14 (v := nI 2) d_R_run_13 rfl (by decide) ?_
          refine mp_icmp_gt X 21 17 d_R_run_14 (by decide) rfl (fun q4 => ?_) (fun q4 => ?_)
          · refine mp_iconst X 22 (v := nI 1) d_R_run_21 rfl (by decide) ?_
            refine mp_putf X 25 ls_R_51_R d_R_run_22 rfl (Or.inl rfl) (hK1.sz (by decide)) hK1.ob rfl rfl ?_
            obtain ⟨h2, eh2⟩ : ∃ z, z = mp_set h 26 (0) (.int (nI 1)) := ⟨_, rfl⟩
            rw [← eh2]
            have rh2 : ∀ a b, h2.2.1 a b = if a = 26 ∧ b = 0 then .int (nI 1) else h.2.1 a b := by intro a b; rw [eh2]; rfl
            have hK2 : rm_K G h2 := by rw [eh2]; exact hK1.st (Or.inr (Or.inl rfl))
            have hf2 : mp_fr rm_A h h2 := by rw [eh2]; exact hf1.set (by unfold rm_A; omega)
            have hS2 : rm_S h2 S := by rw [eh2]; exact hS1.cd
            have hc2 : h2.2.1 26 0 = .int (nI 1) := by rw [rh2, if_pos ⟨rfl, rfl⟩]
            refine mp_aload_n X 26 d_R_run_25 rfl rfl rfl ?_
            refine mp_getf (v := .int (nI 1)) X 29 lk_R_51_R d_R_run_26 rfl (hK2.sz (by decide)) hK2.ob hc2 ?_
            refine mp_Zle X 34 32 d_R_run_29 (by decide) rfl (by omega) (fun q5 => ?_) (fun q5 => ?_)
            · omega
            · refine mp_iconst X 33 (v := nI 0) d_R_run_32 rfl (by decide) ?_
              exact mp_iret X d_R_run_33 rfl rfl (by decide) (by decide) (rm_Z.code hc2 (by decide) hS2 hf2)
          · exfalso; obtain ⟨q0, hq0, rfl⟩ := nI_of q2; have := Nat.not_lt.mp fun z => q4 ((nI_ltI (by decide) hq0).mpr z); rw [sp_ix_of (by omega) (by decide)] at hw3; cases hw3
    | some v =>
      obtain ⟨hv, rfl⟩ := sp_ix_some hw3 (by decide)
      cases hk0 : sp_ix (pq_ru (sp_fm S j) (rm_T S j).length) k with
      | none =>
        have hz : sp_run S (nI j) k (nI v) = (2, 0, S) := by unfold sp_run; rw [hx, hw3]; simp only []; rw [hk0]
        rw [hz]
        refine mp_aload_n X 1 d_R_run_0 rfl rfl rfl ?_
        refine mp_iload_n X 2 d_R_run_1 rfl rfl rfl ?_
        refine mp_callE X mp_Ts_ok 5 (rest := [.ref (G.1 + 26)]) (k_R_isPageT _ hj) Y_R_isPage in_R (mp_IS X d_R_run_2 Y_R_isPage ml_R_83 st_R_isPage in_R (by decide) (by show _ = some 1; decide)) rfl (by decide) (by decide) (by decide) (by decide) rfl (Nat.le_of_ble_eq_true rfl) rfl ?_
        refine mp_Zeq X 21 8 d_R_run_5 (by decide) rfl (by omega) (fun q1 => ?_) (fun q1 => ?_)
        · exact absurd q1 (by decide)
        · refine mp_iload_n X 9 d_R_run_8 rfl rfl rfl ?_
          refine mp_Zlt X 21 12 d_R_run_9 (by decide) rfl (by omega) (fun q2 => ?_) (fun q2 => ?_)
          · exact q2.elim
          · refine mp_iload_n X 13 d_R_run_12 rfl rfl rfl ?_
            refine mp_iconst X 14 (v := nI 2) d_R_run_13 rfl (by decide) ?_
            refine mp_Ngt X 21 17 d_R_run_14 (by decide) rfl (by omega) (by omega) (fun q3 => ?_) (fun q3 => ?_)
            · omega
            · refine mp_iconst X 18 (v := nI 0) d_R_run_17 rfl (by decide) ?_
              refine mp_goto X 22 d_R_run_18 (by decide) ?_
              refine mp_putf X 25 ls_R_51_R d_R_run_22 rfl (Or.inl rfl) (hK1.sz (by decide)) hK1.ob rfl rfl ?_
              obtain ⟨h2, eh2⟩ : ∃ z, z = mp_set h 26 (0) (.int (nI 0)) := ⟨_, rfl⟩
              rw [← eh2]
              have rh2 : ∀ a b, h2.2.1 a b = if a = 26 ∧ b = 0 then .int (nI 0) else h.2.1 a b := by intro a b; rw [eh2]; rfl
              have hK2 : rm_K G h2 := by rw [eh2]; exact hK1.st (Or.inr (Or.inl rfl))
              have hf2 : mp_fr rm_A h h2 := by rw [eh2]; exact hf1.set (by unfold rm_A; omega)
              have hS2 : rm_S h2 S := by rw [eh2]; exact hS1.cd
              have hc2 : h2.2.1 26 0 = .int (nI 0) := by rw [rh2, if_pos ⟨rfl, rfl⟩]
              refine mp_aload_n X 26 d_R_run_25 rfl rfl rfl ?_
              refine mp_getf (v := .int (nI 0)) X 29 lk_R_51_R d_R_run_26 rfl (hK2.sz (by decide)) hK2.ob hc2 ?_
              refine mp_Zle X 34 32 d_R_run_29 (by decide) rfl (by omega) (fun q4 => ?_) (fun q4 => ?_)
              · refine mp_aload_n X 35 d_R_run_34 rfl rfl rfl ?_
                refine mp_iload_n X 36 d_R_run_35 rfl rfl rfl ?_
                refine mp_call X mp_Ts_ok 39 (rest := []) (k_R_look _ hK2 hS2 hok hj) Y_R_look in_R (mp_IV X (q := (nR_R, nT_R, 17)) d_R_run_36 Y_R_look ml_R_87 im_R_look se_R_look (by decide) rfl (by decide) (by show _ = some 1; decide) (hK2.sz (by decide)) hK2.ob) rfl (by decide) (by decide) (by decide) (by decide) rfl (by decide) (fun v h3 hp => ?_) (fun x h3 q hp => hp.elim)
                obtain ⟨rfl, hq3, hV3⟩ := hp
                have hK3 : rm_K G h3 := hK2.fr rm_Q (by intro i a b c d; unfold rm_Q; omega) hq3
                have hS3 : rm_S h3 S := hS2.fr (hq3.mono fun o i => rm_QP)
                have hf3 : mp_fr rm_A h h3 := hf2.tr (hq3.mono fun o i => rm_QA)
                refine mp_eq rfl rfl (st2 := []) rfl ?_
                refine mp_iconst X 40 (v := -1) d_R_run_39 rfl (by decide) ?_
                refine mp_istore X 42 (L' := [.val (.ref (G.1 + 26)), .val (.int (nI j)), .val (.int (k)), .val (.int (nI v)), .val (.int (-1)), .unset, .unset, .unset]) d_R_run_40 rfl rfl rfl rfl ?_
                refine mp_iconst X 43 (v := nI 0) d_R_run_42 rfl (by decide) ?_
                refine mp_istore X 45 (L' := [.val (.ref (G.1 + 26)), .val (.int (nI j)), .val (.int (k)), .val (.int (nI v)), .val (.int (-1)), .val (.int (nI 0)), .unset, .unset]) d_R_run_43 rfl rfl rfl rfl ?_
                refine mp_iconst X 46 (v := -1) d_R_run_45 rfl (by decide) ?_
                refine mp_istore X 48 (L' := [.val (.ref (G.1 + 26)), .val (.int (nI j)), .val (.int (k)), .val (.int (nI v)), .val (.int (-1)), .val (.int (nI 0)), .val (.int (-1)), .unset]) d_R_run_46 rfl rfl rfl rfl ?_
                refine mp_iconst X 49 (v := nI 0) d_R_run_48 rfl (by decide) ?_
                refine mp_istore X 51 (L' := [.val (.ref (G.1 + 26)), .val (.int (nI j)), .val (.int (k)), .val (.int (nI v)), .val (.int (-1)), .val (.int (nI 0)), .val (.int (-1)), .val (.int (nI 0))]) d_R_run_49 rfl rfl rfl rfl ?_
                have hloop : ∀ (n p : Nat), p + n = (rm_T S j).length → mp_W G E h3 0 0 (mp_Q G E 0 0 (rm_Z h (2, 0, S)) (fun _ _ => False)) 51 [.val (.ref (G.1 + 26)), .val (.int (nI j)), .val (.int k), .val (.int (nI v)), .val (.int (-1)), .val (.int (nI 0)), .val (.int (rm_m (pq_ru (sp_fm S j) p))), .val (.int (nI p))] [] := by
                  intro n
                  induction n with
                  | zero =>
                    intro p hpn
                    have hpl : p = (rm_T S j).length := by omega
                    subst hpl
                    refine mp_iload X 53 d_R_run_51 rfl rfl ?_
                    refine mp_aload_n X 54 d_R_run_53 rfl rfl rfl ?_
                    refine mp_getf (v := .int (nI ((rm_T S j).length))) X 57 lk_R_61_R d_R_run_54 rfl (hK3.sz (by decide)) hK3.ob hV3.1 ?_
                    refine mp_Nge X 122 60 d_R_run_57 (by decide) rfl (by omega) (by omega) (fun q1 => ?_) (fun q1 => ?_)
                    · refine mp_aload_n X 123 d_R_run_122 rfl rfl rfl ?_
                      refine mp_iload X 125 d_R_run_123 rfl rfl ?_
                      refine mp_if_ge X 132 128 d_R_run_125 (by decide) rfl (fun q2 => ?_) (fun q2 => ?_)
                      · exact absurd q2 (by decide)
                      · refine mp_iconst X 129 (v := nI 2) d_R_run_128 rfl (by decide) ?_
                        refine mp_goto X 133 d_R_run_129 (by decide) ?_
                        refine mp_putf X 136 ls_R_51_R d_R_run_133 rfl (Or.inl rfl) (hK3.sz (by decide)) hK3.ob rfl rfl ?_
                        obtain ⟨h4, eh4⟩ : ∃ z, z = mp_set h3 26 (0) (.int (nI 2)) := ⟨_, rfl⟩
                        rw [← eh4]
                        have rh4 : ∀ a b, h4.2.1 a b = if a = 26 ∧ b = 0 then .int (nI 2) else h3.2.1 a b := by intro a b; rw [eh4]; rfl
                        have hK4 : rm_K G h4 := by rw [eh4]; exact hK3.st (Or.inr (Or.inl rfl))
                        have hf4 : mp_fr rm_A h h4 := by rw [eh4]; exact hf3.set (by unfold rm_A; omega)
                        have hS4 : rm_S h4 S := by rw [eh4]; exact hS3.cd
                        have hV4 : rm_V h4 S j := by rw [eh4]; exact hV3.st (by omega)
                        have hc4 : h4.2.1 26 0 = .int (nI 2) := by rw [rh4, if_pos ⟨rfl, rfl⟩]
                        refine mp_aload_n X 137 d_R_run_136 rfl rfl rfl ?_
                        refine mp_getf (v := .int (nI 2)) X 140 lk_R_51_R d_R_run_137 rfl (hK4.sz (by decide)) hK4.ob hc4 ?_
                        refine mp_Zle X 145 143 d_R_run_140 (by decide) rfl (by omega) (fun q3 => ?_) (fun q3 => ?_)
                        · omega
                        · refine mp_iconst X 144 (v := nI 0) d_R_run_143 rfl (by decide) ?_
                          exact mp_iret X d_R_run_144 rfl rfl (by decide) (by decide) (rm_Z.code hc4 (by decide) hS4 hf4)
                    · omega
                  | succ n ih =>
                    intro p hpn
                    obtain ⟨bn, hbn, hb⟩ := rm_b_n (pq_bg (sp_fm S j) p)
                    have hbl : bn < 2 := by omega
                    have hps := pq_ru_pos (sp_fm S j) (p := p + 1) (by omega)
                    have hmo := pq_ru_mono (sp_fm S j) (p + 1) (rm_T S j).length (by omega)
                    have hnk : rm_m (pq_ru (sp_fm S j) (p + 1)) ≠ k := fun z => by rw [← z, rm_mp hps, sp_ix_of (by omega) (by omega)] at hk0; cases hk0
                    refine mp_iload X 53 d_R_run_51 rfl rfl ?_
                    refine mp_aload_n X 54 d_R_run_53 rfl rfl rfl ?_
                    refine mp_getf (v := .int (nI ((rm_T S j).length))) X 57 lk_R_61_R d_R_run_54 rfl (hK3.sz (by decide)) hK3.ob hV3.1 ?_
                    refine mp_Nge X 122 60 d_R_run_57 (by decide) rfl (by omega) (by omega) (fun q1 => ?_) (fun q1 => ?_)
                    · omega
                    · refine mp_iload X 62 d_R_run_60 rfl rfl ?_
                      refine mp_aload_n X 63 d_R_run_62 rfl rfl rfl ?_
                      refine mp_iload_n X 64 d_R_run_63 rfl rfl rfl ?_
                      refine mp_iload X 66 d_R_run_64 rfl rfl ?_
                      refine mp_callE X mp_Ts_ok 69 (rest := [.int (rm_m (pq_ru (sp_fm S j) p))]) (k_R_begins (p := p) (n := bn) _ hK3 hS3 hV3 hok hj (by omega) hbn) Y_R_begins in_R (mp_IV X (q := (nR_R, nT_R, 17)) d_R_run_66 Y_R_begins ml_R_101 im_R_begins se_R_begins (by decide) rfl (by decide) (by show _ = some 2; decide) (hK3.sz (by decide)) hK3.ob) rfl (by decide) (by decide) (by decide) (by decide) rfl (Nat.le_of_ble_eq_true rfl) rfl ?_
                      refine mp_Zeq X 76 72 d_R_run_69 (by decide) rfl (by omega) (fun q2 => ?_) (fun q2 => ?_)
                      · refine mp_iconst X 77 (v := nI 0) d_R_run_76 rfl (by decide) ?_
                        refine mp_iadd X 78 d_R_run_77 rfl ?_
                        have hbb : pq_bg (sp_fm S j) p = false := by rcases hb with ⟨h1, h2⟩ | ⟨h1, h2⟩ <;> first | exact h2 | omega
                        have eg : rm_m (pq_ru (sp_fm S j) p) + nI 0 = rm_m (pq_ru (sp_fm S j) (p + 1)) := by rw [pq_ru_s, hbb]; exact rm_m0 (by have := pq_ru_s (sp_fm S j) p; rw [hbb] at this; have e0 : (if false = true then 1 else 0) = 0 := rfl; omega)
                        rw [eg]
                        refine mp_istore X 80 (L' := [.val (.ref (G.1 + 26)), .val (.int (nI j)), .val (.int (k)), .val (.int (nI v)), .val (.int (-1)), .val (.int (nI 0)), .val (.int (rm_m (pq_ru (sp_fm S j) (p + 1)))), .val (.int (nI p))]) d_R_run_78 rfl rfl rfl rfl ?_
                        refine mp_iload X 82 d_R_run_80 rfl rfl ?_
                        refine mp_iload_n X 83 d_R_run_82 rfl rfl rfl ?_
                        refine mp_icmp_ne X 96 86 d_R_run_83 (by decide) rfl (fun q3 => ?_) (fun q3 => ?_)
                        · refine mp_iload X 98 d_R_run_96 rfl rfl ?_
                          refine mp_istore X 100 (L' := [.val (.ref (G.1 + 26)), .val (.int (nI j)), .val (.int (k)), .val (.int (nI v)), .val (.int (-1)), .val (.int (nI 0)), .val (.int (rm_m (pq_ru (sp_fm S j) (p + 1)))), .val (.int (nI p))]) d_R_run_98 rfl rfl rfl rfl ?_
                          refine mp_iload X 102 d_R_run_100 rfl rfl ?_
                          refine mp_iload X 104 d_R_run_102 rfl rfl ?_
                          refine mp_iload_n X 105 d_R_run_104 rfl rfl rfl ?_
                          refine mp_icmp_ne X 112 108 d_R_run_105 (by decide) rfl (fun q4 => ?_) (fun q4 => ?_)
                          · refine mp_iconst X 113 (v := nI 0) d_R_run_112 rfl (by decide) ?_
                            refine mp_iadd X 114 d_R_run_113 rfl ?_
                            rw [nI_add]
                            refine mp_istore X 116 (L' := [.val (.ref (G.1 + 26)), .val (.int (nI j)), .val (.int (k)), .val (.int (nI v)), .val (.int (-1)), .val (.int (nI (0 + 0))), .val (.int (rm_m (pq_ru (sp_fm S j) (p + 1)))), .val (.int (nI p))]) d_R_run_114 rfl rfl rfl rfl ?_
                            refine mp_iinc X 119 (L' := [.val (.ref (G.1 + 26)), .val (.int (nI j)), .val (.int (k)), .val (.int (nI v)), .val (.int (-1)), .val (.int (nI (0 + 0))), .val (.int (rm_m (pq_ru (sp_fm S j) (p + 1)))), .val (.int (nI (p + 1)))]) (v := nI (p + 1)) d_R_run_116 rfl rfl (nI_1 _) rfl ?_
                            refine mp_goto X 51 d_R_run_119 (by decide) ?_
                            exact ih (p + 1) (by omega)
                          · exact absurd q4 hnk
                        · exact absurd q3 hnk
                      · refine mp_iconst X 73 (v := nI 1) d_R_run_72 rfl (by decide) ?_
                        refine mp_goto X 77 d_R_run_73 (by decide) ?_
                        refine mp_iadd X 78 d_R_run_77 rfl ?_
                        have hbb : pq_bg (sp_fm S j) p = true := by rcases hb with ⟨h1, h2⟩ | ⟨h1, h2⟩ <;> first | exact h2 | omega
                        have eg : rm_m (pq_ru (sp_fm S j) p) + nI 1 = rm_m (pq_ru (sp_fm S j) (p + 1)) := by rw [pq_ru_s, hbb]; exact rm_m1 _
                        rw [eg]
                        refine mp_istore X 80 (L' := [.val (.ref (G.1 + 26)), .val (.int (nI j)), .val (.int (k)), .val (.int (nI v)), .val (.int (-1)), .val (.int (nI 0)), .val (.int (rm_m (pq_ru (sp_fm S j) (p + 1)))), .val (.int (nI p))]) d_R_run_78 rfl rfl rfl rfl ?_
                        refine mp_iload X 82 d_R_run_80 rfl rfl ?_
                        refine mp_iload_n X 83 d_R_run_82 rfl rfl rfl ?_
                        refine mp_icmp_ne X 96 86 d_R_run_83 (by decide) rfl (fun q5 => ?_) (fun q5 => ?_)
                        · refine mp_iload X 98 d_R_run_96 rfl rfl ?_
                          refine mp_istore X 100 (L' := [.val (.ref (G.1 + 26)), .val (.int (nI j)), .val (.int (k)), .val (.int (nI v)), .val (.int (-1)), .val (.int (nI 0)), .val (.int (rm_m (pq_ru (sp_fm S j) (p + 1)))), .val (.int (nI p))]) d_R_run_98 rfl rfl rfl rfl ?_
                          refine mp_iload X 102 d_R_run_100 rfl rfl ?_
                          refine mp_iload X 104 d_R_run_102 rfl rfl ?_
                          refine mp_iload_n X 105 d_R_run_104 rfl rfl rfl ?_
                          refine mp_icmp_ne X 112 108 d_R_run_105 (by decide) rfl (fun q6 => ?_) (fun q6 => ?_)
                          · refine mp_iconst X 113 (v := nI 0) d_R_run_112 rfl (by decide) ?_
                            refine mp_iadd X 114 d_R_run_113 rfl ?_
                            rw [nI_add]
                            refine mp_istore X 116 (L' := [.val (.ref (G.1 + 26)), .val (.int (nI j)), .val (.int (k)), .val (.int (nI v)), .val (.int (-1)), .val (.int (nI (0 + 0))), .val (.int (rm_m (pq_ru (sp_fm S j) (p + 1)))), .val (.int (nI p))]) d_R_run_114 rfl rfl rfl rfl ?_
                            refine mp_iinc X 119 (L' := [.val (.ref (G.1 + 26)), .val (.int (nI j)), .val (.int (k)), .val (.int (nI v)), .val (.int (-1)), .val (.int (nI (0 + 0))), .val (.int (rm_m (pq_ru (sp_fm S j) (p + 1)))), .val (.int (nI (p + 1)))]) (v := nI (p + 1)) d_R_run_116 rfl rfl (nI_1 _) rfl ?_
                            refine mp_goto X 51 d_R_run_119 (by decide) ?_
                            exact ih (p + 1) (by omega)
                          · exact absurd q6 hnk
                        · exact absurd q5 hnk
                exact hloop (rm_T S j).length 0 (by omega)
              · omega
      | some r =>
        obtain ⟨hr, rfl⟩ := sp_ix_some hk0 (by omega)
        have hz : sp_run S (nI j) (nI r) (nI v) = (0, nI (if v = 0 then pq_sr (sp_fm S j) r (rm_T S j).length else if v = 1 then pq_sr (sp_fm S j) (r + 1) (rm_T S j).length - pq_sr (sp_fm S j) r (rm_T S j).length else sp_fm S j (pq_sr (sp_fm S j) r (rm_T S j).length)), S) := by unfold sp_run; rw [hx, hw3]; simp only []; rw [hk0]
        rw [hz]
        have hsr := pq_sr_in hr
        refine mp_aload_n X 1 d_R_run_0 rfl rfl rfl ?_
        refine mp_iload_n X 2 d_R_run_1 rfl rfl rfl ?_
        refine mp_callE X mp_Ts_ok 5 (rest := [.ref (G.1 + 26)]) (k_R_isPageT _ hj) Y_R_isPage in_R (mp_IS X d_R_run_2 Y_R_isPage ml_R_83 st_R_isPage in_R (by decide) (by show _ = some 1; decide)) rfl (by decide) (by decide) (by decide) (by decide) rfl (Nat.le_of_ble_eq_true rfl) rfl ?_
        refine mp_Zeq X 21 8 d_R_run_5 (by decide) rfl (by omega) (fun q1 => ?_) (fun q1 => ?_)
        · exact absurd q1 (by decide)
        · refine mp_iload_n X 9 d_R_run_8 rfl rfl rfl ?_
          refine mp_Zlt X 21 12 d_R_run_9 (by decide) rfl (by omega) (fun q2 => ?_) (fun q2 => ?_)
          · exact q2.elim
          · refine mp_iload_n X 13 d_R_run_12 rfl rfl rfl ?_
            refine mp_iconst X 14 (v := nI 2) d_R_run_13 rfl (by decide) ?_
            refine mp_Ngt X 21 17 d_R_run_14 (by decide) rfl (by omega) (by omega) (fun q3 => ?_) (fun q3 => ?_)
            · omega
            · refine mp_iconst X 18 (v := nI 0) d_R_run_17 rfl (by decide) ?_
              refine mp_goto X 22 d_R_run_18 (by decide) ?_
              refine mp_putf X 25 ls_R_51_R d_R_run_22 rfl (Or.inl rfl) (hK1.sz (by decide)) hK1.ob rfl rfl ?_
              obtain ⟨h2, eh2⟩ : ∃ z, z = mp_set h 26 (0) (.int (nI 0)) := ⟨_, rfl⟩
              rw [← eh2]
              have rh2 : ∀ a b, h2.2.1 a b = if a = 26 ∧ b = 0 then .int (nI 0) else h.2.1 a b := by intro a b; rw [eh2]; rfl
              have hK2 : rm_K G h2 := by rw [eh2]; exact hK1.st (Or.inr (Or.inl rfl))
              have hf2 : mp_fr rm_A h h2 := by rw [eh2]; exact hf1.set (by unfold rm_A; omega)
              have hS2 : rm_S h2 S := by rw [eh2]; exact hS1.cd
              have hc2 : h2.2.1 26 0 = .int (nI 0) := by rw [rh2, if_pos ⟨rfl, rfl⟩]
              refine mp_aload_n X 26 d_R_run_25 rfl rfl rfl ?_
              refine mp_getf (v := .int (nI 0)) X 29 lk_R_51_R d_R_run_26 rfl (hK2.sz (by decide)) hK2.ob hc2 ?_
              refine mp_Zle X 34 32 d_R_run_29 (by decide) rfl (by omega) (fun q4 => ?_) (fun q4 => ?_)
              · refine mp_aload_n X 35 d_R_run_34 rfl rfl rfl ?_
                refine mp_iload_n X 36 d_R_run_35 rfl rfl rfl ?_
                refine mp_call X mp_Ts_ok 39 (rest := []) (k_R_look _ hK2 hS2 hok hj) Y_R_look in_R (mp_IV X (q := (nR_R, nT_R, 17)) d_R_run_36 Y_R_look ml_R_87 im_R_look se_R_look (by decide) rfl (by decide) (by show _ = some 1; decide) (hK2.sz (by decide)) hK2.ob) rfl (by decide) (by decide) (by decide) (by decide) rfl (by decide) (fun v h3 hp => ?_) (fun x h3 q hp => hp.elim)
                obtain ⟨rfl, hq3, hV3⟩ := hp
                have hK3 : rm_K G h3 := hK2.fr rm_Q (by intro i a b c d; unfold rm_Q; omega) hq3
                have hS3 : rm_S h3 S := hS2.fr (hq3.mono fun o i => rm_QP)
                have hf3 : mp_fr rm_A h h3 := hf2.tr (hq3.mono fun o i => rm_QA)
                refine mp_eq rfl rfl (st2 := []) rfl ?_
                refine mp_iconst X 40 (v := -1) d_R_run_39 rfl (by decide) ?_
                refine mp_istore X 42 (L' := [.val (.ref (G.1 + 26)), .val (.int (nI j)), .val (.int (nI r)), .val (.int (nI v)), .val (.int (-1)), .unset, .unset, .unset]) d_R_run_40 rfl rfl rfl rfl ?_
                refine mp_iconst X 43 (v := nI 0) d_R_run_42 rfl (by decide) ?_
                refine mp_istore X 45 (L' := [.val (.ref (G.1 + 26)), .val (.int (nI j)), .val (.int (nI r)), .val (.int (nI v)), .val (.int (-1)), .val (.int (nI 0)), .unset, .unset]) d_R_run_43 rfl rfl rfl rfl ?_
                refine mp_iconst X 46 (v := -1) d_R_run_45 rfl (by decide) ?_
                refine mp_istore X 48 (L' := [.val (.ref (G.1 + 26)), .val (.int (nI j)), .val (.int (nI r)), .val (.int (nI v)), .val (.int (-1)), .val (.int (nI 0)), .val (.int (-1)), .unset]) d_R_run_46 rfl rfl rfl rfl ?_
                refine mp_iconst X 49 (v := nI 0) d_R_run_48 rfl (by decide) ?_
                refine mp_istore X 51 (L' := [.val (.ref (G.1 + 26)), .val (.int (nI j)), .val (.int (nI r)), .val (.int (nI v)), .val (.int (-1)), .val (.int (nI 0)), .val (.int (-1)), .val (.int (nI 0))]) d_R_run_49 rfl rfl rfl rfl ?_
                have hloop : ∀ (n p : Nat), p + n = (rm_T S j).length → mp_W G E h3 0 0 (mp_Q G E 0 0 (rm_Z h (0, nI (if v = 0 then pq_sr (sp_fm S j) r (rm_T S j).length else if v = 1 then pq_sr (sp_fm S j) (r + 1) (rm_T S j).length - pq_sr (sp_fm S j) r (rm_T S j).length else sp_fm S j (pq_sr (sp_fm S j) r (rm_T S j).length)), S)) (fun _ _ => False)) 51 [.val (.ref (G.1 + 26)), .val (.int (nI j)), .val (.int (nI r)), .val (.int (nI v)), .val (.int (if r < (pq_ru (sp_fm S j) p) then nI (pq_sr (sp_fm S j) r (rm_T S j).length) else -1)), .val (.int (nI (pq_mn (sp_fm S j) r p))), .val (.int (rm_m (pq_ru (sp_fm S j) p))), .val (.int (nI p))] [] := by
                  intro n
                  induction n with
                  | zero =>
                    intro p hpn
                    have hpl : p = (rm_T S j).length := by omega
                    subst hpl
                    rw [if_pos hr]
                    have hmn := pq_mn_eq (sp_fm S j) r (rm_T S j).length
                    refine mp_iload X 53 d_R_run_51 rfl rfl ?_
                    refine mp_aload_n X 54 d_R_run_53 rfl rfl rfl ?_
                    refine mp_getf (v := .int (nI ((rm_T S j).length))) X 57 lk_R_61_R d_R_run_54 rfl (hK3.sz (by decide)) hK3.ob hV3.1 ?_
                    refine mp_Nge X 122 60 d_R_run_57 (by decide) rfl (by omega) (by omega) (fun q1 => ?_) (fun q1 => ?_)
                    · refine mp_aload_n X 123 d_R_run_122 rfl rfl rfl ?_
                      refine mp_iload X 125 d_R_run_123 rfl rfl ?_
                      refine mp_Zge X 132 128 d_R_run_125 (by decide) rfl (by omega) (fun q2 => ?_) (fun q2 => ?_)
                      · refine mp_iconst X 133 (v := nI 0) d_R_run_132 rfl (by decide) ?_
                        refine mp_putf X 136 ls_R_51_R d_R_run_133 rfl (Or.inl rfl) (hK3.sz (by decide)) hK3.ob rfl rfl ?_
                        obtain ⟨h4, eh4⟩ : ∃ z, z = mp_set h3 26 (0) (.int (nI 0)) := ⟨_, rfl⟩
                        rw [← eh4]
                        have rh4 : ∀ a b, h4.2.1 a b = if a = 26 ∧ b = 0 then .int (nI 0) else h3.2.1 a b := by intro a b; rw [eh4]; rfl
                        have hK4 : rm_K G h4 := by rw [eh4]; exact hK3.st (Or.inr (Or.inl rfl))
                        have hf4 : mp_fr rm_A h h4 := by rw [eh4]; exact hf3.set (by unfold rm_A; omega)
                        have hS4 : rm_S h4 S := by rw [eh4]; exact hS3.cd
                        have hV4 : rm_V h4 S j := by rw [eh4]; exact hV3.st (by omega)
                        have hc4 : h4.2.1 26 0 = .int (nI 0) := by rw [rh4, if_pos ⟨rfl, rfl⟩]
                        refine mp_aload_n X 137 d_R_run_136 rfl rfl rfl ?_
                        refine mp_getf (v := .int (nI 0)) X 140 lk_R_51_R d_R_run_137 rfl (hK4.sz (by decide)) hK4.ob hc4 ?_
                        refine mp_Zle X 145 143 d_R_run_140 (by decide) rfl (by omega) (fun q3 => ?_) (fun q3 => ?_)
                        · refine mp_iload_n X 146 d_R_run_145 rfl rfl rfl ?_
                          refine mp_Zne X 154 149 d_R_run_146 (by decide) rfl (by omega) (fun q4 => ?_) (fun q4 => ?_)
                          · refine mp_iload_n X 155 d_R_run_154 rfl rfl rfl ?_
                            refine mp_iconst X 156 (v := nI 1) d_R_run_155 rfl (by decide) ?_
                            refine mp_Nne X 164 159 d_R_run_156 (by decide) rfl (by omega) (by omega) (fun q5 => ?_) (fun q5 => ?_)
                            · refine mp_aload_n X 165 d_R_run_164 rfl rfl rfl ?_
                              refine mp_iload_n X 166 d_R_run_165 rfl rfl rfl ?_
                              refine mp_aload_n X 167 d_R_run_166 rfl rfl rfl ?_
                              refine mp_getf (v := .ref (G.1 + 38)) X 170 lk_R_45_R d_R_run_167 rfl (hK4.sz (by decide)) hK4.ob hK4.r_text ?_
                              refine mp_iload X 172 d_R_run_170 rfl rfl ?_
                              refine mp_iald (v := .int (nI ((sp_t S j (pq_sr (sp_fm S j) r (rm_T S j).length))))) X 173 ((pq_sr (sp_fm S j) r (rm_T S j).length)) d_R_run_172 rfl (hK4.sz (by decide)) hK4.k_text rfl (by omega) (by decide) (hV4.2.1 _ _ (sp_t_mem (by omega))) ?_
                              refine mp_callE X mp_Ts_ok 176 (rest := []) (k_R_formatOf _ hK4 hS4 hV4 hok hj (sp_t_row (q := (pq_sr (sp_fm S j) r (rm_T S j).length)) (by omega))) Y_R_formatOf in_R (mp_IV X (q := (nR_R, nT_R, 17)) d_R_run_173 Y_R_formatOf ml_R_98 im_R_formatOf se_R_formatOf (by decide) rfl (by decide) (by show _ = some 2; decide) (hK4.sz (by decide)) hK4.ob) rfl (by decide) (by decide) (by decide) (by decide) rfl (by decide) rfl ?_
                              refine mp_eq rfl rfl (st2 := [.int (nI (sp_fm S j (pq_sr (sp_fm S j) r (rm_T S j).length)))]) rfl ?_
                              rw [if_neg q4, if_neg q5]
                              exact mp_iret X d_R_run_176 rfl rfl (by decide) (by decide) ⟨hc4, hS4, ⟨_, rfl, fun _ => rfl⟩, hf4⟩
                            · refine mp_iload X 161 d_R_run_159 rfl rfl ?_
                              refine mp_goto X 176 d_R_run_161 (by decide) ?_
                              rw [if_neg q4, if_pos q5, ← hmn]
                              exact mp_iret X d_R_run_176 rfl rfl (by decide) (by decide) ⟨hc4, hS4, ⟨_, rfl, fun _ => rfl⟩, hf4⟩
                          · refine mp_iload X 151 d_R_run_149 rfl rfl ?_
                            refine mp_goto X 176 d_R_run_151 (by decide) ?_
                            rw [if_pos q4]
                            exact mp_iret X d_R_run_176 rfl rfl (by decide) (by decide) ⟨hc4, hS4, ⟨_, rfl, fun _ => rfl⟩, hf4⟩
                        · omega
                      · exact q2.elim
                    · omega
                  | succ n ih =>
                    intro p hpn
                    obtain ⟨bn, hbn, hb⟩ := rm_b_n (pq_bg (sp_fm S j) p)
                    have hbl : bn < 2 := by omega
                    have hps := pq_ru_pos (sp_fm S j) (p := p + 1) (by omega)
                    have hmo := pq_ru_mono (sp_fm S j) (p + 1) (rm_T S j).length (by omega)
                    have hmo2 := pq_ru_mono (sp_fm S j) p (p + 1) (by omega)
                    have hmx := pq_ru_s (sp_fm S j) p
                    have hmb : pq_mn (sp_fm S j) r (p + 1) = (pq_mn (sp_fm S j) r p) + (if pq_ru (sp_fm S j) (p + 1) = r + 1 then 1 else 0) := rfl
                    have hg := ih (p + 1) (by omega)
                    rw [hmb] at hg
                    by_cases hc : r < (pq_ru (sp_fm S j) p)
                    · rw [if_pos hc]
                      refine mp_iload X 53 d_R_run_51 rfl rfl ?_
                      refine mp_aload_n X 54 d_R_run_53 rfl rfl rfl ?_
                      refine mp_getf (v := .int (nI ((rm_T S j).length))) X 57 lk_R_61_R d_R_run_54 rfl (hK3.sz (by decide)) hK3.ob hV3.1 ?_
                      refine mp_Nge X 122 60 d_R_run_57 (by decide) rfl (by omega) (by omega) (fun q1 => ?_) (fun q1 => ?_)
                      · omega
                      · refine mp_iload X 62 d_R_run_60 rfl rfl ?_
                        refine mp_aload_n X 63 d_R_run_62 rfl rfl rfl ?_
                        refine mp_iload_n X 64 d_R_run_63 rfl rfl rfl ?_
                        refine mp_iload X 66 d_R_run_64 rfl rfl ?_
                        refine mp_callE X mp_Ts_ok 69 (rest := [.int (rm_m (pq_ru (sp_fm S j) p))]) (k_R_begins (p := p) (n := bn) _ hK3 hS3 hV3 hok hj (by omega) hbn) Y_R_begins in_R (mp_IV X (q := (nR_R, nT_R, 17)) d_R_run_66 Y_R_begins ml_R_101 im_R_begins se_R_begins (by decide) rfl (by decide) (by show _ = some 2; decide) (hK3.sz (by decide)) hK3.ob) rfl (by decide) (by decide) (by decide) (by decide) rfl (Nat.le_of_ble_eq_true rfl) rfl ?_
                        refine mp_Zeq X 76 72 d_R_run_69 (by decide) rfl (by omega) (fun q2 => ?_) (fun q2 => ?_)
                        · refine mp_iconst X 77 (v := nI 0) d_R_run_76 rfl (by decide) ?_
                          refine mp_iadd X 78 d_R_run_77 rfl ?_
                          have hbb : pq_bg (sp_fm S j) p = false := by rcases hb with ⟨h1, h2⟩ | ⟨h1, h2⟩ <;> first | exact h2 | omega
                          have eg : rm_m (pq_ru (sp_fm S j) p) + nI 0 = rm_m (pq_ru (sp_fm S j) (p + 1)) := by rw [pq_ru_s, hbb]; exact rm_m0 (by have := pq_ru_s (sp_fm S j) p; rw [hbb] at this; have e0 : (if false = true then 1 else 0) = 0 := rfl; omega)
                          rw [eg]
                          rw [rm_mp hps]
                          refine mp_istore X 80 (L' := [.val (.ref (G.1 + 26)), .val (.int (nI j)), .val (.int (nI r)), .val (.int (nI v)), .val (.int (nI ((pq_sr (sp_fm S j) r (rm_T S j).length)))), .val (.int (nI ((pq_mn (sp_fm S j) r p)))), .val (.int (nI (((pq_ru (sp_fm S j) (p + 1)) - 1)))), .val (.int (nI p))]) d_R_run_78 rfl rfl rfl rfl ?_
                          refine mp_iload X 82 d_R_run_80 rfl rfl ?_
                          refine mp_iload_n X 83 d_R_run_82 rfl rfl rfl ?_
                          refine mp_Nne X 96 86 d_R_run_83 (by decide) rfl (by omega) (by omega) (fun q3 => ?_) (fun q3 => ?_)
                          · refine mp_iload X 98 d_R_run_96 rfl rfl ?_
                            refine mp_istore X 100 (L' := [.val (.ref (G.1 + 26)), .val (.int (nI j)), .val (.int (nI r)), .val (.int (nI v)), .val (.int (nI ((pq_sr (sp_fm S j) r (rm_T S j).length)))), .val (.int (nI ((pq_mn (sp_fm S j) r p)))), .val (.int (nI (((pq_ru (sp_fm S j) (p + 1)) - 1)))), .val (.int (nI p))]) d_R_run_98 rfl rfl rfl rfl ?_
                            refine mp_iload X 102 d_R_run_100 rfl rfl ?_
                            refine mp_iload X 104 d_R_run_102 rfl rfl ?_
                            refine mp_iload_n X 105 d_R_run_104 rfl rfl rfl ?_
                            refine mp_Nne X 112 108 d_R_run_105 (by decide) rfl (by omega) (by omega) (fun q4 => ?_) (fun q4 => ?_)
                            · refine mp_iconst X 113 (v := nI 0) d_R_run_112 rfl (by decide) ?_
                              refine mp_iadd X 114 d_R_run_113 rfl ?_
                              rw [nI_add]
                              refine mp_istore X 116 (L' := [.val (.ref (G.1 + 26)), .val (.int (nI j)), .val (.int (nI r)), .val (.int (nI v)), .val (.int (nI ((pq_sr (sp_fm S j) r (rm_T S j).length)))), .val (.int (nI ((pq_mn (sp_fm S j) r p) + 0))), .val (.int (nI (((pq_ru (sp_fm S j) (p + 1)) - 1)))), .val (.int (nI p))]) d_R_run_114 rfl rfl rfl rfl ?_
                              refine mp_iinc X 119 (L' := [.val (.ref (G.1 + 26)), .val (.int (nI j)), .val (.int (nI r)), .val (.int (nI v)), .val (.int (nI ((pq_sr (sp_fm S j) r (rm_T S j).length)))), .val (.int (nI ((pq_mn (sp_fm S j) r p) + 0))), .val (.int (nI (((pq_ru (sp_fm S j) (p + 1)) - 1)))), .val (.int (nI (p + 1)))]) (v := nI (p + 1)) d_R_run_116 rfl rfl (nI_1 _) rfl ?_
                              refine mp_goto X 51 d_R_run_119 (by decide) ?_
                              rw [rm_mp hps] at hg
                              rw [if_neg (show ¬ pq_ru (sp_fm S j) (p + 1) = r + 1 by omega)] at hg
                              rw [if_pos (show r < pq_ru (sp_fm S j) (p + 1) by omega)] at hg
                              exact hg
                            · omega
                          · refine mp_iload X 88 d_R_run_86 rfl rfl ?_
                            refine mp_Zge X 96 91 d_R_run_88 (by decide) rfl (by omega) (fun q5 => ?_) (fun q5 => ?_)
                            · refine mp_iload X 98 d_R_run_96 rfl rfl ?_
                              refine mp_istore X 100 (L' := [.val (.ref (G.1 + 26)), .val (.int (nI j)), .val (.int (nI r)), .val (.int (nI v)), .val (.int (nI ((pq_sr (sp_fm S j) r (rm_T S j).length)))), .val (.int (nI ((pq_mn (sp_fm S j) r p)))), .val (.int (nI (((pq_ru (sp_fm S j) (p + 1)) - 1)))), .val (.int (nI p))]) d_R_run_98 rfl rfl rfl rfl ?_
                              refine mp_iload X 102 d_R_run_100 rfl rfl ?_
                              refine mp_iload X 104 d_R_run_102 rfl rfl ?_
                              refine mp_iload_n X 105 d_R_run_104 rfl rfl rfl ?_
                              refine mp_Nne X 112 108 d_R_run_105 (by decide) rfl (by omega) (by omega) (fun q6 => ?_) (fun q6 => ?_)
                              · omega
                              · refine mp_iconst X 109 (v := nI 1) d_R_run_108 rfl (by decide) ?_
                                refine mp_goto X 113 d_R_run_109 (by decide) ?_
                                refine mp_iadd X 114 d_R_run_113 rfl ?_
                                rw [nI_add]
                                refine mp_istore X 116 (L' := [.val (.ref (G.1 + 26)), .val (.int (nI j)), .val (.int (nI r)), .val (.int (nI v)), .val (.int (nI ((pq_sr (sp_fm S j) r (rm_T S j).length)))), .val (.int (nI ((pq_mn (sp_fm S j) r p) + 1))), .val (.int (nI (((pq_ru (sp_fm S j) (p + 1)) - 1)))), .val (.int (nI p))]) d_R_run_114 rfl rfl rfl rfl ?_
                                refine mp_iinc X 119 (L' := [.val (.ref (G.1 + 26)), .val (.int (nI j)), .val (.int (nI r)), .val (.int (nI v)), .val (.int (nI ((pq_sr (sp_fm S j) r (rm_T S j).length)))), .val (.int (nI ((pq_mn (sp_fm S j) r p) + 1))), .val (.int (nI (((pq_ru (sp_fm S j) (p + 1)) - 1)))), .val (.int (nI (p + 1)))]) (v := nI (p + 1)) d_R_run_116 rfl rfl (nI_1 _) rfl ?_
                                refine mp_goto X 51 d_R_run_119 (by decide) ?_
                                rw [rm_mp hps] at hg
                                rw [if_pos (show pq_ru (sp_fm S j) (p + 1) = r + 1 by omega)] at hg
                                rw [if_pos (show r < pq_ru (sp_fm S j) (p + 1) by omega)] at hg
                                exact hg
                            · exact q5.elim
                        · refine mp_iconst X 73 (v := nI 1) d_R_run_72 rfl (by decide) ?_
                          refine mp_goto X 77 d_R_run_73 (by decide) ?_
                          refine mp_iadd X 78 d_R_run_77 rfl ?_
                          have hbb : pq_bg (sp_fm S j) p = true := by rcases hb with ⟨h1, h2⟩ | ⟨h1, h2⟩ <;> first | exact h2 | omega
                          have eg : rm_m (pq_ru (sp_fm S j) p) + nI 1 = rm_m (pq_ru (sp_fm S j) (p + 1)) := by rw [pq_ru_s, hbb]; exact rm_m1 _
                          rw [eg]
                          rw [rm_mp hps]
                          refine mp_istore X 80 (L' := [.val (.ref (G.1 + 26)), .val (.int (nI j)), .val (.int (nI r)), .val (.int (nI v)), .val (.int (nI ((pq_sr (sp_fm S j) r (rm_T S j).length)))), .val (.int (nI ((pq_mn (sp_fm S j) r p)))), .val (.int (nI (((pq_ru (sp_fm S j) (p + 1)) - 1)))), .val (.int (nI p))]) d_R_run_78 rfl rfl rfl rfl ?_
                          refine mp_iload X 82 d_R_run_80 rfl rfl ?_
                          refine mp_iload_n X 83 d_R_run_82 rfl rfl rfl ?_
                          refine mp_Nne X 96 86 d_R_run_83 (by decide) rfl (by omega) (by omega) (fun q7 => ?_) (fun q7 => ?_)
                          · refine mp_iload X 98 d_R_run_96 rfl rfl ?_
                            refine mp_istore X 100 (L' := [.val (.ref (G.1 + 26)), .val (.int (nI j)), .val (.int (nI r)), .val (.int (nI v)), .val (.int (nI ((pq_sr (sp_fm S j) r (rm_T S j).length)))), .val (.int (nI ((pq_mn (sp_fm S j) r p)))), .val (.int (nI (((pq_ru (sp_fm S j) (p + 1)) - 1)))), .val (.int (nI p))]) d_R_run_98 rfl rfl rfl rfl ?_
                            refine mp_iload X 102 d_R_run_100 rfl rfl ?_
                            refine mp_iload X 104 d_R_run_102 rfl rfl ?_
                            refine mp_iload_n X 105 d_R_run_104 rfl rfl rfl ?_
                            refine mp_Nne X 112 108 d_R_run_105 (by decide) rfl (by omega) (by omega) (fun q8 => ?_) (fun q8 => ?_)
                            · refine mp_iconst X 113 (v := nI 0) d_R_run_112 rfl (by decide) ?_
                              refine mp_iadd X 114 d_R_run_113 rfl ?_
                              rw [nI_add]
                              refine mp_istore X 116 (L' := [.val (.ref (G.1 + 26)), .val (.int (nI j)), .val (.int (nI r)), .val (.int (nI v)), .val (.int (nI ((pq_sr (sp_fm S j) r (rm_T S j).length)))), .val (.int (nI ((pq_mn (sp_fm S j) r p) + 0))), .val (.int (nI (((pq_ru (sp_fm S j) (p + 1)) - 1)))), .val (.int (nI p))]) d_R_run_114 rfl rfl rfl rfl ?_
                              refine mp_iinc X 119 (L' := [.val (.ref (G.1 + 26)), .val (.int (nI j)), .val (.int (nI r)), .val (.int (nI v)), .val (.int (nI ((pq_sr (sp_fm S j) r (rm_T S j).length)))), .val (.int (nI ((pq_mn (sp_fm S j) r p) + 0))), .val (.int (nI (((pq_ru (sp_fm S j) (p + 1)) - 1)))), .val (.int (nI (p + 1)))]) (v := nI (p + 1)) d_R_run_116 rfl rfl (nI_1 _) rfl ?_
                              refine mp_goto X 51 d_R_run_119 (by decide) ?_
                              rw [rm_mp hps] at hg
                              rw [if_neg (show ¬ pq_ru (sp_fm S j) (p + 1) = r + 1 by omega)] at hg
                              rw [if_pos (show r < pq_ru (sp_fm S j) (p + 1) by omega)] at hg
                              exact hg
                            · omega
                          · refine mp_iload X 88 d_R_run_86 rfl rfl ?_
                            refine mp_Zge X 96 91 d_R_run_88 (by decide) rfl (by omega) (fun q9 => ?_) (fun q9 => ?_)
                            · refine mp_iload X 98 d_R_run_96 rfl rfl ?_
                              refine mp_istore X 100 (L' := [.val (.ref (G.1 + 26)), .val (.int (nI j)), .val (.int (nI r)), .val (.int (nI v)), .val (.int (nI ((pq_sr (sp_fm S j) r (rm_T S j).length)))), .val (.int (nI ((pq_mn (sp_fm S j) r p)))), .val (.int (nI (((pq_ru (sp_fm S j) (p + 1)) - 1)))), .val (.int (nI p))]) d_R_run_98 rfl rfl rfl rfl ?_
                              refine mp_iload X 102 d_R_run_100 rfl rfl ?_
                              refine mp_iload X 104 d_R_run_102 rfl rfl ?_
                              refine mp_iload_n X 105 d_R_run_104 rfl rfl rfl ?_
                              refine mp_Nne X 112 108 d_R_run_105 (by decide) rfl (by omega) (by omega) (fun q10 => ?_) (fun q10 => ?_)
                              · omega
                              · refine mp_iconst X 109 (v := nI 1) d_R_run_108 rfl (by decide) ?_
                                refine mp_goto X 113 d_R_run_109 (by decide) ?_
                                refine mp_iadd X 114 d_R_run_113 rfl ?_
                                rw [nI_add]
                                refine mp_istore X 116 (L' := [.val (.ref (G.1 + 26)), .val (.int (nI j)), .val (.int (nI r)), .val (.int (nI v)), .val (.int (nI ((pq_sr (sp_fm S j) r (rm_T S j).length)))), .val (.int (nI ((pq_mn (sp_fm S j) r p) + 1))), .val (.int (nI (((pq_ru (sp_fm S j) (p + 1)) - 1)))), .val (.int (nI p))]) d_R_run_114 rfl rfl rfl rfl ?_
                                refine mp_iinc X 119 (L' := [.val (.ref (G.1 + 26)), .val (.int (nI j)), .val (.int (nI r)), .val (.int (nI v)), .val (.int (nI ((pq_sr (sp_fm S j) r (rm_T S j).length)))), .val (.int (nI ((pq_mn (sp_fm S j) r p) + 1))), .val (.int (nI (((pq_ru (sp_fm S j) (p + 1)) - 1)))), .val (.int (nI (p + 1)))]) (v := nI (p + 1)) d_R_run_116 rfl rfl (nI_1 _) rfl ?_
                                refine mp_goto X 51 d_R_run_119 (by decide) ?_
                                rw [rm_mp hps] at hg
                                rw [if_pos (show pq_ru (sp_fm S j) (p + 1) = r + 1 by omega)] at hg
                                rw [if_pos (show r < pq_ru (sp_fm S j) (p + 1) by omega)] at hg
                                exact hg
                            · exact q9.elim
                    · rw [if_neg hc]
                      refine mp_iload X 53 d_R_run_51 rfl rfl ?_
                      refine mp_aload_n X 54 d_R_run_53 rfl rfl rfl ?_
                      refine mp_getf (v := .int (nI ((rm_T S j).length))) X 57 lk_R_61_R d_R_run_54 rfl (hK3.sz (by decide)) hK3.ob hV3.1 ?_
                      refine mp_Nge X 122 60 d_R_run_57 (by decide) rfl (by omega) (by omega) (fun q1 => ?_) (fun q1 => ?_)
                      · omega
                      · refine mp_iload X 62 d_R_run_60 rfl rfl ?_
                        refine mp_aload_n X 63 d_R_run_62 rfl rfl rfl ?_
                        refine mp_iload_n X 64 d_R_run_63 rfl rfl rfl ?_
                        refine mp_iload X 66 d_R_run_64 rfl rfl ?_
                        refine mp_callE X mp_Ts_ok 69 (rest := [.int (rm_m (pq_ru (sp_fm S j) p))]) (k_R_begins (p := p) (n := bn) _ hK3 hS3 hV3 hok hj (by omega) hbn) Y_R_begins in_R (mp_IV X (q := (nR_R, nT_R, 17)) d_R_run_66 Y_R_begins ml_R_101 im_R_begins se_R_begins (by decide) rfl (by decide) (by show _ = some 2; decide) (hK3.sz (by decide)) hK3.ob) rfl (by decide) (by decide) (by decide) (by decide) rfl (Nat.le_of_ble_eq_true rfl) rfl ?_
                        refine mp_Zeq X 76 72 d_R_run_69 (by decide) rfl (by omega) (fun q2 => ?_) (fun q2 => ?_)
                        · refine mp_iconst X 77 (v := nI 0) d_R_run_76 rfl (by decide) ?_
                          refine mp_iadd X 78 d_R_run_77 rfl ?_
                          have hbb : pq_bg (sp_fm S j) p = false := by rcases hb with ⟨h1, h2⟩ | ⟨h1, h2⟩ <;> first | exact h2 | omega
                          have eg : rm_m (pq_ru (sp_fm S j) p) + nI 0 = rm_m (pq_ru (sp_fm S j) (p + 1)) := by rw [pq_ru_s, hbb]; exact rm_m0 (by have := pq_ru_s (sp_fm S j) p; rw [hbb] at this; have e0 : (if false = true then 1 else 0) = 0 := rfl; omega)
                          rw [eg]
                          rw [rm_mp hps]
                          refine mp_istore X 80 (L' := [.val (.ref (G.1 + 26)), .val (.int (nI j)), .val (.int (nI r)), .val (.int (nI v)), .val (.int (-1)), .val (.int (nI ((pq_mn (sp_fm S j) r p)))), .val (.int (nI (((pq_ru (sp_fm S j) (p + 1)) - 1)))), .val (.int (nI p))]) d_R_run_78 rfl rfl rfl rfl ?_
                          refine mp_iload X 82 d_R_run_80 rfl rfl ?_
                          refine mp_iload_n X 83 d_R_run_82 rfl rfl rfl ?_
                          refine mp_Nne X 96 86 d_R_run_83 (by decide) rfl (by omega) (by omega) (fun q3 => ?_) (fun q3 => ?_)
                          · refine mp_iload X 98 d_R_run_96 rfl rfl ?_
                            refine mp_istore X 100 (L' := [.val (.ref (G.1 + 26)), .val (.int (nI j)), .val (.int (nI r)), .val (.int (nI v)), .val (.int (-1)), .val (.int (nI ((pq_mn (sp_fm S j) r p)))), .val (.int (nI (((pq_ru (sp_fm S j) (p + 1)) - 1)))), .val (.int (nI p))]) d_R_run_98 rfl rfl rfl rfl ?_
                            refine mp_iload X 102 d_R_run_100 rfl rfl ?_
                            refine mp_iload X 104 d_R_run_102 rfl rfl ?_
                            refine mp_iload_n X 105 d_R_run_104 rfl rfl rfl ?_
                            refine mp_Nne X 112 108 d_R_run_105 (by decide) rfl (by omega) (by omega) (fun q4 => ?_) (fun q4 => ?_)
                            · refine mp_iconst X 113 (v := nI 0) d_R_run_112 rfl (by decide) ?_
                              refine mp_iadd X 114 d_R_run_113 rfl ?_
                              rw [nI_add]
                              refine mp_istore X 116 (L' := [.val (.ref (G.1 + 26)), .val (.int (nI j)), .val (.int (nI r)), .val (.int (nI v)), .val (.int (-1)), .val (.int (nI ((pq_mn (sp_fm S j) r p) + 0))), .val (.int (nI (((pq_ru (sp_fm S j) (p + 1)) - 1)))), .val (.int (nI p))]) d_R_run_114 rfl rfl rfl rfl ?_
                              refine mp_iinc X 119 (L' := [.val (.ref (G.1 + 26)), .val (.int (nI j)), .val (.int (nI r)), .val (.int (nI v)), .val (.int (-1)), .val (.int (nI ((pq_mn (sp_fm S j) r p) + 0))), .val (.int (nI (((pq_ru (sp_fm S j) (p + 1)) - 1)))), .val (.int (nI (p + 1)))]) (v := nI (p + 1)) d_R_run_116 rfl rfl (nI_1 _) rfl ?_
                              refine mp_goto X 51 d_R_run_119 (by decide) ?_
                              rw [rm_mp hps] at hg
                              rw [if_neg (show ¬ pq_ru (sp_fm S j) (p + 1) = r + 1 by omega)] at hg
                              rw [if_neg (show ¬ r < pq_ru (sp_fm S j) (p + 1) by rw [hbb] at hmx; simp at hmx; omega)] at hg
                              exact hg
                            · omega
                          · refine mp_iload X 88 d_R_run_86 rfl rfl ?_
                            refine mp_if_ge X 96 91 d_R_run_88 (by decide) rfl (fun q5 => ?_) (fun q5 => ?_)
                            · exact absurd q5 (by decide)
                            · refine mp_iload X 93 d_R_run_91 rfl rfl ?_
                              refine mp_goto X 98 d_R_run_93 (by decide) ?_
                              refine mp_istore X 100 (L' := [.val (.ref (G.1 + 26)), .val (.int (nI j)), .val (.int (nI r)), .val (.int (nI v)), .val (.int (nI p)), .val (.int (nI ((pq_mn (sp_fm S j) r p)))), .val (.int (nI (((pq_ru (sp_fm S j) (p + 1)) - 1)))), .val (.int (nI p))]) d_R_run_98 rfl rfl rfl rfl ?_
                              refine mp_iload X 102 d_R_run_100 rfl rfl ?_
                              refine mp_iload X 104 d_R_run_102 rfl rfl ?_
                              refine mp_iload_n X 105 d_R_run_104 rfl rfl rfl ?_
                              refine mp_Nne X 112 108 d_R_run_105 (by decide) rfl (by omega) (by omega) (fun q6 => ?_) (fun q6 => ?_)
                              · omega
                              · refine mp_iconst X 109 (v := nI 1) d_R_run_108 rfl (by decide) ?_
                                refine mp_goto X 113 d_R_run_109 (by decide) ?_
                                refine mp_iadd X 114 d_R_run_113 rfl ?_
                                rw [nI_add]
                                refine mp_istore X 116 (L' := [.val (.ref (G.1 + 26)), .val (.int (nI j)), .val (.int (nI r)), .val (.int (nI v)), .val (.int (nI p)), .val (.int (nI ((pq_mn (sp_fm S j) r p) + 1))), .val (.int (nI (((pq_ru (sp_fm S j) (p + 1)) - 1)))), .val (.int (nI p))]) d_R_run_114 rfl rfl rfl rfl ?_
                                refine mp_iinc X 119 (L' := [.val (.ref (G.1 + 26)), .val (.int (nI j)), .val (.int (nI r)), .val (.int (nI v)), .val (.int (nI p)), .val (.int (nI ((pq_mn (sp_fm S j) r p) + 1))), .val (.int (nI (((pq_ru (sp_fm S j) (p + 1)) - 1)))), .val (.int (nI (p + 1)))]) (v := nI (p + 1)) d_R_run_116 rfl rfl (nI_1 _) rfl ?_
                                refine mp_goto X 51 d_R_run_119 (by decide) ?_
                                rw [rm_mp hps] at hg
                                rw [if_pos (show pq_ru (sp_fm S j) (p + 1) = r + 1 by omega)] at hg
                                rw [if_pos (show r < pq_ru (sp_fm S j) (p + 1) by omega)] at hg
                                exfalso
                                rw [hbb] at hmx
                                simp at hmx
                                omega
                        · refine mp_iconst X 73 (v := nI 1) d_R_run_72 rfl (by decide) ?_
                          refine mp_goto X 77 d_R_run_73 (by decide) ?_
                          refine mp_iadd X 78 d_R_run_77 rfl ?_
                          have hbb : pq_bg (sp_fm S j) p = true := by rcases hb with ⟨h1, h2⟩ | ⟨h1, h2⟩ <;> first | exact h2 | omega
                          have eg : rm_m (pq_ru (sp_fm S j) p) + nI 1 = rm_m (pq_ru (sp_fm S j) (p + 1)) := by rw [pq_ru_s, hbb]; exact rm_m1 _
                          rw [eg]
                          rw [rm_mp hps]
                          refine mp_istore X 80 (L' := [.val (.ref (G.1 + 26)), .val (.int (nI j)), .val (.int (nI r)), .val (.int (nI v)), .val (.int (-1)), .val (.int (nI ((pq_mn (sp_fm S j) r p)))), .val (.int (nI (((pq_ru (sp_fm S j) (p + 1)) - 1)))), .val (.int (nI p))]) d_R_run_78 rfl rfl rfl rfl ?_
                          refine mp_iload X 82 d_R_run_80 rfl rfl ?_
                          refine mp_iload_n X 83 d_R_run_82 rfl rfl rfl ?_
                          refine mp_Nne X 96 86 d_R_run_83 (by decide) rfl (by omega) (by omega) (fun q7 => ?_) (fun q7 => ?_)
                          · refine mp_iload X 98 d_R_run_96 rfl rfl ?_
                            refine mp_istore X 100 (L' := [.val (.ref (G.1 + 26)), .val (.int (nI j)), .val (.int (nI r)), .val (.int (nI v)), .val (.int (-1)), .val (.int (nI ((pq_mn (sp_fm S j) r p)))), .val (.int (nI (((pq_ru (sp_fm S j) (p + 1)) - 1)))), .val (.int (nI p))]) d_R_run_98 rfl rfl rfl rfl ?_
                            refine mp_iload X 102 d_R_run_100 rfl rfl ?_
                            refine mp_iload X 104 d_R_run_102 rfl rfl ?_
                            refine mp_iload_n X 105 d_R_run_104 rfl rfl rfl ?_
                            refine mp_Nne X 112 108 d_R_run_105 (by decide) rfl (by omega) (by omega) (fun q8 => ?_) (fun q8 => ?_)
                            · refine mp_iconst X 113 (v := nI 0) d_R_run_112 rfl (by decide) ?_
                              refine mp_iadd X 114 d_R_run_113 rfl ?_
                              rw [nI_add]
                              refine mp_istore X 116 (L' := [.val (.ref (G.1 + 26)), .val (.int (nI j)), .val (.int (nI r)), .val (.int (nI v)), .val (.int (-1)), .val (.int (nI ((pq_mn (sp_fm S j) r p) + 0))), .val (.int (nI (((pq_ru (sp_fm S j) (p + 1)) - 1)))), .val (.int (nI p))]) d_R_run_114 rfl rfl rfl rfl ?_
                              refine mp_iinc X 119 (L' := [.val (.ref (G.1 + 26)), .val (.int (nI j)), .val (.int (nI r)), .val (.int (nI v)), .val (.int (-1)), .val (.int (nI ((pq_mn (sp_fm S j) r p) + 0))), .val (.int (nI (((pq_ru (sp_fm S j) (p + 1)) - 1)))), .val (.int (nI (p + 1)))]) (v := nI (p + 1)) d_R_run_116 rfl rfl (nI_1 _) rfl ?_
                              refine mp_goto X 51 d_R_run_119 (by decide) ?_
                              rw [rm_mp hps] at hg
                              rw [if_neg (show ¬ pq_ru (sp_fm S j) (p + 1) = r + 1 by omega)] at hg
                              rw [if_neg (show ¬ r < pq_ru (sp_fm S j) (p + 1) by rw [hbb] at hmx; simp at hmx; omega)] at hg
                              exact hg
                            · omega
                          · refine mp_iload X 88 d_R_run_86 rfl rfl ?_
                            refine mp_if_ge X 96 91 d_R_run_88 (by decide) rfl (fun q9 => ?_) (fun q9 => ?_)
                            · exact absurd q9 (by decide)
                            · refine mp_iload X 93 d_R_run_91 rfl rfl ?_
                              refine mp_goto X 98 d_R_run_93 (by decide) ?_
                              refine mp_istore X 100 (L' := [.val (.ref (G.1 + 26)), .val (.int (nI j)), .val (.int (nI r)), .val (.int (nI v)), .val (.int (nI p)), .val (.int (nI ((pq_mn (sp_fm S j) r p)))), .val (.int (nI (((pq_ru (sp_fm S j) (p + 1)) - 1)))), .val (.int (nI p))]) d_R_run_98 rfl rfl rfl rfl ?_
                              refine mp_iload X 102 d_R_run_100 rfl rfl ?_
                              refine mp_iload X 104 d_R_run_102 rfl rfl ?_
                              refine mp_iload_n X 105 d_R_run_104 rfl rfl rfl ?_
                              refine mp_Nne X 112 108 d_R_run_105 (by decide) rfl (by omega) (by omega) (fun q10 => ?_) (fun q10 => ?_)
                              · omega
                              · refine mp_iconst X 109 (v := nI 1) d_R_run_108 rfl (by decide) ?_
                                refine mp_goto X 113 d_R_run_109 (by decide) ?_
                                refine mp_iadd X 114 d_R_run_113 rfl ?_
                                rw [nI_add]
                                refine mp_istore X 116 (L' := [.val (.ref (G.1 + 26)), .val (.int (nI j)), .val (.int (nI r)), .val (.int (nI v)), .val (.int (nI p)), .val (.int (nI ((pq_mn (sp_fm S j) r p) + 1))), .val (.int (nI (((pq_ru (sp_fm S j) (p + 1)) - 1)))), .val (.int (nI p))]) d_R_run_114 rfl rfl rfl rfl ?_
                                refine mp_iinc X 119 (L' := [.val (.ref (G.1 + 26)), .val (.int (nI j)), .val (.int (nI r)), .val (.int (nI v)), .val (.int (nI p)), .val (.int (nI ((pq_mn (sp_fm S j) r p) + 1))), .val (.int (nI (((pq_ru (sp_fm S j) (p + 1)) - 1)))), .val (.int (nI (p + 1)))]) (v := nI (p + 1)) d_R_run_116 rfl rfl (nI_1 _) rfl ?_
                                refine mp_goto X 51 d_R_run_119 (by decide) ?_
                                rw [rm_mp hps] at hg
                                rw [if_pos (show pq_ru (sp_fm S j) (p + 1) = r + 1 by omega)] at hg
                                rw [if_pos (show r < pq_ru (sp_fm S j) (p + 1) by omega)] at hg
                                rw [pq_sr_bg (n := (rm_T S j).length) (by omega) hbb (show pq_ru (sp_fm S j) p = r by rw [hbb] at hmx; simp only [if_true] at hmx; omega)] at hg ⊢
                                exact hg
                have h0 := hloop (rm_T S j).length 0 (by omega)
                rw [if_neg (show ¬ r < pq_ru (sp_fm S j) 0 by unfold pq_ru; omega)] at h0
                exact h0
              · omega
set_option maxRecDepth 100000 in
set_option maxHeartbeats 4000000 in
theorem k_R_count (l : Launch) {G : mp_G} {h : mp_H} {S : pq_S} {x w : Int32} (hK1 : rm_K G h) (hS1 : rm_S h S) (hok : pq_ok S) :
    mp_M G mp_Ts l y_R_count 1 0 0 [.ref (G.1 + 26), .int x, .int w] h (rm_Z h (sp_count S x w)) (fun _ _ => False) := by
  have hM : S.1 ≤ 90 := hok.1
  have hw := hok.2.1
  have hf1 : mp_fr rm_A h h := mp_fr.rf
  refine mp_enter (by decide) Y_R_count fun E hl X => ?_
  refine mp_eq rfl (L2 := [.val (.ref (G.1 + 26)), .val (.int x), .val (.int w), .unset, .unset]) rfl rfl ?_
  cases hx : sp_ix 3 x with
  | none =>
    have hz : sp_count S x w = (1, 0, S) := by unfold sp_count; rw [hx]
    rw [hz]
    refine mp_aload_n X 1 d_R_count_0 rfl rfl rfl ?_
    refine mp_iload_n X 2 d_R_count_1 rfl rfl rfl ?_
    refine mp_callE X mp_Ts_ok 5 (rest := [.ref (G.1 + 26)]) (k_R_isPageF _ hx) Y_R_isPage in_R (mp_IS X d_R_count_2 Y_R_isPage ml_R_83 st_R_isPage in_R (by decide) (by show _ = some 1; decide)) rfl (by decide) (by decide) (by decide) (by decide) rfl (Nat.le_of_ble_eq_true rfl) rfl ?_
    refine mp_Zeq X 21 8 d_R_count_5 (by decide) rfl (by omega) (fun q1 => ?_) (fun q1 => ?_)
    · refine mp_iconst X 22 (v := nI 1) d_R_count_21 rfl (by decide) ?_
      refine mp_putf X 25 ls_R_51_R d_R_count_22 rfl (Or.inl rfl) (hK1.sz (by decide)) hK1.ob rfl rfl ?_
      obtain ⟨h2, eh2⟩ : ∃ z, z = mp_set h 26 (0) (.int (nI 1)) := ⟨_, rfl⟩
      rw [← eh2]
      have rh2 : ∀ a b, h2.2.1 a b = if a = 26 ∧ b = 0 then .int (nI 1) else h.2.1 a b := by intro a b; rw [eh2]; rfl
      have hK2 : rm_K G h2 := by rw [eh2]; exact hK1.st (Or.inr (Or.inl rfl))
      have hf2 : mp_fr rm_A h h2 := by rw [eh2]; exact hf1.set (by unfold rm_A; omega)
      have hS2 : rm_S h2 S := by rw [eh2]; exact hS1.cd
      have hc2 : h2.2.1 26 0 = .int (nI 1) := by rw [rh2, if_pos ⟨rfl, rfl⟩]
      refine mp_aload_n X 26 d_R_count_25 rfl rfl rfl ?_
      refine mp_getf (v := .int (nI 1)) X 29 lk_R_51_R d_R_count_26 rfl (hK2.sz (by decide)) hK2.ob hc2 ?_
      refine mp_Zle X 34 32 d_R_count_29 (by decide) rfl (by omega) (fun q2 => ?_) (fun q2 => ?_)
      · omega
      · refine mp_iconst X 33 (v := nI 0) d_R_count_32 rfl (by decide) ?_
        exact mp_iret X d_R_count_33 rfl rfl (by decide) (by decide) (rm_Z.code hc2 (by decide) hS2 hf2)
    · exact absurd rfl q1
  | some j =>
    obtain ⟨hj, rfl⟩ := sp_ix_some hx (by decide)
    cases hw4 : sp_ix 4 w with
    | none =>
      have hz : sp_count S (nI j) w = (1, 0, S) := by unfold sp_count; rw [hx, hw4]
      rw [hz]
      refine mp_aload_n X 1 d_R_count_0 rfl rfl rfl ?_
      refine mp_iload_n X 2 d_R_count_1 rfl rfl rfl ?_
      refine mp_callE X mp_Ts_ok 5 (rest := [.ref (G.1 + 26)]) (k_R_isPageT _ hj) Y_R_isPage in_R (mp_IS X d_R_count_2 Y_R_isPage ml_R_83 st_R_isPage in_R (by decide) (by show _ = some 1; decide)) rfl (by decide) (by decide) (by decide) (by decide) rfl (Nat.le_of_ble_eq_true rfl) rfl ?_
      refine mp_Zeq X 21 8 d_R_count_5 (by decide) rfl (by omega) (fun q1 => ?_) (fun q1 => ?_)
      · exact absurd q1 (by decide)
      · refine mp_iload_n X 9 d_R_count_8 rfl rfl rfl ?_
        refine mp_if_lt X 21 12 d_R_count_9 (by decide) rfl (fun q2 => ?_) (fun q2 => ?_)
        · refine mp_iconst X 22 (v := nI 1) d_R_count_21 rfl (by decide) ?_
          refine mp_putf X 25 ls_R_51_R d_R_count_22 rfl (Or.inl rfl) (hK1.sz (by decide)) hK1.ob rfl rfl ?_
          obtain ⟨h2, eh2⟩ : ∃ z, z = mp_set h 26 (0) (.int (nI 1)) := ⟨_, rfl⟩
          rw [← eh2]
          have rh2 : ∀ a b, h2.2.1 a b = if a = 26 ∧ b = 0 then .int (nI 1) else h.2.1 a b := by intro a b; rw [eh2]; rfl
          have hK2 : rm_K G h2 := by rw [eh2]; exact hK1.st (Or.inr (Or.inl rfl))
          have hf2 : mp_fr rm_A h h2 := by rw [eh2]; exact hf1.set (by unfold rm_A; omega)
          have hS2 : rm_S h2 S := by rw [eh2]; exact hS1.cd
          have hc2 : h2.2.1 26 0 = .int (nI 1) := by rw [rh2, if_pos ⟨rfl, rfl⟩]
          refine mp_aload_n X 26 d_R_count_25 rfl rfl rfl ?_
          refine mp_getf (v := .int (nI 1)) X 29 lk_R_51_R d_R_count_26 rfl (hK2.sz (by decide)) hK2.ob hc2 ?_
          refine mp_Zle X 34 32 d_R_count_29 (by decide) rfl (by omega) (fun q3 => ?_) (fun q3 => ?_)
          · omega
          · refine mp_iconst X 33 (v := nI 0) d_R_count_32 rfl (by decide) ?_
            exact mp_iret X d_R_count_33 rfl rfl (by decide) (by decide) (rm_Z.code hc2 (by decide) hS2 hf2)
        · refine mp_iload_n X 13 d_R_count_12 rfl rfl rfl ?_
          refine mp_iconst X 14 (v := nI 3) d_R_count_13 rfl (by decide) ?_
          refine mp_icmp_gt X 21 17 d_R_count_14 (by decide) rfl (fun q4 => ?_) (fun q4 => ?_)
          · refine mp_iconst X 22 (v := nI 1) d_R_count_21 rfl (by decide) ?_
            refine mp_putf X 25 ls_R_51_R d_R_count_22 rfl (Or.inl rfl) (hK1.sz (by decide)) hK1.ob rfl rfl ?_
            obtain ⟨h2, eh2⟩ : ∃ z, z = mp_set h 26 (0) (.int (nI 1)) := ⟨_, rfl⟩
            rw [← eh2]
            have rh2 : ∀ a b, h2.2.1 a b = if a = 26 ∧ b = 0 then .int (nI 1) else h.2.1 a b := by intro a b; rw [eh2]; rfl
            have hK2 : rm_K G h2 := by rw [eh2]; exact hK1.st (Or.inr (Or.inl rfl))
            have hf2 : mp_fr rm_A h h2 := by rw [eh2]; exact hf1.set (by unfold rm_A; omega)
            have hS2 : rm_S h2 S := by rw [eh2]; exact hS1.cd
            have hc2 : h2.2.1 26 0 = .int (nI 1) := by rw [rh2, if_pos ⟨rfl, rfl⟩]
            refine mp_aload_n X 26 d_R_count_25 rfl rfl rfl ?_
            refine mp_getf (v := .int (nI 1)) X 29 lk_R_51_R d_R_count_26 rfl (hK2.sz (by decide)) hK2.ob hc2 ?_
            refine mp_Zle X 34 32 d_R_count_29 (by decide) rfl (by omega) (fun q5 => ?_) (fun q5 => ?_)
            · omega
            · refine mp_iconst X 33 (v := nI 0) d_R_count_32 rfl (by decide) ?_
              exact mp_iret X d_R_count_33 rfl rfl (by decide) (by decide) (rm_Z.code hc2 (by decide) hS2 hf2)
          · exfalso; obtain ⟨q0, hq0, rfl⟩ := nI_of q2; have := Nat.not_lt.mp fun z => q4 ((nI_ltI (by decide) hq0).mpr z); rw [sp_ix_of (by omega) (by decide)] at hw4; cases hw4
    | some v =>
      obtain ⟨hv, rfl⟩ := sp_ix_some hw4 (by decide)
      obtain rfl | rfl | rfl | rfl : v = 0 ∨ v = 1 ∨ v = 2 ∨ v = 3 := by omega
      · have hz : sp_count S (nI j) (nI 0) = (0, nI (S.2.2.2 j), S) := by unfold sp_count; rw [hx, hw4]; rfl
        rw [hz]
        refine mp_aload_n X 1 d_R_count_0 rfl rfl rfl ?_
        refine mp_iload_n X 2 d_R_count_1 rfl rfl rfl ?_
        refine mp_callE X mp_Ts_ok 5 (rest := [.ref (G.1 + 26)]) (k_R_isPageT _ hj) Y_R_isPage in_R (mp_IS X d_R_count_2 Y_R_isPage ml_R_83 st_R_isPage in_R (by decide) (by show _ = some 1; decide)) rfl (by decide) (by decide) (by decide) (by decide) rfl (Nat.le_of_ble_eq_true rfl) rfl ?_
        refine mp_Zeq X 21 8 d_R_count_5 (by decide) rfl (by omega) (fun q1 => ?_) (fun q1 => ?_)
        · exact absurd q1 (by decide)
        · refine mp_iload_n X 9 d_R_count_8 rfl rfl rfl ?_
          refine mp_Zlt X 21 12 d_R_count_9 (by decide) rfl (by omega) (fun q2 => ?_) (fun q2 => ?_)
          · exact q2.elim
          · refine mp_iload_n X 13 d_R_count_12 rfl rfl rfl ?_
            refine mp_iconst X 14 (v := nI 3) d_R_count_13 rfl (by decide) ?_
            refine mp_Ngt X 21 17 d_R_count_14 (by decide) rfl (by omega) (by omega) (fun q3 => ?_) (fun q3 => ?_)
            · omega
            · refine mp_iconst X 18 (v := nI 0) d_R_count_17 rfl (by decide) ?_
              refine mp_goto X 22 d_R_count_18 (by decide) ?_
              refine mp_putf X 25 ls_R_51_R d_R_count_22 rfl (Or.inl rfl) (hK1.sz (by decide)) hK1.ob rfl rfl ?_
              obtain ⟨h2, eh2⟩ : ∃ z, z = mp_set h 26 (0) (.int (nI 0)) := ⟨_, rfl⟩
              rw [← eh2]
              have rh2 : ∀ a b, h2.2.1 a b = if a = 26 ∧ b = 0 then .int (nI 0) else h.2.1 a b := by intro a b; rw [eh2]; rfl
              have hK2 : rm_K G h2 := by rw [eh2]; exact hK1.st (Or.inr (Or.inl rfl))
              have hf2 : mp_fr rm_A h h2 := by rw [eh2]; exact hf1.set (by unfold rm_A; omega)
              have hS2 : rm_S h2 S := by rw [eh2]; exact hS1.cd
              have hc2 : h2.2.1 26 0 = .int (nI 0) := by rw [rh2, if_pos ⟨rfl, rfl⟩]
              refine mp_aload_n X 26 d_R_count_25 rfl rfl rfl ?_
              refine mp_getf (v := .int (nI 0)) X 29 lk_R_51_R d_R_count_26 rfl (hK2.sz (by decide)) hK2.ob hc2 ?_
              refine mp_Zle X 34 32 d_R_count_29 (by decide) rfl (by omega) (fun q4 => ?_) (fun q4 => ?_)
              · refine mp_iload_n X 35 d_R_count_34 rfl rfl rfl ?_
                refine mp_iconst X 36 (v := nI 2) d_R_count_35 rfl (by decide) ?_
                refine mp_Nge X 58 39 d_R_count_36 (by decide) rfl (by omega) (by omega) (fun q5 => ?_) (fun q5 => ?_)
                · omega
                · refine mp_iload_n X 40 d_R_count_39 rfl rfl rfl ?_
                  refine mp_Zne X 52 43 d_R_count_40 (by decide) rfl (by omega) (fun q6 => ?_) (fun q6 => ?_)
                  · exact absurd rfl q6
                  · refine mp_aload_n X 44 d_R_count_43 rfl rfl rfl ?_
                    refine mp_getf (v := .ref (G.1 + 35)) X 47 lk_R_36_R d_R_count_44 rfl (hK2.sz (by decide)) hK2.ob hK2.r_count ?_
                    refine mp_iload_n X 48 d_R_count_47 rfl rfl rfl ?_
                    refine mp_iald (v := .int (nI ((S.2.2.2 j)))) X 49 (j) d_R_count_48 rfl (hK2.sz (by decide)) hK2.k_count rfl (by omega) (by decide) (hS2.2.2 j hj).1 ?_
                    refine mp_goto X 57 d_R_count_49 (by decide) ?_
                    exact mp_iret X d_R_count_57 rfl rfl (by decide) (by decide) ⟨hc2, hS2, ⟨_, rfl, fun _ => rfl⟩, hf2⟩
              · omega
      · have hz : sp_count S (nI j) (nI 1) = (0, nI (sp_mx S j), S) := by unfold sp_count; rw [hx, hw4]; rfl
        rw [hz]
        refine mp_aload_n X 1 d_R_count_0 rfl rfl rfl ?_
        refine mp_iload_n X 2 d_R_count_1 rfl rfl rfl ?_
        refine mp_callE X mp_Ts_ok 5 (rest := [.ref (G.1 + 26)]) (k_R_isPageT _ hj) Y_R_isPage in_R (mp_IS X d_R_count_2 Y_R_isPage ml_R_83 st_R_isPage in_R (by decide) (by show _ = some 1; decide)) rfl (by decide) (by decide) (by decide) (by decide) rfl (Nat.le_of_ble_eq_true rfl) rfl ?_
        refine mp_Zeq X 21 8 d_R_count_5 (by decide) rfl (by omega) (fun q1 => ?_) (fun q1 => ?_)
        · exact absurd q1 (by decide)
        · refine mp_iload_n X 9 d_R_count_8 rfl rfl rfl ?_
          refine mp_Zlt X 21 12 d_R_count_9 (by decide) rfl (by omega) (fun q2 => ?_) (fun q2 => ?_)
          · exact q2.elim
          · refine mp_iload_n X 13 d_R_count_12 rfl rfl rfl ?_
            refine mp_iconst X 14 (v := nI 3) d_R_count_13 rfl (by decide) ?_
            refine mp_Ngt X 21 17 d_R_count_14 (by decide) rfl (by omega) (by omega) (fun q3 => ?_) (fun q3 => ?_)
            · omega
            · refine mp_iconst X 18 (v := nI 0) d_R_count_17 rfl (by decide) ?_
              refine mp_goto X 22 d_R_count_18 (by decide) ?_
              refine mp_putf X 25 ls_R_51_R d_R_count_22 rfl (Or.inl rfl) (hK1.sz (by decide)) hK1.ob rfl rfl ?_
              obtain ⟨h2, eh2⟩ : ∃ z, z = mp_set h 26 (0) (.int (nI 0)) := ⟨_, rfl⟩
              rw [← eh2]
              have rh2 : ∀ a b, h2.2.1 a b = if a = 26 ∧ b = 0 then .int (nI 0) else h.2.1 a b := by intro a b; rw [eh2]; rfl
              have hK2 : rm_K G h2 := by rw [eh2]; exact hK1.st (Or.inr (Or.inl rfl))
              have hf2 : mp_fr rm_A h h2 := by rw [eh2]; exact hf1.set (by unfold rm_A; omega)
              have hS2 : rm_S h2 S := by rw [eh2]; exact hS1.cd
              have hc2 : h2.2.1 26 0 = .int (nI 0) := by rw [rh2, if_pos ⟨rfl, rfl⟩]
              refine mp_aload_n X 26 d_R_count_25 rfl rfl rfl ?_
              refine mp_getf (v := .int (nI 0)) X 29 lk_R_51_R d_R_count_26 rfl (hK2.sz (by decide)) hK2.ob hc2 ?_
              refine mp_Zle X 34 32 d_R_count_29 (by decide) rfl (by omega) (fun q4 => ?_) (fun q4 => ?_)
              · refine mp_iload_n X 35 d_R_count_34 rfl rfl rfl ?_
                refine mp_iconst X 36 (v := nI 2) d_R_count_35 rfl (by decide) ?_
                refine mp_Nge X 58 39 d_R_count_36 (by decide) rfl (by omega) (by omega) (fun q5 => ?_) (fun q5 => ?_)
                · omega
                · refine mp_iload_n X 40 d_R_count_39 rfl rfl rfl ?_
                  refine mp_Zne X 52 43 d_R_count_40 (by decide) rfl (by omega) (fun q6 => ?_) (fun q6 => ?_)
                  · refine mp_aload_n X 53 d_R_count_52 rfl rfl rfl ?_
                    refine mp_iload_n X 54 d_R_count_53 rfl rfl rfl ?_
                    refine mp_callE X mp_Ts_ok 57 (rest := []) (k_R_greatest _ hK2 hS2 hok hj) Y_R_greatest in_R (mp_IV X (q := (nR_R, nT_R, 17)) d_R_count_54 Y_R_greatest ml_R_75 im_R_greatest se_R_greatest (by decide) rfl (by decide) (by show _ = some 1; decide) (hK2.sz (by decide)) hK2.ob) rfl (by decide) (by decide) (by decide) (by decide) rfl (by decide) rfl ?_
                    exact mp_iret X d_R_count_57 rfl rfl (by decide) (by decide) ⟨hc2, hS2, ⟨_, rfl, fun _ => rfl⟩, hf2⟩
                  · omega
              · omega
      · have hz : sp_count S (nI j) (nI 2) = (0, nI ((rm_F S j).length), S) := by unfold sp_count; rw [hx, hw4]; rfl
        rw [hz]
        refine mp_aload_n X 1 d_R_count_0 rfl rfl rfl ?_
        refine mp_iload_n X 2 d_R_count_1 rfl rfl rfl ?_
        refine mp_callE X mp_Ts_ok 5 (rest := [.ref (G.1 + 26)]) (k_R_isPageT _ hj) Y_R_isPage in_R (mp_IS X d_R_count_2 Y_R_isPage ml_R_83 st_R_isPage in_R (by decide) (by show _ = some 1; decide)) rfl (by decide) (by decide) (by decide) (by decide) rfl (Nat.le_of_ble_eq_true rfl) rfl ?_
        refine mp_Zeq X 21 8 d_R_count_5 (by decide) rfl (by omega) (fun q1 => ?_) (fun q1 => ?_)
        · exact absurd q1 (by decide)
        · refine mp_iload_n X 9 d_R_count_8 rfl rfl rfl ?_
          refine mp_Zlt X 21 12 d_R_count_9 (by decide) rfl (by omega) (fun q2 => ?_) (fun q2 => ?_)
          · exact q2.elim
          · refine mp_iload_n X 13 d_R_count_12 rfl rfl rfl ?_
            refine mp_iconst X 14 (v := nI 3) d_R_count_13 rfl (by decide) ?_
            refine mp_Ngt X 21 17 d_R_count_14 (by decide) rfl (by omega) (by omega) (fun q3 => ?_) (fun q3 => ?_)
            · omega
            · refine mp_iconst X 18 (v := nI 0) d_R_count_17 rfl (by decide) ?_
              refine mp_goto X 22 d_R_count_18 (by decide) ?_
              refine mp_putf X 25 ls_R_51_R d_R_count_22 rfl (Or.inl rfl) (hK1.sz (by decide)) hK1.ob rfl rfl ?_
              obtain ⟨h2, eh2⟩ : ∃ z, z = mp_set h 26 (0) (.int (nI 0)) := ⟨_, rfl⟩
              rw [← eh2]
              have rh2 : ∀ a b, h2.2.1 a b = if a = 26 ∧ b = 0 then .int (nI 0) else h.2.1 a b := by intro a b; rw [eh2]; rfl
              have hK2 : rm_K G h2 := by rw [eh2]; exact hK1.st (Or.inr (Or.inl rfl))
              have hf2 : mp_fr rm_A h h2 := by rw [eh2]; exact hf1.set (by unfold rm_A; omega)
              have hS2 : rm_S h2 S := by rw [eh2]; exact hS1.cd
              have hc2 : h2.2.1 26 0 = .int (nI 0) := by rw [rh2, if_pos ⟨rfl, rfl⟩]
              refine mp_aload_n X 26 d_R_count_25 rfl rfl rfl ?_
              refine mp_getf (v := .int (nI 0)) X 29 lk_R_51_R d_R_count_26 rfl (hK2.sz (by decide)) hK2.ob hc2 ?_
              refine mp_Zle X 34 32 d_R_count_29 (by decide) rfl (by omega) (fun q4 => ?_) (fun q4 => ?_)
              · refine mp_iload_n X 35 d_R_count_34 rfl rfl rfl ?_
                refine mp_iconst X 36 (v := nI 2) d_R_count_35 rfl (by decide) ?_
                refine mp_Nge X 58 39 d_R_count_36 (by decide) rfl (by omega) (by omega) (fun q5 => ?_) (fun q5 => ?_)
                · refine mp_iconst X 59 (v := nI 0) d_R_count_58 rfl (by decide) ?_
                  refine mp_istore_n X 60 (L' := [.val (.ref (G.1 + 26)), .val (.int (nI j)), .val (.int (nI 2)), .val (.int (nI 0)), .unset]) d_R_count_59 rfl rfl rfl rfl rfl ?_
                  refine mp_iconst X 61 (v := nI 0) d_R_count_60 rfl (by decide) ?_
                  refine mp_istore X 63 (L' := [.val (.ref (G.1 + 26)), .val (.int (nI j)), .val (.int (nI 2)), .val (.int (nI 0)), .val (.int (nI 0))]) d_R_count_61 rfl rfl rfl rfl ?_
                  have hend := rm_ct_row hok hj
                  have hloop : ∀ (n k : Nat), k + n = S.1 → mp_W G E h2 0 0 (mp_Q G E 0 0 (rm_Z h (0, nI ((rm_F S j).length), S)) (fun _ _ => False)) 63 [.val (.ref (G.1 + 26)), .val (.int (nI j)), .val (.int (nI 2)), .val (.int (nI (rm_ct (fun k => pq_kw (S.2.2.1 j) (S.2.2.2 j) k && pq_so S.2.1 k == 0) k))), .val (.int (nI k))] [] := by
                    intro n
                    induction n with
                    | zero =>
                      intro k hkn
                      have hk : k = S.1 := by omega
                      subst hk
                      refine mp_iload X 65 d_R_count_63 rfl rfl ?_
                      refine mp_aload_n X 66 d_R_count_65 rfl rfl rfl ?_
                      refine mp_getf (v := .int (nI (S.1))) X 69 lk_R_55_R d_R_count_66 rfl (hK2.sz (by decide)) hK2.ob hS2.1 ?_
                      refine mp_Nge X 121 72 d_R_count_69 (by decide) rfl (by omega) (by omega) (fun q1 => ?_) (fun q1 => ?_)
                      · refine mp_iload_n X 122 d_R_count_121 rfl rfl rfl ?_
                        rw [hend]
                        exact mp_iret X d_R_count_122 rfl rfl (by decide) (by decide) ⟨hc2, hS2, ⟨_, rfl, fun _ => rfl⟩, hf2⟩
                      · omega
                    | succ n ih =>
                      intro k hkn
                      have hkM : k < S.1 := by omega
                      obtain ⟨t1, t2, t3, t4, t5, t6⟩ := hS2.2.1 k hkM
                      have hso := (hw.2.2.2.1 k hkM).2.2.2.1
                      have s_kb := (hS2.2.2 j hj).2.2 k (by omega)
                      have hg := ih (k + 1) (by omega)
                      have hct : rm_ct (fun k => pq_kw (S.2.2.1 j) (S.2.2.2 j) k && pq_so S.2.1 k == 0) (k + 1) = (rm_ct (fun k => pq_kw (S.2.2.1 j) (S.2.2.2 j) k && pq_so S.2.1 k == 0) k) + (if (pq_kw (S.2.2.1 j) (S.2.2.2 j) k && pq_so S.2.1 k == 0) = true then 1 else 0) := rfl
                      rw [hct] at hg
                      obtain ⟨kb, kb1, hkb⟩ : ∃ kb : Nat, (kb = 1 ∧ pq_kw (S.2.2.1 j) (S.2.2.2 j) k = true ∨ kb = 0 ∧ pq_kw (S.2.2.1 j) (S.2.2.2 j) k = false) ∧ h2.2.1 34 (90 * j + k) = .int (nI kb) := by
                        cases hkw : pq_kw (S.2.2.1 j) (S.2.2.2 j) k with
                        | true => rw [hkw] at s_kb; exact ⟨1, Or.inl ⟨rfl, rfl⟩, s_kb⟩
                        | false => rw [hkw] at s_kb; exact ⟨0, Or.inr ⟨rfl, rfl⟩, s_kb⟩
                      have kbb : kb < 2 := by omega
                      refine mp_iload X 65 d_R_count_63 rfl rfl ?_
                      refine mp_aload_n X 66 d_R_count_65 rfl rfl rfl ?_
                      refine mp_getf (v := .int (nI (S.1))) X 69 lk_R_55_R d_R_count_66 rfl (hK2.sz (by decide)) hK2.ob hS2.1 ?_
                      refine mp_Nge X 121 72 d_R_count_69 (by decide) rfl (by omega) (by omega) (fun q1 => ?_) (fun q1 => ?_)
                      · omega
                      · refine mp_iload_n X 73 d_R_count_72 rfl rfl rfl ?_
                        refine mp_aload_n X 74 d_R_count_73 rfl rfl rfl ?_
                        refine mp_getf (v := .ref (G.1 + 34)) X 77 lk_R_32_R d_R_count_74 rfl (hK2.sz (by decide)) hK2.ob hK2.r_knows ?_
                        refine mp_bipush X 79 (v := nI 90) d_R_count_77 rfl (by decide) ?_
                        refine mp_iload_n X 80 d_R_count_79 rfl rfl rfl ?_
                        refine mp_imul X 81 d_R_count_80 rfl ?_
                        rw [pk_mul]
                        refine mp_iload X 83 d_R_count_81 rfl rfl ?_
                        refine mp_iadd X 84 d_R_count_83 rfl ?_
                        rw [nI_add]
                        refine mp_zald (v := .int (nI kb)) X 85 (90 * j + k) d_R_count_84 rfl (hK2.sz (by decide)) hK2.k_knows rfl (by omega) (by decide) hkb ?_
                        refine mp_Zeq X 112 88 d_R_count_85 (by decide) rfl (by omega) (fun q2 => ?_) (fun q2 => ?_)
                        · refine mp_iconst X 113 (v := nI 0) d_R_count_112 rfl (by decide) ?_
                          refine mp_iadd X 114 d_R_count_113 rfl ?_
                          rw [nI_add]
                          refine mp_istore_n X 115 (L' := [.val (.ref (G.1 + 26)), .val (.int (nI j)), .val (.int (nI 2)), .val (.int (nI (((rm_ct (fun k => pq_kw (S.2.2.1 j) (S.2.2.2 j) k && pq_so S.2.1 k == 0) k)) + 0))), .val (.int (nI k))]) d_R_count_114 rfl rfl rfl rfl rfl ?_
                          refine mp_iinc X 118 (L' := [.val (.ref (G.1 + 26)), .val (.int (nI j)), .val (.int (nI 2)), .val (.int (nI (((rm_ct (fun k => pq_kw (S.2.2.1 j) (S.2.2.2 j) k && pq_so S.2.1 k == 0) k)) + 0))), .val (.int (nI (k + 1)))]) (v := nI (k + 1)) d_R_count_115 rfl rfl (nI_1 _) rfl ?_
                          refine mp_goto X 63 d_R_count_118 (by decide) ?_
                          have hkw : pq_kw (S.2.2.1 j) (S.2.2.2 j) k = false := by rcases kb1 with ⟨h1, h2⟩ | ⟨h1, h2⟩; omega; exact h2
                          rw [hkw] at hg
                          exact hg
                        · refine mp_aload_n X 89 d_R_count_88 rfl rfl rfl ?_
                          refine mp_getf (v := .ref (G.1 + 27)) X 92 lk_R_7_R d_R_count_89 rfl (hK2.sz (by decide)) hK2.ob hK2.r_sort ?_
                          refine mp_iload X 94 d_R_count_92 rfl rfl ?_
                          refine mp_iald (v := .int (nI ((pq_so S.2.1 k)))) X 95 (k) d_R_count_94 rfl (hK2.sz (by decide)) hK2.k_sort rfl (by omega) (by decide) t1 ?_
                          refine mp_iload_n X 96 d_R_count_95 rfl rfl rfl ?_
                          refine mp_iconst X 97 (v := nI 2) d_R_count_96 rfl (by decide) ?_
                          refine mp_Nne X 104 100 d_R_count_97 (by decide) rfl (by omega) (by omega) (fun q3 => ?_) (fun q3 => ?_)
                          · exact absurd rfl q3
                          · refine mp_iconst X 101 (v := nI 0) d_R_count_100 rfl (by decide) ?_
                            refine mp_goto X 105 d_R_count_101 (by decide) ?_
                            refine mp_Nne X 112 108 d_R_count_105 (by decide) rfl (by omega) (by omega) (fun q4 => ?_) (fun q4 => ?_)
                            · refine mp_iconst X 113 (v := nI 0) d_R_count_112 rfl (by decide) ?_
                              refine mp_iadd X 114 d_R_count_113 rfl ?_
                              rw [nI_add]
                              refine mp_istore_n X 115 (L' := [.val (.ref (G.1 + 26)), .val (.int (nI j)), .val (.int (nI 2)), .val (.int (nI (((rm_ct (fun k => pq_kw (S.2.2.1 j) (S.2.2.2 j) k && pq_so S.2.1 k == 0) k)) + 0))), .val (.int (nI k))]) d_R_count_114 rfl rfl rfl rfl rfl ?_
                              refine mp_iinc X 118 (L' := [.val (.ref (G.1 + 26)), .val (.int (nI j)), .val (.int (nI 2)), .val (.int (nI (((rm_ct (fun k => pq_kw (S.2.2.1 j) (S.2.2.2 j) k && pq_so S.2.1 k == 0) k)) + 0))), .val (.int (nI (k + 1)))]) (v := nI (k + 1)) d_R_count_115 rfl rfl (nI_1 _) rfl ?_
                              refine mp_goto X 63 d_R_count_118 (by decide) ?_
                              have hkw : pq_kw (S.2.2.1 j) (S.2.2.2 j) k = true := by rcases kb1 with ⟨h1, h2⟩ | ⟨h1, h2⟩; exact h2; omega
                              have hs : (pq_so S.2.1 k == 0) = false := by simpa using q4
                              rw [hkw, hs] at hg
                              exact hg
                            · refine mp_iconst X 109 (v := nI 1) d_R_count_108 rfl (by decide) ?_
                              refine mp_goto X 113 d_R_count_109 (by decide) ?_
                              refine mp_iadd X 114 d_R_count_113 rfl ?_
                              rw [nI_add]
                              refine mp_istore_n X 115 (L' := [.val (.ref (G.1 + 26)), .val (.int (nI j)), .val (.int (nI 2)), .val (.int (nI (((rm_ct (fun k => pq_kw (S.2.2.1 j) (S.2.2.2 j) k && pq_so S.2.1 k == 0) k)) + 1))), .val (.int (nI k))]) d_R_count_114 rfl rfl rfl rfl rfl ?_
                              refine mp_iinc X 118 (L' := [.val (.ref (G.1 + 26)), .val (.int (nI j)), .val (.int (nI 2)), .val (.int (nI (((rm_ct (fun k => pq_kw (S.2.2.1 j) (S.2.2.2 j) k && pq_so S.2.1 k == 0) k)) + 1))), .val (.int (nI (k + 1)))]) (v := nI (k + 1)) d_R_count_115 rfl rfl (nI_1 _) rfl ?_
                              refine mp_goto X 63 d_R_count_118 (by decide) ?_
                              have hkw : pq_kw (S.2.2.1 j) (S.2.2.2 j) k = true := by rcases kb1 with ⟨h1, h2⟩ | ⟨h1, h2⟩; exact h2; omega
                              have hs : (pq_so S.2.1 k == 0) = true := by simpa using q4
                              rw [hkw, hs] at hg
                              exact hg
                  exact hloop S.1 0 (by omega)
                · omega
              · omega
      · have hz : sp_count S (nI j) (nI 3) = (0, nI ((sp_mk S j).length), S) := by unfold sp_count; rw [hx, hw4]; rfl
        rw [hz]
        refine mp_aload_n X 1 d_R_count_0 rfl rfl rfl ?_
        refine mp_iload_n X 2 d_R_count_1 rfl rfl rfl ?_
        refine mp_callE X mp_Ts_ok 5 (rest := [.ref (G.1 + 26)]) (k_R_isPageT _ hj) Y_R_isPage in_R (mp_IS X d_R_count_2 Y_R_isPage ml_R_83 st_R_isPage in_R (by decide) (by show _ = some 1; decide)) rfl (by decide) (by decide) (by decide) (by decide) rfl (Nat.le_of_ble_eq_true rfl) rfl ?_
        refine mp_Zeq X 21 8 d_R_count_5 (by decide) rfl (by omega) (fun q1 => ?_) (fun q1 => ?_)
        · exact absurd q1 (by decide)
        · refine mp_iload_n X 9 d_R_count_8 rfl rfl rfl ?_
          refine mp_Zlt X 21 12 d_R_count_9 (by decide) rfl (by omega) (fun q2 => ?_) (fun q2 => ?_)
          · exact q2.elim
          · refine mp_iload_n X 13 d_R_count_12 rfl rfl rfl ?_
            refine mp_iconst X 14 (v := nI 3) d_R_count_13 rfl (by decide) ?_
            refine mp_Ngt X 21 17 d_R_count_14 (by decide) rfl (by omega) (by omega) (fun q3 => ?_) (fun q3 => ?_)
            · omega
            · refine mp_iconst X 18 (v := nI 0) d_R_count_17 rfl (by decide) ?_
              refine mp_goto X 22 d_R_count_18 (by decide) ?_
              refine mp_putf X 25 ls_R_51_R d_R_count_22 rfl (Or.inl rfl) (hK1.sz (by decide)) hK1.ob rfl rfl ?_
              obtain ⟨h2, eh2⟩ : ∃ z, z = mp_set h 26 (0) (.int (nI 0)) := ⟨_, rfl⟩
              rw [← eh2]
              have rh2 : ∀ a b, h2.2.1 a b = if a = 26 ∧ b = 0 then .int (nI 0) else h.2.1 a b := by intro a b; rw [eh2]; rfl
              have hK2 : rm_K G h2 := by rw [eh2]; exact hK1.st (Or.inr (Or.inl rfl))
              have hf2 : mp_fr rm_A h h2 := by rw [eh2]; exact hf1.set (by unfold rm_A; omega)
              have hS2 : rm_S h2 S := by rw [eh2]; exact hS1.cd
              have hc2 : h2.2.1 26 0 = .int (nI 0) := by rw [rh2, if_pos ⟨rfl, rfl⟩]
              refine mp_aload_n X 26 d_R_count_25 rfl rfl rfl ?_
              refine mp_getf (v := .int (nI 0)) X 29 lk_R_51_R d_R_count_26 rfl (hK2.sz (by decide)) hK2.ob hc2 ?_
              refine mp_Zle X 34 32 d_R_count_29 (by decide) rfl (by omega) (fun q4 => ?_) (fun q4 => ?_)
              · refine mp_iload_n X 35 d_R_count_34 rfl rfl rfl ?_
                refine mp_iconst X 36 (v := nI 2) d_R_count_35 rfl (by decide) ?_
                refine mp_Nge X 58 39 d_R_count_36 (by decide) rfl (by omega) (by omega) (fun q5 => ?_) (fun q5 => ?_)
                · refine mp_iconst X 59 (v := nI 0) d_R_count_58 rfl (by decide) ?_
                  refine mp_istore_n X 60 (L' := [.val (.ref (G.1 + 26)), .val (.int (nI j)), .val (.int (nI 3)), .val (.int (nI 0)), .unset]) d_R_count_59 rfl rfl rfl rfl rfl ?_
                  refine mp_iconst X 61 (v := nI 0) d_R_count_60 rfl (by decide) ?_
                  refine mp_istore X 63 (L' := [.val (.ref (G.1 + 26)), .val (.int (nI j)), .val (.int (nI 3)), .val (.int (nI 0)), .val (.int (nI 0))]) d_R_count_61 rfl rfl rfl rfl ?_
                  have hend := rm_ct_mk hok hj
                  have hloop : ∀ (n k : Nat), k + n = S.1 → mp_W G E h2 0 0 (mp_Q G E 0 0 (rm_Z h (0, nI ((sp_mk S j).length), S)) (fun _ _ => False)) 63 [.val (.ref (G.1 + 26)), .val (.int (nI j)), .val (.int (nI 3)), .val (.int (nI (rm_ct (fun k => pq_kw (S.2.2.1 j) (S.2.2.2 j) k && pq_so S.2.1 k == 2) k))), .val (.int (nI k))] [] := by
                    intro n
                    induction n with
                    | zero =>
                      intro k hkn
                      have hk : k = S.1 := by omega
                      subst hk
                      refine mp_iload X 65 d_R_count_63 rfl rfl ?_
                      refine mp_aload_n X 66 d_R_count_65 rfl rfl rfl ?_
                      refine mp_getf (v := .int (nI (S.1))) X 69 lk_R_55_R d_R_count_66 rfl (hK2.sz (by decide)) hK2.ob hS2.1 ?_
                      refine mp_Nge X 121 72 d_R_count_69 (by decide) rfl (by omega) (by omega) (fun q1 => ?_) (fun q1 => ?_)
                      · refine mp_iload_n X 122 d_R_count_121 rfl rfl rfl ?_
                        rw [hend]
                        exact mp_iret X d_R_count_122 rfl rfl (by decide) (by decide) ⟨hc2, hS2, ⟨_, rfl, fun _ => rfl⟩, hf2⟩
                      · omega
                    | succ n ih =>
                      intro k hkn
                      have hkM : k < S.1 := by omega
                      obtain ⟨t1, t2, t3, t4, t5, t6⟩ := hS2.2.1 k hkM
                      have hso := (hw.2.2.2.1 k hkM).2.2.2.1
                      have s_kb := (hS2.2.2 j hj).2.2 k (by omega)
                      have hg := ih (k + 1) (by omega)
                      have hct : rm_ct (fun k => pq_kw (S.2.2.1 j) (S.2.2.2 j) k && pq_so S.2.1 k == 2) (k + 1) = (rm_ct (fun k => pq_kw (S.2.2.1 j) (S.2.2.2 j) k && pq_so S.2.1 k == 2) k) + (if (pq_kw (S.2.2.1 j) (S.2.2.2 j) k && pq_so S.2.1 k == 2) = true then 1 else 0) := rfl
                      rw [hct] at hg
                      obtain ⟨kb, kb1, hkb⟩ : ∃ kb : Nat, (kb = 1 ∧ pq_kw (S.2.2.1 j) (S.2.2.2 j) k = true ∨ kb = 0 ∧ pq_kw (S.2.2.1 j) (S.2.2.2 j) k = false) ∧ h2.2.1 34 (90 * j + k) = .int (nI kb) := by
                        cases hkw : pq_kw (S.2.2.1 j) (S.2.2.2 j) k with
                        | true => rw [hkw] at s_kb; exact ⟨1, Or.inl ⟨rfl, rfl⟩, s_kb⟩
                        | false => rw [hkw] at s_kb; exact ⟨0, Or.inr ⟨rfl, rfl⟩, s_kb⟩
                      have kbb : kb < 2 := by omega
                      refine mp_iload X 65 d_R_count_63 rfl rfl ?_
                      refine mp_aload_n X 66 d_R_count_65 rfl rfl rfl ?_
                      refine mp_getf (v := .int (nI (S.1))) X 69 lk_R_55_R d_R_count_66 rfl (hK2.sz (by decide)) hK2.ob hS2.1 ?_
                      refine mp_Nge X 121 72 d_R_count_69 (by decide) rfl (by omega) (by omega) (fun q1 => ?_) (fun q1 => ?_)
                      · omega
                      · refine mp_iload_n X 73 d_R_count_72 rfl rfl rfl ?_
                        refine mp_aload_n X 74 d_R_count_73 rfl rfl rfl ?_
                        refine mp_getf (v := .ref (G.1 + 34)) X 77 lk_R_32_R d_R_count_74 rfl (hK2.sz (by decide)) hK2.ob hK2.r_knows ?_
                        refine mp_bipush X 79 (v := nI 90) d_R_count_77 rfl (by decide) ?_
                        refine mp_iload_n X 80 d_R_count_79 rfl rfl rfl ?_
                        refine mp_imul X 81 d_R_count_80 rfl ?_
                        rw [pk_mul]
                        refine mp_iload X 83 d_R_count_81 rfl rfl ?_
                        refine mp_iadd X 84 d_R_count_83 rfl ?_
                        rw [nI_add]
                        refine mp_zald (v := .int (nI kb)) X 85 (90 * j + k) d_R_count_84 rfl (hK2.sz (by decide)) hK2.k_knows rfl (by omega) (by decide) hkb ?_
                        refine mp_Zeq X 112 88 d_R_count_85 (by decide) rfl (by omega) (fun q2 => ?_) (fun q2 => ?_)
                        · refine mp_iconst X 113 (v := nI 0) d_R_count_112 rfl (by decide) ?_
                          refine mp_iadd X 114 d_R_count_113 rfl ?_
                          rw [nI_add]
                          refine mp_istore_n X 115 (L' := [.val (.ref (G.1 + 26)), .val (.int (nI j)), .val (.int (nI 3)), .val (.int (nI (((rm_ct (fun k => pq_kw (S.2.2.1 j) (S.2.2.2 j) k && pq_so S.2.1 k == 2) k)) + 0))), .val (.int (nI k))]) d_R_count_114 rfl rfl rfl rfl rfl ?_
                          refine mp_iinc X 118 (L' := [.val (.ref (G.1 + 26)), .val (.int (nI j)), .val (.int (nI 3)), .val (.int (nI (((rm_ct (fun k => pq_kw (S.2.2.1 j) (S.2.2.2 j) k && pq_so S.2.1 k == 2) k)) + 0))), .val (.int (nI (k + 1)))]) (v := nI (k + 1)) d_R_count_115 rfl rfl (nI_1 _) rfl ?_
                          refine mp_goto X 63 d_R_count_118 (by decide) ?_
                          have hkw : pq_kw (S.2.2.1 j) (S.2.2.2 j) k = false := by rcases kb1 with ⟨h1, h2⟩ | ⟨h1, h2⟩; omega; exact h2
                          rw [hkw] at hg
                          exact hg
                        · refine mp_aload_n X 89 d_R_count_88 rfl rfl rfl ?_
                          refine mp_getf (v := .ref (G.1 + 27)) X 92 lk_R_7_R d_R_count_89 rfl (hK2.sz (by decide)) hK2.ob hK2.r_sort ?_
                          refine mp_iload X 94 d_R_count_92 rfl rfl ?_
                          refine mp_iald (v := .int (nI ((pq_so S.2.1 k)))) X 95 (k) d_R_count_94 rfl (hK2.sz (by decide)) hK2.k_sort rfl (by omega) (by decide) t1 ?_
                          refine mp_iload_n X 96 d_R_count_95 rfl rfl rfl ?_
                          refine mp_iconst X 97 (v := nI 2) d_R_count_96 rfl (by decide) ?_
                          refine mp_Nne X 104 100 d_R_count_97 (by decide) rfl (by omega) (by omega) (fun q3 => ?_) (fun q3 => ?_)
                          · refine mp_iconst X 105 (v := nI 2) d_R_count_104 rfl (by decide) ?_
                            refine mp_Nne X 112 108 d_R_count_105 (by decide) rfl (by omega) (by omega) (fun q4 => ?_) (fun q4 => ?_)
                            · refine mp_iconst X 113 (v := nI 0) d_R_count_112 rfl (by decide) ?_
                              refine mp_iadd X 114 d_R_count_113 rfl ?_
                              rw [nI_add]
                              refine mp_istore_n X 115 (L' := [.val (.ref (G.1 + 26)), .val (.int (nI j)), .val (.int (nI 3)), .val (.int (nI (((rm_ct (fun k => pq_kw (S.2.2.1 j) (S.2.2.2 j) k && pq_so S.2.1 k == 2) k)) + 0))), .val (.int (nI k))]) d_R_count_114 rfl rfl rfl rfl rfl ?_
                              refine mp_iinc X 118 (L' := [.val (.ref (G.1 + 26)), .val (.int (nI j)), .val (.int (nI 3)), .val (.int (nI (((rm_ct (fun k => pq_kw (S.2.2.1 j) (S.2.2.2 j) k && pq_so S.2.1 k == 2) k)) + 0))), .val (.int (nI (k + 1)))]) (v := nI (k + 1)) d_R_count_115 rfl rfl (nI_1 _) rfl ?_
                              refine mp_goto X 63 d_R_count_118 (by decide) ?_
                              have hkw : pq_kw (S.2.2.1 j) (S.2.2.2 j) k = true := by rcases kb1 with ⟨h1, h2⟩ | ⟨h1, h2⟩; exact h2; omega
                              have hs : (pq_so S.2.1 k == 2) = false := by simpa using q4
                              rw [hkw, hs] at hg
                              exact hg
                            · refine mp_iconst X 109 (v := nI 1) d_R_count_108 rfl (by decide) ?_
                              refine mp_goto X 113 d_R_count_109 (by decide) ?_
                              refine mp_iadd X 114 d_R_count_113 rfl ?_
                              rw [nI_add]
                              refine mp_istore_n X 115 (L' := [.val (.ref (G.1 + 26)), .val (.int (nI j)), .val (.int (nI 3)), .val (.int (nI (((rm_ct (fun k => pq_kw (S.2.2.1 j) (S.2.2.2 j) k && pq_so S.2.1 k == 2) k)) + 1))), .val (.int (nI k))]) d_R_count_114 rfl rfl rfl rfl rfl ?_
                              refine mp_iinc X 118 (L' := [.val (.ref (G.1 + 26)), .val (.int (nI j)), .val (.int (nI 3)), .val (.int (nI (((rm_ct (fun k => pq_kw (S.2.2.1 j) (S.2.2.2 j) k && pq_so S.2.1 k == 2) k)) + 1))), .val (.int (nI (k + 1)))]) (v := nI (k + 1)) d_R_count_115 rfl rfl (nI_1 _) rfl ?_
                              refine mp_goto X 63 d_R_count_118 (by decide) ?_
                              have hkw : pq_kw (S.2.2.1 j) (S.2.2.2 j) k = true := by rcases kb1 with ⟨h1, h2⟩ | ⟨h1, h2⟩; exact h2; omega
                              have hs : (pq_so S.2.1 k == 2) = true := by simpa using q4
                              rw [hkw, hs] at hg
                              exact hg
                          · omega
                  exact hloop S.1 0 (by omega)
                · omega
              · omega
