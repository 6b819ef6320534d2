/-! The reference: look (rows laid by program). -/
theorem rm_first {M : Nat} {O : pq_O} {kn : Nat → Nat} {cn f : Nat} (hw : pq_wf M O) (hk : pq_kn M O kn cn) (hf : (pq_row O kn cn)[0]? = some f) : rm_PA O none = rm_PA O (pq_fi O f) ++ [] := by
  obtain ⟨hm, hs⟩ := pq_row_ok hw cn hk
  have hfF : f ∈ pq_row O kn cn := List.mem_of_getElem? hf
  obtain ⟨hfM, -, -, hfp⟩ := rm_row_lt hw hk hfF
  cases hp : pq_fi O f with
  | none => rfl
  | some p =>
    exfalso
    have hpF := hfp p hp
    have hlt : pq_lt (pq_pa O p) (pq_pa O f) := by rw [rm_pa hw hfM, hp]; exact pq_lt_app _ _ _
    have hsp := rm_split hf
    rw [hsp] at hs hpF
    simp only [List.take_zero, List.nil_append] at hs hpF
    rcases List.mem_cons.mp hpF with rfl | h
    · exact pq_lt_irr _ hlt
    · exact pq_lt_irr _ (pq_lt_tr _ _ _ hlt ((List.pairwise_cons.mp hs).1 p h))
set_option maxRecDepth 100000 in
set_option maxHeartbeats 4000000 in
theorem k_R_look (l : Launch) {G : mp_G} {h : mp_H} {S : pq_S} {j : Nat} (hK : rm_K G h) (hS : rm_S h S) (hok : pq_ok S) (hj : j < 3) :
    mp_M G mp_Ts l y_R_look 1 0 0 [.ref (G.1 + 26), .int (nI j)] h (fun v h' => v = none ∧ mp_fr rm_Q h h' ∧ rm_V h' S j) (fun _ _ => False) := by
  have hM : S.1 ≤ 90 := hok.1
  have hw := hok.2.1
  have hkj := hok.2.2.1 j hj
  have hFM : (rm_F S j).length ≤ 90 := by show (pq_row S.2.1 (S.2.2.1 j) (S.2.2.2 j)).length ≤ 90; have := pq_row_len S.2.1 (S.2.2.1 j) (S.2.2.2 j); have := pq_kn_le hkj; omega
  refine mp_enter (by decide) Y_R_look fun E hl X => ?_
  have hmain : ∀ (n : Nat) (h1 : mp_H) (c : Nat) (at_ nx : Option Nat), 2 * ((rm_F S j).length - c) + (rm_PA S.2.1 at_).length ≤ n → mp_fr rm_Q h h1 → rm_J h1 S j c → rm_cond S.2.1 (rm_F S j) c at_ → nx = pq_best (pq_id S.2.1) (rm_ch S j at_ (fun k => decide (k ∈ (rm_F S j).take c))) S.1 →
      mp_W G E h1 0 0 (mp_Q G E 0 0 (fun v h' => v = none ∧ mp_fr rm_Q h h' ∧ rm_V h' S j) (fun _ _ => False)) 49 [.val (.ref (G.1 + 26)), .val (.int (nI j)), .val (.int (rm_i at_)), .val (.int (rm_i nx))] [] := by
    intro n
    induction n using Nat.strongRecOn with
    | ind n ih =>
    intro h1 c at_ nx hn hf1 hJ hcd hnx
    have hK1 : rm_K G h1 := hK.fr rm_Q (by intro i a b c d; unfold rm_Q; omega) hf1
    have hS1 : rm_S h1 S := hS.fr (hf1.mono fun o i => rm_QP)
    have hch : ∀ k, k < S.1 → (rm_ch S j at_ (fun k => decide (k ∈ (rm_F S j).take c)) k = true ↔ (pq_kw (S.2.2.1 j) (S.2.2.2 j) k = true ∧ pq_so S.2.1 k = 0) ∧ pq_fi S.2.1 k = at_ ∧ k ∉ (rm_F S j).take c) := by
      intro k hk
      unfold rm_ch
      simp [and_assoc]
    obtain ⟨n1, n2, n3⟩ := rm_next hw hkj hcd hch
    have hcF := hJ.1
    cases nx with
    | none =>
      have hno : ∀ f, (rm_F S j)[c]? = some f → pq_fi S.2.1 f ≠ at_ := fun f hf e => by have := n1 f hf e; rw [← hnx] at this; cases this
      cases at_ with
      | none =>
        refine mp_eq rfl (L2 := [.val (.ref (G.1 + 26)), .val (.int (nI j)), .val (.int (-1)), .val (.int (-1))]) rfl rfl ?_
        refine mp_iload_n X 50 d_R_look_49 rfl rfl rfl ?_
        refine mp_if_ge X 57 53 d_R_look_50 (by decide) rfl (fun q1 => ?_) (fun q1 => ?_)
        · exact absurd q1 (by decide)
        · refine mp_iload_n X 54 d_R_look_53 rfl rfl rfl ?_
          refine mp_if_lt X 149 57 d_R_look_54 (by decide) rfl (fun q2 => ?_) (fun q2 => ?_)
          · exact mp_vret X d_R_look_149 rfl (by decide) (by decide) ⟨rfl, hf1, rm_J_end hJ (rm_end hw hkj hcd hno)⟩
          · exact absurd (by decide) q2
      | some a =>
        have haT := hcd.1 a rfl
        have haF : a ∈ rm_F S j := List.mem_of_mem_take haT
        have haM := (rm_row_lt hw hkj haF).1
        have hupc := rm_up hw hkj hcd hno
        have hfa : ∀ p, pq_fi S.2.1 a = some p → p < 90 := fun p hp => by have := (hw.1 a haM p hp).1; omega
        have ta := (hS1.2.1 a haM).2.2.1
        have hdep : (rm_PA S.2.1 (some a)).length = (rm_PA S.2.1 (pq_fi S.2.1 a)).length + 1 := by
          show (pq_pa S.2.1 a).length = _
          rw [rm_pa hw haM]
          simp
        refine mp_eq rfl (L2 := [.val (.ref (G.1 + 26)), .val (.int (nI j)), .val (.int (nI a)), .val (.int (-1))]) rfl rfl ?_
        refine mp_iload_n X 50 d_R_look_49 rfl rfl rfl ?_
        refine mp_Zge X 57 53 d_R_look_50 (by decide) rfl (by omega) (fun q1 => ?_) (fun q1 => ?_)
        · refine mp_iload_n X 58 d_R_look_57 rfl rfl rfl ?_
          refine mp_if_ge X 71 61 d_R_look_58 (by decide) rfl (fun q2 => ?_) (fun q2 => ?_)
          · exact absurd q2 (by decide)
          · refine mp_aload_n X 62 d_R_look_61 rfl rfl rfl ?_
            refine mp_getf (v := .ref (G.1 + 29)) X 65 lk_R_16_R d_R_look_62 rfl (hK1.sz (by decide)) hK1.ob hK1.r_first ?_
            refine mp_iload_n X 66 d_R_look_65 rfl rfl rfl ?_
            refine mp_iald (v := .int (rm_i (pq_fi S.2.1 a))) X 67 (a) d_R_look_66 rfl (hK1.sz (by decide)) hK1.k_first rfl (by omega) (by decide) ta ?_
            refine mp_istore_n X 68 (L' := [.val (.ref (G.1 + 26)), .val (.int (nI j)), .val (.int (rm_i (pq_fi S.2.1 a))), .val (.int (-1))]) d_R_look_67 rfl rfl rfl rfl rfl ?_
            refine mp_goto X 139 d_R_look_68 (by decide) ?_
            refine mp_aload_n X 140 d_R_look_139 rfl rfl rfl ?_
            refine mp_iload_n X 141 d_R_look_140 rfl rfl rfl ?_
            refine mp_iload_n X 142 d_R_look_141 rfl rfl rfl ?_
            refine mp_callE X mp_Ts_ok 145 (rest := []) (k_R_nextBehind (pa := pq_fi S.2.1 a) (ps := fun k => decide (k ∈ (rm_F S j).take c)) _ hK1 hS1 hok hj hfa hJ.2.2.2.1) Y_R_nextBehind in_R (mp_IV X (q := (nR_R, nT_R, 17)) d_R_look_142 Y_R_nextBehind ml_R_64 im_R_nextBehind se_R_nextBehind (by decide) rfl (by decide) (by show _ = some 2; decide) (hK1.sz (by decide)) hK1.ob) rfl (by decide) (by decide) (by decide) (by decide) rfl (by decide) rfl ?_
            refine mp_istore_n X 146 (L' := [.val (.ref (G.1 + 26)), .val (.int (nI j)), .val (.int (rm_i (pq_fi S.2.1 a))), .val (.int (rm_i (pq_best (pq_id S.2.1) (rm_ch S j (pq_fi S.2.1 a) (fun k => decide (k ∈ (rm_F S j).take c))) S.1)))]) d_R_look_145 rfl rfl rfl rfl rfl ?_
            refine mp_goto X 49 d_R_look_146 (by decide) ?_
            exact ih (2 * ((rm_F S j).length - c) + (rm_PA S.2.1 (pq_fi S.2.1 a)).length) (by omega) h1 c (pq_fi S.2.1 a) _ (Nat.le_refl _) hf1 hJ hupc rfl
        · exact q1.elim
    | some f =>
      have hf : (rm_F S j)[c]? = some f ∧ pq_fi S.2.1 f = at_ := by
        cases hfc : (rm_F S j)[c]? with
        | none => have := n3 hfc; rw [← hnx] at this; cases this
        | some g =>
          by_cases hg : pq_fi S.2.1 g = at_
          · have := n1 g hfc hg; rw [← hnx] at this; cases this; exact ⟨rfl, hg⟩
          · have := n2 g hfc hg; rw [← hnx] at this; cases this
      obtain ⟨hfc, hfa⟩ := hf
      have hfF : f ∈ rm_F S j := List.mem_of_getElem? hfc
      have hfM := (rm_row_lt hw hkj hfF).1
      have hcl : c < (rm_F S j).length := (List.getElem?_eq_some_iff.mp hfc).1
      have hTl := rm_Tc_len (S := S) (j := j) hJ.1
      obtain ⟨j1, j2, j3, j4, j5, j6⟩ := id hJ
      have hdn := rm_down hw hkj hfc
      have hpf : ∀ p, some f = some p → p < 90 := fun p hp => by cases hp; omega
      have hdep : (rm_PA S.2.1 (some f)).length = (rm_PA S.2.1 at_).length + 1 := by
        show (pq_pa S.2.1 f).length = _
        rw [rm_pa hw hfM, hfa]
        simp
      have hgo : mp_W G E h1 0 0 (mp_Q G E 0 0 (fun v h' => v = none ∧ mp_fr rm_Q h h' ∧ rm_V h' S j) (fun _ _ => False)) 71 [.val (.ref (G.1 + 26)), .val (.int (nI j)), .val (.int (rm_i at_)), .val (.int (nI f))] [] := by
        refine mp_iload_n X 72 d_R_look_71 rfl rfl rfl ?_
        refine mp_istore_n X 73 (L' := [.val (.ref (G.1 + 26)), .val (.int (nI j)), .val (.int (nI f)), .val (.int (nI f))]) d_R_look_72 rfl rfl rfl rfl rfl ?_
        refine mp_aload_n X 74 d_R_look_73 rfl rfl rfl ?_
        refine mp_getf (v := .ref (G.1 + 39)) X 77 lk_R_48_R d_R_look_74 rfl (hK1.sz (by decide)) hK1.ob hK1.r_passed ?_
        refine mp_iload_n X 78 d_R_look_77 rfl rfl rfl ?_
        refine mp_iconst X 79 (v := nI 1) d_R_look_78 rfl (by decide) ?_
        refine mp_zast X 80 (f) d_R_look_79 rfl (hK1.sz (by decide)) hK1.k_passed rfl (by omega) (by decide) rfl ?_
        obtain ⟨h2, eh2⟩ : ∃ z, z = mp_set h1 39 f (.int (nI 1)) := ⟨_, rfl⟩
        rw [← eh2]
        have rh2 : ∀ a b, h2.2.1 a b = if a = 39 ∧ b = f then .int (nI 1) else h1.2.1 a b := by intro a b; rw [eh2]; rfl
        have hK2 : rm_K G h2 := by rw [eh2]; exact hK1.st (Or.inl (by decide))
        have hf2 : mp_fr rm_Q h h2 := by rw [eh2]; exact hf1.set (by unfold rm_Q; omega)
        refine mp_aload_n X 81 d_R_look_80 rfl rfl rfl ?_
        refine mp_getf (v := .ref (G.1 + 37)) X 84 lk_R_42_R d_R_look_81 rfl (hK2.sz (by decide)) hK2.ob hK2.r_place ?_
        refine mp_iload_n X 85 d_R_look_84 rfl rfl rfl ?_
        refine mp_aload_n X 86 d_R_look_85 rfl rfl rfl ?_
        refine mp_getf (v := .int (nI c)) X 89 lk_R_58_R d_R_look_86 rfl (hK2.sz (by decide)) hK2.ob (by rw [rh2, if_neg (by omega)]; exact j2) ?_
        refine mp_iast X 90 (f) d_R_look_89 rfl (hK2.sz (by decide)) hK2.k_place rfl (by omega) (by decide) ?_
        obtain ⟨h3, eh3⟩ : ∃ z, z = mp_set h2 37 f (.int (nI c)) := ⟨_, rfl⟩
        rw [← eh3]
        have rh3 : ∀ a b, h3.2.1 a b = if a = 37 ∧ b = f then .int (nI c) else h2.2.1 a b := by intro a b; rw [eh3]; rfl
        have hK3 : rm_K G h3 := by rw [eh3]; exact hK2.st (Or.inl (by decide))
        have hf3 : mp_fr rm_Q h h3 := by rw [eh3]; exact hf2.set (by unfold rm_Q; omega)
        refine mp_aload_n X 91 d_R_look_90 rfl rfl rfl ?_
        refine mp_getf (v := .ref (G.1 + 36)) X 94 lk_R_39_R d_R_look_91 rfl (hK3.sz (by decide)) hK3.ob hK3.r_row ?_
        refine mp_aload_n X 95 d_R_look_94 rfl rfl rfl ?_
        refine mp_getf (v := .int (nI c)) X 98 lk_R_58_R d_R_look_95 rfl (hK3.sz (by decide)) hK3.ob (by rw [rh3, if_neg (by omega), rh2, if_neg (by omega)]; exact j2) ?_
        refine mp_iload_n X 99 d_R_look_98 rfl rfl rfl ?_
        refine mp_iast X 100 (c) d_R_look_99 rfl (hK3.sz (by decide)) hK3.k_row rfl (by omega) (by decide) ?_
        obtain ⟨h4, eh4⟩ : ∃ z, z = mp_set h3 36 c (.int (nI f)) := ⟨_, rfl⟩
        rw [← eh4]
        have rh4 : ∀ a b, h4.2.1 a b = if a = 36 ∧ b = c then .int (nI f) else h3.2.1 a b := by intro a b; rw [eh4]; rfl
        have hK4 : rm_K G h4 := by rw [eh4]; exact hK3.st (Or.inl (by decide))
        have hf4 : mp_fr rm_Q h h4 := by rw [eh4]; exact hf3.set (by unfold rm_Q; omega)
        refine mp_aload_n X 101 d_R_look_100 rfl rfl rfl ?_
        refine mp_dup X 102 d_R_look_101 rfl rfl ?_
        refine mp_getf (v := .int (nI c)) X 105 lk_R_58_R d_R_look_102 rfl (hK4.sz (by decide)) hK4.ob (by rw [rh4, if_neg (by omega), rh3, if_neg (by omega), rh2, if_neg (by omega)]; exact j2) ?_
        refine mp_iconst X 106 (v := nI 1) d_R_look_105 rfl (by decide) ?_
        refine mp_iadd X 107 d_R_look_106 rfl ?_
        rw [nI_add]
        refine mp_putf X 110 ls_R_58_R d_R_look_107 rfl (Or.inl rfl) (hK4.sz (by decide)) hK4.ob rfl rfl ?_
        obtain ⟨h5, eh5⟩ : ∃ z, z = mp_set h4 26 11 (.int (nI (c + 1))) := ⟨_, rfl⟩
        rw [← eh5]
        have rh5 : ∀ a b, h5.2.1 a b = if a = 26 ∧ b = 11 then .int (nI (c + 1)) else h4.2.1 a b := by intro a b; rw [eh5]; rfl
        have hK5 : rm_K G h5 := by rw [eh5]; exact hK4.st (Or.inr (Or.inr (Or.inr (Or.inl rfl))))
        have hf5 : mp_fr rm_Q h h5 := by rw [eh5]; exact hf4.set (by unfold rm_Q; omega)
        have hS5 : rm_S h5 S := hS.fr (hf5.mono fun o i => rm_QP)
        have x14 : h5.2.1 26 14 = .int (nI (rm_Tc S j c).length) := by rw [rh5, if_neg (by omega), rh4, if_neg (by omega), rh3, if_neg (by omega), rh2, if_neg (by omega)]; exact j3
        obtain ⟨gb, gb1, hgb⟩ : ∃ gb : Nat, (gb = 1 ∧ pq_gn S.2.1 (S.2.2.1 j) (S.2.2.2 j) f = true ∨ gb = 0 ∧ pq_gn S.2.1 (S.2.2.1 j) (S.2.2.2 j) f = false) ∧ rm_b (pq_gn S.2.1 (S.2.2.1 j) (S.2.2.2 j) f) = nI gb := by
          cases hgn : pq_gn S.2.1 (S.2.2.1 j) (S.2.2.2 j) f with
          | true => exact ⟨1, Or.inl ⟨rfl, rfl⟩, rfl⟩
          | false => exact ⟨0, Or.inr ⟨rfl, rfl⟩, rfl⟩
        refine mp_aload_n X 111 d_R_look_110 rfl rfl rfl ?_
        refine mp_iload_n X 112 d_R_look_111 rfl rfl rfl ?_
        refine mp_iload_n X 113 d_R_look_112 rfl rfl rfl ?_
        refine mp_callE X mp_Ts_ok 116 (rest := []) (st2 := [.int (nI gb)]) (k_R_isGone (lt := f) _ hK5 hS5 hok hj (by omega)) Y_R_isGone in_R (mp_IV X (q := (nR_R, nT_R, 17)) d_R_look_113 Y_R_isGone ml_R_68 im_R_isGone se_R_isGone (by decide) rfl (by decide) (by show _ = some 2; decide) (hK5.sz (by decide)) hK5.ob) rfl (by decide) (by decide) (by decide) (by decide) rfl (by decide) (by rw [hgb]; rfl) ?_
        refine mp_Zne X 139 119 d_R_look_116 (by decide) rfl (by omega) (fun q1 => ?_) (fun q1 => ?_)
        · have hgn : pq_gn S.2.1 (S.2.2.1 j) (S.2.2.2 j) f = true := by rcases gb1 with ⟨a1, a2⟩ | ⟨a1, a2⟩; exact a2; omega
          have hJ5 : rm_J h5 S j (c + 1) := rm_J_gone hok hj hJ hfc hgn (fun a b => by rw [rh5, rh4, rh3, rh2])
          refine mp_aload_n X 140 d_R_look_139 rfl rfl rfl ?_
          refine mp_iload_n X 141 d_R_look_140 rfl rfl rfl ?_
          refine mp_iload_n X 142 d_R_look_141 rfl rfl rfl ?_
          refine mp_callE X mp_Ts_ok 145 (rest := []) (k_R_nextBehind (pa := some f) (ps := fun k => decide (k ∈ (rm_F S j).take (c + 1))) _ hK5 hS5 hok hj hpf hJ5.2.2.2.1) Y_R_nextBehind in_R (mp_IV X (q := (nR_R, nT_R, 17)) d_R_look_142 Y_R_nextBehind ml_R_64 im_R_nextBehind se_R_nextBehind (by decide) rfl (by decide) (by show _ = some 2; decide) (hK5.sz (by decide)) hK5.ob) rfl (by decide) (by decide) (by decide) (by decide) rfl (by decide) rfl ?_
          refine mp_istore_n X 146 (L' := [.val (.ref (G.1 + 26)), .val (.int (nI j)), .val (.int (nI f)), .val (.int (rm_i (pq_best (pq_id S.2.1) (rm_ch S j (some f) (fun k => decide (k ∈ (rm_F S j).take (c + 1)))) S.1)))]) d_R_look_145 rfl rfl rfl rfl rfl ?_
          refine mp_goto X 49 d_R_look_146 (by decide) ?_
          exact ih (2 * ((rm_F S j).length - (c + 1)) + (rm_PA S.2.1 (some f)).length) (by omega) h5 (c + 1) (some f) _ (Nat.le_refl _) hf5 hJ5 hdn rfl
        · have hgn : pq_gn S.2.1 (S.2.2.1 j) (S.2.2.2 j) f = false := by rcases gb1 with ⟨a1, a2⟩ | ⟨a1, a2⟩; omega; exact a2
          refine mp_aload_n X 120 d_R_look_119 rfl rfl rfl ?_
          refine mp_getf (v := .ref (G.1 + 38)) X 123 lk_R_45_R d_R_look_120 rfl (hK5.sz (by decide)) hK5.ob hK5.r_text ?_
          refine mp_aload_n X 124 d_R_look_123 rfl rfl rfl ?_
          refine mp_getf (v := .int (nI ((rm_Tc S j c).length))) X 127 lk_R_61_R d_R_look_124 rfl (hK5.sz (by decide)) hK5.ob x14 ?_
          refine mp_iload_n X 128 d_R_look_127 rfl rfl rfl ?_
          refine mp_iast X 129 ((rm_Tc S j c).length) d_R_look_128 rfl (hK5.sz (by decide)) hK5.k_text rfl (by omega) (by decide) ?_
          obtain ⟨h6, eh6⟩ : ∃ z, z = mp_set h5 38 (rm_Tc S j c).length (.int (nI f)) := ⟨_, rfl⟩
          rw [← eh6]
          have rh6 : ∀ a b, h6.2.1 a b = if a = 38 ∧ b = (rm_Tc S j c).length then .int (nI f) else h5.2.1 a b := by intro a b; rw [eh6]; rfl
          have hK6 : rm_K G h6 := by rw [eh6]; exact hK5.st (Or.inl (by decide))
          have hf6 : mp_fr rm_Q h h6 := by rw [eh6]; exact hf5.set (by unfold rm_Q; omega)
          refine mp_aload_n X 130 d_R_look_129 rfl rfl rfl ?_
          refine mp_dup X 131 d_R_look_130 rfl rfl ?_
          refine mp_getf (v := .int (nI ((rm_Tc S j c).length))) X 134 lk_R_61_R d_R_look_131 rfl (hK6.sz (by decide)) hK6.ob (by rw [rh6, if_neg (by omega)]; exact x14) ?_
          refine mp_iconst X 135 (v := nI 1) d_R_look_134 rfl (by decide) ?_
          refine mp_iadd X 136 d_R_look_135 rfl ?_
          rw [nI_add]
          refine mp_putf X 139 ls_R_61_R d_R_look_136 rfl (Or.inl rfl) (hK6.sz (by decide)) hK6.ob rfl rfl ?_
          obtain ⟨h7, eh7⟩ : ∃ z, z = mp_set h6 26 14 (.int (nI ((rm_Tc S j c).length + 1))) := ⟨_, rfl⟩
          rw [← eh7]
          have rh7 : ∀ a b, h7.2.1 a b = if a = 26 ∧ b = 14 then .int (nI ((rm_Tc S j c).length + 1)) else h6.2.1 a b := by intro a b; rw [eh7]; rfl
          have hK7 : rm_K G h7 := by rw [eh7]; exact hK6.st (Or.inr (Or.inr (Or.inr (Or.inr rfl))))
          have hf7 : mp_fr rm_Q h h7 := by rw [eh7]; exact hf6.set (by unfold rm_Q; omega)
          have hS7 : rm_S h7 S := hS.fr (hf7.mono fun o i => rm_QP)
          have hJ7 : rm_J h7 S j (c + 1) := rm_J_shown hok hj hJ hfc hgn (fun a b => by rw [rh7, rh6, rh5, rh4, rh3, rh2])
          refine mp_aload_n X 140 d_R_look_139 rfl rfl rfl ?_
          refine mp_iload_n X 141 d_R_look_140 rfl rfl rfl ?_
          refine mp_iload_n X 142 d_R_look_141 rfl rfl rfl ?_
          refine mp_callE X mp_Ts_ok 145 (rest := []) (k_R_nextBehind (pa := some f) (ps := fun k => decide (k ∈ (rm_F S j).take (c + 1))) _ hK7 hS7 hok hj hpf hJ7.2.2.2.1) Y_R_nextBehind in_R (mp_IV X (q := (nR_R, nT_R, 17)) d_R_look_142 Y_R_nextBehind ml_R_64 im_R_nextBehind se_R_nextBehind (by decide) rfl (by decide) (by show _ = some 2; decide) (hK7.sz (by decide)) hK7.ob) rfl (by decide) (by decide) (by decide) (by decide) rfl (by decide) rfl ?_
          refine mp_istore_n X 146 (L' := [.val (.ref (G.1 + 26)), .val (.int (nI j)), .val (.int (nI f)), .val (.int (rm_i (pq_best (pq_id S.2.1) (rm_ch S j (some f) (fun k => decide (k ∈ (rm_F S j).take (c + 1)))) S.1)))]) d_R_look_145 rfl rfl rfl rfl rfl ?_
          refine mp_goto X 49 d_R_look_146 (by decide) ?_
          exact ih (2 * ((rm_F S j).length - (c + 1)) + (rm_PA S.2.1 (some f)).length) (by omega) h7 (c + 1) (some f) _ (Nat.le_refl _) hf7 hJ7 hdn rfl
      cases at_ with
      | none =>
        refine mp_eq rfl (L2 := [.val (.ref (G.1 + 26)), .val (.int (nI j)), .val (.int (-1)), .val (.int (nI f))]) rfl rfl ?_
        refine mp_iload_n X 50 d_R_look_49 rfl rfl rfl ?_
        refine mp_if_ge X 57 53 d_R_look_50 (by decide) rfl (fun q1 => ?_) (fun q1 => ?_)
        · exact absurd q1 (by decide)
        · refine mp_iload_n X 54 d_R_look_53 rfl rfl rfl ?_
          refine mp_Zlt X 149 57 d_R_look_54 (by decide) rfl (by omega) (fun q2 => ?_) (fun q2 => ?_)
          · exact q2.elim
          · refine mp_iload_n X 58 d_R_look_57 rfl rfl rfl ?_
            refine mp_Zge X 71 61 d_R_look_58 (by decide) rfl (by omega) (fun q3 => ?_) (fun q3 => ?_)
            · exact hgo
            · exact q3.elim
      | some a =>
        have haM := (rm_row_lt hw hkj (List.mem_of_mem_take (hcd.1 a rfl))).1
        refine mp_eq rfl (L2 := [.val (.ref (G.1 + 26)), .val (.int (nI j)), .val (.int (nI a)), .val (.int (nI f))]) rfl rfl ?_
        refine mp_iload_n X 50 d_R_look_49 rfl rfl rfl ?_
        refine mp_Zge X 57 53 d_R_look_50 (by decide) rfl (by omega) (fun q1 => ?_) (fun q1 => ?_)
        · refine mp_iload_n X 58 d_R_look_57 rfl rfl rfl ?_
          refine mp_Zge X 71 61 d_R_look_58 (by decide) rfl (by omega) (fun q2 => ?_) (fun q2 => ?_)
          · exact hgo
          · exact q2.elim
        · exact q1.elim
  have hfirst : ∀ (n k : Nat) (h1 : mp_H), k + n = S.1 → mp_fr rm_Q h h1 → (∀ i, i < k → h1.2.1 39 i = .int (nI 0)) → mp_W G E h1 0 0 (mp_Q G E 0 0 (fun v h' => v = none ∧ mp_fr rm_Q h h' ∧ rm_V h' S j) (fun _ _ => False)) 2 [.val (.ref (G.1 + 26)), .val (.int (nI j)), .val (.int (nI k)), .unset] [] := by
    intro n
    induction n with
    | zero =>
      intro k h1 hkn hf1 hz
      have hK1 : rm_K G h1 := hK.fr rm_Q (by intro i a b c d; unfold rm_Q; omega) hf1
      have hS1 : rm_S h1 S := hS.fr (hf1.mono fun o i => rm_QP)
      have s1 := hS1.1
      refine mp_iload_n X 3 d_R_look_2 rfl rfl rfl ?_
      refine mp_aload_n X 4 d_R_look_3 rfl rfl rfl ?_
      refine mp_getf (v := .int (nI (S.1))) X 7 lk_R_55_R d_R_look_4 rfl (hK1.sz (by decide)) hK1.ob s1 ?_
      refine mp_Nge X 30 10 d_R_look_7 (by decide) rfl (by omega) (by omega) (fun q1 => ?_) (fun q1 => ?_)
      · refine mp_aload_n X 31 d_R_look_30 rfl rfl rfl ?_
        refine mp_iconst X 32 (v := nI 0) d_R_look_31 rfl (by decide) ?_
        refine mp_putf X 35 ls_R_58_R d_R_look_32 rfl (Or.inl rfl) (hK1.sz (by decide)) hK1.ob rfl rfl ?_
        obtain ⟨h2, eh2⟩ : ∃ z, z = mp_set h1 26 11 (.int (nI 0)) := ⟨_, rfl⟩
        rw [← eh2]
        have rh2 : ∀ a b, h2.2.1 a b = if a = 26 ∧ b = 11 then .int (nI 0) else h1.2.1 a b := by intro a b; rw [eh2]; rfl
        have hK2 : rm_K G h2 := by rw [eh2]; exact hK1.st (Or.inr (Or.inr (Or.inr (Or.inl rfl))))
        have hf2 : mp_fr rm_Q h h2 := by rw [eh2]; exact hf1.set (by unfold rm_Q; omega)
        refine mp_aload_n X 36 d_R_look_35 rfl rfl rfl ?_
        refine mp_iconst X 37 (v := nI 0) d_R_look_36 rfl (by decide) ?_
        refine mp_putf X 40 ls_R_61_R d_R_look_37 rfl (Or.inl rfl) (hK2.sz (by decide)) hK2.ob rfl rfl ?_
        obtain ⟨h3, eh3⟩ : ∃ z, z = mp_set h2 26 14 (.int (nI 0)) := ⟨_, rfl⟩
        rw [← eh3]
        have rh3 : ∀ a b, h3.2.1 a b = if a = 26 ∧ b = 14 then .int (nI 0) else h2.2.1 a b := by intro a b; rw [eh3]; rfl
        have hK3 : rm_K G h3 := by rw [eh3]; exact hK2.st (Or.inr (Or.inr (Or.inr (Or.inr rfl))))
        have hf3 : mp_fr rm_Q h h3 := by rw [eh3]; exact hf2.set (by unfold rm_Q; omega)
        have hS3 : rm_S h3 S := hS.fr (hf3.mono fun o i => rm_QP)
        have hJ3 : rm_J h3 S j 0 := by
          refine ⟨Nat.zero_le _, by rw [rh3, if_neg (by omega), rh2, if_pos ⟨rfl, rfl⟩], by rw [rh3, if_pos ⟨rfl, rfl⟩]; rfl, fun k hk => ?_, fun i x hi => by omega, fun i x hx => by simp [rm_Tc] at hx⟩
          rw [rh3, if_neg (by omega), rh2, if_neg (by omega), hz k (by omega)]
          simp [rm_b]
        refine mp_iconst X 41 (v := -1) d_R_look_40 rfl (by decide) ?_
        refine mp_istore_n X 42 (L' := [.val (.ref (G.1 + 26)), .val (.int (nI j)), .val (.int (-1)), .unset]) d_R_look_41 rfl rfl rfl rfl rfl ?_
        refine mp_aload_n X 43 d_R_look_42 rfl rfl rfl ?_
        refine mp_iload_n X 44 d_R_look_43 rfl rfl rfl ?_
        refine mp_iload_n X 45 d_R_look_44 rfl rfl rfl ?_
        refine mp_callE X mp_Ts_ok 48 (rest := []) (k_R_nextBehind (pa := none) (ps := fun k => decide (k ∈ (rm_F S j).take 0)) _ hK3 hS3 hok hj (fun p hp => by cases hp) hJ3.2.2.2.1) Y_R_nextBehind in_R (mp_IV X (q := (nR_R, nT_R, 17)) d_R_look_45 Y_R_nextBehind ml_R_64 im_R_nextBehind se_R_nextBehind (by decide) rfl (by decide) (by show _ = some 2; decide) (hK3.sz (by decide)) hK3.ob) rfl (by decide) (by decide) (by decide) (by decide) rfl (by decide) rfl ?_
        refine mp_istore_n X 49 (L' := [.val (.ref (G.1 + 26)), .val (.int (nI j)), .val (.int (-1)), .val (.int (rm_i (pq_best (pq_id S.2.1) (rm_ch S j (none) (fun k => decide (k ∈ (rm_F S j).take 0))) S.1)))]) d_R_look_48 rfl rfl rfl rfl rfl ?_
        refine hmain _ h3 0 none _ (Nat.le_refl _) hf3 hJ3 ⟨fun a ha => (by cases ha), fun f hf => ?_⟩ rfl
        refine ⟨[], ?_⟩
        have hfF : f ∈ rm_F S j := List.mem_of_getElem? hf
        obtain ⟨hfM, -, -, hfp⟩ := rm_row_lt hw hkj hfF
        exact rm_first hw hkj hf
      · omega
    | succ n ih =>
      intro k h1 hkn hf1 hz
      have hK1 : rm_K G h1 := hK.fr rm_Q (by intro i a b c d; unfold rm_Q; omega) hf1
      have hS1 : rm_S h1 S := hS.fr (hf1.mono fun o i => rm_QP)
      have s1 := hS1.1
      refine mp_iload_n X 3 d_R_look_2 rfl rfl rfl ?_
      refine mp_aload_n X 4 d_R_look_3 rfl rfl rfl ?_
      refine mp_getf (v := .int (nI (S.1))) X 7 lk_R_55_R d_R_look_4 rfl (hK1.sz (by decide)) hK1.ob s1 ?_
      refine mp_Nge X 30 10 d_R_look_7 (by decide) rfl (by omega) (by omega) (fun q1 => ?_) (fun q1 => ?_)
      · omega
      · refine mp_aload_n X 11 d_R_look_10 rfl rfl rfl ?_
        refine mp_getf (v := .ref (G.1 + 39)) X 14 lk_R_48_R d_R_look_11 rfl (hK1.sz (by decide)) hK1.ob hK1.r_passed ?_
        refine mp_iload_n X 15 d_R_look_14 rfl rfl rfl ?_
        refine mp_iconst X 16 (v := nI 0) d_R_look_15 rfl (by decide) ?_
        refine mp_zast X 17 (k) d_R_look_16 rfl (hK1.sz (by decide)) hK1.k_passed rfl (by omega) (by decide) rfl ?_
        obtain ⟨h2, eh2⟩ : ∃ z, z = mp_set h1 39 k (.int (nI 0)) := ⟨_, rfl⟩
        rw [← eh2]
        have rh2 : ∀ a b, h2.2.1 a b = if a = 39 ∧ b = k then .int (nI 0) else h1.2.1 a b := by intro a b; rw [eh2]; rfl
        have hK2 : rm_K G h2 := by rw [eh2]; exact hK1.st (Or.inl (by decide))
        have hf2 : mp_fr rm_Q h h2 := by rw [eh2]; exact hf1.set (by unfold rm_Q; omega)
        refine mp_aload_n X 18 d_R_look_17 rfl rfl rfl ?_
        refine mp_getf (v := .ref (G.1 + 37)) X 21 lk_R_42_R d_R_look_18 rfl (hK2.sz (by decide)) hK2.ob hK2.r_place ?_
        refine mp_iload_n X 22 d_R_look_21 rfl rfl rfl ?_
        refine mp_iconst X 23 (v := -1) d_R_look_22 rfl (by decide) ?_
        refine mp_iast X 24 (k) d_R_look_23 rfl (hK2.sz (by decide)) hK2.k_place rfl (by omega) (by decide) ?_
        obtain ⟨h3, eh3⟩ : ∃ z, z = mp_set h2 37 k (.int (-1)) := ⟨_, rfl⟩
        rw [← eh3]
        have rh3 : ∀ a b, h3.2.1 a b = if a = 37 ∧ b = k then .int (-1) else h2.2.1 a b := by intro a b; rw [eh3]; rfl
        have hK3 : rm_K G h3 := by rw [eh3]; exact hK2.st (Or.inl (by decide))
        have hf3 : mp_fr rm_Q h h3 := by rw [eh3]; exact hf2.set (by unfold rm_Q; omega)
        refine mp_iinc X 27 (L' := [.val (.ref (G.1 + 26)), .val (.int (nI j)), .val (.int (nI (k + 1))), .unset]) (v := nI (k + 1)) d_R_look_24 rfl rfl (nI_1 _) rfl ?_
        refine mp_goto X 2 d_R_look_27 (by decide) ?_
        refine ih (k + 1) h3 (by omega) hf3 (fun i hi => ?_)
        rw [rh3, if_neg (by omega), rh2]
        by_cases e : i = k
        · rw [if_pos ⟨rfl, e⟩]
        · rw [if_neg (by omega)]; exact hz i (by omega)
  refine mp_eq rfl (L2 := [.val (.ref (G.1 + 26)), .val (.int (nI j)), .unset, .unset]) rfl rfl ?_
  refine mp_iconst X 1 (v := nI 0) d_R_look_0 rfl (by decide) ?_
  refine mp_istore_n X 2 (L' := [.val (.ref (G.1 + 26)), .val (.int (nI j)), .val (.int (nI 0)), .unset]) d_R_look_1 rfl rfl rfl rfl rfl ?_
  exact hfirst S.1 0 h (by omega) mp_fr.rf (fun i hi => by omega)
