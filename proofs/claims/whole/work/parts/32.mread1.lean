/-! The reference's reading methods (rows laid by program). -/
set_option maxRecDepth 100000 in
set_option maxHeartbeats 4000000 in
theorem k_R_thrown (l : Launch) {G : mp_G} {h : mp_H} {x : Int32} (hK : rm_K G h) (hx : h.2.1 26 0 = .int x) : mp_M G mp_Ts l y_R_thrown 0 0 0 [.ref (G.1 + 26)] h (fun v h' => h' = h ∧ v = some (.int x)) (fun _ _ => False) := by
  refine mp_enter (by decide) Y_R_thrown fun E hl X => ?_
  refine mp_aload_n X 1 d_R_thrown_0 rfl rfl rfl ?_
  refine mp_getf X 4 lk_R_51_R d_R_thrown_1 rfl (hK.sz (by decide)) hK.ob hx ?_
  exact mp_iret X d_R_thrown_4 rfl rfl (by decide) (by decide) ⟨rfl, rfl⟩
set_option maxRecDepth 100000 in
set_option maxHeartbeats 4000000 in
theorem k_R_isPage (l : Launch) {G : mp_G} {h : mp_H} (x : Int32) : mp_M G mp_Ts l y_R_isPage 0 0 0 [.int x] h (fun v h' => h' = h ∧ ((∃ j, j < 3 ∧ x = nI j ∧ v = some (.int (nI 1))) ∨ ((∀ j, j < 3 → x ≠ nI j) ∧ v = some (.int (nI 0))))) (fun _ _ => False) := by
  refine mp_enter (by decide) Y_R_isPage fun E hl X => ?_
  refine mp_iload_n X 1 d_R_isPage_0 rfl rfl rfl ?_
  refine mp_if_lt X 13 4 d_R_isPage_1 (by decide) rfl (fun q1 => ?_) (fun q1 => ?_)
  · refine mp_iconst X 14 (v := nI 0) d_R_isPage_13 rfl (by decide) ?_
    exact mp_iret X d_R_isPage_14 rfl rfl (by decide) (by decide) ⟨rfl, Or.inr ⟨fun j hj e => nI_pos (n := j) (by omega) (by rw [← e]; exact q1), rfl⟩⟩
  · refine mp_iload_n X 5 d_R_isPage_4 rfl rfl rfl ?_
    refine mp_iconst X 6 (v := nI 3) d_R_isPage_5 rfl (by decide) ?_
    refine mp_icmp_ge X 13 9 d_R_isPage_6 (by decide) rfl (fun q2 => ?_) (fun q2 => ?_)
    · refine mp_iconst X 14 (v := nI 0) d_R_isPage_13 rfl (by decide) ?_
      exact mp_iret X d_R_isPage_14 rfl rfl (by decide) (by decide) ⟨rfl, Or.inr ⟨fun j hj e => absurd ((nI_leI (by decide) (by omega)).mp (show nI 3 ≤ nI j by rw [← e]; exact q2)) (by omega), rfl⟩⟩
    · refine mp_iconst X 10 (v := nI 1) d_R_isPage_9 rfl (by decide) ?_
      refine mp_goto X 14 d_R_isPage_10 (by decide) ?_
      obtain ⟨j, hj, hxj⟩ := nI_of q1
      subst hxj
      have hj3 : j < 3 := Nat.not_le.mp fun e => q2 ((nI_leI (by decide) hj).mpr e)
      exact mp_iret X d_R_isPage_14 rfl rfl (by decide) (by decide) ⟨rfl, Or.inl ⟨j, hj3, rfl, rfl⟩⟩
def rm_gy (O : pq_O) (kn : Nat → Nat) (c lt : Nat) : Nat → Bool
  | 0 => false
  | n + 1 => rm_gy O kn c lt n || (pq_kw kn c n && (pq_so O n == 1 && pq_fi O n == some lt))
theorem rm_gy_iff (O : pq_O) (kn : Nat → Nat) (c lt : Nat) : ∀ n, rm_gy O kn c lt n = true ↔ ∃ k, k < n ∧ pq_kw kn c k = true ∧ pq_so O k = 1 ∧ pq_fi O k = some lt
  | 0 => ⟨fun h => (by cases h), fun ⟨k, hk, _⟩ => by omega⟩
  | n + 1 => by
    unfold rm_gy
    rw [Bool.or_eq_true, rm_gy_iff O kn c lt n, Bool.and_eq_true, Bool.and_eq_true, beq_iff_eq, beq_iff_eq]
    constructor
    · rintro (⟨k, hk, h⟩ | h)
      · exact ⟨k, by omega, h⟩
      · exact ⟨n, by omega, h⟩
    · rintro ⟨k, hk, h⟩
      by_cases e : k = n
      · right; rw [← e]; exact h
      · left; exact ⟨k, by omega, h⟩
theorem rm_gy_eq {M : Nat} {O : pq_O} {kn : Nat → Nat} {c lt : Nat} (hk : ∀ i, i < c → kn i < M) : rm_gy O kn c lt M = pq_gn O kn c lt := by
  rw [Bool.eq_iff_iff, rm_gy_iff, pq_gn_iff]
  constructor
  · rintro ⟨k, h1, h2, h3, h4⟩
    obtain ⟨i, hi, rfl⟩ := (pq_kw_iff kn k c).mp h2
    exact ⟨i, hi, h3, h4⟩
  · rintro ⟨i, hi, h3, h4⟩
    exact ⟨kn i, hk i hi, (pq_kw_iff kn _ c).mpr ⟨i, hi, rfl⟩, h3, h4⟩
set_option maxRecDepth 100000 in
set_option maxHeartbeats 4000000 in
theorem k_R_isGone (l : Launch) {G : mp_G} {h : mp_H} {S : pq_S} {j lt : Nat} (hK : rm_K G h) (hS : rm_S h S) (hok : pq_ok S) (hj : j < 3) (hlt : lt < 90) :
    mp_M G mp_Ts l y_R_isGone 0 0 0 [.ref (G.1 + 26), .int (nI j), .int (nI lt)] h (fun v h' => h' = h ∧ v = some (.int (rm_b (pq_gn S.2.1 (S.2.2.1 j) (S.2.2.2 j) lt)))) (fun _ _ => False) := by
  have hM : S.1 ≤ 90 := hok.1
  have hw := hok.2.1
  obtain ⟨s1, s2, s3⟩ := hS
  obtain ⟨-, -, s6⟩ := s3 j hj
  refine mp_enter (by decide) Y_R_isGone fun E hl X => ?_
  have hloop : ∀ (n k : Nat) (b : Bool), k + n = S.1 → b = rm_gy S.2.1 (S.2.2.1 j) (S.2.2.2 j) lt k → mp_W G E h 0 0 (mp_Q G E 0 0 (fun v h' => h' = h ∧ v = some (.int (rm_b (pq_gn S.2.1 (S.2.2.1 j) (S.2.2.2 j) lt)))) (fun _ _ => False)) 5 [.val (.ref (G.1 + 26)), .val (.int (nI j)), .val (.int (nI lt)), .val (.int (rm_b b)), .val (.int (nI k))] [] := by
    intro n
    induction n with
    | zero =>
      intro k b hkn hb
      refine mp_iload X 7 d_R_isGone_5 rfl rfl ?_
      refine mp_aload_n X 8 d_R_isGone_7 rfl rfl rfl ?_
      refine mp_getf X 11 lk_R_55_R d_R_isGone_8 rfl (hK.sz (by decide)) hK.ob s1 ?_
      refine mp_Nge X 67 14 d_R_isGone_11 (by decide) rfl (by omega) (by omega) (fun q1 => ?_) (fun q1 => ?_)
      · refine mp_iload_n X 68 d_R_isGone_67 rfl rfl rfl ?_
        have hk : k = S.1 := by omega
        subst hk
        exact mp_iret X d_R_isGone_68 rfl (by cases b <;> rfl) (by decide) (by decide) ⟨rfl, by rw [hb, rm_gy_eq (hok.2.2.1 j hj).1]⟩
      · omega
    | succ n ih =>
      intro k b hkn hb
      have hkM : k < S.1 := by omega
      obtain ⟨t1, t2, t3, t4, t5, t6⟩ := s2 k hkM
      have hso := (hw.2.2.2.1 k hkM).2.2.2.1
      have hf : ∀ p, pq_fi S.2.1 k = some p → p < 1000 := fun p hp => by have := (hw.1 k hkM p hp).1; omega
      have s6k := s6 k (by omega)
      cases b with
      | true =>
        refine mp_eq rfl (L2 := [.val (.ref (G.1 + 26)), .val (.int (nI j)), .val (.int (nI lt)), .val (.int (nI 1)), .val (.int (nI k))]) rfl rfl ?_
        refine mp_iload X 7 d_R_isGone_5 rfl rfl ?_
        refine mp_aload_n X 8 d_R_isGone_7 rfl rfl rfl ?_
        refine mp_getf X 11 lk_R_55_R d_R_isGone_8 rfl (hK.sz (by decide)) hK.ob s1 ?_
        refine mp_Nge X 67 14 d_R_isGone_11 (by decide) rfl (by omega) (by omega) (fun q1 => ?_) (fun q1 => ?_)
        · omega
        · refine mp_iload_n X 15 d_R_isGone_14 rfl rfl rfl ?_
          refine mp_Zne X 55 18 d_R_isGone_15 (by decide) rfl (by omega) (fun q2 => ?_) (fun q2 => ?_)
          · refine mp_iconst X 56 (v := nI 1) d_R_isGone_55 rfl (by decide) ?_
            refine mp_goto X 60 d_R_isGone_56 (by decide) ?_
            refine mp_istore_n X 61 (L' := [.val (.ref (G.1 + 26)), .val (.int (nI j)), .val (.int (nI lt)), .val (.int (nI 1)), .val (.int (nI k))]) d_R_isGone_60 rfl rfl rfl rfl rfl ?_
            refine mp_iinc X 64 (L' := [.val (.ref (G.1 + 26)), .val (.int (nI j)), .val (.int (nI lt)), .val (.int (nI 1)), .val (.int (nI (k + 1)))]) (v := nI (k + 1)) d_R_isGone_61 rfl rfl (nI_1 _) rfl ?_
            refine mp_goto X 5 d_R_isGone_64 (by decide) ?_
            exact ih (k + 1) true (by omega) (by unfold rm_gy; rw [← hb]; rfl)
          · exact absurd q2 (by decide)
      | false =>
        refine mp_eq rfl (L2 := [.val (.ref (G.1 + 26)), .val (.int (nI j)), .val (.int (nI lt)), .val (.int (nI 0)), .val (.int (nI k))]) rfl rfl ?_
        refine mp_iload X 7 d_R_isGone_5 rfl rfl ?_
        refine mp_aload_n X 8 d_R_isGone_7 rfl rfl rfl ?_
        refine mp_getf X 11 lk_R_55_R d_R_isGone_8 rfl (hK.sz (by decide)) hK.ob s1 ?_
        refine mp_Nge X 67 14 d_R_isGone_11 (by decide) rfl (by omega) (by omega) (fun q1 => ?_) (fun q1 => ?_)
        · omega
        · refine mp_iload_n X 15 d_R_isGone_14 rfl rfl rfl ?_
          refine mp_Zne X 55 18 d_R_isGone_15 (by decide) rfl (by omega) (fun q2 => ?_) (fun q2 => ?_)
          · exact absurd rfl q2
          · obtain ⟨kb, hkb1, hkb⟩ : ∃ kb : Nat, (kb = 1 ∧ pq_kw (S.2.2.1 j) (S.2.2.2 j) k = true ∨ kb = 0 ∧ pq_kw (S.2.2.1 j) (S.2.2.2 j) k = false) ∧ h.2.1 34 (90 * j + k) = .int (nI kb) := by
              cases hkw : pq_kw (S.2.2.1 j) (S.2.2.2 j) k with
              | true => rw [hkw] at s6k; exact ⟨1, Or.inl ⟨rfl, rfl⟩, s6k⟩
              | false => rw [hkw] at s6k; exact ⟨0, Or.inr ⟨rfl, rfl⟩, s6k⟩
            refine mp_aload_n X 19 d_R_isGone_18 rfl rfl rfl ?_
            refine mp_getf X 22 lk_R_32_R d_R_isGone_19 rfl (hK.sz (by decide)) hK.ob hK.r_knows ?_
            refine mp_bipush X 24 (v := nI 90) d_R_isGone_22 rfl (by decide) ?_
            refine mp_iload_n X 25 d_R_isGone_24 rfl rfl rfl ?_
            refine mp_imul X 26 d_R_isGone_25 rfl ?_
            rw [pk_mul]
            refine mp_iload X 28 d_R_isGone_26 rfl rfl ?_
            refine mp_iadd X 29 d_R_isGone_28 rfl ?_
            rw [nI_add]
            refine mp_zald X 30 (90 * j + k) d_R_isGone_29 rfl (hK.sz (by decide)) hK.k_knows rfl (by omega) (by decide) hkb ?_
            refine mp_Zeq X 59 33 d_R_isGone_30 (by decide) rfl (by omega) (fun q3 => ?_) (fun q3 => ?_)
            · have hkw : pq_kw (S.2.2.1 j) (S.2.2.2 j) k = false := by rcases hkb1 with ⟨h1, h2⟩ | ⟨h1, h2⟩; omega; exact h2
              refine mp_iconst X 60 (v := nI 0) d_R_isGone_59 rfl (by decide) ?_
              refine mp_istore_n X 61 (L' := [.val (.ref (G.1 + 26)), .val (.int (nI j)), .val (.int (nI lt)), .val (.int (nI 0)), .val (.int (nI k))]) d_R_isGone_60 rfl rfl rfl rfl rfl ?_
              refine mp_iinc X 64 (L' := [.val (.ref (G.1 + 26)), .val (.int (nI j)), .val (.int (nI lt)), .val (.int (nI 0)), .val (.int (nI (k + 1)))]) (v := nI (k + 1)) d_R_isGone_61 rfl rfl (nI_1 _) rfl ?_
              refine mp_goto X 5 d_R_isGone_64 (by decide) ?_
              exact ih (k + 1) false (by omega) (by unfold rm_gy; rw [← hb, hkw]; rfl)
            · have hkw : pq_kw (S.2.2.1 j) (S.2.2.2 j) k = true := by rcases hkb1 with ⟨h1, h2⟩ | ⟨h1, h2⟩; exact h2; omega
              refine mp_aload_n X 34 d_R_isGone_33 rfl rfl rfl ?_
              refine mp_getf X 37 lk_R_7_R d_R_isGone_34 rfl (hK.sz (by decide)) hK.ob hK.r_sort ?_
              refine mp_iload X 39 d_R_isGone_37 rfl rfl ?_
              refine mp_iald X 40 (k) d_R_isGone_39 rfl (hK.sz (by decide)) hK.k_sort rfl (by omega) (by decide) t1 ?_
              refine mp_iconst X 41 (v := nI 1) d_R_isGone_40 rfl (by decide) ?_
              refine mp_Nne X 59 44 d_R_isGone_41 (by decide) rfl (by omega) (by omega) (fun q4 => ?_) (fun q4 => ?_)
              · refine mp_iconst X 60 (v := nI 0) d_R_isGone_59 rfl (by decide) ?_
                refine mp_istore_n X 61 (L' := [.val (.ref (G.1 + 26)), .val (.int (nI j)), .val (.int (nI lt)), .val (.int (nI 0)), .val (.int (nI k))]) d_R_isGone_60 rfl rfl rfl rfl rfl ?_
                refine mp_iinc X 64 (L' := [.val (.ref (G.1 + 26)), .val (.int (nI j)), .val (.int (nI lt)), .val (.int (nI 0)), .val (.int (nI (k + 1)))]) (v := nI (k + 1)) d_R_isGone_61 rfl rfl (nI_1 _) rfl ?_
                refine mp_goto X 5 d_R_isGone_64 (by decide) ?_
                exact ih (k + 1) false (by omega) (by unfold rm_gy; rw [← hb]; simp [q4])
              · refine mp_aload_n X 45 d_R_isGone_44 rfl rfl rfl ?_
                refine mp_getf X 48 lk_R_16_R d_R_isGone_45 rfl (hK.sz (by decide)) hK.ob hK.r_first ?_
                refine mp_iload X 50 d_R_isGone_48 rfl rfl ?_
                refine mp_iald X 51 (k) d_R_isGone_50 rfl (hK.sz (by decide)) hK.k_first rfl (by omega) (by decide) t3 ?_
                refine mp_iload_n X 52 d_R_isGone_51 rfl rfl rfl ?_
                refine mp_icmp_ne X 59 55 d_R_isGone_52 (by decide) rfl (fun q5 => ?_) (fun q5 => ?_)
                · refine mp_iconst X 60 (v := nI 0) d_R_isGone_59 rfl (by decide) ?_
                  refine mp_istore_n X 61 (L' := [.val (.ref (G.1 + 26)), .val (.int (nI j)), .val (.int (nI lt)), .val (.int (nI 0)), .val (.int (nI k))]) d_R_isGone_60 rfl rfl rfl rfl rfl ?_
                  refine mp_iinc X 64 (L' := [.val (.ref (G.1 + 26)), .val (.int (nI j)), .val (.int (nI lt)), .val (.int (nI 0)), .val (.int (nI (k + 1)))]) (v := nI (k + 1)) d_R_isGone_61 rfl rfl (nI_1 _) rfl ?_
                  refine mp_goto X 5 d_R_isGone_64 (by decide) ?_
                  have e9 : ¬ pq_fi S.2.1 k = some lt := fun e => q5 (by rw [e]; rfl)
                  exact ih (k + 1) false (by omega) (by unfold rm_gy; rw [← hb]; simp [e9])
                · refine mp_iconst X 56 (v := nI 1) d_R_isGone_55 rfl (by decide) ?_
                  refine mp_goto X 60 d_R_isGone_56 (by decide) ?_
                  refine mp_istore_n X 61 (L' := [.val (.ref (G.1 + 26)), .val (.int (nI j)), .val (.int (nI lt)), .val (.int (nI 1)), .val (.int (nI k))]) d_R_isGone_60 rfl rfl rfl rfl rfl ?_
                  refine mp_iinc X 64 (L' := [.val (.ref (G.1 + 26)), .val (.int (nI j)), .val (.int (nI lt)), .val (.int (nI 1)), .val (.int (nI (k + 1)))]) (v := nI (k + 1)) d_R_isGone_61 rfl rfl (nI_1 _) rfl ?_
                  refine mp_goto X 5 d_R_isGone_64 (by decide) ?_
                  have e9 : pq_fi S.2.1 k = some lt := (rm_i_eq hf (fun p hp => by cases hp; omega)).mp q5
                  exact ih (k + 1) true (by omega) (by unfold rm_gy; rw [← hb, hkw, q4, e9]; simp)
  refine mp_eq rfl (L2 := [.val (.ref (G.1 + 26)), .val (.int (nI j)), .val (.int (nI lt)), .unset, .unset]) rfl rfl ?_
  refine mp_iconst X 1 (v := nI 0) d_R_isGone_0 rfl (by decide) ?_
  refine mp_istore_n X 2 (L' := [.val (.ref (G.1 + 26)), .val (.int (nI j)), .val (.int (nI lt)), .val (.int (nI 0)), .unset]) d_R_isGone_1 rfl rfl rfl rfl rfl ?_
  refine mp_iconst X 3 (v := nI 0) d_R_isGone_2 rfl (by decide) ?_
  refine mp_istore X 5 (L' := [.val (.ref (G.1 + 26)), .val (.int (nI j)), .val (.int (nI lt)), .val (.int (nI 0)), .val (.int (nI 0))]) d_R_isGone_3 rfl rfl rfl rfl ?_
  exact hloop S.1 0 false (by omega) rfl
