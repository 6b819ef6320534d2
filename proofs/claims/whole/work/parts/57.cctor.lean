/-! Constructors (rows laid by program). -/
def cp_o3 (h : mp_H) (a n t p : Nat) : mp_H := mp_set (mp_set (mp_set h a 0 (.int (nI n))) a 1 (.int (nI t))) a 2 (.int (nI (4 * t + p)))
theorem cp_k8 {k : Nat} (hk : k < 8) : nI k - nI k / nI 2 * nI 2 = nI (k % 2) ∧ (nI 1) <<< ((nI (k / 2)) &&& 31) = nI (2 ^ (k / 2)) ∧ nI k / nI 2 = nI (k / 2) := by
  rcases (show k = 0 ∨ k = 1 ∨ k = 2 ∨ k = 3 ∨ k = 4 ∨ k = 5 ∨ k = 6 ∨ k = 7 by omega) with rfl | rfl | rfl | rfl | rfl | rfl | rfl | rfl <;> decide
set_option maxRecDepth 100000 in
set_option maxHeartbeats 4000000 in
theorem k_O_init (l : Launch) {G : mp_G} {h : mp_H} {a n t p : Nat} (ho : a < h.2.2) (hkd : h.1 a = (2, 5) ∨ h.1 a = (3, 4) ∨ h.1 a = (4, 8)) :
    mp_M G mp_Ts l y_O_init 1 0 0 [.ref (G.1 + a), .int (nI n), .int (nI t), .int (nI p)] h (fun v h' => v = none ∧ h' = cp_o3 h a n t p) (fun _ _ => False) := by
  refine mp_enter (by decide) Y_O_init fun E hl X => ?_
  refine mp_eq rfl (L2 := [.val (.ref (G.1 + a)), .val (.int (nI n)), .val (.int (nI t)), .val (.int (nI p))]) rfl rfl ?_
  refine mp_aload_n X 1 d_O_init_0 rfl rfl rfl ?_
  refine mp_objInit X 4 ml_O_1 wd_37 wd_oi d_O_init_1 rfl rfl (by decide) (by decide) ?_
  refine mp_aload_n X 5 d_O_init_4 rfl rfl rfl ?_
  refine mp_iload_n X 6 d_O_init_5 rfl rfl rfl ?_
  refine mp_putop X 9 ls_O_7_W ls_O_7_E ls_O_7_K d_O_init_6 rfl (Or.inr rfl) ho hkd rfl rfl ?_
  refine mp_aload_n X 10 d_O_init_9 rfl rfl rfl ?_
  refine mp_iload_n X 11 d_O_init_10 rfl rfl rfl ?_
  refine mp_putop X 14 ls_O_13_W ls_O_13_E ls_O_13_K d_O_init_11 rfl (Or.inr rfl) ho hkd rfl rfl ?_
  refine mp_aload_n X 15 d_O_init_14 rfl rfl rfl ?_
  refine mp_iconst X 16 (v := nI 4) d_O_init_15 rfl (by decide) ?_
  refine mp_iload_n X 17 d_O_init_16 rfl rfl rfl ?_
  refine mp_imul X 18 d_O_init_17 rfl ?_
  rw [pk_mul]
  refine mp_iload_n X 19 d_O_init_18 rfl rfl rfl ?_
  refine mp_iadd X 20 d_O_init_19 rfl ?_
  rw [nI_add]
  refine mp_putop X 23 ls_O_16_W ls_O_16_E ls_O_16_K d_O_init_20 rfl (Or.inr rfl) ho hkd rfl rfl ?_
  exact mp_vret X d_O_init_23 rfl (by decide) (by decide) ⟨rfl, rfl⟩
set_option maxRecDepth 100000 in
set_option maxHeartbeats 4000000 in
theorem k_W_initN (l : Launch) {G : mp_G} {h : mp_H} {a n t p : Nat} {c : Int32} (ho : a < h.2.2) (hk : h.1 a = (2, 5)) (hc : narrow .char (.int c) = .int c) :
    mp_M G mp_Ts l y_W_init 2 0 0 [.ref (G.1 + a), .int (nI n), .int (nI t), .int (nI p), .int c, .null] h (fun v h' => v = none ∧ h' = mp_set (mp_set (cp_o3 h a n t p) a 3 (.int c)) a 4 (.null)) (fun _ _ => False) := by
  refine mp_enter (by decide) Y_W_init fun E hl X => ?_
  refine mp_eq rfl (L2 := [.val (.ref (G.1 + a)), .val (.int (nI n)), .val (.int (nI t)), .val (.int (nI p)), .val (.int c), .val (.null)]) rfl rfl ?_
  refine mp_aload_n X 1 d_W_init_0 rfl rfl rfl ?_
  refine mp_iload_n X 2 d_W_init_1 rfl rfl rfl ?_
  refine mp_iload_n X 3 d_W_init_2 rfl rfl rfl ?_
  refine mp_iload_n X 4 d_W_init_3 rfl rfl rfl ?_
  refine mp_call X mp_Ts_ok 7 (rest := []) (k_O_init _ ho (Or.inl hk)) Y_O_init in_O (mp_II X d_W_init_4 rfl wd_235 ml_W_1 im_O_init (by decide) (by show _ = some 3; decide)) rfl (by decide) (by decide) (by decide) (by decide) rfl (by decide) (fun v h3 hp9 => ?_) (fun x9 h3 q9 hp9 => hp9.elim)
  obtain ⟨rfl, rfl⟩ := hp9
  refine mp_eq rfl rfl (st2 := []) rfl ?_
  refine mp_aload_n X 8 d_W_init_7 rfl rfl rfl ?_
  refine mp_iload X 10 d_W_init_8 rfl rfl ?_
  refine mp_putf X 13 ls_W_7_W d_W_init_10 rfl (Or.inr rfl) ho hk hc (by have h9 := fits_narrow_char c; rw [hc] at h9; exact h9) ?_
  refine mp_aload_n X 14 d_W_init_13 rfl rfl rfl ?_
  refine mp_aloadN X 16 d_W_init_14 rfl rfl ?_
  refine mp_putf X 19 ls_W_13_W d_W_init_16 rfl (Or.inr rfl) ho hk rfl rfl ?_
  exact mp_vret X d_W_init_19 rfl (by decide) (by decide) ⟨rfl, rfl⟩
set_option maxRecDepth 100000 in
set_option maxHeartbeats 4000000 in
theorem k_W_initR (l : Launch) {G : mp_G} {h : mp_H} {a n t p b : Nat} {c : Int32} (ho : a < h.2.2) (hk : h.1 a = (2, 5)) (hc : narrow .char (.int c) = .int c) :
    mp_M G mp_Ts l y_W_init 2 0 0 [.ref (G.1 + a), .int (nI n), .int (nI t), .int (nI p), .int c, .ref (G.1 + b)] h (fun v h' => v = none ∧ h' = mp_set (mp_set (cp_o3 h a n t p) a 3 (.int c)) a 4 (.ref (G.1 + b))) (fun _ _ => False) := by
  refine mp_enter (by decide) Y_W_init fun E hl X => ?_
  refine mp_eq rfl (L2 := [.val (.ref (G.1 + a)), .val (.int (nI n)), .val (.int (nI t)), .val (.int (nI p)), .val (.int c), .val (.ref (G.1 + b))]) rfl rfl ?_
  refine mp_aload_n X 1 d_W_init_0 rfl rfl rfl ?_
  refine mp_iload_n X 2 d_W_init_1 rfl rfl rfl ?_
  refine mp_iload_n X 3 d_W_init_2 rfl rfl rfl ?_
  refine mp_iload_n X 4 d_W_init_3 rfl rfl rfl ?_
  refine mp_call X mp_Ts_ok 7 (rest := []) (k_O_init _ ho (Or.inl hk)) Y_O_init in_O (mp_II X d_W_init_4 rfl wd_235 ml_W_1 im_O_init (by decide) (by show _ = some 3; decide)) rfl (by decide) (by decide) (by decide) (by decide) rfl (by decide) (fun v h3 hp9 => ?_) (fun x9 h3 q9 hp9 => hp9.elim)
  obtain ⟨rfl, rfl⟩ := hp9
  refine mp_eq rfl rfl (st2 := []) rfl ?_
  refine mp_aload_n X 8 d_W_init_7 rfl rfl rfl ?_
  refine mp_iload X 10 d_W_init_8 rfl rfl ?_
  refine mp_putf X 13 ls_W_7_W d_W_init_10 rfl (Or.inr rfl) ho hk hc (by have h9 := fits_narrow_char c; rw [hc] at h9; exact h9) ?_
  refine mp_aload_n X 14 d_W_init_13 rfl rfl rfl ?_
  refine mp_aload X 16 d_W_init_14 rfl rfl ?_
  refine mp_putf X 19 ls_W_13_W d_W_init_16 rfl (Or.inr rfl) ho hk rfl rfl ?_
  exact mp_vret X d_W_init_19 rfl (by decide) (by decide) ⟨rfl, rfl⟩
set_option maxRecDepth 100000 in
set_option maxHeartbeats 4000000 in
theorem k_E_init (l : Launch) {G : mp_G} {h : mp_H} {a n t p b : Nat} (ho : a < h.2.2) (hk : h.1 a = (3, 4)) :
    mp_M G mp_Ts l y_E_init 2 0 0 [.ref (G.1 + a), .int (nI n), .int (nI t), .int (nI p), .ref (G.1 + b)] h (fun v h' => v = none ∧ h' = mp_set (cp_o3 h a n t p) a 3 (.ref (G.1 + b))) (fun _ _ => False) := by
  refine mp_enter (by decide) Y_E_init fun E hl X => ?_
  refine mp_eq rfl (L2 := [.val (.ref (G.1 + a)), .val (.int (nI n)), .val (.int (nI t)), .val (.int (nI p)), .val (.ref (G.1 + b))]) rfl rfl ?_
  refine mp_aload_n X 1 d_E_init_0 rfl rfl rfl ?_
  refine mp_iload_n X 2 d_E_init_1 rfl rfl rfl ?_
  refine mp_iload_n X 3 d_E_init_2 rfl rfl rfl ?_
  refine mp_iload_n X 4 d_E_init_3 rfl rfl rfl ?_
  refine mp_call X mp_Ts_ok 7 (rest := []) (k_O_init _ ho (Or.inr (Or.inl hk))) Y_O_init in_O (mp_II X d_E_init_4 rfl wd_235 ml_E_1 im_O_init (by decide) (by show _ = some 3; decide)) rfl (by decide) (by decide) (by decide) (by decide) rfl (by decide) (fun v h3 hp9 => ?_) (fun x9 h3 q9 hp9 => hp9.elim)
  obtain ⟨rfl, rfl⟩ := hp9
  refine mp_eq rfl rfl (st2 := []) rfl ?_
  refine mp_aload_n X 8 d_E_init_7 rfl rfl rfl ?_
  refine mp_aload X 10 d_E_init_8 rfl rfl ?_
  refine mp_putf X 13 ls_E_7_E d_E_init_10 rfl (Or.inr rfl) ho hk rfl rfl ?_
  exact mp_vret X d_E_init_13 rfl (by decide) (by decide) ⟨rfl, rfl⟩
set_option maxRecDepth 100000 in
set_option maxHeartbeats 4000000 in
theorem k_K_ends (l : Launch) {G : mp_G} {h : mp_H} {k e : Nat} (hk : k < 8) (he : e = if k < 4 then 1 else 0) :
    mp_M G mp_Ts l y_K_endsBeforeItsEndLetter 0 0 0 [.int (nI k)] h (fun v h' => h' = h ∧ v = some (.int (nI e))) (fun _ _ => False) := by
  subst he
  refine mp_enter (by decide) Y_K_endsBeforeItsEndLetter fun E hl X => ?_
  refine mp_eq rfl (L2 := [.val (.int (nI k))]) rfl rfl ?_
  refine mp_iload_n X 1 d_K_endsBeforeItsEndLetter_0 rfl rfl rfl ?_
  refine mp_iconst X 2 (v := nI 2) d_K_endsBeforeItsEndLetter_1 rfl (by decide) ?_
  refine mp_idiv X 3 d_K_endsBeforeItsEndLetter_2 rfl (by decide) ?_
  have e1 : nI k / nI 2 = nI (k / 2) := (cp_k8 hk).2.2
  rw [e1]
  refine mp_iconst X 4 (v := nI 2) d_K_endsBeforeItsEndLetter_3 rfl (by decide) ?_
  refine mp_Nge X 11 7 d_K_endsBeforeItsEndLetter_4 (by decide) rfl (by omega) (by omega) (fun q2 => ?_) (fun q2 => ?_)
  · refine mp_iconst X 12 (v := nI 0) d_K_endsBeforeItsEndLetter_11 rfl (by decide) ?_
    exact mp_iret X d_K_endsBeforeItsEndLetter_12 rfl rfl (by decide) (by decide) ⟨rfl, by rw [if_neg (by omega)]⟩
  · refine mp_iconst X 8 (v := nI 1) d_K_endsBeforeItsEndLetter_7 rfl (by decide) ?_
    refine mp_goto X 12 d_K_endsBeforeItsEndLetter_8 (by decide) ?_
    exact mp_iret X d_K_endsBeforeItsEndLetter_12 rfl rfl (by decide) (by decide) ⟨rfl, by rw [if_pos (by omega)]⟩
set_option maxRecDepth 100000 in
set_option maxHeartbeats 4000000 in
theorem k_K_initN (l : Launch) {G : mp_G} {h : mp_H} {a n t p k f : Nat} (ho : a < h.2.2) (hk : h.1 a = (4, 8)) (hk8 : k < 8) :
    mp_M G mp_Ts l y_K_init 2 0 0 [.ref (G.1 + a), .int (nI n), .int (nI t), .int (nI p), .int (nI k), .ref (G.1 + f), .null] h (fun v h' => v = none ∧ h' = mp_set (mp_set (mp_set (mp_set (mp_set (cp_o3 h a n t p) a 3 (.int (nI (k % 2)))) a 4 (.int (nI (2 ^ (k / 2))))) a 5 (.int (nI (if k < 4 then 0 else 1)))) a 6 (.ref (G.1 + f))) a 7 (.null)) (fun _ _ => False) := by
  have hm2 := Nat.mod_lt k (show 0 < 2 by decide)
  obtain ⟨en, hen⟩ : ∃ e : Nat, e = if k < 4 then 1 else 0 := ⟨_, rfl⟩
  have hen2 : en < 2 := by rw [hen]; split <;> omega
  refine mp_enter (by decide) Y_K_init fun E hl X => ?_
  refine mp_eq rfl (L2 := [.val (.ref (G.1 + a)), .val (.int (nI n)), .val (.int (nI t)), .val (.int (nI p)), .val (.int (nI k)), .val (.ref (G.1 + f)), .val (.null)]) rfl rfl ?_
  refine mp_aload_n X 1 d_K_init_0 rfl rfl rfl ?_
  refine mp_iload_n X 2 d_K_init_1 rfl rfl rfl ?_
  refine mp_iload_n X 3 d_K_init_2 rfl rfl rfl ?_
  refine mp_iload_n X 4 d_K_init_3 rfl rfl rfl ?_
  refine mp_call X mp_Ts_ok 7 (rest := []) (k_O_init _ ho (Or.inr (Or.inr hk))) Y_O_init in_O (mp_II X d_K_init_4 rfl wd_235 ml_K_1 im_O_init (by decide) (by show _ = some 3; decide)) rfl (by decide) (by decide) (by decide) (by decide) rfl (by decide) (fun v h3 hp9 => ?_) (fun x9 h3 q9 hp9 => hp9.elim)
  obtain ⟨rfl, rfl⟩ := hp9
  refine mp_eq rfl rfl (st2 := []) rfl ?_
  refine mp_aload_n X 8 d_K_init_7 rfl rfl rfl ?_
  refine mp_iload X 10 d_K_init_8 rfl rfl ?_
  refine mp_iconst X 11 (v := nI 2) d_K_init_10 rfl (by decide) ?_
  refine mp_irem X 12 d_K_init_11 rfl (by decide) ?_
  have e1 : nI k - nI k / nI 2 * nI 2 = nI (k % 2) := (cp_k8 hk8).1
  rw [e1]
  refine mp_iconst X 13 (v := nI 1) d_K_init_12 rfl (by decide) ?_
  refine mp_Nne X 20 16 d_K_init_13 (by decide) rfl (by omega) (by omega) (fun q2 => ?_) (fun q2 => ?_)
  · refine mp_iconst X 21 (v := nI 0) d_K_init_20 rfl (by decide) ?_
    refine mp_putf X 24 ls_K_7_K d_K_init_21 rfl (Or.inr rfl) ho hk rfl rfl ?_
    refine mp_aload_n X 25 d_K_init_24 rfl rfl rfl ?_
    refine mp_iconst X 26 (v := nI 1) d_K_init_25 rfl (by decide) ?_
    refine mp_iload X 28 d_K_init_26 rfl rfl ?_
    refine mp_iconst X 29 (v := nI 2) d_K_init_28 rfl (by decide) ?_
    refine mp_idiv X 30 d_K_init_29 rfl (by decide) ?_
    have e3 : nI k / nI 2 = nI (k / 2) := (cp_k8 hk8).2.2
    rw [e3]
    refine mp_ishl X 31 d_K_init_30 rfl ?_
    have e4 : (nI 1) <<< ((nI (k / 2)) &&& 31) = nI (2 ^ (k / 2)) := (cp_k8 hk8).2.1
    rw [e4]
    refine mp_putf X 34 ls_K_13_K d_K_init_31 rfl (Or.inr rfl) ho hk rfl rfl ?_
    refine mp_aload_n X 35 d_K_init_34 rfl rfl rfl ?_
    refine mp_iload X 37 d_K_init_35 rfl rfl ?_
    refine mp_callE X mp_Ts_ok 40 (rest := [.ref (G.1 + a)]) (k_K_ends _ hk8 hen) Y_K_endsBeforeItsEndLetter in_K (mp_IS X d_K_init_37 Y_K_endsBeforeItsEndLetter ml_K_17 st_K_endsBeforeItsEndLetter in_K (by decide) (by show _ = some 1; decide)) rfl (by decide) (by decide) (by decide) (by decide) rfl (Nat.le_of_ble_eq_true rfl) rfl ?_
    refine mp_Zne X 47 43 d_K_init_40 (by decide) rfl (by omega) (fun q5 => ?_) (fun q5 => ?_)
    · refine mp_iconst X 48 (v := nI 0) d_K_init_47 rfl (by decide) ?_
      refine mp_putf X 51 ls_K_21_K d_K_init_48 rfl (Or.inr rfl) ho hk rfl rfl ?_
      refine mp_aload_n X 52 d_K_init_51 rfl rfl rfl ?_
      refine mp_aload X 54 d_K_init_52 rfl rfl ?_
      refine mp_putf X 57 ls_K_24_K d_K_init_54 rfl (Or.inr rfl) ho hk rfl rfl ?_
      refine mp_aload_n X 58 d_K_init_57 rfl rfl rfl ?_
      refine mp_aloadN X 60 d_K_init_58 rfl rfl ?_
      refine mp_putf X 63 ls_K_28_K d_K_init_60 rfl (Or.inr rfl) ho hk rfl rfl ?_
      have e3 : k % 2 = 0 := by omega
      have e5 : (if k < 4 then 0 else 1) = 0 := by (by_cases h4 : k < 4 <;> simp only [h4, if_true, if_false] at hen ⊢ <;> omega)
      exact mp_vret X d_K_init_63 rfl (by decide) (by decide) ⟨rfl, by rw [e3, e5]⟩
    · refine mp_iconst X 44 (v := nI 1) d_K_init_43 rfl (by decide) ?_
      refine mp_goto X 48 d_K_init_44 (by decide) ?_
      refine mp_putf X 51 ls_K_21_K d_K_init_48 rfl (Or.inr rfl) ho hk rfl rfl ?_
      refine mp_aload_n X 52 d_K_init_51 rfl rfl rfl ?_
      refine mp_aload X 54 d_K_init_52 rfl rfl ?_
      refine mp_putf X 57 ls_K_24_K d_K_init_54 rfl (Or.inr rfl) ho hk rfl rfl ?_
      refine mp_aload_n X 58 d_K_init_57 rfl rfl rfl ?_
      refine mp_aloadN X 60 d_K_init_58 rfl rfl ?_
      refine mp_putf X 63 ls_K_28_K d_K_init_60 rfl (Or.inr rfl) ho hk rfl rfl ?_
      have e3 : k % 2 = 0 := by omega
      have e5 : (if k < 4 then 0 else 1) = 1 := by (by_cases h4 : k < 4 <;> simp only [h4, if_true, if_false] at hen ⊢ <;> omega)
      exact mp_vret X d_K_init_63 rfl (by decide) (by decide) ⟨rfl, by rw [e3, e5]⟩
  · refine mp_iconst X 17 (v := nI 1) d_K_init_16 rfl (by decide) ?_
    refine mp_goto X 21 d_K_init_17 (by decide) ?_
    refine mp_putf X 24 ls_K_7_K d_K_init_21 rfl (Or.inr rfl) ho hk rfl rfl ?_
    refine mp_aload_n X 25 d_K_init_24 rfl rfl rfl ?_
    refine mp_iconst X 26 (v := nI 1) d_K_init_25 rfl (by decide) ?_
    refine mp_iload X 28 d_K_init_26 rfl rfl ?_
    refine mp_iconst X 29 (v := nI 2) d_K_init_28 rfl (by decide) ?_
    refine mp_idiv X 30 d_K_init_29 rfl (by decide) ?_
    have e6 : nI k / nI 2 = nI (k / 2) := (cp_k8 hk8).2.2
    rw [e6]
    refine mp_ishl X 31 d_K_init_30 rfl ?_
    have e7 : (nI 1) <<< ((nI (k / 2)) &&& 31) = nI (2 ^ (k / 2)) := (cp_k8 hk8).2.1
    rw [e7]
    refine mp_putf X 34 ls_K_13_K d_K_init_31 rfl (Or.inr rfl) ho hk rfl rfl ?_
    refine mp_aload_n X 35 d_K_init_34 rfl rfl rfl ?_
    refine mp_iload X 37 d_K_init_35 rfl rfl ?_
    refine mp_callE X mp_Ts_ok 40 (rest := [.ref (G.1 + a)]) (k_K_ends _ hk8 hen) Y_K_endsBeforeItsEndLetter in_K (mp_IS X d_K_init_37 Y_K_endsBeforeItsEndLetter ml_K_17 st_K_endsBeforeItsEndLetter in_K (by decide) (by show _ = some 1; decide)) rfl (by decide) (by decide) (by decide) (by decide) rfl (Nat.le_of_ble_eq_true rfl) rfl ?_
    refine mp_Zne X 47 43 d_K_init_40 (by decide) rfl (by omega) (fun q8 => ?_) (fun q8 => ?_)
    · refine mp_iconst X 48 (v := nI 0) d_K_init_47 rfl (by decide) ?_
      refine mp_putf X 51 ls_K_21_K d_K_init_48 rfl (Or.inr rfl) ho hk rfl rfl ?_
      refine mp_aload_n X 52 d_K_init_51 rfl rfl rfl ?_
      refine mp_aload X 54 d_K_init_52 rfl rfl ?_
      refine mp_putf X 57 ls_K_24_K d_K_init_54 rfl (Or.inr rfl) ho hk rfl rfl ?_
      refine mp_aload_n X 58 d_K_init_57 rfl rfl rfl ?_
      refine mp_aloadN X 60 d_K_init_58 rfl rfl ?_
      refine mp_putf X 63 ls_K_28_K d_K_init_60 rfl (Or.inr rfl) ho hk rfl rfl ?_
      have e3 : k % 2 = 1 := by omega
      have e5 : (if k < 4 then 0 else 1) = 0 := by (by_cases h4 : k < 4 <;> simp only [h4, if_true, if_false] at hen ⊢ <;> omega)
      exact mp_vret X d_K_init_63 rfl (by decide) (by decide) ⟨rfl, by rw [e3, e5]⟩
    · refine mp_iconst X 44 (v := nI 1) d_K_init_43 rfl (by decide) ?_
      refine mp_goto X 48 d_K_init_44 (by decide) ?_
      refine mp_putf X 51 ls_K_21_K d_K_init_48 rfl (Or.inr rfl) ho hk rfl rfl ?_
      refine mp_aload_n X 52 d_K_init_51 rfl rfl rfl ?_
      refine mp_aload X 54 d_K_init_52 rfl rfl ?_
      refine mp_putf X 57 ls_K_24_K d_K_init_54 rfl (Or.inr rfl) ho hk rfl rfl ?_
      refine mp_aload_n X 58 d_K_init_57 rfl rfl rfl ?_
      refine mp_aloadN X 60 d_K_init_58 rfl rfl ?_
      refine mp_putf X 63 ls_K_28_K d_K_init_60 rfl (Or.inr rfl) ho hk rfl rfl ?_
      have e3 : k % 2 = 1 := by omega
      have e5 : (if k < 4 then 0 else 1) = 1 := by (by_cases h4 : k < 4 <;> simp only [h4, if_true, if_false] at hen ⊢ <;> omega)
      exact mp_vret X d_K_init_63 rfl (by decide) (by decide) ⟨rfl, by rw [e3, e5]⟩
set_option maxRecDepth 100000 in
set_option maxHeartbeats 4000000 in
theorem k_K_initR (l : Launch) {G : mp_G} {h : mp_H} {a n t p k f b : Nat} (ho : a < h.2.2) (hk : h.1 a = (4, 8)) (hk8 : k < 8) :
    mp_M G mp_Ts l y_K_init 2 0 0 [.ref (G.1 + a), .int (nI n), .int (nI t), .int (nI p), .int (nI k), .ref (G.1 + f), .ref (G.1 + b)] h (fun v h' => v = none ∧ h' = mp_set (mp_set (mp_set (mp_set (mp_set (cp_o3 h a n t p) a 3 (.int (nI (k % 2)))) a 4 (.int (nI (2 ^ (k / 2))))) a 5 (.int (nI (if k < 4 then 0 else 1)))) a 6 (.ref (G.1 + f))) a 7 (.ref (G.1 + b))) (fun _ _ => False) := by
  have hm2 := Nat.mod_lt k (show 0 < 2 by decide)
  obtain ⟨en, hen⟩ : ∃ e : Nat, e = if k < 4 then 1 else 0 := ⟨_, rfl⟩
  have hen2 : en < 2 := by rw [hen]; split <;> omega
  refine mp_enter (by decide) Y_K_init fun E hl X => ?_
  refine mp_eq rfl (L2 := [.val (.ref (G.1 + a)), .val (.int (nI n)), .val (.int (nI t)), .val (.int (nI p)), .val (.int (nI k)), .val (.ref (G.1 + f)), .val (.ref (G.1 + b))]) rfl rfl ?_
  refine mp_aload_n X 1 d_K_init_0 rfl rfl rfl ?_
  refine mp_iload_n X 2 d_K_init_1 rfl rfl rfl ?_
  refine mp_iload_n X 3 d_K_init_2 rfl rfl rfl ?_
  refine mp_iload_n X 4 d_K_init_3 rfl rfl rfl ?_
  refine mp_call X mp_Ts_ok 7 (rest := []) (k_O_init _ ho (Or.inr (Or.inr hk))) Y_O_init in_O (mp_II X d_K_init_4 rfl wd_235 ml_K_1 im_O_init (by decide) (by show _ = some 3; decide)) rfl (by decide) (by decide) (by decide) (by decide) rfl (by decide) (fun v h3 hp9 => ?_) (fun x9 h3 q9 hp9 => hp9.elim)
  obtain ⟨rfl, rfl⟩ := hp9
  refine mp_eq rfl rfl (st2 := []) rfl ?_
  refine mp_aload_n X 8 d_K_init_7 rfl rfl rfl ?_
  refine mp_iload X 10 d_K_init_8 rfl rfl ?_
  refine mp_iconst X 11 (v := nI 2) d_K_init_10 rfl (by decide) ?_
  refine mp_irem X 12 d_K_init_11 rfl (by decide) ?_
  have e1 : nI k - nI k / nI 2 * nI 2 = nI (k % 2) := (cp_k8 hk8).1
  rw [e1]
  refine mp_iconst X 13 (v := nI 1) d_K_init_12 rfl (by decide) ?_
  refine mp_Nne X 20 16 d_K_init_13 (by decide) rfl (by omega) (by omega) (fun q2 => ?_) (fun q2 => ?_)
  · refine mp_iconst X 21 (v := nI 0) d_K_init_20 rfl (by decide) ?_
    refine mp_putf X 24 ls_K_7_K d_K_init_21 rfl (Or.inr rfl) ho hk rfl rfl ?_
    refine mp_aload_n X 25 d_K_init_24 rfl rfl rfl ?_
    refine mp_iconst X 26 (v := nI 1) d_K_init_25 rfl (by decide) ?_
    refine mp_iload X 28 d_K_init_26 rfl rfl ?_
    refine mp_iconst X 29 (v := nI 2) d_K_init_28 rfl (by decide) ?_
    refine mp_idiv X 30 d_K_init_29 rfl (by decide) ?_
    have e3 : nI k / nI 2 = nI (k / 2) := (cp_k8 hk8).2.2
    rw [e3]
    refine mp_ishl X 31 d_K_init_30 rfl ?_
    have e4 : (nI 1) <<< ((nI (k / 2)) &&& 31) = nI (2 ^ (k / 2)) := (cp_k8 hk8).2.1
    rw [e4]
    refine mp_putf X 34 ls_K_13_K d_K_init_31 rfl (Or.inr rfl) ho hk rfl rfl ?_
    refine mp_aload_n X 35 d_K_init_34 rfl rfl rfl ?_
    refine mp_iload X 37 d_K_init_35 rfl rfl ?_
    refine mp_callE X mp_Ts_ok 40 (rest := [.ref (G.1 + a)]) (k_K_ends _ hk8 hen) Y_K_endsBeforeItsEndLetter in_K (mp_IS X d_K_init_37 Y_K_endsBeforeItsEndLetter ml_K_17 st_K_endsBeforeItsEndLetter in_K (by decide) (by show _ = some 1; decide)) rfl (by decide) (by decide) (by decide) (by decide) rfl (Nat.le_of_ble_eq_true rfl) rfl ?_
    refine mp_Zne X 47 43 d_K_init_40 (by decide) rfl (by omega) (fun q5 => ?_) (fun q5 => ?_)
    · refine mp_iconst X 48 (v := nI 0) d_K_init_47 rfl (by decide) ?_
      refine mp_putf X 51 ls_K_21_K d_K_init_48 rfl (Or.inr rfl) ho hk rfl rfl ?_
      refine mp_aload_n X 52 d_K_init_51 rfl rfl rfl ?_
      refine mp_aload X 54 d_K_init_52 rfl rfl ?_
      refine mp_putf X 57 ls_K_24_K d_K_init_54 rfl (Or.inr rfl) ho hk rfl rfl ?_
      refine mp_aload_n X 58 d_K_init_57 rfl rfl rfl ?_
      refine mp_aload X 60 d_K_init_58 rfl rfl ?_
      refine mp_putf X 63 ls_K_28_K d_K_init_60 rfl (Or.inr rfl) ho hk rfl rfl ?_
      have e3 : k % 2 = 0 := by omega
      have e5 : (if k < 4 then 0 else 1) = 0 := by (by_cases h4 : k < 4 <;> simp only [h4, if_true, if_false] at hen ⊢ <;> omega)
      exact mp_vret X d_K_init_63 rfl (by decide) (by decide) ⟨rfl, by rw [e3, e5]⟩
    · refine mp_iconst X 44 (v := nI 1) d_K_init_43 rfl (by decide) ?_
      refine mp_goto X 48 d_K_init_44 (by decide) ?_
      refine mp_putf X 51 ls_K_21_K d_K_init_48 rfl (Or.inr rfl) ho hk rfl rfl ?_
      refine mp_aload_n X 52 d_K_init_51 rfl rfl rfl ?_
      refine mp_aload X 54 d_K_init_52 rfl rfl ?_
      refine mp_putf X 57 ls_K_24_K d_K_init_54 rfl (Or.inr rfl) ho hk rfl rfl ?_
      refine mp_aload_n X 58 d_K_init_57 rfl rfl rfl ?_
      refine mp_aload X 60 d_K_init_58 rfl rfl ?_
      refine mp_putf X 63 ls_K_28_K d_K_init_60 rfl (Or.inr rfl) ho hk rfl rfl ?_
      have e3 : k % 2 = 0 := by omega
      have e5 : (if k < 4 then 0 else 1) = 1 := by (by_cases h4 : k < 4 <;> simp only [h4, if_true, if_false] at hen ⊢ <;> omega)
      exact mp_vret X d_K_init_63 rfl (by decide) (by decide) ⟨rfl, by rw [e3, e5]⟩
  · refine mp_iconst X 17 (v := nI 1) d_K_init_16 rfl (by decide) ?_
    refine mp_goto X 21 d_K_init_17 (by decide) ?_
    refine mp_putf X 24 ls_K_7_K d_K_init_21 rfl (Or.inr rfl) ho hk rfl rfl ?_
    refine mp_aload_n X 25 d_K_init_24 rfl rfl rfl ?_
    refine mp_iconst X 26 (v := nI 1) d_K_init_25 rfl (by decide) ?_
    refine mp_iload X 28 d_K_init_26 rfl rfl ?_
    refine mp_iconst X 29 (v := nI 2) d_K_init_28 rfl (by decide) ?_
    refine mp_idiv X 30 d_K_init_29 rfl (by decide) ?_
    have e6 : nI k / nI 2 = nI (k / 2) := (cp_k8 hk8).2.2
    rw [e6]
    refine mp_ishl X 31 d_K_init_30 rfl ?_
    have e7 : (nI 1) <<< ((nI (k / 2)) &&& 31) = nI (2 ^ (k / 2)) := (cp_k8 hk8).2.1
    rw [e7]
    refine mp_putf X 34 ls_K_13_K d_K_init_31 rfl (Or.inr rfl) ho hk rfl rfl ?_
    refine mp_aload_n X 35 d_K_init_34 rfl rfl rfl ?_
    refine mp_iload X 37 d_K_init_35 rfl rfl ?_
    refine mp_callE X mp_Ts_ok 40 (rest := [.ref (G.1 + a)]) (k_K_ends _ hk8 hen) Y_K_endsBeforeItsEndLetter in_K (mp_IS X d_K_init_37 Y_K_endsBeforeItsEndLetter ml_K_17 st_K_endsBeforeItsEndLetter in_K (by decide) (by show _ = some 1; decide)) rfl (by decide) (by decide) (by decide) (by decide) rfl (Nat.le_of_ble_eq_true rfl) rfl ?_
    refine mp_Zne X 47 43 d_K_init_40 (by decide) rfl (by omega) (fun q8 => ?_) (fun q8 => ?_)
    · refine mp_iconst X 48 (v := nI 0) d_K_init_47 rfl (by decide) ?_
      refine mp_putf X 51 ls_K_21_K d_K_init_48 rfl (Or.inr rfl) ho hk rfl rfl ?_
      refine mp_aload_n X 52 d_K_init_51 rfl rfl rfl ?_
      refine mp_aload X 54 d_K_init_52 rfl rfl ?_
      refine mp_putf X 57 ls_K_24_K d_K_init_54 rfl (Or.inr rfl) ho hk rfl rfl ?_
      refine mp_aload_n X 58 d_K_init_57 rfl rfl rfl ?_
      refine mp_aload X 60 d_K_init_58 rfl rfl ?_
      refine mp_putf X 63 ls_K_28_K d_K_init_60 rfl (Or.inr rfl) ho hk rfl rfl ?_
      have e3 : k % 2 = 1 := by omega
      have e5 : (if k < 4 then 0 else 1) = 0 := by (by_cases h4 : k < 4 <;> simp only [h4, if_true, if_false] at hen ⊢ <;> omega)
      exact mp_vret X d_K_init_63 rfl (by decide) (by decide) ⟨rfl, by rw [e3, e5]⟩
    · refine mp_iconst X 44 (v := nI 1) d_K_init_43 rfl (by decide) ?_
      refine mp_goto X 48 d_K_init_44 (by decide) ?_
      refine mp_putf X 51 ls_K_21_K d_K_init_48 rfl (Or.inr rfl) ho hk rfl rfl ?_
      refine mp_aload_n X 52 d_K_init_51 rfl rfl rfl ?_
      refine mp_aload X 54 d_K_init_52 rfl rfl ?_
      refine mp_putf X 57 ls_K_24_K d_K_init_54 rfl (Or.inr rfl) ho hk rfl rfl ?_
      refine mp_aload_n X 58 d_K_init_57 rfl rfl rfl ?_
      refine mp_aload X 60 d_K_init_58 rfl rfl ?_
      refine mp_putf X 63 ls_K_28_K d_K_init_60 rfl (Or.inr rfl) ho hk rfl rfl ?_
      have e3 : k % 2 = 1 := by omega
      have e5 : (if k < 4 then 0 else 1) = 1 := by (by_cases h4 : k < 4 <;> simp only [h4, if_true, if_false] at hen ⊢ <;> omega)
      exact mp_vret X d_K_init_63 rfl (by decide) (by decide) ⟨rfl, by rw [e3, e5]⟩
set_option maxRecDepth 100000 in
set_option maxHeartbeats 4000000 in
theorem k_P_init (l : Launch) {G : mp_G} {h : mp_H} {P : Nat} (hz : h.2.2 = P + 1) (hk : h.1 P = (1, 12)) (h1 : h.2.1 P 1 = .int 0) (h2 : h.2.1 P 2 = .int 0) (h4 : h.2.1 P 4 = .int 0) (h6 : h.2.1 P 6 = .int 0) (h8 : h.2.1 P 8 = .int 0) :
    mp_M G mp_Ts l y_P_init 1 7 630 [.ref (G.1 + P)] h (fun v g => v = none ∧ g.2.2 = P + 8 ∧ (∀ o, o < P → g.1 o = h.1 o ∧ g.2.1 o = h.2.1 o) ∧ ∀ g' : mp_H, P + 8 ≤ g'.2.2 → (∀ o, P ≤ o → o < P + 8 → g'.1 o = g.1 o ∧ g'.2.1 o = g.2.1 o) → cp_K G g' P ∧ ∀ O ad kn, cp_P G g' O ad P kn 0) (fun _ _ => False) := by
  refine mp_enter (by decide) Y_P_init fun E hl X => ?_
  refine mp_eq rfl (L2 := [.val (.ref (G.1 + P))]) rfl rfl ?_
  refine mp_aload_n X 1 d_P_init_0 rfl rfl rfl ?_
  refine mp_objInit X 4 ml_P_3 wd_37 wd_oi d_P_init_1 rfl rfl (by decide) (by decide) ?_
  refine mp_aload_n X 5 d_P_init_4 rfl rfl rfl ?_
  refine mp_bipush X 7 (v := nI 90) d_P_init_5 rfl (by decide) ?_
  refine mp_newr X 10 (t := 5) (n := 90) (by decide) rfl cl_P_9 wd_47 d_P_init_7 rfl rfl (by decide) (by decide) (by decide) ?_
  have kn1 : (mp_new h (10 + 5) 90 (fun _ => .null)).1 P = (1, 12) := by show (if P = h.2.2 then _ else _) = _; rw [if_neg (by omega)]; exact hk
  refine mp_putf X 13 ls_P_11_P d_P_init_10 rfl (Or.inr rfl) (by show P < h.2.2 + 1; omega) kn1 rfl rfl ?_
  obtain ⟨g1, eg1, zg1, kg1, rg1⟩ := mp_ns h (10 + 5) 90 (fun _ => .null) P 0 (.ref (G.1 + h.2.2))
  rw [← eg1]
  rw [hz] at zg1 kg1 rg1
  change g1.2.2 = P + 2 at zg1
  have ko1 : g1.1 P = (1, 12) := by rw [kg1, if_neg (by omega)]; exact hk
  refine mp_aload_n X 14 d_P_init_13 rfl rfl rfl ?_
  refine mp_bipush X 16 (v := nI 90) d_P_init_14 rfl (by decide) ?_
  refine mp_newr X 19 (t := 6) (n := 90) (by decide) rfl cl_P_17 wd_49 d_P_init_16 rfl rfl (by decide) (by decide) (by decide) ?_
  have kn2 : (mp_new g1 (10 + 6) 90 (fun _ => .null)).1 P = (1, 12) := by show (if P = g1.2.2 then _ else _) = _; rw [if_neg (by omega)]; exact ko1
  refine mp_putf X 22 ls_P_19_P d_P_init_19 rfl (Or.inr rfl) (by show P < g1.2.2 + 1; omega) kn2 rfl rfl ?_
  obtain ⟨g2, eg2, zg2, kg2, rg2⟩ := mp_ns g1 (10 + 6) 90 (fun _ => .null) P 3 (.ref (G.1 + g1.2.2))
  rw [← eg2]
  rw [zg1] at zg2 kg2 rg2
  change g2.2.2 = P + 3 at zg2
  have ko2 : g2.1 P = (1, 12) := by rw [kg2, if_neg (by omega)]; exact ko1
  refine mp_aload_n X 23 d_P_init_22 rfl rfl rfl ?_
  refine mp_bipush X 25 (v := nI 90) d_P_init_23 rfl (by decide) ?_
  refine mp_newr X 28 (t := 6) (n := 90) (by decide) rfl cl_P_17 wd_49 d_P_init_25 rfl rfl (by decide) (by decide) (by decide) ?_
  have kn3 : (mp_new g2 (10 + 6) 90 (fun _ => .null)).1 P = (1, 12) := by show (if P = g2.2.2 then _ else _) = _; rw [if_neg (by omega)]; exact ko2
  refine mp_putf X 31 ls_P_23_P d_P_init_28 rfl (Or.inr rfl) (by show P < g2.2.2 + 1; omega) kn3 rfl rfl ?_
  obtain ⟨g3, eg3, zg3, kg3, rg3⟩ := mp_ns g2 (10 + 6) 90 (fun _ => .null) P 5 (.ref (G.1 + g2.2.2))
  rw [← eg3]
  rw [zg2] at zg3 kg3 rg3
  change g3.2.2 = P + 4 at zg3
  have ko3 : g3.1 P = (1, 12) := by rw [kg3, if_neg (by omega)]; exact ko2
  refine mp_aload_n X 32 d_P_init_31 rfl rfl rfl ?_
  refine mp_bipush X 34 (v := nI 90) d_P_init_32 rfl (by decide) ?_
  refine mp_newr X 37 (t := 7) (n := 90) (by decide) rfl cl_P_26 wd_51 d_P_init_34 rfl rfl (by decide) (by decide) (by decide) ?_
  have kn4 : (mp_new g3 (10 + 7) 90 (fun _ => .null)).1 P = (1, 12) := by show (if P = g3.2.2 then _ else _) = _; rw [if_neg (by omega)]; exact ko3
  refine mp_putf X 40 ls_P_28_P d_P_init_37 rfl (Or.inr rfl) (by show P < g3.2.2 + 1; omega) kn4 rfl rfl ?_
  obtain ⟨g4, eg4, zg4, kg4, rg4⟩ := mp_ns g3 (10 + 7) 90 (fun _ => .null) P 7 (.ref (G.1 + g3.2.2))
  rw [← eg4]
  rw [zg3] at zg4 kg4 rg4
  change g4.2.2 = P + 5 at zg4
  have ko4 : g4.1 P = (1, 12) := by rw [kg4, if_neg (by omega)]; exact ko3
  refine mp_aload_n X 41 d_P_init_40 rfl rfl rfl ?_
  refine mp_bipush X 43 (v := nI 90) d_P_init_41 rfl (by decide) ?_
  refine mp_newa X 45 (t := 1) (n := 90) (v0 := .int 0) (by decide) rfl wd_98 rfl d_P_init_43 rfl rfl (by decide) (by decide) (by decide) ?_
  have kn5 : (mp_new g4 (10 + 1) 90 (fun _ => .int 0)).1 P = (1, 12) := by show (if P = g4.2.2 then _ else _) = _; rw [if_neg (by omega)]; exact ko4
  refine mp_putf X 48 ls_P_32_P d_P_init_45 rfl (Or.inr rfl) (by show P < g4.2.2 + 1; omega) kn5 rfl rfl ?_
  obtain ⟨g5, eg5, zg5, kg5, rg5⟩ := mp_ns g4 (10 + 1) 90 (fun _ => .int 0) P 9 (.ref (G.1 + g4.2.2))
  rw [← eg5]
  rw [zg4] at zg5 kg5 rg5
  change g5.2.2 = P + 6 at zg5
  have ko5 : g5.1 P = (1, 12) := by rw [kg5, if_neg (by omega)]; exact ko4
  refine mp_aload_n X 49 d_P_init_48 rfl rfl rfl ?_
  refine mp_bipush X 51 (v := nI 90) d_P_init_49 rfl (by decide) ?_
  refine mp_newa X 53 (t := 1) (n := 90) (v0 := .int 0) (by decide) rfl wd_98 rfl d_P_init_51 rfl rfl (by decide) (by decide) (by decide) ?_
  have kn6 : (mp_new g5 (10 + 1) 90 (fun _ => .int 0)).1 P = (1, 12) := by show (if P = g5.2.2 then _ else _) = _; rw [if_neg (by omega)]; exact ko5
  refine mp_putf X 56 ls_P_36_P d_P_init_53 rfl (Or.inr rfl) (by show P < g5.2.2 + 1; omega) kn6 rfl rfl ?_
  obtain ⟨g6, eg6, zg6, kg6, rg6⟩ := mp_ns g5 (10 + 1) 90 (fun _ => .int 0) P 10 (.ref (G.1 + g5.2.2))
  rw [← eg6]
  rw [zg5] at zg6 kg6 rg6
  change g6.2.2 = P + 7 at zg6
  have ko6 : g6.1 P = (1, 12) := by rw [kg6, if_neg (by omega)]; exact ko5
  refine mp_aload_n X 57 d_P_init_56 rfl rfl rfl ?_
  refine mp_bipush X 59 (v := nI 90) d_P_init_57 rfl (by decide) ?_
  refine mp_newa X 61 (t := 0) (n := 90) (v0 := .int 0) (by decide) rfl wd_99 rfl d_P_init_59 rfl rfl (by decide) (by decide) (by decide) ?_
  have kn7 : (mp_new g6 (10 + 0) 90 (fun _ => .int 0)).1 P = (1, 12) := by show (if P = g6.2.2 then _ else _) = _; rw [if_neg (by omega)]; exact ko6
  refine mp_putf X 64 ls_P_39_P d_P_init_61 rfl (Or.inr rfl) (by show P < g6.2.2 + 1; omega) kn7 rfl rfl ?_
  obtain ⟨g7, eg7, zg7, kg7, rg7⟩ := mp_ns g6 (10 + 0) 90 (fun _ => .int 0) P 11 (.ref (G.1 + g6.2.2))
  rw [← eg7]
  rw [zg6] at zg7 kg7 rg7
  change g7.2.2 = P + 8 at zg7
  have ko7 : g7.1 P = (1, 12) := by rw [kg7, if_neg (by omega)]; exact ko6
  refine mp_vret X d_P_init_64 rfl (by decide) (by decide) ⟨rfl, by rw [zg7], fun o ho => ⟨?_, ?_⟩, fun g' hg' he => ⟨?_, fun O ad kn => ?_⟩⟩
  · simp only [kg7, kg6, kg5, kg4, kg3, kg2, kg1]
    repeat rw [if_neg (by omega)]
  · funext b
    simp only [rg7, rg6, rg5, rg4, rg3, rg2, rg1]
    repeat rw [if_neg (by omega)]
  · unfold cp_K
    refine ⟨hg', ?_⟩
    rw [(he P (by omega) (by omega)).1, (he P (by omega) (by omega)).2, (he (P + 1) (by omega) (by omega)).1, (he (P + 2) (by omega) (by omega)).1, (he (P + 3) (by omega) (by omega)).1, (he (P + 4) (by omega) (by omega)).1, (he (P + 5) (by omega) (by omega)).1, (he (P + 6) (by omega) (by omega)).1, (he (P + 7) (by omega) (by omega)).1]
    simp [kg7, kg6, kg5, kg4, kg3, kg2, kg1, rg7, rg6, rg5, rg4, rg3, rg2, rg1, hk]
  · have q : ∀ i, i ≠ 0 → i ≠ 3 → i ≠ 5 → i ≠ 7 → i ≠ 9 → i ≠ 10 → i ≠ 11 → g'.2.1 P i = h.2.1 P i := fun i a b c d e f g => by
      rw [(he P (by omega) (by omega)).2]
      simp [rg7, rg6, rg5, rg4, rg3, rg2, rg1, a, b, c, d, e, f, g]
    refine ⟨⟨?_, fun i hi => absurd hi (Nat.not_lt_zero i), fun k hk9 => ?_⟩, ?_, ⟨?_, fun i x hx => by cases hx⟩, fun k hk9 => ?_, ⟨?_, fun i x hx => by cases hx⟩, ⟨?_, fun i x hx => by cases hx⟩⟩
    · rw [q 1 (by decide) (by decide) (by decide) (by decide) (by decide) (by decide) (by decide)]; exact h1
    · rw [(he (P + 5) (by omega) (by omega)).2]
      simp [rg7, rg6, rg5, rg4, rg3, rg2, rg1]
      rfl
    · rw [q 2 (by decide) (by decide) (by decide) (by decide) (by decide) (by decide) (by decide)]; exact h2
    · rw [q 4 (by decide) (by decide) (by decide) (by decide) (by decide) (by decide) (by decide)]; exact h4
    · rw [(he (P + 6) (by omega) (by omega)).2]
      simp [rg7, rg6, rg5, rg4, rg3, rg2, rg1]
      rfl
    · rw [q 8 (by decide) (by decide) (by decide) (by decide) (by decide) (by decide) (by decide)]; exact h8
    · rw [q 6 (by decide) (by decide) (by decide) (by decide) (by decide) (by decide) (by decide)]; exact h6
