/-! The class: write, erase, mark (rows laid by program). -/
/-- a call of the class that returns, or throws x -/
def cm_R (G : mp_G) (h : mp_H) (r : sp_R) (v : Option Value) (h' : mp_H) : Prop := r.1 = 0 ∧ v = some (.int r.2.1) ∧ (∃ ad, cm_S G h' r.2.2 ad) ∧ mp_gr cm_A h h'
def cm_T (G : mp_G) (h : mp_H) (r : sp_R) (x : Nat) (h' : mp_H) : Prop := r.1 = x + 1 ∧ (∃ ad, cm_S G h' r.2.2 ad) ∧ mp_gr cm_A h h'
theorem cm_Tx {G : mp_G} {h : mp_H} {S : pq_S} {ad : Nat → Nat} {x : Nat} (hS : cm_S G h S ad) : cm_T G h (x + 1, 0, S) x (mp_nx h x) := ⟨rfl, ⟨ad, hS.gr0 (mp_nx_gr _ _)⟩, mp_nx_gr _ _⟩
theorem cm_ad_n (ad : Nat → Nat) (n a : Nat) : cm_ad ad n a n = a := if_pos rfl
theorem cm_ad_o {ad : Nat → Nat} {n a k : Nat} (h : k ≠ n) : cm_ad ad n a k = ad k := if_neg h
theorem mp_nA_A {o i : Nat} (h : mp_nA o i) : cm_A o i := h.elim
theorem cm_newW {G : mp_G} {h : mp_H} {S : pq_S} {ad : Nat → Nat} {a t j : Nat} {fi : Option Nat} {c : Int32} (h41 : 41 ≤ a) (hz : a < h.2.2) (hk : h.1 a = (2, 5)) (f0 : h.2.1 a 0 = .int (nI S.1)) (f1 : h.2.1 a 1 = .int (nI t)) (f2 : h.2.1 a 2 = .int (nI (4 * t + j))) (f3 : h.2.1 a 3 = .int c) (f4 : h.2.1 a 4 = cp_r G (cm_ad ad S.1 a) fi) : cp_o G h (pq_add S (0, t, j, fi, none, 0, c)).2.1 (cm_ad ad S.1 a) S.1 := by
  have eo : (pq_add S (0, t, j, fi, none, 0, c)).2.1 S.1 = (0, t, j, fi, none, 0, c) := by show (if S.1 = S.1 then _ else _) = _; rw [if_pos rfl]
  unfold cp_o pq_id pq_so pq_tm pq_pg pq_wh pq_le pq_fi pq_en
  rw [cm_ad_n, eo]
  exact ⟨⟨h41, hz⟩, f0, f1, f2, fun _ => ⟨hk, f3, f4⟩, fun z => (by cases z), fun z => (by cases z)⟩
theorem cm_newE {G : mp_G} {h : mp_H} {S : pq_S} {ad : Nat → Nat} {a t j : Nat} {fi : Option Nat} (h41 : 41 ≤ a) (hz : a < h.2.2) (hk : h.1 a = (3, 4)) (f0 : h.2.1 a 0 = .int (nI S.1)) (f1 : h.2.1 a 1 = .int (nI t)) (f2 : h.2.1 a 2 = .int (nI (4 * t + j))) (f3 : h.2.1 a 3 = cp_r G (cm_ad ad S.1 a) fi) : cp_o G h (pq_add S (1, t, j, fi, none, 0, 0)).2.1 (cm_ad ad S.1 a) S.1 := by
  have eo : (pq_add S (1, t, j, fi, none, 0, 0)).2.1 S.1 = (1, t, j, fi, none, 0, 0) := by show (if S.1 = S.1 then _ else _) = _; rw [if_pos rfl]
  unfold cp_o pq_id pq_so pq_tm pq_pg pq_wh pq_le pq_fi pq_en
  rw [cm_ad_n, eo]
  exact ⟨⟨h41, hz⟩, f0, f1, f2, fun z => (by cases z), fun _ => ⟨hk, f3⟩, fun z => (by cases z)⟩
theorem cm_newK {G : mp_G} {h : mp_H} {S : pq_S} {ad : Nat → Nat} {a t j k : Nat} {fi en : Option Nat} (h41 : 41 ≤ a) (hz : a < h.2.2) (hk : h.1 a = (4, 8)) (f0 : h.2.1 a 0 = .int (nI S.1)) (f1 : h.2.1 a 1 = .int (nI t)) (f2 : h.2.1 a 2 = .int (nI (4 * t + j))) (f3 : h.2.1 a 3 = .int (nI (k % 2))) (f4 : h.2.1 a 4 = .int (nI (2 ^ (k / 2)))) (f5 : h.2.1 a 5 = .int (nI (if k < 4 then 0 else 1))) (f6 : h.2.1 a 6 = cp_r G (cm_ad ad S.1 a) fi) (f7 : h.2.1 a 7 = cp_r G (cm_ad ad S.1 a) en) : cp_o G h (pq_add S (2, t, j, fi, en, k, 0)).2.1 (cm_ad ad S.1 a) S.1 := by
  have eo : (pq_add S (2, t, j, fi, en, k, 0)).2.1 S.1 = (2, t, j, fi, en, k, 0) := by show (if S.1 = S.1 then _ else _) = _; rw [if_pos rfl]
  unfold cp_o pq_id pq_so pq_tm pq_pg pq_wh pq_le pq_fi pq_en
  rw [cm_ad_n, eo]
  exact ⟨⟨h41, hz⟩, f0, f1, f2, fun z => (by cases z), fun z => (by cases z), fun _ => ⟨hk, f3, f4, f5, f6, f7⟩⟩
theorem sp_t_lt {S : pq_S} {j q : Nat} (hok : pq_ok S) (hj : j < 3) (hq : q < (rm_T S j).length) : sp_t S j q < S.1 ∧ pq_so S.2.1 (sp_t S j q) = 0 := by
  obtain ⟨a, b, -⟩ := rm_row_lt hok.2.1 (hok.2.2.1 j hj) (sp_t_row hq)
  exact ⟨a, b⟩
theorem cm_tr {G : mp_G} {S : pq_S} {ad : Nat → Nat} {j q a : Nat} (hok : pq_ok S) (hj : j < 3) (hq : q < (rm_T S j).length) : Value.ref (G.1 + ad (sp_t S j q)) = cp_r G (cm_ad ad S.1 a) (some (sp_t S j q)) := by
  have := (sp_t_lt hok hj hq).1
  show _ = Value.ref (G.1 + cm_ad ad S.1 a (sp_t S j q))
  rw [cm_ad_o (by omega)]
set_option maxRecDepth 100000 in
set_option maxHeartbeats 4000000 in
theorem k_M_write {l : Launch} (hl0 : l.stackTraces = false) {G : mp_G} {h : mp_H} {S : pq_S} {ad : Nat → Nat} {x p c : Int32} (hS1 : cm_S G h S ad) (hg : sp_g S) (hc : narrow .char (.int c) = .int c) :
    mp_M G mp_Ts l y_M_write 8 1 8 [.ref (G.1 + 0), .int x, .int p, .int c] h (cm_R G h (sp_write S x p c)) (cm_T G h (sp_write S x p c)) := by
  have hM : S.1 ≤ 90 := hg.1.1
  refine mp_enter (by decide) Y_M_write fun E hl X => ?_
  refine mp_eq rfl (L2 := [.val (.ref (G.1 + 0)), .val (.int x), .val (.int p), .val (.int c), .unset, .unset]) rfl rfl ?_
  cases hx : sp_ix 3 x with
  | none =>
    have hz : sp_write S x p c = (1, 0, S) := by unfold sp_write; rw [hx]
    rw [hz]
    refine mp_aload_n X 1 d_M_write_0 rfl rfl rfl ?_
    refine mp_iload_n X 2 d_M_write_1 rfl rfl rfl ?_
    refine mp_call X mp_Ts_ok 5 (rest := []) (k_M_pageNumberedF (by rw [hl]; exact hl0) hS1.1 hx) Y_M_pageNumbered in_M (mp_IV X (q := (nR_M, nT_M, 2)) d_M_write_2 Y_M_pageNumbered ml_M_20 im_M_pageNumbered se_M_pageNumbered (by decide) rfl (by decide) (by show _ = some 1; decide) (Nat.lt_of_lt_of_le (by decide) hS1.1.1) hS1.1.2.1) rfl (by decide) (by decide) (by decide) (by decide) rfl (Nat.le_of_ble_eq_true rfl) (fun v h9 hp9 => hp9.elim) (fun x9 h9 q9 hp9 hq9 hk9 hx9 => ?_)
    obtain ⟨rfl, rfl⟩ := hp9
    exact mp_out X (by decide) (by decide) hq9 hk9 hx9 (cm_Tx (x := 0) hS1)
  | some j =>
    obtain ⟨hj, rfl⟩ := sp_ix_some hx (by decide)
    have hTl := sp_T_len hg.1 hj
    cases hp : sp_ix ((rm_T S j).length + 1) p with
    | none =>
      have hz : sp_write S (nI j) p c = (2, 0, S) := by unfold sp_write; rw [hx]; simp only []; rw [hp]
      rw [hz]
      refine mp_aload_n X 1 d_M_write_0 rfl rfl rfl ?_
      refine mp_iload_n X 2 d_M_write_1 rfl rfl rfl ?_
      refine mp_callE X mp_Ts_ok 5 (rest := []) (k_M_pageNumberedT _ hS1.1 hj) Y_M_pageNumbered in_M (mp_IV X (q := (nR_M, nT_M, 2)) d_M_write_2 Y_M_pageNumbered ml_M_20 im_M_pageNumbered se_M_pageNumbered (by decide) rfl (by decide) (by show _ = some 1; decide) (Nat.lt_of_lt_of_le (by decide) hS1.1.1) hS1.1.2.1) rfl (by decide) (by decide) (by decide) (by decide) rfl (Nat.le_of_ble_eq_true rfl) rfl ?_
      refine mp_eq rfl rfl (st2 := [.ref (G.1 + (2 + 8 * j))]) rfl ?_
      refine mp_astore X 7 (L' := [.val (.ref (G.1 + 0)), .val (.int (nI j)), .val (.int (p)), .val (.int (c)), .val (.ref (G.1 + (2 + 8 * j))), .unset]) d_M_write_5 rfl rfl rfl rfl ?_
      refine mp_iload_n X 8 d_M_write_7 rfl rfl rfl ?_
      refine mp_if_lt X 24 11 d_M_write_8 (by decide) rfl (fun q1 => ?_) (fun q1 => ?_)
      · refine mp_iconst X 25 (v := nI 0) d_M_write_24 rfl (by decide) ?_
        refine mp_call X mp_Ts_ok 28 (rest := []) (k_M_riF (by rw [hl]; exact hl0)) Y_M_refuseIndexUnless in_M (mp_IS X d_M_write_25 Y_M_refuseIndexUnless ml_M_27 st_M_refuseIndexUnless in_M (by decide) (by show _ = some 1; decide)) rfl (by decide) (by decide) (by decide) (by decide) rfl (Nat.le_of_ble_eq_true rfl) (fun v h9 hp9 => hp9.elim) (fun x9 h9 q9 hp9 hq9 hk9 hx9 => ?_)
        obtain ⟨rfl, rfl⟩ := hp9
        exact mp_out X (by decide) (by decide) hq9 hk9 hx9 (cm_Tx (x := 1) hS1)
      · refine mp_iload_n X 12 d_M_write_11 rfl rfl rfl ?_
        refine mp_aload X 14 d_M_write_12 rfl rfl ?_
        refine mp_getf (v := .int (nI ((rm_T S j).length))) X 17 lk_M_24_P d_M_write_14 rfl ((hS1.2.2.2 j hj).1.sz (by omega)) (hS1.2.2.2 j hj).1.ob (hS1.2.2.2 j hj).2.2.2.2.2.2.1 ?_
        refine mp_icmp_gt X 24 20 d_M_write_17 (by decide) rfl (fun q2 => ?_) (fun q2 => ?_)
        · refine mp_iconst X 25 (v := nI 0) d_M_write_24 rfl (by decide) ?_
          refine mp_call X mp_Ts_ok 28 (rest := []) (k_M_riF (by rw [hl]; exact hl0)) Y_M_refuseIndexUnless in_M (mp_IS X d_M_write_25 Y_M_refuseIndexUnless ml_M_27 st_M_refuseIndexUnless in_M (by decide) (by show _ = some 1; decide)) rfl (by decide) (by decide) (by decide) (by decide) rfl (Nat.le_of_ble_eq_true rfl) (fun v h9 hp9 => hp9.elim) (fun x9 h9 q9 hp9 hq9 hk9 hx9 => ?_)
          obtain ⟨rfl, rfl⟩ := hp9
          exact mp_out X (by decide) (by decide) hq9 hk9 hx9 (cm_Tx (x := 1) hS1)
        · exfalso; obtain ⟨q0, hq0, rfl⟩ := nI_of q1; have := Nat.not_lt.mp fun z => q2 ((nI_ltI (by omega) hq0).mpr z); rw [sp_ix_of (by omega) (by omega)] at hp; cases hp
    | some q =>
      obtain ⟨hq, rfl⟩ := sp_ix_some hp (by omega)
      have hz : sp_write S (nI j) (nI q) c = if S.1 = 90 then (3, 0, S) else (0, nI (1 + sp_mx S j), sp_new S j 0 (if q = 0 then none else some (sp_t S j (q - 1))) none 0 c) := by unfold sp_write; rw [hx]; simp only []; rw [hp]
      by_cases hM90 : S.1 = 90
      · rw [hz, if_pos hM90]
        refine mp_aload_n X 1 d_M_write_0 rfl rfl rfl ?_
        refine mp_iload_n X 2 d_M_write_1 rfl rfl rfl ?_
        refine mp_callE X mp_Ts_ok 5 (rest := []) (k_M_pageNumberedT _ hS1.1 hj) Y_M_pageNumbered in_M (mp_IV X (q := (nR_M, nT_M, 2)) d_M_write_2 Y_M_pageNumbered ml_M_20 im_M_pageNumbered se_M_pageNumbered (by decide) rfl (by decide) (by show _ = some 1; decide) (Nat.lt_of_lt_of_le (by decide) hS1.1.1) hS1.1.2.1) rfl (by decide) (by decide) (by decide) (by decide) rfl (Nat.le_of_ble_eq_true rfl) rfl ?_
        refine mp_eq rfl rfl (st2 := [.ref (G.1 + (2 + 8 * j))]) rfl ?_
        refine mp_astore X 7 (L' := [.val (.ref (G.1 + 0)), .val (.int (nI j)), .val (.int (nI q)), .val (.int (c)), .val (.ref (G.1 + (2 + 8 * j))), .unset]) d_M_write_5 rfl rfl rfl rfl ?_
        refine mp_iload_n X 8 d_M_write_7 rfl rfl rfl ?_
        refine mp_Zlt X 24 11 d_M_write_8 (by decide) rfl (by omega) (fun q1 => ?_) (fun q1 => ?_)
        · exact q1.elim
        · refine mp_iload_n X 12 d_M_write_11 rfl rfl rfl ?_
          refine mp_aload X 14 d_M_write_12 rfl rfl ?_
          refine mp_getf (v := .int (nI ((rm_T S j).length))) X 17 lk_M_24_P d_M_write_14 rfl ((hS1.2.2.2 j hj).1.sz (by omega)) (hS1.2.2.2 j hj).1.ob (hS1.2.2.2 j hj).2.2.2.2.2.2.1 ?_
          refine mp_Ngt X 24 20 d_M_write_17 (by decide) rfl (by omega) (by omega) (fun q2 => ?_) (fun q2 => ?_)
          · omega
          · refine mp_iconst X 21 (v := nI 1) d_M_write_20 rfl (by decide) ?_
            refine mp_goto X 25 d_M_write_21 (by decide) ?_
            refine mp_callE X mp_Ts_ok 28 (rest := []) (k_M_riT _) Y_M_refuseIndexUnless in_M (mp_IS X d_M_write_25 Y_M_refuseIndexUnless ml_M_27 st_M_refuseIndexUnless in_M (by decide) (by show _ = some 1; decide)) rfl (by decide) (by decide) (by decide) (by decide) rfl (Nat.le_of_ble_eq_true rfl) rfl ?_
            refine mp_aload_n X 29 d_M_write_28 rfl rfl rfl ?_
            refine mp_call X mp_Ts_ok 32 (rest := []) (k_M_rwF (by rw [hl]; exact hl0) (Nat.lt_of_lt_of_le (by decide) hS1.1.1) hS1.1.2.1 (by rw [hS1.2.1, hM90])) Y_M_refuseWhenAllAreMade in_M (mp_IV X (q := (nR_M, nT_M, 2)) d_M_write_29 Y_M_refuseWhenAllAreMade ml_M_31 im_M_refuseWhenAllAreMade se_M_refuseWhenAllAreMade (by decide) rfl (by decide) (by show _ = some 0; decide) (Nat.lt_of_lt_of_le (by decide) hS1.1.1) hS1.1.2.1) rfl (by decide) (by decide) (by decide) (by decide) rfl (Nat.le_of_ble_eq_true rfl) (fun v h9 hp9 => hp9.elim) (fun x9 h9 q9 hp9 hq9 hk9 hx9 => ?_)
            obtain ⟨rfl, rfl⟩ := hp9
            exact mp_out X (by decide) (by decide) hq9 hk9 hx9 (cm_Tx (x := 2) hS1)
      · have hok9 := (hg.write (x := nI j) (p := nI q) hc).1
        rw [hz, if_neg hM90] at hok9 ⊢
        refine mp_aload_n X 1 d_M_write_0 rfl rfl rfl ?_
        refine mp_iload_n X 2 d_M_write_1 rfl rfl rfl ?_
        refine mp_callE X mp_Ts_ok 5 (rest := []) (k_M_pageNumberedT _ hS1.1 hj) Y_M_pageNumbered in_M (mp_IV X (q := (nR_M, nT_M, 2)) d_M_write_2 Y_M_pageNumbered ml_M_20 im_M_pageNumbered se_M_pageNumbered (by decide) rfl (by decide) (by show _ = some 1; decide) (Nat.lt_of_lt_of_le (by decide) hS1.1.1) hS1.1.2.1) rfl (by decide) (by decide) (by decide) (by decide) rfl (Nat.le_of_ble_eq_true rfl) rfl ?_
        refine mp_eq rfl rfl (st2 := [.ref (G.1 + (2 + 8 * j))]) rfl ?_
        refine mp_astore X 7 (L' := [.val (.ref (G.1 + 0)), .val (.int (nI j)), .val (.int (nI q)), .val (.int (c)), .val (.ref (G.1 + (2 + 8 * j))), .unset]) d_M_write_5 rfl rfl rfl rfl ?_
        refine mp_iload_n X 8 d_M_write_7 rfl rfl rfl ?_
        refine mp_Zlt X 24 11 d_M_write_8 (by decide) rfl (by omega) (fun q1 => ?_) (fun q1 => ?_)
        · exact q1.elim
        · refine mp_iload_n X 12 d_M_write_11 rfl rfl rfl ?_
          refine mp_aload X 14 d_M_write_12 rfl rfl ?_
          refine mp_getf (v := .int (nI ((rm_T S j).length))) X 17 lk_M_24_P d_M_write_14 rfl ((hS1.2.2.2 j hj).1.sz (by omega)) (hS1.2.2.2 j hj).1.ob (hS1.2.2.2 j hj).2.2.2.2.2.2.1 ?_
          refine mp_Ngt X 24 20 d_M_write_17 (by decide) rfl (by omega) (by omega) (fun q2 => ?_) (fun q2 => ?_)
          · omega
          · refine mp_iconst X 21 (v := nI 1) d_M_write_20 rfl (by decide) ?_
            refine mp_goto X 25 d_M_write_21 (by decide) ?_
            refine mp_callE X mp_Ts_ok 28 (rest := []) (k_M_riT _) Y_M_refuseIndexUnless in_M (mp_IS X d_M_write_25 Y_M_refuseIndexUnless ml_M_27 st_M_refuseIndexUnless in_M (by decide) (by show _ = some 1; decide)) rfl (by decide) (by decide) (by decide) (by decide) rfl (Nat.le_of_ble_eq_true rfl) rfl ?_
            refine mp_aload_n X 29 d_M_write_28 rfl rfl rfl ?_
            refine mp_callE X mp_Ts_ok 32 (rest := []) (k_M_rwT _ (Nat.lt_of_lt_of_le (by decide) hS1.1.1) hS1.1.2.1 hS1.2.1 (by omega)) Y_M_refuseWhenAllAreMade in_M (mp_IV X (q := (nR_M, nT_M, 2)) d_M_write_29 Y_M_refuseWhenAllAreMade ml_M_31 im_M_refuseWhenAllAreMade se_M_refuseWhenAllAreMade (by decide) rfl (by decide) (by show _ = some 0; decide) (Nat.lt_of_lt_of_le (by decide) hS1.1.1) hS1.1.2.1) rfl (by decide) (by decide) (by decide) (by decide) rfl (Nat.le_of_ble_eq_true rfl) rfl ?_
            refine mp_iload_n X 33 d_M_write_32 rfl rfl rfl ?_
            refine mp_Zne X 40 36 d_M_write_33 (by decide) rfl (by omega) (fun q3 => ?_) (fun q3 => ?_)
            · refine mp_aload X 42 d_M_write_40 rfl rfl ?_
              refine mp_getf (v := .ref (G.1 + (2 + 8 * j + 3))) X 45 lk_M_34_P d_M_write_42 rfl ((hS1.2.2.2 j hj).1.sz (by omega)) (hS1.2.2.2 j hj).1.ob (hS1.2.2.2 j hj).1.r_text ?_
              refine mp_iload_n X 46 d_M_write_45 rfl rfl rfl ?_
              refine mp_iconst X 47 (v := nI 1) d_M_write_46 rfl (by decide) ?_
              refine mp_isub X 48 d_M_write_47 rfl ?_
              have e4 : nI q - nI 1 = nI (q - 1) := pk_sub (by omega)
              rw [e4]
              refine mp_aald (t := 6) (v := .ref (G.1 + (ad (sp_t S j (q - 1))))) X 49 (q - 1) d_M_write_48 rfl ((hS1.2.2.2 j hj).1.sz (by omega)) (hS1.2.2.2 j hj).1.k_text (by decide) (by decide) rfl (by omega) (by decide) (cp_tx (hS1.2.2.2 j hj).2 (by omega)) ?_
              refine mp_astore X 51 (L' := [.val (.ref (G.1 + 0)), .val (.int (nI j)), .val (.int (nI q)), .val (.int (c)), .val (.ref (G.1 + (2 + 8 * j))), .val (.ref (G.1 + (ad (sp_t S j (q - 1)))))]) d_M_write_49 rfl rfl rfl rfl ?_
              refine mp_aload_n X 52 d_M_write_51 rfl rfl rfl ?_
              refine mp_aload X 54 d_M_write_52 rfl rfl ?_
              refine mp_newo X 57 ln_M_38 d_M_write_54 rfl (by decide) (by decide) ?_
              obtain ⟨h1, eh1⟩ : ∃ z, z = mp_new h 2 5 (fun k => defaultValue (nF_W k)) := ⟨_, rfl⟩
              rw [← eh1]
              have hg1 : mp_gr mp_nA h h1 := by rw [eh1]; exact mp_gr.new _ _ _
              have hS2 : cm_S G h1 S ad := hS1.gr0 hg1
              have hz1 : h1.2.2 = h.2.2 + 1 := by rw [eh1]; rfl
              have hk1 : h1.1 h.2.2 = (2, 5) := by rw [eh1]; show (if h.2.2 = h.2.2 then _ else _) = _; rw [if_pos rfl]
              have h41 : 41 ≤ h.2.2 := hS1.1.1
              refine mp_dup X 58 d_M_write_57 rfl rfl ?_
              refine mp_aload_n X 59 d_M_write_58 rfl rfl rfl ?_
              refine mp_getf (v := .int (nI (S.1))) X 62 lk_M_16_M d_M_write_59 rfl (Nat.lt_of_lt_of_le (by decide) hS2.1.1) hS2.1.2.1 hS2.2.1 ?_
              refine mp_aload X 64 d_M_write_62 rfl rfl ?_
              refine mp_callE X mp_Ts_ok 67 (rest := [.int (nI (S.1)), .ref (G.1 + (h.2.2)), .ref (G.1 + (h.2.2)), .ref (G.1 + (2 + 8 * j)), .ref (G.1 + 0)]) (k_P_nextTime _ (hS2.2.2.2 j hj).1 (hS2.2.2.2 j hj).2.2.1) Y_P_nextTime in_P (mp_IV X (q := (nR_P, nT_P, 12)) d_M_write_64 Y_P_nextTime ml_M_40 im_P_nextTime se_P_nextTime (by decide) rfl (by decide) (by show _ = some 0; decide) ((hS2.2.2.2 j hj).1.sz (by omega)) (hS2.2.2.2 j hj).1.ob) rfl (by decide) (by decide) (by decide) (by decide) rfl (Nat.le_of_ble_eq_true rfl) rfl ?_
              refine mp_eq rfl rfl (st2 := [.int (nI ((1 + sp_mx S j))), .int (nI (S.1)), .ref (G.1 + (h.2.2)), .ref (G.1 + (h.2.2)), .ref (G.1 + (2 + 8 * j)), .ref (G.1 + 0)]) rfl ?_
              refine mp_iload_n X 68 d_M_write_67 rfl rfl rfl ?_
              refine mp_iload_n X 69 d_M_write_68 rfl rfl rfl ?_
              refine mp_aload X 71 d_M_write_69 rfl rfl ?_
              refine mp_call X mp_Ts_ok 74 (rest := [.ref (G.1 + (h.2.2)), .ref (G.1 + (2 + 8 * j)), .ref (G.1 + 0)]) (k_W_initR (a := h.2.2) (b := ad (sp_t S j (q - 1))) _ (by omega) hk1 hc) Y_W_init in_W (mp_II X d_M_write_71 rfl wd_232 ml_M_44 im_W_init (by decide) (by show _ = some 5; decide)) rfl (by decide) (by decide) (by decide) (by decide) rfl (Nat.le_of_ble_eq_true rfl) (fun v h2 hp9 => ?_) (fun x9 h9 q9 hp9 => hp9.elim)
              obtain ⟨rfl, eh2⟩ := hp9
              have hz2 : h.2.2 < h2.2.2 := by rw [eh2]; show h.2.2 < h1.2.2; omega
              have hk2 : h2.1 h.2.2 = (2, 5) := by rw [eh2]; exact hk1
              have hg2 : mp_gr mp_nA h h2 := by rw [eh2]; unfold cp_o3; exact (((((hg1.set (Or.inl (Nat.le_refl _))).set (Or.inl (Nat.le_refl _))).set (Or.inl (Nat.le_refl _))).set (Or.inl (Nat.le_refl _))).set (Or.inl (Nat.le_refl _)))
              have f0 : h2.2.1 h.2.2 0 = .int (nI S.1) := by rw [eh2]; simp [cp_o3, mp_set]
              have f1 : h2.2.1 h.2.2 1 = .int (nI (1 + sp_mx S j)) := by rw [eh2]; simp [cp_o3, mp_set]
              have f2 : h2.2.1 h.2.2 2 = .int (nI (4 * (1 + sp_mx S j) + j)) := by rw [eh2]; simp [cp_o3, mp_set]
              have f3 : h2.2.1 h.2.2 3 = .int c := by rw [eh2]; simp [cp_o3, mp_set]
              have f4 : h2.2.1 h.2.2 4 = .ref (G.1 + ad (sp_t S j (q - 1))) := by rw [eh2]; simp [cp_o3, mp_set]
              rw [if_neg q3] at hok9 ⊢
              have hn := cm_newW (G := G) (ad := ad) (fi := some (sp_t S j (q - 1))) h41 hz2 hk2 f0 f1 f2 f3 (f4.trans (cm_tr hg.1 hj (by omega)))
              have hQ2 := cm_grow hS1 hg.1 hg2 hn
              refine mp_eq rfl rfl (st2 := [.ref (G.1 + (h.2.2)), .ref (G.1 + (2 + 8 * j)), .ref (G.1 + 0)]) rfl ?_
              have hmk := k_M_make E.l hQ2 rfl hok9 hj
              rw [cm_ad_n] at hmk
              refine mp_call X mp_Ts_ok 77 (rest := []) hmk Y_M_make in_M (mp_IV X (q := (nR_M, nT_M, 2)) d_M_write_74 Y_M_make ml_M_47 im_M_make se_M_make (by decide) rfl (by decide) (by show _ = some 2; decide) (Nat.lt_of_lt_of_le (by decide) hQ2.1.1) hQ2.1.2.1) rfl (by decide) (by decide) (by decide) (by decide) rfl (Nat.le_of_ble_eq_true rfl) (fun v g hp9 => ?_) (fun x9 h9 q9 hp9 => hp9.elim)
              obtain ⟨hv9, hSg, hgg⟩ := hp9
              have etm : pq_tm (pq_add S (0, 1 + sp_mx S j, j, some (sp_t S j (q - 1)), none, 0, c)).2.1 S.1 = 1 + sp_mx S j := by show (if S.1 = S.1 then _ else _ : Nat × Nat × Nat × Option Nat × Option Nat × Nat × Int32).2.1 = _; rw [if_pos rfl]
              rw [etm] at hv9
              subst hv9
              refine mp_eq rfl rfl (st2 := [.int (nI (1 + sp_mx S j))]) rfl ?_
              exact mp_iret X d_M_write_77 rfl rfl (by decide) (by decide) ⟨rfl, rfl, ⟨_, hSg⟩, (hg2.mono fun _ _ => mp_nA_A).tr hgg⟩
            · refine mp_null X 37 d_M_write_36 rfl ?_
              refine mp_goto X 49 d_M_write_37 (by decide) ?_
              refine mp_astoreN X 51 (L' := [.val (.ref (G.1 + 0)), .val (.int (nI j)), .val (.int (nI q)), .val (.int (c)), .val (.ref (G.1 + (2 + 8 * j))), .val (.null)]) d_M_write_49 rfl rfl rfl rfl ?_
              refine mp_aload_n X 52 d_M_write_51 rfl rfl rfl ?_
              refine mp_aload X 54 d_M_write_52 rfl rfl ?_
              refine mp_newo X 57 ln_M_38 d_M_write_54 rfl (by decide) (by decide) ?_
              obtain ⟨h1, eh1⟩ : ∃ z, z = mp_new h 2 5 (fun k => defaultValue (nF_W k)) := ⟨_, rfl⟩
              rw [← eh1]
              have hg1 : mp_gr mp_nA h h1 := by rw [eh1]; exact mp_gr.new _ _ _
              have hS2 : cm_S G h1 S ad := hS1.gr0 hg1
              have hz1 : h1.2.2 = h.2.2 + 1 := by rw [eh1]; rfl
              have hk1 : h1.1 h.2.2 = (2, 5) := by rw [eh1]; show (if h.2.2 = h.2.2 then _ else _) = _; rw [if_pos rfl]
              have h41 : 41 ≤ h.2.2 := hS1.1.1
              refine mp_dup X 58 d_M_write_57 rfl rfl ?_
              refine mp_aload_n X 59 d_M_write_58 rfl rfl rfl ?_
              refine mp_getf (v := .int (nI (S.1))) X 62 lk_M_16_M d_M_write_59 rfl (Nat.lt_of_lt_of_le (by decide) hS2.1.1) hS2.1.2.1 hS2.2.1 ?_
              refine mp_aload X 64 d_M_write_62 rfl rfl ?_
              refine mp_callE X mp_Ts_ok 67 (rest := [.int (nI (S.1)), .ref (G.1 + (h.2.2)), .ref (G.1 + (h.2.2)), .ref (G.1 + (2 + 8 * j)), .ref (G.1 + 0)]) (k_P_nextTime _ (hS2.2.2.2 j hj).1 (hS2.2.2.2 j hj).2.2.1) Y_P_nextTime in_P (mp_IV X (q := (nR_P, nT_P, 12)) d_M_write_64 Y_P_nextTime ml_M_40 im_P_nextTime se_P_nextTime (by decide) rfl (by decide) (by show _ = some 0; decide) ((hS2.2.2.2 j hj).1.sz (by omega)) (hS2.2.2.2 j hj).1.ob) rfl (by decide) (by decide) (by decide) (by decide) rfl (Nat.le_of_ble_eq_true rfl) rfl ?_
              refine mp_eq rfl rfl (st2 := [.int (nI ((1 + sp_mx S j))), .int (nI (S.1)), .ref (G.1 + (h.2.2)), .ref (G.1 + (h.2.2)), .ref (G.1 + (2 + 8 * j)), .ref (G.1 + 0)]) rfl ?_
              refine mp_iload_n X 68 d_M_write_67 rfl rfl rfl ?_
              refine mp_iload_n X 69 d_M_write_68 rfl rfl rfl ?_
              refine mp_aloadN X 71 d_M_write_69 rfl rfl ?_
              refine mp_call X mp_Ts_ok 74 (rest := [.ref (G.1 + (h.2.2)), .ref (G.1 + (2 + 8 * j)), .ref (G.1 + 0)]) (k_W_initN (a := h.2.2) _ (by omega) hk1 hc) Y_W_init in_W (mp_II X d_M_write_71 rfl wd_232 ml_M_44 im_W_init (by decide) (by show _ = some 5; decide)) rfl (by decide) (by decide) (by decide) (by decide) rfl (Nat.le_of_ble_eq_true rfl) (fun v h2 hp9 => ?_) (fun x9 h9 q9 hp9 => hp9.elim)
              obtain ⟨rfl, eh2⟩ := hp9
              have hz2 : h.2.2 < h2.2.2 := by rw [eh2]; show h.2.2 < h1.2.2; omega
              have hk2 : h2.1 h.2.2 = (2, 5) := by rw [eh2]; exact hk1
              have hg2 : mp_gr mp_nA h h2 := by rw [eh2]; unfold cp_o3; exact (((((hg1.set (Or.inl (Nat.le_refl _))).set (Or.inl (Nat.le_refl _))).set (Or.inl (Nat.le_refl _))).set (Or.inl (Nat.le_refl _))).set (Or.inl (Nat.le_refl _)))
              have f0 : h2.2.1 h.2.2 0 = .int (nI S.1) := by rw [eh2]; simp [cp_o3, mp_set]
              have f1 : h2.2.1 h.2.2 1 = .int (nI (1 + sp_mx S j)) := by rw [eh2]; simp [cp_o3, mp_set]
              have f2 : h2.2.1 h.2.2 2 = .int (nI (4 * (1 + sp_mx S j) + j)) := by rw [eh2]; simp [cp_o3, mp_set]
              have f3 : h2.2.1 h.2.2 3 = .int c := by rw [eh2]; simp [cp_o3, mp_set]
              have f4 : h2.2.1 h.2.2 4 = .null := by rw [eh2]; simp [cp_o3, mp_set]
              rw [if_pos q3] at hok9 ⊢
              have hn := cm_newW (G := G) (ad := ad) (fi := none) h41 hz2 hk2 f0 f1 f2 f3 f4
              have hQ2 := cm_grow hS1 hg.1 hg2 hn
              refine mp_eq rfl rfl (st2 := [.ref (G.1 + (h.2.2)), .ref (G.1 + (2 + 8 * j)), .ref (G.1 + 0)]) rfl ?_
              have hmk := k_M_make E.l hQ2 rfl hok9 hj
              rw [cm_ad_n] at hmk
              refine mp_call X mp_Ts_ok 77 (rest := []) hmk Y_M_make in_M (mp_IV X (q := (nR_M, nT_M, 2)) d_M_write_74 Y_M_make ml_M_47 im_M_make se_M_make (by decide) rfl (by decide) (by show _ = some 2; decide) (Nat.lt_of_lt_of_le (by decide) hQ2.1.1) hQ2.1.2.1) rfl (by decide) (by decide) (by decide) (by decide) rfl (Nat.le_of_ble_eq_true rfl) (fun v g hp9 => ?_) (fun x9 h9 q9 hp9 => hp9.elim)
              obtain ⟨hv9, hSg, hgg⟩ := hp9
              have etm : pq_tm (pq_add S (0, 1 + sp_mx S j, j, none, none, 0, c)).2.1 S.1 = 1 + sp_mx S j := by show (if S.1 = S.1 then _ else _ : Nat × Nat × Nat × Option Nat × Option Nat × Nat × Int32).2.1 = _; rw [if_pos rfl]
              rw [etm] at hv9
              subst hv9
              refine mp_eq rfl rfl (st2 := [.int (nI (1 + sp_mx S j))]) rfl ?_
              exact mp_iret X d_M_write_77 rfl rfl (by decide) (by decide) ⟨rfl, rfl, ⟨_, hSg⟩, (hg2.mono fun _ _ => mp_nA_A).tr hgg⟩
set_option maxRecDepth 100000 in
set_option maxHeartbeats 4000000 in
theorem k_M_erase {l : Launch} (hl0 : l.stackTraces = false) {G : mp_G} {h : mp_H} {S : pq_S} {ad : Nat → Nat} {x p : Int32} (hS1 : cm_S G h S ad) (hg : sp_g S) :
    mp_M G mp_Ts l y_M_erase 8 1 8 [.ref (G.1 + 0), .int x, .int p] h (cm_R G h (sp_erase S x p)) (cm_T G h (sp_erase S x p)) := by
  have hM : S.1 ≤ 90 := hg.1.1
  refine mp_enter (by decide) Y_M_erase fun E hl X => ?_
  refine mp_eq rfl (L2 := [.val (.ref (G.1 + 0)), .val (.int x), .val (.int p), .unset, .unset]) rfl rfl ?_
  cases hx : sp_ix 3 x with
  | none =>
    have hz : sp_erase S x p = (1, 0, S) := by unfold sp_erase; rw [hx]
    rw [hz]
    refine mp_aload_n X 1 d_M_erase_0 rfl rfl rfl ?_
    refine mp_iload_n X 2 d_M_erase_1 rfl rfl rfl ?_
    refine mp_call X mp_Ts_ok 5 (rest := []) (k_M_pageNumberedF (by rw [hl]; exact hl0) hS1.1 hx) Y_M_pageNumbered in_M (mp_IV X (q := (nR_M, nT_M, 2)) d_M_erase_2 Y_M_pageNumbered ml_M_20 im_M_pageNumbered se_M_pageNumbered (by decide) rfl (by decide) (by show _ = some 1; decide) (Nat.lt_of_lt_of_le (by decide) hS1.1.1) hS1.1.2.1) rfl (by decide) (by decide) (by decide) (by decide) rfl (Nat.le_of_ble_eq_true rfl) (fun v h9 hp9 => hp9.elim) (fun x9 h9 q9 hp9 hq9 hk9 hx9 => ?_)
    obtain ⟨rfl, rfl⟩ := hp9
    exact mp_out X (by decide) (by decide) hq9 hk9 hx9 (cm_Tx (x := 0) hS1)
  | some j =>
    obtain ⟨hj, rfl⟩ := sp_ix_some hx (by decide)
    have hTl := sp_T_len hg.1 hj
    cases hp : sp_ix (rm_T S j).length p with
    | none =>
      have hz : sp_erase S (nI j) p = (2, 0, S) := by unfold sp_erase; rw [hx]; simp only []; rw [hp]
      rw [hz]
      refine mp_aload_n X 1 d_M_erase_0 rfl rfl rfl ?_
      refine mp_iload_n X 2 d_M_erase_1 rfl rfl rfl ?_
      refine mp_callE X mp_Ts_ok 5 (rest := []) (k_M_pageNumberedT _ hS1.1 hj) Y_M_pageNumbered in_M (mp_IV X (q := (nR_M, nT_M, 2)) d_M_erase_2 Y_M_pageNumbered ml_M_20 im_M_pageNumbered se_M_pageNumbered (by decide) rfl (by decide) (by show _ = some 1; decide) (Nat.lt_of_lt_of_le (by decide) hS1.1.1) hS1.1.2.1) rfl (by decide) (by decide) (by decide) (by decide) rfl (Nat.le_of_ble_eq_true rfl) rfl ?_
      refine mp_eq rfl rfl (st2 := [.ref (G.1 + (2 + 8 * j))]) rfl ?_
      refine mp_astore_n X 6 (L' := [.val (.ref (G.1 + 0)), .val (.int (nI j)), .val (.int (p)), .val (.ref (G.1 + (2 + 8 * j))), .unset]) d_M_erase_5 rfl rfl rfl rfl rfl ?_
      refine mp_aload_n X 7 d_M_erase_6 rfl rfl rfl ?_
      refine mp_iload_n X 8 d_M_erase_7 rfl rfl rfl ?_
      refine mp_call X mp_Ts_ok 11 (rest := []) (k_P_writingShownAtF (by rw [hl]; exact hl0) (hS1.2.2.2 j hj).1 (hS1.2.2.2 j hj).2 hg.1 hj hp) Y_P_writingShownAt in_P (mp_IV X (q := (nR_P, nT_P, 12)) d_M_erase_8 Y_P_writingShownAt ml_M_51 im_P_writingShownAt se_P_writingShownAt (by decide) rfl (by decide) (by show _ = some 1; decide) ((hS1.2.2.2 j hj).1.sz (by omega)) (hS1.2.2.2 j hj).1.ob) rfl (by decide) (by decide) (by decide) (by decide) rfl (Nat.le_of_ble_eq_true rfl) (fun v h9 hp9 => hp9.elim) (fun x9 h9 q9 hp9 hq9 hk9 hx9 => ?_)
      obtain ⟨rfl, rfl⟩ := hp9
      exact mp_out X (by decide) (by decide) hq9 hk9 hx9 (cm_Tx (x := 1) hS1)
    | some q =>
      obtain ⟨hq, rfl⟩ := sp_ix_some hp (by omega)
      have hz : sp_erase S (nI j) (nI q) = if S.1 = 90 then (3, 0, S) else (0, pq_le S.2.1 (sp_t S j q), sp_new S j 1 (some (sp_t S j q)) none 0 0) := by unfold sp_erase; rw [hx]; simp only []; rw [hp]
      by_cases hM90 : S.1 = 90
      · rw [hz, if_pos hM90]
        refine mp_aload_n X 1 d_M_erase_0 rfl rfl rfl ?_
        refine mp_iload_n X 2 d_M_erase_1 rfl rfl rfl ?_
        refine mp_callE X mp_Ts_ok 5 (rest := []) (k_M_pageNumberedT _ hS1.1 hj) Y_M_pageNumbered in_M (mp_IV X (q := (nR_M, nT_M, 2)) d_M_erase_2 Y_M_pageNumbered ml_M_20 im_M_pageNumbered se_M_pageNumbered (by decide) rfl (by decide) (by show _ = some 1; decide) (Nat.lt_of_lt_of_le (by decide) hS1.1.1) hS1.1.2.1) rfl (by decide) (by decide) (by decide) (by decide) rfl (Nat.le_of_ble_eq_true rfl) rfl ?_
        refine mp_eq rfl rfl (st2 := [.ref (G.1 + (2 + 8 * j))]) rfl ?_
        refine mp_astore_n X 6 (L' := [.val (.ref (G.1 + 0)), .val (.int (nI j)), .val (.int (nI q)), .val (.ref (G.1 + (2 + 8 * j))), .unset]) d_M_erase_5 rfl rfl rfl rfl rfl ?_
        refine mp_aload_n X 7 d_M_erase_6 rfl rfl rfl ?_
        refine mp_iload_n X 8 d_M_erase_7 rfl rfl rfl ?_
        refine mp_callE X mp_Ts_ok 11 (rest := []) (k_P_writingShownAtT _ (hS1.2.2.2 j hj).1 (hS1.2.2.2 j hj).2 hg.1 hj hq) Y_P_writingShownAt in_P (mp_IV X (q := (nR_P, nT_P, 12)) d_M_erase_8 Y_P_writingShownAt ml_M_51 im_P_writingShownAt se_P_writingShownAt (by decide) rfl (by decide) (by show _ = some 1; decide) ((hS1.2.2.2 j hj).1.sz (by omega)) (hS1.2.2.2 j hj).1.ob) rfl (by decide) (by decide) (by decide) (by decide) rfl (Nat.le_of_ble_eq_true rfl) rfl ?_
        refine mp_eq rfl rfl (st2 := [.ref (G.1 + (ad (sp_t S j q)))]) rfl ?_
        refine mp_astore X 13 (L' := [.val (.ref (G.1 + 0)), .val (.int (nI j)), .val (.int (nI q)), .val (.ref (G.1 + (2 + 8 * j))), .val (.ref (G.1 + (ad (sp_t S j q))))]) d_M_erase_11 rfl rfl rfl rfl ?_
        refine mp_aload_n X 14 d_M_erase_13 rfl rfl rfl ?_
        refine mp_call X mp_Ts_ok 17 (rest := []) (k_M_rwF (by rw [hl]; exact hl0) (Nat.lt_of_lt_of_le (by decide) hS1.1.1) hS1.1.2.1 (by rw [hS1.2.1, hM90])) Y_M_refuseWhenAllAreMade in_M (mp_IV X (q := (nR_M, nT_M, 2)) d_M_erase_14 Y_M_refuseWhenAllAreMade ml_M_31 im_M_refuseWhenAllAreMade se_M_refuseWhenAllAreMade (by decide) rfl (by decide) (by show _ = some 0; decide) (Nat.lt_of_lt_of_le (by decide) hS1.1.1) hS1.1.2.1) rfl (by decide) (by decide) (by decide) (by decide) rfl (Nat.le_of_ble_eq_true rfl) (fun v h9 hp9 => hp9.elim) (fun x9 h9 q9 hp9 hq9 hk9 hx9 => ?_)
        obtain ⟨rfl, rfl⟩ := hp9
        exact mp_out X (by decide) (by decide) hq9 hk9 hx9 (cm_Tx (x := 2) hS1)
      · have hok9 := (hg.erase (x := nI j) (p := nI q)).1
        rw [hz, if_neg hM90] at hok9 ⊢
        obtain ⟨htM, htso⟩ := sp_t_lt hg.1 hj hq
        refine mp_aload_n X 1 d_M_erase_0 rfl rfl rfl ?_
        refine mp_iload_n X 2 d_M_erase_1 rfl rfl rfl ?_
        refine mp_callE X mp_Ts_ok 5 (rest := []) (k_M_pageNumberedT _ hS1.1 hj) Y_M_pageNumbered in_M (mp_IV X (q := (nR_M, nT_M, 2)) d_M_erase_2 Y_M_pageNumbered ml_M_20 im_M_pageNumbered se_M_pageNumbered (by decide) rfl (by decide) (by show _ = some 1; decide) (Nat.lt_of_lt_of_le (by decide) hS1.1.1) hS1.1.2.1) rfl (by decide) (by decide) (by decide) (by decide) rfl (Nat.le_of_ble_eq_true rfl) rfl ?_
        refine mp_eq rfl rfl (st2 := [.ref (G.1 + (2 + 8 * j))]) rfl ?_
        refine mp_astore_n X 6 (L' := [.val (.ref (G.1 + 0)), .val (.int (nI j)), .val (.int (nI q)), .val (.ref (G.1 + (2 + 8 * j))), .unset]) d_M_erase_5 rfl rfl rfl rfl rfl ?_
        refine mp_aload_n X 7 d_M_erase_6 rfl rfl rfl ?_
        refine mp_iload_n X 8 d_M_erase_7 rfl rfl rfl ?_
        refine mp_callE X mp_Ts_ok 11 (rest := []) (k_P_writingShownAtT _ (hS1.2.2.2 j hj).1 (hS1.2.2.2 j hj).2 hg.1 hj hq) Y_P_writingShownAt in_P (mp_IV X (q := (nR_P, nT_P, 12)) d_M_erase_8 Y_P_writingShownAt ml_M_51 im_P_writingShownAt se_P_writingShownAt (by decide) rfl (by decide) (by show _ = some 1; decide) ((hS1.2.2.2 j hj).1.sz (by omega)) (hS1.2.2.2 j hj).1.ob) rfl (by decide) (by decide) (by decide) (by decide) rfl (Nat.le_of_ble_eq_true rfl) rfl ?_
        refine mp_eq rfl rfl (st2 := [.ref (G.1 + (ad (sp_t S j q)))]) rfl ?_
        refine mp_astore X 13 (L' := [.val (.ref (G.1 + 0)), .val (.int (nI j)), .val (.int (nI q)), .val (.ref (G.1 + (2 + 8 * j))), .val (.ref (G.1 + (ad (sp_t S j q))))]) d_M_erase_11 rfl rfl rfl rfl ?_
        refine mp_aload_n X 14 d_M_erase_13 rfl rfl rfl ?_
        refine mp_callE X mp_Ts_ok 17 (rest := []) (k_M_rwT _ (Nat.lt_of_lt_of_le (by decide) hS1.1.1) hS1.1.2.1 hS1.2.1 (by omega)) Y_M_refuseWhenAllAreMade in_M (mp_IV X (q := (nR_M, nT_M, 2)) d_M_erase_14 Y_M_refuseWhenAllAreMade ml_M_31 im_M_refuseWhenAllAreMade se_M_refuseWhenAllAreMade (by decide) rfl (by decide) (by show _ = some 0; decide) (Nat.lt_of_lt_of_le (by decide) hS1.1.1) hS1.1.2.1) rfl (by decide) (by decide) (by decide) (by decide) rfl (Nat.le_of_ble_eq_true rfl) rfl ?_
        refine mp_aload_n X 18 d_M_erase_17 rfl rfl rfl ?_
        refine mp_aload_n X 19 d_M_erase_18 rfl rfl rfl ?_
        refine mp_newo X 22 ln_M_55 d_M_erase_19 rfl (by decide) (by decide) ?_
        obtain ⟨h1, eh1⟩ : ∃ z, z = mp_new h 3 4 (fun k => defaultValue (nF_E k)) := ⟨_, rfl⟩
        rw [← eh1]
        have hg1 : mp_gr mp_nA h h1 := by rw [eh1]; exact mp_gr.new _ _ _
        have hS2 : cm_S G h1 S ad := hS1.gr0 hg1
        have hz1 : h1.2.2 = h.2.2 + 1 := by rw [eh1]; rfl
        have hk1 : h1.1 h.2.2 = (3, 4) := by rw [eh1]; show (if h.2.2 = h.2.2 then _ else _) = _; rw [if_pos rfl]
        have h41 : 41 ≤ h.2.2 := hS1.1.1
        refine mp_dup X 23 d_M_erase_22 rfl rfl ?_
        refine mp_aload_n X 24 d_M_erase_23 rfl rfl rfl ?_
        refine mp_getf (v := .int (nI (S.1))) X 27 lk_M_16_M d_M_erase_24 rfl (Nat.lt_of_lt_of_le (by decide) hS2.1.1) hS2.1.2.1 hS2.2.1 ?_
        refine mp_aload_n X 28 d_M_erase_27 rfl rfl rfl ?_
        refine mp_callE X mp_Ts_ok 31 (rest := [.int (nI (S.1)), .ref (G.1 + (h.2.2)), .ref (G.1 + (h.2.2)), .ref (G.1 + (2 + 8 * j)), .ref (G.1 + 0)]) (k_P_nextTime _ (hS2.2.2.2 j hj).1 (hS2.2.2.2 j hj).2.2.1) Y_P_nextTime in_P (mp_IV X (q := (nR_P, nT_P, 12)) d_M_erase_28 Y_P_nextTime ml_M_40 im_P_nextTime se_P_nextTime (by decide) rfl (by decide) (by show _ = some 0; decide) ((hS2.2.2.2 j hj).1.sz (by omega)) (hS2.2.2.2 j hj).1.ob) rfl (by decide) (by decide) (by decide) (by decide) rfl (Nat.le_of_ble_eq_true rfl) rfl ?_
        refine mp_eq rfl rfl (st2 := [.int (nI ((1 + sp_mx S j))), .int (nI (S.1)), .ref (G.1 + (h.2.2)), .ref (G.1 + (h.2.2)), .ref (G.1 + (2 + 8 * j)), .ref (G.1 + 0)]) rfl ?_
        refine mp_iload_n X 32 d_M_erase_31 rfl rfl rfl ?_
        refine mp_aload X 34 d_M_erase_32 rfl rfl ?_
        refine mp_call X mp_Ts_ok 37 (rest := [.ref (G.1 + (h.2.2)), .ref (G.1 + (2 + 8 * j)), .ref (G.1 + 0)]) (k_E_init (a := h.2.2) (b := ad (sp_t S j q)) _ (by omega) hk1) Y_E_init in_E (mp_II X d_M_erase_34 rfl wd_323 ml_M_57 im_E_init (by decide) (by show _ = some 4; decide)) rfl (by decide) (by decide) (by decide) (by decide) rfl (Nat.le_of_ble_eq_true rfl) (fun v h2 hp9 => ?_) (fun x9 h9 q9 hp9 => hp9.elim)
        obtain ⟨rfl, eh2⟩ := hp9
        have hz2 : h.2.2 < h2.2.2 := by rw [eh2]; show h.2.2 < h1.2.2; omega
        have hk2 : h2.1 h.2.2 = (3, 4) := by rw [eh2]; exact hk1
        have hg2 : mp_gr mp_nA h h2 := by rw [eh2]; unfold cp_o3; exact ((((hg1.set (Or.inl (Nat.le_refl _))).set (Or.inl (Nat.le_refl _))).set (Or.inl (Nat.le_refl _))).set (Or.inl (Nat.le_refl _)))
        have f0 : h2.2.1 h.2.2 0 = .int (nI S.1) := by rw [eh2]; simp [cp_o3, mp_set]
        have f1 : h2.2.1 h.2.2 1 = .int (nI (1 + sp_mx S j)) := by rw [eh2]; simp [cp_o3, mp_set]
        have f2 : h2.2.1 h.2.2 2 = .int (nI (4 * (1 + sp_mx S j) + j)) := by rw [eh2]; simp [cp_o3, mp_set]
        have f3 : h2.2.1 h.2.2 3 = .ref (G.1 + ad (sp_t S j q)) := by rw [eh2]; simp [cp_o3, mp_set]
        have hn := cm_newE (G := G) (ad := ad) (fi := some (sp_t S j q)) h41 hz2 hk2 f0 f1 f2 (f3.trans (cm_tr hg.1 hj hq))
        have hQ2 := cm_grow hS1 hg.1 hg2 hn
        refine mp_eq rfl rfl (st2 := [.ref (G.1 + (h.2.2)), .ref (G.1 + (2 + 8 * j)), .ref (G.1 + 0)]) rfl ?_
        have hmk := k_M_make E.l hQ2 rfl hok9 hj
        rw [cm_ad_n] at hmk
        refine mp_call X mp_Ts_ok 40 (rest := []) hmk Y_M_make in_M (mp_IV X (q := (nR_M, nT_M, 2)) d_M_erase_37 Y_M_make ml_M_47 im_M_make se_M_make (by decide) rfl (by decide) (by show _ = some 2; decide) (Nat.lt_of_lt_of_le (by decide) hQ2.1.1) hQ2.1.2.1) rfl (by decide) (by decide) (by decide) (by decide) rfl (Nat.le_of_ble_eq_true rfl) (fun v g hp9 => ?_) (fun x9 h9 q9 hp9 => hp9.elim)
        obtain ⟨hv9, hSg, hgg⟩ := hp9
        have etm : pq_tm (pq_add S (1, 1 + sp_mx S j, j, some (sp_t S j q), none, 0, 0)).2.1 S.1 = 1 + sp_mx S j := by show (if S.1 = S.1 then _ else _ : Nat × Nat × Nat × Option Nat × Option Nat × Nat × Int32).2.1 = _; rw [if_pos rfl]
        rw [etm] at hv9
        subst hv9
        refine mp_eq rfl rfl (st2 := [.int (nI (1 + sp_mx S j))]) rfl ?_
        obtain ⟨w1, w2, w3, w4, w5, w6⟩ := hSg.2.2.1.wr (k := sp_t S j q) (by show _ < S.1 + 1; omega) (by show (if sp_t S j q = S.1 then _ else S.2.1 (sp_t S j q) : Nat × Nat × Nat × Option Nat × Option Nat × Nat × Int32).1 = 0; rw [if_neg (by omega)]; exact htso)
        have ele : pq_le (pq_lrn (pq_add S (1, 1 + sp_mx S j, j, some (sp_t S j q), none, 0, 0)) j S.1).2.1 (sp_t S j q) = pq_le S.2.1 (sp_t S j q) := by show (if sp_t S j q = S.1 then _ else S.2.1 (sp_t S j q) : Nat × Nat × Nat × Option Nat × Option Nat × Nat × Int32).2.2.2.2.2.2 = _; rw [if_neg (by omega)]
        rw [ele] at w5
        rw [cm_ad_o (by omega)] at w1 w2 w5
        refine mp_pop X 41 d_M_erase_40 rfl rfl ?_
        refine mp_aload X 43 d_M_erase_41 rfl rfl ?_
        refine mp_getf (v := .int (pq_le S.2.1 (sp_t S j q))) X 46 lk_M_60_W d_M_erase_43 rfl w1 w2 w5 ?_
        exact mp_iret X d_M_erase_46 rfl (hg.2 _ htM htso) (by decide) (by decide) ⟨rfl, rfl, ⟨_, hSg⟩, (hg2.mono fun _ _ => mp_nA_A).tr hgg⟩
theorem sp_mark_bad {S : pq_S} {j k : Nat} {f t : Int32} (hj : j < 3) (hk : k < 8) (hTl : (rm_T S j).length ≤ 90) (h : ¬ (¬ f < nI 0 ∧ ¬ t ≤ f ∧ ¬ nI (rm_T S j).length < t)) : sp_mark S (nI j) f t (nI k) = (2, 0, S) := by
  unfold sp_mark
  rw [sp_ix_of hj (by decide), sp_ix_of hk (by decide)]
  simp only []
  cases hf : sp_ix (rm_T S j).length f with
  | none => rfl
  | some a =>
    cases ht : sp_ix ((rm_T S j).length + 1) t with
    | none => rfl
    | some b =>
      obtain ⟨ha, rfl⟩ := sp_ix_some hf (by omega)
      obtain ⟨hb, rfl⟩ := sp_ix_some ht (by omega)
      simp only []
      by_cases hba : b ≤ a
      · rw [if_pos hba]
      · exact absurd ⟨fun z => absurd ((nI_ltI (by omega) (by decide)).mp z) (by omega), fun z => absurd ((nI_leI (by omega) (by omega)).mp z) (by omega), fun z => absurd ((nI_ltI (by omega) (by omega)).mp z) (by omega)⟩ h
set_option maxRecDepth 100000 in
set_option maxHeartbeats 4000000 in
theorem k_M_mark {l : Launch} (hl0 : l.stackTraces = false) {G : mp_G} {h : mp_H} {S : pq_S} {ad : Nat → Nat} {x f t w : Int32} (hS1 : cm_S G h S ad) (hg : sp_g S) :
    mp_M G mp_Ts l y_M_mark 8 1 8 [.ref (G.1 + 0), .int x, .int f, .int t, .int w] h (cm_R G h (sp_mark S x f t w)) (cm_T G h (sp_mark S x f t w)) := by
  have hM : S.1 ≤ 90 := hg.1.1
  refine mp_enter (by decide) Y_M_mark fun E hl X => ?_
  refine mp_eq rfl (L2 := [.val (.ref (G.1 + 0)), .val (.int x), .val (.int f), .val (.int t), .val (.int w), .unset, .unset, .unset, .unset]) rfl rfl ?_
  cases hx : sp_ix 3 x with
  | none =>
    have hz : sp_mark S x f t w = (1, 0, S) := by unfold sp_mark; rw [hx]
    rw [hz]
    refine mp_aload_n X 1 d_M_mark_0 rfl rfl rfl ?_
    refine mp_iload_n X 2 d_M_mark_1 rfl rfl rfl ?_
    refine mp_call X mp_Ts_ok 5 (rest := []) (k_M_pageNumberedF (by rw [hl]; exact hl0) hS1.1 hx) Y_M_pageNumbered in_M (mp_IV X (q := (nR_M, nT_M, 2)) d_M_mark_2 Y_M_pageNumbered ml_M_20 im_M_pageNumbered se_M_pageNumbered (by decide) rfl (by decide) (by show _ = some 1; decide) (Nat.lt_of_lt_of_le (by decide) hS1.1.1) hS1.1.2.1) rfl (by decide) (by decide) (by decide) (by decide) rfl (Nat.le_of_ble_eq_true rfl) (fun v h9 hp9 => hp9.elim) (fun x9 h9 q9 hp9 hq9 hk9 hx9 => ?_)
    obtain ⟨rfl, rfl⟩ := hp9
    exact mp_out X (by decide) (by decide) hq9 hk9 hx9 (cm_Tx (x := 0) hS1)
  | some j =>
    obtain ⟨hj, rfl⟩ := sp_ix_some hx (by decide)
    have hTl := sp_T_len hg.1 hj
    cases hw8 : sp_ix 8 w with
    | none =>
      have hz : sp_mark S (nI j) f t w = (1, 0, S) := by unfold sp_mark; rw [hx, hw8]
      rw [hz]
      refine mp_aload_n X 1 d_M_mark_0 rfl rfl rfl ?_
      refine mp_iload_n X 2 d_M_mark_1 rfl rfl rfl ?_
      refine mp_callE X mp_Ts_ok 5 (rest := []) (k_M_pageNumberedT _ hS1.1 hj) Y_M_pageNumbered in_M (mp_IV X (q := (nR_M, nT_M, 2)) d_M_mark_2 Y_M_pageNumbered ml_M_20 im_M_pageNumbered se_M_pageNumbered (by decide) rfl (by decide) (by show _ = some 1; decide) (Nat.lt_of_lt_of_le (by decide) hS1.1.1) hS1.1.2.1) rfl (by decide) (by decide) (by decide) (by decide) rfl (Nat.le_of_ble_eq_true rfl) rfl ?_
      refine mp_eq rfl rfl (st2 := [.ref (G.1 + (2 + 8 * j))]) rfl ?_
      refine mp_astore X 7 (L' := [.val (.ref (G.1 + 0)), .val (.int (nI j)), .val (.int (f)), .val (.int (t)), .val (.int (w)), .val (.ref (G.1 + (2 + 8 * j))), .unset, .unset, .unset]) d_M_mark_5 rfl rfl rfl rfl ?_
      refine mp_iload X 9 d_M_mark_7 rfl rfl ?_
      refine mp_if_lt X 23 12 d_M_mark_9 (by decide) rfl (fun q1 => ?_) (fun q1 => ?_)
      · refine mp_iconst X 24 (v := nI 0) d_M_mark_23 rfl (by decide) ?_
        refine mp_call X mp_Ts_ok 27 (rest := []) (k_M_raF (by rw [hl]; exact hl0)) Y_M_refuseArgumentUnless in_M (mp_IS X d_M_mark_24 Y_M_refuseArgumentUnless ml_M_64 st_M_refuseArgumentUnless in_M (by decide) (by show _ = some 1; decide)) rfl (by decide) (by decide) (by decide) (by decide) rfl (Nat.le_of_ble_eq_true rfl) (fun v h9 hp9 => hp9.elim) (fun x9 h9 q9 hp9 hq9 hk9 hx9 => ?_)
        obtain ⟨rfl, rfl⟩ := hp9
        exact mp_out X (by decide) (by decide) hq9 hk9 hx9 (cm_Tx (x := 0) hS1)
      · refine mp_iload X 14 d_M_mark_12 rfl rfl ?_
        refine mp_bipush X 16 (v := nI 8) d_M_mark_14 rfl (by decide) ?_
        refine mp_icmp_ge X 23 19 d_M_mark_16 (by decide) rfl (fun q2 => ?_) (fun q2 => ?_)
        · refine mp_iconst X 24 (v := nI 0) d_M_mark_23 rfl (by decide) ?_
          refine mp_call X mp_Ts_ok 27 (rest := []) (k_M_raF (by rw [hl]; exact hl0)) Y_M_refuseArgumentUnless in_M (mp_IS X d_M_mark_24 Y_M_refuseArgumentUnless ml_M_64 st_M_refuseArgumentUnless in_M (by decide) (by show _ = some 1; decide)) rfl (by decide) (by decide) (by decide) (by decide) rfl (Nat.le_of_ble_eq_true rfl) (fun v h9 hp9 => hp9.elim) (fun x9 h9 q9 hp9 hq9 hk9 hx9 => ?_)
          obtain ⟨rfl, rfl⟩ := hp9
          exact mp_out X (by decide) (by decide) hq9 hk9 hx9 (cm_Tx (x := 0) hS1)
        · exfalso; obtain ⟨q0, hq0, rfl⟩ := nI_of q1; have := Nat.not_le.mp fun z => q2 ((nI_leI (by decide) hq0).mpr z); rw [sp_ix_of (by omega) (by decide)] at hw8; cases hw8
    | some k =>
      obtain ⟨hk8, rfl⟩ := sp_ix_some hw8 (by decide)
      refine mp_aload_n X 1 d_M_mark_0 rfl rfl rfl ?_
      refine mp_iload_n X 2 d_M_mark_1 rfl rfl rfl ?_
      refine mp_callE X mp_Ts_ok 5 (rest := []) (k_M_pageNumberedT _ hS1.1 hj) Y_M_pageNumbered in_M (mp_IV X (q := (nR_M, nT_M, 2)) d_M_mark_2 Y_M_pageNumbered ml_M_20 im_M_pageNumbered se_M_pageNumbered (by decide) rfl (by decide) (by show _ = some 1; decide) (Nat.lt_of_lt_of_le (by decide) hS1.1.1) hS1.1.2.1) rfl (by decide) (by decide) (by decide) (by decide) rfl (Nat.le_of_ble_eq_true rfl) rfl ?_
      refine mp_eq rfl rfl (st2 := [.ref (G.1 + (2 + 8 * j))]) rfl ?_
      refine mp_astore X 7 (L' := [.val (.ref (G.1 + 0)), .val (.int (nI j)), .val (.int (f)), .val (.int (t)), .val (.int (nI k)), .val (.ref (G.1 + (2 + 8 * j))), .unset, .unset, .unset]) d_M_mark_5 rfl rfl rfl rfl ?_
      refine mp_iload X 9 d_M_mark_7 rfl rfl ?_
      refine mp_Zlt X 23 12 d_M_mark_9 (by decide) rfl (by omega) (fun q1 => ?_) (fun q1 => ?_)
      · exact q1.elim
      · refine mp_iload X 14 d_M_mark_12 rfl rfl ?_
        refine mp_bipush X 16 (v := nI 8) d_M_mark_14 rfl (by decide) ?_
        refine mp_Nge X 23 19 d_M_mark_16 (by decide) rfl (by omega) (by omega) (fun q2 => ?_) (fun q2 => ?_)
        · omega
        · refine mp_iconst X 20 (v := nI 1) d_M_mark_19 rfl (by decide) ?_
          refine mp_goto X 24 d_M_mark_20 (by decide) ?_
          refine mp_callE X mp_Ts_ok 27 (rest := []) (k_M_raT _) Y_M_refuseArgumentUnless in_M (mp_IS X d_M_mark_24 Y_M_refuseArgumentUnless ml_M_64 st_M_refuseArgumentUnless in_M (by decide) (by show _ = some 1; decide)) rfl (by decide) (by decide) (by decide) (by decide) rfl (Nat.le_of_ble_eq_true rfl) rfl ?_
          refine mp_iconst X 28 (v := nI 0) d_M_mark_27 rfl (by decide) ?_
          refine mp_iload_n X 29 d_M_mark_28 rfl rfl rfl ?_
          refine mp_icmp_gt X 50 32 d_M_mark_29 (by decide) rfl (fun q3 => ?_) (fun q3 => ?_)
          · refine mp_iconst X 51 (v := nI 0) d_M_mark_50 rfl (by decide) ?_
            rw [sp_mark_bad hj hk8 hTl (fun z => z.1 q3)]
            refine mp_call X mp_Ts_ok 54 (rest := []) (k_M_riF (by rw [hl]; exact hl0)) Y_M_refuseIndexUnless in_M (mp_IS X d_M_mark_51 Y_M_refuseIndexUnless ml_M_27 st_M_refuseIndexUnless in_M (by decide) (by show _ = some 1; decide)) rfl (by decide) (by decide) (by decide) (by decide) rfl (Nat.le_of_ble_eq_true rfl) (fun v h9 hp9 => hp9.elim) (fun x9 h9 q9 hp9 hq9 hk9 hx9 => ?_)
            obtain ⟨rfl, rfl⟩ := hp9
            exact mp_out X (by decide) (by decide) hq9 hk9 hx9 (cm_Tx (x := 1) hS1)
          · refine mp_iload_n X 33 d_M_mark_32 rfl rfl rfl ?_
            refine mp_iload_n X 34 d_M_mark_33 rfl rfl rfl ?_
            refine mp_icmp_ge X 50 37 d_M_mark_34 (by decide) rfl (fun q4 => ?_) (fun q4 => ?_)
            · refine mp_iconst X 51 (v := nI 0) d_M_mark_50 rfl (by decide) ?_
              rw [sp_mark_bad hj hk8 hTl (fun z => z.2.1 q4)]
              refine mp_call X mp_Ts_ok 54 (rest := []) (k_M_riF (by rw [hl]; exact hl0)) Y_M_refuseIndexUnless in_M (mp_IS X d_M_mark_51 Y_M_refuseIndexUnless ml_M_27 st_M_refuseIndexUnless in_M (by decide) (by show _ = some 1; decide)) rfl (by decide) (by decide) (by decide) (by decide) rfl (Nat.le_of_ble_eq_true rfl) (fun v h9 hp9 => hp9.elim) (fun x9 h9 q9 hp9 hq9 hk9 hx9 => ?_)
              obtain ⟨rfl, rfl⟩ := hp9
              exact mp_out X (by decide) (by decide) hq9 hk9 hx9 (cm_Tx (x := 1) hS1)
            · refine mp_iload_n X 38 d_M_mark_37 rfl rfl rfl ?_
              refine mp_aload X 40 d_M_mark_38 rfl rfl ?_
              refine mp_getf (v := .int (nI ((rm_T S j).length))) X 43 lk_M_24_P d_M_mark_40 rfl ((hS1.2.2.2 j hj).1.sz (by omega)) (hS1.2.2.2 j hj).1.ob (hS1.2.2.2 j hj).2.2.2.2.2.2.1 ?_
              refine mp_icmp_gt X 50 46 d_M_mark_43 (by decide) rfl (fun q5 => ?_) (fun q5 => ?_)
              · refine mp_iconst X 51 (v := nI 0) d_M_mark_50 rfl (by decide) ?_
                rw [sp_mark_bad hj hk8 hTl (fun z => z.2.2 q5)]
                refine mp_call X mp_Ts_ok 54 (rest := []) (k_M_riF (by rw [hl]; exact hl0)) Y_M_refuseIndexUnless in_M (mp_IS X d_M_mark_51 Y_M_refuseIndexUnless ml_M_27 st_M_refuseIndexUnless in_M (by decide) (by show _ = some 1; decide)) rfl (by decide) (by decide) (by decide) (by decide) rfl (Nat.le_of_ble_eq_true rfl) (fun v h9 hp9 => hp9.elim) (fun x9 h9 q9 hp9 hq9 hk9 hx9 => ?_)
                obtain ⟨rfl, rfl⟩ := hp9
                exact mp_out X (by decide) (by decide) hq9 hk9 hx9 (cm_Tx (x := 1) hS1)
              · obtain ⟨a, ha0, rfl⟩ := nI_of (x := f) q3
                have hft : nI a < t := Int32.not_le.mp q4
                obtain ⟨b, hb0, rfl⟩ := nI_of (x := t) (fun z => nI_pos ha0 (Int32.lt_trans hft z))
                have hab := (nI_ltI ha0 hb0).mp hft
                have hbl : b ≤ (rm_T S j).length := Nat.not_lt.mp fun z => q5 ((nI_ltI (by omega) hb0).mpr z)
                have hz : sp_mark S (nI j) (nI a) (nI b) (nI k) = if S.1 = 90 then (3, 0, S) else (0, nI (1 + sp_mx S j), sp_new S j 2 (some (sp_t S j a)) (if 3 < k then some (sp_t S j (b - 1)) else if b < (rm_T S j).length then some (sp_t S j b) else none) k 0) := by unfold sp_mark; rw [hx, hw8]; simp only []; rw [sp_ix_of (by omega) (by omega), sp_ix_of (show b < (rm_T S j).length + 1 by omega) (by omega)]; simp only []; rw [if_neg (show ¬ b ≤ a by omega)]
                refine mp_iconst X 47 (v := nI 1) d_M_mark_46 rfl (by decide) ?_
                refine mp_goto X 51 d_M_mark_47 (by decide) ?_
                refine mp_callE X mp_Ts_ok 54 (rest := []) (k_M_riT _) Y_M_refuseIndexUnless in_M (mp_IS X d_M_mark_51 Y_M_refuseIndexUnless ml_M_27 st_M_refuseIndexUnless in_M (by decide) (by show _ = some 1; decide)) rfl (by decide) (by decide) (by decide) (by decide) rfl (Nat.le_of_ble_eq_true rfl) rfl ?_
                refine mp_aload_n X 55 d_M_mark_54 rfl rfl rfl ?_
                by_cases hM90 : S.1 = 90
                · rw [hz, if_pos hM90]
                  refine mp_call X mp_Ts_ok 58 (rest := []) (k_M_rwF (by rw [hl]; exact hl0) (Nat.lt_of_lt_of_le (by decide) hS1.1.1) hS1.1.2.1 (by rw [hS1.2.1, hM90])) Y_M_refuseWhenAllAreMade in_M (mp_IV X (q := (nR_M, nT_M, 2)) d_M_mark_55 Y_M_refuseWhenAllAreMade ml_M_31 im_M_refuseWhenAllAreMade se_M_refuseWhenAllAreMade (by decide) rfl (by decide) (by show _ = some 0; decide) (Nat.lt_of_lt_of_le (by decide) hS1.1.1) hS1.1.2.1) rfl (by decide) (by decide) (by decide) (by decide) rfl (Nat.le_of_ble_eq_true rfl) (fun v h9 hp9 => hp9.elim) (fun x9 h9 q9 hp9 hq9 hk9 hx9 => ?_)
                  obtain ⟨rfl, rfl⟩ := hp9
                  exact mp_out X (by decide) (by decide) hq9 hk9 hx9 (cm_Tx (x := 2) hS1)
                have hok9 := (hg.mark (x := nI j) (f := nI a) (t := nI b) (w := nI k)).1
                rw [hz, if_neg hM90] at hok9 ⊢
                obtain ⟨en0, hen0⟩ : ∃ e : Nat, e = if k < 4 then 1 else 0 := ⟨_, rfl⟩
                have hen2 : en0 < 2 := by rw [hen0]; split <;> omega
                refine mp_callE X mp_Ts_ok 58 (rest := []) (k_M_rwT _ (Nat.lt_of_lt_of_le (by decide) hS1.1.1) hS1.1.2.1 hS1.2.1 (by omega)) Y_M_refuseWhenAllAreMade in_M (mp_IV X (q := (nR_M, nT_M, 2)) d_M_mark_55 Y_M_refuseWhenAllAreMade ml_M_31 im_M_refuseWhenAllAreMade se_M_refuseWhenAllAreMade (by decide) rfl (by decide) (by show _ = some 0; decide) (Nat.lt_of_lt_of_le (by decide) hS1.1.1) hS1.1.2.1) rfl (by decide) (by decide) (by decide) (by decide) rfl (Nat.le_of_ble_eq_true rfl) rfl ?_
                refine mp_aload X 60 d_M_mark_58 rfl rfl ?_
                refine mp_getf (v := .ref (G.1 + (2 + 8 * j + 3))) X 63 lk_M_34_P d_M_mark_60 rfl ((hS1.2.2.2 j hj).1.sz (by omega)) (hS1.2.2.2 j hj).1.ob (hS1.2.2.2 j hj).1.r_text ?_
                refine mp_iload_n X 64 d_M_mark_63 rfl rfl rfl ?_
                refine mp_aald (t := 6) (v := .ref (G.1 + (ad (sp_t S j a)))) X 65 (a) d_M_mark_64 rfl ((hS1.2.2.2 j hj).1.sz (by omega)) (hS1.2.2.2 j hj).1.k_text (by decide) (by decide) rfl (by omega) (by decide) (cp_tx (hS1.2.2.2 j hj).2 (by omega)) ?_
                refine mp_astore X 67 (L' := [.val (.ref (G.1 + 0)), .val (.int (nI j)), .val (.int (nI a)), .val (.int (nI b)), .val (.int (nI k)), .val (.ref (G.1 + (2 + 8 * j))), .val (.ref (G.1 + (ad (sp_t S j a)))), .unset, .unset]) d_M_mark_65 rfl rfl rfl rfl ?_
                refine mp_iload X 69 d_M_mark_67 rfl rfl ?_
                refine mp_callE X mp_Ts_ok 72 (rest := []) (k_K_ends _ hk8 hen0) Y_K_endsBeforeItsEndLetter in_K (mp_IS X d_M_mark_69 Y_K_endsBeforeItsEndLetter ml_M_67 st_K_endsBeforeItsEndLetter in_K (by decide) (by show _ = some 1; decide)) rfl (by decide) (by decide) (by decide) (by decide) rfl (Nat.le_of_ble_eq_true rfl) rfl ?_
                refine mp_Zeq X 79 75 d_M_mark_72 (by decide) rfl (by omega) (fun q6 => ?_) (fun q6 => ?_)
                · refine mp_iload_n X 80 d_M_mark_79 rfl rfl rfl ?_
                  refine mp_iconst X 81 (v := nI 1) d_M_mark_80 rfl (by decide) ?_
                  refine mp_isub X 82 d_M_mark_81 rfl ?_
                  have e7 : nI b - nI 1 = nI (b - 1) := pk_sub (by omega)
                  rw [e7]
                  refine mp_istore X 84 (L' := [.val (.ref (G.1 + 0)), .val (.int (nI j)), .val (.int (nI a)), .val (.int (nI b)), .val (.int (nI k)), .val (.ref (G.1 + (2 + 8 * j))), .val (.ref (G.1 + (ad (sp_t S j a)))), .val (.int (nI (b - 1))), .unset]) d_M_mark_82 rfl rfl rfl rfl ?_
                  refine mp_iload X 86 d_M_mark_84 rfl rfl ?_
                  refine mp_aload X 88 d_M_mark_86 rfl rfl ?_
                  refine mp_getf (v := .int (nI ((rm_T S j).length))) X 91 lk_M_24_P d_M_mark_88 rfl ((hS1.2.2.2 j hj).1.sz (by omega)) (hS1.2.2.2 j hj).1.ob (hS1.2.2.2 j hj).2.2.2.2.2.2.1 ?_
                  refine mp_Nge X 105 94 d_M_mark_91 (by decide) rfl (by omega) (by omega) (fun q8 => ?_) (fun q8 => ?_)
                  · omega
                  · refine mp_aload X 96 d_M_mark_94 rfl rfl ?_
                    refine mp_getf (v := .ref (G.1 + (2 + 8 * j + 3))) X 99 lk_M_34_P d_M_mark_96 rfl ((hS1.2.2.2 j hj).1.sz (by omega)) (hS1.2.2.2 j hj).1.ob (hS1.2.2.2 j hj).1.r_text ?_
                    refine mp_iload X 101 d_M_mark_99 rfl rfl ?_
                    refine mp_aald (t := 6) (v := .ref (G.1 + (ad (sp_t S j (b - 1))))) X 102 (b - 1) d_M_mark_101 rfl ((hS1.2.2.2 j hj).1.sz (by omega)) (hS1.2.2.2 j hj).1.k_text (by decide) (by decide) rfl (by omega) (by decide) (cp_tx (hS1.2.2.2 j hj).2 (by omega)) ?_
                    refine mp_goto X 106 d_M_mark_102 (by decide) ?_
                    refine mp_astore X 108 (L' := [.val (.ref (G.1 + 0)), .val (.int (nI j)), .val (.int (nI a)), .val (.int (nI b)), .val (.int (nI k)), .val (.ref (G.1 + (2 + 8 * j))), .val (.ref (G.1 + (ad (sp_t S j a)))), .val (.int (nI (b - 1))), .val (.ref (G.1 + (ad (sp_t S j (b - 1)))))]) d_M_mark_106 rfl rfl rfl rfl ?_
                    refine mp_aload_n X 109 d_M_mark_108 rfl rfl rfl ?_
                    refine mp_aload X 111 d_M_mark_109 rfl rfl ?_
                    refine mp_newo X 114 ln_M_68 d_M_mark_111 rfl (by decide) (by decide) ?_
                    obtain ⟨h1, eh1⟩ : ∃ z, z = mp_new h 4 8 (fun k => defaultValue (nF_K k)) := ⟨_, rfl⟩
                    rw [← eh1]
                    have hg1 : mp_gr mp_nA h h1 := by rw [eh1]; exact mp_gr.new _ _ _
                    have hS2 : cm_S G h1 S ad := hS1.gr0 hg1
                    have hz1 : h1.2.2 = h.2.2 + 1 := by rw [eh1]; rfl
                    have hk1 : h1.1 h.2.2 = (4, 8) := by rw [eh1]; show (if h.2.2 = h.2.2 then _ else _) = _; rw [if_pos rfl]
                    have h41 : 41 ≤ h.2.2 := hS1.1.1
                    refine mp_dup X 115 d_M_mark_114 rfl rfl ?_
                    refine mp_aload_n X 116 d_M_mark_115 rfl rfl rfl ?_
                    refine mp_getf (v := .int (nI (S.1))) X 119 lk_M_16_M d_M_mark_116 rfl (Nat.lt_of_lt_of_le (by decide) hS2.1.1) hS2.1.2.1 hS2.2.1 ?_
                    refine mp_aload X 121 d_M_mark_119 rfl rfl ?_
                    refine mp_callE X mp_Ts_ok 124 (rest := [.int (nI (S.1)), .ref (G.1 + (h.2.2)), .ref (G.1 + (h.2.2)), .ref (G.1 + (2 + 8 * j)), .ref (G.1 + 0)]) (k_P_nextTime _ (hS2.2.2.2 j hj).1 (hS2.2.2.2 j hj).2.2.1) Y_P_nextTime in_P (mp_IV X (q := (nR_P, nT_P, 12)) d_M_mark_121 Y_P_nextTime ml_M_40 im_P_nextTime se_P_nextTime (by decide) rfl (by decide) (by show _ = some 0; decide) ((hS2.2.2.2 j hj).1.sz (by omega)) (hS2.2.2.2 j hj).1.ob) rfl (by decide) (by decide) (by decide) (by decide) rfl (Nat.le_of_ble_eq_true rfl) rfl ?_
                    refine mp_eq rfl rfl (st2 := [.int (nI ((1 + sp_mx S j))), .int (nI (S.1)), .ref (G.1 + (h.2.2)), .ref (G.1 + (h.2.2)), .ref (G.1 + (2 + 8 * j)), .ref (G.1 + 0)]) rfl ?_
                    refine mp_iload_n X 125 d_M_mark_124 rfl rfl rfl ?_
                    refine mp_iload X 127 d_M_mark_125 rfl rfl ?_
                    refine mp_aload X 129 d_M_mark_127 rfl rfl ?_
                    refine mp_aload X 131 d_M_mark_129 rfl rfl ?_
                    rw [if_pos (show 3 < k by by_cases h4 : k < 4 <;> simp only [h4, if_true, if_false] at hen0 <;> omega)] at hok9 ⊢
                    refine mp_call X mp_Ts_ok 134 (rest := [.ref (G.1 + (h.2.2)), .ref (G.1 + (2 + 8 * j)), .ref (G.1 + 0)]) (k_K_initR (a := h.2.2) _ (by omega) hk1 hk8) Y_K_init in_K (mp_II X d_M_mark_131 rfl wd_346 ml_M_73 im_K_init (by decide) (by show _ = some 6; decide)) rfl (by decide) (by decide) (by decide) (by decide) rfl (Nat.le_of_ble_eq_true rfl) (fun v h2 hp9 => ?_) (fun x9 h9 q9 hp9 => hp9.elim)
                    obtain ⟨rfl, eh2⟩ := hp9
                    have hz2 : h.2.2 < h2.2.2 := by rw [eh2]; show h.2.2 < h1.2.2; omega
                    have hk2 : h2.1 h.2.2 = (4, 8) := by rw [eh2]; exact hk1
                    have hg2 : mp_gr mp_nA h h2 := by rw [eh2]; unfold cp_o3; exact ((((((((hg1.set (Or.inl (Nat.le_refl _))).set (Or.inl (Nat.le_refl _))).set (Or.inl (Nat.le_refl _))).set (Or.inl (Nat.le_refl _))).set (Or.inl (Nat.le_refl _))).set (Or.inl (Nat.le_refl _))).set (Or.inl (Nat.le_refl _))).set (Or.inl (Nat.le_refl _)))
                    have f0 : h2.2.1 h.2.2 0 = .int (nI S.1) := by rw [eh2]; simp [cp_o3, mp_set]
                    have f1 : h2.2.1 h.2.2 1 = .int (nI (1 + sp_mx S j)) := by rw [eh2]; simp [cp_o3, mp_set]
                    have f2 : h2.2.1 h.2.2 2 = .int (nI (4 * (1 + sp_mx S j) + j)) := by rw [eh2]; simp [cp_o3, mp_set]
                    have f3 : h2.2.1 h.2.2 3 = .int (nI (k % 2)) := by rw [eh2]; simp [cp_o3, mp_set]
                    have f4 : h2.2.1 h.2.2 4 = .int (nI (2 ^ (k / 2))) := by rw [eh2]; simp [cp_o3, mp_set]
                    have f5 : h2.2.1 h.2.2 5 = .int (nI (if k < 4 then 0 else 1)) := by rw [eh2]; simp [cp_o3, mp_set]
                    have f6 : h2.2.1 h.2.2 6 = .ref (G.1 + ad (sp_t S j a)) := by rw [eh2]; simp [cp_o3, mp_set]
                    have f7 : h2.2.1 h.2.2 7 = .ref (G.1 + ad (sp_t S j (b - 1))) := by rw [eh2]; simp [cp_o3, mp_set]
                    have hn := cm_newK (G := G) (ad := ad) (fi := some (sp_t S j a)) (en := some (sp_t S j (b - 1))) h41 hz2 hk2 f0 f1 f2 f3 f4 f5 (f6.trans (cm_tr hg.1 hj (by omega))) (f7.trans (cm_tr hg.1 hj (by omega)))
                    have hQ2 := cm_grow hS1 hg.1 hg2 hn
                    refine mp_eq rfl rfl (st2 := [.ref (G.1 + (h.2.2)), .ref (G.1 + (2 + 8 * j)), .ref (G.1 + 0)]) rfl ?_
                    have hmk := k_M_make E.l hQ2 rfl hok9 hj
                    rw [cm_ad_n] at hmk
                    refine mp_call X mp_Ts_ok 137 (rest := []) hmk Y_M_make in_M (mp_IV X (q := (nR_M, nT_M, 2)) d_M_mark_134 Y_M_make ml_M_47 im_M_make se_M_make (by decide) rfl (by decide) (by show _ = some 2; decide) (Nat.lt_of_lt_of_le (by decide) hQ2.1.1) hQ2.1.2.1) rfl (by decide) (by decide) (by decide) (by decide) rfl (Nat.le_of_ble_eq_true rfl) (fun v g hp9 => ?_) (fun x9 h9 q9 hp9 => hp9.elim)
                    obtain ⟨hv9, hSg, hgg⟩ := hp9
                    have etm : pq_tm (pq_add S (2, 1 + sp_mx S j, j, some (sp_t S j a), some (sp_t S j (b - 1)), k, 0)).2.1 S.1 = 1 + sp_mx S j := by show (if S.1 = S.1 then _ else _ : Nat × Nat × Nat × Option Nat × Option Nat × Nat × Int32).2.1 = _; rw [if_pos rfl]
                    rw [etm] at hv9
                    subst hv9
                    refine mp_eq rfl rfl (st2 := [.int (nI (1 + sp_mx S j))]) rfl ?_
                    exact mp_iret X d_M_mark_137 rfl rfl (by decide) (by decide) ⟨rfl, rfl, ⟨_, hSg⟩, (hg2.mono fun _ _ => mp_nA_A).tr hgg⟩
                · refine mp_iload_n X 76 d_M_mark_75 rfl rfl rfl ?_
                  refine mp_goto X 82 d_M_mark_76 (by decide) ?_
                  refine mp_istore X 84 (L' := [.val (.ref (G.1 + 0)), .val (.int (nI j)), .val (.int (nI a)), .val (.int (nI b)), .val (.int (nI k)), .val (.ref (G.1 + (2 + 8 * j))), .val (.ref (G.1 + (ad (sp_t S j a)))), .val (.int (nI b)), .unset]) d_M_mark_82 rfl rfl rfl rfl ?_
                  refine mp_iload X 86 d_M_mark_84 rfl rfl ?_
                  refine mp_aload X 88 d_M_mark_86 rfl rfl ?_
                  refine mp_getf (v := .int (nI ((rm_T S j).length))) X 91 lk_M_24_P d_M_mark_88 rfl ((hS1.2.2.2 j hj).1.sz (by omega)) (hS1.2.2.2 j hj).1.ob (hS1.2.2.2 j hj).2.2.2.2.2.2.1 ?_
                  refine mp_Nge X 105 94 d_M_mark_91 (by decide) rfl (by omega) (by omega) (fun q9 => ?_) (fun q9 => ?_)
                  · refine mp_null X 106 d_M_mark_105 rfl ?_
                    refine mp_astoreN X 108 (L' := [.val (.ref (G.1 + 0)), .val (.int (nI j)), .val (.int (nI a)), .val (.int (nI b)), .val (.int (nI k)), .val (.ref (G.1 + (2 + 8 * j))), .val (.ref (G.1 + (ad (sp_t S j a)))), .val (.int (nI b)), .val (.null)]) d_M_mark_106 rfl rfl rfl rfl ?_
                    refine mp_aload_n X 109 d_M_mark_108 rfl rfl rfl ?_
                    refine mp_aload X 111 d_M_mark_109 rfl rfl ?_
                    refine mp_newo X 114 ln_M_68 d_M_mark_111 rfl (by decide) (by decide) ?_
                    obtain ⟨h1, eh1⟩ : ∃ z, z = mp_new h 4 8 (fun k => defaultValue (nF_K k)) := ⟨_, rfl⟩
                    rw [← eh1]
                    have hg1 : mp_gr mp_nA h h1 := by rw [eh1]; exact mp_gr.new _ _ _
                    have hS2 : cm_S G h1 S ad := hS1.gr0 hg1
                    have hz1 : h1.2.2 = h.2.2 + 1 := by rw [eh1]; rfl
                    have hk1 : h1.1 h.2.2 = (4, 8) := by rw [eh1]; show (if h.2.2 = h.2.2 then _ else _) = _; rw [if_pos rfl]
                    have h41 : 41 ≤ h.2.2 := hS1.1.1
                    refine mp_dup X 115 d_M_mark_114 rfl rfl ?_
                    refine mp_aload_n X 116 d_M_mark_115 rfl rfl rfl ?_
                    refine mp_getf (v := .int (nI (S.1))) X 119 lk_M_16_M d_M_mark_116 rfl (Nat.lt_of_lt_of_le (by decide) hS2.1.1) hS2.1.2.1 hS2.2.1 ?_
                    refine mp_aload X 121 d_M_mark_119 rfl rfl ?_
                    refine mp_callE X mp_Ts_ok 124 (rest := [.int (nI (S.1)), .ref (G.1 + (h.2.2)), .ref (G.1 + (h.2.2)), .ref (G.1 + (2 + 8 * j)), .ref (G.1 + 0)]) (k_P_nextTime _ (hS2.2.2.2 j hj).1 (hS2.2.2.2 j hj).2.2.1) Y_P_nextTime in_P (mp_IV X (q := (nR_P, nT_P, 12)) d_M_mark_121 Y_P_nextTime ml_M_40 im_P_nextTime se_P_nextTime (by decide) rfl (by decide) (by show _ = some 0; decide) ((hS2.2.2.2 j hj).1.sz (by omega)) (hS2.2.2.2 j hj).1.ob) rfl (by decide) (by decide) (by decide) (by decide) rfl (Nat.le_of_ble_eq_true rfl) rfl ?_
                    refine mp_eq rfl rfl (st2 := [.int (nI ((1 + sp_mx S j))), .int (nI (S.1)), .ref (G.1 + (h.2.2)), .ref (G.1 + (h.2.2)), .ref (G.1 + (2 + 8 * j)), .ref (G.1 + 0)]) rfl ?_
                    refine mp_iload_n X 125 d_M_mark_124 rfl rfl rfl ?_
                    refine mp_iload X 127 d_M_mark_125 rfl rfl ?_
                    refine mp_aload X 129 d_M_mark_127 rfl rfl ?_
                    refine mp_aloadN X 131 d_M_mark_129 rfl rfl ?_
                    rw [if_neg (show ¬ 3 < k by by_cases h4 : k < 4 <;> simp only [h4, if_true, if_false] at hen0 <;> omega), if_neg (show ¬ b < (rm_T S j).length by omega)] at hok9 ⊢
                    refine mp_call X mp_Ts_ok 134 (rest := [.ref (G.1 + (h.2.2)), .ref (G.1 + (2 + 8 * j)), .ref (G.1 + 0)]) (k_K_initN (a := h.2.2) _ (by omega) hk1 hk8) Y_K_init in_K (mp_II X d_M_mark_131 rfl wd_346 ml_M_73 im_K_init (by decide) (by show _ = some 6; decide)) rfl (by decide) (by decide) (by decide) (by decide) rfl (Nat.le_of_ble_eq_true rfl) (fun v h2 hp9 => ?_) (fun x9 h9 q9 hp9 => hp9.elim)
                    obtain ⟨rfl, eh2⟩ := hp9
                    have hz2 : h.2.2 < h2.2.2 := by rw [eh2]; show h.2.2 < h1.2.2; omega
                    have hk2 : h2.1 h.2.2 = (4, 8) := by rw [eh2]; exact hk1
                    have hg2 : mp_gr mp_nA h h2 := by rw [eh2]; unfold cp_o3; exact ((((((((hg1.set (Or.inl (Nat.le_refl _))).set (Or.inl (Nat.le_refl _))).set (Or.inl (Nat.le_refl _))).set (Or.inl (Nat.le_refl _))).set (Or.inl (Nat.le_refl _))).set (Or.inl (Nat.le_refl _))).set (Or.inl (Nat.le_refl _))).set (Or.inl (Nat.le_refl _)))
                    have f0 : h2.2.1 h.2.2 0 = .int (nI S.1) := by rw [eh2]; simp [cp_o3, mp_set]
                    have f1 : h2.2.1 h.2.2 1 = .int (nI (1 + sp_mx S j)) := by rw [eh2]; simp [cp_o3, mp_set]
                    have f2 : h2.2.1 h.2.2 2 = .int (nI (4 * (1 + sp_mx S j) + j)) := by rw [eh2]; simp [cp_o3, mp_set]
                    have f3 : h2.2.1 h.2.2 3 = .int (nI (k % 2)) := by rw [eh2]; simp [cp_o3, mp_set]
                    have f4 : h2.2.1 h.2.2 4 = .int (nI (2 ^ (k / 2))) := by rw [eh2]; simp [cp_o3, mp_set]
                    have f5 : h2.2.1 h.2.2 5 = .int (nI (if k < 4 then 0 else 1)) := by rw [eh2]; simp [cp_o3, mp_set]
                    have f6 : h2.2.1 h.2.2 6 = .ref (G.1 + ad (sp_t S j a)) := by rw [eh2]; simp [cp_o3, mp_set]
                    have f7 : h2.2.1 h.2.2 7 = .null := by rw [eh2]; simp [cp_o3, mp_set]
                    have hn := cm_newK (G := G) (ad := ad) (fi := some (sp_t S j a)) (en := none) h41 hz2 hk2 f0 f1 f2 f3 f4 f5 (f6.trans (cm_tr hg.1 hj (by omega))) f7
                    have hQ2 := cm_grow hS1 hg.1 hg2 hn
                    refine mp_eq rfl rfl (st2 := [.ref (G.1 + (h.2.2)), .ref (G.1 + (2 + 8 * j)), .ref (G.1 + 0)]) rfl ?_
                    have hmk := k_M_make E.l hQ2 rfl hok9 hj
                    rw [cm_ad_n] at hmk
                    refine mp_call X mp_Ts_ok 137 (rest := []) hmk Y_M_make in_M (mp_IV X (q := (nR_M, nT_M, 2)) d_M_mark_134 Y_M_make ml_M_47 im_M_make se_M_make (by decide) rfl (by decide) (by show _ = some 2; decide) (Nat.lt_of_lt_of_le (by decide) hQ2.1.1) hQ2.1.2.1) rfl (by decide) (by decide) (by decide) (by decide) rfl (Nat.le_of_ble_eq_true rfl) (fun v g hp9 => ?_) (fun x9 h9 q9 hp9 => hp9.elim)
                    obtain ⟨hv9, hSg, hgg⟩ := hp9
                    have etm : pq_tm (pq_add S (2, 1 + sp_mx S j, j, some (sp_t S j a), none, k, 0)).2.1 S.1 = 1 + sp_mx S j := by show (if S.1 = S.1 then _ else _ : Nat × Nat × Nat × Option Nat × Option Nat × Nat × Int32).2.1 = _; rw [if_pos rfl]
                    rw [etm] at hv9
                    subst hv9
                    refine mp_eq rfl rfl (st2 := [.int (nI (1 + sp_mx S j))]) rfl ?_
                    exact mp_iret X d_M_mark_137 rfl rfl (by decide) (by decide) ⟨rfl, rfl, ⟨_, hSg⟩, (hg2.mono fun _ _ => mp_nA_A).tr hgg⟩
                  · refine mp_aload X 96 d_M_mark_94 rfl rfl ?_
                    refine mp_getf (v := .ref (G.1 + (2 + 8 * j + 3))) X 99 lk_M_34_P d_M_mark_96 rfl ((hS1.2.2.2 j hj).1.sz (by omega)) (hS1.2.2.2 j hj).1.ob (hS1.2.2.2 j hj).1.r_text ?_
                    refine mp_iload X 101 d_M_mark_99 rfl rfl ?_
                    refine mp_aald (t := 6) (v := .ref (G.1 + (ad (sp_t S j b)))) X 102 (b) d_M_mark_101 rfl ((hS1.2.2.2 j hj).1.sz (by omega)) (hS1.2.2.2 j hj).1.k_text (by decide) (by decide) rfl (by omega) (by decide) (cp_tx (hS1.2.2.2 j hj).2 (by omega)) ?_
                    refine mp_goto X 106 d_M_mark_102 (by decide) ?_
                    refine mp_astore X 108 (L' := [.val (.ref (G.1 + 0)), .val (.int (nI j)), .val (.int (nI a)), .val (.int (nI b)), .val (.int (nI k)), .val (.ref (G.1 + (2 + 8 * j))), .val (.ref (G.1 + (ad (sp_t S j a)))), .val (.int (nI b)), .val (.ref (G.1 + (ad (sp_t S j b))))]) d_M_mark_106 rfl rfl rfl rfl ?_
                    refine mp_aload_n X 109 d_M_mark_108 rfl rfl rfl ?_
                    refine mp_aload X 111 d_M_mark_109 rfl rfl ?_
                    refine mp_newo X 114 ln_M_68 d_M_mark_111 rfl (by decide) (by decide) ?_
                    obtain ⟨h1, eh1⟩ : ∃ z, z = mp_new h 4 8 (fun k => defaultValue (nF_K k)) := ⟨_, rfl⟩
                    rw [← eh1]
                    have hg1 : mp_gr mp_nA h h1 := by rw [eh1]; exact mp_gr.new _ _ _
                    have hS2 : cm_S G h1 S ad := hS1.gr0 hg1
                    have hz1 : h1.2.2 = h.2.2 + 1 := by rw [eh1]; rfl
                    have hk1 : h1.1 h.2.2 = (4, 8) := by rw [eh1]; show (if h.2.2 = h.2.2 then _ else _) = _; rw [if_pos rfl]
                    have h41 : 41 ≤ h.2.2 := hS1.1.1
                    refine mp_dup X 115 d_M_mark_114 rfl rfl ?_
                    refine mp_aload_n X 116 d_M_mark_115 rfl rfl rfl ?_
                    refine mp_getf (v := .int (nI (S.1))) X 119 lk_M_16_M d_M_mark_116 rfl (Nat.lt_of_lt_of_le (by decide) hS2.1.1) hS2.1.2.1 hS2.2.1 ?_
                    refine mp_aload X 121 d_M_mark_119 rfl rfl ?_
                    refine mp_callE X mp_Ts_ok 124 (rest := [.int (nI (S.1)), .ref (G.1 + (h.2.2)), .ref (G.1 + (h.2.2)), .ref (G.1 + (2 + 8 * j)), .ref (G.1 + 0)]) (k_P_nextTime _ (hS2.2.2.2 j hj).1 (hS2.2.2.2 j hj).2.2.1) Y_P_nextTime in_P (mp_IV X (q := (nR_P, nT_P, 12)) d_M_mark_121 Y_P_nextTime ml_M_40 im_P_nextTime se_P_nextTime (by decide) rfl (by decide) (by show _ = some 0; decide) ((hS2.2.2.2 j hj).1.sz (by omega)) (hS2.2.2.2 j hj).1.ob) rfl (by decide) (by decide) (by decide) (by decide) rfl (Nat.le_of_ble_eq_true rfl) rfl ?_
                    refine mp_eq rfl rfl (st2 := [.int (nI ((1 + sp_mx S j))), .int (nI (S.1)), .ref (G.1 + (h.2.2)), .ref (G.1 + (h.2.2)), .ref (G.1 + (2 + 8 * j)), .ref (G.1 + 0)]) rfl ?_
                    refine mp_iload_n X 125 d_M_mark_124 rfl rfl rfl ?_
                    refine mp_iload X 127 d_M_mark_125 rfl rfl ?_
                    refine mp_aload X 129 d_M_mark_127 rfl rfl ?_
                    refine mp_aload X 131 d_M_mark_129 rfl rfl ?_
                    rw [if_neg (show ¬ 3 < k by by_cases h4 : k < 4 <;> simp only [h4, if_true, if_false] at hen0 <;> omega), if_pos q9] at hok9 ⊢
                    refine mp_call X mp_Ts_ok 134 (rest := [.ref (G.1 + (h.2.2)), .ref (G.1 + (2 + 8 * j)), .ref (G.1 + 0)]) (k_K_initR (a := h.2.2) _ (by omega) hk1 hk8) Y_K_init in_K (mp_II X d_M_mark_131 rfl wd_346 ml_M_73 im_K_init (by decide) (by show _ = some 6; decide)) rfl (by decide) (by decide) (by decide) (by decide) rfl (Nat.le_of_ble_eq_true rfl) (fun v h2 hp9 => ?_) (fun x9 h9 q9 hp9 => hp9.elim)
                    obtain ⟨rfl, eh2⟩ := hp9
                    have hz2 : h.2.2 < h2.2.2 := by rw [eh2]; show h.2.2 < h1.2.2; omega
                    have hk2 : h2.1 h.2.2 = (4, 8) := by rw [eh2]; exact hk1
                    have hg2 : mp_gr mp_nA h h2 := by rw [eh2]; unfold cp_o3; exact ((((((((hg1.set (Or.inl (Nat.le_refl _))).set (Or.inl (Nat.le_refl _))).set (Or.inl (Nat.le_refl _))).set (Or.inl (Nat.le_refl _))).set (Or.inl (Nat.le_refl _))).set (Or.inl (Nat.le_refl _))).set (Or.inl (Nat.le_refl _))).set (Or.inl (Nat.le_refl _)))
                    have f0 : h2.2.1 h.2.2 0 = .int (nI S.1) := by rw [eh2]; simp [cp_o3, mp_set]
                    have f1 : h2.2.1 h.2.2 1 = .int (nI (1 + sp_mx S j)) := by rw [eh2]; simp [cp_o3, mp_set]
                    have f2 : h2.2.1 h.2.2 2 = .int (nI (4 * (1 + sp_mx S j) + j)) := by rw [eh2]; simp [cp_o3, mp_set]
                    have f3 : h2.2.1 h.2.2 3 = .int (nI (k % 2)) := by rw [eh2]; simp [cp_o3, mp_set]
                    have f4 : h2.2.1 h.2.2 4 = .int (nI (2 ^ (k / 2))) := by rw [eh2]; simp [cp_o3, mp_set]
                    have f5 : h2.2.1 h.2.2 5 = .int (nI (if k < 4 then 0 else 1)) := by rw [eh2]; simp [cp_o3, mp_set]
                    have f6 : h2.2.1 h.2.2 6 = .ref (G.1 + ad (sp_t S j a)) := by rw [eh2]; simp [cp_o3, mp_set]
                    have f7 : h2.2.1 h.2.2 7 = .ref (G.1 + ad (sp_t S j b)) := by rw [eh2]; simp [cp_o3, mp_set]
                    have hn := cm_newK (G := G) (ad := ad) (fi := some (sp_t S j a)) (en := some (sp_t S j b)) h41 hz2 hk2 f0 f1 f2 f3 f4 f5 (f6.trans (cm_tr hg.1 hj (by omega))) (f7.trans (cm_tr hg.1 hj (by omega)))
                    have hQ2 := cm_grow hS1 hg.1 hg2 hn
                    refine mp_eq rfl rfl (st2 := [.ref (G.1 + (h.2.2)), .ref (G.1 + (2 + 8 * j)), .ref (G.1 + 0)]) rfl ?_
                    have hmk := k_M_make E.l hQ2 rfl hok9 hj
                    rw [cm_ad_n] at hmk
                    refine mp_call X mp_Ts_ok 137 (rest := []) hmk Y_M_make in_M (mp_IV X (q := (nR_M, nT_M, 2)) d_M_mark_134 Y_M_make ml_M_47 im_M_make se_M_make (by decide) rfl (by decide) (by show _ = some 2; decide) (Nat.lt_of_lt_of_le (by decide) hQ2.1.1) hQ2.1.2.1) rfl (by decide) (by decide) (by decide) (by decide) rfl (Nat.le_of_ble_eq_true rfl) (fun v g hp9 => ?_) (fun x9 h9 q9 hp9 => hp9.elim)
                    obtain ⟨hv9, hSg, hgg⟩ := hp9
                    have etm : pq_tm (pq_add S (2, 1 + sp_mx S j, j, some (sp_t S j a), some (sp_t S j b), k, 0)).2.1 S.1 = 1 + sp_mx S j := by show (if S.1 = S.1 then _ else _ : Nat × Nat × Nat × Option Nat × Option Nat × Nat × Int32).2.1 = _; rw [if_pos rfl]
                    rw [etm] at hv9
                    subst hv9
                    refine mp_eq rfl rfl (st2 := [.int (nI (1 + sp_mx S j))]) rfl ?_
                    exact mp_iret X d_M_mark_137 rfl rfl (by decide) (by decide) ⟨rfl, rfl, ⟨_, hSg⟩, (hg2.mono fun _ _ => mp_nA_A).tr hgg⟩
