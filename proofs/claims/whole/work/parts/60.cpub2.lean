/-! The class: the calls that read, and tell (rows laid by program). -/
theorem pq_sr_mono (f : Nat → Nat) (k n : Nat) : pq_sr f k n ≤ pq_sr f (k + 1) n := by
  have l1 := pq_sr_le f k n
  have l2 := pq_sr_le f (k + 1) n
  rcases Nat.lt_or_ge (pq_sr f (k + 1) n) (pq_sr f k n) with h | h
  · have h1 := (pq_sr_spec f k n (pq_sr f (k + 1) n) (by omega)).mp h
    have h2 := (pq_sr_spec f (k + 1) n (pq_sr f (k + 1) n) (by omega)).mpr (by omega)
    omega
  · exact h
theorem rm_ct_kn {M : Nat} {O : pq_O} {kn : Nat → Nat} : ∀ c, pq_kn M O kn c → rm_ct (fun k => pq_kw kn c k) M = c := by
  intro c
  induction c with
  | zero => intro _; exact rm_ct_zero M (fun k hk => rfl)
  | succ c ih =>
    intro hk
    have hk' : pq_kn M O kn c := ⟨fun i hi => hk.1 i (by omega), fun i j hi hj => hk.2.1 i j (by omega) (by omega), fun i hi => hk.2.2 i (by omega)⟩
    have hnew : pq_kw kn c (kn c) = false := by
      cases hb : pq_kw kn c (kn c) with
      | false => rfl
      | true =>
        obtain ⟨i, hi, e⟩ := (pq_kw_iff kn _ c).mp hb
        have := hk.2.1 i c (by omega) (by omega) e
        omega
    have h9 := rm_ct_add (f := fun k => pq_kw kn c k) (g := fun k => pq_kw kn (c + 1) k) (a := kn c) hnew (by simp [pq_kw]) (fun k hkc => by
      have : (kn c == k) = false := by simpa using fun z : kn c = k => hkc z.symm
      simp [pq_kw, this]) M (hk.1 c (by omega))
    rw [ih hk'] at h9
    exact h9
theorem rm_ct_sub {f g : Nat → Bool} : ∀ n, (∀ k, k < n → g k = true → f k = true) → rm_ct g n ≤ rm_ct f n ∧ (rm_ct f n = rm_ct g n → ∀ k, k < n → f k = g k)
  | 0, _ => ⟨Nat.le_refl _, fun _ k hk => absurd hk (Nat.not_lt_zero k)⟩
  | n + 1, h => by
    obtain ⟨h1, h2⟩ := rm_ct_sub n (fun k hk => h k (by omega))
    have h3 := h n (by omega)
    unfold rm_ct
    cases hf : f n <;> cases hg : g n
    · refine ⟨by simpa using h1, fun e k hk => ?_⟩
      by_cases ek : k = n
      · rw [ek, hf, hg]
      · exact h2 (by simpa using e) k (by omega)
    · rw [hf] at h3; exact absurd (h3 hg) (by decide)
    · refine ⟨by simp; omega, fun e k hk => ?_⟩
      simp at e
      omega
    · refine ⟨by simpa using h1, fun e k hk => ?_⟩
      by_cases ek : k = n
      · rw [ek, hf, hg]
      · exact h2 (by simpa using e) k (by omega)
theorem sp_ak_iff {S : pq_S} {a b : Nat} : ∀ n, sp_ak S a b n = true ↔ ∀ k, k < n → pq_kw (S.2.2.1 a) (S.2.2.2 a) k = pq_kw (S.2.2.1 b) (S.2.2.2 b) k
  | 0 => ⟨fun _ k hk => absurd hk (Nat.not_lt_zero k), fun _ => rfl⟩
  | n + 1 => by
    show (sp_ak S a b n && _) = true ↔ _
    rw [Bool.and_eq_true, sp_ak_iff n, beq_iff_eq]
    constructor
    · rintro ⟨h1, h2⟩ k hk
      by_cases e : k = n
      · rw [e]; exact h2
      · exact h1 k (by omega)
    · intro h
      exact ⟨fun k hk => h k (by omega), h n (by omega)⟩
theorem cp_al_iff {kn2 kn : Nat → Nat} {c : Nat} : ∀ n, cp_al kn2 kn c n = true ↔ ∀ i, i < n → pq_kw kn c (kn2 i) = true
  | 0 => ⟨fun _ k hk => absurd hk (Nat.not_lt_zero k), fun _ => rfl⟩
  | n + 1 => by
    show (cp_al kn2 kn c n && _) = true ↔ _
    rw [Bool.and_eq_true, cp_al_iff n]
    constructor
    · rintro ⟨h1, h2⟩ k hk
      by_cases e : k = n
      · rw [e]; exact h2
      · exact h1 k (by omega)
    · intro h
      exact ⟨fun k hk => h k (by omega), h n (by omega)⟩
theorem sp_ak_eq {S : pq_S} (hok : pq_ok S) {a b : Nat} (ha : a < 3) (hb : b < 3) : sp_ak S a b S.1 = (decide (S.2.2.2 a = S.2.2.2 b) && cp_al (S.2.2.1 b) (S.2.2.1 a) (S.2.2.2 a) (S.2.2.2 b)) := by
  have ca := rm_ct_kn _ (hok.2.2.1 a ha)
  have cb := rm_ct_kn _ (hok.2.2.1 b hb)
  rw [Bool.eq_iff_iff, sp_ak_iff, Bool.and_eq_true, decide_eq_true_eq, cp_al_iff]
  constructor
  · intro h
    refine ⟨?_, fun i hi => ?_⟩
    · rw [← ca, ← cb]
      exact rm_ct_ext _ h
    · rw [h _ ((hok.2.2.1 b hb).1 i hi)]
      exact (pq_kw_iff _ _ _).mpr ⟨i, hi, rfl⟩
  · rintro ⟨h1, h2⟩
    refine (rm_ct_sub (f := fun k => pq_kw (S.2.2.1 a) (S.2.2.2 a) k) (g := fun k => pq_kw (S.2.2.1 b) (S.2.2.2 b) k) S.1 (fun k hk hg => ?_)).2 (by rw [ca, cb, h1])
    obtain ⟨i, hi, e⟩ := (pq_kw_iff _ _ _).mp hg
    rw [← e]
    exact h2 i hi
set_option maxRecDepth 100000 in
set_option maxHeartbeats 4000000 in
theorem k_M_length {l : Launch} (hl0 : l.stackTraces = false) {G : mp_G} {h : mp_H} {S : pq_S} {ad : Nat → Nat} {x : Int32} (hS1 : cm_S G h S ad) (hg : sp_g S) :
    mp_M G mp_Ts l y_M_length 8 1 8 [.ref (G.1 + 0), .int x] h (cm_R G h (sp_length S x)) (cm_T G h (sp_length S x)) := by
  have hM : S.1 ≤ 90 := hg.1.1
  refine mp_enter (by decide) Y_M_length fun E hl X => ?_
  refine mp_eq rfl (L2 := [.val (.ref (G.1 + 0)), .val (.int x)]) rfl rfl ?_
  cases hx : sp_ix 3 x with
  | none =>
    have hz : sp_length S x = (1, 0, S) := by unfold sp_length; rw [hx]
    rw [hz]
    refine mp_aload_n X 1 d_M_length_0 rfl rfl rfl ?_
    refine mp_iload_n X 2 d_M_length_1 rfl rfl rfl ?_
    refine mp_call X mp_Ts_ok 5 (rest := []) (k_M_pageNumberedF (by rw [hl]; exact hl0) hS1.1 hx) Y_M_pageNumbered in_M (mp_IV X (q := (nR_M, nT_M, 2)) d_M_length_2 Y_M_pageNumbered ml_M_20 im_M_pageNumbered se_M_pageNumbered (by decide) rfl (by decide) (by show _ = some 1; decide) (Nat.lt_of_lt_of_le (by decide) hS1.1.1) hS1.1.2.1) rfl (by decide) (by decide) (by decide) (by decide) rfl (Nat.le_of_ble_eq_true rfl) (fun v h9 hp9 => hp9.elim) (fun x9 h9 q9 hp9 hq9 hk9 hx9 => ?_)
    obtain ⟨rfl, rfl⟩ := hp9
    exact mp_out X (by decide) (by decide) hq9 hk9 hx9 (cm_Tx (x := 0) hS1)
  | some j =>
    obtain ⟨hj, rfl⟩ := sp_ix_some hx (by decide)
    have hTl := sp_T_len hg.1 hj
    have hz : sp_length S (nI j) = (0, nI (rm_T S j).length, S) := by unfold sp_length; rw [hx]
    rw [hz]
    refine mp_aload_n X 1 d_M_length_0 rfl rfl rfl ?_
    refine mp_iload_n X 2 d_M_length_1 rfl rfl rfl ?_
    refine mp_callE X mp_Ts_ok 5 (rest := []) (k_M_pageNumberedT _ hS1.1 hj) Y_M_pageNumbered in_M (mp_IV X (q := (nR_M, nT_M, 2)) d_M_length_2 Y_M_pageNumbered ml_M_20 im_M_pageNumbered se_M_pageNumbered (by decide) rfl (by decide) (by show _ = some 1; decide) (Nat.lt_of_lt_of_le (by decide) hS1.1.1) hS1.1.2.1) rfl (by decide) (by decide) (by decide) (by decide) rfl (Nat.le_of_ble_eq_true rfl) rfl ?_
    refine mp_eq rfl rfl (st2 := [.ref (G.1 + (2 + 8 * j))]) rfl ?_
    refine mp_getf (v := .int (nI ((rm_T S j).length))) X 8 lk_M_24_P d_M_length_5 rfl ((hS1.2.2.2 j hj).1.sz (by omega)) (hS1.2.2.2 j hj).1.ob (hS1.2.2.2 j hj).2.2.2.2.2.2.1 ?_
    exact mp_iret X d_M_length_8 rfl rfl (by decide) (by decide) ⟨rfl, rfl, ⟨_, hS1⟩, mp_gr.rf⟩
set_option maxRecDepth 100000 in
set_option maxHeartbeats 4000000 in
theorem k_M_at {l : Launch} (hl0 : l.stackTraces = false) {G : mp_G} {h : mp_H} {S : pq_S} {ad : Nat → Nat} {x p : Int32} (hS1 : cm_S G h S ad) (hg : sp_g S) :
    mp_M G mp_Ts l y_M_at 8 1 8 [.ref (G.1 + 0), .int x, .int p] h (cm_R G h (sp_at S x p)) (cm_T G h (sp_at S x p)) := by
  have hM : S.1 ≤ 90 := hg.1.1
  refine mp_enter (by decide) Y_M_at fun E hl X => ?_
  refine mp_eq rfl (L2 := [.val (.ref (G.1 + 0)), .val (.int x), .val (.int p)]) rfl rfl ?_
  cases hx : sp_ix 3 x with
  | none =>
    have hz : sp_at S x p = (1, 0, S) := by unfold sp_at sp_get; rw [hx]
    rw [hz]
    refine mp_aload_n X 1 d_M_at_0 rfl rfl rfl ?_
    refine mp_iload_n X 2 d_M_at_1 rfl rfl rfl ?_
    refine mp_call X mp_Ts_ok 5 (rest := []) (k_M_pageNumberedF (by rw [hl]; exact hl0) hS1.1 hx) Y_M_pageNumbered in_M (mp_IV X (q := (nR_M, nT_M, 2)) d_M_at_2 Y_M_pageNumbered ml_M_20 im_M_pageNumbered se_M_pageNumbered (by decide) rfl (by decide) (by show _ = some 1; decide) (Nat.lt_of_lt_of_le (by decide) hS1.1.1) hS1.1.2.1) rfl (by decide) (by decide) (by decide) (by decide) rfl (Nat.le_of_ble_eq_true rfl) (fun v h9 hp9 => hp9.elim) (fun x9 h9 q9 hp9 hq9 hk9 hx9 => ?_)
    obtain ⟨rfl, rfl⟩ := hp9
    exact mp_out X (by decide) (by decide) hq9 hk9 hx9 (cm_Tx (x := 0) hS1)
  | some j =>
    obtain ⟨hj, rfl⟩ := sp_ix_some hx (by decide)
    have hTl := sp_T_len hg.1 hj
    cases hp : sp_ix (rm_T S j).length p with
    | none =>
      have hz : sp_at S (nI j) p = (2, 0, S) := by unfold sp_at sp_get; rw [hx]; simp only []; rw [hp]
      rw [hz]
      refine mp_aload_n X 1 d_M_at_0 rfl rfl rfl ?_
      refine mp_iload_n X 2 d_M_at_1 rfl rfl rfl ?_
      refine mp_callE X mp_Ts_ok 5 (rest := []) (k_M_pageNumberedT _ hS1.1 hj) Y_M_pageNumbered in_M (mp_IV X (q := (nR_M, nT_M, 2)) d_M_at_2 Y_M_pageNumbered ml_M_20 im_M_pageNumbered se_M_pageNumbered (by decide) rfl (by decide) (by show _ = some 1; decide) (Nat.lt_of_lt_of_le (by decide) hS1.1.1) hS1.1.2.1) rfl (by decide) (by decide) (by decide) (by decide) rfl (Nat.le_of_ble_eq_true rfl) rfl ?_
      refine mp_eq rfl rfl (st2 := [.ref (G.1 + (2 + 8 * j))]) rfl ?_
      refine mp_iload_n X 6 d_M_at_5 rfl rfl rfl ?_
      refine mp_call X mp_Ts_ok 9 (rest := []) (k_P_writingShownAtF (by rw [hl]; exact hl0) (hS1.2.2.2 j hj).1 (hS1.2.2.2 j hj).2 hg.1 hj hp) Y_P_writingShownAt in_P (mp_IV X (q := (nR_P, nT_P, 12)) d_M_at_6 Y_P_writingShownAt ml_M_51 im_P_writingShownAt se_P_writingShownAt (by decide) rfl (by decide) (by show _ = some 1; decide) ((hS1.2.2.2 j hj).1.sz (by omega)) (hS1.2.2.2 j hj).1.ob) rfl (by decide) (by decide) (by decide) (by decide) rfl (Nat.le_of_ble_eq_true rfl) (fun v h9 hp9 => hp9.elim) (fun x9 h9 q9 hp9 hq9 hk9 hx9 => ?_)
      obtain ⟨rfl, rfl⟩ := hp9
      exact mp_out X (by decide) (by decide) hq9 hk9 hx9 (cm_Tx (x := 1) hS1)
    | some q =>
      obtain ⟨hq, rfl⟩ := sp_ix_some hp (by omega)
      have hz : sp_at S (nI j) (nI q) = (0, pq_le S.2.1 (sp_t S j q), S) := by unfold sp_at sp_get; rw [hx]; simp only []; rw [hp]
      rw [hz]
      obtain ⟨htM, htso⟩ := sp_t_lt hg.1 hj hq
      obtain ⟨w1, w2, w3, w4, w5, w6⟩ := hS1.2.2.1.wr htM htso
      refine mp_aload_n X 1 d_M_at_0 rfl rfl rfl ?_
      refine mp_iload_n X 2 d_M_at_1 rfl rfl rfl ?_
      refine mp_callE X mp_Ts_ok 5 (rest := []) (k_M_pageNumberedT _ hS1.1 hj) Y_M_pageNumbered in_M (mp_IV X (q := (nR_M, nT_M, 2)) d_M_at_2 Y_M_pageNumbered ml_M_20 im_M_pageNumbered se_M_pageNumbered (by decide) rfl (by decide) (by show _ = some 1; decide) (Nat.lt_of_lt_of_le (by decide) hS1.1.1) hS1.1.2.1) rfl (by decide) (by decide) (by decide) (by decide) rfl (Nat.le_of_ble_eq_true rfl) rfl ?_
      refine mp_eq rfl rfl (st2 := [.ref (G.1 + (2 + 8 * j))]) rfl ?_
      refine mp_iload_n X 6 d_M_at_5 rfl rfl rfl ?_
      refine mp_callE X mp_Ts_ok 9 (rest := []) (k_P_writingShownAtT _ (hS1.2.2.2 j hj).1 (hS1.2.2.2 j hj).2 hg.1 hj hq) Y_P_writingShownAt in_P (mp_IV X (q := (nR_P, nT_P, 12)) d_M_at_6 Y_P_writingShownAt ml_M_51 im_P_writingShownAt se_P_writingShownAt (by decide) rfl (by decide) (by show _ = some 1; decide) ((hS1.2.2.2 j hj).1.sz (by omega)) (hS1.2.2.2 j hj).1.ob) rfl (by decide) (by decide) (by decide) (by decide) rfl (Nat.le_of_ble_eq_true rfl) rfl ?_
      refine mp_eq rfl rfl (st2 := [.ref (G.1 + (ad (sp_t S j q)))]) rfl ?_
      refine mp_getf (v := .int (pq_le S.2.1 (sp_t S j q))) X 12 lk_M_60_W d_M_at_9 rfl w1 w2 w5 ?_
      exact mp_iret X d_M_at_12 rfl (hg.2 _ htM htso) (by decide) (by decide) ⟨rfl, rfl, ⟨_, hS1⟩, mp_gr.rf⟩
set_option maxRecDepth 100000 in
set_option maxHeartbeats 4000000 in
theorem k_M_id {l : Launch} (hl0 : l.stackTraces = false) {G : mp_G} {h : mp_H} {S : pq_S} {ad : Nat → Nat} {x p : Int32} (hS1 : cm_S G h S ad) (hg : sp_g S) :
    mp_M G mp_Ts l y_M_id 8 1 8 [.ref (G.1 + 0), .int x, .int p] h (cm_R G h (sp_id S x p)) (cm_T G h (sp_id S x p)) := by
  have hM : S.1 ≤ 90 := hg.1.1
  refine mp_enter (by decide) Y_M_id fun E hl X => ?_
  refine mp_eq rfl (L2 := [.val (.ref (G.1 + 0)), .val (.int x), .val (.int p)]) rfl rfl ?_
  cases hx : sp_ix 3 x with
  | none =>
    have hz : sp_id S x p = (1, 0, S) := by unfold sp_id sp_get; rw [hx]
    rw [hz]
    refine mp_aload_n X 1 d_M_id_0 rfl rfl rfl ?_
    refine mp_iload_n X 2 d_M_id_1 rfl rfl rfl ?_
    refine mp_call X mp_Ts_ok 5 (rest := []) (k_M_pageNumberedF (by rw [hl]; exact hl0) hS1.1 hx) Y_M_pageNumbered in_M (mp_IV X (q := (nR_M, nT_M, 2)) d_M_id_2 Y_M_pageNumbered ml_M_20 im_M_pageNumbered se_M_pageNumbered (by decide) rfl (by decide) (by show _ = some 1; decide) (Nat.lt_of_lt_of_le (by decide) hS1.1.1) hS1.1.2.1) rfl (by decide) (by decide) (by decide) (by decide) rfl (Nat.le_of_ble_eq_true rfl) (fun v h9 hp9 => hp9.elim) (fun x9 h9 q9 hp9 hq9 hk9 hx9 => ?_)
    obtain ⟨rfl, rfl⟩ := hp9
    exact mp_out X (by decide) (by decide) hq9 hk9 hx9 (cm_Tx (x := 0) hS1)
  | some j =>
    obtain ⟨hj, rfl⟩ := sp_ix_some hx (by decide)
    have hTl := sp_T_len hg.1 hj
    cases hp : sp_ix (rm_T S j).length p with
    | none =>
      have hz : sp_id S (nI j) p = (2, 0, S) := by unfold sp_id sp_get; rw [hx]; simp only []; rw [hp]
      rw [hz]
      refine mp_aload_n X 1 d_M_id_0 rfl rfl rfl ?_
      refine mp_iload_n X 2 d_M_id_1 rfl rfl rfl ?_
      refine mp_callE X mp_Ts_ok 5 (rest := []) (k_M_pageNumberedT _ hS1.1 hj) Y_M_pageNumbered in_M (mp_IV X (q := (nR_M, nT_M, 2)) d_M_id_2 Y_M_pageNumbered ml_M_20 im_M_pageNumbered se_M_pageNumbered (by decide) rfl (by decide) (by show _ = some 1; decide) (Nat.lt_of_lt_of_le (by decide) hS1.1.1) hS1.1.2.1) rfl (by decide) (by decide) (by decide) (by decide) rfl (Nat.le_of_ble_eq_true rfl) rfl ?_
      refine mp_eq rfl rfl (st2 := [.ref (G.1 + (2 + 8 * j))]) rfl ?_
      refine mp_iload_n X 6 d_M_id_5 rfl rfl rfl ?_
      refine mp_call X mp_Ts_ok 9 (rest := []) (k_P_writingShownAtF (by rw [hl]; exact hl0) (hS1.2.2.2 j hj).1 (hS1.2.2.2 j hj).2 hg.1 hj hp) Y_P_writingShownAt in_P (mp_IV X (q := (nR_P, nT_P, 12)) d_M_id_6 Y_P_writingShownAt ml_M_51 im_P_writingShownAt se_P_writingShownAt (by decide) rfl (by decide) (by show _ = some 1; decide) ((hS1.2.2.2 j hj).1.sz (by omega)) (hS1.2.2.2 j hj).1.ob) rfl (by decide) (by decide) (by decide) (by decide) rfl (Nat.le_of_ble_eq_true rfl) (fun v h9 hp9 => hp9.elim) (fun x9 h9 q9 hp9 hq9 hk9 hx9 => ?_)
      obtain ⟨rfl, rfl⟩ := hp9
      exact mp_out X (by decide) (by decide) hq9 hk9 hx9 (cm_Tx (x := 1) hS1)
    | some q =>
      obtain ⟨hq, rfl⟩ := sp_ix_some hp (by omega)
      have hz : sp_id S (nI j) (nI q) = (0, nI (pq_id S.2.1 (sp_t S j q)), S) := by unfold sp_id sp_get; rw [hx]; simp only []; rw [hp]
      rw [hz]
      obtain ⟨htM, htso⟩ := sp_t_lt hg.1 hj hq
      obtain ⟨w1, w2, w3, w4, w5, w6⟩ := hS1.2.2.1.wr htM htso
      refine mp_aload_n X 1 d_M_id_0 rfl rfl rfl ?_
      refine mp_iload_n X 2 d_M_id_1 rfl rfl rfl ?_
      refine mp_callE X mp_Ts_ok 5 (rest := []) (k_M_pageNumberedT _ hS1.1 hj) Y_M_pageNumbered in_M (mp_IV X (q := (nR_M, nT_M, 2)) d_M_id_2 Y_M_pageNumbered ml_M_20 im_M_pageNumbered se_M_pageNumbered (by decide) rfl (by decide) (by show _ = some 1; decide) (Nat.lt_of_lt_of_le (by decide) hS1.1.1) hS1.1.2.1) rfl (by decide) (by decide) (by decide) (by decide) rfl (Nat.le_of_ble_eq_true rfl) rfl ?_
      refine mp_eq rfl rfl (st2 := [.ref (G.1 + (2 + 8 * j))]) rfl ?_
      refine mp_iload_n X 6 d_M_id_5 rfl rfl rfl ?_
      refine mp_callE X mp_Ts_ok 9 (rest := []) (k_P_writingShownAtT _ (hS1.2.2.2 j hj).1 (hS1.2.2.2 j hj).2 hg.1 hj hq) Y_P_writingShownAt in_P (mp_IV X (q := (nR_P, nT_P, 12)) d_M_id_6 Y_P_writingShownAt ml_M_51 im_P_writingShownAt se_P_writingShownAt (by decide) rfl (by decide) (by show _ = some 1; decide) ((hS1.2.2.2 j hj).1.sz (by omega)) (hS1.2.2.2 j hj).1.ob) rfl (by decide) (by decide) (by decide) (by decide) rfl (Nat.le_of_ble_eq_true rfl) rfl ?_
      refine mp_eq rfl rfl (st2 := [.ref (G.1 + (ad (sp_t S j q)))]) rfl ?_
      refine mp_getf (v := .int (nI ((pq_id S.2.1 (sp_t S j q))))) X 12 lk_M_100_W d_M_id_9 rfl w1 w2 w4 ?_
      exact mp_iret X d_M_id_12 rfl rfl (by decide) (by decide) ⟨rfl, rfl, ⟨_, hS1⟩, mp_gr.rf⟩
set_option maxRecDepth 100000 in
set_option maxHeartbeats 4000000 in
theorem k_M_format {l : Launch} (hl0 : l.stackTraces = false) {G : mp_G} {h : mp_H} {S : pq_S} {ad : Nat → Nat} {x p : Int32} (hS1 : cm_S G h S ad) (hg : sp_g S) :
    mp_M G mp_Ts l y_M_format 8 1 8 [.ref (G.1 + 0), .int x, .int p] h (cm_R G h (sp_format S x p)) (cm_T G h (sp_format S x p)) := by
  have hM : S.1 ≤ 90 := hg.1.1
  refine mp_enter (by decide) Y_M_format fun E hl X => ?_
  refine mp_eq rfl (L2 := [.val (.ref (G.1 + 0)), .val (.int x), .val (.int p), .unset]) rfl rfl ?_
  cases hx : sp_ix 3 x with
  | none =>
    have hz : sp_format S x p = (1, 0, S) := by unfold sp_format sp_get; rw [hx]
    rw [hz]
    refine mp_aload_n X 1 d_M_format_0 rfl rfl rfl ?_
    refine mp_iload_n X 2 d_M_format_1 rfl rfl rfl ?_
    refine mp_call X mp_Ts_ok 5 (rest := []) (k_M_pageNumberedF (by rw [hl]; exact hl0) hS1.1 hx) Y_M_pageNumbered in_M (mp_IV X (q := (nR_M, nT_M, 2)) d_M_format_2 Y_M_pageNumbered ml_M_20 im_M_pageNumbered se_M_pageNumbered (by decide) rfl (by decide) (by show _ = some 1; decide) (Nat.lt_of_lt_of_le (by decide) hS1.1.1) hS1.1.2.1) rfl (by decide) (by decide) (by decide) (by decide) rfl (Nat.le_of_ble_eq_true rfl) (fun v h9 hp9 => hp9.elim) (fun x9 h9 q9 hp9 hq9 hk9 hx9 => ?_)
    obtain ⟨rfl, rfl⟩ := hp9
    exact mp_out X (by decide) (by decide) hq9 hk9 hx9 (cm_Tx (x := 0) hS1)
  | some j =>
    obtain ⟨hj, rfl⟩ := sp_ix_some hx (by decide)
    have hTl := sp_T_len hg.1 hj
    cases hp : sp_ix (rm_T S j).length p with
    | none =>
      have hz : sp_format S (nI j) p = (2, 0, S) := by unfold sp_format sp_get; rw [hx]; simp only []; rw [hp]
      rw [hz]
      refine mp_aload_n X 1 d_M_format_0 rfl rfl rfl ?_
      refine mp_iload_n X 2 d_M_format_1 rfl rfl rfl ?_
      refine mp_callE X mp_Ts_ok 5 (rest := []) (k_M_pageNumberedT _ hS1.1 hj) Y_M_pageNumbered in_M (mp_IV X (q := (nR_M, nT_M, 2)) d_M_format_2 Y_M_pageNumbered ml_M_20 im_M_pageNumbered se_M_pageNumbered (by decide) rfl (by decide) (by show _ = some 1; decide) (Nat.lt_of_lt_of_le (by decide) hS1.1.1) hS1.1.2.1) rfl (by decide) (by decide) (by decide) (by decide) rfl (Nat.le_of_ble_eq_true rfl) rfl ?_
      refine mp_eq rfl rfl (st2 := [.ref (G.1 + (2 + 8 * j))]) rfl ?_
      refine mp_astore_n X 6 (L' := [.val (.ref (G.1 + 0)), .val (.int (nI j)), .val (.int (p)), .val (.ref (G.1 + (2 + 8 * j)))]) d_M_format_5 rfl rfl rfl rfl rfl ?_
      refine mp_aload_n X 7 d_M_format_6 rfl rfl rfl ?_
      refine mp_aload_n X 8 d_M_format_7 rfl rfl rfl ?_
      refine mp_iload_n X 9 d_M_format_8 rfl rfl rfl ?_
      refine mp_call X mp_Ts_ok 12 (rest := [.ref (G.1 + (2 + 8 * j))]) (k_P_writingShownAtF (by rw [hl]; exact hl0) (hS1.2.2.2 j hj).1 (hS1.2.2.2 j hj).2 hg.1 hj hp) Y_P_writingShownAt in_P (mp_IV X (q := (nR_P, nT_P, 12)) d_M_format_9 Y_P_writingShownAt ml_M_51 im_P_writingShownAt se_P_writingShownAt (by decide) rfl (by decide) (by show _ = some 1; decide) ((hS1.2.2.2 j hj).1.sz (by omega)) (hS1.2.2.2 j hj).1.ob) rfl (by decide) (by decide) (by decide) (by decide) rfl (Nat.le_of_ble_eq_true rfl) (fun v h9 hp9 => hp9.elim) (fun x9 h9 q9 hp9 hq9 hk9 hx9 => ?_)
      obtain ⟨rfl, rfl⟩ := hp9
      exact mp_out X (by decide) (by decide) hq9 hk9 hx9 (cm_Tx (x := 1) hS1)
    | some q =>
      obtain ⟨hq, rfl⟩ := sp_ix_some hp (by omega)
      have hz : sp_format S (nI j) (nI q) = (0, nI (sp_fm S j q), S) := by unfold sp_format sp_get; rw [hx]; simp only []; rw [hp]
      rw [hz]
      obtain ⟨htM, htso⟩ := sp_t_lt hg.1 hj hq
      obtain ⟨w1, w2, w3, w4, w5, w6⟩ := hS1.2.2.1.wr htM htso
      refine mp_aload_n X 1 d_M_format_0 rfl rfl rfl ?_
      refine mp_iload_n X 2 d_M_format_1 rfl rfl rfl ?_
      refine mp_callE X mp_Ts_ok 5 (rest := []) (k_M_pageNumberedT _ hS1.1 hj) Y_M_pageNumbered in_M (mp_IV X (q := (nR_M, nT_M, 2)) d_M_format_2 Y_M_pageNumbered ml_M_20 im_M_pageNumbered se_M_pageNumbered (by decide) rfl (by decide) (by show _ = some 1; decide) (Nat.lt_of_lt_of_le (by decide) hS1.1.1) hS1.1.2.1) rfl (by decide) (by decide) (by decide) (by decide) rfl (Nat.le_of_ble_eq_true rfl) rfl ?_
      refine mp_eq rfl rfl (st2 := [.ref (G.1 + (2 + 8 * j))]) rfl ?_
      refine mp_astore_n X 6 (L' := [.val (.ref (G.1 + 0)), .val (.int (nI j)), .val (.int (nI q)), .val (.ref (G.1 + (2 + 8 * j)))]) d_M_format_5 rfl rfl rfl rfl rfl ?_
      refine mp_aload_n X 7 d_M_format_6 rfl rfl rfl ?_
      refine mp_aload_n X 8 d_M_format_7 rfl rfl rfl ?_
      refine mp_iload_n X 9 d_M_format_8 rfl rfl rfl ?_
      refine mp_callE X mp_Ts_ok 12 (rest := [.ref (G.1 + (2 + 8 * j))]) (k_P_writingShownAtT _ (hS1.2.2.2 j hj).1 (hS1.2.2.2 j hj).2 hg.1 hj hq) Y_P_writingShownAt in_P (mp_IV X (q := (nR_P, nT_P, 12)) d_M_format_9 Y_P_writingShownAt ml_M_51 im_P_writingShownAt se_P_writingShownAt (by decide) rfl (by decide) (by show _ = some 1; decide) ((hS1.2.2.2 j hj).1.sz (by omega)) (hS1.2.2.2 j hj).1.ob) rfl (by decide) (by decide) (by decide) (by decide) rfl (Nat.le_of_ble_eq_true rfl) rfl ?_
      refine mp_eq rfl rfl (st2 := [.ref (G.1 + (ad (sp_t S j q))), .ref (G.1 + (2 + 8 * j))]) rfl ?_
      refine mp_callE X mp_Ts_ok 15 (rest := []) (k_P_formatOf _ (hS1.2.2.2 j hj).1 hS1.2.2.1 (hS1.2.2.2 j hj).2 hg.1.2.1 hg.1.1 (hg.1.2.2.1 j hj) (sp_t_row (q := q) (by omega))) Y_P_formatOf in_P (mp_IV X (q := (nR_P, nT_P, 12)) d_M_format_12 Y_P_formatOf ml_M_96 im_P_formatOf se_P_formatOf (by decide) rfl (by decide) (by show _ = some 1; decide) ((hS1.2.2.2 j hj).1.sz (by omega)) (hS1.2.2.2 j hj).1.ob) rfl (by decide) (by decide) (by decide) (by decide) rfl (Nat.le_of_ble_eq_true rfl) rfl ?_
      refine mp_eq rfl rfl (st2 := [.int (nI ((sp_fm S j q)))]) rfl ?_
      exact mp_iret X d_M_format_15 rfl rfl (by decide) (by decide) ⟨rfl, rfl, ⟨_, hS1⟩, mp_gr.rf⟩
set_option maxRecDepth 100000 in
set_option maxHeartbeats 4000000 in
theorem k_M_runs {l : Launch} (hl0 : l.stackTraces = false) {G : mp_G} {h : mp_H} {S : pq_S} {ad : Nat → Nat} {x : Int32} (hS1 : cm_S G h S ad) (hg : sp_g S) :
    mp_M G mp_Ts l y_M_runs 8 1 8 [.ref (G.1 + 0), .int x] h (cm_R G h (sp_runs S x)) (cm_T G h (sp_runs S x)) := by
  have hM : S.1 ≤ 90 := hg.1.1
  refine mp_enter (by decide) Y_M_runs fun E hl X => ?_
  refine mp_eq rfl (L2 := [.val (.ref (G.1 + 0)), .val (.int x), .unset, .unset, .unset]) rfl rfl ?_
  cases hx : sp_ix 3 x with
  | none =>
    have hz : sp_runs S x = (1, 0, S) := by unfold sp_runs; rw [hx]
    rw [hz]
    refine mp_aload_n X 1 d_M_runs_0 rfl rfl rfl ?_
    refine mp_iload_n X 2 d_M_runs_1 rfl rfl rfl ?_
    refine mp_call X mp_Ts_ok 5 (rest := []) (k_M_pageNumberedF (by rw [hl]; exact hl0) hS1.1 hx) Y_M_pageNumbered in_M (mp_IV X (q := (nR_M, nT_M, 2)) d_M_runs_2 Y_M_pageNumbered ml_M_20 im_M_pageNumbered se_M_pageNumbered (by decide) rfl (by decide) (by show _ = some 1; decide) (Nat.lt_of_lt_of_le (by decide) hS1.1.1) hS1.1.2.1) rfl (by decide) (by decide) (by decide) (by decide) rfl (Nat.le_of_ble_eq_true rfl) (fun v h9 hp9 => hp9.elim) (fun x9 h9 q9 hp9 hq9 hk9 hx9 => ?_)
    obtain ⟨rfl, rfl⟩ := hp9
    exact mp_out X (by decide) (by decide) hq9 hk9 hx9 (cm_Tx (x := 0) hS1)
  | some j =>
    obtain ⟨hj, rfl⟩ := sp_ix_some hx (by decide)
    have hTl := sp_T_len hg.1 hj
    have hz : sp_runs S (nI j) = (0, nI (pq_ru (sp_fm S j) (rm_T S j).length), S) := by unfold sp_runs; rw [hx]
    rw [hz]
    refine mp_aload_n X 1 d_M_runs_0 rfl rfl rfl ?_
    refine mp_iload_n X 2 d_M_runs_1 rfl rfl rfl ?_
    refine mp_callE X mp_Ts_ok 5 (rest := []) (k_M_pageNumberedT _ hS1.1 hj) Y_M_pageNumbered in_M (mp_IV X (q := (nR_M, nT_M, 2)) d_M_runs_2 Y_M_pageNumbered ml_M_20 im_M_pageNumbered se_M_pageNumbered (by decide) rfl (by decide) (by show _ = some 1; decide) (Nat.lt_of_lt_of_le (by decide) hS1.1.1) hS1.1.2.1) rfl (by decide) (by decide) (by decide) (by decide) rfl (Nat.le_of_ble_eq_true rfl) rfl ?_
    refine mp_eq rfl rfl (st2 := [.ref (G.1 + (2 + 8 * j))]) rfl ?_
    refine mp_astore_n X 6 (L' := [.val (.ref (G.1 + 0)), .val (.int (nI j)), .val (.ref (G.1 + (2 + 8 * j))), .unset, .unset]) d_M_runs_5 rfl rfl rfl rfl rfl ?_
    refine mp_iconst X 7 (v := nI 0) d_M_runs_6 rfl (by decide) ?_
    refine mp_istore_n X 8 (L' := [.val (.ref (G.1 + 0)), .val (.int (nI j)), .val (.ref (G.1 + (2 + 8 * j))), .val (.int (nI 0)), .unset]) d_M_runs_7 rfl rfl rfl rfl rfl ?_
    refine mp_iconst X 9 (v := nI 0) d_M_runs_8 rfl (by decide) ?_
    refine mp_istore X 11 (L' := [.val (.ref (G.1 + 0)), .val (.int (nI j)), .val (.ref (G.1 + (2 + 8 * j))), .val (.int (nI 0)), .val (.int (nI 0))]) d_M_runs_9 rfl rfl rfl rfl ?_
    have hloop : ∀ (n p : Nat), p + n = (rm_T S j).length → mp_W G E h 0 0 (mp_Q G E 1 8 (cm_R G h (0, nI (pq_ru (sp_fm S j) (rm_T S j).length), S)) (cm_T G h (0, nI (pq_ru (sp_fm S j) (rm_T S j).length), S))) 11 [.val (.ref (G.1 + 0)), .val (.int (nI j)), .val (.ref (G.1 + (2 + 8 * j))), .val (.int (nI (pq_ru (sp_fm S j) p))), .val (.int (nI p))] [] := by
      intro n
      induction n with
      | zero =>
        intro p hpn
        have hpl : p = (rm_T S j).length := by omega
        subst hpl
        refine mp_iload X 13 d_M_runs_11 rfl rfl ?_
        refine mp_aload_n X 14 d_M_runs_13 rfl rfl rfl ?_
        refine mp_getf (v := .int (nI ((rm_T S j).length))) X 17 lk_M_24_P d_M_runs_14 rfl ((hS1.2.2.2 j hj).1.sz (by omega)) (hS1.2.2.2 j hj).1.ob (hS1.2.2.2 j hj).2.2.2.2.2.2.1 ?_
        refine mp_Nge X 38 20 d_M_runs_17 (by decide) rfl (by omega) (by omega) (fun q1 => ?_) (fun q1 => ?_)
        · refine mp_iload_n X 39 d_M_runs_38 rfl rfl rfl ?_
          exact mp_iret X d_M_runs_39 rfl rfl (by decide) (by decide) ⟨rfl, rfl, ⟨_, hS1⟩, mp_gr.rf⟩
        · omega
      | succ n ih =>
        intro p hpn
        obtain ⟨bn, hbn, hb⟩ := rm_b_n (pq_bg (sp_fm S j) p)
        have hbl : bn < 2 := by omega
        have hrs := pq_ru_s (sp_fm S j) p
        refine mp_iload X 13 d_M_runs_11 rfl rfl ?_
        refine mp_aload_n X 14 d_M_runs_13 rfl rfl rfl ?_
        refine mp_getf (v := .int (nI ((rm_T S j).length))) X 17 lk_M_24_P d_M_runs_14 rfl ((hS1.2.2.2 j hj).1.sz (by omega)) (hS1.2.2.2 j hj).1.ob (hS1.2.2.2 j hj).2.2.2.2.2.2.1 ?_
        refine mp_Nge X 38 20 d_M_runs_17 (by decide) rfl (by omega) (by omega) (fun q1 => ?_) (fun q1 => ?_)
        · omega
        · refine mp_aload_n X 21 d_M_runs_20 rfl rfl rfl ?_
          refine mp_iload X 23 d_M_runs_21 rfl rfl ?_
          refine mp_callE X mp_Ts_ok 26 (rest := []) (k_P_startsRun (p := p) (n := bn) _ (hS1.2.2.2 j hj).1 hS1.2.2.1 (hS1.2.2.2 j hj).2 hg.1 hj (by omega) hbn) Y_P_startsRun in_P (mp_IV X (q := (nR_P, nT_P, 12)) d_M_runs_23 Y_P_startsRun ml_M_103 im_P_startsRun se_P_startsRun (by decide) rfl (by decide) (by show _ = some 1; decide) ((hS1.2.2.2 j hj).1.sz (by omega)) (hS1.2.2.2 j hj).1.ob) rfl (by decide) (by decide) (by decide) (by decide) rfl (Nat.le_of_ble_eq_true rfl) rfl ?_
          refine mp_Zeq X 32 29 d_M_runs_26 (by decide) rfl (by omega) (fun q2 => ?_) (fun q2 => ?_)
          · refine mp_iinc X 35 (L' := [.val (.ref (G.1 + 0)), .val (.int (nI j)), .val (.ref (G.1 + (2 + 8 * j))), .val (.int (nI ((pq_ru (sp_fm S j) p)))), .val (.int (nI (p + 1)))]) (v := nI (p + 1)) d_M_runs_32 rfl rfl (nI_1 _) rfl ?_
            refine mp_goto X 11 d_M_runs_35 (by decide) ?_
            have hbb : pq_bg (sp_fm S j) p = false := by rcases hb with ⟨h1, h2⟩ | ⟨h1, h2⟩ <;> first | exact h2 | omega
            have eg : pq_ru (sp_fm S j) (p + 1) = (pq_ru (sp_fm S j) p) := by rw [hrs, hbb]; rfl
            have hg9 := ih (p + 1) (by omega)
            rw [eg] at hg9
            exact hg9
          · refine mp_iinc X 32 (L' := [.val (.ref (G.1 + 0)), .val (.int (nI j)), .val (.ref (G.1 + (2 + 8 * j))), .val (.int (nI ((pq_ru (sp_fm S j) p) + 1))), .val (.int (nI p))]) (v := nI ((pq_ru (sp_fm S j) p) + 1)) d_M_runs_29 rfl rfl (nI_1 _) rfl ?_
            refine mp_iinc X 35 (L' := [.val (.ref (G.1 + 0)), .val (.int (nI j)), .val (.ref (G.1 + (2 + 8 * j))), .val (.int (nI ((pq_ru (sp_fm S j) p) + 1))), .val (.int (nI (p + 1)))]) (v := nI (p + 1)) d_M_runs_32 rfl rfl (nI_1 _) rfl ?_
            refine mp_goto X 11 d_M_runs_35 (by decide) ?_
            have hbb : pq_bg (sp_fm S j) p = true := by rcases hb with ⟨h1, h2⟩ | ⟨h1, h2⟩ <;> first | exact h2 | omega
            have eg : pq_ru (sp_fm S j) (p + 1) = (pq_ru (sp_fm S j) p) + 1 := by rw [hrs, hbb]; rfl
            have hg9 := ih (p + 1) (by omega)
            rw [eg] at hg9
            exact hg9
    exact hloop (rm_T S j).length 0 (by omega)
set_option maxRecDepth 100000 in
set_option maxHeartbeats 4000000 in
theorem k_M_run {l : Launch} (hl0 : l.stackTraces = false) {G : mp_G} {h : mp_H} {S : pq_S} {ad : Nat → Nat} {x k w : Int32} (hS1 : cm_S G h S ad) (hg : sp_g S) :
    mp_M G mp_Ts l y_M_run 8 1 8 [.ref (G.1 + 0), .int x, .int k, .int w] h (cm_R G h (sp_run S x k w)) (cm_T G h (sp_run S x k w)) := by
  have hM : S.1 ≤ 90 := hg.1.1
  refine mp_enter (by decide) Y_M_run fun E hl X => ?_
  refine mp_eq rfl (L2 := [.val (.ref (G.1 + 0)), .val (.int x), .val (.int k), .val (.int w), .unset, .unset]) rfl rfl ?_
  cases hx : sp_ix 3 x with
  | none =>
    have hz : sp_run S x k w = (1, 0, S) := by unfold sp_run; rw [hx]
    rw [hz]
    refine mp_aload_n X 1 d_M_run_0 rfl rfl rfl ?_
    refine mp_iload_n X 2 d_M_run_1 rfl rfl rfl ?_
    refine mp_call X mp_Ts_ok 5 (rest := []) (k_M_pageNumberedF (by rw [hl]; exact hl0) hS1.1 hx) Y_M_pageNumbered in_M (mp_IV X (q := (nR_M, nT_M, 2)) d_M_run_2 Y_M_pageNumbered ml_M_20 im_M_pageNumbered se_M_pageNumbered (by decide) rfl (by decide) (by show _ = some 1; decide) (Nat.lt_of_lt_of_le (by decide) hS1.1.1) hS1.1.2.1) rfl (by decide) (by decide) (by decide) (by decide) rfl (Nat.le_of_ble_eq_true rfl) (fun v h9 hp9 => hp9.elim) (fun x9 h9 q9 hp9 hq9 hk9 hx9 => ?_)
    obtain ⟨rfl, rfl⟩ := hp9
    exact mp_out X (by decide) (by decide) hq9 hk9 hx9 (cm_Tx (x := 0) hS1)
  | some j =>
    obtain ⟨hj, rfl⟩ := sp_ix_some hx (by decide)
    have hTl := sp_T_len hg.1 hj
    have hrl := pq_ru_le (sp_fm S j) (rm_T S j).length
    cases hw3 : sp_ix 3 w with
    | none =>
      have hz : sp_run S (nI j) k w = (1, 0, S) := by unfold sp_run; rw [hx, hw3]
      rw [hz]
      refine mp_aload_n X 1 d_M_run_0 rfl rfl rfl ?_
      refine mp_iload_n X 2 d_M_run_1 rfl rfl rfl ?_
      refine mp_callE X mp_Ts_ok 5 (rest := []) (k_M_pageNumberedT _ hS1.1 hj) Y_M_pageNumbered in_M (mp_IV X (q := (nR_M, nT_M, 2)) d_M_run_2 Y_M_pageNumbered ml_M_20 im_M_pageNumbered se_M_pageNumbered (by decide) rfl (by decide) (by show _ = some 1; decide) (Nat.lt_of_lt_of_le (by decide) hS1.1.1) hS1.1.2.1) rfl (by decide) (by decide) (by decide) (by decide) rfl (Nat.le_of_ble_eq_true rfl) rfl ?_
      refine mp_eq rfl rfl (st2 := [.ref (G.1 + (2 + 8 * j))]) rfl ?_
      refine mp_astore X 7 (L' := [.val (.ref (G.1 + 0)), .val (.int (nI j)), .val (.int (k)), .val (.int (w)), .val (.ref (G.1 + (2 + 8 * j))), .unset]) d_M_run_5 rfl rfl rfl rfl ?_
      refine mp_iload_n X 8 d_M_run_7 rfl rfl rfl ?_
      refine mp_if_lt X 20 11 d_M_run_8 (by decide) rfl (fun q1 => ?_) (fun q1 => ?_)
      · refine mp_iconst X 21 (v := nI 0) d_M_run_20 rfl (by decide) ?_
        refine mp_call X mp_Ts_ok 24 (rest := []) (k_M_raF (by rw [hl]; exact hl0)) Y_M_refuseArgumentUnless in_M (mp_IS X d_M_run_21 Y_M_refuseArgumentUnless ml_M_64 st_M_refuseArgumentUnless in_M (by decide) (by show _ = some 1; decide)) rfl (by decide) (by decide) (by decide) (by decide) rfl (Nat.le_of_ble_eq_true rfl) (fun v h9 hp9 => hp9.elim) (fun x9 h9 q9 hp9 hq9 hk9 hx9 => ?_)
        obtain ⟨rfl, rfl⟩ := hp9
        exact mp_out X (by decide) (by decide) hq9 hk9 hx9 (cm_Tx (x := 0) hS1)
      · refine mp_iload_n X 12 d_M_run_11 rfl rfl rfl ?_
        refine mp_iconst X 13 (v := nI 2) d_M_run_12 rfl (by decide) ?_
        refine mp_icmp_gt X 20 16 d_M_run_13 (by decide) rfl (fun q2 => ?_) (fun q2 => ?_)
        · refine mp_iconst X 21 (v := nI 0) d_M_run_20 rfl (by decide) ?_
          refine mp_call X mp_Ts_ok 24 (rest := []) (k_M_raF (by rw [hl]; exact hl0)) Y_M_refuseArgumentUnless in_M (mp_IS X d_M_run_21 Y_M_refuseArgumentUnless ml_M_64 st_M_refuseArgumentUnless in_M (by decide) (by show _ = some 1; decide)) rfl (by decide) (by decide) (by decide) (by decide) rfl (Nat.le_of_ble_eq_true rfl) (fun v h9 hp9 => hp9.elim) (fun x9 h9 q9 hp9 hq9 hk9 hx9 => ?_)
          obtain ⟨rfl, rfl⟩ := hp9
          exact mp_out X (by decide) (by decide) hq9 hk9 hx9 (cm_Tx (x := 0) hS1)
        · exfalso; obtain ⟨q0, hq0, rfl⟩ := nI_of q1; have := Nat.not_lt.mp fun z => q2 ((nI_ltI (by decide) hq0).mpr z); rw [sp_ix_of (by omega) (by decide)] at hw3; cases hw3
    | some v =>
      obtain ⟨hv, rfl⟩ := sp_ix_some hw3 (by decide)
      cases hk0 : sp_ix (pq_ru (sp_fm S j) (rm_T S j).length) k with
      | none =>
        have hz : sp_run S (nI j) k (nI v) = (2, 0, S) := by unfold sp_run; rw [hx, hw3]; simp only []; rw [hk0]
        rw [hz]
        by_cases hk : k < 0
        · refine mp_aload_n X 1 d_M_run_0 rfl rfl rfl ?_
          refine mp_iload_n X 2 d_M_run_1 rfl rfl rfl ?_
          refine mp_callE X mp_Ts_ok 5 (rest := []) (k_M_pageNumberedT _ hS1.1 hj) Y_M_pageNumbered in_M (mp_IV X (q := (nR_M, nT_M, 2)) d_M_run_2 Y_M_pageNumbered ml_M_20 im_M_pageNumbered se_M_pageNumbered (by decide) rfl (by decide) (by show _ = some 1; decide) (Nat.lt_of_lt_of_le (by decide) hS1.1.1) hS1.1.2.1) rfl (by decide) (by decide) (by decide) (by decide) rfl (Nat.le_of_ble_eq_true rfl) rfl ?_
          refine mp_eq rfl rfl (st2 := [.ref (G.1 + (2 + 8 * j))]) rfl ?_
          refine mp_astore X 7 (L' := [.val (.ref (G.1 + 0)), .val (.int (nI j)), .val (.int (k)), .val (.int (nI v)), .val (.ref (G.1 + (2 + 8 * j))), .unset]) d_M_run_5 rfl rfl rfl rfl ?_
          refine mp_iload_n X 8 d_M_run_7 rfl rfl rfl ?_
          refine mp_Zlt X 20 11 d_M_run_8 (by decide) rfl (by omega) (fun q1 => ?_) (fun q1 => ?_)
          · exact q1.elim
          · refine mp_iload_n X 12 d_M_run_11 rfl rfl rfl ?_
            refine mp_iconst X 13 (v := nI 2) d_M_run_12 rfl (by decide) ?_
            refine mp_Ngt X 20 16 d_M_run_13 (by decide) rfl (by omega) (by omega) (fun q2 => ?_) (fun q2 => ?_)
            · omega
            · refine mp_iconst X 17 (v := nI 1) d_M_run_16 rfl (by decide) ?_
              refine mp_goto X 21 d_M_run_17 (by decide) ?_
              refine mp_callE X mp_Ts_ok 24 (rest := []) (k_M_raT _) Y_M_refuseArgumentUnless in_M (mp_IS X d_M_run_21 Y_M_refuseArgumentUnless ml_M_64 st_M_refuseArgumentUnless in_M (by decide) (by show _ = some 1; decide)) rfl (by decide) (by decide) (by decide) (by decide) rfl (Nat.le_of_ble_eq_true rfl) rfl ?_
              refine mp_aload X 26 d_M_run_24 rfl rfl ?_
              refine mp_iload_n X 27 d_M_run_26 rfl rfl rfl ?_
              refine mp_callE X mp_Ts_ok 30 (rest := []) (k_P_startOfRunB _ (hS1.2.2.2 j hj).1 hS1.2.2.1 (hS1.2.2.2 j hj).2 hg.1 hj hk) Y_P_startOfRun in_P (mp_IV X (q := (nR_P, nT_P, 12)) d_M_run_27 Y_P_startOfRun ml_M_106 im_P_startOfRun se_P_startOfRun (by decide) rfl (by decide) (by show _ = some 1; decide) ((hS1.2.2.2 j hj).1.sz (by omega)) (hS1.2.2.2 j hj).1.ob) rfl (by decide) (by decide) (by decide) (by decide) rfl (Nat.le_of_ble_eq_true rfl) rfl ?_
              refine mp_eq rfl rfl (st2 := [.int (nI ((rm_T S j).length))]) rfl ?_
              refine mp_istore X 32 (L' := [.val (.ref (G.1 + 0)), .val (.int (nI j)), .val (.int (k)), .val (.int (nI v)), .val (.ref (G.1 + (2 + 8 * j))), .val (.int (nI ((rm_T S j).length)))]) d_M_run_30 rfl rfl rfl rfl ?_
              refine mp_iload X 34 d_M_run_32 rfl rfl ?_
              refine mp_aload X 36 d_M_run_34 rfl rfl ?_
              refine mp_getf (v := .int (nI ((rm_T S j).length))) X 39 lk_M_24_P d_M_run_36 rfl ((hS1.2.2.2 j hj).1.sz (by omega)) (hS1.2.2.2 j hj).1.ob (hS1.2.2.2 j hj).2.2.2.2.2.2.1 ?_
              refine mp_Nge X 46 42 d_M_run_39 (by decide) rfl (by omega) (by omega) (fun q3 => ?_) (fun q3 => ?_)
              · refine mp_iconst X 47 (v := nI 0) d_M_run_46 rfl (by decide) ?_
                refine mp_call X mp_Ts_ok 50 (rest := []) (k_M_riF (by rw [hl]; exact hl0)) Y_M_refuseIndexUnless in_M (mp_IS X d_M_run_47 Y_M_refuseIndexUnless ml_M_27 st_M_refuseIndexUnless in_M (by decide) (by show _ = some 1; decide)) rfl (by decide) (by decide) (by decide) (by decide) rfl (Nat.le_of_ble_eq_true rfl) (fun v h9 hp9 => hp9.elim) (fun x9 h9 q9 hp9 hq9 hk9 hx9 => ?_)
                obtain ⟨rfl, rfl⟩ := hp9
                exact mp_out X (by decide) (by decide) hq9 hk9 hx9 (cm_Tx (x := 1) hS1)
              · omega
        · obtain ⟨r, hr0, rfl⟩ := nI_of hk
          have hfu : (pq_sr (sp_fm S j) r (rm_T S j).length) = (rm_T S j).length := pq_sr_full (Nat.not_lt.mp fun z => by rw [sp_ix_of z (by omega)] at hk0; cases hk0)
          refine mp_aload_n X 1 d_M_run_0 rfl rfl rfl ?_
          refine mp_iload_n X 2 d_M_run_1 rfl rfl rfl ?_
          refine mp_callE X mp_Ts_ok 5 (rest := []) (k_M_pageNumberedT _ hS1.1 hj) Y_M_pageNumbered in_M (mp_IV X (q := (nR_M, nT_M, 2)) d_M_run_2 Y_M_pageNumbered ml_M_20 im_M_pageNumbered se_M_pageNumbered (by decide) rfl (by decide) (by show _ = some 1; decide) (Nat.lt_of_lt_of_le (by decide) hS1.1.1) hS1.1.2.1) rfl (by decide) (by decide) (by decide) (by decide) rfl (Nat.le_of_ble_eq_true rfl) rfl ?_
          refine mp_eq rfl rfl (st2 := [.ref (G.1 + (2 + 8 * j))]) rfl ?_
          refine mp_astore X 7 (L' := [.val (.ref (G.1 + 0)), .val (.int (nI j)), .val (.int (nI r)), .val (.int (nI v)), .val (.ref (G.1 + (2 + 8 * j))), .unset]) d_M_run_5 rfl rfl rfl rfl ?_
          refine mp_iload_n X 8 d_M_run_7 rfl rfl rfl ?_
          refine mp_Zlt X 20 11 d_M_run_8 (by decide) rfl (by omega) (fun q1 => ?_) (fun q1 => ?_)
          · exact q1.elim
          · refine mp_iload_n X 12 d_M_run_11 rfl rfl rfl ?_
            refine mp_iconst X 13 (v := nI 2) d_M_run_12 rfl (by decide) ?_
            refine mp_Ngt X 20 16 d_M_run_13 (by decide) rfl (by omega) (by omega) (fun q2 => ?_) (fun q2 => ?_)
            · omega
            · refine mp_iconst X 17 (v := nI 1) d_M_run_16 rfl (by decide) ?_
              refine mp_goto X 21 d_M_run_17 (by decide) ?_
              refine mp_callE X mp_Ts_ok 24 (rest := []) (k_M_raT _) Y_M_refuseArgumentUnless in_M (mp_IS X d_M_run_21 Y_M_refuseArgumentUnless ml_M_64 st_M_refuseArgumentUnless in_M (by decide) (by show _ = some 1; decide)) rfl (by decide) (by decide) (by decide) (by decide) rfl (Nat.le_of_ble_eq_true rfl) rfl ?_
              refine mp_aload X 26 d_M_run_24 rfl rfl ?_
              refine mp_iload_n X 27 d_M_run_26 rfl rfl rfl ?_
              refine mp_callE X mp_Ts_ok 30 (rest := []) (k_P_startOfRunA (r := r) _ (hS1.2.2.2 j hj).1 hS1.2.2.1 (hS1.2.2.2 j hj).2 hg.1 hj (by omega)) Y_P_startOfRun in_P (mp_IV X (q := (nR_P, nT_P, 12)) d_M_run_27 Y_P_startOfRun ml_M_106 im_P_startOfRun se_P_startOfRun (by decide) rfl (by decide) (by show _ = some 1; decide) ((hS1.2.2.2 j hj).1.sz (by omega)) (hS1.2.2.2 j hj).1.ob) rfl (by decide) (by decide) (by decide) (by decide) rfl (Nat.le_of_ble_eq_true rfl) rfl ?_
              refine mp_eq rfl rfl (st2 := [.int (nI ((pq_sr (sp_fm S j) r (rm_T S j).length)))]) rfl ?_
              refine mp_istore X 32 (L' := [.val (.ref (G.1 + 0)), .val (.int (nI j)), .val (.int (nI r)), .val (.int (nI v)), .val (.ref (G.1 + (2 + 8 * j))), .val (.int (nI ((pq_sr (sp_fm S j) r (rm_T S j).length))))]) d_M_run_30 rfl rfl rfl rfl ?_
              refine mp_iload X 34 d_M_run_32 rfl rfl ?_
              refine mp_aload X 36 d_M_run_34 rfl rfl ?_
              refine mp_getf (v := .int (nI ((rm_T S j).length))) X 39 lk_M_24_P d_M_run_36 rfl ((hS1.2.2.2 j hj).1.sz (by omega)) (hS1.2.2.2 j hj).1.ob (hS1.2.2.2 j hj).2.2.2.2.2.2.1 ?_
              refine mp_Nge X 46 42 d_M_run_39 (by decide) rfl (by omega) (by omega) (fun q3 => ?_) (fun q3 => ?_)
              · refine mp_iconst X 47 (v := nI 0) d_M_run_46 rfl (by decide) ?_
                refine mp_call X mp_Ts_ok 50 (rest := []) (k_M_riF (by rw [hl]; exact hl0)) Y_M_refuseIndexUnless in_M (mp_IS X d_M_run_47 Y_M_refuseIndexUnless ml_M_27 st_M_refuseIndexUnless in_M (by decide) (by show _ = some 1; decide)) rfl (by decide) (by decide) (by decide) (by decide) rfl (Nat.le_of_ble_eq_true rfl) (fun v h9 hp9 => hp9.elim) (fun x9 h9 q9 hp9 hq9 hk9 hx9 => ?_)
                obtain ⟨rfl, rfl⟩ := hp9
                exact mp_out X (by decide) (by decide) hq9 hk9 hx9 (cm_Tx (x := 1) hS1)
              · omega
      | some r =>
        obtain ⟨hr, rfl⟩ := sp_ix_some hk0 (by omega)
        have hsr := pq_sr_in hr
        have hsm := pq_sr_mono (sp_fm S j) r (rm_T S j).length
        have hsl := pq_sr_le (sp_fm S j) (r + 1) (rm_T S j).length
        obtain rfl | rfl | rfl : v = 0 ∨ v = 1 ∨ v = 2 := by omega
        · have hz : sp_run S (nI j) (nI r) (nI 0) = (0, nI (pq_sr (sp_fm S j) r (rm_T S j).length), S) := by unfold sp_run; rw [hx, hw3]; simp only []; rw [hk0]; rfl
          rw [hz]
          refine mp_aload_n X 1 d_M_run_0 rfl rfl rfl ?_
          refine mp_iload_n X 2 d_M_run_1 rfl rfl rfl ?_
          refine mp_callE X mp_Ts_ok 5 (rest := []) (k_M_pageNumberedT _ hS1.1 hj) Y_M_pageNumbered in_M (mp_IV X (q := (nR_M, nT_M, 2)) d_M_run_2 Y_M_pageNumbered ml_M_20 im_M_pageNumbered se_M_pageNumbered (by decide) rfl (by decide) (by show _ = some 1; decide) (Nat.lt_of_lt_of_le (by decide) hS1.1.1) hS1.1.2.1) rfl (by decide) (by decide) (by decide) (by decide) rfl (Nat.le_of_ble_eq_true rfl) rfl ?_
          refine mp_eq rfl rfl (st2 := [.ref (G.1 + (2 + 8 * j))]) rfl ?_
          refine mp_astore X 7 (L' := [.val (.ref (G.1 + 0)), .val (.int (nI j)), .val (.int (nI r)), .val (.int (nI 0)), .val (.ref (G.1 + (2 + 8 * j))), .unset]) d_M_run_5 rfl rfl rfl rfl ?_
          refine mp_iload_n X 8 d_M_run_7 rfl rfl rfl ?_
          refine mp_Zlt X 20 11 d_M_run_8 (by decide) rfl (by omega) (fun q1 => ?_) (fun q1 => ?_)
          · exact q1.elim
          · refine mp_iload_n X 12 d_M_run_11 rfl rfl rfl ?_
            refine mp_iconst X 13 (v := nI 2) d_M_run_12 rfl (by decide) ?_
            refine mp_Ngt X 20 16 d_M_run_13 (by decide) rfl (by omega) (by omega) (fun q2 => ?_) (fun q2 => ?_)
            · omega
            · refine mp_iconst X 17 (v := nI 1) d_M_run_16 rfl (by decide) ?_
              refine mp_goto X 21 d_M_run_17 (by decide) ?_
              refine mp_callE X mp_Ts_ok 24 (rest := []) (k_M_raT _) Y_M_refuseArgumentUnless in_M (mp_IS X d_M_run_21 Y_M_refuseArgumentUnless ml_M_64 st_M_refuseArgumentUnless in_M (by decide) (by show _ = some 1; decide)) rfl (by decide) (by decide) (by decide) (by decide) rfl (Nat.le_of_ble_eq_true rfl) rfl ?_
              refine mp_aload X 26 d_M_run_24 rfl rfl ?_
              refine mp_iload_n X 27 d_M_run_26 rfl rfl rfl ?_
              refine mp_callE X mp_Ts_ok 30 (rest := []) (k_P_startOfRunA (r := r) _ (hS1.2.2.2 j hj).1 hS1.2.2.1 (hS1.2.2.2 j hj).2 hg.1 hj (by omega)) Y_P_startOfRun in_P (mp_IV X (q := (nR_P, nT_P, 12)) d_M_run_27 Y_P_startOfRun ml_M_106 im_P_startOfRun se_P_startOfRun (by decide) rfl (by decide) (by show _ = some 1; decide) ((hS1.2.2.2 j hj).1.sz (by omega)) (hS1.2.2.2 j hj).1.ob) rfl (by decide) (by decide) (by decide) (by decide) rfl (Nat.le_of_ble_eq_true rfl) rfl ?_
              refine mp_eq rfl rfl (st2 := [.int (nI ((pq_sr (sp_fm S j) r (rm_T S j).length)))]) rfl ?_
              refine mp_istore X 32 (L' := [.val (.ref (G.1 + 0)), .val (.int (nI j)), .val (.int (nI r)), .val (.int (nI 0)), .val (.ref (G.1 + (2 + 8 * j))), .val (.int (nI ((pq_sr (sp_fm S j) r (rm_T S j).length))))]) d_M_run_30 rfl rfl rfl rfl ?_
              refine mp_iload X 34 d_M_run_32 rfl rfl ?_
              refine mp_aload X 36 d_M_run_34 rfl rfl ?_
              refine mp_getf (v := .int (nI ((rm_T S j).length))) X 39 lk_M_24_P d_M_run_36 rfl ((hS1.2.2.2 j hj).1.sz (by omega)) (hS1.2.2.2 j hj).1.ob (hS1.2.2.2 j hj).2.2.2.2.2.2.1 ?_
              refine mp_Nge X 46 42 d_M_run_39 (by decide) rfl (by omega) (by omega) (fun q3 => ?_) (fun q3 => ?_)
              · omega
              · refine mp_iconst X 43 (v := nI 1) d_M_run_42 rfl (by decide) ?_
                refine mp_goto X 47 d_M_run_43 (by decide) ?_
                refine mp_callE X mp_Ts_ok 50 (rest := []) (k_M_riT _) Y_M_refuseIndexUnless in_M (mp_IS X d_M_run_47 Y_M_refuseIndexUnless ml_M_27 st_M_refuseIndexUnless in_M (by decide) (by show _ = some 1; decide)) rfl (by decide) (by decide) (by decide) (by decide) rfl (Nat.le_of_ble_eq_true rfl) rfl ?_
                refine mp_iload_n X 51 d_M_run_50 rfl rfl rfl ?_
                refine mp_lookup X 76 d_M_run_51 (by decide) (off := 25) (by decide) (by decide) ?_
                refine mp_iload X 78 d_M_run_76 rfl rfl ?_
                exact mp_iret X d_M_run_78 rfl rfl (by decide) (by decide) ⟨rfl, rfl, ⟨_, hS1⟩, mp_gr.rf⟩
        · have hz : sp_run S (nI j) (nI r) (nI 1) = (0, nI ((pq_sr (sp_fm S j) (r + 1) (rm_T S j).length) - (pq_sr (sp_fm S j) r (rm_T S j).length)), S) := by unfold sp_run; rw [hx, hw3]; simp only []; rw [hk0]; rfl
          rw [hz]
          refine mp_aload_n X 1 d_M_run_0 rfl rfl rfl ?_
          refine mp_iload_n X 2 d_M_run_1 rfl rfl rfl ?_
          refine mp_callE X mp_Ts_ok 5 (rest := []) (k_M_pageNumberedT _ hS1.1 hj) Y_M_pageNumbered in_M (mp_IV X (q := (nR_M, nT_M, 2)) d_M_run_2 Y_M_pageNumbered ml_M_20 im_M_pageNumbered se_M_pageNumbered (by decide) rfl (by decide) (by show _ = some 1; decide) (Nat.lt_of_lt_of_le (by decide) hS1.1.1) hS1.1.2.1) rfl (by decide) (by decide) (by decide) (by decide) rfl (Nat.le_of_ble_eq_true rfl) rfl ?_
          refine mp_eq rfl rfl (st2 := [.ref (G.1 + (2 + 8 * j))]) rfl ?_
          refine mp_astore X 7 (L' := [.val (.ref (G.1 + 0)), .val (.int (nI j)), .val (.int (nI r)), .val (.int (nI 1)), .val (.ref (G.1 + (2 + 8 * j))), .unset]) d_M_run_5 rfl rfl rfl rfl ?_
          refine mp_iload_n X 8 d_M_run_7 rfl rfl rfl ?_
          refine mp_Zlt X 20 11 d_M_run_8 (by decide) rfl (by omega) (fun q1 => ?_) (fun q1 => ?_)
          · exact q1.elim
          · refine mp_iload_n X 12 d_M_run_11 rfl rfl rfl ?_
            refine mp_iconst X 13 (v := nI 2) d_M_run_12 rfl (by decide) ?_
            refine mp_Ngt X 20 16 d_M_run_13 (by decide) rfl (by omega) (by omega) (fun q2 => ?_) (fun q2 => ?_)
            · omega
            · refine mp_iconst X 17 (v := nI 1) d_M_run_16 rfl (by decide) ?_
              refine mp_goto X 21 d_M_run_17 (by decide) ?_
              refine mp_callE X mp_Ts_ok 24 (rest := []) (k_M_raT _) Y_M_refuseArgumentUnless in_M (mp_IS X d_M_run_21 Y_M_refuseArgumentUnless ml_M_64 st_M_refuseArgumentUnless in_M (by decide) (by show _ = some 1; decide)) rfl (by decide) (by decide) (by decide) (by decide) rfl (Nat.le_of_ble_eq_true rfl) rfl ?_
              refine mp_aload X 26 d_M_run_24 rfl rfl ?_
              refine mp_iload_n X 27 d_M_run_26 rfl rfl rfl ?_
              refine mp_callE X mp_Ts_ok 30 (rest := []) (k_P_startOfRunA (r := r) _ (hS1.2.2.2 j hj).1 hS1.2.2.1 (hS1.2.2.2 j hj).2 hg.1 hj (by omega)) Y_P_startOfRun in_P (mp_IV X (q := (nR_P, nT_P, 12)) d_M_run_27 Y_P_startOfRun ml_M_106 im_P_startOfRun se_P_startOfRun (by decide) rfl (by decide) (by show _ = some 1; decide) ((hS1.2.2.2 j hj).1.sz (by omega)) (hS1.2.2.2 j hj).1.ob) rfl (by decide) (by decide) (by decide) (by decide) rfl (Nat.le_of_ble_eq_true rfl) rfl ?_
              refine mp_eq rfl rfl (st2 := [.int (nI ((pq_sr (sp_fm S j) r (rm_T S j).length)))]) rfl ?_
              refine mp_istore X 32 (L' := [.val (.ref (G.1 + 0)), .val (.int (nI j)), .val (.int (nI r)), .val (.int (nI 1)), .val (.ref (G.1 + (2 + 8 * j))), .val (.int (nI ((pq_sr (sp_fm S j) r (rm_T S j).length))))]) d_M_run_30 rfl rfl rfl rfl ?_
              refine mp_iload X 34 d_M_run_32 rfl rfl ?_
              refine mp_aload X 36 d_M_run_34 rfl rfl ?_
              refine mp_getf (v := .int (nI ((rm_T S j).length))) X 39 lk_M_24_P d_M_run_36 rfl ((hS1.2.2.2 j hj).1.sz (by omega)) (hS1.2.2.2 j hj).1.ob (hS1.2.2.2 j hj).2.2.2.2.2.2.1 ?_
              refine mp_Nge X 46 42 d_M_run_39 (by decide) rfl (by omega) (by omega) (fun q3 => ?_) (fun q3 => ?_)
              · omega
              · refine mp_iconst X 43 (v := nI 1) d_M_run_42 rfl (by decide) ?_
                refine mp_goto X 47 d_M_run_43 (by decide) ?_
                refine mp_callE X mp_Ts_ok 50 (rest := []) (k_M_riT _) Y_M_refuseIndexUnless in_M (mp_IS X d_M_run_47 Y_M_refuseIndexUnless ml_M_27 st_M_refuseIndexUnless in_M (by decide) (by show _ = some 1; decide)) rfl (by decide) (by decide) (by decide) (by decide) rfl (Nat.le_of_ble_eq_true rfl) rfl ?_
                refine mp_iload_n X 51 d_M_run_50 rfl rfl rfl ?_
                refine mp_lookup X 79 d_M_run_51 (by decide) (off := 28) (by decide) (by decide) ?_
                refine mp_aload X 81 d_M_run_79 rfl rfl ?_
                refine mp_iload_n X 82 d_M_run_81 rfl rfl rfl ?_
                refine mp_iconst X 83 (v := nI 1) d_M_run_82 rfl (by decide) ?_
                refine mp_iadd X 84 d_M_run_83 rfl ?_
                rw [nI_add]
                refine mp_callE X mp_Ts_ok 87 (rest := []) (k_P_startOfRunA (r := r + 1) _ (hS1.2.2.2 j hj).1 hS1.2.2.1 (hS1.2.2.2 j hj).2 hg.1 hj (by omega)) Y_P_startOfRun in_P (mp_IV X (q := (nR_P, nT_P, 12)) d_M_run_84 Y_P_startOfRun ml_M_106 im_P_startOfRun se_P_startOfRun (by decide) rfl (by decide) (by show _ = some 1; decide) ((hS1.2.2.2 j hj).1.sz (by omega)) (hS1.2.2.2 j hj).1.ob) rfl (by decide) (by decide) (by decide) (by decide) rfl (Nat.le_of_ble_eq_true rfl) rfl ?_
                refine mp_eq rfl rfl (st2 := [.int (nI ((pq_sr (sp_fm S j) (r + 1) (rm_T S j).length)))]) rfl ?_
                refine mp_iload X 89 d_M_run_87 rfl rfl ?_
                refine mp_isub X 90 d_M_run_89 rfl ?_
                have e4 : (nI ((pq_sr (sp_fm S j) (r + 1) (rm_T S j).length))) - (nI ((pq_sr (sp_fm S j) r (rm_T S j).length))) = nI (((pq_sr (sp_fm S j) (r + 1) (rm_T S j).length) - (pq_sr (sp_fm S j) r (rm_T S j).length))) := pk_sub (by omega)
                rw [e4]
                exact mp_iret X d_M_run_90 rfl rfl (by decide) (by decide) ⟨rfl, rfl, ⟨_, hS1⟩, mp_gr.rf⟩
        · have hz : sp_run S (nI j) (nI r) (nI 2) = (0, nI (sp_fm S j (pq_sr (sp_fm S j) r (rm_T S j).length)), S) := by unfold sp_run; rw [hx, hw3]; simp only []; rw [hk0]; rfl
          rw [hz]
          refine mp_aload_n X 1 d_M_run_0 rfl rfl rfl ?_
          refine mp_iload_n X 2 d_M_run_1 rfl rfl rfl ?_
          refine mp_callE X mp_Ts_ok 5 (rest := []) (k_M_pageNumberedT _ hS1.1 hj) Y_M_pageNumbered in_M (mp_IV X (q := (nR_M, nT_M, 2)) d_M_run_2 Y_M_pageNumbered ml_M_20 im_M_pageNumbered se_M_pageNumbered (by decide) rfl (by decide) (by show _ = some 1; decide) (Nat.lt_of_lt_of_le (by decide) hS1.1.1) hS1.1.2.1) rfl (by decide) (by decide) (by decide) (by decide) rfl (Nat.le_of_ble_eq_true rfl) rfl ?_
          refine mp_eq rfl rfl (st2 := [.ref (G.1 + (2 + 8 * j))]) rfl ?_
          refine mp_astore X 7 (L' := [.val (.ref (G.1 + 0)), .val (.int (nI j)), .val (.int (nI r)), .val (.int (nI 2)), .val (.ref (G.1 + (2 + 8 * j))), .unset]) d_M_run_5 rfl rfl rfl rfl ?_
          refine mp_iload_n X 8 d_M_run_7 rfl rfl rfl ?_
          refine mp_Zlt X 20 11 d_M_run_8 (by decide) rfl (by omega) (fun q1 => ?_) (fun q1 => ?_)
          · exact q1.elim
          · refine mp_iload_n X 12 d_M_run_11 rfl rfl rfl ?_
            refine mp_iconst X 13 (v := nI 2) d_M_run_12 rfl (by decide) ?_
            refine mp_Ngt X 20 16 d_M_run_13 (by decide) rfl (by omega) (by omega) (fun q2 => ?_) (fun q2 => ?_)
            · omega
            · refine mp_iconst X 17 (v := nI 1) d_M_run_16 rfl (by decide) ?_
              refine mp_goto X 21 d_M_run_17 (by decide) ?_
              refine mp_callE X mp_Ts_ok 24 (rest := []) (k_M_raT _) Y_M_refuseArgumentUnless in_M (mp_IS X d_M_run_21 Y_M_refuseArgumentUnless ml_M_64 st_M_refuseArgumentUnless in_M (by decide) (by show _ = some 1; decide)) rfl (by decide) (by decide) (by decide) (by decide) rfl (Nat.le_of_ble_eq_true rfl) rfl ?_
              refine mp_aload X 26 d_M_run_24 rfl rfl ?_
              refine mp_iload_n X 27 d_M_run_26 rfl rfl rfl ?_
              refine mp_callE X mp_Ts_ok 30 (rest := []) (k_P_startOfRunA (r := r) _ (hS1.2.2.2 j hj).1 hS1.2.2.1 (hS1.2.2.2 j hj).2 hg.1 hj (by omega)) Y_P_startOfRun in_P (mp_IV X (q := (nR_P, nT_P, 12)) d_M_run_27 Y_P_startOfRun ml_M_106 im_P_startOfRun se_P_startOfRun (by decide) rfl (by decide) (by show _ = some 1; decide) ((hS1.2.2.2 j hj).1.sz (by omega)) (hS1.2.2.2 j hj).1.ob) rfl (by decide) (by decide) (by decide) (by decide) rfl (Nat.le_of_ble_eq_true rfl) rfl ?_
              refine mp_eq rfl rfl (st2 := [.int (nI ((pq_sr (sp_fm S j) r (rm_T S j).length)))]) rfl ?_
              refine mp_istore X 32 (L' := [.val (.ref (G.1 + 0)), .val (.int (nI j)), .val (.int (nI r)), .val (.int (nI 2)), .val (.ref (G.1 + (2 + 8 * j))), .val (.int (nI ((pq_sr (sp_fm S j) r (rm_T S j).length))))]) d_M_run_30 rfl rfl rfl rfl ?_
              refine mp_iload X 34 d_M_run_32 rfl rfl ?_
              refine mp_aload X 36 d_M_run_34 rfl rfl ?_
              refine mp_getf (v := .int (nI ((rm_T S j).length))) X 39 lk_M_24_P d_M_run_36 rfl ((hS1.2.2.2 j hj).1.sz (by omega)) (hS1.2.2.2 j hj).1.ob (hS1.2.2.2 j hj).2.2.2.2.2.2.1 ?_
              refine mp_Nge X 46 42 d_M_run_39 (by decide) rfl (by omega) (by omega) (fun q3 => ?_) (fun q3 => ?_)
              · omega
              · refine mp_iconst X 43 (v := nI 1) d_M_run_42 rfl (by decide) ?_
                refine mp_goto X 47 d_M_run_43 (by decide) ?_
                refine mp_callE X mp_Ts_ok 50 (rest := []) (k_M_riT _) Y_M_refuseIndexUnless in_M (mp_IS X d_M_run_47 Y_M_refuseIndexUnless ml_M_27 st_M_refuseIndexUnless in_M (by decide) (by show _ = some 1; decide)) rfl (by decide) (by decide) (by decide) (by decide) rfl (Nat.le_of_ble_eq_true rfl) rfl ?_
                refine mp_iload_n X 51 d_M_run_50 rfl rfl rfl ?_
                refine mp_lookup X 91 d_M_run_51 (by decide) (off := 40) (by decide) (by decide) ?_
                refine mp_aload X 93 d_M_run_91 rfl rfl ?_
                refine mp_aload X 95 d_M_run_93 rfl rfl ?_
                refine mp_getf (v := .ref (G.1 + (2 + 8 * j + 3))) X 98 lk_M_34_P d_M_run_95 rfl ((hS1.2.2.2 j hj).1.sz (by omega)) (hS1.2.2.2 j hj).1.ob (hS1.2.2.2 j hj).1.r_text ?_
                refine mp_iload X 100 d_M_run_98 rfl rfl ?_
                refine mp_aald (t := 6) (v := .ref (G.1 + (ad (sp_t S j (pq_sr (sp_fm S j) r (rm_T S j).length))))) X 101 ((pq_sr (sp_fm S j) r (rm_T S j).length)) d_M_run_100 rfl ((hS1.2.2.2 j hj).1.sz (by omega)) (hS1.2.2.2 j hj).1.k_text (by decide) (by decide) rfl (by omega) (by decide) (cp_tx (hS1.2.2.2 j hj).2 (by omega)) ?_
                refine mp_callE X mp_Ts_ok 104 (rest := []) (k_P_formatOf _ (hS1.2.2.2 j hj).1 hS1.2.2.1 (hS1.2.2.2 j hj).2 hg.1.2.1 hg.1.1 (hg.1.2.2.1 j hj) (sp_t_row (q := (pq_sr (sp_fm S j) r (rm_T S j).length)) (by omega))) Y_P_formatOf in_P (mp_IV X (q := (nR_P, nT_P, 12)) d_M_run_101 Y_P_formatOf ml_M_96 im_P_formatOf se_P_formatOf (by decide) rfl (by decide) (by show _ = some 1; decide) ((hS1.2.2.2 j hj).1.sz (by omega)) (hS1.2.2.2 j hj).1.ob) rfl (by decide) (by decide) (by decide) (by decide) rfl (Nat.le_of_ble_eq_true rfl) rfl ?_
                refine mp_eq rfl rfl (st2 := [.int (nI ((sp_fm S j (pq_sr (sp_fm S j) r (rm_T S j).length))))]) rfl ?_
                exact mp_iret X d_M_run_104 rfl rfl (by decide) (by decide) ⟨rfl, rfl, ⟨_, hS1⟩, mp_gr.rf⟩
set_option maxRecDepth 100000 in
set_option maxHeartbeats 4000000 in
theorem k_M_count {l : Launch} (hl0 : l.stackTraces = false) {G : mp_G} {h : mp_H} {S : pq_S} {ad : Nat → Nat} {x w : Int32} (hS1 : cm_S G h S ad) (hg : sp_g S) :
    mp_M G mp_Ts l y_M_count 8 1 8 [.ref (G.1 + 0), .int x, .int w] h (cm_R G h (sp_count S x w)) (cm_T G h (sp_count S x w)) := by
  have hM : S.1 ≤ 90 := hg.1.1
  refine mp_enter (by decide) Y_M_count fun E hl X => ?_
  refine mp_eq rfl (L2 := [.val (.ref (G.1 + 0)), .val (.int x), .val (.int w), .unset]) rfl rfl ?_
  cases hx : sp_ix 3 x with
  | none =>
    have hz : sp_count S x w = (1, 0, S) := by unfold sp_count; rw [hx]
    rw [hz]
    refine mp_aload_n X 1 d_M_count_0 rfl rfl rfl ?_
    refine mp_iload_n X 2 d_M_count_1 rfl rfl rfl ?_
    refine mp_call X mp_Ts_ok 5 (rest := []) (k_M_pageNumberedF (by rw [hl]; exact hl0) hS1.1 hx) Y_M_pageNumbered in_M (mp_IV X (q := (nR_M, nT_M, 2)) d_M_count_2 Y_M_pageNumbered ml_M_20 im_M_pageNumbered se_M_pageNumbered (by decide) rfl (by decide) (by show _ = some 1; decide) (Nat.lt_of_lt_of_le (by decide) hS1.1.1) hS1.1.2.1) rfl (by decide) (by decide) (by decide) (by decide) rfl (Nat.le_of_ble_eq_true rfl) (fun v h9 hp9 => hp9.elim) (fun x9 h9 q9 hp9 hq9 hk9 hx9 => ?_)
    obtain ⟨rfl, rfl⟩ := hp9
    exact mp_out X (by decide) (by decide) hq9 hk9 hx9 (cm_Tx (x := 0) hS1)
  | some j =>
    obtain ⟨hj, rfl⟩ := sp_ix_some hx (by decide)
    have hTl := sp_T_len hg.1 hj
    cases hw4 : sp_ix 4 w with
    | none =>
      have hz : sp_count S (nI j) w = (1, 0, S) := by unfold sp_count; rw [hx, hw4]
      rw [hz]
      refine mp_aload_n X 1 d_M_count_0 rfl rfl rfl ?_
      refine mp_iload_n X 2 d_M_count_1 rfl rfl rfl ?_
      refine mp_callE X mp_Ts_ok 5 (rest := []) (k_M_pageNumberedT _ hS1.1 hj) Y_M_pageNumbered in_M (mp_IV X (q := (nR_M, nT_M, 2)) d_M_count_2 Y_M_pageNumbered ml_M_20 im_M_pageNumbered se_M_pageNumbered (by decide) rfl (by decide) (by show _ = some 1; decide) (Nat.lt_of_lt_of_le (by decide) hS1.1.1) hS1.1.2.1) rfl (by decide) (by decide) (by decide) (by decide) rfl (Nat.le_of_ble_eq_true rfl) rfl ?_
      refine mp_eq rfl rfl (st2 := [.ref (G.1 + (2 + 8 * j))]) rfl ?_
      refine mp_astore_n X 6 (L' := [.val (.ref (G.1 + 0)), .val (.int (nI j)), .val (.int (w)), .val (.ref (G.1 + (2 + 8 * j)))]) d_M_count_5 rfl rfl rfl rfl rfl ?_
      refine mp_iload_n X 7 d_M_count_6 rfl rfl rfl ?_
      refine mp_if_lt X 19 10 d_M_count_7 (by decide) rfl (fun q1 => ?_) (fun q1 => ?_)
      · refine mp_iconst X 20 (v := nI 0) d_M_count_19 rfl (by decide) ?_
        refine mp_call X mp_Ts_ok 23 (rest := []) (k_M_raF (by rw [hl]; exact hl0)) Y_M_refuseArgumentUnless in_M (mp_IS X d_M_count_20 Y_M_refuseArgumentUnless ml_M_64 st_M_refuseArgumentUnless in_M (by decide) (by show _ = some 1; decide)) rfl (by decide) (by decide) (by decide) (by decide) rfl (Nat.le_of_ble_eq_true rfl) (fun v h9 hp9 => hp9.elim) (fun x9 h9 q9 hp9 hq9 hk9 hx9 => ?_)
        obtain ⟨rfl, rfl⟩ := hp9
        exact mp_out X (by decide) (by decide) hq9 hk9 hx9 (cm_Tx (x := 0) hS1)
      · refine mp_iload_n X 11 d_M_count_10 rfl rfl rfl ?_
        refine mp_iconst X 12 (v := nI 3) d_M_count_11 rfl (by decide) ?_
        refine mp_icmp_gt X 19 15 d_M_count_12 (by decide) rfl (fun q2 => ?_) (fun q2 => ?_)
        · refine mp_iconst X 20 (v := nI 0) d_M_count_19 rfl (by decide) ?_
          refine mp_call X mp_Ts_ok 23 (rest := []) (k_M_raF (by rw [hl]; exact hl0)) Y_M_refuseArgumentUnless in_M (mp_IS X d_M_count_20 Y_M_refuseArgumentUnless ml_M_64 st_M_refuseArgumentUnless in_M (by decide) (by show _ = some 1; decide)) rfl (by decide) (by decide) (by decide) (by decide) rfl (Nat.le_of_ble_eq_true rfl) (fun v h9 hp9 => hp9.elim) (fun x9 h9 q9 hp9 hq9 hk9 hx9 => ?_)
          obtain ⟨rfl, rfl⟩ := hp9
          exact mp_out X (by decide) (by decide) hq9 hk9 hx9 (cm_Tx (x := 0) hS1)
        · exfalso; obtain ⟨q0, hq0, rfl⟩ := nI_of q1; have := Nat.not_lt.mp fun z => q2 ((nI_ltI (by decide) hq0).mpr z); rw [sp_ix_of (by omega) (by decide)] at hw4; cases hw4
    | some v =>
      obtain ⟨hv, rfl⟩ := sp_ix_some hw4 (by decide)
      obtain rfl | rfl | rfl | rfl : v = 0 ∨ v = 1 ∨ v = 2 ∨ v = 3 := by omega
      · have hz : sp_count S (nI j) (nI 0) = (0, nI (S.2.2.2 j), S) := by unfold sp_count; rw [hx, hw4]; rfl
        rw [hz]
        refine mp_aload_n X 1 d_M_count_0 rfl rfl rfl ?_
        refine mp_iload_n X 2 d_M_count_1 rfl rfl rfl ?_
        refine mp_callE X mp_Ts_ok 5 (rest := []) (k_M_pageNumberedT _ hS1.1 hj) Y_M_pageNumbered in_M (mp_IV X (q := (nR_M, nT_M, 2)) d_M_count_2 Y_M_pageNumbered ml_M_20 im_M_pageNumbered se_M_pageNumbered (by decide) rfl (by decide) (by show _ = some 1; decide) (Nat.lt_of_lt_of_le (by decide) hS1.1.1) hS1.1.2.1) rfl (by decide) (by decide) (by decide) (by decide) rfl (Nat.le_of_ble_eq_true rfl) rfl ?_
        refine mp_eq rfl rfl (st2 := [.ref (G.1 + (2 + 8 * j))]) rfl ?_
        refine mp_astore_n X 6 (L' := [.val (.ref (G.1 + 0)), .val (.int (nI j)), .val (.int (nI 0)), .val (.ref (G.1 + (2 + 8 * j)))]) d_M_count_5 rfl rfl rfl rfl rfl ?_
        refine mp_iload_n X 7 d_M_count_6 rfl rfl rfl ?_
        refine mp_Zlt X 19 10 d_M_count_7 (by decide) rfl (by omega) (fun q1 => ?_) (fun q1 => ?_)
        · exact q1.elim
        · refine mp_iload_n X 11 d_M_count_10 rfl rfl rfl ?_
          refine mp_iconst X 12 (v := nI 3) d_M_count_11 rfl (by decide) ?_
          refine mp_Ngt X 19 15 d_M_count_12 (by decide) rfl (by omega) (by omega) (fun q2 => ?_) (fun q2 => ?_)
          · omega
          · refine mp_iconst X 16 (v := nI 1) d_M_count_15 rfl (by decide) ?_
            refine mp_goto X 20 d_M_count_16 (by decide) ?_
            refine mp_callE X mp_Ts_ok 23 (rest := []) (k_M_raT _) Y_M_refuseArgumentUnless in_M (mp_IS X d_M_count_20 Y_M_refuseArgumentUnless ml_M_64 st_M_refuseArgumentUnless in_M (by decide) (by show _ = some 1; decide)) rfl (by decide) (by decide) (by decide) (by decide) rfl (Nat.le_of_ble_eq_true rfl) rfl ?_
            refine mp_iload_n X 24 d_M_count_23 rfl rfl rfl ?_
            refine mp_tableIn X 52 d_M_count_24 (by decide) (by decide) (off := 28) (by decide) (by decide) ?_
            refine mp_aload_n X 53 d_M_count_52 rfl rfl rfl ?_
            refine mp_getf (v := .int (nI ((S.2.2.2 j)))) X 56 lk_M_76_P d_M_count_53 rfl ((hS1.2.2.2 j hj).1.sz (by omega)) (hS1.2.2.2 j hj).1.ob (hS1.2.2.2 j hj).2.1.1 ?_
            exact mp_iret X d_M_count_56 rfl rfl (by decide) (by decide) ⟨rfl, rfl, ⟨_, hS1⟩, mp_gr.rf⟩
      · have hz : sp_count S (nI j) (nI 1) = (0, nI (sp_mx S j), S) := by unfold sp_count; rw [hx, hw4]; rfl
        rw [hz]
        refine mp_aload_n X 1 d_M_count_0 rfl rfl rfl ?_
        refine mp_iload_n X 2 d_M_count_1 rfl rfl rfl ?_
        refine mp_callE X mp_Ts_ok 5 (rest := []) (k_M_pageNumberedT _ hS1.1 hj) Y_M_pageNumbered in_M (mp_IV X (q := (nR_M, nT_M, 2)) d_M_count_2 Y_M_pageNumbered ml_M_20 im_M_pageNumbered se_M_pageNumbered (by decide) rfl (by decide) (by show _ = some 1; decide) (Nat.lt_of_lt_of_le (by decide) hS1.1.1) hS1.1.2.1) rfl (by decide) (by decide) (by decide) (by decide) rfl (Nat.le_of_ble_eq_true rfl) rfl ?_
        refine mp_eq rfl rfl (st2 := [.ref (G.1 + (2 + 8 * j))]) rfl ?_
        refine mp_astore_n X 6 (L' := [.val (.ref (G.1 + 0)), .val (.int (nI j)), .val (.int (nI 1)), .val (.ref (G.1 + (2 + 8 * j)))]) d_M_count_5 rfl rfl rfl rfl rfl ?_
        refine mp_iload_n X 7 d_M_count_6 rfl rfl rfl ?_
        refine mp_Zlt X 19 10 d_M_count_7 (by decide) rfl (by omega) (fun q1 => ?_) (fun q1 => ?_)
        · exact q1.elim
        · refine mp_iload_n X 11 d_M_count_10 rfl rfl rfl ?_
          refine mp_iconst X 12 (v := nI 3) d_M_count_11 rfl (by decide) ?_
          refine mp_Ngt X 19 15 d_M_count_12 (by decide) rfl (by omega) (by omega) (fun q2 => ?_) (fun q2 => ?_)
          · omega
          · refine mp_iconst X 16 (v := nI 1) d_M_count_15 rfl (by decide) ?_
            refine mp_goto X 20 d_M_count_16 (by decide) ?_
            refine mp_callE X mp_Ts_ok 23 (rest := []) (k_M_raT _) Y_M_refuseArgumentUnless in_M (mp_IS X d_M_count_20 Y_M_refuseArgumentUnless ml_M_64 st_M_refuseArgumentUnless in_M (by decide) (by show _ = some 1; decide)) rfl (by decide) (by decide) (by decide) (by decide) rfl (Nat.le_of_ble_eq_true rfl) rfl ?_
            refine mp_iload_n X 24 d_M_count_23 rfl rfl rfl ?_
            refine mp_tableIn X 57 d_M_count_24 (by decide) (by decide) (off := 33) (by decide) (by decide) ?_
            refine mp_aload_n X 58 d_M_count_57 rfl rfl rfl ?_
            refine mp_getf (v := .int (nI ((sp_mx S j)))) X 61 lk_M_110_P d_M_count_58 rfl ((hS1.2.2.2 j hj).1.sz (by omega)) (hS1.2.2.2 j hj).1.ob (hS1.2.2.2 j hj).2.2.1 ?_
            exact mp_iret X d_M_count_61 rfl rfl (by decide) (by decide) ⟨rfl, rfl, ⟨_, hS1⟩, mp_gr.rf⟩
      · have hz : sp_count S (nI j) (nI 2) = (0, nI ((rm_F S j).length), S) := by unfold sp_count; rw [hx, hw4]; rfl
        rw [hz]
        refine mp_aload_n X 1 d_M_count_0 rfl rfl rfl ?_
        refine mp_iload_n X 2 d_M_count_1 rfl rfl rfl ?_
        refine mp_callE X mp_Ts_ok 5 (rest := []) (k_M_pageNumberedT _ hS1.1 hj) Y_M_pageNumbered in_M (mp_IV X (q := (nR_M, nT_M, 2)) d_M_count_2 Y_M_pageNumbered ml_M_20 im_M_pageNumbered se_M_pageNumbered (by decide) rfl (by decide) (by show _ = some 1; decide) (Nat.lt_of_lt_of_le (by decide) hS1.1.1) hS1.1.2.1) rfl (by decide) (by decide) (by decide) (by decide) rfl (Nat.le_of_ble_eq_true rfl) rfl ?_
        refine mp_eq rfl rfl (st2 := [.ref (G.1 + (2 + 8 * j))]) rfl ?_
        refine mp_astore_n X 6 (L' := [.val (.ref (G.1 + 0)), .val (.int (nI j)), .val (.int (nI 2)), .val (.ref (G.1 + (2 + 8 * j)))]) d_M_count_5 rfl rfl rfl rfl rfl ?_
        refine mp_iload_n X 7 d_M_count_6 rfl rfl rfl ?_
        refine mp_Zlt X 19 10 d_M_count_7 (by decide) rfl (by omega) (fun q1 => ?_) (fun q1 => ?_)
        · exact q1.elim
        · refine mp_iload_n X 11 d_M_count_10 rfl rfl rfl ?_
          refine mp_iconst X 12 (v := nI 3) d_M_count_11 rfl (by decide) ?_
          refine mp_Ngt X 19 15 d_M_count_12 (by decide) rfl (by omega) (by omega) (fun q2 => ?_) (fun q2 => ?_)
          · omega
          · refine mp_iconst X 16 (v := nI 1) d_M_count_15 rfl (by decide) ?_
            refine mp_goto X 20 d_M_count_16 (by decide) ?_
            refine mp_callE X mp_Ts_ok 23 (rest := []) (k_M_raT _) Y_M_refuseArgumentUnless in_M (mp_IS X d_M_count_20 Y_M_refuseArgumentUnless ml_M_64 st_M_refuseArgumentUnless in_M (by decide) (by show _ = some 1; decide)) rfl (by decide) (by decide) (by decide) (by decide) rfl (Nat.le_of_ble_eq_true rfl) rfl ?_
            refine mp_iload_n X 24 d_M_count_23 rfl rfl rfl ?_
            refine mp_tableIn X 62 d_M_count_24 (by decide) (by decide) (off := 38) (by decide) (by decide) ?_
            refine mp_aload_n X 63 d_M_count_62 rfl rfl rfl ?_
            refine mp_getf (v := .int (nI ((rm_F S j).length))) X 66 lk_M_113_P d_M_count_63 rfl ((hS1.2.2.2 j hj).1.sz (by omega)) (hS1.2.2.2 j hj).1.ob (hS1.2.2.2 j hj).2.2.2.1.1 ?_
            exact mp_iret X d_M_count_66 rfl rfl (by decide) (by decide) ⟨rfl, rfl, ⟨_, hS1⟩, mp_gr.rf⟩
      · have hz : sp_count S (nI j) (nI 3) = (0, nI ((sp_mk S j).length), S) := by unfold sp_count; rw [hx, hw4]; rfl
        rw [hz]
        refine mp_aload_n X 1 d_M_count_0 rfl rfl rfl ?_
        refine mp_iload_n X 2 d_M_count_1 rfl rfl rfl ?_
        refine mp_callE X mp_Ts_ok 5 (rest := []) (k_M_pageNumberedT _ hS1.1 hj) Y_M_pageNumbered in_M (mp_IV X (q := (nR_M, nT_M, 2)) d_M_count_2 Y_M_pageNumbered ml_M_20 im_M_pageNumbered se_M_pageNumbered (by decide) rfl (by decide) (by show _ = some 1; decide) (Nat.lt_of_lt_of_le (by decide) hS1.1.1) hS1.1.2.1) rfl (by decide) (by decide) (by decide) (by decide) rfl (Nat.le_of_ble_eq_true rfl) rfl ?_
        refine mp_eq rfl rfl (st2 := [.ref (G.1 + (2 + 8 * j))]) rfl ?_
        refine mp_astore_n X 6 (L' := [.val (.ref (G.1 + 0)), .val (.int (nI j)), .val (.int (nI 3)), .val (.ref (G.1 + (2 + 8 * j)))]) d_M_count_5 rfl rfl rfl rfl rfl ?_
        refine mp_iload_n X 7 d_M_count_6 rfl rfl rfl ?_
        refine mp_Zlt X 19 10 d_M_count_7 (by decide) rfl (by omega) (fun q1 => ?_) (fun q1 => ?_)
        · exact q1.elim
        · refine mp_iload_n X 11 d_M_count_10 rfl rfl rfl ?_
          refine mp_iconst X 12 (v := nI 3) d_M_count_11 rfl (by decide) ?_
          refine mp_Ngt X 19 15 d_M_count_12 (by decide) rfl (by omega) (by omega) (fun q2 => ?_) (fun q2 => ?_)
          · omega
          · refine mp_iconst X 16 (v := nI 1) d_M_count_15 rfl (by decide) ?_
            refine mp_goto X 20 d_M_count_16 (by decide) ?_
            refine mp_callE X mp_Ts_ok 23 (rest := []) (k_M_raT _) Y_M_refuseArgumentUnless in_M (mp_IS X d_M_count_20 Y_M_refuseArgumentUnless ml_M_64 st_M_refuseArgumentUnless in_M (by decide) (by show _ = some 1; decide)) rfl (by decide) (by decide) (by decide) (by decide) rfl (Nat.le_of_ble_eq_true rfl) rfl ?_
            refine mp_iload_n X 24 d_M_count_23 rfl rfl rfl ?_
            refine mp_tableOut X 67 d_M_count_24 (Or.inr (by decide)) (by decide) ?_
            refine mp_aload_n X 68 d_M_count_67 rfl rfl rfl ?_
            refine mp_getf (v := .int (nI ((sp_mk S j).length))) X 71 lk_M_116_P d_M_count_68 rfl ((hS1.2.2.2 j hj).1.sz (by omega)) (hS1.2.2.2 j hj).1.ob (hS1.2.2.2 j hj).2.2.2.2.2.1.1 ?_
            exact mp_iret X d_M_count_71 rfl rfl (by decide) (by decide) ⟨rfl, rfl, ⟨_, hS1⟩, mp_gr.rf⟩
set_option maxRecDepth 100000 in
set_option maxHeartbeats 4000000 in
theorem k_M_alike {l : Launch} (hl0 : l.stackTraces = false) {G : mp_G} {h : mp_H} {S : pq_S} {ad : Nat → Nat} {x y : Int32} (hS1 : cm_S G h S ad) (hg : sp_g S) :
    mp_M G mp_Ts l y_M_alike 8 1 8 [.ref (G.1 + 0), .int x, .int y] h (cm_R G h (sp_alike S x y)) (cm_T G h (sp_alike S x y)) := by
  have hM : S.1 ≤ 90 := hg.1.1
  refine mp_enter (by decide) Y_M_alike fun E hl X => ?_
  refine mp_eq rfl (L2 := [.val (.ref (G.1 + 0)), .val (.int x), .val (.int y), .unset, .unset]) rfl rfl ?_
  cases hx : sp_ix 3 x with
  | none =>
    have hz : sp_alike S x y = (1, 0, S) := by unfold sp_alike; rw [hx]
    rw [hz]
    refine mp_aload_n X 1 d_M_alike_0 rfl rfl rfl ?_
    refine mp_iload_n X 2 d_M_alike_1 rfl rfl rfl ?_
    refine mp_call X mp_Ts_ok 5 (rest := []) (k_M_pageNumberedF (by rw [hl]; exact hl0) hS1.1 hx) Y_M_pageNumbered in_M (mp_IV X (q := (nR_M, nT_M, 2)) d_M_alike_2 Y_M_pageNumbered ml_M_20 im_M_pageNumbered se_M_pageNumbered (by decide) rfl (by decide) (by show _ = some 1; decide) (Nat.lt_of_lt_of_le (by decide) hS1.1.1) hS1.1.2.1) rfl (by decide) (by decide) (by decide) (by decide) rfl (Nat.le_of_ble_eq_true rfl) (fun v h9 hp9 => hp9.elim) (fun x9 h9 q9 hp9 hq9 hk9 hx9 => ?_)
    obtain ⟨rfl, rfl⟩ := hp9
    exact mp_out X (by decide) (by decide) hq9 hk9 hx9 (cm_Tx (x := 0) hS1)
  | some a =>
    obtain ⟨ha, rfl⟩ := sp_ix_some hx (by decide)
    cases hy : sp_ix 3 y with
    | none =>
      have hz : sp_alike S (nI a) y = (1, 0, S) := by unfold sp_alike; rw [hx, hy]
      rw [hz]
      refine mp_aload_n X 1 d_M_alike_0 rfl rfl rfl ?_
      refine mp_iload_n X 2 d_M_alike_1 rfl rfl rfl ?_
      refine mp_callE X mp_Ts_ok 5 (rest := []) (k_M_pageNumberedT _ hS1.1 ha) Y_M_pageNumbered in_M (mp_IV X (q := (nR_M, nT_M, 2)) d_M_alike_2 Y_M_pageNumbered ml_M_20 im_M_pageNumbered se_M_pageNumbered (by decide) rfl (by decide) (by show _ = some 1; decide) (Nat.lt_of_lt_of_le (by decide) hS1.1.1) hS1.1.2.1) rfl (by decide) (by decide) (by decide) (by decide) rfl (Nat.le_of_ble_eq_true rfl) rfl ?_
      refine mp_eq rfl rfl (st2 := [.ref (G.1 + (2 + 8 * a))]) rfl ?_
      refine mp_astore_n X 6 (L' := [.val (.ref (G.1 + 0)), .val (.int (nI a)), .val (.int (y)), .val (.ref (G.1 + (2 + 8 * a))), .unset]) d_M_alike_5 rfl rfl rfl rfl rfl ?_
      refine mp_aload_n X 7 d_M_alike_6 rfl rfl rfl ?_
      refine mp_iload_n X 8 d_M_alike_7 rfl rfl rfl ?_
      refine mp_call X mp_Ts_ok 11 (rest := []) (k_M_pageNumberedF (by rw [hl]; exact hl0) hS1.1 hy) Y_M_pageNumbered in_M (mp_IV X (q := (nR_M, nT_M, 2)) d_M_alike_8 Y_M_pageNumbered ml_M_20 im_M_pageNumbered se_M_pageNumbered (by decide) rfl (by decide) (by show _ = some 1; decide) (Nat.lt_of_lt_of_le (by decide) hS1.1.1) hS1.1.2.1) rfl (by decide) (by decide) (by decide) (by decide) rfl (Nat.le_of_ble_eq_true rfl) (fun v h9 hp9 => hp9.elim) (fun x9 h9 q9 hp9 hq9 hk9 hx9 => ?_)
      obtain ⟨rfl, rfl⟩ := hp9
      exact mp_out X (by decide) (by decide) hq9 hk9 hx9 (cm_Tx (x := 0) hS1)
    | some b =>
      obtain ⟨hb, rfl⟩ := sp_ix_some hy (by decide)
      have hz : sp_alike S (nI a) (nI b) = (0, rm_b (sp_ak S a b S.1), S) := by unfold sp_alike; rw [hx, hy]
      rw [hz, sp_ak_eq hg.1 ha hb]
      have hca := pq_kn_le (hg.1.2.2.1 a ha)
      have hcb := pq_kn_le (hg.1.2.2.1 b hb)
      obtain ⟨bn, hbn, hbb⟩ := rm_b_n (cp_al (S.2.2.1 b) (S.2.2.1 a) (S.2.2.2 a) (S.2.2.2 b))
      have hbl : bn < 2 := by omega
      have hck := k_P_knowsAllOf E.l (hS1.2.2.2 a ha).1 (hS1.2.2.2 b hb).1 hS1.2.2.1 (hS1.2.2.2 a ha).2.1 (hS1.2.2.2 b hb).2.1 hg.1.2.1 hg.1.1 (hg.1.2.2.1 b hb)
      rw [hbn] at hck
      refine mp_aload_n X 1 d_M_alike_0 rfl rfl rfl ?_
      refine mp_iload_n X 2 d_M_alike_1 rfl rfl rfl ?_
      refine mp_callE X mp_Ts_ok 5 (rest := []) (k_M_pageNumberedT _ hS1.1 ha) Y_M_pageNumbered in_M (mp_IV X (q := (nR_M, nT_M, 2)) d_M_alike_2 Y_M_pageNumbered ml_M_20 im_M_pageNumbered se_M_pageNumbered (by decide) rfl (by decide) (by show _ = some 1; decide) (Nat.lt_of_lt_of_le (by decide) hS1.1.1) hS1.1.2.1) rfl (by decide) (by decide) (by decide) (by decide) rfl (Nat.le_of_ble_eq_true rfl) rfl ?_
      refine mp_eq rfl rfl (st2 := [.ref (G.1 + (2 + 8 * a))]) rfl ?_
      refine mp_astore_n X 6 (L' := [.val (.ref (G.1 + 0)), .val (.int (nI a)), .val (.int (nI b)), .val (.ref (G.1 + (2 + 8 * a))), .unset]) d_M_alike_5 rfl rfl rfl rfl rfl ?_
      refine mp_aload_n X 7 d_M_alike_6 rfl rfl rfl ?_
      refine mp_iload_n X 8 d_M_alike_7 rfl rfl rfl ?_
      refine mp_callE X mp_Ts_ok 11 (rest := []) (k_M_pageNumberedT _ hS1.1 hb) Y_M_pageNumbered in_M (mp_IV X (q := (nR_M, nT_M, 2)) d_M_alike_8 Y_M_pageNumbered ml_M_20 im_M_pageNumbered se_M_pageNumbered (by decide) rfl (by decide) (by show _ = some 1; decide) (Nat.lt_of_lt_of_le (by decide) hS1.1.1) hS1.1.2.1) rfl (by decide) (by decide) (by decide) (by decide) rfl (Nat.le_of_ble_eq_true rfl) rfl ?_
      refine mp_eq rfl rfl (st2 := [.ref (G.1 + (2 + 8 * b))]) rfl ?_
      refine mp_astore X 13 (L' := [.val (.ref (G.1 + 0)), .val (.int (nI a)), .val (.int (nI b)), .val (.ref (G.1 + (2 + 8 * a))), .val (.ref (G.1 + (2 + 8 * b)))]) d_M_alike_11 rfl rfl rfl rfl ?_
      refine mp_aload_n X 14 d_M_alike_13 rfl rfl rfl ?_
      refine mp_getf (v := .int (nI ((S.2.2.2 a)))) X 17 lk_M_76_P d_M_alike_14 rfl ((hS1.2.2.2 a ha).1.sz (by omega)) (hS1.2.2.2 a ha).1.ob (hS1.2.2.2 a ha).2.1.1 ?_
      refine mp_aload X 19 d_M_alike_17 rfl rfl ?_
      refine mp_getf (v := .int (nI ((S.2.2.2 b)))) X 22 lk_M_76_P d_M_alike_19 rfl ((hS1.2.2.2 b hb).1.sz (by omega)) (hS1.2.2.2 b hb).1.ob (hS1.2.2.2 b hb).2.1.1 ?_
      refine mp_Nne X 38 25 d_M_alike_22 (by decide) rfl (by omega) (by omega) (fun q1 => ?_) (fun q1 => ?_)
      · refine mp_iconst X 39 (v := nI 0) d_M_alike_38 rfl (by decide) ?_
        rw [decide_eq_false q1, Bool.false_and]
        exact mp_iret X d_M_alike_39 rfl rfl (by decide) (by decide) ⟨rfl, rfl, ⟨_, hS1⟩, mp_gr.rf⟩
      · refine mp_aload_n X 26 d_M_alike_25 rfl rfl rfl ?_
        refine mp_aload X 28 d_M_alike_26 rfl rfl ?_
        refine mp_callE X mp_Ts_ok 31 (rest := []) hck Y_P_knowsAllOf in_P (mp_IV X (q := (nR_P, nT_P, 12)) d_M_alike_28 Y_P_knowsAllOf ml_M_119 im_P_knowsAllOf se_P_knowsAllOf (by decide) rfl (by decide) (by show _ = some 1; decide) ((hS1.2.2.2 a ha).1.sz (by omega)) (hS1.2.2.2 a ha).1.ob) rfl (by decide) (by decide) (by decide) (by decide) rfl (Nat.le_of_ble_eq_true rfl) rfl ?_
        refine mp_eq rfl rfl (st2 := [.int (nI bn)]) rfl ?_
        refine mp_Zeq X 38 34 d_M_alike_31 (by decide) rfl (by omega) (fun q2 => ?_) (fun q2 => ?_)
        · refine mp_iconst X 39 (v := nI 0) d_M_alike_38 rfl (by decide) ?_
          have hb2 : cp_al (S.2.2.1 b) (S.2.2.1 a) (S.2.2.2 a) (S.2.2.2 b) = false := by rcases hbb with ⟨h1, h2⟩ | ⟨h1, h2⟩ <;> first | exact h2 | omega
          rw [decide_eq_true q1, hb2]
          exact mp_iret X d_M_alike_39 rfl rfl (by decide) (by decide) ⟨rfl, rfl, ⟨_, hS1⟩, mp_gr.rf⟩
        · refine mp_iconst X 35 (v := nI 1) d_M_alike_34 rfl (by decide) ?_
          refine mp_goto X 39 d_M_alike_35 (by decide) ?_
          have hb2 : cp_al (S.2.2.1 b) (S.2.2.1 a) (S.2.2.2 a) (S.2.2.2 b) = true := by rcases hbb with ⟨h1, h2⟩ | ⟨h1, h2⟩ <;> first | exact h2 | omega
          rw [decide_eq_true q1, hb2]
          exact mp_iret X d_M_alike_39 rfl rfl (by decide) (by decide) ⟨rfl, rfl, ⟨_, hS1⟩, mp_gr.rf⟩
set_option maxRecDepth 100000 in
set_option maxHeartbeats 4000000 in
theorem k_M_tell {l : Launch} (hl0 : l.stackTraces = false) {G : mp_G} {h : mp_H} {S : pq_S} {ad : Nat → Nat} {x y n : Int32} (hS1 : cm_S G h S ad) (hg : sp_g S) :
    mp_M G mp_Ts l y_M_tell 8 1 8 [.ref (G.1 + 0), .int x, .int y, .int n] h (cm_R G h (sp_tell S x y n)) (cm_T G h (sp_tell S x y n)) := by
  have hM : S.1 ≤ 90 := hg.1.1
  refine mp_enter (by decide) Y_M_tell fun E hl X => ?_
  refine mp_eq rfl (L2 := [.val (.ref (G.1 + 0)), .val (.int x), .val (.int y), .val (.int n), .unset, .unset, .unset, .unset, .unset]) rfl rfl ?_
  cases hx : sp_ix 3 x with
  | none =>
    have hz : sp_tell S x y n = (1, 0, S) := by unfold sp_tell; rw [hx]
    rw [hz]
    refine mp_aload_n X 1 d_M_tell_0 rfl rfl rfl ?_
    refine mp_iload_n X 2 d_M_tell_1 rfl rfl rfl ?_
    refine mp_call X mp_Ts_ok 5 (rest := []) (k_M_pageNumberedF (by rw [hl]; exact hl0) hS1.1 hx) Y_M_pageNumbered in_M (mp_IV X (q := (nR_M, nT_M, 2)) d_M_tell_2 Y_M_pageNumbered ml_M_20 im_M_pageNumbered se_M_pageNumbered (by decide) rfl (by decide) (by show _ = some 1; decide) (Nat.lt_of_lt_of_le (by decide) hS1.1.1) hS1.1.2.1) rfl (by decide) (by decide) (by decide) (by decide) rfl (Nat.le_of_ble_eq_true rfl) (fun v h9 hp9 => hp9.elim) (fun x9 h9 q9 hp9 hq9 hk9 hx9 => ?_)
    obtain ⟨rfl, rfl⟩ := hp9
    exact mp_out X (by decide) (by decide) hq9 hk9 hx9 (cm_Tx (x := 0) hS1)
  | some a =>
    obtain ⟨ha, rfl⟩ := sp_ix_some hx (by decide)
    cases hy : sp_ix 3 y with
    | none =>
      have hz : sp_tell S (nI a) y n = (1, 0, S) := by unfold sp_tell; rw [hx, hy]
      rw [hz]
      refine mp_aload_n X 1 d_M_tell_0 rfl rfl rfl ?_
      refine mp_iload_n X 2 d_M_tell_1 rfl rfl rfl ?_
      refine mp_callE X mp_Ts_ok 5 (rest := []) (k_M_pageNumberedT _ hS1.1 ha) Y_M_pageNumbered in_M (mp_IV X (q := (nR_M, nT_M, 2)) d_M_tell_2 Y_M_pageNumbered ml_M_20 im_M_pageNumbered se_M_pageNumbered (by decide) rfl (by decide) (by show _ = some 1; decide) (Nat.lt_of_lt_of_le (by decide) hS1.1.1) hS1.1.2.1) rfl (by decide) (by decide) (by decide) (by decide) rfl (Nat.le_of_ble_eq_true rfl) rfl ?_
      refine mp_eq rfl rfl (st2 := [.ref (G.1 + (2 + 8 * a))]) rfl ?_
      refine mp_astore X 7 (L' := [.val (.ref (G.1 + 0)), .val (.int (nI a)), .val (.int (y)), .val (.int (n)), .val (.ref (G.1 + (2 + 8 * a))), .unset, .unset, .unset, .unset]) d_M_tell_5 rfl rfl rfl rfl ?_
      refine mp_aload_n X 8 d_M_tell_7 rfl rfl rfl ?_
      refine mp_iload_n X 9 d_M_tell_8 rfl rfl rfl ?_
      refine mp_call X mp_Ts_ok 12 (rest := []) (k_M_pageNumberedF (by rw [hl]; exact hl0) hS1.1 hy) Y_M_pageNumbered in_M (mp_IV X (q := (nR_M, nT_M, 2)) d_M_tell_9 Y_M_pageNumbered ml_M_20 im_M_pageNumbered se_M_pageNumbered (by decide) rfl (by decide) (by show _ = some 1; decide) (Nat.lt_of_lt_of_le (by decide) hS1.1.1) hS1.1.2.1) rfl (by decide) (by decide) (by decide) (by decide) rfl (Nat.le_of_ble_eq_true rfl) (fun v h9 hp9 => hp9.elim) (fun x9 h9 q9 hp9 hq9 hk9 hx9 => ?_)
      obtain ⟨rfl, rfl⟩ := hp9
      exact mp_out X (by decide) (by decide) hq9 hk9 hx9 (cm_Tx (x := 0) hS1)
    | some b =>
      obtain ⟨hb, rfl⟩ := sp_ix_some hy (by decide)
      by_cases hn : n < 0
      · have hz : sp_tell S (nI a) (nI b) n = (1, 0, S) := by unfold sp_tell; rw [hx, hy]; simp only []; rw [if_pos hn]
        rw [hz]
        refine mp_aload_n X 1 d_M_tell_0 rfl rfl rfl ?_
        refine mp_iload_n X 2 d_M_tell_1 rfl rfl rfl ?_
        refine mp_callE X mp_Ts_ok 5 (rest := []) (k_M_pageNumberedT _ hS1.1 ha) Y_M_pageNumbered in_M (mp_IV X (q := (nR_M, nT_M, 2)) d_M_tell_2 Y_M_pageNumbered ml_M_20 im_M_pageNumbered se_M_pageNumbered (by decide) rfl (by decide) (by show _ = some 1; decide) (Nat.lt_of_lt_of_le (by decide) hS1.1.1) hS1.1.2.1) rfl (by decide) (by decide) (by decide) (by decide) rfl (Nat.le_of_ble_eq_true rfl) rfl ?_
        refine mp_eq rfl rfl (st2 := [.ref (G.1 + (2 + 8 * a))]) rfl ?_
        refine mp_astore X 7 (L' := [.val (.ref (G.1 + 0)), .val (.int (nI a)), .val (.int (nI b)), .val (.int (n)), .val (.ref (G.1 + (2 + 8 * a))), .unset, .unset, .unset, .unset]) d_M_tell_5 rfl rfl rfl rfl ?_
        refine mp_aload_n X 8 d_M_tell_7 rfl rfl rfl ?_
        refine mp_iload_n X 9 d_M_tell_8 rfl rfl rfl ?_
        refine mp_callE X mp_Ts_ok 12 (rest := []) (k_M_pageNumberedT _ hS1.1 hb) Y_M_pageNumbered in_M (mp_IV X (q := (nR_M, nT_M, 2)) d_M_tell_9 Y_M_pageNumbered ml_M_20 im_M_pageNumbered se_M_pageNumbered (by decide) rfl (by decide) (by show _ = some 1; decide) (Nat.lt_of_lt_of_le (by decide) hS1.1.1) hS1.1.2.1) rfl (by decide) (by decide) (by decide) (by decide) rfl (Nat.le_of_ble_eq_true rfl) rfl ?_
        refine mp_eq rfl rfl (st2 := [.ref (G.1 + (2 + 8 * b))]) rfl ?_
        refine mp_astore X 14 (L' := [.val (.ref (G.1 + 0)), .val (.int (nI a)), .val (.int (nI b)), .val (.int (n)), .val (.ref (G.1 + (2 + 8 * a))), .val (.ref (G.1 + (2 + 8 * b))), .unset, .unset, .unset]) d_M_tell_12 rfl rfl rfl rfl ?_
        refine mp_iload_n X 15 d_M_tell_14 rfl rfl rfl ?_
        refine mp_if_lt X 22 18 d_M_tell_15 (by decide) rfl (fun q1 => ?_) (fun q1 => ?_)
        · refine mp_iconst X 23 (v := nI 0) d_M_tell_22 rfl (by decide) ?_
          refine mp_call X mp_Ts_ok 26 (rest := []) (k_M_raF (by rw [hl]; exact hl0)) Y_M_refuseArgumentUnless in_M (mp_IS X d_M_tell_23 Y_M_refuseArgumentUnless ml_M_64 st_M_refuseArgumentUnless in_M (by decide) (by show _ = some 1; decide)) rfl (by decide) (by decide) (by decide) (by decide) rfl (Nat.le_of_ble_eq_true rfl) (fun v h9 hp9 => hp9.elim) (fun x9 h9 q9 hp9 hq9 hk9 hx9 => ?_)
          obtain ⟨rfl, rfl⟩ := hp9
          exact mp_out X (by decide) (by decide) hq9 hk9 hx9 (cm_Tx (x := 0) hS1)
        · exact absurd hn q1
      · obtain ⟨m, hm, rfl⟩ := nI_of hn
        have hmt : (nI m).toInt.toNat = m := by rw [nI_toInt hm]; simp
        have hz : sp_tell S (nI a) (nI b) (nI m) = (0, nI (sp_tl S a b m (S.2.2.2 a)).2, (sp_tl S a b m (S.2.2.2 a)).1) := by unfold sp_tell; rw [hx, hy]; simp only []; rw [if_neg hn, hmt]
        rw [hz]
        have hok := hg.1
        have hca := pq_kn_le (hok.2.2.1 a ha)
        refine mp_aload_n X 1 d_M_tell_0 rfl rfl rfl ?_
        refine mp_iload_n X 2 d_M_tell_1 rfl rfl rfl ?_
        refine mp_callE X mp_Ts_ok 5 (rest := []) (k_M_pageNumberedT _ hS1.1 ha) Y_M_pageNumbered in_M (mp_IV X (q := (nR_M, nT_M, 2)) d_M_tell_2 Y_M_pageNumbered ml_M_20 im_M_pageNumbered se_M_pageNumbered (by decide) rfl (by decide) (by show _ = some 1; decide) (Nat.lt_of_lt_of_le (by decide) hS1.1.1) hS1.1.2.1) rfl (by decide) (by decide) (by decide) (by decide) rfl (Nat.le_of_ble_eq_true rfl) rfl ?_
        refine mp_eq rfl rfl (st2 := [.ref (G.1 + (2 + 8 * a))]) rfl ?_
        refine mp_astore X 7 (L' := [.val (.ref (G.1 + 0)), .val (.int (nI a)), .val (.int (nI b)), .val (.int (nI m)), .val (.ref (G.1 + (2 + 8 * a))), .unset, .unset, .unset, .unset]) d_M_tell_5 rfl rfl rfl rfl ?_
        refine mp_aload_n X 8 d_M_tell_7 rfl rfl rfl ?_
        refine mp_iload_n X 9 d_M_tell_8 rfl rfl rfl ?_
        refine mp_callE X mp_Ts_ok 12 (rest := []) (k_M_pageNumberedT _ hS1.1 hb) Y_M_pageNumbered in_M (mp_IV X (q := (nR_M, nT_M, 2)) d_M_tell_9 Y_M_pageNumbered ml_M_20 im_M_pageNumbered se_M_pageNumbered (by decide) rfl (by decide) (by show _ = some 1; decide) (Nat.lt_of_lt_of_le (by decide) hS1.1.1) hS1.1.2.1) rfl (by decide) (by decide) (by decide) (by decide) rfl (Nat.le_of_ble_eq_true rfl) rfl ?_
        refine mp_eq rfl rfl (st2 := [.ref (G.1 + (2 + 8 * b))]) rfl ?_
        refine mp_astore X 14 (L' := [.val (.ref (G.1 + 0)), .val (.int (nI a)), .val (.int (nI b)), .val (.int (nI m)), .val (.ref (G.1 + (2 + 8 * a))), .val (.ref (G.1 + (2 + 8 * b))), .unset, .unset, .unset]) d_M_tell_12 rfl rfl rfl rfl ?_
        refine mp_iload_n X 15 d_M_tell_14 rfl rfl rfl ?_
        refine mp_Zlt X 22 18 d_M_tell_15 (by decide) rfl (by omega) (fun q1 => ?_) (fun q1 => ?_)
        · exact q1.elim
        · refine mp_iconst X 19 (v := nI 1) d_M_tell_18 rfl (by decide) ?_
          refine mp_goto X 23 d_M_tell_19 (by decide) ?_
          refine mp_callE X mp_Ts_ok 26 (rest := []) (k_M_raT _) Y_M_refuseArgumentUnless in_M (mp_IS X d_M_tell_23 Y_M_refuseArgumentUnless ml_M_64 st_M_refuseArgumentUnless in_M (by decide) (by show _ = some 1; decide)) rfl (by decide) (by decide) (by decide) (by decide) rfl (Nat.le_of_ble_eq_true rfl) rfl ?_
          refine mp_iconst X 27 (v := nI 0) d_M_tell_26 rfl (by decide) ?_
          refine mp_istore X 29 (L' := [.val (.ref (G.1 + 0)), .val (.int (nI a)), .val (.int (nI b)), .val (.int (nI m)), .val (.ref (G.1 + (2 + 8 * a))), .val (.ref (G.1 + (2 + 8 * b))), .val (.int (nI 0)), .unset, .unset]) d_M_tell_27 rfl rfl rfl rfl ?_
          refine mp_iconst X 30 (v := nI 0) d_M_tell_29 rfl (by decide) ?_
          refine mp_istore X 32 (L' := [.val (.ref (G.1 + 0)), .val (.int (nI a)), .val (.int (nI b)), .val (.int (nI m)), .val (.ref (G.1 + (2 + 8 * a))), .val (.ref (G.1 + (2 + 8 * b))), .val (.int (nI 0)), .val (.int (nI 0)), .unset]) d_M_tell_30 rfl rfl rfl rfl ?_
          have hloop : ∀ (r i : Nat) (g : mp_H) (z : Slot), mp_s1 z = true → i + r = S.2.2.2 a → cm_Q G g S.1 (sp_tl S a b m i).1 ad → mp_gr cm_A h g → mp_W G E g 0 0 (mp_Q G E 1 8 (cm_R G h (0, nI (sp_tl S a b m (S.2.2.2 a)).2, (sp_tl S a b m (S.2.2.2 a)).1)) (cm_T G h (0, nI (sp_tl S a b m (S.2.2.2 a)).2, (sp_tl S a b m (S.2.2.2 a)).1))) 32 [.val (.ref (G.1 + 0)), .val (.int (nI a)), .val (.int (nI b)), .val (.int (nI m)), .val (.ref (G.1 + (2 + 8 * a))), .val (.ref (G.1 + (2 + 8 * b))), .val (.int (nI (sp_tl S a b m i).2)), .val (.int (nI i)), z] [] := by
            intro r
            induction r with
            | zero =>
              intro i g z hz1 hir hSg hfg
              have hi : i = S.2.2.2 a := by omega
              subst hi
              obtain ⟨ok1, e1, e2, e3, e4, e5, e6, e7⟩ := sp_tl_ok hok (n := m) ha hb (S.2.2.2 a) (Nat.le_refl _)
              have hcq : (sp_tl S a b m (S.2.2.2 a)).1.2.2.2 a = S.2.2.2 a := by by_cases hab : a = b; rw [e4 hab]; exact (e3 a hab).2
              have sca := (hSg.2.2.2 a ha).2.1.1
              rw [hcq] at sca
              refine mp_iload X 34 d_M_tell_32 rfl rfl ?_
              refine mp_aload X 36 d_M_tell_34 rfl rfl ?_
              refine mp_getf (v := .int (nI ((S.2.2.2 a)))) X 39 lk_M_76_P d_M_tell_36 rfl ((hSg.2.2.2 a ha).1.sz (by omega)) (hSg.2.2.2 a ha).1.ob sca ?_
              refine mp_Nge X 88 42 d_M_tell_39 (by decide) rfl (by omega) (by omega) (fun q1 => ?_) (fun q1 => ?_)
              · refine mp_iload X 90 d_M_tell_88 rfl rfl ?_
                exact mp_iret X d_M_tell_90 rfl rfl (by decide) (by decide) ⟨rfl, rfl, ⟨ad, by show cm_Q G g _ _ ad; rw [e1]; exact hSg⟩, hfg⟩
              · omega
            | succ r ih =>
              intro i g z hz1 hir hSg hfg
              obtain ⟨ok1, e1, e2, e3, e4, e5, e6, e7⟩ := sp_tl_ok hok (n := m) ha hb i (by omega)
              have hcq : (sp_tl S a b m i).1.2.2.2 a = S.2.2.2 a := by by_cases hab : a = b; rw [e4 hab]; exact (e3 a hab).2
              have hcr : (sp_tl S a b m i).1.2.2.1 a = S.2.2.1 a := by by_cases hab : a = b; rw [e4 hab]; exact (e3 a hab).1
              have sca := (hSg.2.2.2 a ha).2.1.1
              rw [hcq] at sca
              have skn := (hSg.2.2.2 a ha).2.1.2.1 i (by rw [hcq]; omega)
              rw [hcr] at skn
              have hkM : S.2.2.1 a i < S.1 := (hok.2.2.1 a ha).1 i (by omega)
              have hM90 := hok.1
              have hok9 := hSg.2.2.1 (S.2.2.1 a i) (by rw [e1]; exact hkM)
              have hod := hok9.kd (ok1.2.1.2.2.2.1 _ (by rw [e1]; exact hkM)).2.2.2.1
              have hst : sp_tl S a b m (i + 1) = if (sp_tl S a b m i).2 < m ∧ pq_kw ((sp_tl S a b m i).1.2.2.1 b) ((sp_tl S a b m i).1.2.2.2 b) (S.2.2.1 a i) = false then (pq_lrn (sp_tl S a b m i).1 b (S.2.2.1 a i), (sp_tl S a b m i).2 + 1) else (sp_tl S a b m i) := rfl
              have s_kb := (hSg.2.2.2 b hb).2.1.2.2 (S.2.2.1 a i) (by omega)
              obtain ⟨kb, kb1, hkb⟩ : ∃ kb : Nat, (kb = 1 ∧ pq_kw ((sp_tl S a b m i).1.2.2.1 b) ((sp_tl S a b m i).1.2.2.2 b) (S.2.2.1 a i) = true ∨ kb = 0 ∧ pq_kw ((sp_tl S a b m i).1.2.2.1 b) ((sp_tl S a b m i).1.2.2.2 b) (S.2.2.1 a i) = false) ∧ g.2.1 (2 + 8 * b + 5) (S.2.2.1 a i) = .int (nI kb) := by
                cases hkw : pq_kw ((sp_tl S a b m i).1.2.2.1 b) ((sp_tl S a b m i).1.2.2.2 b) (S.2.2.1 a i) with
                | true => rw [hkw] at s_kb; exact ⟨1, Or.inl ⟨rfl, rfl⟩, s_kb⟩
                | false => rw [hkw] at s_kb; exact ⟨0, Or.inr ⟨rfl, rfl⟩, s_kb⟩
              have kbb : kb < 2 := by omega
              refine mp_iload X 34 d_M_tell_32 rfl rfl ?_
              refine mp_aload X 36 d_M_tell_34 rfl rfl ?_
              refine mp_getf (v := .int (nI ((S.2.2.2 a)))) X 39 lk_M_76_P d_M_tell_36 rfl ((hSg.2.2.2 a ha).1.sz (by omega)) (hSg.2.2.2 a ha).1.ob sca ?_
              refine mp_Nge X 88 42 d_M_tell_39 (by decide) rfl (by omega) (by omega) (fun q1 => ?_) (fun q1 => ?_)
              · omega
              · refine mp_iload X 44 d_M_tell_42 rfl rfl ?_
                refine mp_iload_n X 45 d_M_tell_44 rfl rfl rfl ?_
                refine mp_Nge X 88 48 d_M_tell_45 (by decide) rfl (by omega) (by omega) (fun q2 => ?_) (fun q2 => ?_)
                · refine mp_iload X 90 d_M_tell_88 rfl rfl ?_
                  have hsp := sp_tl_stop (S := S) (a := a) (b := b) (n := m) (i := i) (by omega) (S.2.2.2 a - i)
                  rw [show i + (S.2.2.2 a - i) = S.2.2.2 a by omega] at hsp
                  rw [hsp]
                  exact mp_iret X d_M_tell_90 rfl rfl (by decide) (by decide) ⟨rfl, rfl, ⟨ad, by show cm_Q G g _ _ ad; rw [e1]; exact hSg⟩, hfg⟩
                · refine mp_aload X 50 d_M_tell_48 rfl rfl ?_
                  refine mp_getf (v := .ref (G.1 + (2 + 8 * a + 1))) X 53 lk_M_79_P d_M_tell_50 rfl ((hSg.2.2.2 a ha).1.sz (by omega)) (hSg.2.2.2 a ha).1.ob (hSg.2.2.2 a ha).1.r_known ?_
                  refine mp_iload X 55 d_M_tell_53 rfl rfl ?_
                  refine mp_aald (t := 5) (v := .ref (G.1 + (ad (S.2.2.1 a i)))) X 56 (i) d_M_tell_55 rfl ((hSg.2.2.2 a ha).1.sz (by omega)) (hSg.2.2.2 a ha).1.k_known (by decide) (by decide) rfl (by omega) (by decide) skn ?_
                  refine mp_astore X 58 (L' := [.val (.ref (G.1 + 0)), .val (.int (nI a)), .val (.int (nI b)), .val (.int (nI m)), .val (.ref (G.1 + (2 + 8 * a))), .val (.ref (G.1 + (2 + 8 * b))), .val (.int (nI ((sp_tl S a b m i).2))), .val (.int (nI i)), .val (.ref (G.1 + (ad (S.2.2.1 a i))))]) d_M_tell_56 rfl rfl hz1 rfl ?_
                  refine mp_aload X 60 d_M_tell_58 rfl rfl ?_
                  refine mp_getf (v := .ref (G.1 + (2 + 8 * b + 5))) X 63 lk_M_83_P d_M_tell_60 rfl ((hSg.2.2.2 b hb).1.sz (by omega)) (hSg.2.2.2 b hb).1.ob (hSg.2.2.2 b hb).1.r_knows ?_
                  refine mp_aload X 65 d_M_tell_63 rfl rfl ?_
                  refine mp_getop (v := .int (nI ((S.2.2.1 a i)))) X 68 lk_M_87_W lk_M_87_E lk_M_87_K d_M_tell_65 rfl hok9.1.2 hod hok9.2.1 ?_
                  refine mp_zald (v := .int (nI kb)) X 69 ((S.2.2.1 a i)) d_M_tell_68 rfl ((hSg.2.2.2 b hb).1.sz (by omega)) (hSg.2.2.2 b hb).1.k_knows rfl (by omega) (by decide) hkb ?_
                  refine mp_Zne X 82 72 d_M_tell_69 (by decide) rfl (by omega) (fun q3 => ?_) (fun q3 => ?_)
                  · refine mp_iinc X 85 (L' := [.val (.ref (G.1 + 0)), .val (.int (nI a)), .val (.int (nI b)), .val (.int (nI m)), .val (.ref (G.1 + (2 + 8 * a))), .val (.ref (G.1 + (2 + 8 * b))), .val (.int (nI ((sp_tl S a b m i).2))), .val (.int (nI (i + 1))), .val (.ref (G.1 + (ad (S.2.2.1 a i))))]) (v := nI (i + 1)) d_M_tell_82 rfl rfl (nI_1 _) rfl ?_
                    refine mp_goto X 32 d_M_tell_85 (by decide) ?_
                    have hkw : pq_kw ((sp_tl S a b m i).1.2.2.1 b) ((sp_tl S a b m i).1.2.2.2 b) (S.2.2.1 a i) = true := by rcases kb1 with ⟨h1, h2⟩ | ⟨h1, h2⟩; exact h2; omega
                    rw [if_neg (fun z => by rw [hkw] at z; cases z.2)] at hst
                    have hg9 := ih (i + 1) g (.val (.ref (G.1 + ad (S.2.2.1 a i)))) rfl (by omega) (by rw [hst]; exact hSg) hfg
                    rw [hst] at hg9
                    exact hg9
                  · refine mp_aload X 74 d_M_tell_72 rfl rfl ?_
                    refine mp_aload X 76 d_M_tell_74 rfl rfl ?_
                    have hkw : pq_kw ((sp_tl S a b m i).1.2.2.1 b) ((sp_tl S a b m i).1.2.2.2 b) (S.2.2.1 a i) = false := by rcases kb1 with ⟨h1, h2⟩ | ⟨h1, h2⟩; omega; exact h2
                    rw [if_pos ⟨q2, hkw⟩] at hst
                    obtain ⟨ok2, -⟩ := sp_tl_ok hok (n := m) ha hb (i + 1) (by omega)
                    rw [hst] at ok2
                    refine mp_call X mp_Ts_ok 79 (rest := []) (k_M_learn (j := b) (k := S.2.2.1 a i) _ hSg ok2 hb) Y_P_learn in_P (mp_IV X (q := (nR_P, nT_P, 12)) d_M_tell_76 Y_P_learn ml_M_92 im_P_learn se_P_learn (by decide) rfl (by decide) (by show _ = some 1; decide) ((hSg.2.2.2 b hb).1.sz (by omega)) (hSg.2.2.2 b hb).1.ob) rfl (by decide) (by decide) (by decide) (by decide) rfl (by decide) (fun v g2 hp => ?_) (fun x g2 q hp => hp.elim)
                    obtain ⟨rfl, hS5, hf5⟩ := hp
                    have hg9 := ih (i + 1) g2 (.val (.ref (G.1 + ad (S.2.2.1 a i)))) rfl (by omega) (by rw [hst]; exact hS5) (hfg.tr hf5)
                    rw [hst] at hg9
                    refine mp_eq rfl rfl (st2 := []) rfl ?_
                    refine mp_iinc X 82 (L' := [.val (.ref (G.1 + 0)), .val (.int (nI a)), .val (.int (nI b)), .val (.int (nI m)), .val (.ref (G.1 + (2 + 8 * a))), .val (.ref (G.1 + (2 + 8 * b))), .val (.int (nI ((sp_tl S a b m i).2 + 1))), .val (.int (nI i)), .val (.ref (G.1 + (ad (S.2.2.1 a i))))]) (v := nI ((sp_tl S a b m i).2 + 1)) d_M_tell_79 rfl rfl (nI_1 _) rfl ?_
                    refine mp_iinc X 85 (L' := [.val (.ref (G.1 + 0)), .val (.int (nI a)), .val (.int (nI b)), .val (.int (nI m)), .val (.ref (G.1 + (2 + 8 * a))), .val (.ref (G.1 + (2 + 8 * b))), .val (.int (nI ((sp_tl S a b m i).2 + 1))), .val (.int (nI (i + 1))), .val (.ref (G.1 + (ad (S.2.2.1 a i))))]) (v := nI (i + 1)) d_M_tell_82 rfl rfl (nI_1 _) rfl ?_
                    refine mp_goto X 32 d_M_tell_85 (by decide) ?_
                    exact hg9
          exact hloop (S.2.2.2 a) 0 h .unset rfl (by omega) hS1 mp_gr.rf
