/-! A page: setInRow, putIntoRow, addMarking, gatherText; reach (rows laid by program). -/
theorem la_6 : mp_LA mp_Ts 6 2 5 := ⟨by decide, by decide, nR_W, nT_W, nR_W, rfl, rfl, Or.inl rfl⟩
theorem la_7 : mp_LA mp_Ts 7 4 8 := ⟨by decide, by decide, nR_K, nT_K, nR_K, rfl, rfl, Or.inl rfl⟩
theorem la_4 : mp_LA mp_Ts 4 1 12 := ⟨by decide, by decide, nR_P, nT_P, nR_P, rfl, rfl, Or.inl rfl⟩
theorem la_5W : mp_LA mp_Ts 5 2 5 := ⟨by decide, by decide, nR_W, nT_W, _, rfl, rfl, Or.inr wd_613⟩
theorem la_5E : mp_LA mp_Ts 5 3 4 := ⟨by decide, by decide, nR_E, nT_E, _, rfl, rfl, Or.inr wd_611⟩
theorem la_5K : mp_LA mp_Ts 5 4 8 := ⟨by decide, by decide, nR_K, nT_K, _, rfl, rfl, Or.inr wd_612⟩
theorem nI_dec (i : Nat) : nI (i + 1) + Int32.ofInt (-1) = nI i := by
  rw [show Int32.ofInt (-1) = -(nI 1) by decide, ← Int32.sub_eq_add_neg, pk_sub (by omega)]
  rfl
def cp_B (P o i : Nat) : Prop := (o = P ∧ i = 4) ∨ o = P + 2 ∨ o = P + 7
def cp_C (P o i : Nat) : Prop := (o = P ∧ i = 8) ∨ o = P + 4
def cp_D (P o i : Nat) : Prop := (o = P ∧ i = 6) ∨ o = P + 3
theorem cp_BA {P o i : Nat} (h : cp_B P o i) : cp_A P o i := by unfold cp_B at h; unfold cp_A; omega
theorem cp_CA {P o i : Nat} (h : cp_C P o i) : cp_A P o i := by unfold cp_C at h; unfold cp_A; omega
theorem cp_DA {P o i : Nat} (h : cp_D P o i) : cp_A P o i := by unfold cp_D at h; unfold cp_A; omega
set_option maxRecDepth 100000 in
set_option maxHeartbeats 4000000 in
theorem k_P_setInRow (l : Launch) {G : mp_G} {h : mp_H} {M P p x : Nat} {O : pq_O} {ad : Nat → Nat} (hK : cp_K G h P) (hO : cp_O G h M O ad) (hP41 : P + 8 ≤ 41) (hM : M ≤ 90) (hx : x < M) (hso : pq_so O x = 0) (hp : p < 90) :
    mp_M G mp_Ts l y_P_setInRow 0 0 0 [.ref (G.1 + P), .int (nI p), .ref (G.1 + ad x)] h (fun v h' => v = none ∧ h' = mp_set (mp_set h (P + 2) p (.ref (G.1 + ad x))) (P + 7) x (.int (nI p))) (fun _ _ => False) := by
  obtain ⟨w1, w2, w3, -⟩ := hO.wr hx hso
  have w0 := (hO x hx).1.1
  refine mp_enter (by decide) Y_P_setInRow fun E hl X => ?_
  refine mp_eq rfl (L2 := [.val (.ref (G.1 + P)), .val (.int (nI p)), .val (.ref (G.1 + ad x))]) rfl rfl ?_
  refine mp_aload_n X 1 d_P_setInRow_0 rfl rfl rfl ?_
  refine mp_getf (v := .ref (G.1 + (P + 2))) X 4 lk_P_19_P d_P_setInRow_1 rfl (hK.sz (by omega)) hK.ob hK.r_row ?_
  refine mp_iload_n X 5 d_P_setInRow_4 rfl rfl rfl ?_
  refine mp_aload_n X 6 d_P_setInRow_5 rfl rfl rfl ?_
  refine mp_aast X 7 (p) la_6 d_P_setInRow_6 rfl (hK.sz (by omega)) hK.k_row w1 w2 rfl (by omega) (by decide) ?_
  have hK2 : cp_K G (mp_set h (P + 2) p (.ref (G.1 + ad x))) P := hK.st (by unfold cp_A; omega)
  have w4 : (mp_set h (P + 2) p (.ref (G.1 + ad x))).2.1 (ad x) 0 = .int (nI x) := by rw [mp_set_ne _ _ (by omega)]; exact w3
  refine mp_aload_n X 8 d_P_setInRow_7 rfl rfl rfl ?_
  refine mp_getf (v := .ref (G.1 + (P + 7))) X 11 lk_P_39_P d_P_setInRow_8 rfl (hK2.sz (by omega)) hK2.ob hK2.r_places ?_
  refine mp_aload_n X 12 d_P_setInRow_11 rfl rfl rfl ?_
  refine mp_getf (v := .int (nI x)) X 15 lk_P_73_W d_P_setInRow_12 rfl w1 w2 w4 ?_
  refine mp_iload_n X 16 d_P_setInRow_15 rfl rfl rfl ?_
  refine mp_iast X 17 (x) d_P_setInRow_16 rfl (hK2.sz (by omega)) hK2.k_places rfl (by omega) (by decide) ?_
  exact mp_vret X d_P_setInRow_17 rfl (by decide) (by decide) ⟨rfl, rfl⟩
set_option maxRecDepth 100000 in
set_option maxHeartbeats 4000000 in
theorem k_P_putIntoRow (l : Launch) {G : mp_G} {h : mp_H} {M P x : Nat} {O : pq_O} {ad : Nat → Nat} {r : List Nat} (hK : cp_K G h P) (hO : cp_O G h M O ad) (hP41 : P + 8 ≤ 41) (hw : pq_wf M O) (hM : M ≤ 90) (hr : cp_row G h ad P r) (hnd : r.Nodup) (hrM : ∀ p ∈ r, p < M ∧ pq_so O p = 0) (hx : x < M) (hso : pq_so O x = 0) (hxr : x ∉ r) (hpa : ∀ p, pq_fi O x = some p → p ∈ r) (hrl : r.length < 90) :
    mp_M G mp_Ts l y_P_putIntoRow 1 0 0 [.ref (G.1 + P), .ref (G.1 + ad x)] h (fun v h' => v = none ∧ mp_fr (cp_B P) h h' ∧ cp_row G h' ad P (pq_ins O r x)) (fun _ _ => False) := by
  obtain ⟨w1, w2, w3, w4, w5, w6⟩ := hO.wr hx hso
  have w0 := (hO x hx).1.1
  have ix := pq_id_lt hw hM hx
  have hst : pq_st O r x ≤ r.length := by
    unfold pq_st
    cases hf : pq_fi O x with
    | none => exact Nat.zero_le _
    | some p => exact List.idxOf_lt_length_of_mem (hpa p hf)
  have hq := cp_q_le (O := O) (k := x) hst
  have hq0 : pq_st O r x ≤ cp_q O r x := Nat.le_add_right _ _
  have hrs := hr.1
  refine mp_enter (by decide) Y_P_putIntoRow fun E hl X => ?_
  refine mp_eq rfl (L2 := [.val (.ref (G.1 + P)), .val (.ref (G.1 + ad x)), .unset, .unset]) rfl rfl ?_
  have hloop2 : ∀ (n : Nat) (g : mp_H), cp_q O r x + n ≤ r.length → mp_fr (cp_B P) h g → cp_sh G g ad P r (cp_q O r x + n) → g.2.1 P 4 = .int (nI r.length) → mp_W G E g 0 0 (mp_Q G E 0 0 (fun v h' => v = none ∧ mp_fr (cp_B P) h h' ∧ cp_row G h' ad P (pq_ins O r x)) (fun _ _ => False)) 61 [.val (.ref (G.1 + P)), .val (.ref (G.1 + ad x)), .val (.int (nI (cp_q O r x))), .val (.int (nI (cp_q O r x + n)))] [] := by
    intro n
    induction n with
    | zero =>
      intro g hn hfg hsg hsz
      have hKg : cp_K G g P := hK.fr (hfg.mono fun o i => cp_BA)
      have hOg : cp_O G g M O ad := hO.fr hP41 (hfg.mono fun o i => cp_BA)
      rw [Nat.add_zero] at hsg ⊢
      refine mp_iload_n X 62 d_P_putIntoRow_61 rfl rfl rfl ?_
      refine mp_iload_n X 63 d_P_putIntoRow_62 rfl rfl rfl ?_
      refine mp_Nle X 85 66 d_P_putIntoRow_63 (by decide) rfl (by omega) (by omega) (fun q1 => ?_) (fun q1 => ?_)
      · refine mp_aload_n X 86 d_P_putIntoRow_85 rfl rfl rfl ?_
        refine mp_iload_n X 87 d_P_putIntoRow_86 rfl rfl rfl ?_
        refine mp_aload_n X 88 d_P_putIntoRow_87 rfl rfl rfl ?_
        refine mp_call X mp_Ts_ok 91 (rest := []) (k_P_setInRow (p := cp_q O r x) (x := x) _ hKg hOg hP41 hM hx hso (by omega)) Y_P_setInRow in_P (mp_IV X (q := (nR_P, nT_P, 12)) d_P_putIntoRow_88 Y_P_setInRow ml_P_80 im_P_setInRow se_P_setInRow (by decide) rfl (by decide) (by show _ = some 2; decide) (hKg.sz (by omega)) hKg.ob) rfl (by decide) (by decide) (by decide) (by decide) rfl (by decide) (fun v g2 hp => ?_) (fun x9 g2 q9 hp => hp.elim)
        obtain ⟨rfl, hg2⟩ := hp
        have hfg2 : mp_fr (cp_B P) h g2 := by rw [hg2]; exact (hfg.set (by unfold cp_B; omega)).set (by unfold cp_B; omega)
        have hKg2 : cp_K G g2 P := hK.fr (hfg2.mono fun o i => cp_BA)
        have hsz2 : g2.2.1 P 4 = .int (nI r.length) := by rw [hg2, mp_set_ne _ _ (by omega), mp_set_ne _ _ (by omega)]; exact hsz
        refine mp_eq rfl rfl (st2 := []) rfl ?_
        refine mp_aload_n X 92 d_P_putIntoRow_91 rfl rfl rfl ?_
        refine mp_dup X 93 d_P_putIntoRow_92 rfl rfl ?_
        refine mp_getf (v := .int (nI (r.length))) X 96 lk_P_74_P d_P_putIntoRow_93 rfl (hKg2.sz (by omega)) hKg2.ob hsz2 ?_
        refine mp_iconst X 97 (v := nI 1) d_P_putIntoRow_96 rfl (by decide) ?_
        refine mp_iadd X 98 d_P_putIntoRow_97 rfl ?_
        rw [nI_add]
        refine mp_putf X 101 ls_P_74_P d_P_putIntoRow_98 rfl (Or.inl rfl) (hKg2.sz (by omega)) hKg2.ob rfl rfl ?_
        refine mp_vret X d_P_putIntoRow_101 rfl (by decide) (by decide) ⟨rfl, hfg2.set (by unfold cp_B; omega), ?_⟩
        rw [cp_q_ins, hg2]
        exact cp_sh2 hq hxr hsg
      · omega
    | succ n ih =>
      intro g hn hfg hsg hsz
      have hKg : cp_K G g P := hK.fr (hfg.mono fun o i => cp_BA)
      have hOg : cp_O G g M O ad := hO.fr hP41 (hfg.mono fun o i => cp_BA)
      obtain ⟨k, hk⟩ : ∃ k, r[cp_q O r x + n]? = some k := ⟨_, List.getElem?_eq_getElem (by omega)⟩
      have hkM := hrM k (List.mem_of_getElem? hk)
      have hrk := (hsg.1 (cp_q O r x + n) k (by omega) hk).1
      refine mp_iload_n X 62 d_P_putIntoRow_61 rfl rfl rfl ?_
      refine mp_iload_n X 63 d_P_putIntoRow_62 rfl rfl rfl ?_
      refine mp_Nle X 85 66 d_P_putIntoRow_63 (by decide) rfl (by omega) (by omega) (fun q1 => ?_) (fun q1 => ?_)
      · omega
      · refine mp_aload_n X 67 d_P_putIntoRow_66 rfl rfl rfl ?_
        refine mp_iload_n X 68 d_P_putIntoRow_67 rfl rfl rfl ?_
        refine mp_aload_n X 69 d_P_putIntoRow_68 rfl rfl rfl ?_
        refine mp_getf (v := .ref (G.1 + (P + 2))) X 72 lk_P_19_P d_P_putIntoRow_69 rfl (hKg.sz (by omega)) hKg.ob hKg.r_row ?_
        refine mp_iload_n X 73 d_P_putIntoRow_72 rfl rfl rfl ?_
        refine mp_iconst X 74 (v := nI 1) d_P_putIntoRow_73 rfl (by decide) ?_
        refine mp_isub X 75 d_P_putIntoRow_74 rfl ?_
        have e2 : (nI ((cp_q O r x + (n + 1)))) - nI 1 = nI (cp_q O r x + n) := pk_sub (by omega)
        rw [e2]
        refine mp_aald (t := 6) (v := .ref (G.1 + (ad k))) X 76 (cp_q O r x + n) d_P_putIntoRow_75 rfl (hKg.sz (by omega)) hKg.k_row (by decide) (by decide) rfl (by omega) (by decide) hrk ?_
        refine mp_call X mp_Ts_ok 79 (rest := []) (k_P_setInRow (p := cp_q O r x + (n + 1)) (x := k) _ hKg hOg hP41 hM hkM.1 hkM.2 (by omega)) Y_P_setInRow in_P (mp_IV X (q := (nR_P, nT_P, 12)) d_P_putIntoRow_76 Y_P_setInRow ml_P_80 im_P_setInRow se_P_setInRow (by decide) rfl (by decide) (by show _ = some 2; decide) (hKg.sz (by omega)) hKg.ob) rfl (by decide) (by decide) (by decide) (by decide) rfl (by decide) (fun v g2 hp => ?_) (fun x9 g2 q9 hp => hp.elim)
        obtain ⟨rfl, hg2⟩ := hp
        have hfg2 : mp_fr (cp_B P) h g2 := by rw [hg2]; exact (hfg.set (by unfold cp_B; omega)).set (by unfold cp_B; omega)
        have hKg2 : cp_K G g2 P := hK.fr (hfg2.mono fun o i => cp_BA)
        have hsz2 : g2.2.1 P 4 = .int (nI r.length) := by rw [hg2, mp_set_ne _ _ (by omega), mp_set_ne _ _ (by omega)]; exact hsz
        refine mp_eq rfl rfl (st2 := []) rfl ?_
        refine mp_iinc X 82 (L' := [.val (.ref (G.1 + P)), .val (.ref (G.1 + (ad x))), .val (.int (nI ((cp_q O r x)))), .val (.int (nI (cp_q O r x + n)))]) (v := nI (cp_q O r x + n)) d_P_putIntoRow_79 rfl rfl (nI_dec _) rfl ?_
        refine mp_goto X 61 d_P_putIntoRow_82 (by decide) ?_
        exact ih g2 (by omega) hfg2 (by rw [hg2]; exact cp_sh1 hnd hsg hk) hsz2
  have hloop1 : ∀ (n p : Nat), p + n = cp_q O r x → pq_st O r x ≤ p → mp_W G E h 0 0 (mp_Q G E 0 0 (fun v h' => v = none ∧ mp_fr (cp_B P) h h' ∧ cp_row G h' ad P (pq_ins O r x)) (fun _ _ => False)) 26 [.val (.ref (G.1 + P)), .val (.ref (G.1 + ad x)), .val (.int (nI p)), .unset] [] := by
    intro n
    induction n with
    | zero =>
      intro p hpn hsp
      have hpq : p = cp_q O r x := by omega
      subst hpq
      have hend : mp_W G E h 0 0 (mp_Q G E 0 0 (fun v h' => v = none ∧ mp_fr (cp_B P) h h' ∧ cp_row G h' ad P (pq_ins O r x)) (fun _ _ => False)) 56 [.val (.ref (G.1 + P)), .val (.ref (G.1 + ad x)), .val (.int (nI (cp_q O r x))), .unset] [] := by
        refine mp_aload_n X 57 d_P_putIntoRow_56 rfl rfl rfl ?_
        refine mp_getf (v := .int (nI (r.length))) X 60 lk_P_74_P d_P_putIntoRow_57 rfl (hK.sz (by omega)) hK.ob hrs ?_
        refine mp_istore_n X 61 (L' := [.val (.ref (G.1 + P)), .val (.ref (G.1 + (ad x))), .val (.int (nI ((cp_q O r x)))), .val (.int (nI (r.length)))]) d_P_putIntoRow_60 rfl rfl rfl rfl rfl ?_
        have h2 := hloop2 (r.length - cp_q O r x) h (by omega) mp_fr.rf (by rw [show cp_q O r x + (r.length - cp_q O r x) = r.length by omega]; exact cp_sh0 hr) hrs
        rw [show cp_q O r x + (r.length - cp_q O r x) = r.length by omega] at h2
        exact h2
      refine mp_iload_n X 27 d_P_putIntoRow_26 rfl rfl rfl ?_
      refine mp_aload_n X 28 d_P_putIntoRow_27 rfl rfl rfl ?_
      refine mp_getf (v := .int (nI (r.length))) X 31 lk_P_74_P d_P_putIntoRow_28 rfl (hK.sz (by omega)) hK.ob hrs ?_
      refine mp_Nge X 56 34 d_P_putIntoRow_31 (by decide) rfl (by omega) (by omega) (fun q1 => ?_) (fun q1 => ?_)
      · exact hend
      · obtain ⟨k, hk⟩ : ∃ k, r[cp_q O r x]? = some k := ⟨_, List.getElem?_eq_getElem (by omega)⟩
        have hkM := hrM k (List.mem_of_getElem? hk)
        obtain ⟨k1, k2, k3, k4, -⟩ := hO.wr hkM.1 hkM.2
        have hrk := (hr.2 _ k hk).1
        have ik := pq_id_lt hw hM hkM.1
        have hko := cp_q_out hk
        refine mp_aload_n X 35 d_P_putIntoRow_34 rfl rfl rfl ?_
        refine mp_getf (v := .ref (G.1 + (P + 2))) X 38 lk_P_19_P d_P_putIntoRow_35 rfl (hK.sz (by omega)) hK.ob hK.r_row ?_
        refine mp_iload_n X 39 d_P_putIntoRow_38 rfl rfl rfl ?_
        refine mp_aald (t := 6) (v := .ref (G.1 + (ad k))) X 40 ((cp_q O r x)) d_P_putIntoRow_39 rfl (hK.sz (by omega)) hK.k_row (by decide) (by decide) rfl (by omega) (by decide) hrk ?_
        refine mp_getf (v := .int (nI ((pq_id O k)))) X 43 lk_P_77_W d_P_putIntoRow_40 rfl k1 k2 k4 ?_
        refine mp_aload_n X 44 d_P_putIntoRow_43 rfl rfl rfl ?_
        refine mp_getf (v := .int (nI ((pq_id O x)))) X 47 lk_P_77_W d_P_putIntoRow_44 rfl w1 w2 w4 ?_
        refine mp_Nle X 56 50 d_P_putIntoRow_47 (by decide) rfl (by omega) (by omega) (fun q2 => ?_) (fun q2 => ?_)
        · exact hend
        · omega
    | succ n ih =>
      intro p hpn hsp
      obtain ⟨k, hk, hik⟩ := cp_q_in (O := O) (r := r) (k := x) hsp (by omega)
      have hkM := hrM k (List.mem_of_getElem? hk)
      obtain ⟨k1, k2, k3, k4, -⟩ := hO.wr hkM.1 hkM.2
      have hrk := (hr.2 _ k hk).1
      have ik := pq_id_lt hw hM hkM.1
      refine mp_iload_n X 27 d_P_putIntoRow_26 rfl rfl rfl ?_
      refine mp_aload_n X 28 d_P_putIntoRow_27 rfl rfl rfl ?_
      refine mp_getf (v := .int (nI (r.length))) X 31 lk_P_74_P d_P_putIntoRow_28 rfl (hK.sz (by omega)) hK.ob hrs ?_
      refine mp_Nge X 56 34 d_P_putIntoRow_31 (by decide) rfl (by omega) (by omega) (fun q1 => ?_) (fun q1 => ?_)
      · omega
      · refine mp_aload_n X 35 d_P_putIntoRow_34 rfl rfl rfl ?_
        refine mp_getf (v := .ref (G.1 + (P + 2))) X 38 lk_P_19_P d_P_putIntoRow_35 rfl (hK.sz (by omega)) hK.ob hK.r_row ?_
        refine mp_iload_n X 39 d_P_putIntoRow_38 rfl rfl rfl ?_
        refine mp_aald (t := 6) (v := .ref (G.1 + (ad k))) X 40 (p) d_P_putIntoRow_39 rfl (hK.sz (by omega)) hK.k_row (by decide) (by decide) rfl (by omega) (by decide) hrk ?_
        refine mp_getf (v := .int (nI ((pq_id O k)))) X 43 lk_P_77_W d_P_putIntoRow_40 rfl k1 k2 k4 ?_
        refine mp_aload_n X 44 d_P_putIntoRow_43 rfl rfl rfl ?_
        refine mp_getf (v := .int (nI ((pq_id O x)))) X 47 lk_P_77_W d_P_putIntoRow_44 rfl w1 w2 w4 ?_
        refine mp_Nle X 56 50 d_P_putIntoRow_47 (by decide) rfl (by omega) (by omega) (fun q2 => ?_) (fun q2 => ?_)
        · omega
        · refine mp_iinc X 53 (L' := [.val (.ref (G.1 + P)), .val (.ref (G.1 + (ad x))), .val (.int (nI (p + 1))), .unset]) (v := nI (p + 1)) d_P_putIntoRow_50 rfl rfl (nI_1 _) rfl ?_
          refine mp_goto X 26 d_P_putIntoRow_53 (by decide) ?_
          exact ih (p + 1) (by omega) (by omega)
  cases hf : pq_fi O x with
  | none =>
    rw [hf] at w6
    change h.2.1 (ad x) 4 = .null at w6
    have est : pq_st O r x = 0 := by unfold pq_st; rw [hf]
    refine mp_aload_n X 1 d_P_putIntoRow_0 rfl rfl rfl ?_
    refine mp_getf (v := .null) X 4 lk_P_69_W d_P_putIntoRow_1 rfl w1 w2 w6 ?_
    refine mp_ifnonnullN X 7 d_P_putIntoRow_4 rfl ?_
    refine mp_iconst X 8 (v := nI 0) d_P_putIntoRow_7 rfl (by decide) ?_
    refine mp_goto X 25 d_P_putIntoRow_8 (by decide) ?_
    refine mp_istore_n X 26 (L' := [.val (.ref (G.1 + P)), .val (.ref (G.1 + (ad x))), .val (.int (nI 0)), .unset]) d_P_putIntoRow_25 rfl rfl rfl rfl rfl ?_
    exact hloop1 (cp_q O r x) 0 (by omega) (by omega)
  | some f =>
    rw [hf] at w6
    change h.2.1 (ad x) 4 = .ref (G.1 + ad f) at w6
    have est : pq_st O r x = r.idxOf f + 1 := by unfold pq_st; rw [hf]
    have hfr := hpa f hf
    have hfM := hrM f hfr
    obtain ⟨f1, f2, f3, -⟩ := hO.wr hfM.1 hfM.2
    have pf := hr.pl hfr
    have hfm := hfM.1
    have if1 := List.idxOf_lt_length_of_mem hfr
    refine mp_aload_n X 1 d_P_putIntoRow_0 rfl rfl rfl ?_
    refine mp_getf (v := .ref (G.1 + (ad f))) X 4 lk_P_69_W d_P_putIntoRow_1 rfl w1 w2 w6 ?_
    refine mp_ifnonnull X 11 d_P_putIntoRow_4 (by decide) ?_
    refine mp_aload_n X 12 d_P_putIntoRow_11 rfl rfl rfl ?_
    refine mp_getf (v := .ref (G.1 + (P + 7))) X 15 lk_P_39_P d_P_putIntoRow_12 rfl (hK.sz (by omega)) hK.ob hK.r_places ?_
    refine mp_aload_n X 16 d_P_putIntoRow_15 rfl rfl rfl ?_
    refine mp_getf (v := .ref (G.1 + (ad f))) X 19 lk_P_69_W d_P_putIntoRow_16 rfl w1 w2 w6 ?_
    refine mp_getf (v := .int (nI f)) X 22 lk_P_73_W d_P_putIntoRow_19 rfl f1 f2 f3 ?_
    refine mp_iald (v := .int (nI ((r.idxOf f)))) X 23 (f) d_P_putIntoRow_22 rfl (hK.sz (by omega)) hK.k_places rfl (by omega) (by decide) pf ?_
    refine mp_iconst X 24 (v := nI 1) d_P_putIntoRow_23 rfl (by decide) ?_
    refine mp_iadd X 25 d_P_putIntoRow_24 rfl ?_
    rw [nI_add]
    refine mp_istore_n X 26 (L' := [.val (.ref (G.1 + P)), .val (.ref (G.1 + (ad x))), .val (.int (nI ((r.idxOf f) + 1))), .unset]) d_P_putIntoRow_25 rfl rfl rfl rfl rfl ?_
    exact hloop1 (cp_q O r x - (r.idxOf f + 1)) (r.idxOf f + 1) (by omega) (by omega)
theorem cp_O.mr {G : mp_G} {h : mp_H} {M : Nat} {O : pq_O} {ad : Nat → Nat} (hO : cp_O G h M O ad) {k : Nat} (hk : k < M) (hs : pq_so O k = 2) : ad k < h.2.2 ∧ h.1 (ad k) = (4, 8) ∧ h.2.1 (ad k) 2 = .int (nI (pq_id O k)) :=
  ⟨(hO k hk).1.2, ((hO k hk).2.2.2.2.2.2 hs).1, (hO k hk).2.2.2.1⟩
set_option maxRecDepth 100000 in
set_option maxHeartbeats 4000000 in
theorem k_P_addMarking (l : Launch) {G : mp_G} {h : mp_H} {M P x : Nat} {O : pq_O} {ad : Nat → Nat} {r : List Nat} (hK : cp_K G h P) (hO : cp_O G h M O ad) (hP41 : P + 8 ≤ 41) (hw : pq_wf M O) (hM : M ≤ 90) (hr : cp_mks G h ad P r) (hsd : r.Pairwise fun a b => pq_id O a < pq_id O b) (hrM : ∀ p ∈ r, p < M ∧ pq_so O p = 2) (hx : x < M) (hso : pq_so O x = 2) (hxr : x ∉ r) (hrl : r.length < 90) :
    mp_M G mp_Ts l y_P_addMarking 0 0 0 [.ref (G.1 + P), .ref (G.1 + ad x)] h (fun v h' => v = none ∧ mp_fr (cp_C P) h h' ∧ cp_mks G h' ad P (pq_mins O r x)) (fun _ _ => False) := by
  obtain ⟨w1, w2, w4⟩ := hO.mr hx hso
  have w0 := (hO x hx).1.1
  have ix := pq_id_lt hw hM hx
  have hq := cp_u_le (O := O) (r := r) (k := x)
  have hrs := hr.1
  refine mp_enter (by decide) Y_P_addMarking fun E hl X => ?_
  refine mp_eq rfl (L2 := [.val (.ref (G.1 + P)), .val (.ref (G.1 + ad x)), .unset]) rfl rfl ?_
  have hloop : ∀ (n : Nat) (g : mp_H), cp_u O r x + n ≤ r.length → mp_fr (cp_C P) h g → cp_mh G g ad P r (cp_u O r x + n) → g.2.1 P 8 = .int (nI r.length) → mp_W G E g 0 0 (mp_Q G E 0 0 (fun v h' => v = none ∧ mp_fr (cp_C P) h h' ∧ cp_mks G h' ad P (pq_mins O r x)) (fun _ _ => False)) 5 [.val (.ref (G.1 + P)), .val (.ref (G.1 + ad x)), .val (.int (nI (cp_u O r x + n)))] [] := by
    intro n
    induction n with
    | zero =>
      intro g hn hfg hsg hsz
      have hKg : cp_K G g P := hK.fr (hfg.mono fun o i => cp_CA)
      have hOg : cp_O G g M O ad := hO.fr hP41 (hfg.mono fun o i => cp_CA)
      obtain ⟨w1, w2, w4⟩ := hOg.mr hx hso
      rw [Nat.add_zero] at hsg ⊢
      have hend : mp_W G E g 0 0 (mp_Q G E 0 0 (fun v h' => v = none ∧ mp_fr (cp_C P) h h' ∧ cp_mks G h' ad P (pq_mins O r x)) (fun _ _ => False)) 47 [.val (.ref (G.1 + P)), .val (.ref (G.1 + ad x)), .val (.int (nI (cp_u O r x)))] [] := by
        refine mp_aload_n X 48 d_P_addMarking_47 rfl rfl rfl ?_
        refine mp_getf (v := .ref (G.1 + (P + 4))) X 51 lk_P_28_P d_P_addMarking_48 rfl (hKg.sz (by omega)) hKg.ob hKg.r_markings ?_
        refine mp_iload_n X 52 d_P_addMarking_51 rfl rfl rfl ?_
        refine mp_aload_n X 53 d_P_addMarking_52 rfl rfl rfl ?_
        refine mp_aast X 54 ((cp_u O r x)) la_7 d_P_addMarking_53 rfl (hKg.sz (by omega)) hKg.k_markings w1 w2 rfl (by omega) (by decide) ?_
        have hKg2 : cp_K G (mp_set g (P + 4) (cp_u O r x) (.ref (G.1 + ad x))) P := hKg.st (by unfold cp_A; omega)
        have hsz2 : (mp_set g (P + 4) (cp_u O r x) (.ref (G.1 + ad x))).2.1 P 8 = .int (nI r.length) := by rw [mp_set_ne _ _ (by omega)]; exact hsz
        refine mp_aload_n X 55 d_P_addMarking_54 rfl rfl rfl ?_
        refine mp_dup X 56 d_P_addMarking_55 rfl rfl ?_
        refine mp_getf (v := .int (nI (r.length))) X 59 lk_P_84_P d_P_addMarking_56 rfl (hKg2.sz (by omega)) hKg2.ob hsz2 ?_
        refine mp_iconst X 60 (v := nI 1) d_P_addMarking_59 rfl (by decide) ?_
        refine mp_iadd X 61 d_P_addMarking_60 rfl ?_
        rw [nI_add]
        refine mp_putf X 64 ls_P_84_P d_P_addMarking_61 rfl (Or.inl rfl) (hKg2.sz (by omega)) hKg2.ob rfl rfl ?_
        refine mp_vret X d_P_addMarking_64 rfl (by decide) (by decide) ⟨rfl, (hfg.set (by unfold cp_C; omega)).set (by unfold cp_C; omega), ?_⟩
        rw [cp_u_ins]
        exact cp_mh2 hq hsg
      refine mp_iload_n X 6 d_P_addMarking_5 rfl rfl rfl ?_
      refine mp_Zle X 47 9 d_P_addMarking_6 (by decide) rfl (by omega) (fun q1 => ?_) (fun q1 => ?_)
      · exact hend
      · obtain ⟨k, hk⟩ : ∃ k, r[cp_u O r x - 1]? = some k := ⟨_, List.getElem?_eq_getElem (by omega)⟩
        have hkM := hrM k (List.mem_of_getElem? hk)
        obtain ⟨k1, k2, k4⟩ := hOg.mr hkM.1 hkM.2
        have hrk := hsg.1 _ k (by omega) hk
        have ik := pq_id_lt hw hM hkM.1
        have hko := cp_u_in (O := O) (r := r) (k := x) (by omega) hk
        refine mp_aload_n X 10 d_P_addMarking_9 rfl rfl rfl ?_
        refine mp_getf (v := .ref (G.1 + (P + 4))) X 13 lk_P_28_P d_P_addMarking_10 rfl (hKg.sz (by omega)) hKg.ob hKg.r_markings ?_
        refine mp_iload_n X 14 d_P_addMarking_13 rfl rfl rfl ?_
        refine mp_iconst X 15 (v := nI 1) d_P_addMarking_14 rfl (by decide) ?_
        refine mp_isub X 16 d_P_addMarking_15 rfl ?_
        have e2 : (nI ((cp_u O r x))) - nI 1 = nI (cp_u O r x - 1) := pk_sub (by omega)
        rw [e2]
        refine mp_aald (t := 7) (v := .ref (G.1 + (ad k))) X 17 (cp_u O r x - 1) d_P_addMarking_16 rfl (hKg.sz (by omega)) hKg.k_markings (by decide) (by decide) rfl (by omega) (by decide) hrk ?_
        refine mp_getf (v := .int (nI ((pq_id O k)))) X 20 lk_P_87_K d_P_addMarking_17 rfl k1 k2 k4 ?_
        refine mp_aload_n X 21 d_P_addMarking_20 rfl rfl rfl ?_
        refine mp_getf (v := .int (nI ((pq_id O x)))) X 24 lk_P_87_K d_P_addMarking_21 rfl w1 w2 w4 ?_
        refine mp_Nle X 47 27 d_P_addMarking_24 (by decide) rfl (by omega) (by omega) (fun q3 => ?_) (fun q3 => ?_)
        · exact hend
        · omega
    | succ n ih =>
      intro g hn hfg hsg hsz
      have hKg : cp_K G g P := hK.fr (hfg.mono fun o i => cp_CA)
      have hOg : cp_O G g M O ad := hO.fr hP41 (hfg.mono fun o i => cp_CA)
      obtain ⟨w1, w2, w4⟩ := hOg.mr hx hso
      obtain ⟨k, hk⟩ : ∃ k, r[cp_u O r x + n]? = some k := ⟨_, List.getElem?_eq_getElem (by omega)⟩
      have hkm := List.mem_of_getElem? hk
      have hkM := hrM k hkm
      obtain ⟨k1, k2, k4⟩ := hOg.mr hkM.1 hkM.2
      have hrk := hsg.1 (cp_u O r x + n) k (by omega) hk
      have ik := pq_id_lt hw hM hkM.1
      have hko := cp_u_out (k := x) hsd (by omega) hk
      have hne := hw.2.2.1 x k hx hkM.1 (fun z => hxr (by rw [z]; exact hkm))
      refine mp_iload_n X 6 d_P_addMarking_5 rfl rfl rfl ?_
      refine mp_Zle X 47 9 d_P_addMarking_6 (by decide) rfl (by omega) (fun q1 => ?_) (fun q1 => ?_)
      · omega
      · refine mp_aload_n X 10 d_P_addMarking_9 rfl rfl rfl ?_
        refine mp_getf (v := .ref (G.1 + (P + 4))) X 13 lk_P_28_P d_P_addMarking_10 rfl (hKg.sz (by omega)) hKg.ob hKg.r_markings ?_
        refine mp_iload_n X 14 d_P_addMarking_13 rfl rfl rfl ?_
        refine mp_iconst X 15 (v := nI 1) d_P_addMarking_14 rfl (by decide) ?_
        refine mp_isub X 16 d_P_addMarking_15 rfl ?_
        have e2 : (nI ((cp_u O r x + (n + 1)))) - nI 1 = nI (cp_u O r x + n) := pk_sub (by omega)
        rw [e2]
        refine mp_aald (t := 7) (v := .ref (G.1 + (ad k))) X 17 (cp_u O r x + n) d_P_addMarking_16 rfl (hKg.sz (by omega)) hKg.k_markings (by decide) (by decide) rfl (by omega) (by decide) hrk ?_
        refine mp_getf (v := .int (nI ((pq_id O k)))) X 20 lk_P_87_K d_P_addMarking_17 rfl k1 k2 k4 ?_
        refine mp_aload_n X 21 d_P_addMarking_20 rfl rfl rfl ?_
        refine mp_getf (v := .int (nI ((pq_id O x)))) X 24 lk_P_87_K d_P_addMarking_21 rfl w1 w2 w4 ?_
        refine mp_Nle X 47 27 d_P_addMarking_24 (by decide) rfl (by omega) (by omega) (fun q3 => ?_) (fun q3 => ?_)
        · omega
        · refine mp_aload_n X 28 d_P_addMarking_27 rfl rfl rfl ?_
          refine mp_getf (v := .ref (G.1 + (P + 4))) X 31 lk_P_28_P d_P_addMarking_28 rfl (hKg.sz (by omega)) hKg.ob hKg.r_markings ?_
          refine mp_iload_n X 32 d_P_addMarking_31 rfl rfl rfl ?_
          refine mp_aload_n X 33 d_P_addMarking_32 rfl rfl rfl ?_
          refine mp_getf (v := .ref (G.1 + (P + 4))) X 36 lk_P_28_P d_P_addMarking_33 rfl (hKg.sz (by omega)) hKg.ob hKg.r_markings ?_
          refine mp_iload_n X 37 d_P_addMarking_36 rfl rfl rfl ?_
          refine mp_iconst X 38 (v := nI 1) d_P_addMarking_37 rfl (by decide) ?_
          refine mp_isub X 39 d_P_addMarking_38 rfl ?_
          have e4 : (nI ((cp_u O r x + (n + 1)))) - nI 1 = nI (cp_u O r x + n) := pk_sub (by omega)
          rw [e4]
          refine mp_aald (t := 7) (v := .ref (G.1 + (ad k))) X 40 (cp_u O r x + n) d_P_addMarking_39 rfl (hKg.sz (by omega)) hKg.k_markings (by decide) (by decide) rfl (by omega) (by decide) hrk ?_
          refine mp_aast X 41 ((cp_u O r x + (n + 1))) la_7 d_P_addMarking_40 rfl (hKg.sz (by omega)) hKg.k_markings k1 k2 rfl (by omega) (by decide) ?_
          refine mp_iinc X 44 (L' := [.val (.ref (G.1 + P)), .val (.ref (G.1 + (ad x))), .val (.int (nI (cp_u O r x + n)))]) (v := nI (cp_u O r x + n)) d_P_addMarking_41 rfl rfl (nI_dec _) rfl ?_
          refine mp_goto X 5 d_P_addMarking_44 (by decide) ?_
          exact ih _ (by omega) (hfg.set (by unfold cp_C; omega)) (cp_mh1 hsg hk) (by rw [mp_set_ne _ _ (by omega)]; exact hsz)
  refine mp_aload_n X 1 d_P_addMarking_0 rfl rfl rfl ?_
  refine mp_getf (v := .int (nI (r.length))) X 4 lk_P_84_P d_P_addMarking_1 rfl (hK.sz (by omega)) hK.ob hrs ?_
  refine mp_istore_n X 5 (L' := [.val (.ref (G.1 + P)), .val (.ref (G.1 + (ad x))), .val (.int (nI (r.length)))]) d_P_addMarking_4 rfl rfl rfl rfl rfl ?_
  have h2 := hloop (r.length - cp_u O r x) h (by omega) mp_fr.rf (by rw [show cp_u O r x + (r.length - cp_u O r x) = r.length by omega]; exact cp_mh0 hr) hrs
  rw [show cp_u O r x + (r.length - cp_u O r x) = r.length by omega] at h2
  exact h2
theorem cp_ft_len (r : List Nat) (f : Nat → Bool) (i : Nat) : ((r.take i).filter f).length ≤ i := Nat.le_trans (List.length_filter_le _ _) (by rw [List.length_take]; omega)
theorem cp_txt_add {G : mp_G} {h : mp_H} {ad : Nat → Nat} {P x : Nat} {t : List Nat} (ht : cp_txt G h ad P t) : cp_txt G (mp_set (mp_set h (P + 3) t.length (.ref (G.1 + ad x))) P 6 (.int (nI (t.length + 1)))) ad P (t ++ [x]) := by
  refine ⟨by rw [mp_set_at, List.length_append]; rfl, fun i k hk => ?_⟩
  rw [mp_set_ne _ _ (by omega)]
  by_cases e : i < t.length
  · rw [List.getElem?_append_left e] at hk
    rw [mp_set_ne _ _ (by omega)]
    exact ht.2 i k hk
  · rw [List.getElem?_append_right (by omega)] at hk
    have hi : i = t.length := by
      have := (List.getElem?_eq_some_iff.mp hk).1
      simp at this; omega
    subst hi
    rw [Nat.sub_self] at hk
    cases hk
    exact mp_set_at _ _ _ _
set_option maxRecDepth 100000 in
set_option maxHeartbeats 4000000 in
theorem k_P_gatherText (l : Launch) {G : mp_G} {h : mp_H} {M P : Nat} {O : pq_O} {ad : Nat → Nat} {r : List Nat} {gn : Nat → Bool} (hK : cp_K G h P) (hO : cp_O G h M O ad) (hP41 : P + 8 ≤ 41) (hM : M ≤ 90) (hr : cp_row G h ad P r) (hgn : cp_gon h P gn) (hrM : ∀ p ∈ r, p < M ∧ pq_so O p = 0) (hrl : r.length ≤ 90) :
    mp_M G mp_Ts l y_P_gatherText 0 0 0 [.ref (G.1 + P)] h (fun v h' => v = none ∧ mp_fr (cp_D P) h h' ∧ cp_txt G h' ad P (r.filter fun k => !gn k)) (fun _ _ => False) := by
  refine mp_enter (by decide) Y_P_gatherText fun E hl X => ?_
  refine mp_eq rfl (L2 := [.val (.ref (G.1 + P)), .unset]) rfl rfl ?_
  have hloop : ∀ (n i : Nat) (g : mp_H), i + n = r.length → mp_fr (cp_D P) h g → cp_txt G g ad P ((r.take i).filter fun k => !gn k) → mp_W G E g 0 0 (mp_Q G E 0 0 (fun v h' => v = none ∧ mp_fr (cp_D P) h h' ∧ cp_txt G h' ad P (r.filter fun k => !gn k)) (fun _ _ => False)) 7 [.val (.ref (G.1 + P)), .val (.int (nI i))] [] := by
    intro n
    induction n with
    | zero =>
      intro i g hin hfg htg
      have hi : i = r.length := by omega
      subst hi
      rw [List.take_length] at htg
      have hKg : cp_K G g P := hK.fr (hfg.mono fun o i => cp_DA)
      have hrs : g.2.1 P 4 = .int (nI r.length) := by rw [hfg.2.2 P 4 (by unfold cp_D; omega)]; exact hr.1
      refine mp_iload_n X 8 d_P_gatherText_7 rfl rfl rfl ?_
      refine mp_aload_n X 9 d_P_gatherText_8 rfl rfl rfl ?_
      refine mp_getf (v := .int (nI (r.length))) X 12 lk_P_74_P d_P_gatherText_9 rfl (hKg.sz (by omega)) hKg.ob hrs ?_
      refine mp_Nge X 63 15 d_P_gatherText_12 (by decide) rfl (by omega) (by omega) (fun q1 => ?_) (fun q1 => ?_)
      · exact mp_vret X d_P_gatherText_63 rfl (by decide) (by decide) ⟨rfl, hfg, htg⟩
      · omega
    | succ n ih =>
      intro i g hin hfg htg
      have hKg : cp_K G g P := hK.fr (hfg.mono fun o i => cp_DA)
      have hOg : cp_O G g M O ad := hO.fr hP41 (hfg.mono fun o i => cp_DA)
      have hrs : g.2.1 P 4 = .int (nI r.length) := by rw [hfg.2.2 P 4 (by unfold cp_D; omega)]; exact hr.1
      obtain ⟨x, hx⟩ : ∃ x, r[i]? = some x := ⟨_, List.getElem?_eq_getElem (by omega)⟩
      have hxM := hrM x (List.mem_of_getElem? hx)
      obtain ⟨w1, w2, w3, -⟩ := hOg.wr hxM.1 hxM.2
      have hxm := hxM.1
      have hrx : g.2.1 (P + 2) i = .ref (G.1 + ad x) := by rw [hfg.2.2 (P + 2) i (by unfold cp_D; omega)]; exact (hr.2 i x hx).1
      have hgx : g.2.1 (P + 6) x = .int (rm_b (gn x)) := by rw [hfg.2.2 (P + 6) x (by unfold cp_D; omega)]; exact hgn x (by omega)
      obtain ⟨bn, hbn, hb⟩ := rm_b_n (gn x)
      rw [hbn] at hgx
      have hts := htg.1
      have hfl := cp_ft_len r (fun k => !gn k) i
      have hbl : bn < 2 := by omega
      have hg := fun g9 => ih (i + 1) g9 (by omega)
      rw [cp_take hx, List.filter_append] at hg
      refine mp_iload_n X 8 d_P_gatherText_7 rfl rfl rfl ?_
      refine mp_aload_n X 9 d_P_gatherText_8 rfl rfl rfl ?_
      refine mp_getf (v := .int (nI (r.length))) X 12 lk_P_74_P d_P_gatherText_9 rfl (hKg.sz (by omega)) hKg.ob hrs ?_
      refine mp_Nge X 63 15 d_P_gatherText_12 (by decide) rfl (by omega) (by omega) (fun q1 => ?_) (fun q1 => ?_)
      · omega
      · refine mp_aload_n X 16 d_P_gatherText_15 rfl rfl rfl ?_
        refine mp_getf (v := .ref (G.1 + (P + 6))) X 19 lk_P_36_P d_P_gatherText_16 rfl (hKg.sz (by omega)) hKg.ob hKg.r_gone ?_
        refine mp_aload_n X 20 d_P_gatherText_19 rfl rfl rfl ?_
        refine mp_getf (v := .ref (G.1 + (P + 2))) X 23 lk_P_19_P d_P_gatherText_20 rfl (hKg.sz (by omega)) hKg.ob hKg.r_row ?_
        refine mp_iload_n X 24 d_P_gatherText_23 rfl rfl rfl ?_
        refine mp_aald (t := 6) (v := .ref (G.1 + (ad x))) X 25 (i) d_P_gatherText_24 rfl (hKg.sz (by omega)) hKg.k_row (by decide) (by decide) rfl (by omega) (by decide) hrx ?_
        refine mp_getf (v := .int (nI x)) X 28 lk_P_73_W d_P_gatherText_25 rfl w1 w2 w3 ?_
        refine mp_zald (v := .int (nI bn)) X 29 (x) d_P_gatherText_28 rfl (hKg.sz (by omega)) hKg.k_gone rfl (by omega) (by decide) hgx ?_
        refine mp_Zne X 57 32 d_P_gatherText_29 (by decide) rfl (by omega) (fun q2 => ?_) (fun q2 => ?_)
        · refine mp_iinc X 60 (L' := [.val (.ref (G.1 + P)), .val (.int (nI (i + 1)))]) (v := nI (i + 1)) d_P_gatherText_57 rfl rfl (nI_1 _) rfl ?_
          refine mp_goto X 7 d_P_gatherText_60 (by decide) ?_
          have hgn1 : gn x = true := by rcases hb with ⟨h1, h2⟩ | ⟨h1, h2⟩ <;> first | exact h2 | omega
          have ef : [x].filter (fun k => !gn k) = [] := by simp [hgn1]
          rw [ef, List.append_nil] at hg
          exact hg g hfg htg
        · refine mp_aload_n X 33 d_P_gatherText_32 rfl rfl rfl ?_
          refine mp_getf (v := .ref (G.1 + (P + 3))) X 36 lk_P_23_P d_P_gatherText_33 rfl (hKg.sz (by omega)) hKg.ob hKg.r_text ?_
          refine mp_aload_n X 37 d_P_gatherText_36 rfl rfl rfl ?_
          refine mp_getf (v := .int (nI (((r.take i).filter fun k => !gn k).length))) X 40 lk_P_88_P d_P_gatherText_37 rfl (hKg.sz (by omega)) hKg.ob hts ?_
          refine mp_aload_n X 41 d_P_gatherText_40 rfl rfl rfl ?_
          refine mp_getf (v := .ref (G.1 + (P + 2))) X 44 lk_P_19_P d_P_gatherText_41 rfl (hKg.sz (by omega)) hKg.ob hKg.r_row ?_
          refine mp_iload_n X 45 d_P_gatherText_44 rfl rfl rfl ?_
          refine mp_aald (t := 6) (v := .ref (G.1 + (ad x))) X 46 (i) d_P_gatherText_45 rfl (hKg.sz (by omega)) hKg.k_row (by decide) (by decide) rfl (by omega) (by decide) hrx ?_
          refine mp_aast X 47 (((r.take i).filter fun k => !gn k).length) la_6 d_P_gatherText_46 rfl (hKg.sz (by omega)) hKg.k_text w1 w2 rfl (by omega) (by decide) ?_
          have hKg2 : cp_K G (mp_set g (P + 3) ((r.take i).filter fun k => !gn k).length (.ref (G.1 + ad x))) P := hKg.st (by unfold cp_A; omega)
          have hts2 : (mp_set g (P + 3) ((r.take i).filter fun k => !gn k).length (.ref (G.1 + ad x))).2.1 P 6 = .int (nI ((r.take i).filter fun k => !gn k).length) := by rw [mp_set_ne _ _ (by omega)]; exact hts
          refine mp_aload_n X 48 d_P_gatherText_47 rfl rfl rfl ?_
          refine mp_dup X 49 d_P_gatherText_48 rfl rfl ?_
          refine mp_getf (v := .int (nI (((r.take i).filter fun k => !gn k).length))) X 52 lk_P_88_P d_P_gatherText_49 rfl (hKg2.sz (by omega)) hKg2.ob hts2 ?_
          refine mp_iconst X 53 (v := nI 1) d_P_gatherText_52 rfl (by decide) ?_
          refine mp_iadd X 54 d_P_gatherText_53 rfl ?_
          rw [nI_add]
          refine mp_putf X 57 ls_P_88_P d_P_gatherText_54 rfl (Or.inl rfl) (hKg2.sz (by omega)) hKg2.ob rfl rfl ?_
          refine mp_iinc X 60 (L' := [.val (.ref (G.1 + P)), .val (.int (nI (i + 1)))]) (v := nI (i + 1)) d_P_gatherText_57 rfl rfl (nI_1 _) rfl ?_
          refine mp_goto X 7 d_P_gatherText_60 (by decide) ?_
          have hgn1 : gn x = false := by rcases hb with ⟨h1, h2⟩ | ⟨h1, h2⟩ <;> first | exact h2 | omega
          have ef : [x].filter (fun k => !gn k) = [x] := by simp [hgn1]
          rw [ef] at hg
          exact hg _ ((hfg.set (by unfold cp_D; omega)).set (by unfold cp_D; omega)) (cp_txt_add htg)
  refine mp_aload_n X 1 d_P_gatherText_0 rfl rfl rfl ?_
  refine mp_iconst X 2 (v := nI 0) d_P_gatherText_1 rfl (by decide) ?_
  refine mp_putf X 5 ls_P_88_P d_P_gatherText_2 rfl (Or.inl rfl) (hK.sz (by omega)) hK.ob rfl rfl ?_
  refine mp_iconst X 6 (v := nI 0) d_P_gatherText_5 rfl (by decide) ?_
  refine mp_istore_n X 7 (L' := [.val (.ref (G.1 + P)), .val (.int (nI 0))]) d_P_gatherText_6 rfl rfl rfl rfl rfl ?_
  exact hloop r.length 0 _ (by omega) (mp_fr.rf.set (by unfold cp_D; omega)) ⟨mp_set_at _ _ _ _, fun i k hk => (by cases hk)⟩
set_option maxRecDepth 100000 in
set_option maxHeartbeats 4000000 in
theorem k_E_reach (l : Launch) {G : mp_G} {h : mp_H} {M P x f : Nat} {O : pq_O} {ad : Nat → Nat} (hK : cp_K G h P) (hO : cp_O G h M O ad) (hM : M ≤ 90) (hx : x < M) (hso : pq_so O x = 1) (hf : pq_fi O x = some f) (hfM : f < M) (hfs : pq_so O f = 0) :
    mp_M G mp_Ts l y_E_reach 0 0 0 [.ref (G.1 + ad x), .ref (G.1 + P)] h (fun v h' => v = none ∧ h' = mp_set h (P + 6) f (.int (nI 1))) (fun _ _ => False) := by
  obtain ⟨⟨-, x2⟩, -, -, -, -, x6, -⟩ := hO x hx
  obtain ⟨x7, x8⟩ := x6 hso
  rw [hf] at x8
  change h.2.1 (ad x) 3 = .ref (G.1 + ad f) at x8
  obtain ⟨f1, f2, f3, -⟩ := hO.wr hfM hfs
  refine mp_enter (by decide) Y_E_reach fun E hl X => ?_
  refine mp_eq rfl (L2 := [.val (.ref (G.1 + ad x)), .val (.ref (G.1 + P))]) rfl rfl ?_
  refine mp_aload_n X 1 d_E_reach_0 rfl rfl rfl ?_
  refine mp_getf (v := .ref (G.1 + (P + 6))) X 4 lk_E_13_P d_E_reach_1 rfl (hK.sz (by omega)) hK.ob hK.r_gone ?_
  refine mp_aload_n X 5 d_E_reach_4 rfl rfl rfl ?_
  refine mp_getf (v := .ref (G.1 + (ad f))) X 8 lk_E_7_E d_E_reach_5 rfl x2 x7 x8 ?_
  refine mp_getf (v := .int (nI f)) X 11 lk_E_19_W d_E_reach_8 rfl f1 f2 f3 ?_
  refine mp_iconst X 12 (v := nI 1) d_E_reach_11 rfl (by decide) ?_
  refine mp_zast X 13 (f) d_E_reach_12 rfl (hK.sz (by omega)) hK.k_gone rfl (by omega) (by decide) rfl ?_
  exact mp_vret X d_E_reach_13 rfl (by decide) (by decide) ⟨rfl, rfl⟩
set_option maxRecDepth 100000 in
set_option maxHeartbeats 4000000 in
theorem k_W_reach (l : Launch) {G : mp_G} {h : mp_H} {P a : Nat} {Pr : Option Value → mp_H → Prop} (hK : cp_K G h P) (hc : mp_M G mp_Ts l y_P_putIntoRow 1 0 0 [.ref (G.1 + P), .ref (G.1 + a)] h (fun v h' => v = none ∧ Pr v h') (fun _ _ => False)) :
    mp_M G mp_Ts l y_W_reach 2 0 0 [.ref (G.1 + a), .ref (G.1 + P)] h (fun v h' => v = none ∧ Pr v h') (fun _ _ => False) := by
  refine mp_enter (by decide) Y_W_reach fun E hl X => ?_
  subst hl
  refine mp_eq rfl (L2 := [.val (.ref (G.1 + a)), .val (.ref (G.1 + P))]) rfl rfl ?_
  refine mp_aload_n X 1 d_W_reach_0 rfl rfl rfl ?_
  refine mp_aload_n X 2 d_W_reach_1 rfl rfl rfl ?_
  refine mp_call X mp_Ts_ok 5 (rest := []) hc Y_P_putIntoRow in_P (mp_IV X (q := (nR_P, nT_P, 12)) d_W_reach_2 Y_P_putIntoRow ml_W_17 im_P_putIntoRow se_P_putIntoRow (by decide) rfl (by decide) (by show _ = some 1; decide) (hK.sz (by omega)) hK.ob) rfl (by decide) (by decide) (by decide) (by decide) rfl (by decide) (fun v g2 hp => ?_) (fun x9 g2 q9 hp => hp.elim)
  obtain ⟨rfl, hp2⟩ := hp
  refine mp_eq rfl rfl (st2 := []) rfl ?_
  exact mp_vret X d_W_reach_5 rfl (by decide) (by decide) ⟨rfl, hp2⟩
set_option maxRecDepth 100000 in
set_option maxHeartbeats 4000000 in
theorem k_K_reach (l : Launch) {G : mp_G} {h : mp_H} {P a : Nat} {Pr : Option Value → mp_H → Prop} (hK : cp_K G h P) (hc : mp_M G mp_Ts l y_P_addMarking 0 0 0 [.ref (G.1 + P), .ref (G.1 + a)] h (fun v h' => v = none ∧ Pr v h') (fun _ _ => False)) :
    mp_M G mp_Ts l y_K_reach 1 0 0 [.ref (G.1 + a), .ref (G.1 + P)] h (fun v h' => v = none ∧ Pr v h') (fun _ _ => False) := by
  refine mp_enter (by decide) Y_K_reach fun E hl X => ?_
  subst hl
  refine mp_eq rfl (L2 := [.val (.ref (G.1 + a)), .val (.ref (G.1 + P))]) rfl rfl ?_
  refine mp_aload_n X 1 d_K_reach_0 rfl rfl rfl ?_
  refine mp_aload_n X 2 d_K_reach_1 rfl rfl rfl ?_
  refine mp_call X mp_Ts_ok 5 (rest := []) hc Y_P_addMarking in_P (mp_IV X (q := (nR_P, nT_P, 12)) d_K_reach_2 Y_P_addMarking ml_K_31 im_P_addMarking se_P_addMarking (by decide) rfl (by decide) (by show _ = some 1; decide) (hK.sz (by omega)) hK.ob) rfl (by decide) (by decide) (by decide) (by decide) rfl (by decide) (fun v g2 hp => ?_) (fun x9 g2 q9 hp => hp.elim)
  obtain ⟨rfl, hp2⟩ := hp
  refine mp_eq rfl rfl (st2 := []) rfl ?_
  exact mp_vret X d_K_reach_5 rfl (by decide) (by decide) ⟨rfl, hp2⟩
