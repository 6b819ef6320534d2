/-! The constructor of the class; the wrappers of the law (rows laid by program). -/
section MPCS
variable {G : mp_G} {E : mp_E} {h : mp_H} {Q : State → Prop} {pc : Nat} {L : List Slot} {st : List Value}
theorem mp_eq_cs {cs sl cs2 sl2 : Nat} (e1 : cs = cs2) (e2 : sl = sl2) (k : mp_W G E h cs2 sl2 Q pc L st) : mp_W G E h cs sl Q pc L st := by
  subst e1; subst e2; exact k
end MPCS
def ci_st (G : mp_G) (g : mp_H) (i : Nat) : Prop := g.2.2 = 2 + 8 * i ∧ g.1 0 = (0, 2) ∧ g.1 1 = (14, 3) ∧ g.2.1 0 0 = .ref (G.1 + 1) ∧ ∀ j, j < i → g.2.1 1 j = .ref (G.1 + (2 + 8 * j)) ∧ ∀ g' : mp_H, 2 + 8 * j + 8 ≤ g'.2.2 → (∀ o, 2 + 8 * j ≤ o → o < 2 + 8 * j + 8 → g'.1 o = g.1 o ∧ g'.2.1 o = g.2.1 o) → cp_K G g' (2 + 8 * j) ∧ ∀ O ad kn, cp_P G g' O ad (2 + 8 * j) kn 0
set_option maxRecDepth 100000 in
set_option maxHeartbeats 4000000 in
theorem k_M_init (l : Launch) {G : mp_G} {h : mp_H} (hz : h.2.2 = 1) (hk : h.1 0 = (0, 2)) :
    mp_M G mp_Ts l y_M_init 3 25 1929 [.ref (G.1 + 0)] h (fun v g => v = none ∧ g.2.2 = 26 ∧ ∀ (g' : mp_H) (ad : Nat → Nat), 41 ≤ g'.2.2 → (∀ o, o < 26 → g'.1 o = g.1 o ∧ g'.2.1 o = g.2.1 o) → cm_S G g' sp_0 ad) (fun _ _ => False) := by
  refine mp_enter (by decide) Y_M_init fun E hl X => ?_
  refine mp_eq rfl (L2 := [.val (.ref (G.1 + 0)), .unset]) rfl rfl ?_
  have hloop : ∀ (n i : Nat) (g : mp_H), i + n = 3 → ci_st G g i → mp_W G E g (1 + 8 * i) (3 + 642 * i) (mp_Q G E 25 1929 (fun v g => v = none ∧ g.2.2 = 26 ∧ ∀ (g' : mp_H) (ad : Nat → Nat), 41 ≤ g'.2.2 → (∀ o, o < 26 → g'.1 o = g.1 o ∧ g'.2.1 o = g.2.1 o) → cm_S G g' sp_0 ad) (fun _ _ => False)) 14 [.val (.ref (G.1 + 0)), .val (.int (nI i))] [] := by
    intro n
    induction n with
    | zero =>
      intro i g hin hst
      have hi : i = 3 := by omega
      subst hi
      obtain ⟨s1, s2, s3, s4, s5⟩ := hst
      refine mp_iload_n X 15 d_M_init_14 rfl rfl rfl ?_
      refine mp_iconst X 16 (v := nI 3) d_M_init_15 rfl (by decide) ?_
      refine mp_Nge X 38 19 d_M_init_16 (by decide) rfl (by omega) (by omega) (fun q1 => ?_) (fun q1 => ?_)
      · refine mp_aload_n X 39 d_M_init_38 rfl rfl rfl ?_
        refine mp_iconst X 40 (v := nI 0) d_M_init_39 rfl (by decide) ?_
        refine mp_putf X 43 ls_M_16_M d_M_init_40 rfl (Or.inl rfl) (by omega) s2 rfl rfl ?_
        refine mp_vret X d_M_init_43 rfl (by omega) (by omega) ⟨rfl, s1, fun g' ad hg' he => ?_⟩
        have q : ∀ o, o < 26 → 0 < o → g'.2.1 o = g.2.1 o := fun o ho h0 => by rw [(he o ho).2]; funext i; exact mp_set_ne _ _ (by omega)
        refine ⟨⟨hg', by rw [(he 0 (by decide)).1]; exact s2, by rw [(he 1 (by decide)).1]; exact s3, by rw [(he 0 (by decide)).2, mp_set_ne _ _ (by omega)]; exact s4, fun j hj => by rw [q 1 (by decide) (by decide)]; exact (s5 j hj).1⟩, by rw [(he 0 (by decide)).2, mp_set_at]; rfl, fun k hk9 => absurd hk9 (Nat.not_lt_zero k), fun j hj => ?_⟩
        obtain ⟨a, b⟩ := (s5 j hj).2 g' (by omega) (fun o h1 h2 => ⟨(he o (by omega)).1, q o (by omega) (by omega)⟩)
        exact ⟨a, b _ _ _⟩
      · omega
    | succ n ih =>
      intro i g hin hst
      obtain ⟨s1, s2, s3, s4, s5⟩ := hst
      refine mp_iload_n X 15 d_M_init_14 rfl rfl rfl ?_
      refine mp_iconst X 16 (v := nI 3) d_M_init_15 rfl (by decide) ?_
      refine mp_Nge X 38 19 d_M_init_16 (by decide) rfl (by omega) (by omega) (fun q1 => ?_) (fun q1 => ?_)
      · omega
      · refine mp_aload_n X 20 d_M_init_19 rfl rfl rfl ?_
        refine mp_getf (v := .ref (G.1 + 1)) X 23 lk_M_11_M d_M_init_20 rfl (by omega) s2 s4 ?_
        refine mp_iload_n X 24 d_M_init_23 rfl rfl rfl ?_
        refine mp_newo X 27 ln_M_9 d_M_init_24 rfl (by omega) (by omega) ?_
        obtain ⟨g1, eg1⟩ : ∃ z, z = mp_new g 1 12 (fun k => defaultValue (nF_P k)) := ⟨_, rfl⟩
        rw [← eg1]
        have z1 : g1.2.2 = 2 + 8 * i + 1 := by rw [eg1]; show g.2.2 + 1 = _; omega
        have k1 : ∀ a, g1.1 a = if a = 2 + 8 * i then (1, 12) else g.1 a := by intro a; rw [eg1, ← s1]; rfl
        have r1 : ∀ a b, g1.2.1 a b = if a = 2 + 8 * i then defaultValue (nF_P b) else g.2.1 a b := by intro a b; rw [eg1, ← s1]; rfl
        rw [s1]
        refine mp_dup X 28 d_M_init_27 rfl rfl ?_
        refine mp_call X mp_Ts_ok 31 (rest := [.ref (G.1 + (2 + 8 * i)), .int (nI i), .ref (G.1 + 1)]) (k_P_init (P := 2 + 8 * i) _ z1 (by rw [k1, if_pos rfl]) (by rw [r1, if_pos rfl]; rfl) (by rw [r1, if_pos rfl]; rfl) (by rw [r1, if_pos rfl]; rfl) (by rw [r1, if_pos rfl]; rfl) (by rw [r1, if_pos rfl]; rfl)) Y_P_init in_P (mp_II X d_M_init_28 rfl wd_44 ml_M_15 im_P_init (by decide) (by show _ = some 0; decide)) rfl (by decide) (by decide) (by omega) (by omega) rfl (Nat.le_of_ble_eq_true rfl) (fun v g2 hp9 => ?_) (fun x9 h9 q9 hp9 => hp9.elim)
        obtain ⟨rfl, z2, o2, c2⟩ := hp9
        refine mp_eq rfl rfl (st2 := [.ref (G.1 + (2 + 8 * i)), .int (nI i), .ref (G.1 + 1)]) rfl ?_
        have t2 : g2.1 0 = (0, 2) := by rw [(o2 0 (by omega)).1, k1, if_neg (by omega)]; exact s2
        have t3 : g2.1 1 = (14, 3) := by rw [(o2 1 (by omega)).1, k1, if_neg (by omega)]; exact s3
        obtain ⟨cK, -⟩ := c2 g2 (by omega) (fun o _ _ => ⟨rfl, rfl⟩)
        refine mp_aast X 32 (i) la_4 d_M_init_31 rfl (by omega) t3 (by omega) cK.ob rfl (by omega) (by decide) ?_
        obtain ⟨g3, eg3⟩ : ∃ z, z = mp_set g2 1 i (.ref (G.1 + (2 + 8 * i))) := ⟨_, rfl⟩
        rw [← eg3]
        have r3 : ∀ a b, g3.2.1 a b = if a = 1 ∧ b = i then .ref (G.1 + (2 + 8 * i)) else g2.2.1 a b := by intro a b; rw [eg3]; rfl
        have k3 : g3.1 = g2.1 := by rw [eg3]; rfl
        have z3 : g3.2.2 = g2.2.2 := by rw [eg3]; rfl
        refine mp_iinc X 35 (L' := [.val (.ref (G.1 + 0)), .val (.int (nI (i + 1)))]) (v := nI (i + 1)) d_M_init_32 rfl rfl (nI_1 _) rfl ?_
        refine mp_goto X 14 d_M_init_35 (by decide) ?_
        refine mp_eq_cs (cs2 := 1 + 8 * (i + 1)) (sl2 := 3 + 642 * (i + 1)) (by omega) (by omega) (ih (i + 1) g3 (by omega) ⟨by omega, by rw [k3]; exact t2, by rw [k3]; exact t3, ?_, fun j hj => ?_⟩)
        · rw [r3, if_neg (by omega), (o2 0 (by omega)).2, r1, if_neg (by omega)]; exact s4
        · by_cases e9 : j = i
          · subst e9
            refine ⟨by rw [r3, if_pos ⟨rfl, rfl⟩], fun g' hs he => c2 g' hs (fun o h1 h2 => ⟨(he o h1 h2).1.trans (by rw [k3]), (he o h1 h2).2.trans ?_⟩)⟩
            funext b; rw [r3, if_neg (by omega)]
          · refine ⟨by rw [r3, if_neg (by omega), (o2 1 (by omega)).2, r1, if_neg (by omega)]; exact (s5 j (by omega)).1, fun g' hs he => (s5 j (by omega)).2 g' hs (fun o h1 h2 => ⟨(he o h1 h2).1.trans (by rw [k3, (o2 o (by omega)).1, k1, if_neg (by omega)]), (he o h1 h2).2.trans ?_⟩)⟩
            funext b; rw [r3, if_neg (by omega), (o2 o (by omega)).2, r1, if_neg (by omega)]
  refine mp_aload_n X 1 d_M_init_0 rfl rfl rfl ?_
  refine mp_objInit X 4 ml_M_1 wd_37 wd_oi d_M_init_1 rfl rfl (by decide) (by decide) ?_
  refine mp_aload_n X 5 d_M_init_4 rfl rfl rfl ?_
  refine mp_iconst X 6 (v := nI 3) d_M_init_5 rfl (by decide) ?_
  refine mp_newr X 9 (t := 4) (n := 3) (by decide) rfl cl_M_9 wd_40 d_M_init_6 rfl rfl (by decide) (by decide) (by decide) ?_
  have kn1 : (mp_new h (10 + 4) 3 (fun _ => .null)).1 0 = (0, 2) := by show (if 0 = h.2.2 then _ else _) = _; rw [if_neg (by omega)]; exact hk
  refine mp_putf X 12 ls_M_11_M d_M_init_9 rfl (Or.inr rfl) (by show 0 < h.2.2 + 1; omega) kn1 rfl rfl ?_
  refine mp_iconst X 13 (v := nI 0) d_M_init_12 rfl (by decide) ?_
  refine mp_istore_n X 14 (L' := [.val (.ref (G.1 + 0)), .val (.int (nI 0))]) d_M_init_13 rfl rfl rfl rfl rfl ?_
  refine mp_eq_cs (cs2 := 1 + 8 * 0) (sl2 := 3 + 642 * 0) (by omega) (by omega) (hloop 3 0 _ rfl ⟨by show h.2.2 + 1 = _; omega, ?_, ?_, ?_, fun j hj => absurd hj (Nat.not_lt_zero j)⟩)
  · exact kn1
  · show (if 1 = h.2.2 then _ else _) = _; rw [if_pos (by omega)]
  · rw [mp_set_at, hz]
def cl_A (o _i : Nat) : Prop := o < 26 ∨ o = 40
/-- what a wrapper comes to -/
def cl_Z (G : mp_G) (h : mp_H) (r : sp_R) (v : Option Value) (h' : mp_H) : Prop := v = some (.int (nI r.1)) ∧ (∃ ad, cm_S G h' r.2.2 ad) ∧ mp_gr cl_A h h' ∧ (r.1 = 0 → h'.2.1 40 0 = .long r.2.1.toInt64)
theorem cm_clA {o i : Nat} (h : cm_A o i) : cl_A o i := Or.inl h
theorem sp_le_get {g : Nat → Nat → Int32} {S : pq_S} {x p : Int32} : (sp_get g S x p).1 ≤ 2 := by
  unfold sp_get
  cases sp_ix 3 x with
  | none => exact (show 1 ≤ 2 by decide)
  | some j =>
    simp only []
    cases sp_ix (rm_T S j).length p with
    | none => exact Nat.le_refl _
    | some q => exact Nat.zero_le _
theorem sp_le_length {S : pq_S} {x : Int32} : (sp_length S x).1 ≤ 1 := by unfold sp_length; cases sp_ix 3 x <;> simp
theorem sp_le_runs {S : pq_S} {x : Int32} : (sp_runs S x).1 ≤ 1 := by unfold sp_runs; cases sp_ix 3 x <;> simp
theorem sp_le_count {S : pq_S} {x w : Int32} : (sp_count S x w).1 ≤ 1 := by unfold sp_count; cases sp_ix 3 x <;> cases sp_ix 4 w <;> simp
theorem sp_le_alike {S : pq_S} {x w : Int32} : (sp_alike S x w).1 ≤ 1 := by unfold sp_alike; cases sp_ix 3 x <;> cases sp_ix 3 w <;> simp
theorem sp_le_tell {S : pq_S} {x w n : Int32} : (sp_tell S x w n).1 ≤ 1 := by
  unfold sp_tell
  cases sp_ix 3 x <;> cases sp_ix 3 w <;> simp only [] <;> try exact Nat.le_refl _
  split
  · exact Nat.le_refl _
  · exact Nat.zero_le _
theorem sp_le_run {S : pq_S} {x k w : Int32} : (sp_run S x k w).1 ≤ 2 := by
  unfold sp_run
  cases sp_ix 3 x <;> cases sp_ix 3 w <;> simp only [] <;> try decide
  split
  · exact Nat.le_refl _
  · exact Nat.zero_le _
theorem sp_alike_b {S : pq_S} {x w : Int32} (h : (sp_alike S x w).1 = 0) : ∃ b, (sp_alike S x w).2.1 = rm_b b := by
  unfold sp_alike at h ⊢
  cases hx : sp_ix 3 x <;> cases hw : sp_ix 3 w <;> rw [hx, hw] at h <;> simp only [] at h ⊢
  · cases h
  · cases h
  · cases h
  · exact ⟨_, rfl⟩
set_option maxRecDepth 100000 in
set_option maxHeartbeats 4000000 in
theorem k_L_write {l : Launch} (hl0 : l.stackTraces = false) {G : mp_G} {h : mp_H} {S : pq_S} {ad : Nat → Nat} {x p c : Int32} (hS1 : cm_S G h S ad) (hg : sp_g S) (ho : h.1 40 = (13, 1)) (hc : narrow .char (.int c) = .int c) :
    mp_M G mp_Ts l y_L_write 9 1 8 [.ref (G.1 + 0), .int x, .int p, .int c, .ref (G.1 + 40)] h (cl_Z G h (sp_write S x p c)) (fun _ _ => False) := by
  have h41 : 41 ≤ h.2.2 := hS1.1.1
  have hcall := k_M_write hl0 (x := x) (p := p) (c := c) hS1 hg hc
  generalize sp_write S x p c = r at hcall ⊢
  refine mp_enter (by decide) Y_L_write fun E hl X => ?_
  subst hl
  refine mp_eq rfl (L2 := [.val (.ref (G.1 + 0)), .val (.int x), .val (.int p), .val (.int c), .val (.ref (G.1 + 40)), .unset]) rfl rfl ?_
  refine mp_aload X 2 d_L_write_0 rfl rfl ?_
  refine mp_iconst X 3 (v := nI 0) d_L_write_2 rfl (by decide) ?_
  refine mp_aload_n X 4 d_L_write_3 rfl rfl rfl ?_
  refine mp_iload_n X 5 d_L_write_4 rfl rfl rfl ?_
  refine mp_iload_n X 6 d_L_write_5 rfl rfl rfl ?_
  refine mp_iload_n X 7 d_L_write_6 rfl rfl rfl ?_
  refine mp_call X mp_Ts_ok 10 (rest := [.int (nI 0), .ref (G.1 + 40)]) hcall Y_M_write in_M (mp_IV X (q := (nR_M, nT_M, 2)) d_L_write_7 Y_M_write ml_L_7 im_M_write se_M_write (by decide) rfl (by decide) (by show _ = some 3; decide) (by omega) hS1.1.2.1) rfl (by decide) (by decide) (by decide) (by decide) rfl (Nat.le_of_ble_eq_true rfl) (fun v g hp9 => ?_) (fun x9 g q9 hp9 hq9 hk9 hx9 => ?_)
  · obtain ⟨hr0, rfl, hSg, hgg⟩ := hp9
    have hkg : g.1 40 = (13, 1) := by rw [hgg.2.1 40 (by omega)]; exact ho
    have hzg : 40 < g.2.2 := Nat.lt_of_lt_of_le (by omega) hgg.1
    refine mp_eq rfl rfl (st2 := .int r.2.1 :: [.int (nI 0), .ref (G.1 + 40)]) rfl ?_
    refine mp_i2l X 11 d_L_write_10 rfl rfl ?_
    refine mp_last X 12 (0) d_L_write_11 rfl hzg hkg rfl (by omega) (by decide) ?_
    refine mp_goto X 27 d_L_write_12 (by decide) ?_
    refine mp_iconst X 28 (v := nI 0) d_L_write_27 rfl (by decide) ?_
    refine mp_iret X d_L_write_28 rfl rfl (by decide) (by decide) ⟨by rw [hr0], ?_, (hgg.mono fun _ _ => cm_clA).set (Or.inr (Or.inr rfl)), fun _ => mp_set_at _ _ _ _⟩
    obtain ⟨ad2, hS2⟩ := hSg
    exact ⟨ad2, hS2.gr (A := fun o _ => o = 40) (by intro o i hh; omega) (mp_gr.rf.set (Or.inr rfl))⟩
  · obtain ⟨hr0, hSg, hgg⟩ := hp9
    obtain rfl | rfl | rfl : x9 = 0 ∨ x9 = 1 ∨ x9 = 2 := by omega
    · refine mp_catch X hq9 hk9 hx9 [] [(0, 12, 19, 15), (0, 12, 23, 17)] 0 12 15 13 rfl (by decide) (by decide) cl_L_13 wd_126 (fun r9 hr9 => by cases hr9) ?_
      refine mp_astore X 17 (L' := [.val (.ref (G.1 + 0)), .val (.int (x)), .val (.int (p)), .val (.int (c)), .val (.ref (G.1 + 40)), .val (.ref (G.1 + q9))]) d_L_write_15 rfl rfl rfl rfl ?_
      refine mp_iconst X 18 (v := nI 1) d_L_write_17 rfl (by decide) ?_
      exact mp_iret X d_L_write_18 rfl rfl (by decide) (by decide) ⟨by rw [hr0], hSg, hgg.mono fun _ _ => cm_clA, fun z => by rw [hr0] at z; cases z⟩
    · refine mp_catch X hq9 hk9 hx9 [(0, 12, 15, 13)] [(0, 12, 23, 17)] 0 12 19 15 rfl (by decide) (by decide) cl_L_15 wd_192 (by intro r9 hr9; simp only [List.mem_cons, List.not_mem_nil, or_false] at hr9; subst hr9; exact ⟨by decide, by decide, 0, by decide, by decide, cl_L_13⟩) ?_
      refine mp_astore X 21 (L' := [.val (.ref (G.1 + 0)), .val (.int (x)), .val (.int (p)), .val (.int (c)), .val (.ref (G.1 + 40)), .val (.ref (G.1 + q9))]) d_L_write_19 rfl rfl rfl rfl ?_
      refine mp_iconst X 22 (v := nI 2) d_L_write_21 rfl (by decide) ?_
      exact mp_iret X d_L_write_22 rfl rfl (by decide) (by decide) ⟨by rw [hr0], hSg, hgg.mono fun _ _ => cm_clA, fun z => by rw [hr0] at z; cases z⟩
    · refine mp_catch X hq9 hk9 hx9 [(0, 12, 15, 13), (0, 12, 19, 15)] [] 0 12 23 17 rfl (by decide) (by decide) cl_L_17 wd_211 (by intro r9 hr9; simp only [List.mem_cons, List.not_mem_nil, or_false] at hr9; rcases hr9 with rfl | rfl; exact ⟨by decide, by decide, 0, by decide, by decide, cl_L_13⟩; exact ⟨by decide, by decide, 1, by decide, by decide, cl_L_15⟩) ?_
      refine mp_astore X 25 (L' := [.val (.ref (G.1 + 0)), .val (.int (x)), .val (.int (p)), .val (.int (c)), .val (.ref (G.1 + 40)), .val (.ref (G.1 + q9))]) d_L_write_23 rfl rfl rfl rfl ?_
      refine mp_iconst X 26 (v := nI 3) d_L_write_25 rfl (by decide) ?_
      exact mp_iret X d_L_write_26 rfl rfl (by decide) (by decide) ⟨by rw [hr0], hSg, hgg.mono fun _ _ => cm_clA, fun z => by rw [hr0] at z; cases z⟩
set_option maxRecDepth 100000 in
set_option maxHeartbeats 4000000 in
theorem k_L_erase {l : Launch} (hl0 : l.stackTraces = false) {G : mp_G} {h : mp_H} {S : pq_S} {ad : Nat → Nat} {x p : Int32} (hS1 : cm_S G h S ad) (hg : sp_g S) (ho : h.1 40 = (13, 1)) :
    mp_M G mp_Ts l y_L_erase 9 1 8 [.ref (G.1 + 0), .int x, .int p, .ref (G.1 + 40)] h (cl_Z G h (sp_erase S x p)) (fun _ _ => False) := by
  have h41 : 41 ≤ h.2.2 := hS1.1.1
  have hcall := k_M_erase hl0 (x := x) (p := p) hS1 hg
  generalize sp_erase S x p = r at hcall ⊢
  refine mp_enter (by decide) Y_L_erase fun E hl X => ?_
  subst hl
  refine mp_eq rfl (L2 := [.val (.ref (G.1 + 0)), .val (.int x), .val (.int p), .val (.ref (G.1 + 40)), .unset]) rfl rfl ?_
  refine mp_aload_n X 1 d_L_erase_0 rfl rfl rfl ?_
  refine mp_iconst X 2 (v := nI 0) d_L_erase_1 rfl (by decide) ?_
  refine mp_aload_n X 3 d_L_erase_2 rfl rfl rfl ?_
  refine mp_iload_n X 4 d_L_erase_3 rfl rfl rfl ?_
  refine mp_iload_n X 5 d_L_erase_4 rfl rfl rfl ?_
  refine mp_call X mp_Ts_ok 8 (rest := [.int (nI 0), .ref (G.1 + 40)]) hcall Y_M_erase in_M (mp_IV X (q := (nR_M, nT_M, 2)) d_L_erase_5 Y_M_erase ml_L_19 im_M_erase se_M_erase (by decide) rfl (by decide) (by show _ = some 2; decide) (by omega) hS1.1.2.1) rfl (by decide) (by decide) (by decide) (by decide) rfl (Nat.le_of_ble_eq_true rfl) (fun v g hp9 => ?_) (fun x9 g q9 hp9 hq9 hk9 hx9 => ?_)
  · obtain ⟨hr0, rfl, hSg, hgg⟩ := hp9
    have hkg : g.1 40 = (13, 1) := by rw [hgg.2.1 40 (by omega)]; exact ho
    have hzg : 40 < g.2.2 := Nat.lt_of_lt_of_le (by omega) hgg.1
    refine mp_eq rfl rfl (st2 := .int r.2.1 :: [.int (nI 0), .ref (G.1 + 40)]) rfl ?_
    refine mp_i2l X 9 d_L_erase_8 rfl rfl ?_
    refine mp_last X 10 (0) d_L_erase_9 rfl hzg hkg rfl (by omega) (by decide) ?_
    refine mp_goto X 25 d_L_erase_10 (by decide) ?_
    refine mp_iconst X 26 (v := nI 0) d_L_erase_25 rfl (by decide) ?_
    refine mp_iret X d_L_erase_26 rfl rfl (by decide) (by decide) ⟨by rw [hr0], ?_, (hgg.mono fun _ _ => cm_clA).set (Or.inr (Or.inr rfl)), fun _ => mp_set_at _ _ _ _⟩
    obtain ⟨ad2, hS2⟩ := hSg
    exact ⟨ad2, hS2.gr (A := fun o _ => o = 40) (by intro o i hh; omega) (mp_gr.rf.set (Or.inr rfl))⟩
  · obtain ⟨hr0, hSg, hgg⟩ := hp9
    obtain rfl | rfl | rfl : x9 = 0 ∨ x9 = 1 ∨ x9 = 2 := by omega
    · refine mp_catch X hq9 hk9 hx9 [] [(0, 10, 17, 15), (0, 10, 21, 17)] 0 10 13 13 rfl (by decide) (by decide) cl_L_13 wd_126 (fun r9 hr9 => by cases hr9) ?_
      refine mp_astore X 15 (L' := [.val (.ref (G.1 + 0)), .val (.int (x)), .val (.int (p)), .val (.ref (G.1 + 40)), .val (.ref (G.1 + q9))]) d_L_erase_13 rfl rfl rfl rfl ?_
      refine mp_iconst X 16 (v := nI 1) d_L_erase_15 rfl (by decide) ?_
      exact mp_iret X d_L_erase_16 rfl rfl (by decide) (by decide) ⟨by rw [hr0], hSg, hgg.mono fun _ _ => cm_clA, fun z => by rw [hr0] at z; cases z⟩
    · refine mp_catch X hq9 hk9 hx9 [(0, 10, 13, 13)] [(0, 10, 21, 17)] 0 10 17 15 rfl (by decide) (by decide) cl_L_15 wd_192 (by intro r9 hr9; simp only [List.mem_cons, List.not_mem_nil, or_false] at hr9; subst hr9; exact ⟨by decide, by decide, 0, by decide, by decide, cl_L_13⟩) ?_
      refine mp_astore X 19 (L' := [.val (.ref (G.1 + 0)), .val (.int (x)), .val (.int (p)), .val (.ref (G.1 + 40)), .val (.ref (G.1 + q9))]) d_L_erase_17 rfl rfl rfl rfl ?_
      refine mp_iconst X 20 (v := nI 2) d_L_erase_19 rfl (by decide) ?_
      exact mp_iret X d_L_erase_20 rfl rfl (by decide) (by decide) ⟨by rw [hr0], hSg, hgg.mono fun _ _ => cm_clA, fun z => by rw [hr0] at z; cases z⟩
    · refine mp_catch X hq9 hk9 hx9 [(0, 10, 13, 13), (0, 10, 17, 15)] [] 0 10 21 17 rfl (by decide) (by decide) cl_L_17 wd_211 (by intro r9 hr9; simp only [List.mem_cons, List.not_mem_nil, or_false] at hr9; rcases hr9 with rfl | rfl; exact ⟨by decide, by decide, 0, by decide, by decide, cl_L_13⟩; exact ⟨by decide, by decide, 1, by decide, by decide, cl_L_15⟩) ?_
      refine mp_astore X 23 (L' := [.val (.ref (G.1 + 0)), .val (.int (x)), .val (.int (p)), .val (.ref (G.1 + 40)), .val (.ref (G.1 + q9))]) d_L_erase_21 rfl rfl rfl rfl ?_
      refine mp_iconst X 24 (v := nI 3) d_L_erase_23 rfl (by decide) ?_
      exact mp_iret X d_L_erase_24 rfl rfl (by decide) (by decide) ⟨by rw [hr0], hSg, hgg.mono fun _ _ => cm_clA, fun z => by rw [hr0] at z; cases z⟩
set_option maxRecDepth 100000 in
set_option maxHeartbeats 4000000 in
theorem k_L_mark {l : Launch} (hl0 : l.stackTraces = false) {G : mp_G} {h : mp_H} {S : pq_S} {ad : Nat → Nat} {x f t w : Int32} (hS1 : cm_S G h S ad) (hg : sp_g S) (ho : h.1 40 = (13, 1)) :
    mp_M G mp_Ts l y_L_mark 9 1 8 [.ref (G.1 + 0), .int x, .int f, .int t, .int w, .ref (G.1 + 40)] h (cl_Z G h (sp_mark S x f t w)) (fun _ _ => False) := by
  have h41 : 41 ≤ h.2.2 := hS1.1.1
  have hcall := k_M_mark hl0 (x := x) (f := f) (t := t) (w := w) hS1 hg
  generalize sp_mark S x f t w = r at hcall ⊢
  refine mp_enter (by decide) Y_L_mark fun E hl X => ?_
  subst hl
  refine mp_eq rfl (L2 := [.val (.ref (G.1 + 0)), .val (.int x), .val (.int f), .val (.int t), .val (.int w), .val (.ref (G.1 + 40)), .unset]) rfl rfl ?_
  refine mp_aload X 2 d_L_mark_0 rfl rfl ?_
  refine mp_iconst X 3 (v := nI 0) d_L_mark_2 rfl (by decide) ?_
  refine mp_aload_n X 4 d_L_mark_3 rfl rfl rfl ?_
  refine mp_iload_n X 5 d_L_mark_4 rfl rfl rfl ?_
  refine mp_iload_n X 6 d_L_mark_5 rfl rfl rfl ?_
  refine mp_iload_n X 7 d_L_mark_6 rfl rfl rfl ?_
  refine mp_iload X 9 d_L_mark_7 rfl rfl ?_
  refine mp_call X mp_Ts_ok 12 (rest := [.int (nI 0), .ref (G.1 + 40)]) hcall Y_M_mark in_M (mp_IV X (q := (nR_M, nT_M, 2)) d_L_mark_9 Y_M_mark ml_L_23 im_M_mark se_M_mark (by decide) rfl (by decide) (by show _ = some 4; decide) (by omega) hS1.1.2.1) rfl (by decide) (by decide) (by decide) (by decide) rfl (Nat.le_of_ble_eq_true rfl) (fun v g hp9 => ?_) (fun x9 g q9 hp9 hq9 hk9 hx9 => ?_)
  · obtain ⟨hr0, rfl, hSg, hgg⟩ := hp9
    have hkg : g.1 40 = (13, 1) := by rw [hgg.2.1 40 (by omega)]; exact ho
    have hzg : 40 < g.2.2 := Nat.lt_of_lt_of_le (by omega) hgg.1
    refine mp_eq rfl rfl (st2 := .int r.2.1 :: [.int (nI 0), .ref (G.1 + 40)]) rfl ?_
    refine mp_i2l X 13 d_L_mark_12 rfl rfl ?_
    refine mp_last X 14 (0) d_L_mark_13 rfl hzg hkg rfl (by omega) (by decide) ?_
    refine mp_goto X 29 d_L_mark_14 (by decide) ?_
    refine mp_iconst X 30 (v := nI 0) d_L_mark_29 rfl (by decide) ?_
    refine mp_iret X d_L_mark_30 rfl rfl (by decide) (by decide) ⟨by rw [hr0], ?_, (hgg.mono fun _ _ => cm_clA).set (Or.inr (Or.inr rfl)), fun _ => mp_set_at _ _ _ _⟩
    obtain ⟨ad2, hS2⟩ := hSg
    exact ⟨ad2, hS2.gr (A := fun o _ => o = 40) (by intro o i hh; omega) (mp_gr.rf.set (Or.inr rfl))⟩
  · obtain ⟨hr0, hSg, hgg⟩ := hp9
    obtain rfl | rfl | rfl : x9 = 0 ∨ x9 = 1 ∨ x9 = 2 := by omega
    · refine mp_catch X hq9 hk9 hx9 [] [(0, 14, 21, 15), (0, 14, 25, 17)] 0 14 17 13 rfl (by decide) (by decide) cl_L_13 wd_126 (fun r9 hr9 => by cases hr9) ?_
      refine mp_astore X 19 (L' := [.val (.ref (G.1 + 0)), .val (.int (x)), .val (.int (f)), .val (.int (t)), .val (.int (w)), .val (.ref (G.1 + 40)), .val (.ref (G.1 + q9))]) d_L_mark_17 rfl rfl rfl rfl ?_
      refine mp_iconst X 20 (v := nI 1) d_L_mark_19 rfl (by decide) ?_
      exact mp_iret X d_L_mark_20 rfl rfl (by decide) (by decide) ⟨by rw [hr0], hSg, hgg.mono fun _ _ => cm_clA, fun z => by rw [hr0] at z; cases z⟩
    · refine mp_catch X hq9 hk9 hx9 [(0, 14, 17, 13)] [(0, 14, 25, 17)] 0 14 21 15 rfl (by decide) (by decide) cl_L_15 wd_192 (by intro r9 hr9; simp only [List.mem_cons, List.not_mem_nil, or_false] at hr9; subst hr9; exact ⟨by decide, by decide, 0, by decide, by decide, cl_L_13⟩) ?_
      refine mp_astore X 23 (L' := [.val (.ref (G.1 + 0)), .val (.int (x)), .val (.int (f)), .val (.int (t)), .val (.int (w)), .val (.ref (G.1 + 40)), .val (.ref (G.1 + q9))]) d_L_mark_21 rfl rfl rfl rfl ?_
      refine mp_iconst X 24 (v := nI 2) d_L_mark_23 rfl (by decide) ?_
      exact mp_iret X d_L_mark_24 rfl rfl (by decide) (by decide) ⟨by rw [hr0], hSg, hgg.mono fun _ _ => cm_clA, fun z => by rw [hr0] at z; cases z⟩
    · refine mp_catch X hq9 hk9 hx9 [(0, 14, 17, 13), (0, 14, 21, 15)] [] 0 14 25 17 rfl (by decide) (by decide) cl_L_17 wd_211 (by intro r9 hr9; simp only [List.mem_cons, List.not_mem_nil, or_false] at hr9; rcases hr9 with rfl | rfl; exact ⟨by decide, by decide, 0, by decide, by decide, cl_L_13⟩; exact ⟨by decide, by decide, 1, by decide, by decide, cl_L_15⟩) ?_
      refine mp_astore X 27 (L' := [.val (.ref (G.1 + 0)), .val (.int (x)), .val (.int (f)), .val (.int (t)), .val (.int (w)), .val (.ref (G.1 + 40)), .val (.ref (G.1 + q9))]) d_L_mark_25 rfl rfl rfl rfl ?_
      refine mp_iconst X 28 (v := nI 3) d_L_mark_27 rfl (by decide) ?_
      exact mp_iret X d_L_mark_28 rfl rfl (by decide) (by decide) ⟨by rw [hr0], hSg, hgg.mono fun _ _ => cm_clA, fun z => by rw [hr0] at z; cases z⟩
set_option maxRecDepth 100000 in
set_option maxHeartbeats 4000000 in
theorem k_L_tell {l : Launch} (hl0 : l.stackTraces = false) {G : mp_G} {h : mp_H} {S : pq_S} {ad : Nat → Nat} {x y n : Int32} (hS1 : cm_S G h S ad) (hg : sp_g S) (ho : h.1 40 = (13, 1)) :
    mp_M G mp_Ts l y_L_tell 9 1 8 [.ref (G.1 + 0), .int x, .int y, .int n, .ref (G.1 + 40)] h (cl_Z G h (sp_tell S x y n)) (fun _ _ => False) := by
  have h41 : 41 ≤ h.2.2 := hS1.1.1
  have hle : (sp_tell S x y n).1 ≤ 1 := sp_le_tell
  have hcall := k_M_tell hl0 (x := x) (y := y) (n := n) hS1 hg
  generalize sp_tell S x y n = r at hcall hle ⊢
  refine mp_enter (by decide) Y_L_tell fun E hl X => ?_
  subst hl
  refine mp_eq rfl (L2 := [.val (.ref (G.1 + 0)), .val (.int x), .val (.int y), .val (.int n), .val (.ref (G.1 + 40)), .unset]) rfl rfl ?_
  refine mp_aload X 2 d_L_tell_0 rfl rfl ?_
  refine mp_iconst X 3 (v := nI 0) d_L_tell_2 rfl (by decide) ?_
  refine mp_aload_n X 4 d_L_tell_3 rfl rfl rfl ?_
  refine mp_iload_n X 5 d_L_tell_4 rfl rfl rfl ?_
  refine mp_iload_n X 6 d_L_tell_5 rfl rfl rfl ?_
  refine mp_iload_n X 7 d_L_tell_6 rfl rfl rfl ?_
  refine mp_call X mp_Ts_ok 10 (rest := [.int (nI 0), .ref (G.1 + 40)]) hcall Y_M_tell in_M (mp_IV X (q := (nR_M, nT_M, 2)) d_L_tell_7 Y_M_tell ml_L_27 im_M_tell se_M_tell (by decide) rfl (by decide) (by show _ = some 3; decide) (by omega) hS1.1.2.1) rfl (by decide) (by decide) (by decide) (by decide) rfl (Nat.le_of_ble_eq_true rfl) (fun v g hp9 => ?_) (fun x9 g q9 hp9 hq9 hk9 hx9 => ?_)
  · obtain ⟨hr0, rfl, hSg, hgg⟩ := hp9
    have hkg : g.1 40 = (13, 1) := by rw [hgg.2.1 40 (by omega)]; exact ho
    have hzg : 40 < g.2.2 := Nat.lt_of_lt_of_le (by omega) hgg.1
    refine mp_eq rfl rfl (st2 := .int r.2.1 :: [.int (nI 0), .ref (G.1 + 40)]) rfl ?_
    refine mp_i2l X 11 d_L_tell_10 rfl rfl ?_
    refine mp_last X 12 (0) d_L_tell_11 rfl hzg hkg rfl (by omega) (by decide) ?_
    refine mp_goto X 19 d_L_tell_12 (by decide) ?_
    refine mp_iconst X 20 (v := nI 0) d_L_tell_19 rfl (by decide) ?_
    refine mp_iret X d_L_tell_20 rfl rfl (by decide) (by decide) ⟨by rw [hr0], ?_, (hgg.mono fun _ _ => cm_clA).set (Or.inr (Or.inr rfl)), fun _ => mp_set_at _ _ _ _⟩
    obtain ⟨ad2, hS2⟩ := hSg
    exact ⟨ad2, hS2.gr (A := fun o _ => o = 40) (by intro o i hh; omega) (mp_gr.rf.set (Or.inr rfl))⟩
  · obtain ⟨hr0, hSg, hgg⟩ := hp9
    obtain rfl : x9 = 0 := by omega
    refine mp_catch X hq9 hk9 hx9 [] [] 0 12 15 13 rfl (by decide) (by decide) cl_L_13 wd_126 (fun r9 hr9 => by cases hr9) ?_
    refine mp_astore X 17 (L' := [.val (.ref (G.1 + 0)), .val (.int (x)), .val (.int (y)), .val (.int (n)), .val (.ref (G.1 + 40)), .val (.ref (G.1 + q9))]) d_L_tell_15 rfl rfl rfl rfl ?_
    refine mp_iconst X 18 (v := nI 1) d_L_tell_17 rfl (by decide) ?_
    exact mp_iret X d_L_tell_18 rfl rfl (by decide) (by decide) ⟨by rw [hr0], hSg, hgg.mono fun _ _ => cm_clA, fun z => by rw [hr0] at z; cases z⟩
set_option maxRecDepth 100000 in
set_option maxHeartbeats 4000000 in
theorem k_L_length {l : Launch} (hl0 : l.stackTraces = false) {G : mp_G} {h : mp_H} {S : pq_S} {ad : Nat → Nat} {x : Int32} (hS1 : cm_S G h S ad) (hg : sp_g S) (ho : h.1 40 = (13, 1)) :
    mp_M G mp_Ts l y_L_length 9 1 8 [.ref (G.1 + 0), .int x, .ref (G.1 + 40)] h (cl_Z G h (sp_length S x)) (fun _ _ => False) := by
  have h41 : 41 ≤ h.2.2 := hS1.1.1
  have hle : (sp_length S x).1 ≤ 1 := sp_le_length
  have hcall := k_M_length hl0 (x := x) hS1 hg
  generalize sp_length S x = r at hcall hle ⊢
  refine mp_enter (by decide) Y_L_length fun E hl X => ?_
  subst hl
  refine mp_eq rfl (L2 := [.val (.ref (G.1 + 0)), .val (.int x), .val (.ref (G.1 + 40)), .unset]) rfl rfl ?_
  refine mp_aload_n X 1 d_L_length_0 rfl rfl rfl ?_
  refine mp_iconst X 2 (v := nI 0) d_L_length_1 rfl (by decide) ?_
  refine mp_aload_n X 3 d_L_length_2 rfl rfl rfl ?_
  refine mp_iload_n X 4 d_L_length_3 rfl rfl rfl ?_
  refine mp_call X mp_Ts_ok 7 (rest := [.int (nI 0), .ref (G.1 + 40)]) hcall Y_M_length in_M (mp_IV X (q := (nR_M, nT_M, 2)) d_L_length_4 Y_M_length ml_L_31 im_M_length se_M_length (by decide) rfl (by decide) (by show _ = some 1; decide) (by omega) hS1.1.2.1) rfl (by decide) (by decide) (by decide) (by decide) rfl (Nat.le_of_ble_eq_true rfl) (fun v g hp9 => ?_) (fun x9 g q9 hp9 hq9 hk9 hx9 => ?_)
  · obtain ⟨hr0, rfl, hSg, hgg⟩ := hp9
    have hkg : g.1 40 = (13, 1) := by rw [hgg.2.1 40 (by omega)]; exact ho
    have hzg : 40 < g.2.2 := Nat.lt_of_lt_of_le (by omega) hgg.1
    refine mp_eq rfl rfl (st2 := .int r.2.1 :: [.int (nI 0), .ref (G.1 + 40)]) rfl ?_
    refine mp_i2l X 8 d_L_length_7 rfl rfl ?_
    refine mp_last X 9 (0) d_L_length_8 rfl hzg hkg rfl (by omega) (by decide) ?_
    refine mp_goto X 15 d_L_length_9 (by decide) ?_
    refine mp_iconst X 16 (v := nI 0) d_L_length_15 rfl (by decide) ?_
    refine mp_iret X d_L_length_16 rfl rfl (by decide) (by decide) ⟨by rw [hr0], ?_, (hgg.mono fun _ _ => cm_clA).set (Or.inr (Or.inr rfl)), fun _ => mp_set_at _ _ _ _⟩
    obtain ⟨ad2, hS2⟩ := hSg
    exact ⟨ad2, hS2.gr (A := fun o _ => o = 40) (by intro o i hh; omega) (mp_gr.rf.set (Or.inr rfl))⟩
  · obtain ⟨hr0, hSg, hgg⟩ := hp9
    obtain rfl : x9 = 0 := by omega
    refine mp_catch X hq9 hk9 hx9 [] [] 0 9 12 13 rfl (by decide) (by decide) cl_L_13 wd_126 (fun r9 hr9 => by cases hr9) ?_
    refine mp_astore_n X 13 (L' := [.val (.ref (G.1 + 0)), .val (.int (x)), .val (.ref (G.1 + 40)), .val (.ref (G.1 + q9))]) d_L_length_12 rfl rfl rfl rfl rfl ?_
    refine mp_iconst X 14 (v := nI 1) d_L_length_13 rfl (by decide) ?_
    exact mp_iret X d_L_length_14 rfl rfl (by decide) (by decide) ⟨by rw [hr0], hSg, hgg.mono fun _ _ => cm_clA, fun z => by rw [hr0] at z; cases z⟩
set_option maxRecDepth 100000 in
set_option maxHeartbeats 4000000 in
theorem k_L_at {l : Launch} (hl0 : l.stackTraces = false) {G : mp_G} {h : mp_H} {S : pq_S} {ad : Nat → Nat} {x p : Int32} (hS1 : cm_S G h S ad) (hg : sp_g S) (ho : h.1 40 = (13, 1)) :
    mp_M G mp_Ts l y_L_at 9 1 8 [.ref (G.1 + 0), .int x, .int p, .ref (G.1 + 40)] h (cl_Z G h (sp_at S x p)) (fun _ _ => False) := by
  have h41 : 41 ≤ h.2.2 := hS1.1.1
  have hle : (sp_at S x p).1 ≤ 2 := sp_le_get
  have hcall := k_M_at hl0 (x := x) (p := p) hS1 hg
  generalize sp_at S x p = r at hcall hle ⊢
  refine mp_enter (by decide) Y_L_at fun E hl X => ?_
  subst hl
  refine mp_eq rfl (L2 := [.val (.ref (G.1 + 0)), .val (.int x), .val (.int p), .val (.ref (G.1 + 40)), .unset]) rfl rfl ?_
  refine mp_aload_n X 1 d_L_at_0 rfl rfl rfl ?_
  refine mp_iconst X 2 (v := nI 0) d_L_at_1 rfl (by decide) ?_
  refine mp_aload_n X 3 d_L_at_2 rfl rfl rfl ?_
  refine mp_iload_n X 4 d_L_at_3 rfl rfl rfl ?_
  refine mp_iload_n X 5 d_L_at_4 rfl rfl rfl ?_
  refine mp_call X mp_Ts_ok 8 (rest := [.int (nI 0), .ref (G.1 + 40)]) hcall Y_M_at in_M (mp_IV X (q := (nR_M, nT_M, 2)) d_L_at_5 Y_M_at ml_L_35 im_M_at se_M_at (by decide) rfl (by decide) (by show _ = some 2; decide) (by omega) hS1.1.2.1) rfl (by decide) (by decide) (by decide) (by decide) rfl (Nat.le_of_ble_eq_true rfl) (fun v g hp9 => ?_) (fun x9 g q9 hp9 hq9 hk9 hx9 => ?_)
  · obtain ⟨hr0, rfl, hSg, hgg⟩ := hp9
    have hkg : g.1 40 = (13, 1) := by rw [hgg.2.1 40 (by omega)]; exact ho
    have hzg : 40 < g.2.2 := Nat.lt_of_lt_of_le (by omega) hgg.1
    refine mp_eq rfl rfl (st2 := .int r.2.1 :: [.int (nI 0), .ref (G.1 + 40)]) rfl ?_
    refine mp_i2l X 9 d_L_at_8 rfl rfl ?_
    refine mp_last X 10 (0) d_L_at_9 rfl hzg hkg rfl (by omega) (by decide) ?_
    refine mp_goto X 21 d_L_at_10 (by decide) ?_
    refine mp_iconst X 22 (v := nI 0) d_L_at_21 rfl (by decide) ?_
    refine mp_iret X d_L_at_22 rfl rfl (by decide) (by decide) ⟨by rw [hr0], ?_, (hgg.mono fun _ _ => cm_clA).set (Or.inr (Or.inr rfl)), fun _ => mp_set_at _ _ _ _⟩
    obtain ⟨ad2, hS2⟩ := hSg
    exact ⟨ad2, hS2.gr (A := fun o _ => o = 40) (by intro o i hh; omega) (mp_gr.rf.set (Or.inr rfl))⟩
  · obtain ⟨hr0, hSg, hgg⟩ := hp9
    obtain rfl | rfl : x9 = 0 ∨ x9 = 1 := by omega
    · refine mp_catch X hq9 hk9 hx9 [] [(0, 10, 17, 15)] 0 10 13 13 rfl (by decide) (by decide) cl_L_13 wd_126 (fun r9 hr9 => by cases hr9) ?_
      refine mp_astore X 15 (L' := [.val (.ref (G.1 + 0)), .val (.int (x)), .val (.int (p)), .val (.ref (G.1 + 40)), .val (.ref (G.1 + q9))]) d_L_at_13 rfl rfl rfl rfl ?_
      refine mp_iconst X 16 (v := nI 1) d_L_at_15 rfl (by decide) ?_
      exact mp_iret X d_L_at_16 rfl rfl (by decide) (by decide) ⟨by rw [hr0], hSg, hgg.mono fun _ _ => cm_clA, fun z => by rw [hr0] at z; cases z⟩
    · refine mp_catch X hq9 hk9 hx9 [(0, 10, 13, 13)] [] 0 10 17 15 rfl (by decide) (by decide) cl_L_15 wd_192 (by intro r9 hr9; simp only [List.mem_cons, List.not_mem_nil, or_false] at hr9; subst hr9; exact ⟨by decide, by decide, 0, by decide, by decide, cl_L_13⟩) ?_
      refine mp_astore X 19 (L' := [.val (.ref (G.1 + 0)), .val (.int (x)), .val (.int (p)), .val (.ref (G.1 + 40)), .val (.ref (G.1 + q9))]) d_L_at_17 rfl rfl rfl rfl ?_
      refine mp_iconst X 20 (v := nI 2) d_L_at_19 rfl (by decide) ?_
      exact mp_iret X d_L_at_20 rfl rfl (by decide) (by decide) ⟨by rw [hr0], hSg, hgg.mono fun _ _ => cm_clA, fun z => by rw [hr0] at z; cases z⟩
set_option maxRecDepth 100000 in
set_option maxHeartbeats 4000000 in
theorem k_L_format {l : Launch} (hl0 : l.stackTraces = false) {G : mp_G} {h : mp_H} {S : pq_S} {ad : Nat → Nat} {x p : Int32} (hS1 : cm_S G h S ad) (hg : sp_g S) (ho : h.1 40 = (13, 1)) :
    mp_M G mp_Ts l y_L_format 9 1 8 [.ref (G.1 + 0), .int x, .int p, .ref (G.1 + 40)] h (cl_Z G h (sp_format S x p)) (fun _ _ => False) := by
  have h41 : 41 ≤ h.2.2 := hS1.1.1
  have hle : (sp_format S x p).1 ≤ 2 := sp_le_get
  have hcall := k_M_format hl0 (x := x) (p := p) hS1 hg
  generalize sp_format S x p = r at hcall hle ⊢
  refine mp_enter (by decide) Y_L_format fun E hl X => ?_
  subst hl
  refine mp_eq rfl (L2 := [.val (.ref (G.1 + 0)), .val (.int x), .val (.int p), .val (.ref (G.1 + 40)), .unset]) rfl rfl ?_
  refine mp_aload_n X 1 d_L_format_0 rfl rfl rfl ?_
  refine mp_iconst X 2 (v := nI 0) d_L_format_1 rfl (by decide) ?_
  refine mp_aload_n X 3 d_L_format_2 rfl rfl rfl ?_
  refine mp_iload_n X 4 d_L_format_3 rfl rfl rfl ?_
  refine mp_iload_n X 5 d_L_format_4 rfl rfl rfl ?_
  refine mp_call X mp_Ts_ok 8 (rest := [.int (nI 0), .ref (G.1 + 40)]) hcall Y_M_format in_M (mp_IV X (q := (nR_M, nT_M, 2)) d_L_format_5 Y_M_format ml_L_38 im_M_format se_M_format (by decide) rfl (by decide) (by show _ = some 2; decide) (by omega) hS1.1.2.1) rfl (by decide) (by decide) (by decide) (by decide) rfl (Nat.le_of_ble_eq_true rfl) (fun v g hp9 => ?_) (fun x9 g q9 hp9 hq9 hk9 hx9 => ?_)
  · obtain ⟨hr0, rfl, hSg, hgg⟩ := hp9
    have hkg : g.1 40 = (13, 1) := by rw [hgg.2.1 40 (by omega)]; exact ho
    have hzg : 40 < g.2.2 := Nat.lt_of_lt_of_le (by omega) hgg.1
    refine mp_eq rfl rfl (st2 := .int r.2.1 :: [.int (nI 0), .ref (G.1 + 40)]) rfl ?_
    refine mp_i2l X 9 d_L_format_8 rfl rfl ?_
    refine mp_last X 10 (0) d_L_format_9 rfl hzg hkg rfl (by omega) (by decide) ?_
    refine mp_goto X 21 d_L_format_10 (by decide) ?_
    refine mp_iconst X 22 (v := nI 0) d_L_format_21 rfl (by decide) ?_
    refine mp_iret X d_L_format_22 rfl rfl (by decide) (by decide) ⟨by rw [hr0], ?_, (hgg.mono fun _ _ => cm_clA).set (Or.inr (Or.inr rfl)), fun _ => mp_set_at _ _ _ _⟩
    obtain ⟨ad2, hS2⟩ := hSg
    exact ⟨ad2, hS2.gr (A := fun o _ => o = 40) (by intro o i hh; omega) (mp_gr.rf.set (Or.inr rfl))⟩
  · obtain ⟨hr0, hSg, hgg⟩ := hp9
    obtain rfl | rfl : x9 = 0 ∨ x9 = 1 := by omega
    · refine mp_catch X hq9 hk9 hx9 [] [(0, 10, 17, 15)] 0 10 13 13 rfl (by decide) (by decide) cl_L_13 wd_126 (fun r9 hr9 => by cases hr9) ?_
      refine mp_astore X 15 (L' := [.val (.ref (G.1 + 0)), .val (.int (x)), .val (.int (p)), .val (.ref (G.1 + 40)), .val (.ref (G.1 + q9))]) d_L_format_13 rfl rfl rfl rfl ?_
      refine mp_iconst X 16 (v := nI 1) d_L_format_15 rfl (by decide) ?_
      exact mp_iret X d_L_format_16 rfl rfl (by decide) (by decide) ⟨by rw [hr0], hSg, hgg.mono fun _ _ => cm_clA, fun z => by rw [hr0] at z; cases z⟩
    · refine mp_catch X hq9 hk9 hx9 [(0, 10, 13, 13)] [] 0 10 17 15 rfl (by decide) (by decide) cl_L_15 wd_192 (by intro r9 hr9; simp only [List.mem_cons, List.not_mem_nil, or_false] at hr9; subst hr9; exact ⟨by decide, by decide, 0, by decide, by decide, cl_L_13⟩) ?_
      refine mp_astore X 19 (L' := [.val (.ref (G.1 + 0)), .val (.int (x)), .val (.int (p)), .val (.ref (G.1 + 40)), .val (.ref (G.1 + q9))]) d_L_format_17 rfl rfl rfl rfl ?_
      refine mp_iconst X 20 (v := nI 2) d_L_format_19 rfl (by decide) ?_
      exact mp_iret X d_L_format_20 rfl rfl (by decide) (by decide) ⟨by rw [hr0], hSg, hgg.mono fun _ _ => cm_clA, fun z => by rw [hr0] at z; cases z⟩
set_option maxRecDepth 100000 in
set_option maxHeartbeats 4000000 in
theorem k_L_id {l : Launch} (hl0 : l.stackTraces = false) {G : mp_G} {h : mp_H} {S : pq_S} {ad : Nat → Nat} {x p : Int32} (hS1 : cm_S G h S ad) (hg : sp_g S) (ho : h.1 40 = (13, 1)) :
    mp_M G mp_Ts l y_L_id 9 1 8 [.ref (G.1 + 0), .int x, .int p, .ref (G.1 + 40)] h (cl_Z G h (sp_id S x p)) (fun _ _ => False) := by
  have h41 : 41 ≤ h.2.2 := hS1.1.1
  have hle : (sp_id S x p).1 ≤ 2 := sp_le_get
  have hcall := k_M_id hl0 (x := x) (p := p) hS1 hg
  generalize sp_id S x p = r at hcall hle ⊢
  refine mp_enter (by decide) Y_L_id fun E hl X => ?_
  subst hl
  refine mp_eq rfl (L2 := [.val (.ref (G.1 + 0)), .val (.int x), .val (.int p), .val (.ref (G.1 + 40)), .unset]) rfl rfl ?_
  refine mp_aload_n X 1 d_L_id_0 rfl rfl rfl ?_
  refine mp_iconst X 2 (v := nI 0) d_L_id_1 rfl (by decide) ?_
  refine mp_aload_n X 3 d_L_id_2 rfl rfl rfl ?_
  refine mp_iload_n X 4 d_L_id_3 rfl rfl rfl ?_
  refine mp_iload_n X 5 d_L_id_4 rfl rfl rfl ?_
  refine mp_call X mp_Ts_ok 8 (rest := [.int (nI 0), .ref (G.1 + 40)]) hcall Y_M_id in_M (mp_IV X (q := (nR_M, nT_M, 2)) d_L_id_5 Y_M_id ml_L_42 im_M_id se_M_id (by decide) rfl (by decide) (by show _ = some 2; decide) (by omega) hS1.1.2.1) rfl (by decide) (by decide) (by decide) (by decide) rfl (Nat.le_of_ble_eq_true rfl) (fun v g hp9 => ?_) (fun x9 g q9 hp9 hq9 hk9 hx9 => ?_)
  · obtain ⟨hr0, rfl, hSg, hgg⟩ := hp9
    have hkg : g.1 40 = (13, 1) := by rw [hgg.2.1 40 (by omega)]; exact ho
    have hzg : 40 < g.2.2 := Nat.lt_of_lt_of_le (by omega) hgg.1
    refine mp_eq rfl rfl (st2 := .int r.2.1 :: [.int (nI 0), .ref (G.1 + 40)]) rfl ?_
    refine mp_i2l X 9 d_L_id_8 rfl rfl ?_
    refine mp_last X 10 (0) d_L_id_9 rfl hzg hkg rfl (by omega) (by decide) ?_
    refine mp_goto X 21 d_L_id_10 (by decide) ?_
    refine mp_iconst X 22 (v := nI 0) d_L_id_21 rfl (by decide) ?_
    refine mp_iret X d_L_id_22 rfl rfl (by decide) (by decide) ⟨by rw [hr0], ?_, (hgg.mono fun _ _ => cm_clA).set (Or.inr (Or.inr rfl)), fun _ => mp_set_at _ _ _ _⟩
    obtain ⟨ad2, hS2⟩ := hSg
    exact ⟨ad2, hS2.gr (A := fun o _ => o = 40) (by intro o i hh; omega) (mp_gr.rf.set (Or.inr rfl))⟩
  · obtain ⟨hr0, hSg, hgg⟩ := hp9
    obtain rfl | rfl : x9 = 0 ∨ x9 = 1 := by omega
    · refine mp_catch X hq9 hk9 hx9 [] [(0, 10, 17, 15)] 0 10 13 13 rfl (by decide) (by decide) cl_L_13 wd_126 (fun r9 hr9 => by cases hr9) ?_
      refine mp_astore X 15 (L' := [.val (.ref (G.1 + 0)), .val (.int (x)), .val (.int (p)), .val (.ref (G.1 + 40)), .val (.ref (G.1 + q9))]) d_L_id_13 rfl rfl rfl rfl ?_
      refine mp_iconst X 16 (v := nI 1) d_L_id_15 rfl (by decide) ?_
      exact mp_iret X d_L_id_16 rfl rfl (by decide) (by decide) ⟨by rw [hr0], hSg, hgg.mono fun _ _ => cm_clA, fun z => by rw [hr0] at z; cases z⟩
    · refine mp_catch X hq9 hk9 hx9 [(0, 10, 13, 13)] [] 0 10 17 15 rfl (by decide) (by decide) cl_L_15 wd_192 (by intro r9 hr9; simp only [List.mem_cons, List.not_mem_nil, or_false] at hr9; subst hr9; exact ⟨by decide, by decide, 0, by decide, by decide, cl_L_13⟩) ?_
      refine mp_astore X 19 (L' := [.val (.ref (G.1 + 0)), .val (.int (x)), .val (.int (p)), .val (.ref (G.1 + 40)), .val (.ref (G.1 + q9))]) d_L_id_17 rfl rfl rfl rfl ?_
      refine mp_iconst X 20 (v := nI 2) d_L_id_19 rfl (by decide) ?_
      exact mp_iret X d_L_id_20 rfl rfl (by decide) (by decide) ⟨by rw [hr0], hSg, hgg.mono fun _ _ => cm_clA, fun z => by rw [hr0] at z; cases z⟩
set_option maxRecDepth 100000 in
set_option maxHeartbeats 4000000 in
theorem k_L_runs {l : Launch} (hl0 : l.stackTraces = false) {G : mp_G} {h : mp_H} {S : pq_S} {ad : Nat → Nat} {x : Int32} (hS1 : cm_S G h S ad) (hg : sp_g S) (ho : h.1 40 = (13, 1)) :
    mp_M G mp_Ts l y_L_runs 9 1 8 [.ref (G.1 + 0), .int x, .ref (G.1 + 40)] h (cl_Z G h (sp_runs S x)) (fun _ _ => False) := by
  have h41 : 41 ≤ h.2.2 := hS1.1.1
  have hle : (sp_runs S x).1 ≤ 1 := sp_le_runs
  have hcall := k_M_runs hl0 (x := x) hS1 hg
  generalize sp_runs S x = r at hcall hle ⊢
  refine mp_enter (by decide) Y_L_runs fun E hl X => ?_
  subst hl
  refine mp_eq rfl (L2 := [.val (.ref (G.1 + 0)), .val (.int x), .val (.ref (G.1 + 40)), .unset]) rfl rfl ?_
  refine mp_aload_n X 1 d_L_runs_0 rfl rfl rfl ?_
  refine mp_iconst X 2 (v := nI 0) d_L_runs_1 rfl (by decide) ?_
  refine mp_aload_n X 3 d_L_runs_2 rfl rfl rfl ?_
  refine mp_iload_n X 4 d_L_runs_3 rfl rfl rfl ?_
  refine mp_call X mp_Ts_ok 7 (rest := [.int (nI 0), .ref (G.1 + 40)]) hcall Y_M_runs in_M (mp_IV X (q := (nR_M, nT_M, 2)) d_L_runs_4 Y_M_runs ml_L_45 im_M_runs se_M_runs (by decide) rfl (by decide) (by show _ = some 1; decide) (by omega) hS1.1.2.1) rfl (by decide) (by decide) (by decide) (by decide) rfl (Nat.le_of_ble_eq_true rfl) (fun v g hp9 => ?_) (fun x9 g q9 hp9 hq9 hk9 hx9 => ?_)
  · obtain ⟨hr0, rfl, hSg, hgg⟩ := hp9
    have hkg : g.1 40 = (13, 1) := by rw [hgg.2.1 40 (by omega)]; exact ho
    have hzg : 40 < g.2.2 := Nat.lt_of_lt_of_le (by omega) hgg.1
    refine mp_eq rfl rfl (st2 := .int r.2.1 :: [.int (nI 0), .ref (G.1 + 40)]) rfl ?_
    refine mp_i2l X 8 d_L_runs_7 rfl rfl ?_
    refine mp_last X 9 (0) d_L_runs_8 rfl hzg hkg rfl (by omega) (by decide) ?_
    refine mp_goto X 15 d_L_runs_9 (by decide) ?_
    refine mp_iconst X 16 (v := nI 0) d_L_runs_15 rfl (by decide) ?_
    refine mp_iret X d_L_runs_16 rfl rfl (by decide) (by decide) ⟨by rw [hr0], ?_, (hgg.mono fun _ _ => cm_clA).set (Or.inr (Or.inr rfl)), fun _ => mp_set_at _ _ _ _⟩
    obtain ⟨ad2, hS2⟩ := hSg
    exact ⟨ad2, hS2.gr (A := fun o _ => o = 40) (by intro o i hh; omega) (mp_gr.rf.set (Or.inr rfl))⟩
  · obtain ⟨hr0, hSg, hgg⟩ := hp9
    obtain rfl : x9 = 0 := by omega
    refine mp_catch X hq9 hk9 hx9 [] [] 0 9 12 13 rfl (by decide) (by decide) cl_L_13 wd_126 (fun r9 hr9 => by cases hr9) ?_
    refine mp_astore_n X 13 (L' := [.val (.ref (G.1 + 0)), .val (.int (x)), .val (.ref (G.1 + 40)), .val (.ref (G.1 + q9))]) d_L_runs_12 rfl rfl rfl rfl rfl ?_
    refine mp_iconst X 14 (v := nI 1) d_L_runs_13 rfl (by decide) ?_
    exact mp_iret X d_L_runs_14 rfl rfl (by decide) (by decide) ⟨by rw [hr0], hSg, hgg.mono fun _ _ => cm_clA, fun z => by rw [hr0] at z; cases z⟩
set_option maxRecDepth 100000 in
set_option maxHeartbeats 4000000 in
theorem k_L_run {l : Launch} (hl0 : l.stackTraces = false) {G : mp_G} {h : mp_H} {S : pq_S} {ad : Nat → Nat} {x k w : Int32} (hS1 : cm_S G h S ad) (hg : sp_g S) (ho : h.1 40 = (13, 1)) :
    mp_M G mp_Ts l y_L_run 9 1 8 [.ref (G.1 + 0), .int x, .int k, .int w, .ref (G.1 + 40)] h (cl_Z G h (sp_run S x k w)) (fun _ _ => False) := by
  have h41 : 41 ≤ h.2.2 := hS1.1.1
  have hle : (sp_run S x k w).1 ≤ 2 := sp_le_run
  have hcall := k_M_run hl0 (x := x) (k := k) (w := w) hS1 hg
  generalize sp_run S x k w = r at hcall hle ⊢
  refine mp_enter (by decide) Y_L_run fun E hl X => ?_
  subst hl
  refine mp_eq rfl (L2 := [.val (.ref (G.1 + 0)), .val (.int x), .val (.int k), .val (.int w), .val (.ref (G.1 + 40)), .unset]) rfl rfl ?_
  refine mp_aload X 2 d_L_run_0 rfl rfl ?_
  refine mp_iconst X 3 (v := nI 0) d_L_run_2 rfl (by decide) ?_
  refine mp_aload_n X 4 d_L_run_3 rfl rfl rfl ?_
  refine mp_iload_n X 5 d_L_run_4 rfl rfl rfl ?_
  refine mp_iload_n X 6 d_L_run_5 rfl rfl rfl ?_
  refine mp_iload_n X 7 d_L_run_6 rfl rfl rfl ?_
  refine mp_call X mp_Ts_ok 10 (rest := [.int (nI 0), .ref (G.1 + 40)]) hcall Y_M_run in_M (mp_IV X (q := (nR_M, nT_M, 2)) d_L_run_7 Y_M_run ml_L_48 im_M_run se_M_run (by decide) rfl (by decide) (by show _ = some 3; decide) (by omega) hS1.1.2.1) rfl (by decide) (by decide) (by decide) (by decide) rfl (Nat.le_of_ble_eq_true rfl) (fun v g hp9 => ?_) (fun x9 g q9 hp9 hq9 hk9 hx9 => ?_)
  · obtain ⟨hr0, rfl, hSg, hgg⟩ := hp9
    have hkg : g.1 40 = (13, 1) := by rw [hgg.2.1 40 (by omega)]; exact ho
    have hzg : 40 < g.2.2 := Nat.lt_of_lt_of_le (by omega) hgg.1
    refine mp_eq rfl rfl (st2 := .int r.2.1 :: [.int (nI 0), .ref (G.1 + 40)]) rfl ?_
    refine mp_i2l X 11 d_L_run_10 rfl rfl ?_
    refine mp_last X 12 (0) d_L_run_11 rfl hzg hkg rfl (by omega) (by decide) ?_
    refine mp_goto X 23 d_L_run_12 (by decide) ?_
    refine mp_iconst X 24 (v := nI 0) d_L_run_23 rfl (by decide) ?_
    refine mp_iret X d_L_run_24 rfl rfl (by decide) (by decide) ⟨by rw [hr0], ?_, (hgg.mono fun _ _ => cm_clA).set (Or.inr (Or.inr rfl)), fun _ => mp_set_at _ _ _ _⟩
    obtain ⟨ad2, hS2⟩ := hSg
    exact ⟨ad2, hS2.gr (A := fun o _ => o = 40) (by intro o i hh; omega) (mp_gr.rf.set (Or.inr rfl))⟩
  · obtain ⟨hr0, hSg, hgg⟩ := hp9
    obtain rfl | rfl : x9 = 0 ∨ x9 = 1 := by omega
    · refine mp_catch X hq9 hk9 hx9 [] [(0, 12, 19, 15)] 0 12 15 13 rfl (by decide) (by decide) cl_L_13 wd_126 (fun r9 hr9 => by cases hr9) ?_
      refine mp_astore X 17 (L' := [.val (.ref (G.1 + 0)), .val (.int (x)), .val (.int (k)), .val (.int (w)), .val (.ref (G.1 + 40)), .val (.ref (G.1 + q9))]) d_L_run_15 rfl rfl rfl rfl ?_
      refine mp_iconst X 18 (v := nI 1) d_L_run_17 rfl (by decide) ?_
      exact mp_iret X d_L_run_18 rfl rfl (by decide) (by decide) ⟨by rw [hr0], hSg, hgg.mono fun _ _ => cm_clA, fun z => by rw [hr0] at z; cases z⟩
    · refine mp_catch X hq9 hk9 hx9 [(0, 12, 15, 13)] [] 0 12 19 15 rfl (by decide) (by decide) cl_L_15 wd_192 (by intro r9 hr9; simp only [List.mem_cons, List.not_mem_nil, or_false] at hr9; subst hr9; exact ⟨by decide, by decide, 0, by decide, by decide, cl_L_13⟩) ?_
      refine mp_astore X 21 (L' := [.val (.ref (G.1 + 0)), .val (.int (x)), .val (.int (k)), .val (.int (w)), .val (.ref (G.1 + 40)), .val (.ref (G.1 + q9))]) d_L_run_19 rfl rfl rfl rfl ?_
      refine mp_iconst X 22 (v := nI 2) d_L_run_21 rfl (by decide) ?_
      exact mp_iret X d_L_run_22 rfl rfl (by decide) (by decide) ⟨by rw [hr0], hSg, hgg.mono fun _ _ => cm_clA, fun z => by rw [hr0] at z; cases z⟩
set_option maxRecDepth 100000 in
set_option maxHeartbeats 4000000 in
theorem k_L_count {l : Launch} (hl0 : l.stackTraces = false) {G : mp_G} {h : mp_H} {S : pq_S} {ad : Nat → Nat} {x w : Int32} (hS1 : cm_S G h S ad) (hg : sp_g S) (ho : h.1 40 = (13, 1)) :
    mp_M G mp_Ts l y_L_count 9 1 8 [.ref (G.1 + 0), .int x, .int w, .ref (G.1 + 40)] h (cl_Z G h (sp_count S x w)) (fun _ _ => False) := by
  have h41 : 41 ≤ h.2.2 := hS1.1.1
  have hle : (sp_count S x w).1 ≤ 1 := sp_le_count
  have hcall := k_M_count hl0 (x := x) (w := w) hS1 hg
  generalize sp_count S x w = r at hcall hle ⊢
  refine mp_enter (by decide) Y_L_count fun E hl X => ?_
  subst hl
  refine mp_eq rfl (L2 := [.val (.ref (G.1 + 0)), .val (.int x), .val (.int w), .val (.ref (G.1 + 40)), .unset]) rfl rfl ?_
  refine mp_aload_n X 1 d_L_count_0 rfl rfl rfl ?_
  refine mp_iconst X 2 (v := nI 0) d_L_count_1 rfl (by decide) ?_
  refine mp_aload_n X 3 d_L_count_2 rfl rfl rfl ?_
  refine mp_iload_n X 4 d_L_count_3 rfl rfl rfl ?_
  refine mp_iload_n X 5 d_L_count_4 rfl rfl rfl ?_
  refine mp_call X mp_Ts_ok 8 (rest := [.int (nI 0), .ref (G.1 + 40)]) hcall Y_M_count in_M (mp_IV X (q := (nR_M, nT_M, 2)) d_L_count_5 Y_M_count ml_L_51 im_M_count se_M_count (by decide) rfl (by decide) (by show _ = some 2; decide) (by omega) hS1.1.2.1) rfl (by decide) (by decide) (by decide) (by decide) rfl (Nat.le_of_ble_eq_true rfl) (fun v g hp9 => ?_) (fun x9 g q9 hp9 hq9 hk9 hx9 => ?_)
  · obtain ⟨hr0, rfl, hSg, hgg⟩ := hp9
    have hkg : g.1 40 = (13, 1) := by rw [hgg.2.1 40 (by omega)]; exact ho
    have hzg : 40 < g.2.2 := Nat.lt_of_lt_of_le (by omega) hgg.1
    refine mp_eq rfl rfl (st2 := .int r.2.1 :: [.int (nI 0), .ref (G.1 + 40)]) rfl ?_
    refine mp_i2l X 9 d_L_count_8 rfl rfl ?_
    refine mp_last X 10 (0) d_L_count_9 rfl hzg hkg rfl (by omega) (by decide) ?_
    refine mp_goto X 17 d_L_count_10 (by decide) ?_
    refine mp_iconst X 18 (v := nI 0) d_L_count_17 rfl (by decide) ?_
    refine mp_iret X d_L_count_18 rfl rfl (by decide) (by decide) ⟨by rw [hr0], ?_, (hgg.mono fun _ _ => cm_clA).set (Or.inr (Or.inr rfl)), fun _ => mp_set_at _ _ _ _⟩
    obtain ⟨ad2, hS2⟩ := hSg
    exact ⟨ad2, hS2.gr (A := fun o _ => o = 40) (by intro o i hh; omega) (mp_gr.rf.set (Or.inr rfl))⟩
  · obtain ⟨hr0, hSg, hgg⟩ := hp9
    obtain rfl : x9 = 0 := by omega
    refine mp_catch X hq9 hk9 hx9 [] [] 0 10 13 13 rfl (by decide) (by decide) cl_L_13 wd_126 (fun r9 hr9 => by cases hr9) ?_
    refine mp_astore X 15 (L' := [.val (.ref (G.1 + 0)), .val (.int (x)), .val (.int (w)), .val (.ref (G.1 + 40)), .val (.ref (G.1 + q9))]) d_L_count_13 rfl rfl rfl rfl ?_
    refine mp_iconst X 16 (v := nI 1) d_L_count_15 rfl (by decide) ?_
    exact mp_iret X d_L_count_16 rfl rfl (by decide) (by decide) ⟨by rw [hr0], hSg, hgg.mono fun _ _ => cm_clA, fun z => by rw [hr0] at z; cases z⟩
set_option maxRecDepth 100000 in
set_option maxHeartbeats 4000000 in
theorem k_L_alike {l : Launch} (hl0 : l.stackTraces = false) {G : mp_G} {h : mp_H} {S : pq_S} {ad : Nat → Nat} {x y : Int32} (hS1 : cm_S G h S ad) (hg : sp_g S) (ho : h.1 40 = (13, 1)) :
    mp_M G mp_Ts l y_L_alike 9 1 8 [.ref (G.1 + 0), .int x, .int y, .ref (G.1 + 40)] h (cl_Z G h (sp_alike S x y)) (fun _ _ => False) := by
  have h41 : 41 ≤ h.2.2 := hS1.1.1
  have hle : (sp_alike S x y).1 ≤ 1 := sp_le_alike
  have hab : (sp_alike S x y).1 = 0 → ∃ b, (sp_alike S x y).2.1 = rm_b b := sp_alike_b
  have hcall := k_M_alike hl0 (x := x) (y := y) hS1 hg
  generalize sp_alike S x y = r at hcall hle hab ⊢
  refine mp_enter (by decide) Y_L_alike fun E hl X => ?_
  subst hl
  refine mp_eq rfl (L2 := [.val (.ref (G.1 + 0)), .val (.int x), .val (.int y), .val (.ref (G.1 + 40)), .unset]) rfl rfl ?_
  refine mp_aload_n X 1 d_L_alike_0 rfl rfl rfl ?_
  refine mp_iconst X 2 (v := nI 0) d_L_alike_1 rfl (by decide) ?_
  refine mp_aload_n X 3 d_L_alike_2 rfl rfl rfl ?_
  refine mp_iload_n X 4 d_L_alike_3 rfl rfl rfl ?_
  refine mp_iload_n X 5 d_L_alike_4 rfl rfl rfl ?_
  refine mp_call X mp_Ts_ok 8 (rest := [.int (nI 0), .ref (G.1 + 40)]) hcall Y_M_alike in_M (mp_IV X (q := (nR_M, nT_M, 2)) d_L_alike_5 Y_M_alike ml_L_54 im_M_alike se_M_alike (by decide) rfl (by decide) (by show _ = some 2; decide) (by omega) hS1.1.2.1) rfl (by decide) (by decide) (by decide) (by decide) rfl (Nat.le_of_ble_eq_true rfl) (fun v g hp9 => ?_) (fun x9 g q9 hp9 hq9 hk9 hx9 => ?_)
  · obtain ⟨hr0, rfl, hSg, hgg⟩ := hp9
    have hkg : g.1 40 = (13, 1) := by rw [hgg.2.1 40 (by omega)]; exact ho
    have hzg : 40 < g.2.2 := Nat.lt_of_lt_of_le (by omega) hgg.1
    refine mp_eq rfl rfl (st2 := .int r.2.1 :: [.int (nI 0), .ref (G.1 + 40)]) rfl ?_
    obtain ⟨b9, hb9⟩ := hab hr0
    obtain ⟨bn, hbn, hbb⟩ := rm_b_n b9
    rw [hb9, hbn]
    have hbl : bn < 2 := by omega
    refine mp_Zeq X 15 11 d_L_alike_8 (by decide) rfl (by omega) (fun q1 => ?_) (fun q1 => ?_)
    · refine mp_lconst X 16 (v := 0) d_L_alike_15 rfl (by decide) ?_
      refine mp_last X 17 (0) d_L_alike_16 rfl hzg hkg rfl (by omega) (by decide) ?_
      refine mp_goto X 24 d_L_alike_17 (by decide) ?_
      refine mp_iconst X 25 (v := nI 0) d_L_alike_24 rfl (by decide) ?_
      have e0 : bn = 0 := by omega
      refine mp_iret X d_L_alike_25 rfl rfl (by decide) (by decide) ⟨by rw [hr0], ?_, (hgg.mono fun _ _ => cm_clA).set (Or.inr (Or.inr rfl)), fun _ => by rw [mp_set_at, hb9, hbn, e0]; rfl⟩
      obtain ⟨ad2, hS2⟩ := hSg
      exact ⟨ad2, hS2.gr (A := fun o _ => o = 40) (by intro o i hh; omega) (mp_gr.rf.set (Or.inr rfl))⟩
    · refine mp_lconst X 12 (v := 1) d_L_alike_11 rfl (by decide) ?_
      refine mp_goto X 16 d_L_alike_12 (by decide) ?_
      refine mp_last X 17 (0) d_L_alike_16 rfl hzg hkg rfl (by omega) (by decide) ?_
      refine mp_goto X 24 d_L_alike_17 (by decide) ?_
      refine mp_iconst X 25 (v := nI 0) d_L_alike_24 rfl (by decide) ?_
      have e0 : bn = 1 := by omega
      refine mp_iret X d_L_alike_25 rfl rfl (by decide) (by decide) ⟨by rw [hr0], ?_, (hgg.mono fun _ _ => cm_clA).set (Or.inr (Or.inr rfl)), fun _ => by rw [mp_set_at, hb9, hbn, e0]; rfl⟩
      obtain ⟨ad2, hS2⟩ := hSg
      exact ⟨ad2, hS2.gr (A := fun o _ => o = 40) (by intro o i hh; omega) (mp_gr.rf.set (Or.inr rfl))⟩
  · obtain ⟨hr0, hSg, hgg⟩ := hp9
    obtain rfl : x9 = 0 := by omega
    refine mp_catch X hq9 hk9 hx9 [] [] 0 17 20 13 rfl (by decide) (by decide) cl_L_13 wd_126 (fun r9 hr9 => by cases hr9) ?_
    refine mp_astore X 22 (L' := [.val (.ref (G.1 + 0)), .val (.int (x)), .val (.int (y)), .val (.ref (G.1 + 40)), .val (.ref (G.1 + q9))]) d_L_alike_20 rfl rfl rfl rfl ?_
    refine mp_iconst X 23 (v := nI 1) d_L_alike_22 rfl (by decide) ?_
    exact mp_iret X d_L_alike_23 rfl rfl (by decide) (by decide) ⟨by rw [hr0], hSg, hgg.mono fun _ _ => cm_clA, fun z => by rw [hr0] at z; cases z⟩
