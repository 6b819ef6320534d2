/-! The loop of the law (rows laid by program). -/
section MPLAW
variable {G : mp_G} {Ts : List Cond} {E : mp_E} {y : MethodName} {cc : ByteArray} {nL : Nat} {rt : Option FieldType} {hh : List (Nat × Nat × Nat × Nat)} {d mc ms : Nat} {h : mp_H} {cs sl : Nat} {Q : State → Prop} {pc : Nat} {L : List Slot} {st : List Value}
/-- the script -/
def lw_scr (G : mp_G) (E : mp_E) (b n : Nat) (xs : Nat → Int32) : Prop := va_X b n xs E.s E.s.heap ∧ b < G.1 ∧ G.2.1 = E.s.heap
theorem mp_sald (X : mp_C G Ts E y cc nL rt hh d mc ms) (pc' : Nat) {b n j : Nat} {xs : Nat → Int32} {i : Int32} (hs : lw_scr G E b n xs) (hd : decode cc pc = .ok (.iaload, 1)) (hp : pc + 1 = pc') (hi : i = nI j) (hj : j < n) (hn : n < 2 ^ 31)
    (kk : mp_W G E h cs sl Q pc' L (.int (xs j) :: st)) : mp_W G E h cs sl Q pc L (.int i :: .ref b :: st) := by
  subst hp
  intro H locs hR hl
  obtain ⟨⟨scr, h1, h2, h3, h4, h5⟩, hb, hG⟩ := hs
  have hcl : i.toNatClampNeg = j := mp_cl hi hj hn
  refine W.iald (v := .int (xs j)) X.1 X.2.1 (by rw [hR.2.1 b hb, hG]; exact h1) h2 h3 ?_ (by rw [hcl]; exact h5 j hj) rfl rfl hd (kk H locs hR hl)
  rw [h4, hcl, hi]
  exact fun z => z.elim (fun z => nI_pos (by omega) z) (fun z => by omega)
theorem mp_slen (X : mp_C G Ts E y cc nL rt hh d mc ms) (pc' : Nat) {b n : Nat} {xs : Nat → Int32} (hs : lw_scr G E b n xs) (hd : decode cc pc = .ok (.arraylength, 1)) (hp : pc + 1 = pc')
    (kk : mp_W G E h cs sl Q pc' L (.int (nI n) :: st)) : mp_W G E h cs sl Q pc L (.ref b :: st) := by
  subst hp
  intro H locs hR hl
  obtain ⟨⟨scr, h1, h2, h3, h4, h5⟩, hb, hG⟩ := hs
  exact W.alen (n := nI n) X.1 X.2.1 (by rw [hR.2.1 b hb, hG]; exact h1) h2 (by rw [h4] <;> rfl) rfl rfl hd (kk H locs hR hl)
theorem mp_widen {k n : Nat} (h1 : cs ≤ k) (h2 : sl ≤ n) (kk : mp_W G E h k n Q pc L st) : mp_W G E h cs sl Q pc L st := fun H locs hR hl => W.widen h1 h2 (kk H locs hR hl)
end MPLAW
theorem lg_self (a : Int64) : lg_cmp a a = nI 0 := by
  unfold lg_cmp
  rw [if_neg (fun z : a > a => Int64.lt_irrefl z), if_pos rfl]
  rfl
theorem lw_and (x : Int32) : ∃ n : Nat, n < 16 ∧ x &&& nI 15 = nI n := by
  refine ⟨(x &&& nI 15).toBitVec.toNat, ?_, ?_⟩
  · rw [Int32.toBitVec_and, BitVec.toNat_and]
    have h1 : (nI 15).toBitVec.toNat = 15 := by decide
    rw [h1]
    exact Nat.lt_succ_of_le Nat.and_le_right
  · apply Int32.toBitVec_inj.mp
    apply BitVec.eq_of_toNat_eq
    have := (x &&& nI 15).toBitVec.isLt
    simp [nI, Int32.toBitVec_ofNat]
theorem lw_len {n i : Nat} (hn : n ≤ 2560) (hi : i < 2 ^ 31) : (nI n - nI 5 < nI i) ↔ n < i + 5 := by
  by_cases h5 : 5 ≤ n
  · rw [pk_sub (by omega), nI_ltI (by omega) hi]
    omega
  · have h0 : ¬ nI i < 0 := nI_pos hi
    have h1 : nI n - nI 5 < 0 := by
      rcases (show n = 0 ∨ n = 1 ∨ n = 2 ∨ n = 3 ∨ n = 4 by omega) with rfl | rfl | rfl | rfl | rfl <;> decide
    exact ⟨fun _ => by omega, fun _ => Int32.lt_of_lt_of_le h1 (Int32.not_lt.mp h0)⟩
def lw_c (x : Int32) : Int32 := (x.toUInt32 % 65536).toInt32
theorem lw_cc (x : Int32) : narrow .char (.int (lw_c x)) = .int (lw_c x) := by
  show Value.int ((lw_c x).toUInt32.toUInt16.toUInt32.toInt32) = _
  unfold lw_c
  rw [lg_i2c_mask, lg_i2c_nf, lg_i2c_mask, Int32.and_assoc]
  rfl
theorem rm_K.gr {G : mp_G} {h h' : mp_H} (hK : rm_K G h) {A : Nat → Nat → Prop} (hA : ∀ o i, 26 ≤ o → o ≤ 39 → ¬ A o i) (hf : mp_gr A h h') : rm_K G h' := by
  obtain ⟨e1, e2, e3⟩ := hf
  have hs := hK.1
  have q : ∀ i, h'.2.1 26 i = h.2.1 26 i := fun i => e3 26 i (by omega) (hA 26 i (by omega) (by omega))
  unfold rm_K at hK ⊢
  simp only [q, e2 26 (by omega), e2 27 (by omega), e2 28 (by omega), e2 29 (by omega), e2 30 (by omega), e2 31 (by omega), e2 32 (by omega), e2 33 (by omega), e2 34 (by omega), e2 35 (by omega), e2 36 (by omega), e2 37 (by omega), e2 38 (by omega), e2 39 (by omega)]
  exact ⟨by omega, hK.2⟩
theorem rm_S.gr {G : mp_G} {h h' : mp_H} {S : pq_S} (hK : rm_K G h) (hS : rm_S h S) {A : Nat → Nat → Prop} (hA : ∀ o i, 26 ≤ o → o ≤ 39 → ¬ A o i) (hf : mp_gr A h h') : rm_S h' S := by
  obtain ⟨e1, e2, e3⟩ := hf
  have hs := hK.1
  have q : ∀ o, 26 ≤ o → o ≤ 39 → h'.2.1 o = h.2.1 o := fun o a b => funext fun i => e3 o i (by omega) (hA o i a b)
  unfold rm_S at hS ⊢
  rw [q 26 (by omega) (by omega), q 27 (by omega) (by omega), q 28 (by omega) (by omega), q 29 (by omega) (by omega), q 30 (by omega) (by omega), q 31 (by omega) (by omega), q 32 (by omega) (by omega), q 33 (by omega) (by omega), q 34 (by omega) (by omega), q 35 (by omega) (by omega)]
  exact hS
theorem sp_le_write {S : pq_S} {x p c : Int32} : (sp_write S x p c).1 ≤ 3 := by
  unfold sp_write
  split
  · exact (show 1 ≤ 3 by decide)
  · split
    · exact (show 2 ≤ 3 by decide)
    · split
      · exact Nat.le_refl _
      · exact Nat.zero_le _
theorem sp_le_erase {S : pq_S} {x p : Int32} : (sp_erase S x p).1 ≤ 3 := by
  unfold sp_erase
  split
  · exact (show 1 ≤ 3 by decide)
  · split
    · exact (show 2 ≤ 3 by decide)
    · split
      · exact Nat.le_refl _
      · exact Nat.zero_le _
theorem sp_le_mark {S : pq_S} {x f t w : Int32} : (sp_mark S x f t w).1 ≤ 3 := by
  unfold sp_mark
  split
  · exact (show 1 ≤ 3 by decide)
  · exact (show 1 ≤ 3 by decide)
  · split
    · exact (show 2 ≤ 3 by decide)
    · exact (show 2 ≤ 3 by decide)
    · split
      · exact (show 2 ≤ 3 by decide)
      · split
        · exact Nat.le_refl _
        · exact Nat.zero_le _
theorem sp_g.get {S : pq_S} {f : Nat → Nat → Int32} (h : sp_g S) {x p : Int32} : sp_g (sp_get f S x p).2.2 := by
  unfold sp_get
  split
  · exact h
  · split <;> exact h
theorem sp_g.at {S : pq_S} (h : sp_g S) {x p : Int32} : sp_g (sp_at S x p).2.2 := h.get
theorem sp_g.format {S : pq_S} (h : sp_g S) {x p : Int32} : sp_g (sp_format S x p).2.2 := h.get
theorem sp_g.id {S : pq_S} (h : sp_g S) {x p : Int32} : sp_g (sp_id S x p).2.2 := h.get
theorem sp_g.length {S : pq_S} (h : sp_g S) {x : Int32} : sp_g (sp_length S x).2.2 := by unfold sp_length; split <;> exact h
theorem sp_g.runs {S : pq_S} (h : sp_g S) {x : Int32} : sp_g (sp_runs S x).2.2 := by unfold sp_runs; split <;> exact h
theorem sp_g.run {S : pq_S} (h : sp_g S) {x k w : Int32} : sp_g (sp_run S x k w).2.2 := by
  unfold sp_run
  split
  · exact h
  · exact h
  · split <;> exact h
theorem sp_g.count {S : pq_S} (h : sp_g S) {x w : Int32} : sp_g (sp_count S x w).2.2 := by unfold sp_count; split <;> exact h
theorem sp_g.alike {S : pq_S} (h : sp_g S) {x w : Int32} : sp_g (sp_alike S x w).2.2 := by unfold sp_alike; split <;> exact h
/-- both hold the same -/
def lw_I (G : mp_G) (g : mp_H) (S : pq_S) : Prop := sp_g S ∧ (∃ ad, cm_S G g S ad) ∧ rm_K G g ∧ rm_S g S ∧ g.1 40 = (13, 1)
set_option maxRecDepth 100000 in
set_option maxHeartbeats 4000000 in
theorem lw_op_write {G : mp_G} {E : mp_E} {b n it : Nat} {xs : Nat → Int32} {rt : Option FieldType} {hh : List (Nat × Nat × Nat × Nat)} {Q : State → Prop} (X : mp_C G mp_Ts E y_L_law c_L_law 7 rt hh 10 601024 7293034) (hl0 : E.l.stackTraces = false) (hs : lw_scr G E b n xs) (hn : n ≤ 2560) (hit : 5 * it + 5 ≤ n) (cont : ∀ (g : mp_H) (S : pq_S) (z5 z6 : Slot), mp_s1 z5 = true → mp_s1 z6 = true → lw_I G g S → mp_W G E g (41 + (it + 1)) (3392 + 8 * (it + 1)) Q 961 [.val (.ref b), .val (.ref (G.1 + 0)), .val (.ref (G.1 + 26)), .val (.ref (G.1 + 40)), .val (.int (nI (5 * it))), z5, z6] [])
    {g : mp_H} {S : pq_S} {z5 z6 : Slot} (hz5 : mp_s1 z5 = true) (hz6 : mp_s1 z6 = true) (hI : lw_I G g S) : mp_W G E g (41 + it) (3392 + 8 * (it)) Q 100 [.val (.ref b), .val (.ref (G.1 + 0)), .val (.ref (G.1 + 26)), .val (.ref (G.1 + 40)), .val (.int (nI (5 * it))), z5, z6] [] := by
  obtain ⟨hg, ⟨ad, hS⟩, hK, hR, ho⟩ := hI
  have h41 : 41 ≤ g.2.2 := hK.1
  have hcc := lw_cc (xs (5 * it + 3))
  have hle : (sp_write S (xs (5 * it + 1)) (xs (5 * it + 2)) (lw_c (xs (5 * it + 3)))).1 ≤ 3 := Nat.le_trans sp_le_write (by decide)
  have hgn : sp_g (sp_write S (xs (5 * it + 1)) (xs (5 * it + 2)) (lw_c (xs (5 * it + 3)))).2.2 := hg.write hcc
  have hc1 := k_L_write (x := xs (5 * it + 1)) (p := xs (5 * it + 2)) (c := lw_c (xs (5 * it + 3))) hl0 hS hg ho hcc
  have hc2 : ∀ g2, rm_K G g2 → rm_S g2 S → mp_M G mp_Ts E.l y_R_write _ 0 0 _ g2 (rm_Z g2 (sp_write S (xs (5 * it + 1)) (xs (5 * it + 2)) (lw_c (xs (5 * it + 3))))) (fun _ _ => False) := fun g2 hK2 hR2 => k_R_write E.l hK2 hR2 hg.1 hcc
  generalize sp_write S (xs (5 * it + 1)) (xs (5 * it + 2)) (lw_c (xs (5 * it + 3))) = r at hle hgn hc1 hc2
  refine mp_aload_n X 101 d_L_law_100 rfl rfl rfl ?_
  refine mp_aload_n X 102 d_L_law_101 rfl rfl rfl ?_
  refine mp_iload X 104 d_L_law_102 rfl rfl ?_
  refine mp_iconst X 105 (v := nI 1) d_L_law_104 rfl (by decide) ?_
  refine mp_iadd X 106 d_L_law_105 rfl ?_
  rw [nI_add]
  refine mp_sald X 107 (j := 5 * it + 1) hs d_L_law_106 rfl rfl (by omega) (by omega) ?_
  refine mp_aload_n X 108 d_L_law_107 rfl rfl rfl ?_
  refine mp_iload X 110 d_L_law_108 rfl rfl ?_
  refine mp_iconst X 111 (v := nI 2) d_L_law_110 rfl (by decide) ?_
  refine mp_iadd X 112 d_L_law_111 rfl ?_
  rw [nI_add]
  refine mp_sald X 113 (j := 5 * it + 2) hs d_L_law_112 rfl rfl (by omega) (by omega) ?_
  refine mp_aload_n X 114 d_L_law_113 rfl rfl rfl ?_
  refine mp_iload X 116 d_L_law_114 rfl rfl ?_
  refine mp_iconst X 117 (v := nI 3) d_L_law_116 rfl (by decide) ?_
  refine mp_iadd X 118 d_L_law_117 rfl ?_
  rw [nI_add]
  refine mp_sald X 119 (j := 5 * it + 3) hs d_L_law_118 rfl rfl (by omega) (by omega) ?_
  refine mp_i2c X 120 (v := lw_c (xs (5 * it + 3))) d_L_law_119 rfl rfl ?_
  refine mp_aload_n X 121 d_L_law_120 rfl rfl rfl ?_
  refine mp_call X mp_Ts_ok 124 (rest := []) hc1 Y_L_write in_L (mp_IS X d_L_law_121 Y_L_write ml_L_62 st_L_write in_L (by decide) (by show _ = some 5; decide)) rfl (by decide) (by decide) (by omega) (by omega) rfl (by decide) (fun v g2 hp9 => ?_) (fun x9 h9 q9 hp9 => hp9.elim)
  obtain ⟨rfl, hS2, hgr, hout⟩ := hp9
  have hA2 : ∀ o i, 26 ≤ o → o ≤ 39 → ¬ cl_A o i := by intro o i h1 h2; unfold cl_A; omega
  have hK2 := hK.gr hA2 hgr
  have hR2 := rm_S.gr hK hR hA2 hgr
  have ho2 : g2.1 40 = (13, 1) := by rw [hgr.2.1 40 (by omega)]; exact ho
  refine mp_eq rfl rfl (st2 := [.int (nI r.1)]) rfl ?_
  refine mp_istore X 126 (L' := [.val (.ref b), .val (.ref (G.1 + 0)), .val (.ref (G.1 + 26)), .val (.ref (G.1 + 40)), .val (.int (nI (5 * it))), .val (.int (nI (r.1))), z6]) d_L_law_124 rfl rfl hz5 rfl ?_
  refine mp_aload_n X 127 d_L_law_126 rfl rfl rfl ?_
  refine mp_aload_n X 128 d_L_law_127 rfl rfl rfl ?_
  refine mp_iload X 130 d_L_law_128 rfl rfl ?_
  refine mp_iconst X 131 (v := nI 1) d_L_law_130 rfl (by decide) ?_
  refine mp_iadd X 132 d_L_law_131 rfl ?_
  rw [nI_add]
  refine mp_sald X 133 (j := 5 * it + 1) hs d_L_law_132 rfl rfl (by omega) (by omega) ?_
  refine mp_aload_n X 134 d_L_law_133 rfl rfl rfl ?_
  refine mp_iload X 136 d_L_law_134 rfl rfl ?_
  refine mp_iconst X 137 (v := nI 2) d_L_law_136 rfl (by decide) ?_
  refine mp_iadd X 138 d_L_law_137 rfl ?_
  rw [nI_add]
  refine mp_sald X 139 (j := 5 * it + 2) hs d_L_law_138 rfl rfl (by omega) (by omega) ?_
  refine mp_aload_n X 140 d_L_law_139 rfl rfl rfl ?_
  refine mp_iload X 142 d_L_law_140 rfl rfl ?_
  refine mp_iconst X 143 (v := nI 3) d_L_law_142 rfl (by decide) ?_
  refine mp_iadd X 144 d_L_law_143 rfl ?_
  rw [nI_add]
  refine mp_sald X 145 (j := 5 * it + 3) hs d_L_law_144 rfl rfl (by omega) (by omega) ?_
  refine mp_i2c X 146 (v := lw_c (xs (5 * it + 3))) d_L_law_145 rfl rfl ?_
  refine mp_call X mp_Ts_ok 149 (rest := []) (hc2 g2 hK2 hR2) Y_R_write in_R (mp_IV X (q := (nR_R, nT_R, 17)) d_L_law_146 Y_R_write ml_L_67 im_R_write se_R_write (by decide) rfl (by decide) (by show _ = some 3; decide) (hK2.sz (by decide)) hK2.ob) rfl (by decide) (by decide) (by omega) (by omega) rfl (by decide) (fun v g3 hp9 => ?_) (fun x9 h9 q9 hp9 => hp9.elim)
  obtain ⟨hcd, hR3, ⟨z, rfl, hzz⟩, hf3⟩ := hp9
  have hK3 : rm_K G g3 := hK2.frA hf3
  have ho3 : g3.1 40 = (13, 1) := by rw [hf3.1]; exact ho2
  have hI3 : lw_I G g3 r.2.2 := by
    obtain ⟨ad2, hS2⟩ := hS2
    exact ⟨hgn, ⟨ad2, hS2.gr (by intro o i hh; unfold rm_A; omega) (mp_gr.of hf3)⟩, hK3, hR3, ho3⟩
  have hc3 := cont g3 r.2.2 (.val (.int (nI r.1))) (.val (.int z)) rfl rfl hI3
  refine mp_eq rfl rfl (st2 := [.int z]) rfl ?_
  refine mp_istore X 151 (L' := [.val (.ref b), .val (.ref (G.1 + 0)), .val (.ref (G.1 + 26)), .val (.ref (G.1 + 40)), .val (.int (nI (5 * it))), .val (.int (nI (r.1))), .val (.int (z))]) d_L_law_149 rfl rfl hz6 rfl ?_
  refine mp_aload_n X 152 d_L_law_151 rfl rfl rfl ?_
  refine mp_callE X mp_Ts_ok 155 (rest := []) (k_R_thrown _ hK3 hcd) Y_R_thrown in_R (mp_IV X (q := (nR_R, nT_R, 17)) d_L_law_152 Y_R_thrown ml_L_68 im_R_thrown se_R_thrown (by decide) rfl (by decide) (by show _ = some 0; decide) (hK3.sz (by decide)) hK3.ob) rfl (by decide) (by decide) (by omega) (by omega) rfl (by decide) rfl ?_
  refine mp_iload X 157 d_L_law_155 rfl rfl ?_
  refine mp_Neq X 162 160 d_L_law_157 (by decide) rfl (by omega) (by omega) (fun q1 => ?_) (fun q1 => ?_)
  · refine mp_iload X 164 d_L_law_162 rfl rfl ?_
    refine mp_Zne X 179 167 d_L_law_164 (by decide) rfl (by omega) (fun q2 => ?_) (fun q2 => ?_)
    · refine mp_goto X 961 d_L_law_179 (by decide) ?_
      exact mp_eq_cs (by omega) (by omega) hc3
    · have hz9 := hzz q2
      subst hz9
      have hout3 : g3.2.1 40 0 = .long (r.2.1).toInt64 := by rw [hf3.2.2 40 0 (by unfold rm_A; omega)]; exact hout q2
      refine mp_aload_n X 168 d_L_law_167 rfl rfl rfl ?_
      refine mp_iconst X 169 (v := nI 0) d_L_law_168 rfl (by decide) ?_
      refine mp_lald (v := .long ((r.2.1).toInt64)) X 170 (0) d_L_law_169 rfl (hK3.sz (by decide)) ho3 rfl (by omega) (by decide) hout3 ?_
      refine mp_iload X 172 d_L_law_170 rfl rfl ?_
      refine mp_i2l X 173 d_L_law_172 rfl rfl ?_
      refine mp_lcmp X 174 d_L_law_173 rfl ?_
      rw [lg_self]
      refine mp_Zeq X 179 177 d_L_law_174 (by decide) rfl (by omega) (fun q3 => ?_) (fun q3 => ?_)
      · refine mp_goto X 961 d_L_law_179 (by decide) ?_
        exact mp_eq_cs (by omega) (by omega) hc3
      · exact absurd rfl q3
  · exact absurd rfl q1
set_option maxRecDepth 100000 in
set_option maxHeartbeats 4000000 in
theorem lw_op_erase {G : mp_G} {E : mp_E} {b n it : Nat} {xs : Nat → Int32} {rt : Option FieldType} {hh : List (Nat × Nat × Nat × Nat)} {Q : State → Prop} (X : mp_C G mp_Ts E y_L_law c_L_law 7 rt hh 10 601024 7293034) (hl0 : E.l.stackTraces = false) (hs : lw_scr G E b n xs) (hn : n ≤ 2560) (hit : 5 * it + 5 ≤ n) (cont : ∀ (g : mp_H) (S : pq_S) (z5 z6 : Slot), mp_s1 z5 = true → mp_s1 z6 = true → lw_I G g S → mp_W G E g (41 + (it + 1)) (3392 + 8 * (it + 1)) Q 961 [.val (.ref b), .val (.ref (G.1 + 0)), .val (.ref (G.1 + 26)), .val (.ref (G.1 + 40)), .val (.int (nI (5 * it))), z5, z6] [])
    {g : mp_H} {S : pq_S} {z5 z6 : Slot} (hz5 : mp_s1 z5 = true) (hz6 : mp_s1 z6 = true) (hI : lw_I G g S) : mp_W G E g (41 + it) (3392 + 8 * (it)) Q 182 [.val (.ref b), .val (.ref (G.1 + 0)), .val (.ref (G.1 + 26)), .val (.ref (G.1 + 40)), .val (.int (nI (5 * it))), z5, z6] [] := by
  obtain ⟨hg, ⟨ad, hS⟩, hK, hR, ho⟩ := hI
  have h41 : 41 ≤ g.2.2 := hK.1
  have hle : (sp_erase S (xs (5 * it + 1)) (xs (5 * it + 2))).1 ≤ 3 := Nat.le_trans sp_le_erase (by decide)
  have hgn : sp_g (sp_erase S (xs (5 * it + 1)) (xs (5 * it + 2))).2.2 := hg.erase
  have hc1 := k_L_erase (x := xs (5 * it + 1)) (p := xs (5 * it + 2)) hl0 hS hg ho
  have hc2 : ∀ g2, rm_K G g2 → rm_S g2 S → mp_M G mp_Ts E.l y_R_erase _ 0 0 _ g2 (rm_Z g2 (sp_erase S (xs (5 * it + 1)) (xs (5 * it + 2)))) (fun _ _ => False) := fun g2 hK2 hR2 => k_R_erase E.l hK2 hR2 hg.1 hg.2
  generalize sp_erase S (xs (5 * it + 1)) (xs (5 * it + 2)) = r at hle hgn hc1 hc2
  refine mp_aload_n X 183 d_L_law_182 rfl rfl rfl ?_
  refine mp_aload_n X 184 d_L_law_183 rfl rfl rfl ?_
  refine mp_iload X 186 d_L_law_184 rfl rfl ?_
  refine mp_iconst X 187 (v := nI 1) d_L_law_186 rfl (by decide) ?_
  refine mp_iadd X 188 d_L_law_187 rfl ?_
  rw [nI_add]
  refine mp_sald X 189 (j := 5 * it + 1) hs d_L_law_188 rfl rfl (by omega) (by omega) ?_
  refine mp_aload_n X 190 d_L_law_189 rfl rfl rfl ?_
  refine mp_iload X 192 d_L_law_190 rfl rfl ?_
  refine mp_iconst X 193 (v := nI 2) d_L_law_192 rfl (by decide) ?_
  refine mp_iadd X 194 d_L_law_193 rfl ?_
  rw [nI_add]
  refine mp_sald X 195 (j := 5 * it + 2) hs d_L_law_194 rfl rfl (by omega) (by omega) ?_
  refine mp_aload_n X 196 d_L_law_195 rfl rfl rfl ?_
  refine mp_call X mp_Ts_ok 199 (rest := []) hc1 Y_L_erase in_L (mp_IS X d_L_law_196 Y_L_erase ml_L_72 st_L_erase in_L (by decide) (by show _ = some 4; decide)) rfl (by decide) (by decide) (by omega) (by omega) rfl (by decide) (fun v g2 hp9 => ?_) (fun x9 h9 q9 hp9 => hp9.elim)
  obtain ⟨rfl, hS2, hgr, hout⟩ := hp9
  have hA2 : ∀ o i, 26 ≤ o → o ≤ 39 → ¬ cl_A o i := by intro o i h1 h2; unfold cl_A; omega
  have hK2 := hK.gr hA2 hgr
  have hR2 := rm_S.gr hK hR hA2 hgr
  have ho2 : g2.1 40 = (13, 1) := by rw [hgr.2.1 40 (by omega)]; exact ho
  refine mp_eq rfl rfl (st2 := [.int (nI r.1)]) rfl ?_
  refine mp_istore X 201 (L' := [.val (.ref b), .val (.ref (G.1 + 0)), .val (.ref (G.1 + 26)), .val (.ref (G.1 + 40)), .val (.int (nI (5 * it))), .val (.int (nI (r.1))), z6]) d_L_law_199 rfl rfl hz5 rfl ?_
  refine mp_aload_n X 202 d_L_law_201 rfl rfl rfl ?_
  refine mp_aload_n X 203 d_L_law_202 rfl rfl rfl ?_
  refine mp_iload X 205 d_L_law_203 rfl rfl ?_
  refine mp_iconst X 206 (v := nI 1) d_L_law_205 rfl (by decide) ?_
  refine mp_iadd X 207 d_L_law_206 rfl ?_
  rw [nI_add]
  refine mp_sald X 208 (j := 5 * it + 1) hs d_L_law_207 rfl rfl (by omega) (by omega) ?_
  refine mp_aload_n X 209 d_L_law_208 rfl rfl rfl ?_
  refine mp_iload X 211 d_L_law_209 rfl rfl ?_
  refine mp_iconst X 212 (v := nI 2) d_L_law_211 rfl (by decide) ?_
  refine mp_iadd X 213 d_L_law_212 rfl ?_
  rw [nI_add]
  refine mp_sald X 214 (j := 5 * it + 2) hs d_L_law_213 rfl rfl (by omega) (by omega) ?_
  refine mp_call X mp_Ts_ok 217 (rest := []) (hc2 g2 hK2 hR2) Y_R_erase in_R (mp_IV X (q := (nR_R, nT_R, 17)) d_L_law_214 Y_R_erase ml_L_75 im_R_erase se_R_erase (by decide) rfl (by decide) (by show _ = some 2; decide) (hK2.sz (by decide)) hK2.ob) rfl (by decide) (by decide) (by omega) (by omega) rfl (by decide) (fun v g3 hp9 => ?_) (fun x9 h9 q9 hp9 => hp9.elim)
  obtain ⟨hcd, hR3, ⟨z, rfl, hzz⟩, hf3⟩ := hp9
  have hK3 : rm_K G g3 := hK2.frA hf3
  have ho3 : g3.1 40 = (13, 1) := by rw [hf3.1]; exact ho2
  have hI3 : lw_I G g3 r.2.2 := by
    obtain ⟨ad2, hS2⟩ := hS2
    exact ⟨hgn, ⟨ad2, hS2.gr (by intro o i hh; unfold rm_A; omega) (mp_gr.of hf3)⟩, hK3, hR3, ho3⟩
  have hc3 := cont g3 r.2.2 (.val (.int (nI r.1))) (.val (.int z)) rfl rfl hI3
  refine mp_eq rfl rfl (st2 := [.int z]) rfl ?_
  refine mp_istore X 219 (L' := [.val (.ref b), .val (.ref (G.1 + 0)), .val (.ref (G.1 + 26)), .val (.ref (G.1 + 40)), .val (.int (nI (5 * it))), .val (.int (nI (r.1))), .val (.int (z))]) d_L_law_217 rfl rfl hz6 rfl ?_
  refine mp_aload_n X 220 d_L_law_219 rfl rfl rfl ?_
  refine mp_callE X mp_Ts_ok 223 (rest := []) (k_R_thrown _ hK3 hcd) Y_R_thrown in_R (mp_IV X (q := (nR_R, nT_R, 17)) d_L_law_220 Y_R_thrown ml_L_68 im_R_thrown se_R_thrown (by decide) rfl (by decide) (by show _ = some 0; decide) (hK3.sz (by decide)) hK3.ob) rfl (by decide) (by decide) (by omega) (by omega) rfl (by decide) rfl ?_
  refine mp_iload X 225 d_L_law_223 rfl rfl ?_
  refine mp_Neq X 230 228 d_L_law_225 (by decide) rfl (by omega) (by omega) (fun q1 => ?_) (fun q1 => ?_)
  · refine mp_iload X 232 d_L_law_230 rfl rfl ?_
    refine mp_Zne X 247 235 d_L_law_232 (by decide) rfl (by omega) (fun q2 => ?_) (fun q2 => ?_)
    · refine mp_goto X 961 d_L_law_247 (by decide) ?_
      exact mp_eq_cs (by omega) (by omega) hc3
    · have hz9 := hzz q2
      subst hz9
      have hout3 : g3.2.1 40 0 = .long (r.2.1).toInt64 := by rw [hf3.2.2 40 0 (by unfold rm_A; omega)]; exact hout q2
      refine mp_aload_n X 236 d_L_law_235 rfl rfl rfl ?_
      refine mp_iconst X 237 (v := nI 0) d_L_law_236 rfl (by decide) ?_
      refine mp_lald (v := .long ((r.2.1).toInt64)) X 238 (0) d_L_law_237 rfl (hK3.sz (by decide)) ho3 rfl (by omega) (by decide) hout3 ?_
      refine mp_iload X 240 d_L_law_238 rfl rfl ?_
      refine mp_i2l X 241 d_L_law_240 rfl rfl ?_
      refine mp_lcmp X 242 d_L_law_241 rfl ?_
      rw [lg_self]
      refine mp_Zeq X 247 245 d_L_law_242 (by decide) rfl (by omega) (fun q3 => ?_) (fun q3 => ?_)
      · refine mp_goto X 961 d_L_law_247 (by decide) ?_
        exact mp_eq_cs (by omega) (by omega) hc3
      · exact absurd rfl q3
  · exact absurd rfl q1
set_option maxRecDepth 100000 in
set_option maxHeartbeats 4000000 in
theorem lw_op_mark {G : mp_G} {E : mp_E} {b n it : Nat} {xs : Nat → Int32} {rt : Option FieldType} {hh : List (Nat × Nat × Nat × Nat)} {Q : State → Prop} (X : mp_C G mp_Ts E y_L_law c_L_law 7 rt hh 10 601024 7293034) (hl0 : E.l.stackTraces = false) (hs : lw_scr G E b n xs) (hn : n ≤ 2560) (hit : 5 * it + 5 ≤ n) (cont : ∀ (g : mp_H) (S : pq_S) (z5 z6 : Slot), mp_s1 z5 = true → mp_s1 z6 = true → lw_I G g S → mp_W G E g (41 + (it + 1)) (3392 + 8 * (it + 1)) Q 961 [.val (.ref b), .val (.ref (G.1 + 0)), .val (.ref (G.1 + 26)), .val (.ref (G.1 + 40)), .val (.int (nI (5 * it))), z5, z6] [])
    {g : mp_H} {S : pq_S} {z5 z6 : Slot} (hz5 : mp_s1 z5 = true) (hz6 : mp_s1 z6 = true) (hI : lw_I G g S) : mp_W G E g (41 + it) (3392 + 8 * (it)) Q 250 [.val (.ref b), .val (.ref (G.1 + 0)), .val (.ref (G.1 + 26)), .val (.ref (G.1 + 40)), .val (.int (nI (5 * it))), z5, z6] [] := by
  obtain ⟨hg, ⟨ad, hS⟩, hK, hR, ho⟩ := hI
  have h41 : 41 ≤ g.2.2 := hK.1
  have hle : (sp_mark S (xs (5 * it + 1)) (xs (5 * it + 2)) (xs (5 * it + 3)) (xs (5 * it + 4))).1 ≤ 3 := Nat.le_trans sp_le_mark (by decide)
  have hgn : sp_g (sp_mark S (xs (5 * it + 1)) (xs (5 * it + 2)) (xs (5 * it + 3)) (xs (5 * it + 4))).2.2 := hg.mark
  have hc1 := k_L_mark (x := xs (5 * it + 1)) (f := xs (5 * it + 2)) (t := xs (5 * it + 3)) (w := xs (5 * it + 4)) hl0 hS hg ho
  have hc2 : ∀ g2, rm_K G g2 → rm_S g2 S → mp_M G mp_Ts E.l y_R_mark _ 0 0 _ g2 (rm_Z g2 (sp_mark S (xs (5 * it + 1)) (xs (5 * it + 2)) (xs (5 * it + 3)) (xs (5 * it + 4)))) (fun _ _ => False) := fun g2 hK2 hR2 => k_R_mark E.l hK2 hR2 hg.1
  generalize sp_mark S (xs (5 * it + 1)) (xs (5 * it + 2)) (xs (5 * it + 3)) (xs (5 * it + 4)) = r at hle hgn hc1 hc2
  refine mp_aload_n X 251 d_L_law_250 rfl rfl rfl ?_
  refine mp_aload_n X 252 d_L_law_251 rfl rfl rfl ?_
  refine mp_iload X 254 d_L_law_252 rfl rfl ?_
  refine mp_iconst X 255 (v := nI 1) d_L_law_254 rfl (by decide) ?_
  refine mp_iadd X 256 d_L_law_255 rfl ?_
  rw [nI_add]
  refine mp_sald X 257 (j := 5 * it + 1) hs d_L_law_256 rfl rfl (by omega) (by omega) ?_
  refine mp_aload_n X 258 d_L_law_257 rfl rfl rfl ?_
  refine mp_iload X 260 d_L_law_258 rfl rfl ?_
  refine mp_iconst X 261 (v := nI 2) d_L_law_260 rfl (by decide) ?_
  refine mp_iadd X 262 d_L_law_261 rfl ?_
  rw [nI_add]
  refine mp_sald X 263 (j := 5 * it + 2) hs d_L_law_262 rfl rfl (by omega) (by omega) ?_
  refine mp_aload_n X 264 d_L_law_263 rfl rfl rfl ?_
  refine mp_iload X 266 d_L_law_264 rfl rfl ?_
  refine mp_iconst X 267 (v := nI 3) d_L_law_266 rfl (by decide) ?_
  refine mp_iadd X 268 d_L_law_267 rfl ?_
  rw [nI_add]
  refine mp_sald X 269 (j := 5 * it + 3) hs d_L_law_268 rfl rfl (by omega) (by omega) ?_
  refine mp_aload_n X 270 d_L_law_269 rfl rfl rfl ?_
  refine mp_iload X 272 d_L_law_270 rfl rfl ?_
  refine mp_iconst X 273 (v := nI 4) d_L_law_272 rfl (by decide) ?_
  refine mp_iadd X 274 d_L_law_273 rfl ?_
  rw [nI_add]
  refine mp_sald X 275 (j := 5 * it + 4) hs d_L_law_274 rfl rfl (by omega) (by omega) ?_
  refine mp_aload_n X 276 d_L_law_275 rfl rfl rfl ?_
  refine mp_call X mp_Ts_ok 279 (rest := []) hc1 Y_L_mark in_L (mp_IS X d_L_law_276 Y_L_mark ml_L_76 st_L_mark in_L (by decide) (by show _ = some 6; decide)) rfl (by decide) (by decide) (by omega) (by omega) rfl (by decide) (fun v g2 hp9 => ?_) (fun x9 h9 q9 hp9 => hp9.elim)
  obtain ⟨rfl, hS2, hgr, hout⟩ := hp9
  have hA2 : ∀ o i, 26 ≤ o → o ≤ 39 → ¬ cl_A o i := by intro o i h1 h2; unfold cl_A; omega
  have hK2 := hK.gr hA2 hgr
  have hR2 := rm_S.gr hK hR hA2 hgr
  have ho2 : g2.1 40 = (13, 1) := by rw [hgr.2.1 40 (by omega)]; exact ho
  refine mp_eq rfl rfl (st2 := [.int (nI r.1)]) rfl ?_
  refine mp_istore X 281 (L' := [.val (.ref b), .val (.ref (G.1 + 0)), .val (.ref (G.1 + 26)), .val (.ref (G.1 + 40)), .val (.int (nI (5 * it))), .val (.int (nI (r.1))), z6]) d_L_law_279 rfl rfl hz5 rfl ?_
  refine mp_aload_n X 282 d_L_law_281 rfl rfl rfl ?_
  refine mp_aload_n X 283 d_L_law_282 rfl rfl rfl ?_
  refine mp_iload X 285 d_L_law_283 rfl rfl ?_
  refine mp_iconst X 286 (v := nI 1) d_L_law_285 rfl (by decide) ?_
  refine mp_iadd X 287 d_L_law_286 rfl ?_
  rw [nI_add]
  refine mp_sald X 288 (j := 5 * it + 1) hs d_L_law_287 rfl rfl (by omega) (by omega) ?_
  refine mp_aload_n X 289 d_L_law_288 rfl rfl rfl ?_
  refine mp_iload X 291 d_L_law_289 rfl rfl ?_
  refine mp_iconst X 292 (v := nI 2) d_L_law_291 rfl (by decide) ?_
  refine mp_iadd X 293 d_L_law_292 rfl ?_
  rw [nI_add]
  refine mp_sald X 294 (j := 5 * it + 2) hs d_L_law_293 rfl rfl (by omega) (by omega) ?_
  refine mp_aload_n X 295 d_L_law_294 rfl rfl rfl ?_
  refine mp_iload X 297 d_L_law_295 rfl rfl ?_
  refine mp_iconst X 298 (v := nI 3) d_L_law_297 rfl (by decide) ?_
  refine mp_iadd X 299 d_L_law_298 rfl ?_
  rw [nI_add]
  refine mp_sald X 300 (j := 5 * it + 3) hs d_L_law_299 rfl rfl (by omega) (by omega) ?_
  refine mp_aload_n X 301 d_L_law_300 rfl rfl rfl ?_
  refine mp_iload X 303 d_L_law_301 rfl rfl ?_
  refine mp_iconst X 304 (v := nI 4) d_L_law_303 rfl (by decide) ?_
  refine mp_iadd X 305 d_L_law_304 rfl ?_
  rw [nI_add]
  refine mp_sald X 306 (j := 5 * it + 4) hs d_L_law_305 rfl rfl (by omega) (by omega) ?_
  refine mp_call X mp_Ts_ok 309 (rest := []) (hc2 g2 hK2 hR2) Y_R_mark in_R (mp_IV X (q := (nR_R, nT_R, 17)) d_L_law_306 Y_R_mark ml_L_79 im_R_mark se_R_mark (by decide) rfl (by decide) (by show _ = some 4; decide) (hK2.sz (by decide)) hK2.ob) rfl (by decide) (by decide) (by omega) (by omega) rfl (by decide) (fun v g3 hp9 => ?_) (fun x9 h9 q9 hp9 => hp9.elim)
  obtain ⟨hcd, hR3, ⟨z, rfl, hzz⟩, hf3⟩ := hp9
  have hK3 : rm_K G g3 := hK2.frA hf3
  have ho3 : g3.1 40 = (13, 1) := by rw [hf3.1]; exact ho2
  have hI3 : lw_I G g3 r.2.2 := by
    obtain ⟨ad2, hS2⟩ := hS2
    exact ⟨hgn, ⟨ad2, hS2.gr (by intro o i hh; unfold rm_A; omega) (mp_gr.of hf3)⟩, hK3, hR3, ho3⟩
  have hc3 := cont g3 r.2.2 (.val (.int (nI r.1))) (.val (.int z)) rfl rfl hI3
  refine mp_eq rfl rfl (st2 := [.int z]) rfl ?_
  refine mp_istore X 311 (L' := [.val (.ref b), .val (.ref (G.1 + 0)), .val (.ref (G.1 + 26)), .val (.ref (G.1 + 40)), .val (.int (nI (5 * it))), .val (.int (nI (r.1))), .val (.int (z))]) d_L_law_309 rfl rfl hz6 rfl ?_
  refine mp_aload_n X 312 d_L_law_311 rfl rfl rfl ?_
  refine mp_callE X mp_Ts_ok 315 (rest := []) (k_R_thrown _ hK3 hcd) Y_R_thrown in_R (mp_IV X (q := (nR_R, nT_R, 17)) d_L_law_312 Y_R_thrown ml_L_68 im_R_thrown se_R_thrown (by decide) rfl (by decide) (by show _ = some 0; decide) (hK3.sz (by decide)) hK3.ob) rfl (by decide) (by decide) (by omega) (by omega) rfl (by decide) rfl ?_
  refine mp_iload X 317 d_L_law_315 rfl rfl ?_
  refine mp_Neq X 322 320 d_L_law_317 (by decide) rfl (by omega) (by omega) (fun q1 => ?_) (fun q1 => ?_)
  · refine mp_iload X 324 d_L_law_322 rfl rfl ?_
    refine mp_Zne X 339 327 d_L_law_324 (by decide) rfl (by omega) (fun q2 => ?_) (fun q2 => ?_)
    · refine mp_goto X 961 d_L_law_339 (by decide) ?_
      exact mp_eq_cs (by omega) (by omega) hc3
    · have hz9 := hzz q2
      subst hz9
      have hout3 : g3.2.1 40 0 = .long (r.2.1).toInt64 := by rw [hf3.2.2 40 0 (by unfold rm_A; omega)]; exact hout q2
      refine mp_aload_n X 328 d_L_law_327 rfl rfl rfl ?_
      refine mp_iconst X 329 (v := nI 0) d_L_law_328 rfl (by decide) ?_
      refine mp_lald (v := .long ((r.2.1).toInt64)) X 330 (0) d_L_law_329 rfl (hK3.sz (by decide)) ho3 rfl (by omega) (by decide) hout3 ?_
      refine mp_iload X 332 d_L_law_330 rfl rfl ?_
      refine mp_i2l X 333 d_L_law_332 rfl rfl ?_
      refine mp_lcmp X 334 d_L_law_333 rfl ?_
      rw [lg_self]
      refine mp_Zeq X 339 337 d_L_law_334 (by decide) rfl (by omega) (fun q3 => ?_) (fun q3 => ?_)
      · refine mp_goto X 961 d_L_law_339 (by decide) ?_
        exact mp_eq_cs (by omega) (by omega) hc3
      · exact absurd rfl q3
  · exact absurd rfl q1
set_option maxRecDepth 100000 in
set_option maxHeartbeats 4000000 in
theorem lw_op_tell {G : mp_G} {E : mp_E} {b n it : Nat} {xs : Nat → Int32} {rt : Option FieldType} {hh : List (Nat × Nat × Nat × Nat)} {Q : State → Prop} (X : mp_C G mp_Ts E y_L_law c_L_law 7 rt hh 10 601024 7293034) (hl0 : E.l.stackTraces = false) (hs : lw_scr G E b n xs) (hn : n ≤ 2560) (hit : 5 * it + 5 ≤ n) (cont : ∀ (g : mp_H) (S : pq_S) (z5 z6 : Slot), mp_s1 z5 = true → mp_s1 z6 = true → lw_I G g S → mp_W G E g (41 + (it + 1)) (3392 + 8 * (it + 1)) Q 961 [.val (.ref b), .val (.ref (G.1 + 0)), .val (.ref (G.1 + 26)), .val (.ref (G.1 + 40)), .val (.int (nI (5 * it))), z5, z6] [])
    {g : mp_H} {S : pq_S} {z5 z6 : Slot} (hz5 : mp_s1 z5 = true) (hz6 : mp_s1 z6 = true) (hI : lw_I G g S) : mp_W G E g (41 + it) (3392 + 8 * (it)) Q 342 [.val (.ref b), .val (.ref (G.1 + 0)), .val (.ref (G.1 + 26)), .val (.ref (G.1 + 40)), .val (.int (nI (5 * it))), z5, z6] [] := by
  obtain ⟨hg, ⟨ad, hS⟩, hK, hR, ho⟩ := hI
  have h41 : 41 ≤ g.2.2 := hK.1
  have hle : (sp_tell S (xs (5 * it + 1)) (xs (5 * it + 2)) (xs (5 * it + 3))).1 ≤ 3 := Nat.le_trans sp_le_tell (by decide)
  have hgn : sp_g (sp_tell S (xs (5 * it + 1)) (xs (5 * it + 2)) (xs (5 * it + 3))).2.2 := hg.tell
  have hc1 := k_L_tell (x := xs (5 * it + 1)) (y := xs (5 * it + 2)) (n := xs (5 * it + 3)) hl0 hS hg ho
  have hc2 : ∀ g2, rm_K G g2 → rm_S g2 S → mp_M G mp_Ts E.l y_R_tell _ 0 0 _ g2 (rm_Z g2 (sp_tell S (xs (5 * it + 1)) (xs (5 * it + 2)) (xs (5 * it + 3)))) (fun _ _ => False) := fun g2 hK2 hR2 => k_R_tell E.l hK2 hR2 hg.1
  generalize sp_tell S (xs (5 * it + 1)) (xs (5 * it + 2)) (xs (5 * it + 3)) = r at hle hgn hc1 hc2
  refine mp_aload_n X 343 d_L_law_342 rfl rfl rfl ?_
  refine mp_aload_n X 344 d_L_law_343 rfl rfl rfl ?_
  refine mp_iload X 346 d_L_law_344 rfl rfl ?_
  refine mp_iconst X 347 (v := nI 1) d_L_law_346 rfl (by decide) ?_
  refine mp_iadd X 348 d_L_law_347 rfl ?_
  rw [nI_add]
  refine mp_sald X 349 (j := 5 * it + 1) hs d_L_law_348 rfl rfl (by omega) (by omega) ?_
  refine mp_aload_n X 350 d_L_law_349 rfl rfl rfl ?_
  refine mp_iload X 352 d_L_law_350 rfl rfl ?_
  refine mp_iconst X 353 (v := nI 2) d_L_law_352 rfl (by decide) ?_
  refine mp_iadd X 354 d_L_law_353 rfl ?_
  rw [nI_add]
  refine mp_sald X 355 (j := 5 * it + 2) hs d_L_law_354 rfl rfl (by omega) (by omega) ?_
  refine mp_aload_n X 356 d_L_law_355 rfl rfl rfl ?_
  refine mp_iload X 358 d_L_law_356 rfl rfl ?_
  refine mp_iconst X 359 (v := nI 3) d_L_law_358 rfl (by decide) ?_
  refine mp_iadd X 360 d_L_law_359 rfl ?_
  rw [nI_add]
  refine mp_sald X 361 (j := 5 * it + 3) hs d_L_law_360 rfl rfl (by omega) (by omega) ?_
  refine mp_aload_n X 362 d_L_law_361 rfl rfl rfl ?_
  refine mp_call X mp_Ts_ok 365 (rest := []) hc1 Y_L_tell in_L (mp_IS X d_L_law_362 Y_L_tell ml_L_80 st_L_tell in_L (by decide) (by show _ = some 5; decide)) rfl (by decide) (by decide) (by omega) (by omega) rfl (by decide) (fun v g2 hp9 => ?_) (fun x9 h9 q9 hp9 => hp9.elim)
  obtain ⟨rfl, hS2, hgr, hout⟩ := hp9
  have hA2 : ∀ o i, 26 ≤ o → o ≤ 39 → ¬ cl_A o i := by intro o i h1 h2; unfold cl_A; omega
  have hK2 := hK.gr hA2 hgr
  have hR2 := rm_S.gr hK hR hA2 hgr
  have ho2 : g2.1 40 = (13, 1) := by rw [hgr.2.1 40 (by omega)]; exact ho
  refine mp_eq rfl rfl (st2 := [.int (nI r.1)]) rfl ?_
  refine mp_istore X 367 (L' := [.val (.ref b), .val (.ref (G.1 + 0)), .val (.ref (G.1 + 26)), .val (.ref (G.1 + 40)), .val (.int (nI (5 * it))), .val (.int (nI (r.1))), z6]) d_L_law_365 rfl rfl hz5 rfl ?_
  refine mp_aload_n X 368 d_L_law_367 rfl rfl rfl ?_
  refine mp_aload_n X 369 d_L_law_368 rfl rfl rfl ?_
  refine mp_iload X 371 d_L_law_369 rfl rfl ?_
  refine mp_iconst X 372 (v := nI 1) d_L_law_371 rfl (by decide) ?_
  refine mp_iadd X 373 d_L_law_372 rfl ?_
  rw [nI_add]
  refine mp_sald X 374 (j := 5 * it + 1) hs d_L_law_373 rfl rfl (by omega) (by omega) ?_
  refine mp_aload_n X 375 d_L_law_374 rfl rfl rfl ?_
  refine mp_iload X 377 d_L_law_375 rfl rfl ?_
  refine mp_iconst X 378 (v := nI 2) d_L_law_377 rfl (by decide) ?_
  refine mp_iadd X 379 d_L_law_378 rfl ?_
  rw [nI_add]
  refine mp_sald X 380 (j := 5 * it + 2) hs d_L_law_379 rfl rfl (by omega) (by omega) ?_
  refine mp_aload_n X 381 d_L_law_380 rfl rfl rfl ?_
  refine mp_iload X 383 d_L_law_381 rfl rfl ?_
  refine mp_iconst X 384 (v := nI 3) d_L_law_383 rfl (by decide) ?_
  refine mp_iadd X 385 d_L_law_384 rfl ?_
  rw [nI_add]
  refine mp_sald X 386 (j := 5 * it + 3) hs d_L_law_385 rfl rfl (by omega) (by omega) ?_
  refine mp_call X mp_Ts_ok 389 (rest := []) (hc2 g2 hK2 hR2) Y_R_tell in_R (mp_IV X (q := (nR_R, nT_R, 17)) d_L_law_386 Y_R_tell ml_L_83 im_R_tell se_R_tell (by decide) rfl (by decide) (by show _ = some 3; decide) (hK2.sz (by decide)) hK2.ob) rfl (by decide) (by decide) (by omega) (by omega) rfl (by decide) (fun v g3 hp9 => ?_) (fun x9 h9 q9 hp9 => hp9.elim)
  obtain ⟨hcd, hR3, ⟨z, rfl, hzz⟩, hf3⟩ := hp9
  have hK3 : rm_K G g3 := hK2.frA hf3
  have ho3 : g3.1 40 = (13, 1) := by rw [hf3.1]; exact ho2
  have hI3 : lw_I G g3 r.2.2 := by
    obtain ⟨ad2, hS2⟩ := hS2
    exact ⟨hgn, ⟨ad2, hS2.gr (by intro o i hh; unfold rm_A; omega) (mp_gr.of hf3)⟩, hK3, hR3, ho3⟩
  have hc3 := cont g3 r.2.2 (.val (.int (nI r.1))) (.val (.int z)) rfl rfl hI3
  refine mp_eq rfl rfl (st2 := [.int z]) rfl ?_
  refine mp_istore X 391 (L' := [.val (.ref b), .val (.ref (G.1 + 0)), .val (.ref (G.1 + 26)), .val (.ref (G.1 + 40)), .val (.int (nI (5 * it))), .val (.int (nI (r.1))), .val (.int (z))]) d_L_law_389 rfl rfl hz6 rfl ?_
  refine mp_aload_n X 392 d_L_law_391 rfl rfl rfl ?_
  refine mp_callE X mp_Ts_ok 395 (rest := []) (k_R_thrown _ hK3 hcd) Y_R_thrown in_R (mp_IV X (q := (nR_R, nT_R, 17)) d_L_law_392 Y_R_thrown ml_L_68 im_R_thrown se_R_thrown (by decide) rfl (by decide) (by show _ = some 0; decide) (hK3.sz (by decide)) hK3.ob) rfl (by decide) (by decide) (by omega) (by omega) rfl (by decide) rfl ?_
  refine mp_iload X 397 d_L_law_395 rfl rfl ?_
  refine mp_Neq X 402 400 d_L_law_397 (by decide) rfl (by omega) (by omega) (fun q1 => ?_) (fun q1 => ?_)
  · refine mp_iload X 404 d_L_law_402 rfl rfl ?_
    refine mp_Zne X 419 407 d_L_law_404 (by decide) rfl (by omega) (fun q2 => ?_) (fun q2 => ?_)
    · refine mp_goto X 961 d_L_law_419 (by decide) ?_
      exact mp_eq_cs (by omega) (by omega) hc3
    · have hz9 := hzz q2
      subst hz9
      have hout3 : g3.2.1 40 0 = .long (r.2.1).toInt64 := by rw [hf3.2.2 40 0 (by unfold rm_A; omega)]; exact hout q2
      refine mp_aload_n X 408 d_L_law_407 rfl rfl rfl ?_
      refine mp_iconst X 409 (v := nI 0) d_L_law_408 rfl (by decide) ?_
      refine mp_lald (v := .long ((r.2.1).toInt64)) X 410 (0) d_L_law_409 rfl (hK3.sz (by decide)) ho3 rfl (by omega) (by decide) hout3 ?_
      refine mp_iload X 412 d_L_law_410 rfl rfl ?_
      refine mp_i2l X 413 d_L_law_412 rfl rfl ?_
      refine mp_lcmp X 414 d_L_law_413 rfl ?_
      rw [lg_self]
      refine mp_Zeq X 419 417 d_L_law_414 (by decide) rfl (by omega) (fun q3 => ?_) (fun q3 => ?_)
      · refine mp_goto X 961 d_L_law_419 (by decide) ?_
        exact mp_eq_cs (by omega) (by omega) hc3
      · exact absurd rfl q3
  · exact absurd rfl q1
set_option maxRecDepth 100000 in
set_option maxHeartbeats 4000000 in
theorem lw_op_length {G : mp_G} {E : mp_E} {b n it : Nat} {xs : Nat → Int32} {rt : Option FieldType} {hh : List (Nat × Nat × Nat × Nat)} {Q : State → Prop} (X : mp_C G mp_Ts E y_L_law c_L_law 7 rt hh 10 601024 7293034) (hl0 : E.l.stackTraces = false) (hs : lw_scr G E b n xs) (hn : n ≤ 2560) (hit : 5 * it + 5 ≤ n) (cont : ∀ (g : mp_H) (S : pq_S) (z5 z6 : Slot), mp_s1 z5 = true → mp_s1 z6 = true → lw_I G g S → mp_W G E g (41 + (it + 1)) (3392 + 8 * (it + 1)) Q 961 [.val (.ref b), .val (.ref (G.1 + 0)), .val (.ref (G.1 + 26)), .val (.ref (G.1 + 40)), .val (.int (nI (5 * it))), z5, z6] [])
    {g : mp_H} {S : pq_S} {z5 z6 : Slot} (hz5 : mp_s1 z5 = true) (hz6 : mp_s1 z6 = true) (hI : lw_I G g S) : mp_W G E g (41 + it) (3392 + 8 * (it)) Q 422 [.val (.ref b), .val (.ref (G.1 + 0)), .val (.ref (G.1 + 26)), .val (.ref (G.1 + 40)), .val (.int (nI (5 * it))), z5, z6] [] := by
  obtain ⟨hg, ⟨ad, hS⟩, hK, hR, ho⟩ := hI
  have h41 : 41 ≤ g.2.2 := hK.1
  have hle : (sp_length S (xs (5 * it + 1))).1 ≤ 3 := Nat.le_trans sp_le_length (by decide)
  have hgn : sp_g (sp_length S (xs (5 * it + 1))).2.2 := hg.length
  have hc1 := k_L_length (x := xs (5 * it + 1)) hl0 hS hg ho
  have hc2 : ∀ g2, rm_K G g2 → rm_S g2 S → mp_M G mp_Ts E.l y_R_length _ 0 0 _ g2 (rm_Z g2 (sp_length S (xs (5 * it + 1)))) (fun _ _ => False) := fun g2 hK2 hR2 => k_R_length E.l hK2 hR2 hg.1
  generalize sp_length S (xs (5 * it + 1)) = r at hle hgn hc1 hc2
  refine mp_aload_n X 423 d_L_law_422 rfl rfl rfl ?_
  refine mp_aload_n X 424 d_L_law_423 rfl rfl rfl ?_
  refine mp_iload X 426 d_L_law_424 rfl rfl ?_
  refine mp_iconst X 427 (v := nI 1) d_L_law_426 rfl (by decide) ?_
  refine mp_iadd X 428 d_L_law_427 rfl ?_
  rw [nI_add]
  refine mp_sald X 429 (j := 5 * it + 1) hs d_L_law_428 rfl rfl (by omega) (by omega) ?_
  refine mp_aload_n X 430 d_L_law_429 rfl rfl rfl ?_
  refine mp_call X mp_Ts_ok 433 (rest := []) hc1 Y_L_length in_L (mp_IS X d_L_law_430 Y_L_length ml_L_84 st_L_length in_L (by decide) (by show _ = some 3; decide)) rfl (by decide) (by decide) (by omega) (by omega) rfl (by decide) (fun v g2 hp9 => ?_) (fun x9 h9 q9 hp9 => hp9.elim)
  obtain ⟨rfl, hS2, hgr, hout⟩ := hp9
  have hA2 : ∀ o i, 26 ≤ o → o ≤ 39 → ¬ cl_A o i := by intro o i h1 h2; unfold cl_A; omega
  have hK2 := hK.gr hA2 hgr
  have hR2 := rm_S.gr hK hR hA2 hgr
  have ho2 : g2.1 40 = (13, 1) := by rw [hgr.2.1 40 (by omega)]; exact ho
  refine mp_eq rfl rfl (st2 := [.int (nI r.1)]) rfl ?_
  refine mp_istore X 435 (L' := [.val (.ref b), .val (.ref (G.1 + 0)), .val (.ref (G.1 + 26)), .val (.ref (G.1 + 40)), .val (.int (nI (5 * it))), .val (.int (nI (r.1))), z6]) d_L_law_433 rfl rfl hz5 rfl ?_
  refine mp_aload_n X 436 d_L_law_435 rfl rfl rfl ?_
  refine mp_aload_n X 437 d_L_law_436 rfl rfl rfl ?_
  refine mp_iload X 439 d_L_law_437 rfl rfl ?_
  refine mp_iconst X 440 (v := nI 1) d_L_law_439 rfl (by decide) ?_
  refine mp_iadd X 441 d_L_law_440 rfl ?_
  rw [nI_add]
  refine mp_sald X 442 (j := 5 * it + 1) hs d_L_law_441 rfl rfl (by omega) (by omega) ?_
  refine mp_call X mp_Ts_ok 445 (rest := []) (hc2 g2 hK2 hR2) Y_R_length in_R (mp_IV X (q := (nR_R, nT_R, 17)) d_L_law_442 Y_R_length ml_L_87 im_R_length se_R_length (by decide) rfl (by decide) (by show _ = some 1; decide) (hK2.sz (by decide)) hK2.ob) rfl (by decide) (by decide) (by omega) (by omega) rfl (by decide) (fun v g3 hp9 => ?_) (fun x9 h9 q9 hp9 => hp9.elim)
  obtain ⟨hcd, hR3, ⟨z, rfl, hzz⟩, hf3⟩ := hp9
  have hK3 : rm_K G g3 := hK2.frA hf3
  have ho3 : g3.1 40 = (13, 1) := by rw [hf3.1]; exact ho2
  have hI3 : lw_I G g3 r.2.2 := by
    obtain ⟨ad2, hS2⟩ := hS2
    exact ⟨hgn, ⟨ad2, hS2.gr (by intro o i hh; unfold rm_A; omega) (mp_gr.of hf3)⟩, hK3, hR3, ho3⟩
  have hc3 := cont g3 r.2.2 (.val (.int (nI r.1))) (.val (.int z)) rfl rfl hI3
  refine mp_eq rfl rfl (st2 := [.int z]) rfl ?_
  refine mp_istore X 447 (L' := [.val (.ref b), .val (.ref (G.1 + 0)), .val (.ref (G.1 + 26)), .val (.ref (G.1 + 40)), .val (.int (nI (5 * it))), .val (.int (nI (r.1))), .val (.int (z))]) d_L_law_445 rfl rfl hz6 rfl ?_
  refine mp_aload_n X 448 d_L_law_447 rfl rfl rfl ?_
  refine mp_callE X mp_Ts_ok 451 (rest := []) (k_R_thrown _ hK3 hcd) Y_R_thrown in_R (mp_IV X (q := (nR_R, nT_R, 17)) d_L_law_448 Y_R_thrown ml_L_68 im_R_thrown se_R_thrown (by decide) rfl (by decide) (by show _ = some 0; decide) (hK3.sz (by decide)) hK3.ob) rfl (by decide) (by decide) (by omega) (by omega) rfl (by decide) rfl ?_
  refine mp_iload X 453 d_L_law_451 rfl rfl ?_
  refine mp_Neq X 458 456 d_L_law_453 (by decide) rfl (by omega) (by omega) (fun q1 => ?_) (fun q1 => ?_)
  · refine mp_iload X 460 d_L_law_458 rfl rfl ?_
    refine mp_Zne X 475 463 d_L_law_460 (by decide) rfl (by omega) (fun q2 => ?_) (fun q2 => ?_)
    · refine mp_goto X 961 d_L_law_475 (by decide) ?_
      exact mp_eq_cs (by omega) (by omega) hc3
    · have hz9 := hzz q2
      subst hz9
      have hout3 : g3.2.1 40 0 = .long (r.2.1).toInt64 := by rw [hf3.2.2 40 0 (by unfold rm_A; omega)]; exact hout q2
      refine mp_aload_n X 464 d_L_law_463 rfl rfl rfl ?_
      refine mp_iconst X 465 (v := nI 0) d_L_law_464 rfl (by decide) ?_
      refine mp_lald (v := .long ((r.2.1).toInt64)) X 466 (0) d_L_law_465 rfl (hK3.sz (by decide)) ho3 rfl (by omega) (by decide) hout3 ?_
      refine mp_iload X 468 d_L_law_466 rfl rfl ?_
      refine mp_i2l X 469 d_L_law_468 rfl rfl ?_
      refine mp_lcmp X 470 d_L_law_469 rfl ?_
      rw [lg_self]
      refine mp_Zeq X 475 473 d_L_law_470 (by decide) rfl (by omega) (fun q3 => ?_) (fun q3 => ?_)
      · refine mp_goto X 961 d_L_law_475 (by decide) ?_
        exact mp_eq_cs (by omega) (by omega) hc3
      · exact absurd rfl q3
  · exact absurd rfl q1
set_option maxRecDepth 100000 in
set_option maxHeartbeats 4000000 in
theorem lw_op_at {G : mp_G} {E : mp_E} {b n it : Nat} {xs : Nat → Int32} {rt : Option FieldType} {hh : List (Nat × Nat × Nat × Nat)} {Q : State → Prop} (X : mp_C G mp_Ts E y_L_law c_L_law 7 rt hh 10 601024 7293034) (hl0 : E.l.stackTraces = false) (hs : lw_scr G E b n xs) (hn : n ≤ 2560) (hit : 5 * it + 5 ≤ n) (cont : ∀ (g : mp_H) (S : pq_S) (z5 z6 : Slot), mp_s1 z5 = true → mp_s1 z6 = true → lw_I G g S → mp_W G E g (41 + (it + 1)) (3392 + 8 * (it + 1)) Q 961 [.val (.ref b), .val (.ref (G.1 + 0)), .val (.ref (G.1 + 26)), .val (.ref (G.1 + 40)), .val (.int (nI (5 * it))), z5, z6] [])
    {g : mp_H} {S : pq_S} {z5 z6 : Slot} (hz5 : mp_s1 z5 = true) (hz6 : mp_s1 z6 = true) (hI : lw_I G g S) : mp_W G E g (41 + it) (3392 + 8 * (it)) Q 478 [.val (.ref b), .val (.ref (G.1 + 0)), .val (.ref (G.1 + 26)), .val (.ref (G.1 + 40)), .val (.int (nI (5 * it))), z5, z6] [] := by
  obtain ⟨hg, ⟨ad, hS⟩, hK, hR, ho⟩ := hI
  have h41 : 41 ≤ g.2.2 := hK.1
  have hle : (sp_at S (xs (5 * it + 1)) (xs (5 * it + 2))).1 ≤ 3 := Nat.le_trans sp_le_get (by decide)
  have hgn : sp_g (sp_at S (xs (5 * it + 1)) (xs (5 * it + 2))).2.2 := hg.at
  have hc1 := k_L_at (x := xs (5 * it + 1)) (p := xs (5 * it + 2)) hl0 hS hg ho
  have hc2 : ∀ g2, rm_K G g2 → rm_S g2 S → mp_M G mp_Ts E.l y_R_at _ 0 0 _ g2 (rm_Z g2 (sp_at S (xs (5 * it + 1)) (xs (5 * it + 2)))) (fun _ _ => False) := fun g2 hK2 hR2 => k_R_at E.l hK2 hR2 hg.1 hg.2
  generalize sp_at S (xs (5 * it + 1)) (xs (5 * it + 2)) = r at hle hgn hc1 hc2
  refine mp_aload_n X 479 d_L_law_478 rfl rfl rfl ?_
  refine mp_aload_n X 480 d_L_law_479 rfl rfl rfl ?_
  refine mp_iload X 482 d_L_law_480 rfl rfl ?_
  refine mp_iconst X 483 (v := nI 1) d_L_law_482 rfl (by decide) ?_
  refine mp_iadd X 484 d_L_law_483 rfl ?_
  rw [nI_add]
  refine mp_sald X 485 (j := 5 * it + 1) hs d_L_law_484 rfl rfl (by omega) (by omega) ?_
  refine mp_aload_n X 486 d_L_law_485 rfl rfl rfl ?_
  refine mp_iload X 488 d_L_law_486 rfl rfl ?_
  refine mp_iconst X 489 (v := nI 2) d_L_law_488 rfl (by decide) ?_
  refine mp_iadd X 490 d_L_law_489 rfl ?_
  rw [nI_add]
  refine mp_sald X 491 (j := 5 * it + 2) hs d_L_law_490 rfl rfl (by omega) (by omega) ?_
  refine mp_aload_n X 492 d_L_law_491 rfl rfl rfl ?_
  refine mp_call X mp_Ts_ok 495 (rest := []) hc1 Y_L_at in_L (mp_IS X d_L_law_492 Y_L_at ml_L_88 st_L_at in_L (by decide) (by show _ = some 4; decide)) rfl (by decide) (by decide) (by omega) (by omega) rfl (by decide) (fun v g2 hp9 => ?_) (fun x9 h9 q9 hp9 => hp9.elim)
  obtain ⟨rfl, hS2, hgr, hout⟩ := hp9
  have hA2 : ∀ o i, 26 ≤ o → o ≤ 39 → ¬ cl_A o i := by intro o i h1 h2; unfold cl_A; omega
  have hK2 := hK.gr hA2 hgr
  have hR2 := rm_S.gr hK hR hA2 hgr
  have ho2 : g2.1 40 = (13, 1) := by rw [hgr.2.1 40 (by omega)]; exact ho
  refine mp_eq rfl rfl (st2 := [.int (nI r.1)]) rfl ?_
  refine mp_istore X 497 (L' := [.val (.ref b), .val (.ref (G.1 + 0)), .val (.ref (G.1 + 26)), .val (.ref (G.1 + 40)), .val (.int (nI (5 * it))), .val (.int (nI (r.1))), z6]) d_L_law_495 rfl rfl hz5 rfl ?_
  refine mp_aload_n X 498 d_L_law_497 rfl rfl rfl ?_
  refine mp_aload_n X 499 d_L_law_498 rfl rfl rfl ?_
  refine mp_iload X 501 d_L_law_499 rfl rfl ?_
  refine mp_iconst X 502 (v := nI 1) d_L_law_501 rfl (by decide) ?_
  refine mp_iadd X 503 d_L_law_502 rfl ?_
  rw [nI_add]
  refine mp_sald X 504 (j := 5 * it + 1) hs d_L_law_503 rfl rfl (by omega) (by omega) ?_
  refine mp_aload_n X 505 d_L_law_504 rfl rfl rfl ?_
  refine mp_iload X 507 d_L_law_505 rfl rfl ?_
  refine mp_iconst X 508 (v := nI 2) d_L_law_507 rfl (by decide) ?_
  refine mp_iadd X 509 d_L_law_508 rfl ?_
  rw [nI_add]
  refine mp_sald X 510 (j := 5 * it + 2) hs d_L_law_509 rfl rfl (by omega) (by omega) ?_
  refine mp_call X mp_Ts_ok 513 (rest := []) (hc2 g2 hK2 hR2) Y_R_at in_R (mp_IV X (q := (nR_R, nT_R, 17)) d_L_law_510 Y_R_at ml_L_90 im_R_at se_R_at (by decide) rfl (by decide) (by show _ = some 2; decide) (hK2.sz (by decide)) hK2.ob) rfl (by decide) (by decide) (by omega) (by omega) rfl (by decide) (fun v g3 hp9 => ?_) (fun x9 h9 q9 hp9 => hp9.elim)
  obtain ⟨hcd, hR3, ⟨z, rfl, hzz⟩, hf3⟩ := hp9
  have hK3 : rm_K G g3 := hK2.frA hf3
  have ho3 : g3.1 40 = (13, 1) := by rw [hf3.1]; exact ho2
  have hI3 : lw_I G g3 r.2.2 := by
    obtain ⟨ad2, hS2⟩ := hS2
    exact ⟨hgn, ⟨ad2, hS2.gr (by intro o i hh; unfold rm_A; omega) (mp_gr.of hf3)⟩, hK3, hR3, ho3⟩
  have hc3 := cont g3 r.2.2 (.val (.int (nI r.1))) (.val (.int z)) rfl rfl hI3
  refine mp_eq rfl rfl (st2 := [.int z]) rfl ?_
  refine mp_istore X 515 (L' := [.val (.ref b), .val (.ref (G.1 + 0)), .val (.ref (G.1 + 26)), .val (.ref (G.1 + 40)), .val (.int (nI (5 * it))), .val (.int (nI (r.1))), .val (.int (z))]) d_L_law_513 rfl rfl hz6 rfl ?_
  refine mp_aload_n X 516 d_L_law_515 rfl rfl rfl ?_
  refine mp_callE X mp_Ts_ok 519 (rest := []) (k_R_thrown _ hK3 hcd) Y_R_thrown in_R (mp_IV X (q := (nR_R, nT_R, 17)) d_L_law_516 Y_R_thrown ml_L_68 im_R_thrown se_R_thrown (by decide) rfl (by decide) (by show _ = some 0; decide) (hK3.sz (by decide)) hK3.ob) rfl (by decide) (by decide) (by omega) (by omega) rfl (by decide) rfl ?_
  refine mp_iload X 521 d_L_law_519 rfl rfl ?_
  refine mp_Neq X 526 524 d_L_law_521 (by decide) rfl (by omega) (by omega) (fun q1 => ?_) (fun q1 => ?_)
  · refine mp_iload X 528 d_L_law_526 rfl rfl ?_
    refine mp_Zne X 543 531 d_L_law_528 (by decide) rfl (by omega) (fun q2 => ?_) (fun q2 => ?_)
    · refine mp_goto X 961 d_L_law_543 (by decide) ?_
      exact mp_eq_cs (by omega) (by omega) hc3
    · have hz9 := hzz q2
      subst hz9
      have hout3 : g3.2.1 40 0 = .long (r.2.1).toInt64 := by rw [hf3.2.2 40 0 (by unfold rm_A; omega)]; exact hout q2
      refine mp_aload_n X 532 d_L_law_531 rfl rfl rfl ?_
      refine mp_iconst X 533 (v := nI 0) d_L_law_532 rfl (by decide) ?_
      refine mp_lald (v := .long ((r.2.1).toInt64)) X 534 (0) d_L_law_533 rfl (hK3.sz (by decide)) ho3 rfl (by omega) (by decide) hout3 ?_
      refine mp_iload X 536 d_L_law_534 rfl rfl ?_
      refine mp_i2l X 537 d_L_law_536 rfl rfl ?_
      refine mp_lcmp X 538 d_L_law_537 rfl ?_
      rw [lg_self]
      refine mp_Zeq X 543 541 d_L_law_538 (by decide) rfl (by omega) (fun q3 => ?_) (fun q3 => ?_)
      · refine mp_goto X 961 d_L_law_543 (by decide) ?_
        exact mp_eq_cs (by omega) (by omega) hc3
      · exact absurd rfl q3
  · exact absurd rfl q1
set_option maxRecDepth 100000 in
set_option maxHeartbeats 4000000 in
theorem lw_op_format {G : mp_G} {E : mp_E} {b n it : Nat} {xs : Nat → Int32} {rt : Option FieldType} {hh : List (Nat × Nat × Nat × Nat)} {Q : State → Prop} (X : mp_C G mp_Ts E y_L_law c_L_law 7 rt hh 10 601024 7293034) (hl0 : E.l.stackTraces = false) (hs : lw_scr G E b n xs) (hn : n ≤ 2560) (hit : 5 * it + 5 ≤ n) (cont : ∀ (g : mp_H) (S : pq_S) (z5 z6 : Slot), mp_s1 z5 = true → mp_s1 z6 = true → lw_I G g S → mp_W G E g (41 + (it + 1)) (3392 + 8 * (it + 1)) Q 961 [.val (.ref b), .val (.ref (G.1 + 0)), .val (.ref (G.1 + 26)), .val (.ref (G.1 + 40)), .val (.int (nI (5 * it))), z5, z6] [])
    {g : mp_H} {S : pq_S} {z5 z6 : Slot} (hz5 : mp_s1 z5 = true) (hz6 : mp_s1 z6 = true) (hI : lw_I G g S) : mp_W G E g (41 + it) (3392 + 8 * (it)) Q 546 [.val (.ref b), .val (.ref (G.1 + 0)), .val (.ref (G.1 + 26)), .val (.ref (G.1 + 40)), .val (.int (nI (5 * it))), z5, z6] [] := by
  obtain ⟨hg, ⟨ad, hS⟩, hK, hR, ho⟩ := hI
  have h41 : 41 ≤ g.2.2 := hK.1
  have hle : (sp_format S (xs (5 * it + 1)) (xs (5 * it + 2))).1 ≤ 3 := Nat.le_trans sp_le_get (by decide)
  have hgn : sp_g (sp_format S (xs (5 * it + 1)) (xs (5 * it + 2))).2.2 := hg.format
  have hc1 := k_L_format (x := xs (5 * it + 1)) (p := xs (5 * it + 2)) hl0 hS hg ho
  have hc2 : ∀ g2, rm_K G g2 → rm_S g2 S → mp_M G mp_Ts E.l y_R_format _ 0 0 _ g2 (rm_Z g2 (sp_format S (xs (5 * it + 1)) (xs (5 * it + 2)))) (fun _ _ => False) := fun g2 hK2 hR2 => k_R_format E.l hK2 hR2 hg.1
  generalize sp_format S (xs (5 * it + 1)) (xs (5 * it + 2)) = r at hle hgn hc1 hc2
  refine mp_aload_n X 547 d_L_law_546 rfl rfl rfl ?_
  refine mp_aload_n X 548 d_L_law_547 rfl rfl rfl ?_
  refine mp_iload X 550 d_L_law_548 rfl rfl ?_
  refine mp_iconst X 551 (v := nI 1) d_L_law_550 rfl (by decide) ?_
  refine mp_iadd X 552 d_L_law_551 rfl ?_
  rw [nI_add]
  refine mp_sald X 553 (j := 5 * it + 1) hs d_L_law_552 rfl rfl (by omega) (by omega) ?_
  refine mp_aload_n X 554 d_L_law_553 rfl rfl rfl ?_
  refine mp_iload X 556 d_L_law_554 rfl rfl ?_
  refine mp_iconst X 557 (v := nI 2) d_L_law_556 rfl (by decide) ?_
  refine mp_iadd X 558 d_L_law_557 rfl ?_
  rw [nI_add]
  refine mp_sald X 559 (j := 5 * it + 2) hs d_L_law_558 rfl rfl (by omega) (by omega) ?_
  refine mp_aload_n X 560 d_L_law_559 rfl rfl rfl ?_
  refine mp_call X mp_Ts_ok 563 (rest := []) hc1 Y_L_format in_L (mp_IS X d_L_law_560 Y_L_format ml_L_91 st_L_format in_L (by decide) (by show _ = some 4; decide)) rfl (by decide) (by decide) (by omega) (by omega) rfl (by decide) (fun v g2 hp9 => ?_) (fun x9 h9 q9 hp9 => hp9.elim)
  obtain ⟨rfl, hS2, hgr, hout⟩ := hp9
  have hA2 : ∀ o i, 26 ≤ o → o ≤ 39 → ¬ cl_A o i := by intro o i h1 h2; unfold cl_A; omega
  have hK2 := hK.gr hA2 hgr
  have hR2 := rm_S.gr hK hR hA2 hgr
  have ho2 : g2.1 40 = (13, 1) := by rw [hgr.2.1 40 (by omega)]; exact ho
  refine mp_eq rfl rfl (st2 := [.int (nI r.1)]) rfl ?_
  refine mp_istore X 565 (L' := [.val (.ref b), .val (.ref (G.1 + 0)), .val (.ref (G.1 + 26)), .val (.ref (G.1 + 40)), .val (.int (nI (5 * it))), .val (.int (nI (r.1))), z6]) d_L_law_563 rfl rfl hz5 rfl ?_
  refine mp_aload_n X 566 d_L_law_565 rfl rfl rfl ?_
  refine mp_aload_n X 567 d_L_law_566 rfl rfl rfl ?_
  refine mp_iload X 569 d_L_law_567 rfl rfl ?_
  refine mp_iconst X 570 (v := nI 1) d_L_law_569 rfl (by decide) ?_
  refine mp_iadd X 571 d_L_law_570 rfl ?_
  rw [nI_add]
  refine mp_sald X 572 (j := 5 * it + 1) hs d_L_law_571 rfl rfl (by omega) (by omega) ?_
  refine mp_aload_n X 573 d_L_law_572 rfl rfl rfl ?_
  refine mp_iload X 575 d_L_law_573 rfl rfl ?_
  refine mp_iconst X 576 (v := nI 2) d_L_law_575 rfl (by decide) ?_
  refine mp_iadd X 577 d_L_law_576 rfl ?_
  rw [nI_add]
  refine mp_sald X 578 (j := 5 * it + 2) hs d_L_law_577 rfl rfl (by omega) (by omega) ?_
  refine mp_call X mp_Ts_ok 581 (rest := []) (hc2 g2 hK2 hR2) Y_R_format in_R (mp_IV X (q := (nR_R, nT_R, 17)) d_L_law_578 Y_R_format ml_L_93 im_R_format se_R_format (by decide) rfl (by decide) (by show _ = some 2; decide) (hK2.sz (by decide)) hK2.ob) rfl (by decide) (by decide) (by omega) (by omega) rfl (by decide) (fun v g3 hp9 => ?_) (fun x9 h9 q9 hp9 => hp9.elim)
  obtain ⟨hcd, hR3, ⟨z, rfl, hzz⟩, hf3⟩ := hp9
  have hK3 : rm_K G g3 := hK2.frA hf3
  have ho3 : g3.1 40 = (13, 1) := by rw [hf3.1]; exact ho2
  have hI3 : lw_I G g3 r.2.2 := by
    obtain ⟨ad2, hS2⟩ := hS2
    exact ⟨hgn, ⟨ad2, hS2.gr (by intro o i hh; unfold rm_A; omega) (mp_gr.of hf3)⟩, hK3, hR3, ho3⟩
  have hc3 := cont g3 r.2.2 (.val (.int (nI r.1))) (.val (.int z)) rfl rfl hI3
  refine mp_eq rfl rfl (st2 := [.int z]) rfl ?_
  refine mp_istore X 583 (L' := [.val (.ref b), .val (.ref (G.1 + 0)), .val (.ref (G.1 + 26)), .val (.ref (G.1 + 40)), .val (.int (nI (5 * it))), .val (.int (nI (r.1))), .val (.int (z))]) d_L_law_581 rfl rfl hz6 rfl ?_
  refine mp_aload_n X 584 d_L_law_583 rfl rfl rfl ?_
  refine mp_callE X mp_Ts_ok 587 (rest := []) (k_R_thrown _ hK3 hcd) Y_R_thrown in_R (mp_IV X (q := (nR_R, nT_R, 17)) d_L_law_584 Y_R_thrown ml_L_68 im_R_thrown se_R_thrown (by decide) rfl (by decide) (by show _ = some 0; decide) (hK3.sz (by decide)) hK3.ob) rfl (by decide) (by decide) (by omega) (by omega) rfl (by decide) rfl ?_
  refine mp_iload X 589 d_L_law_587 rfl rfl ?_
  refine mp_Neq X 594 592 d_L_law_589 (by decide) rfl (by omega) (by omega) (fun q1 => ?_) (fun q1 => ?_)
  · refine mp_iload X 596 d_L_law_594 rfl rfl ?_
    refine mp_Zne X 611 599 d_L_law_596 (by decide) rfl (by omega) (fun q2 => ?_) (fun q2 => ?_)
    · refine mp_goto X 961 d_L_law_611 (by decide) ?_
      exact mp_eq_cs (by omega) (by omega) hc3
    · have hz9 := hzz q2
      subst hz9
      have hout3 : g3.2.1 40 0 = .long (r.2.1).toInt64 := by rw [hf3.2.2 40 0 (by unfold rm_A; omega)]; exact hout q2
      refine mp_aload_n X 600 d_L_law_599 rfl rfl rfl ?_
      refine mp_iconst X 601 (v := nI 0) d_L_law_600 rfl (by decide) ?_
      refine mp_lald (v := .long ((r.2.1).toInt64)) X 602 (0) d_L_law_601 rfl (hK3.sz (by decide)) ho3 rfl (by omega) (by decide) hout3 ?_
      refine mp_iload X 604 d_L_law_602 rfl rfl ?_
      refine mp_i2l X 605 d_L_law_604 rfl rfl ?_
      refine mp_lcmp X 606 d_L_law_605 rfl ?_
      rw [lg_self]
      refine mp_Zeq X 611 609 d_L_law_606 (by decide) rfl (by omega) (fun q3 => ?_) (fun q3 => ?_)
      · refine mp_goto X 961 d_L_law_611 (by decide) ?_
        exact mp_eq_cs (by omega) (by omega) hc3
      · exact absurd rfl q3
  · exact absurd rfl q1
set_option maxRecDepth 100000 in
set_option maxHeartbeats 4000000 in
theorem lw_op_id {G : mp_G} {E : mp_E} {b n it : Nat} {xs : Nat → Int32} {rt : Option FieldType} {hh : List (Nat × Nat × Nat × Nat)} {Q : State → Prop} (X : mp_C G mp_Ts E y_L_law c_L_law 7 rt hh 10 601024 7293034) (hl0 : E.l.stackTraces = false) (hs : lw_scr G E b n xs) (hn : n ≤ 2560) (hit : 5 * it + 5 ≤ n) (cont : ∀ (g : mp_H) (S : pq_S) (z5 z6 : Slot), mp_s1 z5 = true → mp_s1 z6 = true → lw_I G g S → mp_W G E g (41 + (it + 1)) (3392 + 8 * (it + 1)) Q 961 [.val (.ref b), .val (.ref (G.1 + 0)), .val (.ref (G.1 + 26)), .val (.ref (G.1 + 40)), .val (.int (nI (5 * it))), z5, z6] [])
    {g : mp_H} {S : pq_S} {z5 z6 : Slot} (hz5 : mp_s1 z5 = true) (hz6 : mp_s1 z6 = true) (hI : lw_I G g S) : mp_W G E g (41 + it) (3392 + 8 * (it)) Q 614 [.val (.ref b), .val (.ref (G.1 + 0)), .val (.ref (G.1 + 26)), .val (.ref (G.1 + 40)), .val (.int (nI (5 * it))), z5, z6] [] := by
  obtain ⟨hg, ⟨ad, hS⟩, hK, hR, ho⟩ := hI
  have h41 : 41 ≤ g.2.2 := hK.1
  have hle : (sp_id S (xs (5 * it + 1)) (xs (5 * it + 2))).1 ≤ 3 := Nat.le_trans sp_le_get (by decide)
  have hgn : sp_g (sp_id S (xs (5 * it + 1)) (xs (5 * it + 2))).2.2 := hg.id
  have hc1 := k_L_id (x := xs (5 * it + 1)) (p := xs (5 * it + 2)) hl0 hS hg ho
  have hc2 : ∀ g2, rm_K G g2 → rm_S g2 S → mp_M G mp_Ts E.l y_R_id _ 0 0 _ g2 (rm_Z g2 (sp_id S (xs (5 * it + 1)) (xs (5 * it + 2)))) (fun _ _ => False) := fun g2 hK2 hR2 => k_R_id E.l hK2 hR2 hg.1
  generalize sp_id S (xs (5 * it + 1)) (xs (5 * it + 2)) = r at hle hgn hc1 hc2
  refine mp_aload_n X 615 d_L_law_614 rfl rfl rfl ?_
  refine mp_aload_n X 616 d_L_law_615 rfl rfl rfl ?_
  refine mp_iload X 618 d_L_law_616 rfl rfl ?_
  refine mp_iconst X 619 (v := nI 1) d_L_law_618 rfl (by decide) ?_
  refine mp_iadd X 620 d_L_law_619 rfl ?_
  rw [nI_add]
  refine mp_sald X 621 (j := 5 * it + 1) hs d_L_law_620 rfl rfl (by omega) (by omega) ?_
  refine mp_aload_n X 622 d_L_law_621 rfl rfl rfl ?_
  refine mp_iload X 624 d_L_law_622 rfl rfl ?_
  refine mp_iconst X 625 (v := nI 2) d_L_law_624 rfl (by decide) ?_
  refine mp_iadd X 626 d_L_law_625 rfl ?_
  rw [nI_add]
  refine mp_sald X 627 (j := 5 * it + 2) hs d_L_law_626 rfl rfl (by omega) (by omega) ?_
  refine mp_aload_n X 628 d_L_law_627 rfl rfl rfl ?_
  refine mp_call X mp_Ts_ok 631 (rest := []) hc1 Y_L_id in_L (mp_IS X d_L_law_628 Y_L_id ml_L_94 st_L_id in_L (by decide) (by show _ = some 4; decide)) rfl (by decide) (by decide) (by omega) (by omega) rfl (by decide) (fun v g2 hp9 => ?_) (fun x9 h9 q9 hp9 => hp9.elim)
  obtain ⟨rfl, hS2, hgr, hout⟩ := hp9
  have hA2 : ∀ o i, 26 ≤ o → o ≤ 39 → ¬ cl_A o i := by intro o i h1 h2; unfold cl_A; omega
  have hK2 := hK.gr hA2 hgr
  have hR2 := rm_S.gr hK hR hA2 hgr
  have ho2 : g2.1 40 = (13, 1) := by rw [hgr.2.1 40 (by omega)]; exact ho
  refine mp_eq rfl rfl (st2 := [.int (nI r.1)]) rfl ?_
  refine mp_istore X 633 (L' := [.val (.ref b), .val (.ref (G.1 + 0)), .val (.ref (G.1 + 26)), .val (.ref (G.1 + 40)), .val (.int (nI (5 * it))), .val (.int (nI (r.1))), z6]) d_L_law_631 rfl rfl hz5 rfl ?_
  refine mp_aload_n X 634 d_L_law_633 rfl rfl rfl ?_
  refine mp_aload_n X 635 d_L_law_634 rfl rfl rfl ?_
  refine mp_iload X 637 d_L_law_635 rfl rfl ?_
  refine mp_iconst X 638 (v := nI 1) d_L_law_637 rfl (by decide) ?_
  refine mp_iadd X 639 d_L_law_638 rfl ?_
  rw [nI_add]
  refine mp_sald X 640 (j := 5 * it + 1) hs d_L_law_639 rfl rfl (by omega) (by omega) ?_
  refine mp_aload_n X 641 d_L_law_640 rfl rfl rfl ?_
  refine mp_iload X 643 d_L_law_641 rfl rfl ?_
  refine mp_iconst X 644 (v := nI 2) d_L_law_643 rfl (by decide) ?_
  refine mp_iadd X 645 d_L_law_644 rfl ?_
  rw [nI_add]
  refine mp_sald X 646 (j := 5 * it + 2) hs d_L_law_645 rfl rfl (by omega) (by omega) ?_
  refine mp_call X mp_Ts_ok 649 (rest := []) (hc2 g2 hK2 hR2) Y_R_id in_R (mp_IV X (q := (nR_R, nT_R, 17)) d_L_law_646 Y_R_id ml_L_96 im_R_id se_R_id (by decide) rfl (by decide) (by show _ = some 2; decide) (hK2.sz (by decide)) hK2.ob) rfl (by decide) (by decide) (by omega) (by omega) rfl (by decide) (fun v g3 hp9 => ?_) (fun x9 h9 q9 hp9 => hp9.elim)
  obtain ⟨hcd, hR3, ⟨z, rfl, hzz⟩, hf3⟩ := hp9
  have hK3 : rm_K G g3 := hK2.frA hf3
  have ho3 : g3.1 40 = (13, 1) := by rw [hf3.1]; exact ho2
  have hI3 : lw_I G g3 r.2.2 := by
    obtain ⟨ad2, hS2⟩ := hS2
    exact ⟨hgn, ⟨ad2, hS2.gr (by intro o i hh; unfold rm_A; omega) (mp_gr.of hf3)⟩, hK3, hR3, ho3⟩
  have hc3 := cont g3 r.2.2 (.val (.int (nI r.1))) (.val (.int z)) rfl rfl hI3
  refine mp_eq rfl rfl (st2 := [.int z]) rfl ?_
  refine mp_istore X 651 (L' := [.val (.ref b), .val (.ref (G.1 + 0)), .val (.ref (G.1 + 26)), .val (.ref (G.1 + 40)), .val (.int (nI (5 * it))), .val (.int (nI (r.1))), .val (.int (z))]) d_L_law_649 rfl rfl hz6 rfl ?_
  refine mp_aload_n X 652 d_L_law_651 rfl rfl rfl ?_
  refine mp_callE X mp_Ts_ok 655 (rest := []) (k_R_thrown _ hK3 hcd) Y_R_thrown in_R (mp_IV X (q := (nR_R, nT_R, 17)) d_L_law_652 Y_R_thrown ml_L_68 im_R_thrown se_R_thrown (by decide) rfl (by decide) (by show _ = some 0; decide) (hK3.sz (by decide)) hK3.ob) rfl (by decide) (by decide) (by omega) (by omega) rfl (by decide) rfl ?_
  refine mp_iload X 657 d_L_law_655 rfl rfl ?_
  refine mp_Neq X 662 660 d_L_law_657 (by decide) rfl (by omega) (by omega) (fun q1 => ?_) (fun q1 => ?_)
  · refine mp_iload X 664 d_L_law_662 rfl rfl ?_
    refine mp_Zne X 679 667 d_L_law_664 (by decide) rfl (by omega) (fun q2 => ?_) (fun q2 => ?_)
    · refine mp_goto X 961 d_L_law_679 (by decide) ?_
      exact mp_eq_cs (by omega) (by omega) hc3
    · have hz9 := hzz q2
      subst hz9
      have hout3 : g3.2.1 40 0 = .long (r.2.1).toInt64 := by rw [hf3.2.2 40 0 (by unfold rm_A; omega)]; exact hout q2
      refine mp_aload_n X 668 d_L_law_667 rfl rfl rfl ?_
      refine mp_iconst X 669 (v := nI 0) d_L_law_668 rfl (by decide) ?_
      refine mp_lald (v := .long ((r.2.1).toInt64)) X 670 (0) d_L_law_669 rfl (hK3.sz (by decide)) ho3 rfl (by omega) (by decide) hout3 ?_
      refine mp_iload X 672 d_L_law_670 rfl rfl ?_
      refine mp_i2l X 673 d_L_law_672 rfl rfl ?_
      refine mp_lcmp X 674 d_L_law_673 rfl ?_
      rw [lg_self]
      refine mp_Zeq X 679 677 d_L_law_674 (by decide) rfl (by omega) (fun q3 => ?_) (fun q3 => ?_)
      · refine mp_goto X 961 d_L_law_679 (by decide) ?_
        exact mp_eq_cs (by omega) (by omega) hc3
      · exact absurd rfl q3
  · exact absurd rfl q1
set_option maxRecDepth 100000 in
set_option maxHeartbeats 4000000 in
theorem lw_op_runs {G : mp_G} {E : mp_E} {b n it : Nat} {xs : Nat → Int32} {rt : Option FieldType} {hh : List (Nat × Nat × Nat × Nat)} {Q : State → Prop} (X : mp_C G mp_Ts E y_L_law c_L_law 7 rt hh 10 601024 7293034) (hl0 : E.l.stackTraces = false) (hs : lw_scr G E b n xs) (hn : n ≤ 2560) (hit : 5 * it + 5 ≤ n) (cont : ∀ (g : mp_H) (S : pq_S) (z5 z6 : Slot), mp_s1 z5 = true → mp_s1 z6 = true → lw_I G g S → mp_W G E g (41 + (it + 1)) (3392 + 8 * (it + 1)) Q 961 [.val (.ref b), .val (.ref (G.1 + 0)), .val (.ref (G.1 + 26)), .val (.ref (G.1 + 40)), .val (.int (nI (5 * it))), z5, z6] [])
    {g : mp_H} {S : pq_S} {z5 z6 : Slot} (hz5 : mp_s1 z5 = true) (hz6 : mp_s1 z6 = true) (hI : lw_I G g S) : mp_W G E g (41 + it) (3392 + 8 * (it)) Q 682 [.val (.ref b), .val (.ref (G.1 + 0)), .val (.ref (G.1 + 26)), .val (.ref (G.1 + 40)), .val (.int (nI (5 * it))), z5, z6] [] := by
  obtain ⟨hg, ⟨ad, hS⟩, hK, hR, ho⟩ := hI
  have h41 : 41 ≤ g.2.2 := hK.1
  have hle : (sp_runs S (xs (5 * it + 1))).1 ≤ 3 := Nat.le_trans sp_le_runs (by decide)
  have hgn : sp_g (sp_runs S (xs (5 * it + 1))).2.2 := hg.runs
  have hc1 := k_L_runs (x := xs (5 * it + 1)) hl0 hS hg ho
  have hc2 : ∀ g2, rm_K G g2 → rm_S g2 S → mp_M G mp_Ts E.l y_R_runs _ 0 0 _ g2 (rm_Z g2 (sp_runs S (xs (5 * it + 1)))) (fun _ _ => False) := fun g2 hK2 hR2 => k_R_runs E.l hK2 hR2 hg.1
  generalize sp_runs S (xs (5 * it + 1)) = r at hle hgn hc1 hc2
  refine mp_aload_n X 683 d_L_law_682 rfl rfl rfl ?_
  refine mp_aload_n X 684 d_L_law_683 rfl rfl rfl ?_
  refine mp_iload X 686 d_L_law_684 rfl rfl ?_
  refine mp_iconst X 687 (v := nI 1) d_L_law_686 rfl (by decide) ?_
  refine mp_iadd X 688 d_L_law_687 rfl ?_
  rw [nI_add]
  refine mp_sald X 689 (j := 5 * it + 1) hs d_L_law_688 rfl rfl (by omega) (by omega) ?_
  refine mp_aload_n X 690 d_L_law_689 rfl rfl rfl ?_
  refine mp_call X mp_Ts_ok 693 (rest := []) hc1 Y_L_runs in_L (mp_IS X d_L_law_690 Y_L_runs ml_L_97 st_L_runs in_L (by decide) (by show _ = some 3; decide)) rfl (by decide) (by decide) (by omega) (by omega) rfl (by decide) (fun v g2 hp9 => ?_) (fun x9 h9 q9 hp9 => hp9.elim)
  obtain ⟨rfl, hS2, hgr, hout⟩ := hp9
  have hA2 : ∀ o i, 26 ≤ o → o ≤ 39 → ¬ cl_A o i := by intro o i h1 h2; unfold cl_A; omega
  have hK2 := hK.gr hA2 hgr
  have hR2 := rm_S.gr hK hR hA2 hgr
  have ho2 : g2.1 40 = (13, 1) := by rw [hgr.2.1 40 (by omega)]; exact ho
  refine mp_eq rfl rfl (st2 := [.int (nI r.1)]) rfl ?_
  refine mp_istore X 695 (L' := [.val (.ref b), .val (.ref (G.1 + 0)), .val (.ref (G.1 + 26)), .val (.ref (G.1 + 40)), .val (.int (nI (5 * it))), .val (.int (nI (r.1))), z6]) d_L_law_693 rfl rfl hz5 rfl ?_
  refine mp_aload_n X 696 d_L_law_695 rfl rfl rfl ?_
  refine mp_aload_n X 697 d_L_law_696 rfl rfl rfl ?_
  refine mp_iload X 699 d_L_law_697 rfl rfl ?_
  refine mp_iconst X 700 (v := nI 1) d_L_law_699 rfl (by decide) ?_
  refine mp_iadd X 701 d_L_law_700 rfl ?_
  rw [nI_add]
  refine mp_sald X 702 (j := 5 * it + 1) hs d_L_law_701 rfl rfl (by omega) (by omega) ?_
  refine mp_call X mp_Ts_ok 705 (rest := []) (hc2 g2 hK2 hR2) Y_R_runs in_R (mp_IV X (q := (nR_R, nT_R, 17)) d_L_law_702 Y_R_runs ml_L_99 im_R_runs se_R_runs (by decide) rfl (by decide) (by show _ = some 1; decide) (hK2.sz (by decide)) hK2.ob) rfl (by decide) (by decide) (by omega) (by omega) rfl (by decide) (fun v g3 hp9 => ?_) (fun x9 h9 q9 hp9 => hp9.elim)
  obtain ⟨hcd, hR3, ⟨z, rfl, hzz⟩, hf3⟩ := hp9
  have hK3 : rm_K G g3 := hK2.frA hf3
  have ho3 : g3.1 40 = (13, 1) := by rw [hf3.1]; exact ho2
  have hI3 : lw_I G g3 r.2.2 := by
    obtain ⟨ad2, hS2⟩ := hS2
    exact ⟨hgn, ⟨ad2, hS2.gr (by intro o i hh; unfold rm_A; omega) (mp_gr.of hf3)⟩, hK3, hR3, ho3⟩
  have hc3 := cont g3 r.2.2 (.val (.int (nI r.1))) (.val (.int z)) rfl rfl hI3
  refine mp_eq rfl rfl (st2 := [.int z]) rfl ?_
  refine mp_istore X 707 (L' := [.val (.ref b), .val (.ref (G.1 + 0)), .val (.ref (G.1 + 26)), .val (.ref (G.1 + 40)), .val (.int (nI (5 * it))), .val (.int (nI (r.1))), .val (.int (z))]) d_L_law_705 rfl rfl hz6 rfl ?_
  refine mp_aload_n X 708 d_L_law_707 rfl rfl rfl ?_
  refine mp_callE X mp_Ts_ok 711 (rest := []) (k_R_thrown _ hK3 hcd) Y_R_thrown in_R (mp_IV X (q := (nR_R, nT_R, 17)) d_L_law_708 Y_R_thrown ml_L_68 im_R_thrown se_R_thrown (by decide) rfl (by decide) (by show _ = some 0; decide) (hK3.sz (by decide)) hK3.ob) rfl (by decide) (by decide) (by omega) (by omega) rfl (by decide) rfl ?_
  refine mp_iload X 713 d_L_law_711 rfl rfl ?_
  refine mp_Neq X 718 716 d_L_law_713 (by decide) rfl (by omega) (by omega) (fun q1 => ?_) (fun q1 => ?_)
  · refine mp_iload X 720 d_L_law_718 rfl rfl ?_
    refine mp_Zne X 735 723 d_L_law_720 (by decide) rfl (by omega) (fun q2 => ?_) (fun q2 => ?_)
    · refine mp_goto X 961 d_L_law_735 (by decide) ?_
      exact mp_eq_cs (by omega) (by omega) hc3
    · have hz9 := hzz q2
      subst hz9
      have hout3 : g3.2.1 40 0 = .long (r.2.1).toInt64 := by rw [hf3.2.2 40 0 (by unfold rm_A; omega)]; exact hout q2
      refine mp_aload_n X 724 d_L_law_723 rfl rfl rfl ?_
      refine mp_iconst X 725 (v := nI 0) d_L_law_724 rfl (by decide) ?_
      refine mp_lald (v := .long ((r.2.1).toInt64)) X 726 (0) d_L_law_725 rfl (hK3.sz (by decide)) ho3 rfl (by omega) (by decide) hout3 ?_
      refine mp_iload X 728 d_L_law_726 rfl rfl ?_
      refine mp_i2l X 729 d_L_law_728 rfl rfl ?_
      refine mp_lcmp X 730 d_L_law_729 rfl ?_
      rw [lg_self]
      refine mp_Zeq X 735 733 d_L_law_730 (by decide) rfl (by omega) (fun q3 => ?_) (fun q3 => ?_)
      · refine mp_goto X 961 d_L_law_735 (by decide) ?_
        exact mp_eq_cs (by omega) (by omega) hc3
      · exact absurd rfl q3
  · exact absurd rfl q1
set_option maxRecDepth 100000 in
set_option maxHeartbeats 4000000 in
theorem lw_op_run {G : mp_G} {E : mp_E} {b n it : Nat} {xs : Nat → Int32} {rt : Option FieldType} {hh : List (Nat × Nat × Nat × Nat)} {Q : State → Prop} (X : mp_C G mp_Ts E y_L_law c_L_law 7 rt hh 10 601024 7293034) (hl0 : E.l.stackTraces = false) (hs : lw_scr G E b n xs) (hn : n ≤ 2560) (hit : 5 * it + 5 ≤ n) (cont : ∀ (g : mp_H) (S : pq_S) (z5 z6 : Slot), mp_s1 z5 = true → mp_s1 z6 = true → lw_I G g S → mp_W G E g (41 + (it + 1)) (3392 + 8 * (it + 1)) Q 961 [.val (.ref b), .val (.ref (G.1 + 0)), .val (.ref (G.1 + 26)), .val (.ref (G.1 + 40)), .val (.int (nI (5 * it))), z5, z6] [])
    {g : mp_H} {S : pq_S} {z5 z6 : Slot} (hz5 : mp_s1 z5 = true) (hz6 : mp_s1 z6 = true) (hI : lw_I G g S) : mp_W G E g (41 + it) (3392 + 8 * (it)) Q 738 [.val (.ref b), .val (.ref (G.1 + 0)), .val (.ref (G.1 + 26)), .val (.ref (G.1 + 40)), .val (.int (nI (5 * it))), z5, z6] [] := by
  obtain ⟨hg, ⟨ad, hS⟩, hK, hR, ho⟩ := hI
  have h41 : 41 ≤ g.2.2 := hK.1
  have hle : (sp_run S (xs (5 * it + 1)) (xs (5 * it + 2)) (xs (5 * it + 3))).1 ≤ 3 := Nat.le_trans sp_le_run (by decide)
  have hgn : sp_g (sp_run S (xs (5 * it + 1)) (xs (5 * it + 2)) (xs (5 * it + 3))).2.2 := hg.run
  have hc1 := k_L_run (x := xs (5 * it + 1)) (k := xs (5 * it + 2)) (w := xs (5 * it + 3)) hl0 hS hg ho
  have hc2 : ∀ g2, rm_K G g2 → rm_S g2 S → mp_M G mp_Ts E.l y_R_run _ 0 0 _ g2 (rm_Z g2 (sp_run S (xs (5 * it + 1)) (xs (5 * it + 2)) (xs (5 * it + 3)))) (fun _ _ => False) := fun g2 hK2 hR2 => k_R_run E.l hK2 hR2 hg.1
  generalize sp_run S (xs (5 * it + 1)) (xs (5 * it + 2)) (xs (5 * it + 3)) = r at hle hgn hc1 hc2
  refine mp_aload_n X 739 d_L_law_738 rfl rfl rfl ?_
  refine mp_aload_n X 740 d_L_law_739 rfl rfl rfl ?_
  refine mp_iload X 742 d_L_law_740 rfl rfl ?_
  refine mp_iconst X 743 (v := nI 1) d_L_law_742 rfl (by decide) ?_
  refine mp_iadd X 744 d_L_law_743 rfl ?_
  rw [nI_add]
  refine mp_sald X 745 (j := 5 * it + 1) hs d_L_law_744 rfl rfl (by omega) (by omega) ?_
  refine mp_aload_n X 746 d_L_law_745 rfl rfl rfl ?_
  refine mp_iload X 748 d_L_law_746 rfl rfl ?_
  refine mp_iconst X 749 (v := nI 2) d_L_law_748 rfl (by decide) ?_
  refine mp_iadd X 750 d_L_law_749 rfl ?_
  rw [nI_add]
  refine mp_sald X 751 (j := 5 * it + 2) hs d_L_law_750 rfl rfl (by omega) (by omega) ?_
  refine mp_aload_n X 752 d_L_law_751 rfl rfl rfl ?_
  refine mp_iload X 754 d_L_law_752 rfl rfl ?_
  refine mp_iconst X 755 (v := nI 3) d_L_law_754 rfl (by decide) ?_
  refine mp_iadd X 756 d_L_law_755 rfl ?_
  rw [nI_add]
  refine mp_sald X 757 (j := 5 * it + 3) hs d_L_law_756 rfl rfl (by omega) (by omega) ?_
  refine mp_aload_n X 758 d_L_law_757 rfl rfl rfl ?_
  refine mp_call X mp_Ts_ok 761 (rest := []) hc1 Y_L_run in_L (mp_IS X d_L_law_758 Y_L_run ml_L_100 st_L_run in_L (by decide) (by show _ = some 5; decide)) rfl (by decide) (by decide) (by omega) (by omega) rfl (by decide) (fun v g2 hp9 => ?_) (fun x9 h9 q9 hp9 => hp9.elim)
  obtain ⟨rfl, hS2, hgr, hout⟩ := hp9
  have hA2 : ∀ o i, 26 ≤ o → o ≤ 39 → ¬ cl_A o i := by intro o i h1 h2; unfold cl_A; omega
  have hK2 := hK.gr hA2 hgr
  have hR2 := rm_S.gr hK hR hA2 hgr
  have ho2 : g2.1 40 = (13, 1) := by rw [hgr.2.1 40 (by omega)]; exact ho
  refine mp_eq rfl rfl (st2 := [.int (nI r.1)]) rfl ?_
  refine mp_istore X 763 (L' := [.val (.ref b), .val (.ref (G.1 + 0)), .val (.ref (G.1 + 26)), .val (.ref (G.1 + 40)), .val (.int (nI (5 * it))), .val (.int (nI (r.1))), z6]) d_L_law_761 rfl rfl hz5 rfl ?_
  refine mp_aload_n X 764 d_L_law_763 rfl rfl rfl ?_
  refine mp_aload_n X 765 d_L_law_764 rfl rfl rfl ?_
  refine mp_iload X 767 d_L_law_765 rfl rfl ?_
  refine mp_iconst X 768 (v := nI 1) d_L_law_767 rfl (by decide) ?_
  refine mp_iadd X 769 d_L_law_768 rfl ?_
  rw [nI_add]
  refine mp_sald X 770 (j := 5 * it + 1) hs d_L_law_769 rfl rfl (by omega) (by omega) ?_
  refine mp_aload_n X 771 d_L_law_770 rfl rfl rfl ?_
  refine mp_iload X 773 d_L_law_771 rfl rfl ?_
  refine mp_iconst X 774 (v := nI 2) d_L_law_773 rfl (by decide) ?_
  refine mp_iadd X 775 d_L_law_774 rfl ?_
  rw [nI_add]
  refine mp_sald X 776 (j := 5 * it + 2) hs d_L_law_775 rfl rfl (by omega) (by omega) ?_
  refine mp_aload_n X 777 d_L_law_776 rfl rfl rfl ?_
  refine mp_iload X 779 d_L_law_777 rfl rfl ?_
  refine mp_iconst X 780 (v := nI 3) d_L_law_779 rfl (by decide) ?_
  refine mp_iadd X 781 d_L_law_780 rfl ?_
  rw [nI_add]
  refine mp_sald X 782 (j := 5 * it + 3) hs d_L_law_781 rfl rfl (by omega) (by omega) ?_
  refine mp_call X mp_Ts_ok 785 (rest := []) (hc2 g2 hK2 hR2) Y_R_run in_R (mp_IV X (q := (nR_R, nT_R, 17)) d_L_law_782 Y_R_run ml_L_102 im_R_run se_R_run (by decide) rfl (by decide) (by show _ = some 3; decide) (hK2.sz (by decide)) hK2.ob) rfl (by decide) (by decide) (by omega) (by omega) rfl (by decide) (fun v g3 hp9 => ?_) (fun x9 h9 q9 hp9 => hp9.elim)
  obtain ⟨hcd, hR3, ⟨z, rfl, hzz⟩, hf3⟩ := hp9
  have hK3 : rm_K G g3 := hK2.frA hf3
  have ho3 : g3.1 40 = (13, 1) := by rw [hf3.1]; exact ho2
  have hI3 : lw_I G g3 r.2.2 := by
    obtain ⟨ad2, hS2⟩ := hS2
    exact ⟨hgn, ⟨ad2, hS2.gr (by intro o i hh; unfold rm_A; omega) (mp_gr.of hf3)⟩, hK3, hR3, ho3⟩
  have hc3 := cont g3 r.2.2 (.val (.int (nI r.1))) (.val (.int z)) rfl rfl hI3
  refine mp_eq rfl rfl (st2 := [.int z]) rfl ?_
  refine mp_istore X 787 (L' := [.val (.ref b), .val (.ref (G.1 + 0)), .val (.ref (G.1 + 26)), .val (.ref (G.1 + 40)), .val (.int (nI (5 * it))), .val (.int (nI (r.1))), .val (.int (z))]) d_L_law_785 rfl rfl hz6 rfl ?_
  refine mp_aload_n X 788 d_L_law_787 rfl rfl rfl ?_
  refine mp_callE X mp_Ts_ok 791 (rest := []) (k_R_thrown _ hK3 hcd) Y_R_thrown in_R (mp_IV X (q := (nR_R, nT_R, 17)) d_L_law_788 Y_R_thrown ml_L_68 im_R_thrown se_R_thrown (by decide) rfl (by decide) (by show _ = some 0; decide) (hK3.sz (by decide)) hK3.ob) rfl (by decide) (by decide) (by omega) (by omega) rfl (by decide) rfl ?_
  refine mp_iload X 793 d_L_law_791 rfl rfl ?_
  refine mp_Neq X 798 796 d_L_law_793 (by decide) rfl (by omega) (by omega) (fun q1 => ?_) (fun q1 => ?_)
  · refine mp_iload X 800 d_L_law_798 rfl rfl ?_
    refine mp_Zne X 815 803 d_L_law_800 (by decide) rfl (by omega) (fun q2 => ?_) (fun q2 => ?_)
    · refine mp_goto X 961 d_L_law_815 (by decide) ?_
      exact mp_eq_cs (by omega) (by omega) hc3
    · have hz9 := hzz q2
      subst hz9
      have hout3 : g3.2.1 40 0 = .long (r.2.1).toInt64 := by rw [hf3.2.2 40 0 (by unfold rm_A; omega)]; exact hout q2
      refine mp_aload_n X 804 d_L_law_803 rfl rfl rfl ?_
      refine mp_iconst X 805 (v := nI 0) d_L_law_804 rfl (by decide) ?_
      refine mp_lald (v := .long ((r.2.1).toInt64)) X 806 (0) d_L_law_805 rfl (hK3.sz (by decide)) ho3 rfl (by omega) (by decide) hout3 ?_
      refine mp_iload X 808 d_L_law_806 rfl rfl ?_
      refine mp_i2l X 809 d_L_law_808 rfl rfl ?_
      refine mp_lcmp X 810 d_L_law_809 rfl ?_
      rw [lg_self]
      refine mp_Zeq X 815 813 d_L_law_810 (by decide) rfl (by omega) (fun q3 => ?_) (fun q3 => ?_)
      · refine mp_goto X 961 d_L_law_815 (by decide) ?_
        exact mp_eq_cs (by omega) (by omega) hc3
      · exact absurd rfl q3
  · exact absurd rfl q1
set_option maxRecDepth 100000 in
set_option maxHeartbeats 4000000 in
theorem lw_op_count {G : mp_G} {E : mp_E} {b n it : Nat} {xs : Nat → Int32} {rt : Option FieldType} {hh : List (Nat × Nat × Nat × Nat)} {Q : State → Prop} (X : mp_C G mp_Ts E y_L_law c_L_law 7 rt hh 10 601024 7293034) (hl0 : E.l.stackTraces = false) (hs : lw_scr G E b n xs) (hn : n ≤ 2560) (hit : 5 * it + 5 ≤ n) (cont : ∀ (g : mp_H) (S : pq_S) (z5 z6 : Slot), mp_s1 z5 = true → mp_s1 z6 = true → lw_I G g S → mp_W G E g (41 + (it + 1)) (3392 + 8 * (it + 1)) Q 961 [.val (.ref b), .val (.ref (G.1 + 0)), .val (.ref (G.1 + 26)), .val (.ref (G.1 + 40)), .val (.int (nI (5 * it))), z5, z6] [])
    {g : mp_H} {S : pq_S} {z5 z6 : Slot} (hz5 : mp_s1 z5 = true) (hz6 : mp_s1 z6 = true) (hI : lw_I G g S) : mp_W G E g (41 + it) (3392 + 8 * (it)) Q 818 [.val (.ref b), .val (.ref (G.1 + 0)), .val (.ref (G.1 + 26)), .val (.ref (G.1 + 40)), .val (.int (nI (5 * it))), z5, z6] [] := by
  obtain ⟨hg, ⟨ad, hS⟩, hK, hR, ho⟩ := hI
  have h41 : 41 ≤ g.2.2 := hK.1
  have hle : (sp_count S (xs (5 * it + 1)) (xs (5 * it + 2))).1 ≤ 3 := Nat.le_trans sp_le_count (by decide)
  have hgn : sp_g (sp_count S (xs (5 * it + 1)) (xs (5 * it + 2))).2.2 := hg.count
  have hc1 := k_L_count (x := xs (5 * it + 1)) (w := xs (5 * it + 2)) hl0 hS hg ho
  have hc2 : ∀ g2, rm_K G g2 → rm_S g2 S → mp_M G mp_Ts E.l y_R_count _ 0 0 _ g2 (rm_Z g2 (sp_count S (xs (5 * it + 1)) (xs (5 * it + 2)))) (fun _ _ => False) := fun g2 hK2 hR2 => k_R_count E.l hK2 hR2 hg.1
  generalize sp_count S (xs (5 * it + 1)) (xs (5 * it + 2)) = r at hle hgn hc1 hc2
  refine mp_aload_n X 819 d_L_law_818 rfl rfl rfl ?_
  refine mp_aload_n X 820 d_L_law_819 rfl rfl rfl ?_
  refine mp_iload X 822 d_L_law_820 rfl rfl ?_
  refine mp_iconst X 823 (v := nI 1) d_L_law_822 rfl (by decide) ?_
  refine mp_iadd X 824 d_L_law_823 rfl ?_
  rw [nI_add]
  refine mp_sald X 825 (j := 5 * it + 1) hs d_L_law_824 rfl rfl (by omega) (by omega) ?_
  refine mp_aload_n X 826 d_L_law_825 rfl rfl rfl ?_
  refine mp_iload X 828 d_L_law_826 rfl rfl ?_
  refine mp_iconst X 829 (v := nI 2) d_L_law_828 rfl (by decide) ?_
  refine mp_iadd X 830 d_L_law_829 rfl ?_
  rw [nI_add]
  refine mp_sald X 831 (j := 5 * it + 2) hs d_L_law_830 rfl rfl (by omega) (by omega) ?_
  refine mp_aload_n X 832 d_L_law_831 rfl rfl rfl ?_
  refine mp_call X mp_Ts_ok 835 (rest := []) hc1 Y_L_count in_L (mp_IS X d_L_law_832 Y_L_count ml_L_103 st_L_count in_L (by decide) (by show _ = some 4; decide)) rfl (by decide) (by decide) (by omega) (by omega) rfl (by decide) (fun v g2 hp9 => ?_) (fun x9 h9 q9 hp9 => hp9.elim)
  obtain ⟨rfl, hS2, hgr, hout⟩ := hp9
  have hA2 : ∀ o i, 26 ≤ o → o ≤ 39 → ¬ cl_A o i := by intro o i h1 h2; unfold cl_A; omega
  have hK2 := hK.gr hA2 hgr
  have hR2 := rm_S.gr hK hR hA2 hgr
  have ho2 : g2.1 40 = (13, 1) := by rw [hgr.2.1 40 (by omega)]; exact ho
  refine mp_eq rfl rfl (st2 := [.int (nI r.1)]) rfl ?_
  refine mp_istore X 837 (L' := [.val (.ref b), .val (.ref (G.1 + 0)), .val (.ref (G.1 + 26)), .val (.ref (G.1 + 40)), .val (.int (nI (5 * it))), .val (.int (nI (r.1))), z6]) d_L_law_835 rfl rfl hz5 rfl ?_
  refine mp_aload_n X 838 d_L_law_837 rfl rfl rfl ?_
  refine mp_aload_n X 839 d_L_law_838 rfl rfl rfl ?_
  refine mp_iload X 841 d_L_law_839 rfl rfl ?_
  refine mp_iconst X 842 (v := nI 1) d_L_law_841 rfl (by decide) ?_
  refine mp_iadd X 843 d_L_law_842 rfl ?_
  rw [nI_add]
  refine mp_sald X 844 (j := 5 * it + 1) hs d_L_law_843 rfl rfl (by omega) (by omega) ?_
  refine mp_aload_n X 845 d_L_law_844 rfl rfl rfl ?_
  refine mp_iload X 847 d_L_law_845 rfl rfl ?_
  refine mp_iconst X 848 (v := nI 2) d_L_law_847 rfl (by decide) ?_
  refine mp_iadd X 849 d_L_law_848 rfl ?_
  rw [nI_add]
  refine mp_sald X 850 (j := 5 * it + 2) hs d_L_law_849 rfl rfl (by omega) (by omega) ?_
  refine mp_call X mp_Ts_ok 853 (rest := []) (hc2 g2 hK2 hR2) Y_R_count in_R (mp_IV X (q := (nR_R, nT_R, 17)) d_L_law_850 Y_R_count ml_L_105 im_R_count se_R_count (by decide) rfl (by decide) (by show _ = some 2; decide) (hK2.sz (by decide)) hK2.ob) rfl (by decide) (by decide) (by omega) (by omega) rfl (by decide) (fun v g3 hp9 => ?_) (fun x9 h9 q9 hp9 => hp9.elim)
  obtain ⟨hcd, hR3, ⟨z, rfl, hzz⟩, hf3⟩ := hp9
  have hK3 : rm_K G g3 := hK2.frA hf3
  have ho3 : g3.1 40 = (13, 1) := by rw [hf3.1]; exact ho2
  have hI3 : lw_I G g3 r.2.2 := by
    obtain ⟨ad2, hS2⟩ := hS2
    exact ⟨hgn, ⟨ad2, hS2.gr (by intro o i hh; unfold rm_A; omega) (mp_gr.of hf3)⟩, hK3, hR3, ho3⟩
  have hc3 := cont g3 r.2.2 (.val (.int (nI r.1))) (.val (.int z)) rfl rfl hI3
  refine mp_eq rfl rfl (st2 := [.int z]) rfl ?_
  refine mp_istore X 855 (L' := [.val (.ref b), .val (.ref (G.1 + 0)), .val (.ref (G.1 + 26)), .val (.ref (G.1 + 40)), .val (.int (nI (5 * it))), .val (.int (nI (r.1))), .val (.int (z))]) d_L_law_853 rfl rfl hz6 rfl ?_
  refine mp_aload_n X 856 d_L_law_855 rfl rfl rfl ?_
  refine mp_callE X mp_Ts_ok 859 (rest := []) (k_R_thrown _ hK3 hcd) Y_R_thrown in_R (mp_IV X (q := (nR_R, nT_R, 17)) d_L_law_856 Y_R_thrown ml_L_68 im_R_thrown se_R_thrown (by decide) rfl (by decide) (by show _ = some 0; decide) (hK3.sz (by decide)) hK3.ob) rfl (by decide) (by decide) (by omega) (by omega) rfl (by decide) rfl ?_
  refine mp_iload X 861 d_L_law_859 rfl rfl ?_
  refine mp_Neq X 866 864 d_L_law_861 (by decide) rfl (by omega) (by omega) (fun q1 => ?_) (fun q1 => ?_)
  · refine mp_iload X 868 d_L_law_866 rfl rfl ?_
    refine mp_Zne X 883 871 d_L_law_868 (by decide) rfl (by omega) (fun q2 => ?_) (fun q2 => ?_)
    · refine mp_goto X 961 d_L_law_883 (by decide) ?_
      exact mp_eq_cs (by omega) (by omega) hc3
    · have hz9 := hzz q2
      subst hz9
      have hout3 : g3.2.1 40 0 = .long (r.2.1).toInt64 := by rw [hf3.2.2 40 0 (by unfold rm_A; omega)]; exact hout q2
      refine mp_aload_n X 872 d_L_law_871 rfl rfl rfl ?_
      refine mp_iconst X 873 (v := nI 0) d_L_law_872 rfl (by decide) ?_
      refine mp_lald (v := .long ((r.2.1).toInt64)) X 874 (0) d_L_law_873 rfl (hK3.sz (by decide)) ho3 rfl (by omega) (by decide) hout3 ?_
      refine mp_iload X 876 d_L_law_874 rfl rfl ?_
      refine mp_i2l X 877 d_L_law_876 rfl rfl ?_
      refine mp_lcmp X 878 d_L_law_877 rfl ?_
      rw [lg_self]
      refine mp_Zeq X 883 881 d_L_law_878 (by decide) rfl (by omega) (fun q3 => ?_) (fun q3 => ?_)
      · refine mp_goto X 961 d_L_law_883 (by decide) ?_
        exact mp_eq_cs (by omega) (by omega) hc3
      · exact absurd rfl q3
  · exact absurd rfl q1
set_option maxRecDepth 100000 in
set_option maxHeartbeats 4000000 in
theorem lw_op_alike {G : mp_G} {E : mp_E} {b n it : Nat} {xs : Nat → Int32} {rt : Option FieldType} {hh : List (Nat × Nat × Nat × Nat)} {Q : State → Prop} (X : mp_C G mp_Ts E y_L_law c_L_law 7 rt hh 10 601024 7293034) (hl0 : E.l.stackTraces = false) (hs : lw_scr G E b n xs) (hn : n ≤ 2560) (hit : 5 * it + 5 ≤ n) (cont : ∀ (g : mp_H) (S : pq_S) (z5 z6 : Slot), mp_s1 z5 = true → mp_s1 z6 = true → lw_I G g S → mp_W G E g (41 + (it + 1)) (3392 + 8 * (it + 1)) Q 961 [.val (.ref b), .val (.ref (G.1 + 0)), .val (.ref (G.1 + 26)), .val (.ref (G.1 + 40)), .val (.int (nI (5 * it))), z5, z6] [])
    {g : mp_H} {S : pq_S} {z5 z6 : Slot} (hz5 : mp_s1 z5 = true) (hz6 : mp_s1 z6 = true) (hI : lw_I G g S) : mp_W G E g (41 + it) (3392 + 8 * (it)) Q 886 [.val (.ref b), .val (.ref (G.1 + 0)), .val (.ref (G.1 + 26)), .val (.ref (G.1 + 40)), .val (.int (nI (5 * it))), z5, z6] [] := by
  obtain ⟨hg, ⟨ad, hS⟩, hK, hR, ho⟩ := hI
  have h41 : 41 ≤ g.2.2 := hK.1
  have hle : (sp_alike S (xs (5 * it + 1)) (xs (5 * it + 2))).1 ≤ 3 := Nat.le_trans sp_le_alike (by decide)
  have hgn : sp_g (sp_alike S (xs (5 * it + 1)) (xs (5 * it + 2))).2.2 := hg.alike
  have hab : (sp_alike S (xs (5 * it + 1)) (xs (5 * it + 2))).1 = 0 → ∃ b, (sp_alike S (xs (5 * it + 1)) (xs (5 * it + 2))).2.1 = rm_b b := sp_alike_b
  have hc1 := k_L_alike (x := xs (5 * it + 1)) (y := xs (5 * it + 2)) hl0 hS hg ho
  have hc2 : ∀ g2, rm_K G g2 → rm_S g2 S → mp_M G mp_Ts E.l y_R_alike _ 0 0 _ g2 (rm_Z g2 (sp_alike S (xs (5 * it + 1)) (xs (5 * it + 2)))) (fun _ _ => False) := fun g2 hK2 hR2 => k_R_alike E.l hK2 hR2 hg.1
  generalize sp_alike S (xs (5 * it + 1)) (xs (5 * it + 2)) = r at hle hgn hc1 hc2 hab
  refine mp_aload_n X 887 d_L_law_886 rfl rfl rfl ?_
  refine mp_aload_n X 888 d_L_law_887 rfl rfl rfl ?_
  refine mp_iload X 890 d_L_law_888 rfl rfl ?_
  refine mp_iconst X 891 (v := nI 1) d_L_law_890 rfl (by decide) ?_
  refine mp_iadd X 892 d_L_law_891 rfl ?_
  rw [nI_add]
  refine mp_sald X 893 (j := 5 * it + 1) hs d_L_law_892 rfl rfl (by omega) (by omega) ?_
  refine mp_aload_n X 894 d_L_law_893 rfl rfl rfl ?_
  refine mp_iload X 896 d_L_law_894 rfl rfl ?_
  refine mp_iconst X 897 (v := nI 2) d_L_law_896 rfl (by decide) ?_
  refine mp_iadd X 898 d_L_law_897 rfl ?_
  rw [nI_add]
  refine mp_sald X 899 (j := 5 * it + 2) hs d_L_law_898 rfl rfl (by omega) (by omega) ?_
  refine mp_aload_n X 900 d_L_law_899 rfl rfl rfl ?_
  refine mp_call X mp_Ts_ok 903 (rest := []) hc1 Y_L_alike in_L (mp_IS X d_L_law_900 Y_L_alike ml_L_106 st_L_alike in_L (by decide) (by show _ = some 4; decide)) rfl (by decide) (by decide) (by omega) (by omega) rfl (by decide) (fun v g2 hp9 => ?_) (fun x9 h9 q9 hp9 => hp9.elim)
  obtain ⟨rfl, hS2, hgr, hout⟩ := hp9
  have hA2 : ∀ o i, 26 ≤ o → o ≤ 39 → ¬ cl_A o i := by intro o i h1 h2; unfold cl_A; omega
  have hK2 := hK.gr hA2 hgr
  have hR2 := rm_S.gr hK hR hA2 hgr
  have ho2 : g2.1 40 = (13, 1) := by rw [hgr.2.1 40 (by omega)]; exact ho
  refine mp_eq rfl rfl (st2 := [.int (nI r.1)]) rfl ?_
  refine mp_istore X 905 (L' := [.val (.ref b), .val (.ref (G.1 + 0)), .val (.ref (G.1 + 26)), .val (.ref (G.1 + 40)), .val (.int (nI (5 * it))), .val (.int (nI (r.1))), z6]) d_L_law_903 rfl rfl hz5 rfl ?_
  refine mp_aload_n X 906 d_L_law_905 rfl rfl rfl ?_
  refine mp_aload_n X 907 d_L_law_906 rfl rfl rfl ?_
  refine mp_iload X 909 d_L_law_907 rfl rfl ?_
  refine mp_iconst X 910 (v := nI 1) d_L_law_909 rfl (by decide) ?_
  refine mp_iadd X 911 d_L_law_910 rfl ?_
  rw [nI_add]
  refine mp_sald X 912 (j := 5 * it + 1) hs d_L_law_911 rfl rfl (by omega) (by omega) ?_
  refine mp_aload_n X 913 d_L_law_912 rfl rfl rfl ?_
  refine mp_iload X 915 d_L_law_913 rfl rfl ?_
  refine mp_iconst X 916 (v := nI 2) d_L_law_915 rfl (by decide) ?_
  refine mp_iadd X 917 d_L_law_916 rfl ?_
  rw [nI_add]
  refine mp_sald X 918 (j := 5 * it + 2) hs d_L_law_917 rfl rfl (by omega) (by omega) ?_
  refine mp_call X mp_Ts_ok 921 (rest := []) (hc2 g2 hK2 hR2) Y_R_alike in_R (mp_IV X (q := (nR_R, nT_R, 17)) d_L_law_918 Y_R_alike ml_L_108 im_R_alike se_R_alike (by decide) rfl (by decide) (by show _ = some 2; decide) (hK2.sz (by decide)) hK2.ob) rfl (by decide) (by decide) (by omega) (by omega) rfl (by decide) (fun v g3 hp9 => ?_) (fun x9 h9 q9 hp9 => hp9.elim)
  obtain ⟨hcd, hR3, ⟨z, rfl, hzz⟩, hf3⟩ := hp9
  have hK3 : rm_K G g3 := hK2.frA hf3
  have ho3 : g3.1 40 = (13, 1) := by rw [hf3.1]; exact ho2
  have hI3 : lw_I G g3 r.2.2 := by
    obtain ⟨ad2, hS2⟩ := hS2
    exact ⟨hgn, ⟨ad2, hS2.gr (by intro o i hh; unfold rm_A; omega) (mp_gr.of hf3)⟩, hK3, hR3, ho3⟩
  have hc3 := cont g3 r.2.2 (.val (.int (nI r.1))) (.val (.int z)) rfl rfl hI3
  refine mp_eq rfl rfl (st2 := [.int z]) rfl ?_
  refine mp_istore X 923 (L' := [.val (.ref b), .val (.ref (G.1 + 0)), .val (.ref (G.1 + 26)), .val (.ref (G.1 + 40)), .val (.int (nI (5 * it))), .val (.int (nI (r.1))), .val (.int (z))]) d_L_law_921 rfl rfl hz6 rfl ?_
  refine mp_aload_n X 924 d_L_law_923 rfl rfl rfl ?_
  refine mp_callE X mp_Ts_ok 927 (rest := []) (k_R_thrown _ hK3 hcd) Y_R_thrown in_R (mp_IV X (q := (nR_R, nT_R, 17)) d_L_law_924 Y_R_thrown ml_L_68 im_R_thrown se_R_thrown (by decide) rfl (by decide) (by show _ = some 0; decide) (hK3.sz (by decide)) hK3.ob) rfl (by decide) (by decide) (by omega) (by omega) rfl (by decide) rfl ?_
  refine mp_iload X 929 d_L_law_927 rfl rfl ?_
  refine mp_Neq X 934 932 d_L_law_929 (by decide) rfl (by omega) (by omega) (fun q1 => ?_) (fun q1 => ?_)
  · refine mp_iload X 936 d_L_law_934 rfl rfl ?_
    refine mp_Zne X 958 939 d_L_law_936 (by decide) rfl (by omega) (fun q2 => ?_) (fun q2 => ?_)
    · refine mp_goto X 961 d_L_law_958 (by decide) ?_
      exact mp_eq_cs (by omega) (by omega) hc3
    · have hz9 := hzz q2
      subst hz9
      have hout3 : g3.2.1 40 0 = .long (r.2.1).toInt64 := by rw [hf3.2.2 40 0 (by unfold rm_A; omega)]; exact hout q2
      obtain ⟨b9, hb9⟩ := hab q2
      obtain ⟨bn, hbn, hbb⟩ := rm_b_n b9
      have hbl : bn < 2 := by omega
      have e21 : r.2.1 = nI bn := by rw [hb9, hbn]
      refine mp_aload_n X 940 d_L_law_939 rfl rfl rfl ?_
      refine mp_iconst X 941 (v := nI 0) d_L_law_940 rfl (by decide) ?_
      refine mp_lald (v := .long ((r.2.1).toInt64)) X 942 (0) d_L_law_941 rfl (hK3.sz (by decide)) ho3 rfl (by omega) (by decide) hout3 ?_
      refine mp_iload X 944 d_L_law_942 rfl rfl ?_
      refine mp_if_eq X 951 947 d_L_law_944 (by decide) rfl (fun qa => ?_) (fun qa => ?_)
      · have e0 : bn = 0 := by rw [e21] at qa; exact (nI_eq (by omega) (by decide)).mp qa
        refine mp_lconst X 952 (v := 0) d_L_law_951 rfl (by decide) ?_
        have e0 : bn = 0 := by omega
        rw [show r.2.1.toInt64 = 0 by rw [hb9, hbn, e0]; rfl]
        refine mp_lcmp X 953 d_L_law_952 rfl ?_
        rw [lg_self]
        refine mp_Zeq X 958 956 d_L_law_953 (by decide) rfl (by omega) (fun q3 => ?_) (fun q3 => ?_)
        · refine mp_goto X 961 d_L_law_958 (by decide) ?_
          exact mp_eq_cs (by omega) (by omega) hc3
        · exact absurd rfl q3
      · have e0 : bn ≠ 0 := fun z => qa (by rw [e21, z]; rfl)
        refine mp_lconst X 948 (v := 1) d_L_law_947 rfl (by decide) ?_
        refine mp_goto X 952 d_L_law_948 (by decide) ?_
        have e0 : bn = 1 := by omega
        rw [show r.2.1.toInt64 = 1 by rw [hb9, hbn, e0]; rfl]
        refine mp_lcmp X 953 d_L_law_952 rfl ?_
        rw [lg_self]
        refine mp_Zeq X 958 956 d_L_law_953 (by decide) rfl (by omega) (fun q4 => ?_) (fun q4 => ?_)
        · refine mp_goto X 961 d_L_law_958 (by decide) ?_
          exact mp_eq_cs (by omega) (by omega) hc3
        · exact absurd rfl q4
  · exact absurd rfl q1
set_option maxRecDepth 100000 in
set_option maxHeartbeats 4000000 in
theorem lw_loop {G : mp_G} {E : mp_E} {b n : Nat} {xs : Nat → Int32} {rt : Option FieldType} {hh : List (Nat × Nat × Nat × Nat)} {Q : State → Prop} (X : mp_C G mp_Ts E y_L_law c_L_law 7 rt hh 10 601024 7293034) (hl0 : E.l.stackTraces = false) (hs : lw_scr G E b n xs) (hn : n ≤ 2560)
    (hend : ∀ (g : mp_H) (cs sl : Nat) (L : List Slot), cs ≤ 601024 → sl ≤ 7293034 → mp_W G E g cs sl Q 968 L [.int (nI 1)]) :
    ∀ (k it : Nat) (g : mp_H) (S : pq_S) (z5 z6 : Slot), n ≤ 5 * it + 5 * k + 4 → 5 * it ≤ n → mp_s1 z5 = true → mp_s1 z6 = true → lw_I G g S → mp_W G E g (41 + it) (3392 + 8 * (it)) Q 23 [.val (.ref b), .val (.ref (G.1 + 0)), .val (.ref (G.1 + 26)), .val (.ref (G.1 + 40)), .val (.int (nI (5 * it))), z5, z6] [] := by
  intro k
  induction k with
  | zero =>
    intro it g S z5 z6 hk hi hz5 hz6 hI
    refine mp_iload X 25 d_L_law_23 rfl rfl ?_
    refine mp_aload_n X 26 d_L_law_25 rfl rfl rfl ?_
    refine mp_slen X 27 hs d_L_law_26 rfl ?_
    refine mp_iconst X 28 (v := nI 5) d_L_law_27 rfl (by decide) ?_
    refine mp_isub X 29 d_L_law_28 rfl ?_
    refine mp_icmp_gt X 967 32 d_L_law_29 (by decide) rfl (fun q1 => ?_) (fun q1 => ?_)
    · refine mp_iconst X 968 (v := nI 1) d_L_law_967 rfl (by decide) ?_
      exact hend _ _ _ _ (by omega) (by omega)
    · exact absurd ((lw_len hn (by omega)).mpr (by omega)) q1
  | succ k ih =>
    intro it g S z5 z6 hk hi hz5 hz6 hI
    refine mp_iload X 25 d_L_law_23 rfl rfl ?_
    refine mp_aload_n X 26 d_L_law_25 rfl rfl rfl ?_
    refine mp_slen X 27 hs d_L_law_26 rfl ?_
    refine mp_iconst X 28 (v := nI 5) d_L_law_27 rfl (by decide) ?_
    refine mp_isub X 29 d_L_law_28 rfl ?_
    refine mp_icmp_gt X 967 32 d_L_law_29 (by decide) rfl (fun q1 => ?_) (fun q1 => ?_)
    · refine mp_iconst X 968 (v := nI 1) d_L_law_967 rfl (by decide) ?_
      exact hend _ _ _ _ (by omega) (by omega)
    · refine mp_aload_n X 33 d_L_law_32 rfl rfl rfl ?_
      refine mp_iload X 35 d_L_law_33 rfl rfl ?_
      have hit0 : 5 * it + 5 ≤ n := Nat.not_lt.mp fun z => q1 ((lw_len hn (by omega)).mpr z)
      refine mp_sald X 36 (j := 5 * it) hs d_L_law_35 rfl rfl (by omega) (by omega) ?_
      refine mp_bipush X 38 (v := nI 15) d_L_law_36 rfl (by decide) ?_
      refine mp_iand X 39 d_L_law_38 rfl ?_
      have hit : 5 * it + 5 ≤ n := Nat.not_lt.mp fun z => q1 ((lw_len hn (by omega)).mpr z)
      have cont : ∀ (g : mp_H) (S : pq_S) (z5 z6 : Slot), mp_s1 z5 = true → mp_s1 z6 = true → lw_I G g S → mp_W G E g (41 + (it + 1)) (3392 + 8 * (it + 1)) Q 961 [.val (.ref b), .val (.ref (G.1 + 0)), .val (.ref (G.1 + 26)), .val (.ref (G.1 + 40)), .val (.int (nI (5 * it))), z5, z6] [] := by
        intro g S z5 z6 hz5 hz6 hI
        refine mp_iinc X 964 (L' := [.val (.ref b), .val (.ref (G.1 + 0)), .val (.ref (G.1 + 26)), .val (.ref (G.1 + 40)), .val (.int (nI (5 * (it + 1)))), z5, z6]) (v := nI (5 * (it + 1))) d_L_law_961 rfl rfl (nI_add _ _) rfl ?_
        refine mp_goto X 23 d_L_law_964 (by decide) ?_
        exact ih (it + 1) g S z5 z6 (by omega) (by omega) hz5 hz6 hI
      obtain ⟨v, hv, ev⟩ := lw_and (xs (5 * it))
      rw [ev]
      by_cases h12 : v < 12
      · obtain rfl | rfl | rfl | rfl | rfl | rfl | rfl | rfl | rfl | rfl | rfl | rfl : v = 0 ∨ v = 1 ∨ v = 2 ∨ v = 3 ∨ v = 4 ∨ v = 5 ∨ v = 6 ∨ v = 7 ∨ v = 8 ∨ v = 9 ∨ v = 10 ∨ v = 11 := by omega
        · refine mp_tableIn X 100 d_L_law_39 (by decide) (by decide) (off := 61) (by decide) (by decide) ?_
          exact lw_op_write X hl0 hs hn hit cont hz5 hz6 hI
        · refine mp_tableIn X 182 d_L_law_39 (by decide) (by decide) (off := 143) (by decide) (by decide) ?_
          exact lw_op_erase X hl0 hs hn hit cont hz5 hz6 hI
        · refine mp_tableIn X 250 d_L_law_39 (by decide) (by decide) (off := 211) (by decide) (by decide) ?_
          exact lw_op_mark X hl0 hs hn hit cont hz5 hz6 hI
        · refine mp_tableIn X 342 d_L_law_39 (by decide) (by decide) (off := 303) (by decide) (by decide) ?_
          exact lw_op_tell X hl0 hs hn hit cont hz5 hz6 hI
        · refine mp_tableIn X 422 d_L_law_39 (by decide) (by decide) (off := 383) (by decide) (by decide) ?_
          exact lw_op_length X hl0 hs hn hit cont hz5 hz6 hI
        · refine mp_tableIn X 478 d_L_law_39 (by decide) (by decide) (off := 439) (by decide) (by decide) ?_
          exact lw_op_at X hl0 hs hn hit cont hz5 hz6 hI
        · refine mp_tableIn X 546 d_L_law_39 (by decide) (by decide) (off := 507) (by decide) (by decide) ?_
          exact lw_op_format X hl0 hs hn hit cont hz5 hz6 hI
        · refine mp_tableIn X 614 d_L_law_39 (by decide) (by decide) (off := 575) (by decide) (by decide) ?_
          exact lw_op_id X hl0 hs hn hit cont hz5 hz6 hI
        · refine mp_tableIn X 682 d_L_law_39 (by decide) (by decide) (off := 643) (by decide) (by decide) ?_
          exact lw_op_runs X hl0 hs hn hit cont hz5 hz6 hI
        · refine mp_tableIn X 738 d_L_law_39 (by decide) (by decide) (off := 699) (by decide) (by decide) ?_
          exact lw_op_run X hl0 hs hn hit cont hz5 hz6 hI
        · refine mp_tableIn X 818 d_L_law_39 (by decide) (by decide) (off := 779) (by decide) (by decide) ?_
          exact lw_op_count X hl0 hs hn hit cont hz5 hz6 hI
        · refine mp_tableIn X 886 d_L_law_39 (by decide) (by decide) (off := 847) (by decide) (by decide) ?_
          exact lw_op_alike X hl0 hs hn hit cont hz5 hz6 hI
      · refine mp_tableOut X 961 d_L_law_39 (Or.inr (by rw [nI_toInt (by omega)]; omega)) (by decide) ?_
        exact mp_widen (by omega) (by omega) (cont g S z5 z6 hz5 hz6 hI)
