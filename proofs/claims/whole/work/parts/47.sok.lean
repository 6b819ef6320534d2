/-! What the calls do keeps the state sound. -/
theorem sp_new_ok {S : pq_S} {j so wh : Nat} {fi en : Option Nat} {le : Int32} (hok : pq_ok S) (hj : j < 3) (hM : S.1 < 90) (hso : so < 3) (hwh : wh < 8)
    (hfi : ∀ p, fi = some p → pq_so S.2.1 p = 0 ∧ ∃ i, i < S.2.2.2 j ∧ S.2.2.1 j i = p) (hen : ∀ p, en = some p → pq_so S.2.1 p = 0 ∧ ∃ i, i < S.2.2.2 j ∧ S.2.2.1 j i = p) (hs : so = 0 ∨ ∃ p, fi = some p) : pq_ok (sp_new S j so fi en wh le) := by
  obtain ⟨k1, k2, k3, k4⟩ := hok
  have hkj := k3 j hj
  have hmx : sp_mx S j ≤ S.1 := pq_mx_le _ fun i hi => by
    have h1 := hkj.1 i hi
    have h2 := (k2.2.2.2.1 _ h1).2.1
    omega
  have htm : ∀ p, (∃ i, i < S.2.2.2 j ∧ S.2.2.1 j i = p) → p < S.1 ∧ pq_id S.2.1 p < 4 * (1 + sp_mx S j) + j := by
    rintro p ⟨i, hi, rfl⟩
    have h1 := hkj.1 i hi
    have h2 := pq_mx_ge S.2.1 (S.2.2.1 j) (S.2.2.2 j) i hi
    have h3 := (k2.2.2.2.1 _ h1).2.2.1
    refine ⟨h1, ?_⟩
    show 4 * pq_tm S.2.1 (S.2.2.1 j i) + pq_pg S.2.1 (S.2.2.1 j i) < _
    have h4 : sp_mx S j = pq_mx S.2.1 (S.2.2.1 j) (S.2.2.2 j) := rfl
    omega
  let o : Nat × Nat × Nat × Option Nat × Option Nat × Nat × Int32 := (so, 1 + sp_mx S j, j, fi, en, wh, le)
  have hw : pq_wf (pq_add S o).1 (pq_add S o).2.1 := by
    refine pq_wf_add k2 (fun p hp => ?_) (fun p hp => ?_) (fun k hk => ?_) ⟨?_, ?_, hj, hso, hwh⟩ hs
    · obtain ⟨a, b⟩ := hfi p hp
      exact ⟨(htm p b).1, a, (htm p b).2⟩
    · obtain ⟨a, b⟩ := hen p hp
      exact ⟨(htm p b).1, a⟩
    · have h3 := (k2.2.2.2.1 k hk).2.2.1
      show 4 * pq_tm S.2.1 k + pq_pg S.2.1 k ≠ 4 * (1 + sp_mx S j) + j
      by_cases e : pq_pg S.2.1 k = j
      · have h5 := k4 k hk
        rw [e] at h5
        have h6 := (htm k h5).2
        have h7 : pq_id S.2.1 k = 4 * pq_tm S.2.1 k + pq_pg S.2.1 k := rfl
        omega
      · omega
    · show 1 ≤ 1 + sp_mx S j; omega
    · show 1 + sp_mx S j ≤ S.1 + 1; omega
  have eo : ∀ k, k < S.1 → (pq_add S o).2.1 k = S.2.1 k := fun k hk => by show (if k = S.1 then o else S.2.1 k) = _; rw [if_neg (by omega)]
  have en' : (pq_add S o).2.1 S.1 = o := by show (if S.1 = S.1 then o else S.2.1 S.1) = _; rw [if_pos rfl]
  have hk3 : ∀ c, c < 3 → pq_kn (pq_add S o).1 (pq_add S o).2.1 ((pq_add S o).2.2.1 c) ((pq_add S o).2.2.2 c) := by
    intro c hc
    obtain ⟨a, b, d⟩ := k3 c hc
    refine ⟨fun i hi => Nat.lt_succ_of_lt (a i hi), b, fun i hi p hp => d i hi p ?_⟩
    unfold pq_fi pq_en at hp ⊢
    have e9 := eo _ (a i hi)
    change (pq_add S o).2.1 ((pq_add S o).2.2.1 c i) = _ at e9
    rw [e9] at hp
    exact hp
  refine ⟨by show S.1 + 1 ≤ 90; omega, hw, fun c hc => ?_, fun k hk => ?_⟩
  · by_cases e : c = j
    · subst e
      refine pq_lrn_kn (hk3 c hc) (Nat.lt_succ_self _) (fun i hi hz => ?_) (fun p hp => ?_)
      · have := hkj.1 i hi
        have hz' : S.2.2.1 c i = S.1 := hz
        omega
      · unfold pq_fi pq_en at hp
        rw [en'] at hp
        rcases hp with hp | hp
        · exact (hfi p hp).2
        · exact (hen p hp).2
    · have e1 : (pq_lrn (pq_add S o) j S.1).2.2.1 c = (pq_add S o).2.2.1 c := by
        funext q
        show (if c = j ∧ q = _ then _ else _) = _
        rw [if_neg (fun z => e z.1)]
      have e2 : (pq_lrn (pq_add S o) j S.1).2.2.2 c = (pq_add S o).2.2.2 c := by
        show (if c = j then _ else _) = _
        rw [if_neg e]
      show pq_kn (pq_add S o).1 (pq_add S o).2.1 ((pq_lrn (pq_add S o) j S.1).2.2.1 c) ((pq_lrn (pq_add S o) j S.1).2.2.2 c)
      rw [e1, e2]
      exact hk3 c hc
  · show ∃ i, i < (pq_lrn (pq_add S o) j S.1).2.2.2 (pq_pg (pq_add S o).2.1 k) ∧ (pq_lrn (pq_add S o) j S.1).2.2.1 (pq_pg (pq_add S o).2.1 k) i = k
    have hk' : k < S.1 + 1 := hk
    by_cases e : k = S.1
    · subst e
      have epg : pq_pg (pq_add S o).2.1 S.1 = j := by unfold pq_pg; rw [en']
      rw [epg]
      refine ⟨S.2.2.2 j, ?_, ?_⟩
      · show S.2.2.2 j < if j = j then S.2.2.2 j + 1 else _
        rw [if_pos rfl]; omega
      · show (if j = j ∧ S.2.2.2 j = S.2.2.2 j then S.1 else _) = _
        rw [if_pos ⟨rfl, rfl⟩]
    · have epg : pq_pg (pq_add S o).2.1 k = pq_pg S.2.1 k := by unfold pq_pg; rw [eo k (by omega)]
      rw [epg]
      obtain ⟨i, hi, hq⟩ := k4 k (by omega)
      refine ⟨i, ?_, ?_⟩
      · show i < if pq_pg S.2.1 k = j then S.2.2.2 j + 1 else S.2.2.2 (pq_pg S.2.1 k)
        split
        · rename_i h9; rw [h9] at hi; omega
        · exact hi
      · show (if pq_pg S.2.1 k = j ∧ i = S.2.2.2 j then S.1 else S.2.2.1 (pq_pg S.2.1 k) i) = k
        rw [if_neg (fun z => by rw [z.1, z.2] at hi; omega)]
        exact hq
/-- letters are characters -/
def sp_ch (S : pq_S) : Prop := ∀ k, k < S.1 → pq_so S.2.1 k = 0 → narrow .char (.int (pq_le S.2.1 k)) = .int (pq_le S.2.1 k)
theorem sp_new_ch {S : pq_S} {j so wh : Nat} {fi en : Option Nat} {le : Int32} (h : sp_ch S) (hle : so = 0 → narrow .char (.int le) = .int le) : sp_ch (sp_new S j so fi en wh le) := by
  intro k hk
  have hk' : k < S.1 + 1 := hk
  show (if k = S.1 then _ else S.2.1 k).1 = 0 → narrow .char (.int (if k = S.1 then _ else S.2.1 k).2.2.2.2.2.2) = .int (if k = S.1 then _ else S.2.1 k).2.2.2.2.2.2
  by_cases e : k = S.1
  · rw [if_pos e]; exact hle
  · rw [if_neg e]; exact h k (by omega)
theorem sp_t_kn {S : pq_S} {j q : Nat} (hok : pq_ok S) (hj : j < 3) (hq : q < (rm_T S j).length) : pq_so S.2.1 (sp_t S j q) = 0 ∧ ∃ i, i < S.2.2.2 j ∧ S.2.2.1 j i = sp_t S j q := by
  obtain ⟨a, b, c, -⟩ := rm_row_lt hok.2.1 (hok.2.2.1 j hj) (sp_t_row hq)
  exact ⟨b, (pq_kw_iff _ _ _).mp c⟩
def sp_g (S : pq_S) : Prop := pq_ok S ∧ sp_ch S
theorem sp_g.write {S : pq_S} (h : sp_g S) {x p c : Int32} (hc : narrow .char (.int c) = .int c) : sp_g (sp_write S x p c).2.2 := by
  unfold sp_write
  cases hx : sp_ix 3 x with
  | none => exact h
  | some j =>
    obtain ⟨hj, -⟩ := sp_ix_some hx (by decide)
    have hTl := sp_T_len h.1 hj
    simp only []
    cases hp : sp_ix ((rm_T S j).length + 1) p with
    | none => exact h
    | some q =>
      obtain ⟨hq, -⟩ := sp_ix_some hp (by omega)
      simp only []
      split
      · exact h
      · rename_i hM
        have hM' := h.1.1
        refine ⟨sp_new_ok h.1 hj (by omega) (by decide) (by decide) (fun r hr => ?_) (fun r hr => by cases hr) (Or.inl rfl), sp_new_ch h.2 fun _ => hc⟩
        by_cases hq0 : q = 0
        · rw [if_pos hq0] at hr; cases hr
        · rw [if_neg hq0] at hr; cases hr
          exact sp_t_kn h.1 hj (by omega)
theorem sp_g.erase {S : pq_S} (h : sp_g S) {x p : Int32} : sp_g (sp_erase S x p).2.2 := by
  unfold sp_erase
  cases hx : sp_ix 3 x with
  | none => exact h
  | some j =>
    obtain ⟨hj, -⟩ := sp_ix_some hx (by decide)
    have hTl := sp_T_len h.1 hj
    simp only []
    cases hp : sp_ix (rm_T S j).length p with
    | none => exact h
    | some q =>
      obtain ⟨hq, -⟩ := sp_ix_some hp (by omega)
      simp only []
      split
      · exact h
      · rename_i hM
        have hM' := h.1.1
        refine ⟨sp_new_ok h.1 hj (by omega) (by decide) (by decide) (fun r hr => ?_) (fun r hr => by cases hr) (Or.inr ⟨_, rfl⟩), sp_new_ch h.2 fun z => by cases z⟩
        cases hr
        exact sp_t_kn h.1 hj hq
theorem sp_g.mark {S : pq_S} (h : sp_g S) {x f t w : Int32} : sp_g (sp_mark S x f t w).2.2 := by
  unfold sp_mark
  cases hx : sp_ix 3 x with
  | none => exact h
  | some j =>
    cases hw : sp_ix 8 w with
    | none => exact h
    | some k =>
      obtain ⟨hj, -⟩ := sp_ix_some hx (by decide)
      obtain ⟨hk, -⟩ := sp_ix_some hw (by decide)
      have hTl := sp_T_len h.1 hj
      simp only []
      cases hf : sp_ix (rm_T S j).length f with
      | none => exact h
      | some a =>
        cases ht : sp_ix ((rm_T S j).length + 1) t with
        | none => exact h
        | some b =>
          obtain ⟨ha, -⟩ := sp_ix_some hf (by omega)
          obtain ⟨hb, -⟩ := sp_ix_some ht (by omega)
          simp only []
          split
          · exact h
          · rename_i hba
            split
            · exact h
            · rename_i hM
              have hM' := h.1.1
              refine ⟨sp_new_ok h.1 hj (by omega) (by decide) hk (fun r hr => ?_) (fun r hr => ?_) (Or.inr ⟨_, rfl⟩), sp_new_ch h.2 fun z => by cases z⟩
              · cases hr
                exact sp_t_kn h.1 hj ha
              · split at hr
                · cases hr
                  exact sp_t_kn h.1 hj (by omega)
                · split at hr
                  · rename_i h9
                    cases hr
                    exact sp_t_kn h.1 hj h9
                  · cases hr
theorem sp_g.tell {S : pq_S} (h : sp_g S) {x y n : Int32} : sp_g (sp_tell S x y n).2.2 := by
  unfold sp_tell
  cases hx : sp_ix 3 x with
  | none => exact h
  | some a =>
    cases hy : sp_ix 3 y with
    | none => exact h
    | some b =>
      obtain ⟨ha, -⟩ := sp_ix_some hx (by decide)
      obtain ⟨hb, -⟩ := sp_ix_some hy (by decide)
      simp only []
      split
      · exact h
      · obtain ⟨h1, h2, h3, -⟩ := sp_tl_ok h.1 (n := n.toInt.toNat) ha hb (S.2.2.2 a) (Nat.le_refl _)
        refine ⟨h1, fun k hk => ?_⟩
        simp only [] at hk ⊢
        rw [h2] at hk
        rw [h3]
        exact h.2 k hk
theorem sp_g0 : sp_g sp_0 := by
  have n0 : ∀ k, ¬ k < sp_0.1 := fun k hk => Nat.not_lt_zero k hk
  have n1 : ∀ j k, ¬ k < sp_0.2.2.2 j := fun j k hk => Nat.not_lt_zero k hk
  exact ⟨⟨by decide, ⟨fun k hk => absurd hk (n0 k), fun k hk => absurd hk (n0 k), fun j k hj => absurd hj (n0 j), fun k hk => absurd hk (n0 k), fun k hk => absurd hk (n0 k)⟩, fun j hj => ⟨fun i hi => absurd hi (n1 j i), fun i k hi => absurd hi (n1 j i), fun i hi => absurd hi (n1 j i)⟩, fun k hk => absurd hk (n0 k)⟩, fun k hk => absurd hk (n0 k)⟩
