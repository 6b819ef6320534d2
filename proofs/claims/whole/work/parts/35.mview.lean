theorem rm_K.st {G : mp_G} {h : mp_H} (hK : rm_K G h) {o i : Nat} {v : Value} (ho : o ≠ 26 ∨ i = 0 ∨ i = 1 ∨ i = 11 ∨ i = 14) : rm_K G (mp_set h o i v) := by
  refine hK.fr (fun a b => a = o ∧ b = i) (fun b h1 h2 h3 h4 => ?_) (mp_fr.rf.set ⟨rfl, rfl⟩)
  omega
/-- what look writes: rowLength, textLength, row, place, text, passed -/
def rm_Q (o i : Nat) : Prop := (o = 26 ∧ (i = 11 ∨ i = 14)) ∨ o = 36 ∨ o = 37 ∨ o = 38 ∨ o = 39
theorem rm_QP {o i : Nat} (h : rm_Q o i) : rm_P o i := by unfold rm_Q at h; unfold rm_P; omega
abbrev rm_F (S : pq_S) (j : Nat) : List Nat := pq_row S.2.1 (S.2.2.1 j) (S.2.2.2 j)
abbrev rm_T (S : pq_S) (j : Nat) : List Nat := pq_tx S.2.1 (S.2.2.1 j) (S.2.2.2 j)
/-- a page is looked at -/
def rm_V (h : mp_H) (S : pq_S) (j : Nat) : Prop := h.2.1 26 14 = .int (nI (rm_T S j).length) ∧ (∀ i x, (rm_T S j)[i]? = some x → h.2.1 38 i = .int (nI x)) ∧ ∀ i x, (rm_F S j)[i]? = some x → h.2.1 37 x = .int (nI i)
def rm_Tc (S : pq_S) (j c : Nat) : List Nat := ((rm_F S j).take c).filter fun k => !pq_gn S.2.1 (S.2.2.1 j) (S.2.2.2 j) k
/-- while it is looked at: c letters passed -/
def rm_J (h : mp_H) (S : pq_S) (j c : Nat) : Prop := c ≤ (rm_F S j).length ∧ h.2.1 26 11 = .int (nI c) ∧ h.2.1 26 14 = .int (nI (rm_Tc S j c).length) ∧ (∀ k, k < S.1 → h.2.1 39 k = .int (rm_b (decide (k ∈ (rm_F S j).take c)))) ∧
  (∀ i x, i < c → (rm_F S j)[i]? = some x → h.2.1 37 x = .int (nI i)) ∧ ∀ i x, (rm_Tc S j c)[i]? = some x → h.2.1 38 i = .int (nI x)
theorem rm_Tc_succ {S : pq_S} {j c f : Nat} (hf : (rm_F S j)[c]? = some f) : rm_Tc S j (c + 1) = rm_Tc S j c ++ (if pq_gn S.2.1 (S.2.2.1 j) (S.2.2.2 j) f then [] else [f]) := by
  unfold rm_Tc
  rw [List.take_succ, hf, List.filter_append]
  cases hg : pq_gn S.2.1 (S.2.2.1 j) (S.2.2.2 j) f <;> simp [hg]
theorem rm_Tc_len {S : pq_S} {j c : Nat} (hc : c ≤ (rm_F S j).length) : (rm_Tc S j c).length ≤ c := by
  unfold rm_Tc
  refine Nat.le_trans (List.length_filter_le _ _) ?_
  simp
  omega
theorem rm_J_end {h : mp_H} {S : pq_S} {j c : Nat} (hJ : rm_J h S j c) (hn : (rm_F S j)[c]? = none) : rm_V h S j := by
  obtain ⟨j1, j2, j3, j4, j5, j6⟩ := hJ
  have hl : (rm_F S j).length ≤ c := List.getElem?_eq_none_iff.mp hn
  have e : rm_Tc S j c = rm_T S j := by unfold rm_Tc rm_T pq_tx; rw [List.take_of_length_le hl]
  rw [e] at j3 j6
  exact ⟨j3, j6, fun i x hx => j5 i x (by have := (List.getElem?_eq_some_iff.mp hx).1; omega) hx⟩
theorem rm_take_in {F : List Nat} {c f k : Nat} (hf : F[c]? = some f) : k ∈ F.take (c + 1) ↔ k = f ∨ k ∈ F.take c := by
  rw [List.take_succ, hf]
  simp [or_comm]
/-- a letter is passed that is gone -/
theorem rm_J_gone {h h' : mp_H} {S : pq_S} {j c f : Nat} (hok : pq_ok S) (hj : j < 3) (hJ : rm_J h S j c) (hf : (rm_F S j)[c]? = some f) (hg : pq_gn S.2.1 (S.2.2.1 j) (S.2.2.2 j) f = true)
    (hh : ∀ a b, h'.2.1 a b = if a = 26 ∧ b = 11 then .int (nI (c + 1)) else if a = 36 ∧ b = c then .int (nI f) else if a = 37 ∧ b = f then .int (nI c) else if a = 39 ∧ b = f then .int (nI 1) else h.2.1 a b) : rm_J h' S j (c + 1) := by
  obtain ⟨j1, j2, j3, j4, j5, j6⟩ := hJ
  have hnd := pq_row_nodup hok.2.1 (hok.2.2.1 j hj)
  have hlt : c < (rm_F S j).length := (List.getElem?_eq_some_iff.mp hf).1
  have eT := rm_Tc_succ hf
  rw [hg, if_pos rfl, List.append_nil] at eT
  refine ⟨hlt, by rw [hh]; simp, by rw [hh, eT]; simpa using j3, fun k hk => ?_, fun i x hi hx => ?_, fun i x hx => ?_⟩
  · rw [hh]
    have h1 : ¬ (39 = 26 ∧ k = 11) := by omega
    have h2 : ¬ (39 = 36 ∧ k = c) := by omega
    have h3 : ¬ (39 = 37 ∧ k = f) := by omega
    rw [if_neg h1, if_neg h2, if_neg h3]
    by_cases e : k = f
    · rw [if_pos ⟨rfl, e⟩]
      have : k ∈ (rm_F S j).take (c + 1) := (rm_take_in hf).mpr (Or.inl e)
      rw [decide_eq_true this]; rfl
    · rw [if_neg (by omega), j4 k hk]
      congr 2
      exact decide_eq_decide.mpr (by rw [rm_take_in hf]; simp [e])
  · rw [hh]
    have h1 : ¬ (37 = 26 ∧ x = 11) := by omega
    have h2 : ¬ (37 = 36 ∧ x = c) := by omega
    rw [if_neg h1, if_neg h2]
    by_cases e : i = c
    · subst e
      rw [hf] at hx
      cases hx
      rw [if_pos ⟨rfl, rfl⟩]
    · have hxf : x ≠ f := fun e2 => e ((List.getElem?_inj (by have := (List.getElem?_eq_some_iff.mp hx).1; exact this) hnd).mp (by rw [hx, hf, e2]))
      have h3 : ¬ (37 = 37 ∧ x = f) := fun z => hxf z.2
      have h4 : ¬ (37 = 39 ∧ x = f) := by omega
      rw [if_neg h3, if_neg h4]
      exact j5 i x (by omega) hx
  · rw [hh]
    have h1 : ¬ (38 = 26 ∧ i = 11) := by omega
    have h2 : ¬ (38 = 36 ∧ i = c) := by omega
    have h3 : ¬ (38 = 37 ∧ i = f) := by omega
    have h4 : ¬ (38 = 39 ∧ i = f) := by omega
    rw [if_neg h1, if_neg h2, if_neg h3, if_neg h4]
    rw [eT] at hx
    exact j6 i x hx
/-- a letter is passed that is shown -/
theorem rm_J_shown {h h' : mp_H} {S : pq_S} {j c f : Nat} (hok : pq_ok S) (hj : j < 3) (hJ : rm_J h S j c) (hf : (rm_F S j)[c]? = some f) (hg : pq_gn S.2.1 (S.2.2.1 j) (S.2.2.2 j) f = false)
    (hh : ∀ a b, h'.2.1 a b = if a = 26 ∧ b = 14 then .int (nI ((rm_Tc S j c).length + 1)) else if a = 38 ∧ b = (rm_Tc S j c).length then .int (nI f) else if a = 26 ∧ b = 11 then .int (nI (c + 1)) else if a = 36 ∧ b = c then .int (nI f) else if a = 37 ∧ b = f then .int (nI c) else if a = 39 ∧ b = f then .int (nI 1) else h.2.1 a b) : rm_J h' S j (c + 1) := by
  obtain ⟨j1, j2, j3, j4, j5, j6⟩ := hJ
  have hnd := pq_row_nodup hok.2.1 (hok.2.2.1 j hj)
  have hlt : c < (rm_F S j).length := (List.getElem?_eq_some_iff.mp hf).1
  have eT := rm_Tc_succ hf
  rw [hg, if_neg (by decide)] at eT
  refine ⟨hlt, by rw [hh]; simp, by rw [hh, eT]; simp, fun k hk => ?_, fun i x hi hx => ?_, fun i x hx => ?_⟩
  · rw [hh]
    have h1 : ¬ (39 = 26 ∧ k = 11) := by omega
    have h0 : ¬ (39 = 26 ∧ k = 14) := by omega
    have h5 : ¬ (39 = 38 ∧ k = (rm_Tc S j c).length) := by omega
    have h2 : ¬ (39 = 36 ∧ k = c) := by omega
    have h3 : ¬ (39 = 37 ∧ k = f) := by omega
    rw [if_neg h0, if_neg h5, if_neg h1, if_neg h2, if_neg h3]
    by_cases e : k = f
    · rw [if_pos ⟨rfl, e⟩]
      have : k ∈ (rm_F S j).take (c + 1) := (rm_take_in hf).mpr (Or.inl e)
      rw [decide_eq_true this]; rfl
    · rw [if_neg (by omega), j4 k hk]
      congr 2
      exact decide_eq_decide.mpr (by rw [rm_take_in hf]; simp [e])
  · rw [hh]
    have h1 : ¬ (37 = 26 ∧ x = 11) := by omega
    have h0 : ¬ (37 = 26 ∧ x = 14) := by omega
    have h5 : ¬ (37 = 38 ∧ x = (rm_Tc S j c).length) := by omega
    have h2 : ¬ (37 = 36 ∧ x = c) := by omega
    rw [if_neg h0, if_neg h5, if_neg h1, if_neg h2]
    by_cases e : i = c
    · subst e
      rw [hf] at hx
      cases hx
      rw [if_pos ⟨rfl, rfl⟩]
    · have hxf : x ≠ f := fun e2 => e ((List.getElem?_inj (by have := (List.getElem?_eq_some_iff.mp hx).1; exact this) hnd).mp (by rw [hx, hf, e2]))
      have h3 : ¬ (37 = 37 ∧ x = f) := fun z => hxf z.2
      have h4 : ¬ (37 = 39 ∧ x = f) := by omega
      rw [if_neg h3, if_neg h4]
      exact j5 i x (by omega) hx
  · rw [hh]
    have h1 : ¬ (38 = 26 ∧ i = 11) := by omega
    have h0 : ¬ (38 = 26 ∧ i = 14) := by omega
    have h2 : ¬ (38 = 36 ∧ i = c) := by omega
    have h3 : ¬ (38 = 37 ∧ i = f) := by omega
    have h4 : ¬ (38 = 39 ∧ i = f) := by omega
    rw [if_neg h0]
    rw [eT] at hx
    by_cases e : i = (rm_Tc S j c).length
    · rw [if_pos ⟨rfl, e⟩]
      rw [e, List.getElem?_append_right (Nat.le_refl _), Nat.sub_self] at hx
      cases hx
      rfl
    · rw [if_neg (by omega), if_neg h1, if_neg h2, if_neg h3, if_neg h4]
      have hil : i < (rm_Tc S j c).length := by
        have := (List.getElem?_eq_some_iff.mp hx).1
        simp at this
        omega
      rw [List.getElem?_append_left hil] at hx
      exact j6 i x hx
