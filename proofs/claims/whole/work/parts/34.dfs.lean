/-! The reference's walk over the row: what comes next. -/
def rm_PA (O : pq_O) : Option Nat → List Nat
  | none => []
  | some a => pq_pa O a
def rm_cond (O : pq_O) (F : List Nat) (c : Nat) (at_ : Option Nat) : Prop := (∀ a, at_ = some a → a ∈ F.take c) ∧ ∀ f, F[c]? = some f → ∃ t, rm_PA O at_ = rm_PA O (pq_fi O f) ++ t
section RMD
variable {M : Nat} {O : pq_O} {kn : Nat → Nat} {cn : Nat}
theorem rm_pa {k : Nat} (hw : pq_wf M O) (hk : k < M) : pq_pa O k = rm_PA O (pq_fi O k) ++ [pq_id O k] := by
  rw [pq_pa_eq hw hk]
  cases pq_fi O k <;> rfl
theorem rm_PA_nil (hw : pq_wf M O) {x : Option Nat} (hx : ∀ p, x = some p → p < M) (h : rm_PA O x = []) : x = none := by
  cases x with
  | none => rfl
  | some p =>
    obtain ⟨Q, hQ⟩ := pq_pa_last hw (hx p rfl)
    have h' : pq_pa O p = [] := h
    rw [hQ] at h'
    simp at h'
theorem rm_PA_inj (hw : pq_wf M O) {x z : Option Nat} (hx : ∀ p, x = some p → p < M) (hz : ∀ p, z = some p → p < M) (h : rm_PA O x = rm_PA O z) : x = z := by
  cases x with
  | none => exact (rm_PA_nil hw hz h.symm).symm
  | some p => cases z with
    | none => exact rm_PA_nil hw hx h
    | some q => rw [pq_pa_inj hw (hx p rfl) (hz q rfl) h]
theorem rm_row_lt (hw : pq_wf M O) (hk : pq_kn M O kn cn) {x : Nat} (hx : x ∈ pq_row O kn cn) : x < M ∧ pq_so O x = 0 ∧ pq_kw kn cn x = true ∧ ∀ p, pq_fi O x = some p → p ∈ pq_row O kn cn := by
  obtain ⟨hm, -⟩ := pq_row_ok hw cn hk
  obtain ⟨h1, i, hi, h2⟩ := (hm x).mp hx
  have hxM : x < M := by rw [← h2]; exact hk.1 i hi
  refine ⟨hxM, h1, (pq_kw_iff kn x cn).mpr ⟨i, hi, h2⟩, fun p hp => ?_⟩
  obtain ⟨j, hj, hjp⟩ := hk.2.2 i hi p (Or.inl (by rw [h2]; exact hp))
  exact (hm p).mpr ⟨(hw.1 x hxM p hp).2.1, j, by omega, hjp⟩
theorem rm_split {F : List Nat} {c f : Nat} (h : F[c]? = some f) : F = F.take c ++ f :: F.drop (c + 1) := by
  have hc : c < F.length := (List.getElem?_eq_some_iff.mp h).1
  have e : F[c] = f := (List.getElem?_eq_some_iff.mp h).2
  conv => lhs; rw [← List.take_append_drop c F]
  rw [List.drop_eq_getElem_cons hc, e]
/-- the next letter behind at_, or none -/
theorem rm_next (hw : pq_wf M O) (hk : pq_kn M O kn cn) {c : Nat} {at_ : Option Nat} (hc : rm_cond O (pq_row O kn cn) c at_) {ch : Nat → Bool}
    (hch : ∀ k, k < M → (ch k = true ↔ (pq_kw kn cn k = true ∧ pq_so O k = 0) ∧ pq_fi O k = at_ ∧ k ∉ (pq_row O kn cn).take c)) :
    (∀ f, (pq_row O kn cn)[c]? = some f → pq_fi O f = at_ → pq_best (pq_id O) ch M = some f) ∧ (∀ f, (pq_row O kn cn)[c]? = some f → pq_fi O f ≠ at_ → pq_best (pq_id O) ch M = none) ∧ ((pq_row O kn cn)[c]? = none → pq_best (pq_id O) ch M = none) := by
  obtain ⟨hm, hs⟩ := pq_row_ok hw cn hk
  have hnd := pq_row_nodup hw hk
  have hin : ∀ k, k < M → ch k = true → k ∈ pq_row O kn cn := fun k hkM h => by
    obtain ⟨⟨h1, h2⟩, -, -⟩ := (hch k hkM).mp h
    obtain ⟨i, hi, h3⟩ := (pq_kw_iff kn k cn).mp h1
    exact (hm k).mpr ⟨h2, i, hi, h3⟩
  have hatM : ∀ p, at_ = some p → p < M := fun p hp => (rm_row_lt hw hk (List.mem_of_mem_take (hc.1 p hp))).1
  generalize hF : pq_row O kn cn = F at *
  refine ⟨fun f hf hfa => ?_, fun f hf hfa => ?_, fun hn => ?_⟩
  · have hsp := rm_split hf
    have hfF : f ∈ F := List.mem_of_getElem? hf
    obtain ⟨hfM, hso, hkw, -⟩ := rm_row_lt hw hk (hF ▸ hfF)
    have hs2 := hs
    rw [hsp, List.pairwise_append] at hs2
    have hnt : f ∉ F.take c := fun h => pq_lt_irr _ (hs2.2.2 f h f (by simp))
    refine pq_best_is hfM ((hch f hfM).mpr ⟨⟨hkw, hso⟩, hfa, hnt⟩) (fun k hkM hck hkf => ?_)
    obtain ⟨-, hka, hkt⟩ := (hch k hkM).mp hck
    have hkF := hin k hkM hck
    rw [hsp] at hkF
    rcases List.mem_append.mp hkF with h | h
    · exact absurd h hkt
    · rcases List.mem_cons.mp h with h | h
      · exact absurd h hkf
      · refine pq_dfsA (A := rm_PA O at_) hs2.2.1 ?_ k h ?_
        · rw [rm_pa hw hfM, hfa]
        · rw [rm_pa hw hkM, hka]
  · have hsp := rm_split hf
    have hfF : f ∈ F := List.mem_of_getElem? hf
    obtain ⟨hfM, hso, hkw, hpar⟩ := rm_row_lt hw hk (hF ▸ hfF)
    have hs2 := hs
    rw [hsp, List.pairwise_append] at hs2
    refine pq_best_none (fun k hkM => ?_)
    cases hck : ch k with
    | false => rfl
    | true =>
      exfalso
      obtain ⟨-, hka, hkt⟩ := (hch k hkM).mp hck
      have hkF := hin k hkM hck
      rw [hsp] at hkF
      have hkd : k ∈ f :: F.drop (c + 1) := by
        rcases List.mem_append.mp hkF with h | h
        · exact absurd h hkt
        · exact h
      obtain ⟨t, ht⟩ := hc.2 f hf
      cases t with
      | nil =>
        rw [List.append_nil] at ht
        exact hfa (rm_PA_inj hw hatM (fun p hp => by have := (hw.1 f hfM p hp).1; omega) ht).symm
      | cons e t =>
        cases hat : at_ with
        | none => rw [hat] at ht; simp [rm_PA] at ht
        | some a =>
          have ha := hs2.2.2 a (hc.1 a hat) f (by simp)
          have hpa : pq_pa O a = rm_PA O (pq_fi O f) ++ e :: t := by rw [hat] at ht; exact ht
          rw [hpa] at ha
          refine pq_dfsB hs2.2.1 (rm_pa hw hfM) ha k hkd (pq_id O k) ?_
          rw [rm_pa hw hkM, hka, hat]
          show pq_pa O a ++ _ = _
          rw [hpa]
  · refine pq_best_none (fun k hkM => ?_)
    cases hck : ch k with
    | false => rfl
    | true =>
      exfalso
      obtain ⟨-, -, hkt⟩ := (hch k hkM).mp hck
      have hl : F.length ≤ c := List.getElem?_eq_none_iff.mp hn
      rw [List.take_of_length_le hl] at hkt
      exact hkt (hin k hkM hck)
theorem rm_down (hw : pq_wf M O) (hk : pq_kn M O kn cn) {c f : Nat} (hf : (pq_row O kn cn)[c]? = some f) : rm_cond O (pq_row O kn cn) (c + 1) (some f) := by
  obtain ⟨hm, hs⟩ := pq_row_ok hw cn hk
  have hlt : ∀ x ∈ pq_row O kn cn, x < M ∧ ∀ p, pq_fi O x = some p → p ∈ pq_row O kn cn := fun x hx => ⟨(rm_row_lt hw hk hx).1, (rm_row_lt hw hk hx).2.2.2⟩
  generalize pq_row O kn cn = F at *
  have hsp := rm_split hf
  have hc : c < F.length := (List.getElem?_eq_some_iff.mp hf).1
  refine ⟨fun a ha => ?_, fun q hq => ?_⟩
  · cases ha
    rw [List.take_succ, hf]
    simp
  · have hsp2 := rm_split hq
    have e2 : F.drop (c + 1) = q :: F.drop (c + 2) := by
      have hc2 : c + 1 < F.length := (List.getElem?_eq_some_iff.mp hq).1
      rw [List.drop_eq_getElem_cons hc2, (List.getElem?_eq_some_iff.mp hq).2]
    have hqF : q ∈ F := List.mem_of_getElem? hq
    obtain ⟨hqM, hqp⟩ := hlt q hqF
    rw [e2] at hsp
    have hs2 := hs
    rw [hsp] at hs2
    refine pq_dfsC (n := pq_id O q) (R := rm_PA O (pq_fi O q)) hs2 (rm_pa hw hqM) ?_
    cases hp : pq_fi O q with
    | none => exact Or.inl rfl
    | some p => exact Or.inr ⟨p, by rw [← hsp]; exact hqp p hp, rfl⟩
theorem rm_up (hw : pq_wf M O) (hk : pq_kn M O kn cn) {c a : Nat} (hc : rm_cond O (pq_row O kn cn) c (some a)) (hn : ∀ f, (pq_row O kn cn)[c]? = some f → pq_fi O f ≠ some a) : rm_cond O (pq_row O kn cn) c (pq_fi O a) := by
  obtain ⟨hm, hs⟩ := pq_row_ok hw cn hk
  have hlt : ∀ x ∈ pq_row O kn cn, x < M ∧ ∀ p, pq_fi O x = some p → p ∈ pq_row O kn cn := fun x hx => ⟨(rm_row_lt hw hk hx).1, (rm_row_lt hw hk hx).2.2.2⟩
  generalize pq_row O kn cn = F at *
  have haT := hc.1 a rfl
  have haF : a ∈ F := List.mem_of_mem_take haT
  obtain ⟨haM, hap⟩ := hlt a haF
  refine ⟨fun p hp => ?_, fun f hf => ?_⟩
  · -- the parent is ahead of a
    have hpF := hap p hp
    have hpa : pq_lt (pq_pa O p) (pq_pa O a) := by
      rw [rm_pa hw haM, hp]
      exact pq_lt_app _ _ _
    rw [← List.take_append_drop c F] at hpF hs
    rcases List.mem_append.mp hpF with h | h
    · exact h
    · exfalso
      rw [List.pairwise_append] at hs
      exact pq_lt_irr _ (pq_lt_tr _ _ _ hpa (hs.2.2 a haT p h))
  · obtain ⟨t, ht⟩ := hc.2 f hf
    have hfF : f ∈ F := List.mem_of_getElem? hf
    obtain ⟨hfM, hfp⟩ := hlt f hfF
    have e1 : rm_PA O (some a) = rm_PA O (pq_fi O a) ++ [pq_id O a] := rm_pa hw haM
    cases ht0 : t with
    | nil =>
      exfalso
      rw [ht0, List.append_nil] at ht
      exact hn f hf (rm_PA_inj hw (fun p hp => (hlt p (hfp p hp)).1) (fun p hp => by cases hp; exact haM) ht.symm)
    | cons x t0 =>
      have hne : t ≠ [] := by rw [ht0]; simp
      refine ⟨t.dropLast, ?_⟩
      rw [e1] at ht
      have h2 := congrArg List.dropLast ht
      rw [List.dropLast_concat, List.dropLast_append_of_ne_nil hne] at h2
      exact h2
theorem rm_end (hw : pq_wf M O) (hk : pq_kn M O kn cn) {c : Nat} (hc : rm_cond O (pq_row O kn cn) c none) (hn : ∀ f, (pq_row O kn cn)[c]? = some f → pq_fi O f ≠ none) : (pq_row O kn cn)[c]? = none := by
  cases hf : (pq_row O kn cn)[c]? with
  | none => rfl
  | some f =>
    exfalso
    obtain ⟨t, ht⟩ := hc.2 f hf
    have hfF : f ∈ pq_row O kn cn := List.mem_of_getElem? hf
    obtain ⟨hfM, -, -, hfp⟩ := rm_row_lt hw hk hfF
    have h1 : rm_PA O (pq_fi O f) = [] := by
      have h2 : ([] : List Nat) = rm_PA O (pq_fi O f) ++ t := ht
      exact (List.append_eq_nil_iff.mp h2.symm).1
    exact hn f hf (rm_PA_nil hw (fun p hp => (rm_row_lt hw hk (hfp p hp)).1) h1)
end RMD
