/-! The reference: its object at 26, its arrays at 27 .. 39. -/
def rm_K (G : mp_G) (h : mp_H) : Prop := 41 ≤ h.2.2 ∧ h.1 26 = (5, 17) ∧ (h.1 27 = (10, 90) ∧ h.2.1 26 2 = .ref (G.1 + 27)) ∧ (h.1 28 = (10, 90) ∧ h.2.1 26 3 = .ref (G.1 + 28)) ∧ (h.1 29 = (10, 90) ∧ h.2.1 26 4 = .ref (G.1 + 29)) ∧ (h.1 30 = (10, 90) ∧ h.2.1 26 5 = .ref (G.1 + 30)) ∧ (h.1 31 = (10, 90) ∧ h.2.1 26 6 = .ref (G.1 + 31)) ∧ (h.1 32 = (12, 90) ∧ h.2.1 26 7 = .ref (G.1 + 32)) ∧ (h.1 33 = (10, 270) ∧ h.2.1 26 8 = .ref (G.1 + 33)) ∧ (h.1 34 = (11, 270) ∧ h.2.1 26 9 = .ref (G.1 + 34)) ∧ (h.1 35 = (10, 3) ∧ h.2.1 26 10 = .ref (G.1 + 35)) ∧ (h.1 36 = (10, 90) ∧ h.2.1 26 12 = .ref (G.1 + 36)) ∧ (h.1 37 = (10, 90) ∧ h.2.1 26 13 = .ref (G.1 + 37)) ∧ (h.1 38 = (10, 90) ∧ h.2.1 26 15 = .ref (G.1 + 38)) ∧ (h.1 39 = (11, 90) ∧ h.2.1 26 16 = .ref (G.1 + 39))
section RMK
variable {G : mp_G} {h : mp_H}
theorem rm_K.sz (hK : rm_K G h) {o : Nat} (ho : o < 41) : o < h.2.2 := Nat.lt_of_lt_of_le ho hK.1
theorem rm_K.ob (hK : rm_K G h) : h.1 26 = (5, 17) := hK.2.1
theorem rm_K.k_sort (hK : rm_K G h) : h.1 27 = (10, 90) := hK.2.2.1.1
theorem rm_K.r_sort (hK : rm_K G h) : h.2.1 26 2 = .ref (G.1 + 27) := hK.2.2.1.2
theorem rm_K.k_ids (hK : rm_K G h) : h.1 28 = (10, 90) := hK.2.2.2.1.1
theorem rm_K.r_ids (hK : rm_K G h) : h.2.1 26 3 = .ref (G.1 + 28) := hK.2.2.2.1.2
theorem rm_K.k_first (hK : rm_K G h) : h.1 29 = (10, 90) := hK.2.2.2.2.1.1
theorem rm_K.r_first (hK : rm_K G h) : h.2.1 26 4 = .ref (G.1 + 29) := hK.2.2.2.2.1.2
theorem rm_K.k_end (hK : rm_K G h) : h.1 30 = (10, 90) := hK.2.2.2.2.2.1.1
theorem rm_K.r_end (hK : rm_K G h) : h.2.1 26 5 = .ref (G.1 + 30) := hK.2.2.2.2.2.1.2
theorem rm_K.k_what (hK : rm_K G h) : h.1 31 = (10, 90) := hK.2.2.2.2.2.2.1.1
theorem rm_K.r_what (hK : rm_K G h) : h.2.1 26 6 = .ref (G.1 + 31) := hK.2.2.2.2.2.2.1.2
theorem rm_K.k_letters (hK : rm_K G h) : h.1 32 = (12, 90) := hK.2.2.2.2.2.2.2.1.1
theorem rm_K.r_letters (hK : rm_K G h) : h.2.1 26 7 = .ref (G.1 + 32) := hK.2.2.2.2.2.2.2.1.2
theorem rm_K.k_known (hK : rm_K G h) : h.1 33 = (10, 270) := hK.2.2.2.2.2.2.2.2.1.1
theorem rm_K.r_known (hK : rm_K G h) : h.2.1 26 8 = .ref (G.1 + 33) := hK.2.2.2.2.2.2.2.2.1.2
theorem rm_K.k_knows (hK : rm_K G h) : h.1 34 = (11, 270) := hK.2.2.2.2.2.2.2.2.2.1.1
theorem rm_K.r_knows (hK : rm_K G h) : h.2.1 26 9 = .ref (G.1 + 34) := hK.2.2.2.2.2.2.2.2.2.1.2
theorem rm_K.k_count (hK : rm_K G h) : h.1 35 = (10, 3) := hK.2.2.2.2.2.2.2.2.2.2.1.1
theorem rm_K.r_count (hK : rm_K G h) : h.2.1 26 10 = .ref (G.1 + 35) := hK.2.2.2.2.2.2.2.2.2.2.1.2
theorem rm_K.k_row (hK : rm_K G h) : h.1 36 = (10, 90) := hK.2.2.2.2.2.2.2.2.2.2.2.1.1
theorem rm_K.r_row (hK : rm_K G h) : h.2.1 26 12 = .ref (G.1 + 36) := hK.2.2.2.2.2.2.2.2.2.2.2.1.2
theorem rm_K.k_place (hK : rm_K G h) : h.1 37 = (10, 90) := hK.2.2.2.2.2.2.2.2.2.2.2.2.1.1
theorem rm_K.r_place (hK : rm_K G h) : h.2.1 26 13 = .ref (G.1 + 37) := hK.2.2.2.2.2.2.2.2.2.2.2.2.1.2
theorem rm_K.k_text (hK : rm_K G h) : h.1 38 = (10, 90) := hK.2.2.2.2.2.2.2.2.2.2.2.2.2.1.1
theorem rm_K.r_text (hK : rm_K G h) : h.2.1 26 15 = .ref (G.1 + 38) := hK.2.2.2.2.2.2.2.2.2.2.2.2.2.1.2
theorem rm_K.k_passed (hK : rm_K G h) : h.1 39 = (11, 90) := hK.2.2.2.2.2.2.2.2.2.2.2.2.2.2.1
theorem rm_K.r_passed (hK : rm_K G h) : h.2.1 26 16 = .ref (G.1 + 39) := hK.2.2.2.2.2.2.2.2.2.2.2.2.2.2.2
end RMK
/-- what the cells outside a set hold stays -/
def mp_fr (P : Nat → Nat → Prop) (h h' : mp_H) : Prop := h'.1 = h.1 ∧ h'.2.2 = h.2.2 ∧ ∀ o i, ¬ P o i → h'.2.1 o i = h.2.1 o i
theorem mp_fr.rf {P : Nat → Nat → Prop} {h : mp_H} : mp_fr P h h := ⟨rfl, rfl, fun _ _ _ => rfl⟩
theorem mp_fr.tr {P : Nat → Nat → Prop} {h h' h'' : mp_H} (a : mp_fr P h h') (b : mp_fr P h' h'') : mp_fr P h h'' := ⟨b.1.trans a.1, b.2.1.trans a.2.1, fun o i hn => (b.2.2 o i hn).trans (a.2.2 o i hn)⟩
theorem mp_fr.set {P : Nat → Nat → Prop} {h h' : mp_H} (a : mp_fr P h h') {o i : Nat} {v : Value} (hP : P o i) : mp_fr P h (mp_set h' o i v) :=
  ⟨a.1, a.2.1, fun o' i' hn => by rw [mp_set_ne _ _ (fun e => hn (by rw [e.1, e.2]; exact hP))]; exact a.2.2 o' i' hn⟩
theorem mp_fr.mono {P P' : Nat → Nat → Prop} {h h' : mp_H} (a : mp_fr P h h') (hPP : ∀ o i, P o i → P' o i) : mp_fr P' h h' := ⟨a.1, a.2.1, fun o i hn => a.2.2 o i (fun e => hn (hPP o i e))⟩
/-- the reference's scratch: code, rowLength, textLength; row, place, text, passed -/
def rm_P (o i : Nat) : Prop := (o = 26 ∧ (i = 0 ∨ i = 11 ∨ i = 14)) ∨ o = 36 ∨ o = 37 ∨ o = 38 ∨ o = 39
theorem rm_K.fr {G : mp_G} {h h' : mp_H} (hK : rm_K G h) (P : Nat → Nat → Prop) (hP : ∀ i, i ≠ 0 → i ≠ 1 → i ≠ 11 → i ≠ 14 → ¬ P 26 i) (hf : mp_fr P h h') : rm_K G h' := by
  obtain ⟨e1, e2, e3⟩ := hf
  unfold rm_K at hK ⊢
  rw [e1, e2]
  simp only [e3 26 2 (hP 2 (by decide) (by decide) (by decide) (by decide)), e3 26 3 (hP 3 (by decide) (by decide) (by decide) (by decide)), e3 26 4 (hP 4 (by decide) (by decide) (by decide) (by decide)), e3 26 5 (hP 5 (by decide) (by decide) (by decide) (by decide)), e3 26 6 (hP 6 (by decide) (by decide) (by decide) (by decide)), e3 26 7 (hP 7 (by decide) (by decide) (by decide) (by decide)), e3 26 8 (hP 8 (by decide) (by decide) (by decide) (by decide)), e3 26 9 (hP 9 (by decide) (by decide) (by decide) (by decide)), e3 26 10 (hP 10 (by decide) (by decide) (by decide) (by decide)), e3 26 12 (hP 12 (by decide) (by decide) (by decide) (by decide)), e3 26 13 (hP 13 (by decide) (by decide) (by decide) (by decide)), e3 26 15 (hP 15 (by decide) (by decide) (by decide) (by decide)), e3 26 16 (hP 16 (by decide) (by decide) (by decide) (by decide))]
  exact hK
/-- an operation's number or none, as an int -/
def rm_i : Option Nat → Int32
  | none => -1
  | some p => nI p
def rm_b (b : Bool) : Int32 := if b then nI 1 else nI 0
/-- the reference holds S -/
def rm_S (h : mp_H) (S : pq_S) : Prop := h.2.1 26 1 = .int (nI S.1) ∧
  (∀ k, k < S.1 → h.2.1 27 k = .int (nI (pq_so S.2.1 k)) ∧ h.2.1 28 k = .int (nI (pq_id S.2.1 k)) ∧ h.2.1 29 k = .int (rm_i (pq_fi S.2.1 k)) ∧ h.2.1 30 k = .int (rm_i (pq_en S.2.1 k)) ∧ h.2.1 31 k = .int (nI (pq_wh S.2.1 k)) ∧ (pq_so S.2.1 k = 0 → h.2.1 32 k = .int (pq_le S.2.1 k))) ∧
  (∀ j, j < 3 → h.2.1 35 j = .int (nI (S.2.2.2 j)) ∧ (∀ i, i < S.2.2.2 j → h.2.1 33 (90 * j + i) = .int (nI (S.2.2.1 j i))) ∧ ∀ k, k < 90 → h.2.1 34 (90 * j + k) = .int (rm_b (pq_kw (S.2.2.1 j) (S.2.2.2 j) k)))
theorem rm_S.fr {h h' : mp_H} {S : pq_S} (hS : rm_S h S) (hf : mp_fr rm_P h h') : rm_S h' S := by
  obtain ⟨e1, e2, e3⟩ := hf
  obtain ⟨s1, s2, s3⟩ := hS
  have n1 : ¬ rm_P 26 1 := by unfold rm_P; omega
  have nn : ∀ o i, 27 ≤ o → o ≤ 35 → ¬ rm_P o i := by intro o i h1 h2; unfold rm_P; omega
  refine ⟨by rw [e3 _ _ n1]; exact s1, fun k hk => ?_, fun j hj => ?_⟩
  · rw [e3 _ _ (nn 27 k (by omega) (by omega)), e3 _ _ (nn 28 k (by omega) (by omega)), e3 _ _ (nn 29 k (by omega) (by omega)), e3 _ _ (nn 30 k (by omega) (by omega)), e3 _ _ (nn 31 k (by omega) (by omega)), e3 _ _ (nn 32 k (by omega) (by omega))]
    exact s2 k hk
  · obtain ⟨a, b, c⟩ := s3 j hj
    exact ⟨by rw [e3 _ _ (nn 35 j (by omega) (by omega))]; exact a, fun i hi => by rw [e3 _ _ (nn 33 _ (by omega) (by omega))]; exact b i hi, fun k hk => by rw [e3 _ _ (nn 34 _ (by omega) (by omega))]; exact c k hk⟩
theorem rm_b_1 : rm_b true = nI 1 := rfl
theorem rm_b_0 : rm_b false = nI 0 := rfl
theorem rm_i_eq {a b : Option Nat} (ha : ∀ p, a = some p → p < 1000) (hb : ∀ p, b = some p → p < 1000) : rm_i a = rm_i b ↔ a = b := by
  have m1 : ∀ p : Nat, p < 1000 → nI p ≠ -1 := fun p hp e => by
    have h1 := congrArg Int32.toInt e
    rw [nI_toInt (by omega)] at h1
    have h2 : (-1 : Int32).toInt = -1 := by decide
    omega
  cases a with
  | none => cases b with
    | none => simp
    | some q => exact ⟨fun e => absurd e.symm (m1 q (hb q rfl)), fun e => by cases e⟩
  | some p => cases b with
    | none => exact ⟨fun e => absurd e (m1 p (ha p rfl)), fun e => by cases e⟩
    | some q =>
      have := nI_eq (a := p) (b := q) (by have := ha p rfl; omega) (by have := hb q rfl; omega)
      simp only [rm_i, Option.some.injEq]
      exact this
theorem rm_i_neg (a : Option Nat) (ha : ∀ p, a = some p → p < 1000) : rm_i a < 0 ↔ a = none := by
  cases a with
  | none => simp [rm_i]
  | some p =>
    have := nI_pos (n := p) (by have := ha p rfl; omega)
    simp only [rm_i, reduceCtorEq, iff_false]
    exact this
