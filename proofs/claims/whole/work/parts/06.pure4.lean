/-! The state of the whole: how many were made, the operations, what each page knows, how many. -/
abbrev pq_S : Type := Nat × pq_O × (Nat → Nat → Nat) × (Nat → Nat)
def pq_ok (S : pq_S) : Prop := S.1 ≤ 90 ∧ pq_wf S.1 S.2.1 ∧ (∀ j, j < 3 → pq_kn S.1 S.2.1 (S.2.2.1 j) (S.2.2.2 j)) ∧ ∀ k, k < S.1 → ∃ i, i < S.2.2.2 (pq_pg S.2.1 k) ∧ S.2.2.1 (pq_pg S.2.1 k) i = k
theorem pq_php : ∀ (M c : Nat) (f : Nat → Nat), (∀ i, i < c → f i < M) → (∀ i j, i < c → j < c → f i = f j → i = j) → c ≤ M
  | 0, c, f, h, _ => by
    rcases Nat.eq_zero_or_pos c with h0 | h0
    · omega
    · have := h 0 h0; omega
  | M + 1, c, f, h, hi => by
    by_cases hx : ∃ i, i < c ∧ f i = M
    · obtain ⟨i0, h0, h1⟩ := hx
      have := pq_php M (c - 1) (fun i => if i < i0 then f i else f (i + 1)) (fun i hic => by
        show (if i < i0 then f i else f (i + 1)) < M
        split
        · have a := h i (by omega)
          have b : f i ≠ M := fun e => by have := hi i i0 (by omega) h0 (by rw [e, h1]); omega
          omega
        · have a := h (i + 1) (by omega)
          have b : f (i + 1) ≠ M := fun e => by have := hi (i + 1) i0 (by omega) h0 (by rw [e, h1]); omega
          omega) (fun i j hic hjc he => by
        have he : (if i < i0 then f i else f (i + 1)) = (if j < i0 then f j else f (j + 1)) := he
        split at he <;> split at he
        · exact hi i j (by omega) (by omega) he
        · have := hi i (j + 1) (by omega) (by omega) he; omega
        · have := hi (i + 1) j (by omega) (by omega) he; omega
        · have := hi (i + 1) (j + 1) (by omega) (by omega) he; omega)
      omega
    · have := pq_php M c f (fun i hic => by
        have a := h i hic
        have b : f i ≠ M := fun e => hx ⟨i, hic, e⟩
        omega) hi
      omega
theorem pq_kn_le {M : Nat} {O : pq_O} {kn : Nat → Nat} {c : Nat} (h : pq_kn M O kn c) : c ≤ M := pq_php M c kn h.1 h.2.1
/-- a page learns -/
def pq_lrn (S : pq_S) (j k : Nat) : pq_S := (S.1, S.2.1, fun a i => if a = j ∧ i = S.2.2.2 j then k else S.2.2.1 a i, fun a => if a = j then S.2.2.2 j + 1 else S.2.2.2 a)
/-- an operation is made (nobody knows it yet) -/
def pq_add (S : pq_S) (o : Nat × Nat × Nat × Option Nat × Option Nat × Nat × Int32) : pq_S := (S.1 + 1, fun k => if k = S.1 then o else S.2.1 k, S.2.2.1, S.2.2.2)
/-- rows and the rest don't look at what isn't known -/
theorem pq_row_ext {O O' : pq_O} {kn kn' : Nat → Nat} : ∀ c, (∀ i, i < c → kn' i = kn i) → (∀ i, i < c → O' (kn i) = O (kn i)) → (∀ i, i < c → ∀ p, pq_fi O (kn i) = some p → ∃ j, j < i ∧ kn j = p) → pq_row O' kn' c = pq_row O kn c := by
  intro c
  induction c with
  | zero => intro _ _ _; rfl
  | succ c ih =>
    intro h1 h2 h3
    have e := ih (fun i hi => h1 i (by omega)) (fun i hi => h2 i (by omega)) (fun i hi => h3 i (by omega))
    have hmem : ∀ c0, c0 ≤ c → ∀ x ∈ pq_row O kn c0, ∃ i, i < c0 ∧ kn i = x := by
      intro c0
      induction c0 with
      | zero => intro _ x hx; cases hx
      | succ c0 ih0 =>
        intro hc0 x hx
        unfold pq_row at hx
        split at hx
        · rcases pq_ins_mem.mp hx with rfl | hx
          · exact ⟨c0, by omega, rfl⟩
          · obtain ⟨i, hi, hix⟩ := ih0 (by omega) x hx
            exact ⟨i, by omega, hix⟩
        · obtain ⟨i, hi, hix⟩ := ih0 (by omega) x hx
          exact ⟨i, by omega, hix⟩
    unfold pq_row
    rw [h1 c (by omega), e]
    have ec : O' (kn c) = O (kn c) := h2 c (by omega)
    have eso : pq_so O' (kn c) = pq_so O (kn c) := by unfold pq_so; rw [ec]
    rw [eso]
    split
    · have eid : ∀ x ∈ pq_row O kn c, pq_id O' x = pq_id O x := by
        intro x hx
        obtain ⟨i, hi, rfl⟩ := hmem c (Nat.le_refl _) x hx
        unfold pq_id pq_tm pq_pg
        rw [h2 i (by omega)]
      have eidc : pq_id O' (kn c) = pq_id O (kn c) := by unfold pq_id pq_tm pq_pg; rw [ec]
      have est : pq_st O' (pq_row O kn c) (kn c) = pq_st O (pq_row O kn c) (kn c) := by
        unfold pq_st pq_fi
        rw [ec]
      unfold pq_ins
      rw [est, eidc]
      have et : ∀ l : List Nat, (∀ x ∈ l, x ∈ pq_row O kn c) → l.takeWhile (fun x => decide (pq_id O (kn c) < pq_id O' x)) = l.takeWhile (fun x => decide (pq_id O (kn c) < pq_id O x)) ∧ l.dropWhile (fun x => decide (pq_id O (kn c) < pq_id O' x)) = l.dropWhile (fun x => decide (pq_id O (kn c) < pq_id O x)) := by
        intro l
        induction l with
        | nil => intro _; exact ⟨rfl, rfl⟩
        | cons a l ihl =>
          intro hl
          have ea := eid a (hl a (by simp))
          obtain ⟨i1, i2⟩ := ihl (fun x hx => hl x (by simp [hx]))
          rw [List.takeWhile_cons, List.takeWhile_cons, List.dropWhile_cons, List.dropWhile_cons, ea, i1, i2]
          exact ⟨rfl, rfl⟩
      obtain ⟨e1, e2⟩ := et ((pq_row O kn c).drop (pq_st O (pq_row O kn c) (kn c))) (fun x hx => List.mem_of_mem_drop hx)
      rw [e1, e2]
    · rfl
theorem pq_kw_ext {kn kn' : Nat → Nat} (k : Nat) : ∀ c, (∀ i, i < c → kn' i = kn i) → pq_kw kn' c k = pq_kw kn c k
  | 0, _ => rfl
  | c + 1, h => by
    unfold pq_kw
    rw [pq_kw_ext k c (fun i hi => h i (by omega)), h c (by omega)]
theorem pq_gn_ext {O O' : pq_O} {kn kn' : Nat → Nat} (k : Nat) : ∀ c, (∀ i, i < c → kn' i = kn i) → (∀ i, i < c → O' (kn i) = O (kn i)) → pq_gn O' kn' c k = pq_gn O kn c k
  | 0, _, _ => rfl
  | c + 1, h, h2 => by
    unfold pq_gn
    rw [pq_gn_ext k c (fun i hi => h i (by omega)) (fun i hi => h2 i (by omega)), h c (by omega)]
    unfold pq_so pq_fi
    rw [h2 c (by omega)]
theorem pq_mx_ext {O O' : pq_O} {kn kn' : Nat → Nat} : ∀ c, (∀ i, i < c → kn' i = kn i) → (∀ i, i < c → O' (kn i) = O (kn i)) → pq_mx O' kn' c = pq_mx O kn c
  | 0, _, _ => rfl
  | c + 1, h, h2 => by
    unfold pq_mx
    rw [pq_mx_ext c (fun i hi => h i (by omega)) (fun i hi => h2 i (by omega)), h c (by omega)]
    unfold pq_tm
    rw [h2 c (by omega)]
theorem pq_wf_add {S : pq_S} {o : Nat × Nat × Nat × Option Nat × Option Nat × Nat × Int32} (h : pq_wf S.1 S.2.1) (hf : ∀ p, o.2.2.2.1 = some p → p < S.1 ∧ pq_so S.2.1 p = 0 ∧ pq_id S.2.1 p < 4 * o.2.1 + o.2.2.1) (he : ∀ p, o.2.2.2.2.1 = some p → p < S.1 ∧ pq_so S.2.1 p = 0)
    (hid : ∀ k, k < S.1 → pq_id S.2.1 k ≠ 4 * o.2.1 + o.2.2.1) (ht : 1 ≤ o.2.1 ∧ o.2.1 ≤ S.1 + 1 ∧ o.2.2.1 < 3 ∧ o.1 < 3 ∧ o.2.2.2.2.2.1 < 8) (hs : o.1 = 0 ∨ ∃ p, o.2.2.2.1 = some p) : pq_wf (pq_add S o).1 (pq_add S o).2.1 := by
  obtain ⟨w1, w2, w3, w4, w5⟩ := h
  have eo : ∀ k, k < S.1 → (pq_add S o).2.1 k = S.2.1 k := fun k hk => by show (if k = S.1 then o else S.2.1 k) = _; rw [if_neg (by omega)]
  have en : (pq_add S o).2.1 S.1 = o := by show (if S.1 = S.1 then o else S.2.1 S.1) = _; rw [if_pos rfl]
  have eid : ∀ k, k < S.1 → pq_id (pq_add S o).2.1 k = pq_id S.2.1 k := fun k hk => by unfold pq_id pq_tm pq_pg; rw [eo k hk]
  have eidn : pq_id (pq_add S o).2.1 S.1 = 4 * o.2.1 + o.2.2.1 := by unfold pq_id pq_tm pq_pg; rw [en]
  have cases2 : ∀ k, k < (pq_add S o).1 → k < S.1 ∨ k = S.1 := fun k hk => by have : k < S.1 + 1 := hk; omega
  refine ⟨fun k hk p hp => ?_, fun k hk p hp => ?_, fun j k hj hk hjk => ?_, fun k hk => ?_, fun k hk => ?_⟩
  · rcases cases2 k hk with h | rfl
    · have hp' : pq_fi S.2.1 k = some p := by unfold pq_fi at hp ⊢; rw [eo k h] at hp; exact hp
      obtain ⟨a, b, c⟩ := w1 k h p hp'
      exact ⟨a, by unfold pq_so; rw [eo p (by omega)]; exact b, by rw [eid p (by omega), eid k h]; exact c⟩
    · have hp' : o.2.2.2.1 = some p := by unfold pq_fi at hp; rw [en] at hp; exact hp
      obtain ⟨a, b, c⟩ := hf p hp'
      exact ⟨a, by unfold pq_so; rw [eo p a]; exact b, by rw [eid p a, eidn]; exact c⟩
  · rcases cases2 k hk with h | rfl
    · have hp' : pq_en S.2.1 k = some p := by unfold pq_en at hp ⊢; rw [eo k h] at hp; exact hp
      obtain ⟨a, b⟩ := w2 k h p hp'
      exact ⟨a, by unfold pq_so; rw [eo p (by omega)]; exact b⟩
    · have hp' : o.2.2.2.2.1 = some p := by unfold pq_en at hp; rw [en] at hp; exact hp
      obtain ⟨a, b⟩ := he p hp'
      exact ⟨a, by unfold pq_so; rw [eo p a]; exact b⟩
  · rcases cases2 j hj with h | rfl <;> rcases cases2 k hk with h' | h'
    · rw [eid j h, eid k h']; exact w3 j k h h' hjk
    · subst h'; rw [eid j h, eidn]; exact hid j h
    · rw [eid k h', eidn]; exact fun e => hid k h' e.symm
    · exact absurd h'.symm hjk
  · rcases cases2 k hk with h | rfl
    · have := w4 k h
      unfold pq_tm pq_pg pq_so pq_wh
      rw [eo k h]; exact this
    · unfold pq_tm pq_pg pq_so pq_wh
      rw [en]; exact ht
  · rcases cases2 k hk with h | rfl
    · have := w5 k h
      unfold pq_so pq_fi
      rw [eo k h]; exact this
    · unfold pq_so pq_fi
      rw [en]; exact hs
/-- a page learns what it does not know, and knows what it speaks of -/
theorem pq_lrn_kn {S : pq_S} {j k : Nat} (hk : pq_kn S.1 S.2.1 (S.2.2.1 j) (S.2.2.2 j)) (hM : k < S.1) (hn : ∀ i, i < S.2.2.2 j → S.2.2.1 j i ≠ k) (hp : ∀ p, (pq_fi S.2.1 k = some p ∨ pq_en S.2.1 k = some p) → ∃ i, i < S.2.2.2 j ∧ S.2.2.1 j i = p) :
    pq_kn (pq_lrn S j k).1 (pq_lrn S j k).2.1 ((pq_lrn S j k).2.2.1 j) ((pq_lrn S j k).2.2.2 j) := by
  have ec : (pq_lrn S j k).2.2.2 j = S.2.2.2 j + 1 := by simp [pq_lrn]
  have e1 : ∀ i, i < S.2.2.2 j → (pq_lrn S j k).2.2.1 j i = S.2.2.1 j i := fun i hi => by
    show (if j = j ∧ i = S.2.2.2 j then k else S.2.2.1 j i) = _
    rw [if_neg (by omega)]
  have e2 : (pq_lrn S j k).2.2.1 j (S.2.2.2 j) = k := by
    show (if j = j ∧ S.2.2.2 j = S.2.2.2 j then k else _) = _
    rw [if_pos ⟨rfl, rfl⟩]
  rw [ec]
  refine ⟨fun i hi => ?_, fun a b ha hb he => ?_, fun i hi p hpp => ?_⟩
  · rcases Nat.lt_succ_iff_lt_or_eq.mp hi with h | rfl
    · rw [e1 i h]; exact hk.1 i h
    · rw [e2]; exact hM
  · rcases Nat.lt_succ_iff_lt_or_eq.mp ha with h | rfl <;> rcases Nat.lt_succ_iff_lt_or_eq.mp hb with h' | h'
    · rw [e1 a h, e1 b h'] at he; exact hk.2.1 a b h h' he
    · subst h'; rw [e1 a h, e2] at he; exact absurd he (hn a h)
    · rw [e2, e1 b h'] at he; exact absurd he.symm (hn b h')
    · exact h'.symm
  · rcases Nat.lt_succ_iff_lt_or_eq.mp hi with h | rfl
    · rw [e1 i h] at hpp
      obtain ⟨q, hq, hqp⟩ := hk.2.2 i h p hpp
      exact ⟨q, hq, by rw [e1 q (by omega)]; exact hqp⟩
    · rw [e2] at hpp
      obtain ⟨q, hq, hqp⟩ := hp p hpp
      exact ⟨q, hq, by rw [e1 q hq]; exact hqp⟩
