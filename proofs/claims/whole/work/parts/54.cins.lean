/-! Putting into a list by shifting. -/
theorem tw_n (f : Nat → Bool) : ∀ l : List Nat, l.takeWhile f = l.take (l.takeWhile f).length ∧ l.dropWhile f = l.drop (l.takeWhile f).length ∧ (l.takeWhile f).length ≤ l.length ∧ (∀ i, i < (l.takeWhile f).length → ∃ k, l[i]? = some k ∧ f k = true) ∧ ∀ k, l[(l.takeWhile f).length]? = some k → f k = false
  | [] => ⟨rfl, rfl, Nat.le_refl _, fun i hi => absurd hi (Nat.not_lt_zero i), fun k hk => by cases hk⟩
  | a :: l => by
    obtain ⟨h1, h2, h3, h4, h5⟩ := tw_n f l
    cases ha : f a with
    | true =>
      rw [List.takeWhile_cons_of_pos ha, List.dropWhile_cons_of_pos ha]
      refine ⟨?_, ?_, ?_, fun i hi => ?_, fun k hk => ?_⟩
      · rw [List.length_cons, List.take_succ_cons, ← h1]
      · rw [List.length_cons, List.drop_succ_cons, ← h2]
      · simp; exact h3
      · cases i with
        | zero => exact ⟨a, rfl, ha⟩
        | succ i => exact h4 i (by simpa using hi)
      · exact h5 k (by simpa using hk)
    | false =>
      have ha' : ¬ f a = true := by rw [ha]; decide
      rw [List.takeWhile_cons_of_neg ha', List.dropWhile_cons_of_neg ha']
      refine ⟨rfl, rfl, Nat.zero_le _, fun i hi => absurd hi (Nat.not_lt_zero i), fun k hk => ?_⟩
      have : a = k := by simpa using hk
      rw [← this]; exact ha
/-- k put in at q -/
def cp_in (r : List Nat) (q k : Nat) : List Nat := r.take q ++ k :: r.drop q
theorem cp_in_at {r : List Nat} {q k : Nat} (hq : q ≤ r.length) (p : Nat) : (cp_in r q k)[p]? = if p < q then r[p]? else if p = q then some k else r[p - 1]? := by
  unfold cp_in
  have hl : (r.take q).length = q := by rw [List.length_take]; omega
  by_cases h1 : p < q
  · rw [if_pos h1, List.getElem?_append_left (by omega), List.getElem?_take_of_lt h1]
  · rw [if_neg h1, List.getElem?_append_right (by omega), hl]
    by_cases h2 : p = q
    · rw [if_pos h2, h2, Nat.sub_self]; rfl
    · rw [if_neg h2, show p - q = (p - q - 1) + 1 by omega, List.getElem?_cons_succ, List.getElem?_drop]
      congr 1; omega
theorem cp_in_len {r : List Nat} {q k : Nat} (hq : q ≤ r.length) : (cp_in r q k).length = r.length + 1 := by
  unfold cp_in
  simp; omega
/-- where a writing goes -/
def cp_q (O : pq_O) (r : List Nat) (k : Nat) : Nat := pq_st O r k + ((r.drop (pq_st O r k)).takeWhile (fun x => decide (pq_id O k < pq_id O x))).length
theorem cp_q_ins {O : pq_O} {r : List Nat} {k : Nat} : pq_ins O r k = cp_in r (cp_q O r k) k := by
  obtain ⟨h1, h2, h3, -, -⟩ := tw_n (fun x => decide (pq_id O k < pq_id O x)) (r.drop (pq_st O r k))
  unfold pq_ins cp_in cp_q
  rw [h2, List.drop_drop]
  rw [List.take_add, ← h1]
theorem cp_q_le {O : pq_O} {r : List Nat} {k : Nat} (hs : pq_st O r k ≤ r.length) : cp_q O r k ≤ r.length := by
  obtain ⟨h1, h2, h3, -, -⟩ := tw_n (fun x => decide (pq_id O k < pq_id O x)) (r.drop (pq_st O r k))
  rw [List.length_drop] at h3
  unfold cp_q
  omega
theorem cp_q_in {O : pq_O} {r : List Nat} {k p : Nat} (h1 : pq_st O r k ≤ p) (h2 : p < cp_q O r k) : ∃ x, r[p]? = some x ∧ pq_id O k < pq_id O x := by
  obtain ⟨-, -, -, h4, -⟩ := tw_n (fun x => decide (pq_id O k < pq_id O x)) (r.drop (pq_st O r k))
  obtain ⟨x, hx, hf⟩ := h4 (p - pq_st O r k) (by unfold cp_q at h2; omega)
  rw [List.getElem?_drop, show pq_st O r k + (p - pq_st O r k) = p by omega] at hx
  exact ⟨x, hx, by simpa using hf⟩
theorem cp_q_out {O : pq_O} {r : List Nat} {k x : Nat} (hx : r[cp_q O r k]? = some x) : pq_id O x ≤ pq_id O k := by
  obtain ⟨-, -, -, -, h5⟩ := tw_n (fun x => decide (pq_id O k < pq_id O x)) (r.drop (pq_st O r k))
  have := h5 x (by rw [List.getElem?_drop]; exact hx)
  simpa using this
/-- where a marking goes -/
def cp_u (O : pq_O) (r : List Nat) (k : Nat) : Nat := (r.takeWhile (fun x => decide (pq_id O x < pq_id O k))).length
theorem cp_u_ins {O : pq_O} {r : List Nat} {k : Nat} : pq_mins O r k = cp_in r (cp_u O r k) k := by
  obtain ⟨h1, h2, h3, -, -⟩ := tw_n (fun x => decide (pq_id O x < pq_id O k)) r
  unfold pq_mins cp_in cp_u
  rw [h2, ← h1]
theorem cp_u_le {O : pq_O} {r : List Nat} {k : Nat} : cp_u O r k ≤ r.length := (tw_n (fun x => decide (pq_id O x < pq_id O k)) r).2.2.1
theorem cp_u_in {O : pq_O} {r : List Nat} {k p x : Nat} (h : p < cp_u O r k) (hx : r[p]? = some x) : pq_id O x < pq_id O k := by
  obtain ⟨-, -, -, h4, -⟩ := tw_n (fun x => decide (pq_id O x < pq_id O k)) r
  obtain ⟨y, hy, hf⟩ := h4 p h
  rw [hx] at hy; cases hy
  simpa using hf
theorem cp_u_out {O : pq_O} {r : List Nat} {k p x : Nat} (hs : r.Pairwise fun a b => pq_id O a < pq_id O b) (h : cp_u O r k ≤ p) (hx : r[p]? = some x) : pq_id O k ≤ pq_id O x := by
  obtain ⟨-, -, -, -, h5⟩ := tw_n (fun x => decide (pq_id O x < pq_id O k)) r
  have hp : p < r.length := (List.getElem?_eq_some_iff.mp hx).1
  have hu : cp_u O r k < r.length := by omega
  have h6 := h5 _ (List.getElem?_eq_getElem hu)
  have h7 : pq_id O k ≤ pq_id O r[cp_u O r k] := by simpa using h6
  by_cases e : cp_u O r k = p
  · have e2 : r[cp_u O r k]? = some x := by rw [e]; exact hx
    rw [List.getElem?_eq_getElem hu] at e2
    cases e2; exact h7
  · have h8 := List.pairwise_iff_getElem.mp hs (cp_u O r k) p hu hp (by omega)
    have e3 := (List.getElem?_eq_some_iff.mp hx).2
    rw [e3] at h8
    omega
/-- while the row is shifted: those from i on stand one further -/
def cp_sh (G : mp_G) (h : mp_H) (ad : Nat → Nat) (P : Nat) (r : List Nat) (i : Nat) : Prop := (∀ p k, p < i → r[p]? = some k → h.2.1 (P + 2) p = .ref (G.1 + ad k) ∧ h.2.1 (P + 7) k = .int (nI p)) ∧ ∀ p k, i ≤ p → r[p]? = some k → h.2.1 (P + 2) (p + 1) = .ref (G.1 + ad k) ∧ h.2.1 (P + 7) k = .int (nI (p + 1))
theorem cp_sh0 {G : mp_G} {h : mp_H} {ad : Nat → Nat} {P : Nat} {r : List Nat} (hr : cp_row G h ad P r) : cp_sh G h ad P r r.length :=
  ⟨fun p k _ hk => hr.2 p k hk, fun p k hp hk => by have := (List.getElem?_eq_some_iff.mp hk).1; omega⟩
theorem rm_nd {r : List Nat} (hn : r.Nodup) {p q x : Nat} (hp : r[p]? = some x) (hq : r[q]? = some x) : p = q := by rw [← rm_idxOf hn hp, ← rm_idxOf hn hq]
theorem cp_sh1 {G : mp_G} {h : mp_H} {ad : Nat → Nat} {P i x : Nat} {r : List Nat} (hn : r.Nodup) (hs : cp_sh G h ad P r (i + 1)) (hx : r[i]? = some x) : cp_sh G (mp_set (mp_set h (P + 2) (i + 1) (.ref (G.1 + ad x))) (P + 7) x (.int (nI (i + 1)))) ad P r i := by
  refine ⟨fun p k hp hk => ?_, fun p k hp hk => ?_⟩
  · obtain ⟨a, b⟩ := hs.1 p k (by omega) hk
    refine ⟨?_, ?_⟩
    · rw [mp_set_ne _ _ (by omega), mp_set_ne _ _ (by omega)]; exact a
    · rw [mp_set_ne _ _ (fun z => by have := rm_nd hn hk (by rw [z.2]; exact hx); omega), mp_set_ne _ _ (by omega)]; exact b
  · by_cases e : p = i
    · subst e
      rw [hk] at hx; cases hx
      refine ⟨?_, mp_set_at _ _ _ _⟩
      rw [mp_set_ne _ _ (by omega), mp_set_at]
    · obtain ⟨a, b⟩ := hs.2 p k (by omega) hk
      refine ⟨?_, ?_⟩
      · rw [mp_set_ne _ _ (by omega), mp_set_ne _ _ (by omega)]; exact a
      · rw [mp_set_ne _ _ (fun z => by have := rm_nd hn hk (by rw [z.2]; exact hx); omega), mp_set_ne _ _ (by omega)]; exact b
theorem cp_sh2 {G : mp_G} {h : mp_H} {ad : Nat → Nat} {P q x : Nat} {r : List Nat} (hq : q ≤ r.length) (hxr : x ∉ r) (hs : cp_sh G h ad P r q) : cp_row G (mp_set (mp_set (mp_set h (P + 2) q (.ref (G.1 + ad x))) (P + 7) x (.int (nI q))) P 4 (.int (nI (r.length + 1)))) ad P (cp_in r q x) := by
  refine ⟨by rw [mp_set_at, cp_in_len hq], fun p k hk => ?_⟩
  rw [cp_in_at hq] at hk
  rw [mp_set_ne (o := P) (a := P + 2) _ _ (by omega), mp_set_ne (o := P) (a := P + 7) _ _ (by omega)]
  by_cases h1 : p < q
  · rw [if_pos h1] at hk
    obtain ⟨a, b⟩ := hs.1 p k h1 hk
    refine ⟨?_, ?_⟩
    · rw [mp_set_ne _ _ (by omega), mp_set_ne _ _ (by omega)]; exact a
    · rw [mp_set_ne _ _ (fun z => hxr (by rw [← z.2]; exact List.mem_of_getElem? hk)), mp_set_ne _ _ (by omega)]; exact b
  · rw [if_neg h1] at hk
    by_cases h2 : p = q
    · subst h2
      rw [if_pos rfl] at hk; cases hk
      refine ⟨?_, mp_set_at _ _ _ _⟩
      rw [mp_set_ne _ _ (by omega), mp_set_at]
    · rw [if_neg h2] at hk
      obtain ⟨a, b⟩ := hs.2 (p - 1) k (by omega) hk
      rw [show p - 1 + 1 = p by omega] at a b
      refine ⟨?_, ?_⟩
      · rw [mp_set_ne _ _ (by omega), mp_set_ne _ _ (by omega)]; exact a
      · rw [mp_set_ne _ _ (fun z => hxr (by rw [← z.2]; exact List.mem_of_getElem? hk)), mp_set_ne _ _ (by omega)]; exact b
/-- the same for the markings -/
def cp_mh (G : mp_G) (h : mp_H) (ad : Nat → Nat) (P : Nat) (r : List Nat) (i : Nat) : Prop := (∀ p k, p < i → r[p]? = some k → h.2.1 (P + 4) p = .ref (G.1 + ad k)) ∧ ∀ p k, i ≤ p → r[p]? = some k → h.2.1 (P + 4) (p + 1) = .ref (G.1 + ad k)
theorem cp_mh0 {G : mp_G} {h : mp_H} {ad : Nat → Nat} {P : Nat} {r : List Nat} (hr : cp_mks G h ad P r) : cp_mh G h ad P r r.length :=
  ⟨fun p k _ hk => hr.2 p k hk, fun p k hp hk => by have := (List.getElem?_eq_some_iff.mp hk).1; omega⟩
theorem cp_mh1 {G : mp_G} {h : mp_H} {ad : Nat → Nat} {P i x : Nat} {r : List Nat} (hs : cp_mh G h ad P r (i + 1)) (hx : r[i]? = some x) : cp_mh G (mp_set h (P + 4) (i + 1) (.ref (G.1 + ad x))) ad P r i := by
  refine ⟨fun p k hp hk => ?_, fun p k hp hk => ?_⟩
  · rw [mp_set_ne _ _ (by omega)]; exact hs.1 p k (by omega) hk
  · by_cases e : p = i
    · subst e
      rw [hk] at hx; cases hx
      exact mp_set_at _ _ _ _
    · rw [mp_set_ne _ _ (by omega)]; exact hs.2 p k (by omega) hk
theorem cp_mh2 {G : mp_G} {h : mp_H} {ad : Nat → Nat} {P q x : Nat} {r : List Nat} (hq : q ≤ r.length) (hs : cp_mh G h ad P r q) : cp_mks G (mp_set (mp_set h (P + 4) q (.ref (G.1 + ad x))) P 8 (.int (nI (r.length + 1)))) ad P (cp_in r q x) := by
  refine ⟨by rw [mp_set_at, cp_in_len hq], fun p k hk => ?_⟩
  rw [cp_in_at hq] at hk
  rw [mp_set_ne _ _ (by omega)]
  by_cases h1 : p < q
  · rw [if_pos h1] at hk
    rw [mp_set_ne _ _ (by omega)]; exact hs.1 p k h1 hk
  · rw [if_neg h1] at hk
    by_cases h2 : p = q
    · subst h2
      rw [if_pos rfl] at hk; cases hk
      exact mp_set_at _ _ _ _
    · rw [if_neg h2] at hk
      have a := hs.2 (p - 1) k (by omega) hk
      rw [show p - 1 + 1 = p by omega] at a
      rw [mp_set_ne _ _ (by omega)]; exact a
