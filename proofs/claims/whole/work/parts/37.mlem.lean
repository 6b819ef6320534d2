/-! Lemmas for the reference's other methods. -/
/-- the greatest time, by numbers -/
def rm_gm (O : pq_O) (kn : Nat → Nat) (c : Nat) : Nat → Nat
  | 0 => 0
  | n + 1 => if pq_kw kn c n = true ∧ rm_gm O kn c n < pq_tm O n then pq_tm O n else rm_gm O kn c n
theorem rm_gm_ge (O : pq_O) (kn : Nat → Nat) (c : Nat) : ∀ n k, k < n → pq_kw kn c k = true → pq_tm O k ≤ rm_gm O kn c n
  | 0, _, h, _ => by omega
  | n + 1, k, h, hk => by
    unfold rm_gm
    by_cases e : k = n
    · subst e
      split
      · exact Nat.le_refl _
      · rename_i hn
        have : ¬ rm_gm O kn c k < pq_tm O k := fun q => hn ⟨hk, q⟩
        omega
    · have := rm_gm_ge O kn c n k (by omega) hk
      split <;> omega
theorem rm_gm_le (O : pq_O) (kn : Nat → Nat) (c : Nat) : ∀ n, rm_gm O kn c n ≤ pq_mx O kn c
  | 0 => Nat.zero_le _
  | n + 1 => by
    unfold rm_gm
    split
    · rename_i h
      obtain ⟨i, hi, e⟩ := (pq_kw_iff kn n c).mp h.1
      rw [← e]
      exact pq_mx_ge O kn c i hi
    · exact rm_gm_le O kn c n
theorem rm_gm_eq {M : Nat} {O : pq_O} {kn : Nat → Nat} {c : Nat} (hk : ∀ i, i < c → kn i < M) : rm_gm O kn c M = pq_mx O kn c := by
  refine Nat.le_antisymm (rm_gm_le O kn c M) (pq_mx_le c fun i hi => ?_)
  exact rm_gm_ge O kn c M (kn i) (hk i hi) ((pq_kw_iff kn _ c).mpr ⟨i, hi, rfl⟩)
/-- a format, kind by kind -/
def rm_sm (O : pq_O) (r : List Nat) (l : Nat) (ms : List Nat) : Nat → Nat
  | 0 => 0
  | k + 1 => rm_sm O r l ms k + (if pq_hs O r l k ms then 2 ^ k else 0)
theorem rm_sm_4 (O : pq_O) (r : List Nat) (l : Nat) (ms : List Nat) : rm_sm O r l ms 4 = pq_fm O r l ms := by
  unfold pq_fm
  simp only [rm_sm]
  cases pq_hs O r l 0 ms <;> cases pq_hs O r l 1 ms <;> cases pq_hs O r l 2 ms <;> cases pq_hs O r l 3 ms <;> rfl
theorem rm_sm_lt (O : pq_O) (r : List Nat) (l : Nat) (ms : List Nat) : ∀ k, rm_sm O r l ms k < 2 ^ k
  | 0 => Nat.lt_succ_self 0
  | k + 1 => by
    have := rm_sm_lt O r l ms k
    unfold rm_sm
    have e : 2 ^ (k + 1) = 2 ^ k + 2 ^ k := by rw [Nat.pow_succ]; omega
    split <;> omega
theorem rm_shl : ∀ k, k < 4 → nI 1 <<< (nI k &&& 31) = nI (2 ^ k) := by decide
/-- the marking that a kind's format goes by -/
def rm_cm (S : pq_S) (j lt kind : Nat) (k : Nat) : Bool := (pq_kw (S.2.2.1 j) (S.2.2.2 j) k && pq_so S.2.1 k == 2) && decide (pq_wh S.2.1 k / 2 = kind) && pq_cv S.2.1 (rm_F S j) k lt
theorem rm_idx {F : List Nat} {x : Nat} (h : x ∈ F) : F[F.idxOf x]? = some x := by
  have hl : F.idxOf x < F.length := List.idxOf_lt_length_of_mem h
  rw [List.getElem?_eq_getElem hl, List.getElem_idxOf hl]
theorem rm_V.pl {h : mp_H} {S : pq_S} {j x : Nat} (hV : rm_V h S j) (hx : x ∈ rm_F S j) : h.2.1 37 x = .int (nI ((rm_F S j).idxOf x)) := hV.2.2 _ _ (rm_idx hx)
theorem rm_F_len {S : pq_S} {j : Nat} (hok : pq_ok S) (hj : j < 3) : (rm_F S j).length ≤ S.1 := by
  show (pq_row S.2.1 (S.2.2.1 j) (S.2.2.2 j)).length ≤ _
  have := pq_row_len S.2.1 (S.2.2.1 j) (S.2.2.2 j)
  have := pq_kn_le (hok.2.2.1 j hj)
  omega
theorem rm_F_idx {S : pq_S} {j x : Nat} (hok : pq_ok S) (hj : j < 3) (hx : x ∈ rm_F S j) : (rm_F S j).idxOf x < 90 := by
  have := List.idxOf_lt_length_of_mem hx
  have := rm_F_len hok hj
  have := hok.1
  omega
/-- what a marking that is known speaks of is in the row -/
theorem rm_known_in {S : pq_S} {j k p : Nat} (hok : pq_ok S) (hj : j < 3) (hk : pq_kw (S.2.2.1 j) (S.2.2.2 j) k = true) (hp : pq_fi S.2.1 k = some p ∨ pq_en S.2.1 k = some p) : p ∈ rm_F S j := by
  obtain ⟨hm, -⟩ := pq_row_ok hok.2.1 _ (hok.2.2.1 j hj)
  obtain ⟨i, hi, e⟩ := (pq_kw_iff _ k _).mp hk
  have hkM : k < S.1 := by rw [← e]; exact (hok.2.2.1 j hj).1 i hi
  obtain ⟨q, hq, hqp⟩ := (hok.2.2.1 j hj).2.2 i hi p (by rw [e]; exact hp)
  refine (hm p).mpr ⟨?_, q, by omega, hqp⟩
  rcases hp with h | h
  · exact (hok.2.1.1 k hkM p h).2.1
  · exact (hok.2.1.2.1 k hkM p h).2
/-- the reference learns -/
theorem rm_S_lrn {h h' : mp_H} {S : pq_S} {j k : Nat} (hj : j < 3) (hk : k < 90) (hc : S.2.2.2 j < 90) (hc3 : ∀ a, a < 3 → S.2.2.2 a ≤ 90) (hS : rm_S h S)
    (hh : ∀ a b, h'.2.1 a b = if a = 34 ∧ b = 90 * j + k then .int (nI 1) else if a = 35 ∧ b = j then .int (nI (S.2.2.2 j + 1)) else if a = 33 ∧ b = 90 * j + S.2.2.2 j then .int (nI k) else h.2.1 a b) : rm_S h' (pq_lrn S j k) := by
  obtain ⟨s1, s2, s3⟩ := hS
  have ec : ∀ a, (pq_lrn S j k).2.2.2 a = if a = j then S.2.2.2 j + 1 else S.2.2.2 a := fun a => rfl
  have ek : ∀ a i, (pq_lrn S j k).2.2.1 a i = if a = j ∧ i = S.2.2.2 j then k else S.2.2.1 a i := fun a i => rfl
  have e0 : ∀ a b, a ≠ 33 → a ≠ 34 → a ≠ 35 → h'.2.1 a b = h.2.1 a b := by
    intro a b h1 h2 h3
    rw [hh, if_neg (by omega), if_neg (by omega), if_neg (by omega)]
  refine ⟨by rw [e0 _ _ (by decide) (by decide) (by decide)]; exact s1, fun q hq => ?_, fun a ha => ?_⟩
  · rw [e0 27 q (by decide) (by decide) (by decide), e0 28 q (by decide) (by decide) (by decide), e0 29 q (by decide) (by decide) (by decide), e0 30 q (by decide) (by decide) (by decide), e0 31 q (by decide) (by decide) (by decide), e0 32 q (by decide) (by decide) (by decide)]
    exact s2 q hq
  · obtain ⟨a1, a2, a3⟩ := s3 a ha
    refine ⟨?_, fun i hi => ?_, fun q hq => ?_⟩
    · rw [hh, if_neg (by omega), ec]
      by_cases e : a = j
      · rw [if_pos ⟨rfl, e⟩, if_pos e]
      · rw [if_neg (by omega), if_neg (by omega), if_neg e]; exact a1
    · rw [hh, if_neg (by omega), if_neg (by omega), ek]
      rw [ec] at hi
      by_cases e : a = j
      · subst e
        rw [if_pos rfl] at hi
        by_cases e2 : i = S.2.2.2 a
        · rw [if_pos ⟨rfl, by omega⟩, if_pos ⟨rfl, e2⟩]
        · rw [if_neg (by omega), if_neg (by omega)]; exact a2 i (by omega)
      · rw [if_neg e] at hi
        have h9 := hc3 a ha
        rw [if_neg (show ¬ (33 = 33 ∧ 90 * a + i = 90 * j + S.2.2.2 j) by omega), if_neg (fun z => e z.1)]
        exact a2 i hi
    · rw [hh, if_neg (show ¬ (34 = 35 ∧ 90 * a + q = j) by omega), if_neg (show ¬ (34 = 33 ∧ 90 * a + q = 90 * j + S.2.2.2 j) by omega)]
      by_cases e : a = j
      · subst e
        have e1 : (pq_lrn S a k).2.2.2 a = S.2.2.2 a + 1 := by rw [ec, if_pos rfl]
        rw [e1]
        show _ = Value.int (rm_b (pq_kw ((pq_lrn S a k).2.2.1 a) (S.2.2.2 a) q || (pq_lrn S a k).2.2.1 a (S.2.2.2 a) == q))
        rw [ek, if_pos (show a = a ∧ S.2.2.2 a = S.2.2.2 a from ⟨rfl, rfl⟩), pq_kw_ext (kn := S.2.2.1 a) q (S.2.2.2 a) (fun i hi => by rw [ek, if_neg (by omega)])]
        by_cases e2 : q = k
        · rw [if_pos ⟨rfl, by omega⟩, e2]
          simp [rm_b]
        · rw [if_neg (by omega), a3 q hq]
          have : (k == q) = false := by simpa using fun z : k = q => e2 z.symm
          rw [this, Bool.or_false]
      · rw [if_neg (by omega), ec, if_neg e, a3 q hq]
        congr 2
        exact (pq_kw_ext q _ (fun i hi => by rw [ek, if_neg (fun z => e z.1)])).symm
/-- an operation is written down -/
theorem rm_S_add {h h' : mp_H} {S : pq_S} {o : Nat × Nat × Nat × Option Nat × Option Nat × Nat × Int32} (hS : rm_S h S) (hle : o.1 = 0 → h.2.1 32 S.1 = .int o.2.2.2.2.2.2)
    (hh : ∀ a b, h'.2.1 a b = if a = 26 ∧ b = 1 then .int (nI (S.1 + 1)) else if a = 31 ∧ b = S.1 then .int (nI o.2.2.2.2.2.1) else if a = 30 ∧ b = S.1 then .int (rm_i o.2.2.2.2.1) else if a = 29 ∧ b = S.1 then .int (rm_i o.2.2.2.1) else if a = 28 ∧ b = S.1 then .int (nI (4 * o.2.1 + o.2.2.1)) else if a = 27 ∧ b = S.1 then .int (nI o.1) else h.2.1 a b) : rm_S h' (pq_add S o) := by
  obtain ⟨s1, s2, s3⟩ := hS
  have eo : ∀ k, k ≠ S.1 → (pq_add S o).2.1 k = S.2.1 k := fun k hk => by show (if k = S.1 then o else S.2.1 k) = _; rw [if_neg hk]
  have en : (pq_add S o).2.1 S.1 = o := by show (if S.1 = S.1 then o else S.2.1 S.1) = _; rw [if_pos rfl]
  have e0 : ∀ a b, 32 ≤ a → h'.2.1 a b = h.2.1 a b := by
    intro a b h1
    rw [hh, if_neg (by omega), if_neg (by omega), if_neg (by omega), if_neg (by omega), if_neg (by omega), if_neg (by omega)]
  refine ⟨by rw [hh, if_pos ⟨rfl, rfl⟩]; rfl, fun k hk => ?_, fun j hj => ?_⟩
  · have hk' : k < S.1 + 1 := hk
    by_cases e : k = S.1
    · subst e
      unfold pq_so pq_id pq_tm pq_pg pq_fi pq_en pq_wh pq_le
      rw [en]
      refine ⟨?_, ?_, ?_, ?_, ?_, fun hz => by rw [e0 _ _ (by decide)]; exact hle hz⟩
      · rw [hh, if_neg (by omega), if_neg (by omega), if_neg (by omega), if_neg (by omega), if_neg (by omega), if_pos ⟨rfl, rfl⟩]
      · rw [hh, if_neg (by omega), if_neg (by omega), if_neg (by omega), if_neg (by omega), if_pos ⟨rfl, rfl⟩]
      · rw [hh, if_neg (by omega), if_neg (by omega), if_neg (by omega), if_pos ⟨rfl, rfl⟩]
      · rw [hh, if_neg (by omega), if_neg (by omega), if_pos ⟨rfl, rfl⟩]
      · rw [hh, if_neg (by omega), if_pos ⟨rfl, rfl⟩]
    · have e1 : ∀ a, 27 ≤ a → h'.2.1 a k = h.2.1 a k := by
        intro a ha
        rw [hh, if_neg (by omega), if_neg (fun z => e z.2), if_neg (fun z => e z.2), if_neg (fun z => e z.2), if_neg (fun z => e z.2), if_neg (fun z => e z.2)]
      have := s2 k (by omega)
      unfold pq_so pq_id pq_tm pq_pg pq_fi pq_en pq_wh pq_le at this ⊢
      rw [eo k e, e1 27 (by omega), e1 28 (by omega), e1 29 (by omega), e1 30 (by omega), e1 31 (by omega), e1 32 (by omega)]
      exact this
  · obtain ⟨a, b, c⟩ := s3 j hj
    exact ⟨by rw [e0 _ _ (by omega)]; exact a, fun i hi => by rw [e0 _ _ (by omega)]; exact b i hi, fun k hk => by rw [e0 _ _ (by omega)]; exact c k hk⟩
