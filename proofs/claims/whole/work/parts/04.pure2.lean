/-! Operations and what a page that knows some of them shows. An operation: sort, time, page, first, end, what, letter. A page's knowledge: kn 0 .. kn (c - 1), in this order. -/
abbrev pq_O : Type := Nat → Nat × Nat × Nat × Option Nat × Option Nat × Nat × Int32
abbrev pq_so (O : pq_O) (k : Nat) : Nat := (O k).1
abbrev pq_tm (O : pq_O) (k : Nat) : Nat := (O k).2.1
abbrev pq_pg (O : pq_O) (k : Nat) : Nat := (O k).2.2.1
abbrev pq_fi (O : pq_O) (k : Nat) : Option Nat := (O k).2.2.2.1
abbrev pq_en (O : pq_O) (k : Nat) : Option Nat := (O k).2.2.2.2.1
abbrev pq_wh (O : pq_O) (k : Nat) : Nat := (O k).2.2.2.2.2.1
abbrev pq_le (O : pq_O) (k : Nat) : Int32 := (O k).2.2.2.2.2.2
def pq_id (O : pq_O) (k : Nat) : Nat := 4 * pq_tm O k + pq_pg O k
def pq_pth (O : pq_O) : Nat → Nat → List Nat
  | 0, _ => []
  | n + 1, k => (match pq_fi O k with | none => [] | some p => pq_pth O n p) ++ [pq_id O k]
def pq_pa (O : pq_O) (k : Nat) : List Nat := pq_pth O (k + 1) k
/-- the operations made so far hang together -/
def pq_wf (M : Nat) (O : pq_O) : Prop :=
  (∀ k, k < M → ∀ p, pq_fi O k = some p → p < k ∧ pq_so O p = 0 ∧ pq_id O p < pq_id O k) ∧ (∀ k, k < M → ∀ p, pq_en O k = some p → p < k ∧ pq_so O p = 0) ∧
  (∀ j k, j < M → k < M → j ≠ k → pq_id O j ≠ pq_id O k) ∧ (∀ k, k < M → 1 ≤ pq_tm O k ∧ pq_tm O k ≤ k + 1 ∧ pq_pg O k < 3 ∧ pq_so O k < 3 ∧ pq_wh O k < 8) ∧ (∀ k, k < M → pq_so O k = 0 ∨ ∃ p, pq_fi O k = some p)
/-- a page's knowledge: no operation twice, none ahead of what it speaks of -/
def pq_kn (M : Nat) (O : pq_O) (kn : Nat → Nat) (c : Nat) : Prop :=
  (∀ i, i < c → kn i < M) ∧ (∀ i j, i < c → j < c → kn i = kn j → i = j) ∧ ∀ i, i < c → ∀ p, (pq_fi O (kn i) = some p ∨ pq_en O (kn i) = some p) → ∃ j, j < i ∧ kn j = p
theorem pq_pth_ir {M : Nat} {O : pq_O} (hw : pq_wf M O) : ∀ q, q < M → ∀ m1 m2, q < m1 → q < m2 → pq_pth O m1 q = pq_pth O m2 q := by
  intro q
  induction q using Nat.strongRecOn with
  | ind q ihq =>
    intro hq m1 m2 h1 h2
    obtain ⟨a, rfl⟩ : ∃ a, m1 = a + 1 := ⟨m1 - 1, by omega⟩
    obtain ⟨b, rfl⟩ : ∃ b, m2 = b + 1 := ⟨m2 - 1, by omega⟩
    unfold pq_pth
    cases hfq : pq_fi O q with
    | none => rfl
    | some r =>
      have hr := (hw.1 q hq r hfq).1
      show pq_pth O a r ++ _ = pq_pth O b r ++ _
      rw [ihq r hr (by omega) a b (by omega) (by omega)]
theorem pq_pa_eq {M : Nat} {O : pq_O} (hw : pq_wf M O) {k : Nat} (hk : k < M) : pq_pa O k = (match pq_fi O k with | none => [] | some p => pq_pa O p) ++ [pq_id O k] := by
  show (match pq_fi O k with | none => [] | some p => pq_pth O k p) ++ [pq_id O k] = _
  cases hp : pq_fi O k with
  | none => rfl
  | some p =>
    have h1 := (hw.1 k hk p hp).1
    show pq_pth O k p ++ _ = pq_pa O p ++ _
    rw [pq_pth_ir hw p (by omega) k (p + 1) h1 (by omega)]
    rfl
theorem pq_pa_last {M : Nat} {O : pq_O} (hw : pq_wf M O) {k : Nat} (hk : k < M) : ∃ Q, pq_pa O k = Q ++ [pq_id O k] := ⟨_, pq_pa_eq hw hk⟩
/-- ids grow along a path -/
theorem pq_pa_up {M : Nat} {O : pq_O} (hw : pq_wf M O) : ∀ k, k < M → (pq_pa O k).Pairwise (· < ·) ∧ ∀ z ∈ pq_pa O k, z ≤ pq_id O k := by
  intro k
  induction k using Nat.strongRecOn with
  | ind k ih =>
    intro hk
    rw [pq_pa_eq hw hk]
    cases hp : pq_fi O k with
    | none => simp
    | some p =>
      obtain ⟨h1, -, h3⟩ := hw.1 k hk p hp
      obtain ⟨i1, i2⟩ := ih p h1 (by omega)
      simp only []
      refine ⟨List.pairwise_append.mpr ⟨i1, by simp, fun a ha b hb => ?_⟩, fun z hz => ?_⟩
      · rw [List.mem_singleton] at hb
        have := i2 a ha
        omega
      · rcases List.mem_append.mp hz with h | h
        · have := i2 z h; omega
        · rw [List.mem_singleton.mp h]; exact Nat.le_refl _
theorem pq_pa_inj {M : Nat} {O : pq_O} (hw : pq_wf M O) {j k : Nat} (hj : j < M) (hk : k < M) (h : pq_pa O j = pq_pa O k) : j = k := by
  obtain ⟨Q, hQ⟩ := pq_pa_last hw hj
  obtain ⟨Q', hQ'⟩ := pq_pa_last hw hk
  rw [hQ, hQ'] at h
  by_cases e : j = k
  · exact e
  · exact absurd (pq_last_inj h).2 (hw.2.2.1 j k hj hk e)
/-- every piece of a path from the root is a path -/
theorem pq_pa_cut {M : Nat} {O : pq_O} (hw : pq_wf M O) (S : Nat → Prop) (hS : ∀ k, S k → k < M ∧ ∀ p, pq_fi O k = some p → S p) : ∀ k, S k → ∀ Q d t, pq_pa O k = Q ++ d :: t → ∃ a, S a ∧ pq_pa O a = Q ++ [d] := by
  intro k
  induction k using Nat.strongRecOn with
  | ind k ih =>
    intro hk Q d t ht
    cases t with
    | nil => exact ⟨k, hk, ht⟩
    | cons z t =>
      obtain ⟨hM, hp⟩ := hS k hk
      have e := pq_pa_eq hw hM
      -- the last of the list is the own id; the rest is the parent's path
      have hne : Q ++ d :: z :: t ≠ [] := by simp
      rw [ht] at e
      cases hf : pq_fi O k with
      | none =>
        rw [hf] at e
        have hl := congrArg List.length e
        simp at hl
        omega
      | some p =>
        rw [hf] at e
        simp only [] at e
        have hd : pq_pa O p = Q ++ d :: (z :: t).dropLast := by
          have h1 := congrArg List.dropLast e
          rw [List.dropLast_concat] at h1
          rw [← h1, List.dropLast_append_cons]
          rfl
        exact ih p (hw.1 k hM p hf).1 (hp p hf) Q d _ hd
/-- the place of a writing -/
def pq_st (O : pq_O) (r : List Nat) (k : Nat) : Nat := match pq_fi O k with
  | none => 0
  | some p => r.idxOf p + 1
def pq_ins (O : pq_O) (r : List Nat) (k : Nat) : List Nat :=
  r.take (pq_st O r k) ++ (r.drop (pq_st O r k)).takeWhile (fun x => decide (pq_id O k < pq_id O x)) ++ k :: (r.drop (pq_st O r k)).dropWhile (fun x => decide (pq_id O k < pq_id O x))
def pq_row (O : pq_O) (kn : Nat → Nat) : Nat → List Nat
  | 0 => []
  | c + 1 => if pq_so O (kn c) = 0 then pq_ins O (pq_row O kn c) (kn c) else pq_row O kn c
theorem pq_ins_mem {O : pq_O} {r : List Nat} {k x : Nat} : x ∈ pq_ins O r k ↔ x = k ∨ x ∈ r := by
  unfold pq_ins
  have e : r = r.take (pq_st O r k) ++ ((r.drop (pq_st O r k)).takeWhile (fun x => decide (pq_id O k < pq_id O x)) ++ (r.drop (pq_st O r k)).dropWhile (fun x => decide (pq_id O k < pq_id O x))) := by
    rw [List.takeWhile_append_dropWhile, List.take_append_drop]
  constructor
  · intro h
    rcases List.mem_append.mp h with h | h
    · right
      rw [e]
      rcases List.mem_append.mp h with h | h
      · exact List.mem_append_left _ h
      · exact List.mem_append_right _ (List.mem_append_left _ h)
    · rcases List.mem_cons.mp h with h | h
      · exact Or.inl h
      · right
        rw [e]
        exact List.mem_append_right _ (List.mem_append_right _ h)
  · rintro (rfl | h)
    · simp
    · rw [e] at h
      rcases List.mem_append.mp h with h | h
      · exact List.mem_append_left _ (List.mem_append_left _ h)
      · rcases List.mem_append.mp h with h | h
        · exact List.mem_append_left _ (List.mem_append_right _ h)
        · exact List.mem_append_right _ (List.mem_cons_of_mem _ h)
theorem pq_ins_len (O : pq_O) (r : List Nat) (k : Nat) : (pq_ins O r k).length = r.length + 1 := by
  have e : r = r.take (pq_st O r k) ++ ((r.drop (pq_st O r k)).takeWhile (fun x => decide (pq_id O k < pq_id O x)) ++ (r.drop (pq_st O r k)).dropWhile (fun x => decide (pq_id O k < pq_id O x))) := by
    rw [List.takeWhile_append_dropWhile, List.take_append_drop]
  have e2 := congrArg List.length e
  simp only [List.length_append] at e2
  unfold pq_ins
  simp only [List.length_append, List.length_cons]
  omega
/-- a row holds just the writings that are known, in order -/
theorem pq_row_ok {M : Nat} {O : pq_O} (hw : pq_wf M O) {kn : Nat → Nat} : ∀ c, pq_kn M O kn c →
    (∀ x, x ∈ pq_row O kn c ↔ pq_so O x = 0 ∧ ∃ i, i < c ∧ kn i = x) ∧ (pq_row O kn c).Pairwise (fun a b => pq_lt (pq_pa O a) (pq_pa O b)) := by
  intro c
  induction c with
  | zero =>
    intro _
    refine ⟨fun x => ⟨fun h => (by cases h), fun ⟨_, i, hi, _⟩ => by omega⟩, List.Pairwise.nil⟩
  | succ c ih =>
    intro hk
    have hk' : pq_kn M O kn c := ⟨fun i hi => hk.1 i (by omega), fun i j hi hj => hk.2.1 i j (by omega) (by omega), fun i hi => hk.2.2 i (by omega)⟩
    obtain ⟨hm, hs⟩ := ih hk'
    unfold pq_row
    by_cases hso : pq_so O (kn c) = 0
    · rw [if_pos hso]
      have hMc := hk.1 c (by omega)
      have hfresh : ∀ x ∈ pq_row O kn c, x ≠ kn c := by
        intro x hx e
        obtain ⟨-, i, hi, hix⟩ := (hm x).mp hx
        have := hk.2.1 i c (by omega) (by omega) (by rw [hix, e])
        omega
      have hltM : ∀ x ∈ pq_row O kn c, x < M := by
        intro x hx
        obtain ⟨-, i, hi, rfl⟩ := (hm x).mp hx
        exact hk.1 i (by omega)
      refine ⟨fun x => ?_, ?_⟩
      · rw [pq_ins_mem, hm x]
        constructor
        · rintro (rfl | ⟨h1, i, hi, h2⟩)
          · exact ⟨hso, c, by omega, rfl⟩
          · exact ⟨h1, i, by omega, h2⟩
        · rintro ⟨h1, i, hi, h2⟩
          by_cases e : i = c
          · left; rw [← h2, e]
          · right; exact ⟨h1, i, by omega, h2⟩
      · -- the order
        have hcl : ∀ x ∈ pq_row O kn c, ∀ Q d t, pq_pa O x = Q ++ d :: t → ∃ a ∈ pq_row O kn c, pq_pa O a = Q ++ [d] := by
          intro x hx Q d t ht
          refine pq_pa_cut hw (fun a => a ∈ pq_row O kn c) (fun a ha => ⟨hltM a ha, fun p hp => ?_⟩) x hx Q d t ht
          obtain ⟨-, i, hi, rfl⟩ := (hm a).mp ha
          obtain ⟨j, hj, hjp⟩ := hk'.2.2 i hi p (Or.inl hp)
          exact (hm p).mpr ⟨(hw.1 _ (hk.1 i (by omega)) p hp).2.1, j, by omega, hjp⟩
        have hids : ∀ x ∈ pq_row O kn c, pq_id O x ≠ pq_id O (kn c) := fun x hx => hw.2.2.1 x _ (hltM x hx) hMc (hfresh x hx)
        generalize hr : pq_row O kn c = r at *
        unfold pq_ins
        have happ : ∀ z, r.take z ++ r.drop z = r := fun z => List.take_append_drop z r
        cases hf : pq_fi O (kn c) with
        | none =>
          have e0 : pq_st O r (kn c) = 0 := by unfold pq_st; rw [hf]
          rw [e0]
          refine pq_place (pq_pa O) (pq_id O) (r.take 0) (r.drop 0) (kn c) [] (by rw [happ]; exact hs) (by rw [happ]; exact hcl) (by rw [happ]; exact fun x hx => pq_pa_last hw (hltM x hx)) (by rw [happ]; exact fun x hx => (pq_pa_up hw x (hltM x hx)).1) ?_ ?_ ?_ ?_ (by rw [happ]; exact hids)
          · rw [pq_pa_eq hw hMc, hf]
          · intro x hx; simp at hx
          · intro x hx
            have hx' : x ∈ r := by simpa using hx
            obtain ⟨Q, hQ⟩ := pq_pa_last hw (hltM x hx')
            rw [hQ]
            cases Q <;> exact trivial
          · intro z hz; cases hz
        | some p =>
          have e0 : pq_st O r (kn c) = r.idxOf p + 1 := by unfold pq_st; rw [hf]
          rw [e0]
          obtain ⟨j, hj, hjp⟩ := hk.2.2 c (by omega) p (Or.inl hf)
          obtain ⟨w1, w2, w3⟩ := hw.1 _ hMc p hf
          have hp : p ∈ r := (hm p).mpr ⟨w2, j, by omega, hjp⟩
          obtain ⟨s, t, hst⟩ := List.append_of_mem hp
          have hsort := hs
          rw [hst, List.pairwise_append, List.pairwise_cons] at hsort
          obtain ⟨-, ⟨ht2, -⟩, hs12⟩ := hsort
          have hps : p ∉ s := fun h => pq_lt_irr _ (hs12 p h p (by simp))
          have hix : r.idxOf p + 1 = (s ++ [p]).length := by
            rw [hst, List.idxOf_append]
            simp [hps]
          have e1 : r.take (r.idxOf p + 1) = s ++ [p] := by rw [hix, hst, show s ++ p :: t = (s ++ [p]) ++ t by simp, List.take_left]
          have e2 : r.drop (r.idxOf p + 1) = t := by rw [hix, hst, show s ++ p :: t = (s ++ [p]) ++ t by simp, List.drop_left]
          refine pq_place (pq_pa O) (pq_id O) (r.take (r.idxOf p + 1)) (r.drop (r.idxOf p + 1)) (kn c) (pq_pa O p) (by rw [happ]; exact hs) (by rw [happ]; exact hcl) (by rw [happ]; exact fun x hx => pq_pa_last hw (hltM x hx)) (by rw [happ]; exact fun x hx => (pq_pa_up hw x (hltM x hx)).1) ?_ ?_ ?_ ?_ (by rw [happ]; exact hids)
          · rw [pq_pa_eq hw hMc, hf]
          · rw [e1]
            intro x hx
            rcases List.mem_append.mp hx with h | h
            · exact Or.inr (hs12 x h p (by simp))
            · rw [List.mem_singleton.mp h]; exact Or.inl rfl
          · rw [e2]; exact ht2
          · intro z hz
            have := (pq_pa_up hw p (by omega)).2 z hz
            omega
    · rw [if_neg hso]
      refine ⟨fun x => ?_, hs⟩
      rw [hm x]
      constructor
      · rintro ⟨h1, i, hi, h2⟩; exact ⟨h1, i, by omega, h2⟩
      · rintro ⟨h1, i, hi, h2⟩
        by_cases e : i = c
        · rw [← h2, e] at h1; exact absurd h1 hso
        · exact ⟨h1, i, by omega, h2⟩
theorem pq_row_nodup {M : Nat} {O : pq_O} (hw : pq_wf M O) {kn : Nat → Nat} {c : Nat} (hk : pq_kn M O kn c) : (pq_row O kn c).Nodup := by
  refine List.Pairwise.imp (S := fun a b => a ≠ b) ?_ (pq_row_ok hw c hk).2
  intro a b h e
  subst e
  exact pq_lt_irr _ h
theorem pq_row_len (O : pq_O) (kn : Nat → Nat) : ∀ c, (pq_row O kn c).length ≤ c
  | 0 => Nat.le_refl _
  | c + 1 => by
    unfold pq_row
    have := pq_row_len O kn c
    split
    · rw [pq_ins_len]; omega
    · omega
