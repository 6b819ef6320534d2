/-! What a page knows, what is gone, the text, the markings in order, formats. -/
def pq_kw (kn : Nat → Nat) : Nat → Nat → Bool
  | 0, _ => false
  | c + 1, k => pq_kw kn c k || kn c == k
theorem pq_kw_iff (kn : Nat → Nat) (k : Nat) : ∀ c, pq_kw kn c k = true ↔ ∃ i, i < c ∧ kn i = k
  | 0 => ⟨fun h => (by cases h), fun ⟨i, hi, _⟩ => by omega⟩
  | c + 1 => by
    unfold pq_kw
    rw [Bool.or_eq_true, pq_kw_iff kn k c, beq_iff_eq]
    constructor
    · rintro (⟨i, hi, h⟩ | h)
      · exact ⟨i, by omega, h⟩
      · exact ⟨c, by omega, h⟩
    · rintro ⟨i, hi, h⟩
      by_cases e : i = c
      · right; rw [← e]; exact h
      · left; exact ⟨i, by omega, h⟩
def pq_gn (O : pq_O) (kn : Nat → Nat) : Nat → Nat → Bool
  | 0, _ => false
  | c + 1, k => pq_gn O kn c k || (pq_so O (kn c) == 1 && pq_fi O (kn c) == some k)
theorem pq_gn_iff (O : pq_O) (kn : Nat → Nat) (k : Nat) : ∀ c, pq_gn O kn c k = true ↔ ∃ i, i < c ∧ pq_so O (kn i) = 1 ∧ pq_fi O (kn i) = some k
  | 0 => ⟨fun h => (by cases h), fun ⟨i, hi, _⟩ => by omega⟩
  | c + 1 => by
    unfold pq_gn
    rw [Bool.or_eq_true, pq_gn_iff O kn k c, Bool.and_eq_true, beq_iff_eq, beq_iff_eq]
    constructor
    · rintro (⟨i, hi, h⟩ | h)
      · exact ⟨i, by omega, h⟩
      · exact ⟨c, by omega, h⟩
    · rintro ⟨i, hi, h⟩
      by_cases e : i = c
      · right; rw [← e]; exact h
      · left; exact ⟨i, by omega, h⟩
def pq_tx (O : pq_O) (kn : Nat → Nat) (c : Nat) : List Nat := (pq_row O kn c).filter fun k => !pq_gn O kn c k
def pq_tx_len (O : pq_O) (kn : Nat → Nat) (c : Nat) : (pq_tx O kn c).length ≤ c := Nat.le_trans (List.length_filter_le _ _) (pq_row_len O kn c)
/-- the greatest time -/
def pq_mx (O : pq_O) (kn : Nat → Nat) : Nat → Nat
  | 0 => 0
  | c + 1 => max (pq_mx O kn c) (pq_tm O (kn c))
theorem pq_mx_ge (O : pq_O) (kn : Nat → Nat) : ∀ c i, i < c → pq_tm O (kn i) ≤ pq_mx O kn c
  | 0, _, h => by omega
  | c + 1, i, h => by
    unfold pq_mx
    by_cases e : i = c
    · subst e; omega
    · have := pq_mx_ge O kn c i (by omega)
      omega
theorem pq_mx_le {O : pq_O} {kn : Nat → Nat} {B : Nat} : ∀ c, (∀ i, i < c → pq_tm O (kn i) ≤ B) → pq_mx O kn c ≤ B
  | 0, _ => Nat.zero_le _
  | c + 1, h => by
    unfold pq_mx
    have h1 := pq_mx_le c (fun i hi => h i (by omega))
    have h2 := h c (by omega)
    omega
/-- the markings, by rising ids -/
def pq_mins (O : pq_O) (r : List Nat) (k : Nat) : List Nat := r.takeWhile (fun x => decide (pq_id O x < pq_id O k)) ++ k :: r.dropWhile (fun x => decide (pq_id O x < pq_id O k))
def pq_mk (O : pq_O) (kn : Nat → Nat) : Nat → List Nat
  | 0 => []
  | c + 1 => if pq_so O (kn c) = 2 then pq_mins O (pq_mk O kn c) (kn c) else pq_mk O kn c
theorem pq_mins_mem {O : pq_O} {r : List Nat} {k x : Nat} : x ∈ pq_mins O r k ↔ x = k ∨ x ∈ r := by
  unfold pq_mins
  have e : r = r.takeWhile (fun x => decide (pq_id O x < pq_id O k)) ++ r.dropWhile (fun x => decide (pq_id O x < pq_id O k)) := List.takeWhile_append_dropWhile.symm
  constructor
  · intro h
    rcases List.mem_append.mp h with h | h
    · right; rw [e]; exact List.mem_append_left _ h
    · rcases List.mem_cons.mp h with h | h
      · exact Or.inl h
      · right; rw [e]; exact List.mem_append_right _ h
  · rintro (rfl | h)
    · simp
    · rw [e] at h
      rcases List.mem_append.mp h with h | h
      · exact List.mem_append_left _ h
      · exact List.mem_append_right _ (List.mem_cons_of_mem _ h)
theorem pq_mins_len (O : pq_O) (r : List Nat) (k : Nat) : (pq_mins O r k).length = r.length + 1 := by
  have e2 := congrArg List.length (List.takeWhile_append_dropWhile (p := fun x => decide (pq_id O x < pq_id O k)) (l := r))
  unfold pq_mins
  simp only [List.length_append, List.length_cons] at e2 ⊢
  omega
theorem pq_mk_len (O : pq_O) (kn : Nat → Nat) : ∀ c, (pq_mk O kn c).length ≤ c
  | 0 => Nat.le_refl _
  | c + 1 => by
    unfold pq_mk
    have := pq_mk_len O kn c
    split
    · rw [pq_mins_len]; omega
    · omega
theorem pq_mins_sort {O : pq_O} {r : List Nat} {k : Nat} (hs : r.Pairwise fun a b => pq_id O a < pq_id O b) (hne : ∀ x ∈ r, pq_id O x ≠ pq_id O k) : (pq_mins O r k).Pairwise fun a b => pq_id O a < pq_id O b := by
  unfold pq_mins
  generalize hw : r.takeWhile (fun x => decide (pq_id O x < pq_id O k)) = w
  generalize hv : r.dropWhile (fun x => decide (pq_id O x < pq_id O k)) = v
  have e : r = w ++ v := by rw [← hw, ← hv]; exact List.takeWhile_append_dropWhile.symm
  have hwid : ∀ x ∈ w, pq_id O x < pq_id O k := by
    have ha := List.all_takeWhile (p := fun x => decide (pq_id O x < pq_id O k)) (l := r)
    rw [hw, List.all_eq_true] at ha
    intro x hx
    simpa using ha x hx
  have hvid : ∀ x ∈ v, pq_id O k < pq_id O x := by
    cases hv0 : v with
    | nil => intro x hx; cases hx
    | cons x0 v0 =>
      have hx0 : ¬ pq_id O x0 < pq_id O k := by
        have hd : (r.dropWhile (fun x => decide (pq_id O x < pq_id O k))).head? = some x0 := by rw [hv, hv0]; rfl
        have := List.head?_dropWhile_not (p := fun x => decide (pq_id O x < pq_id O k)) (l := r)
        rw [hd] at this
        simpa using this
      have h0 : pq_id O k < pq_id O x0 := by
        have := hne x0 (by rw [e, hv0]; simp)
        omega
      intro x hx
      rcases List.mem_cons.mp hx with rfl | hx
      · exact h0
      · rw [e, List.pairwise_append, hv0, List.pairwise_cons] at hs
        have := hs.2.1.1 x hx
        omega
  rw [e, List.pairwise_append] at hs
  rw [List.pairwise_append, List.pairwise_cons]
  refine ⟨hs.1, ⟨hvid, hs.2.1⟩, fun a ha b hb => ?_⟩
  rcases List.mem_cons.mp hb with rfl | hb
  · exact hwid a ha
  · exact hs.2.2 a ha b hb
theorem pq_mk_ok {M : Nat} {O : pq_O} (hw : pq_wf M O) {kn : Nat → Nat} : ∀ c, pq_kn M O kn c →
    (∀ x, x ∈ pq_mk O kn c ↔ pq_so O x = 2 ∧ ∃ i, i < c ∧ kn i = x) ∧ (pq_mk O kn c).Pairwise (fun a b => pq_id O a < pq_id O b) := by
  intro c
  induction c with
  | zero =>
    intro _
    exact ⟨fun x => ⟨fun h => (by cases h), fun ⟨_, i, hi, _⟩ => by omega⟩, List.Pairwise.nil⟩
  | succ c ih =>
    intro hk
    have hk' : pq_kn M O kn c := ⟨fun i hi => hk.1 i (by omega), fun i j hi hj => hk.2.1 i j (by omega) (by omega), fun i hi => hk.2.2 i (by omega)⟩
    obtain ⟨hm, hs⟩ := ih hk'
    unfold pq_mk
    by_cases hso : pq_so O (kn c) = 2
    · rw [if_pos hso]
      refine ⟨fun x => ?_, pq_mins_sort hs fun x hx => ?_⟩
      · rw [pq_mins_mem, hm x]
        constructor
        · rintro (rfl | ⟨h1, i, hi, h2⟩)
          · exact ⟨hso, c, by omega, rfl⟩
          · exact ⟨h1, i, by omega, h2⟩
        · rintro ⟨h1, i, hi, h2⟩
          by_cases e : i = c
          · left; rw [← h2, e]
          · right; exact ⟨h1, i, by omega, h2⟩
      · obtain ⟨-, i, hi, rfl⟩ := (hm x).mp hx
        refine hw.2.2.1 _ _ (hk.1 i (by omega)) (hk.1 c (by omega)) (fun e => ?_)
        have := hk.2.1 i c (by omega) (by omega) e
        omega
    · rw [if_neg hso]
      refine ⟨fun x => ?_, hs⟩
      rw [hm x]
      constructor
      · rintro ⟨h1, i, hi, h2⟩; exact ⟨h1, i, by omega, h2⟩
      · rintro ⟨h1, i, hi, h2⟩
        by_cases e : i = c
        · rw [← h2, e] at h1; exact absurd h1 hso
        · exact ⟨h1, i, by omega, h2⟩
/-- does the marking m cover the letter l -/
def pq_cv (O : pq_O) (r : List Nat) (m l : Nat) : Bool :=
  (match pq_fi O m with | none => true | some f => decide (r.idxOf f ≤ r.idxOf l)) && (match pq_en O m with | none => true | some e => if pq_wh O m < 4 then decide (r.idxOf l < r.idxOf e) else decide (r.idxOf l ≤ r.idxOf e))
/-- has the letter l the kind, by the markings ms -/
def pq_hs (O : pq_O) (r : List Nat) (l kind : Nat) (ms : List Nat) : Bool := ms.foldl (fun b m => if (decide (pq_wh O m / 2 = kind) && pq_cv O r m l) = true then decide (pq_wh O m % 2 = 1) else b) false
def pq_b (b : Bool) : Nat := if b then 1 else 0
def pq_fm (O : pq_O) (r : List Nat) (l : Nat) (ms : List Nat) : Nat := pq_b (pq_hs O r l 0 ms) + 2 * pq_b (pq_hs O r l 1 ms) + 4 * pq_b (pq_hs O r l 2 ms) + 8 * pq_b (pq_hs O r l 3 ms)
theorem pq_b_le (b : Bool) : pq_b b ≤ 1 := by cases b <;> simp [pq_b]
theorem pq_fm_lt (O : pq_O) (r : List Nat) (l : Nat) (ms : List Nat) : pq_fm O r l ms < 16 := by
  unfold pq_fm
  have h0 := pq_b_le (pq_hs O r l 0 ms)
  have h1 := pq_b_le (pq_hs O r l 1 ms)
  have h2 := pq_b_le (pq_hs O r l 2 ms)
  have h3 := pq_b_le (pq_hs O r l 3 ms)
  omega
theorem pq_fold_none {c : Nat → Bool} {g : Nat → Bool} : ∀ (ms : List Nat) (d : Bool), (∀ m ∈ ms, c m = false) → ms.foldl (fun b m => if c m = true then g m else b) d = d
  | [], _, _ => rfl
  | m :: ms, d, h => by
    rw [List.foldl_cons, if_neg (by rw [h m (by simp)]; decide)]
    exact pq_fold_none ms d (fun x hx => h x (by simp [hx]))
theorem pq_fold_last {ids : Nat → Nat} {c : Nat → Bool} {g : Nat → Bool} : ∀ (ms : List Nat) (d : Bool) (b : Nat), ms.Pairwise (fun a b => ids a < ids b) → b ∈ ms → c b = true → (∀ m ∈ ms, c m = true → ids m ≤ ids b) → ms.foldl (fun b m => if c m = true then g m else b) d = g b
  | [], _, _, _, h, _, _ => by cases h
  | m :: ms, d, b, hs, hb, hc, hm => by
    rw [List.foldl_cons]
    rw [List.pairwise_cons] at hs
    rcases List.mem_cons.mp hb with rfl | hb
    · rw [if_pos hc]
      refine pq_fold_none ms _ (fun x hx => ?_)
      cases hcx : c x with
      | false => rfl
      | true =>
        have h1 := hs.1 x hx
        have h2 := hm x (by simp [hx]) hcx
        omega
    · exact pq_fold_last ms _ b hs.2 hb hc (fun x hx => hm x (by simp [hx]))
/-- the greatest id decides -/
theorem pq_hs_best {M : Nat} {O : pq_O} (hw : pq_wf M O) {kn : Nat → Nat} {c : Nat} (hk : pq_kn M O kn c) (r : List Nat) (l kind : Nat) :
    pq_hs O r l kind (pq_mk O kn c) = (match pq_best (pq_id O) (fun k => (pq_kw kn c k && pq_so O k == 2) && decide (pq_wh O k / 2 = kind) && pq_cv O r k l) M with | none => false | some b => decide (pq_wh O b % 2 = 1)) := by
  obtain ⟨hm, hs⟩ := pq_mk_ok hw c hk
  obtain ⟨h1, h2⟩ := pq_best_spec (pq_id O) (fun k => (pq_kw kn c k && pq_so O k == 2) && decide (pq_wh O k / 2 = kind) && pq_cv O r k l) M
  have hmem : ∀ x, x ∈ pq_mk O kn c → x < M ∧ (pq_kw kn c x && pq_so O x == 2) = true := by
    intro x hx
    obtain ⟨g1, i, hi, g2⟩ := (hm x).mp hx
    refine ⟨by rw [← g2]; exact hk.1 i hi, ?_⟩
    rw [Bool.and_eq_true, pq_kw_iff, beq_iff_eq]
    exact ⟨⟨i, hi, g2⟩, g1⟩
  unfold pq_hs
  cases hb : pq_best (pq_id O) (fun k => (pq_kw kn c k && pq_so O k == 2) && decide (pq_wh O k / 2 = kind) && pq_cv O r k l) M with
  | none =>
    refine pq_fold_none (c := fun m => decide (pq_wh O m / 2 = kind) && pq_cv O r m l) (g := fun m => decide (pq_wh O m % 2 = 1)) _ _ (fun m hmm => ?_)
    obtain ⟨g1, g2⟩ := hmem m hmm
    have := h2 hb m g1
    simp only [g2, Bool.true_and] at this
    exact this
  | some b =>
    obtain ⟨g1, g2, g3⟩ := h1 b hb
    simp only [Bool.and_eq_true, decide_eq_true_eq, beq_iff_eq] at g2
    obtain ⟨⟨⟨g4, g5⟩, g6⟩, g7⟩ := g2
    obtain ⟨i, hi, g8⟩ := (pq_kw_iff kn b c).mp g4
    refine pq_fold_last (ids := pq_id O) (c := fun m => decide (pq_wh O m / 2 = kind) && pq_cv O r m l) (g := fun m => decide (pq_wh O m % 2 = 1)) _ _ b hs ((hm b).mpr ⟨g5, i, hi, g8⟩) (by simp [g6, g7]) (fun m hmm hc => ?_)
    obtain ⟨e1, e2⟩ := hmem m hmm
    refine g3 m e1 ?_
    simp only [e2, Bool.true_and]
    exact hc
