/-! Counting what is known. -/
def rm_ct (f : Nat → Bool) : Nat → Nat
  | 0 => 0
  | n + 1 => rm_ct f n + (if f n then 1 else 0)
theorem rm_ct_le (f : Nat → Bool) : ∀ n, rm_ct f n ≤ n
  | 0 => Nat.le_refl _
  | n + 1 => by unfold rm_ct; have := rm_ct_le f n; split <;> omega
theorem rm_ct_ext {f g : Nat → Bool} : ∀ n, (∀ k, k < n → f k = g k) → rm_ct f n = rm_ct g n
  | 0, _ => rfl
  | n + 1, h => by unfold rm_ct; rw [rm_ct_ext n (fun k hk => h k (by omega)), h n (by omega)]
theorem rm_ct_add {f g : Nat → Bool} {a : Nat} (hf : f a = false) (hg : g a = true) (h : ∀ k, k ≠ a → g k = f k) : ∀ n, a < n → rm_ct g n = rm_ct f n + 1
  | 0, h0 => by omega
  | n + 1, h0 => by
    unfold rm_ct
    by_cases e : a = n
    · subst e
      rw [hf, hg, rm_ct_ext a (fun k hk => h k (by omega))]
      rfl
    · rw [rm_ct_add hf hg h n (by omega), h n (fun z => e z.symm)]
      omega
theorem rm_ct_zero {f : Nat → Bool} : ∀ n, (∀ k, k < n → f k = false) → rm_ct f n = 0
  | 0, _ => rfl
  | n + 1, h => by unfold rm_ct; rw [rm_ct_zero n (fun k hk => h k (by omega)), h n (by omega)]; rfl
/-- how many of a sort are known -/
theorem rm_ct_so {M : Nat} {O : pq_O} {kn : Nat → Nat} {s : Nat} (len : Nat → Nat) (h0 : len 0 = 0) (h1 : ∀ c, pq_so O (kn c) = s → len (c + 1) = len c + 1) (h2 : ∀ c, pq_so O (kn c) ≠ s → len (c + 1) = len c) :
    ∀ c, pq_kn M O kn c → rm_ct (fun k => pq_kw kn c k && pq_so O k == s) M = len c := by
  intro c
  induction c with
  | zero => intro _; rw [h0]; exact rm_ct_zero M (fun k hk => rfl)
  | succ c ih =>
    intro hk
    have hk' : pq_kn M O kn c := ⟨fun i hi => hk.1 i (by omega), fun i j hi hj => hk.2.1 i j (by omega) (by omega), fun i hi => hk.2.2 i (by omega)⟩
    have hnew : pq_kw kn c (kn c) = false := by
      cases hb : pq_kw kn c (kn c) with
      | false => rfl
      | true =>
        obtain ⟨i, hi, e⟩ := (pq_kw_iff kn _ c).mp hb
        have := hk.2.1 i c (by omega) (by omega) e
        omega
    by_cases hs : pq_so O (kn c) = s
    · rw [h1 c hs, ← ih hk']
      refine rm_ct_add (a := kn c) ?_ ?_ (fun k hkc => ?_) M (hk.1 c (by omega))
      · simp [hnew]
      · simp [pq_kw, hs]
      · have : (kn c == k) = false := by simpa using fun z : kn c = k => hkc z.symm
        simp [pq_kw, this]
    · rw [h2 c hs, ← ih hk']
      refine rm_ct_ext M (fun k hkM => ?_)
      by_cases e : k = kn c
      · rw [e]
        have : (pq_so O (kn c) == s) = false := by simpa using hs
        simp [this]
      · have : (kn c == k) = false := by simpa using fun z : kn c = k => e z.symm
        simp [pq_kw, this]
theorem rm_ct_row {S : pq_S} {j : Nat} (hok : pq_ok S) (hj : j < 3) : rm_ct (fun k => pq_kw (S.2.2.1 j) (S.2.2.2 j) k && pq_so S.2.1 k == 0) S.1 = (rm_F S j).length := by
  refine rm_ct_so (fun c => (pq_row S.2.1 (S.2.2.1 j) c).length) rfl (fun c hc => ?_) (fun c hc => ?_) _ (hok.2.2.1 j hj)
  · show (pq_row S.2.1 (S.2.2.1 j) (c + 1)).length = _
    unfold pq_row
    rw [if_pos hc, pq_ins_len]
    cases c <;> rfl
  · show (pq_row S.2.1 (S.2.2.1 j) (c + 1)).length = _
    unfold pq_row
    rw [if_neg hc]
    cases c <;> rfl
theorem rm_ct_mk {S : pq_S} {j : Nat} (hok : pq_ok S) (hj : j < 3) : rm_ct (fun k => pq_kw (S.2.2.1 j) (S.2.2.2 j) k && pq_so S.2.1 k == 2) S.1 = (sp_mk S j).length := by
  refine rm_ct_so (fun c => (pq_mk S.2.1 (S.2.2.1 j) c).length) rfl (fun c hc => ?_) (fun c hc => ?_) _ (hok.2.2.1 j hj)
  · show (pq_mk S.2.1 (S.2.2.1 j) (c + 1)).length = _
    unfold pq_mk
    rw [if_pos hc, pq_mins_len]
    cases c <;> rfl
  · show (pq_mk S.2.1 (S.2.2.1 j) (c + 1)).length = _
    unfold pq_mk
    rw [if_neg hc]
    cases c <;> rfl
/-- telling keeps the state sound -/
theorem sp_tl_ok {S : pq_S} (hok : pq_ok S) {a b n : Nat} (ha : a < 3) (hb : b < 3) : ∀ i, i ≤ S.2.2.2 a → pq_ok (sp_tl S a b n i).1 ∧ (sp_tl S a b n i).1.1 = S.1 ∧ (sp_tl S a b n i).1.2.1 = S.2.1 ∧ (∀ c, c ≠ b → (sp_tl S a b n i).1.2.2.1 c = S.2.2.1 c ∧ (sp_tl S a b n i).1.2.2.2 c = S.2.2.2 c) ∧ (a = b → (sp_tl S a b n i).1 = S) ∧ (sp_tl S a b n i).2 ≤ i ∧ ((sp_tl S a b n i).2 < n → ∀ k, k < i → pq_kw ((sp_tl S a b n i).1.2.2.1 b) ((sp_tl S a b n i).1.2.2.2 b) (S.2.2.1 a k) = true) ∧ (∀ k, pq_kw (S.2.2.1 b) (S.2.2.2 b) k = true → pq_kw ((sp_tl S a b n i).1.2.2.1 b) ((sp_tl S a b n i).1.2.2.2 b) k = true) := by
  intro i
  induction i with
  | zero => intro _; exact ⟨hok, rfl, rfl, fun c _ => ⟨rfl, rfl⟩, fun _ => rfl, Nat.le_refl _, fun _ k hk => by omega, fun k h => h⟩
  | succ i ih =>
    intro hi
    obtain ⟨h1, h2, h3, h4, h5, h6, h7, h8⟩ := ih (by omega)
    generalize hT : sp_tl S a b n i = T at h1 h2 h3 h4 h5 h6 h7 h8
    have e : sp_tl S a b n (i + 1) = if T.2 < n ∧ pq_kw (T.1.2.2.1 b) (T.1.2.2.2 b) (S.2.2.1 a i) = false then (pq_lrn T.1 b (S.2.2.1 a i), T.2 + 1) else T := by
      rw [← hT]; rfl
    by_cases hc : T.2 < n ∧ pq_kw (T.1.2.2.1 b) (T.1.2.2.2 b) (S.2.2.1 a i) = false
    · rw [e, if_pos hc]
      have hab : a ≠ b := fun z => by
        have hTS := h5 z
        have h9 := hc.2
        rw [hTS, ← z] at h9
        have : pq_kw (S.2.2.1 a) (S.2.2.2 a) (S.2.2.1 a i) = true := (pq_kw_iff _ _ _).mpr ⟨i, by omega, rfl⟩
        rw [this] at h9; cases h9
      have hkM : S.2.2.1 a i < S.1 := (hok.2.2.1 a ha).1 i (by omega)
      have hkw_new : ∀ k, pq_kw ((pq_lrn T.1 b (S.2.2.1 a i)).2.2.1 b) ((pq_lrn T.1 b (S.2.2.1 a i)).2.2.2 b) k = (pq_kw (T.1.2.2.1 b) (T.1.2.2.2 b) k || S.2.2.1 a i == k) := by
        intro k
        have e1 : (pq_lrn T.1 b (S.2.2.1 a i)).2.2.2 b = T.1.2.2.2 b + 1 := by simp [pq_lrn]
        rw [e1]
        show (pq_kw _ (T.1.2.2.2 b) k || (pq_lrn T.1 b (S.2.2.1 a i)).2.2.1 b (T.1.2.2.2 b) == k) = _
        rw [pq_kw_ext (kn := T.1.2.2.1 b) k (T.1.2.2.2 b) (fun q hq => by show (if b = b ∧ q = T.1.2.2.2 b then _ else _) = _; rw [if_neg (by omega)])]
        congr 2
        show (if b = b ∧ T.1.2.2.2 b = T.1.2.2.2 b then _ else _) = _
        rw [if_pos ⟨rfl, rfl⟩]
      have hother : ∀ c, c ≠ b → (pq_lrn T.1 b (S.2.2.1 a i)).2.2.1 c = T.1.2.2.1 c ∧ (pq_lrn T.1 b (S.2.2.1 a i)).2.2.2 c = T.1.2.2.2 c := by
        intro c hcb
        refine ⟨?_, ?_⟩
        · funext q
          show (if c = b ∧ q = T.1.2.2.2 b then _ else _) = _
          rw [if_neg (fun z => hcb z.1)]
        · show (if c = b then _ else _) = _
          rw [if_neg hcb]
      refine ⟨⟨h1.1, h1.2.1, fun c hc3 => ?_, fun k hk => ?_⟩, h2, h3, fun c hcb => ⟨(hother c hcb).1.trans (h4 c hcb).1, (hother c hcb).2.trans (h4 c hcb).2⟩, fun z => absurd z hab, by show T.2 + 1 ≤ i + 1; omega, fun ht k hk => ?_, fun k h => ?_⟩
      · by_cases hcb : c = b
        · subst hcb
          refine pq_lrn_kn (h1.2.2.1 c hc3) (by rw [h2]; exact hkM) (fun q hq hz => ?_) (fun p hp => ?_)
          · have : pq_kw (T.1.2.2.1 c) (T.1.2.2.2 c) (S.2.2.1 a i) = true := (pq_kw_iff _ _ _).mpr ⟨q, hq, hz⟩
            rw [this] at hc; cases hc.2
          · rw [h3] at hp
            obtain ⟨q, hq, hqp⟩ := (hok.2.2.1 a ha).2.2 i (by omega) p hp
            have := h7 hc.1 q hq
            rw [hqp] at this
            exact (pq_kw_iff _ _ _).mp this
        · rw [(hother c hcb).1, (hother c hcb).2]
          exact h1.2.2.1 c hc3
      · obtain ⟨q, hq, hqk⟩ := h1.2.2.2 k hk
        have hkw : pq_kw (T.1.2.2.1 (pq_pg T.1.2.1 k)) (T.1.2.2.2 (pq_pg T.1.2.1 k)) k = true := (pq_kw_iff _ _ _).mpr ⟨q, hq, hqk⟩
        show ∃ i_1, i_1 < (pq_lrn T.1 b (S.2.2.1 a i)).2.2.2 (pq_pg T.1.2.1 k) ∧ (pq_lrn T.1 b (S.2.2.1 a i)).2.2.1 (pq_pg T.1.2.1 k) i_1 = k
        by_cases hcb : pq_pg T.1.2.1 k = b
        · rw [hcb] at hkw ⊢
          refine (pq_kw_iff _ _ _).mp ?_
          rw [hkw_new, hkw]; rfl
        · rw [(hother _ hcb).1, (hother _ hcb).2]
          exact ⟨q, hq, hqk⟩
      · show pq_kw ((pq_lrn T.1 b (S.2.2.1 a i)).2.2.1 b) ((pq_lrn T.1 b (S.2.2.1 a i)).2.2.2 b) _ = true
        rw [hkw_new]
        by_cases e2 : k = i
        · subst e2; simp
        · rw [h7 (by have : T.2 + 1 < n := ht; omega) k (by omega)]; rfl
      · show pq_kw ((pq_lrn T.1 b (S.2.2.1 a i)).2.2.1 b) ((pq_lrn T.1 b (S.2.2.1 a i)).2.2.2 b) _ = true
        rw [hkw_new, h8 k h]; rfl
    · rw [e, if_neg hc]
      refine ⟨h1, h2, h3, h4, h5, by omega, fun ht k hk => ?_, h8⟩
      by_cases e2 : k = i
      · subst e2
        cases hb2 : pq_kw (T.1.2.2.1 b) (T.1.2.2.2 b) (S.2.2.1 a k) with
        | true => rfl
        | false => exact absurd ⟨ht, hb2⟩ hc
      · exact h7 ht k (by omega)
/-- once n were told nothing more is -/
theorem sp_tl_stop {S : pq_S} {a b n i : Nat} (h : ¬ (sp_tl S a b n i).2 < n) : ∀ m, sp_tl S a b n (i + m) = sp_tl S a b n i
  | 0 => rfl
  | m + 1 => by
    have ih := sp_tl_stop h m
    have e : sp_tl S a b n (i + (m + 1)) = if (sp_tl S a b n (i + m)).2 < n ∧ pq_kw ((sp_tl S a b n (i + m)).1.2.2.1 b) ((sp_tl S a b n (i + m)).1.2.2.2 b) (S.2.2.1 a (i + m)) = false then (pq_lrn (sp_tl S a b n (i + m)).1 b (S.2.2.1 a (i + m)), (sp_tl S a b n (i + m)).2 + 1) else sp_tl S a b n (i + m) := rfl
    rw [e, if_neg (fun z => h (by rw [← ih]; exact z.1))]
    exact ih
