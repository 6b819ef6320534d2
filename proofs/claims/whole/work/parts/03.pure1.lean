/-! The order of a row: letters by their paths (ids from the root down), greater ids first, a letter ahead of those behind it. -/
def pq_lt : List Nat → List Nat → Prop
  | _, [] => False
  | [], _ :: _ => True
  | a :: as, b :: bs => b < a ∨ (a = b ∧ pq_lt as bs)
theorem pq_lt_irr : ∀ a : List Nat, ¬ pq_lt a a
  | [], h => h
  | a :: as, h => by
    rcases h with h | ⟨-, h⟩
    · omega
    · exact pq_lt_irr as h
theorem pq_lt_tr : ∀ a b c : List Nat, pq_lt a b → pq_lt b c → pq_lt a c
  | _, _, [], _, h => by
    rename_i b _
    cases b <;> exact h.elim
  | [], _, _ :: _, _, _ => trivial
  | a :: as, [], c :: cs, h, _ => h.elim
  | a :: as, b :: bs, c :: cs, h1, h2 => by
    rcases h1 with h1 | ⟨rfl, h1⟩ <;> rcases h2 with h2 | ⟨rfl, h2⟩
    · exact Or.inl (by omega)
    · exact Or.inl h1
    · exact Or.inl h2
    · exact Or.inr ⟨rfl, pq_lt_tr as bs cs h1 h2⟩
theorem pq_lt_tot : ∀ a b : List Nat, a ≠ b → pq_lt a b ∨ pq_lt b a
  | [], [], h => absurd rfl h
  | [], _ :: _, _ => Or.inl trivial
  | _ :: _, [], _ => Or.inr trivial
  | a :: as, b :: bs, h => by
    rcases Nat.lt_trichotomy a b with h1 | h1 | h1
    · exact Or.inr (Or.inl h1)
    · subst h1
      rcases pq_lt_tot as bs (fun e => h (by rw [e])) with h2 | h2
      · exact Or.inl (Or.inr ⟨rfl, h2⟩)
      · exact Or.inr (Or.inr ⟨rfl, h2⟩)
    · exact Or.inl (Or.inl h1)
theorem pq_lt_app : ∀ (P : List Nat) (c : Nat) (t : List Nat), pq_lt P (P ++ c :: t)
  | [], _, _ => trivial
  | _ :: P, c, t => Or.inr ⟨rfl, pq_lt_app P c t⟩
theorem pq_lt_cons (P : List Nat) : ∀ (a b : Nat) (t t' : List Nat), pq_lt (P ++ a :: t) (P ++ b :: t') ↔ b < a ∨ (a = b ∧ pq_lt t t') := by
  induction P with
  | nil => intro a b t t'; exact Iff.rfl
  | cons p P ih =>
    intro a b t t'
    constructor
    · rintro (h | ⟨-, h⟩)
      · omega
      · exact (ih a b t t').mp h
    · intro h
      exact Or.inr ⟨rfl, (ih a b t t').mpr h⟩
/-- behind P: under P, or parted from it downwards -/
theorem pq_lt_pre : ∀ (P X : List Nat), pq_lt P X → (∃ c t, X = P ++ c :: t) ∨ (∃ Q d d' t t', X = Q ++ d :: t ∧ P = Q ++ d' :: t' ∧ d < d')
  | _, [], h => by
    rename_i P
    cases P <;> exact h.elim
  | [], c :: t, _ => Or.inl ⟨c, t, rfl⟩
  | p :: P, x :: X, h => by
    rcases h with h | ⟨rfl, h⟩
    · exact Or.inr ⟨[], x, p, X, P, rfl, rfl, h⟩
    · rcases pq_lt_pre P X h with ⟨c, t, rfl⟩ | ⟨Q, d, d', t, t', rfl, rfl, hd⟩
      · exact Or.inl ⟨c, t, rfl⟩
      · exact Or.inr ⟨p :: Q, d, d', t, t', rfl, rfl, hd⟩
/-- between P and P ++ [n] lies only what is under P, by a greater id -/
theorem pq_lt_mid {P X : List Nat} {n : Nat} (h1 : pq_lt P X) (h2 : pq_lt X (P ++ [n])) : ∃ c t, X = P ++ c :: t ∧ n < c := by
  rcases pq_lt_pre P X h1 with ⟨c, t, rfl⟩ | ⟨Q, d, d', t, t', rfl, rfl, hd⟩
  · rcases (pq_lt_cons P c n t []).mp h2 with h | ⟨-, h⟩
    · exact ⟨c, t, rfl, h⟩
    · cases t <;> exact h.elim
  · rw [List.append_assoc, List.cons_append] at h2
    rcases (pq_lt_cons Q d d' t (t' ++ [n])).mp h2 with h | ⟨h, -⟩ <;> omega
/-- what is parted from P downwards is behind all that is under P -/
theorem pq_last_inj {P Q : List Nat} {a b : Nat} (h : P ++ [a] = Q ++ [b]) : P = Q ∧ a = b := by
  have h1 := List.append_inj' h rfl
  exact ⟨h1.1, by simpa using h1.2⟩
/-- the place of a new letter in a row -/
theorem pq_place (pa : Nat → List Nat) (ids : Nat → Nat) (r1 r2 : List Nat) (k : Nat) (P : List Nat)
    (hs : (r1 ++ r2).Pairwise fun a b => pq_lt (pa a) (pa b)) (hcl : ∀ x ∈ r1 ++ r2, ∀ Q d t, pa x = Q ++ d :: t → ∃ a ∈ r1 ++ r2, pa a = Q ++ [d])
    (hl : ∀ x ∈ r1 ++ r2, ∃ Q, pa x = Q ++ [ids x]) (hup : ∀ x ∈ r1 ++ r2, (pa x).Pairwise (· < ·))
    (hk : pa k = P ++ [ids k]) (h1 : ∀ x ∈ r1, pa x = P ∨ pq_lt (pa x) P) (h2 : ∀ x ∈ r2, pq_lt P (pa x)) (hP : ∀ z ∈ P, z < ids k) (hne : ∀ x ∈ r1 ++ r2, ids x ≠ ids k) :
    (r1 ++ r2.takeWhile (fun x => decide (ids k < ids x)) ++ k :: r2.dropWhile (fun x => decide (ids k < ids x))).Pairwise fun a b => pq_lt (pa a) (pa b) := by
  generalize hw : r2.takeWhile (fun x => decide (ids k < ids x)) = w
  generalize hv : r2.dropWhile (fun x => decide (ids k < ids x)) = v
  have e : r2 = w ++ v := by rw [← hw, ← hv]; exact List.takeWhile_append_dropWhile.symm
  have hwid : ∀ x ∈ w, ids k < ids x := by
    have ha := List.all_takeWhile (p := fun x => decide (ids k < ids x)) (l := r2)
    rw [hw, List.all_eq_true] at ha
    intro x hx
    simpa using ha x hx
  subst e
  rw [List.pairwise_append] at hs
  obtain ⟨hs1, hs2, hs12⟩ := hs
  rw [List.pairwise_append] at hs2
  obtain ⟨hsw, hsv, hswv⟩ := hs2
  have hkP : pq_lt P (pa k) := by rw [hk]; exact pq_lt_app _ _ _
  -- an ancestor that lies behind P and isn't behind x of w is in w
  have key : ∀ x ∈ w, ∀ a ∈ r1 ++ (w ++ v), pq_lt P (pa a) → pq_lt (pa a) (pa x) → a ∈ w := by
    intro x hx a ha hPa hax
    rcases List.mem_append.mp ha with ha | ha
    · rcases h1 a ha with h | h
      · rw [h] at hPa; exact absurd hPa (pq_lt_irr _)
      · exact absurd (pq_lt_tr _ _ _ h hPa) (pq_lt_irr _)
    · rcases List.mem_append.mp ha with ha | ha
      · exact ha
      · exact absurd (pq_lt_tr _ _ _ (hswv x hx a ha) hax) (pq_lt_irr _)
  have hwk : ∀ x ∈ w, pq_lt (pa x) (pa k) := by
    intro x hx
    have hxm : x ∈ r1 ++ (w ++ v) := by simp [hx]
    have hPx : pq_lt P (pa x) := h2 x (by simp [hx])
    obtain ⟨Qx, hQx⟩ := hl x hxm
    by_cases hxk : pa x = pa k
    · rw [hQx, hk] at hxk
      exact absurd (pq_last_inj hxk).2 (hne x hxm)
    · rcases pq_lt_tot _ _ hxk with h | h
      · exact h
      · exfalso
        -- an ancestor of x with an id below k's, behind P
        have : ∃ a ∈ r1 ++ (w ++ v), pq_lt P (pa a) ∧ (pa a = pa x ∨ pq_lt (pa a) (pa x)) ∧ ids a < ids k := by
          rcases pq_lt_pre P (pa x) hPx with ⟨c, t, ht⟩ | ⟨Q, d, d', t, t', ht, hp, hd⟩
          · obtain ⟨a, ha, hpa⟩ := hcl x hxm P c t ht
            obtain ⟨Qa, hQa⟩ := hl a ha
            have hida : ids a = c := by rw [hpa] at hQa; exact (pq_last_inj hQa).2.symm
            refine ⟨a, ha, by rw [hpa]; exact pq_lt_app _ _ _, ?_, ?_⟩
            · cases t with
              | nil => left; rw [hpa, ht]
              | cons z t => right; rw [hpa, ht, show P ++ c :: z :: t = (P ++ [c]) ++ z :: t by simp]; exact pq_lt_app _ _ _
            · have hne' := hne a ha
              rw [hk, ht] at h
              rcases (pq_lt_cons P (ids k) c [] t).mp h with h | ⟨h, -⟩ <;> omega
          · obtain ⟨a, ha, hpa⟩ := hcl x hxm Q d t ht
            obtain ⟨Qa, hQa⟩ := hl a ha
            have hida : ids a = d := by rw [hpa] at hQa; exact (pq_last_inj hQa).2.symm
            refine ⟨a, ha, ?_, ?_, ?_⟩
            · rw [hpa, hp]; exact (pq_lt_cons Q d' d t' []).mpr (Or.inl hd)
            · cases t with
              | nil => left; rw [hpa, ht]
              | cons z t => right; rw [hpa, ht, show Q ++ d :: z :: t = (Q ++ [d]) ++ z :: t by simp]; exact pq_lt_app _ _ _
            · have := hP d' (by rw [hp]; simp)
              omega
        obtain ⟨a, ha, hPa, hax, hid⟩ := this
        rcases hax with hax | hax
        · obtain ⟨Qa, hQa⟩ := hl a ha
          rw [hax, hQx] at hQa
          have := (pq_last_inj hQa).2
          have := hwid x hx
          omega
        · have := hwid a (key x hx a ha hPa hax)
          omega
  have hkv : ∀ x ∈ v, pq_lt (pa k) (pa x) := by
    cases hv0 : v with
    | nil => intro x hx; cases hx
    | cons x0 v0 =>
      have hx0m : x0 ∈ r1 ++ (w ++ v) := by rw [hv0]; simp
      have hx0 : ¬ ids k < ids x0 := by
        have hd : ((w ++ v).dropWhile (fun x => decide (ids k < ids x))).head? = some x0 := by rw [hv, hv0]; rfl
        have := List.head?_dropWhile_not (p := fun x => decide (ids k < ids x)) (l := w ++ v)
        rw [hd] at this
        simpa using this
      have hlt : pq_lt (pa k) (pa x0) := by
        have hPx : pq_lt P (pa x0) := h2 x0 (by rw [hv0]; simp)
        obtain ⟨Qx, hQx⟩ := hl x0 hx0m
        by_cases hxk : pa x0 = pa k
        · rw [hQx, hk] at hxk
          exact absurd (pq_last_inj hxk).2 (hne x0 hx0m)
        · rcases pq_lt_tot _ _ hxk with h | h
          · exfalso
            rw [hk] at h
            obtain ⟨c, t, ht, hc⟩ := pq_lt_mid hPx h
            have hu := hup x0 hx0m
            -- the last id is not below c
            have hlast : c ≤ ids x0 := by
              rw [ht] at hQx hu
              rw [List.pairwise_append] at hu
              have h3 := hu.2.1
              rw [List.pairwise_cons] at h3
              cases ht2 : t with
              | nil =>
                rw [ht2] at hQx
                have := (pq_last_inj hQx).2
                omega
              | cons z t =>
                have hm : ids x0 ∈ z :: t := by
                  have h4 : (P ++ c :: (z :: t)).getLast? = some (ids x0) := by rw [← ht2, hQx]; simp
                  rw [List.getLast?_append, show (c :: z :: t).getLast? = (z :: t).getLast? by simp, List.getLast?_eq_some_getLast (List.cons_ne_nil z t)] at h4
                  have h5 : (z :: t).getLast (List.cons_ne_nil z t) = ids x0 := by simpa using h4
                  rw [← h5]
                  exact List.getLast_mem _
                have := h3.1 _ (by rw [ht2]; exact hm)
                omega
            omega
          · exact h
      intro x hx
      rcases List.mem_cons.mp hx with rfl | hx
      · exact hlt
      · rw [hv0, List.pairwise_cons] at hsv
        exact pq_lt_tr _ _ _ hlt (hsv.1 x hx)
  rw [List.append_assoc, List.pairwise_append]
  refine ⟨hs1, ?_, ?_⟩
  · rw [List.pairwise_append]
    refine ⟨hsw, ?_, ?_⟩
    · rw [List.pairwise_cons]
      exact ⟨hkv, hsv⟩
    · intro a ha b hb
      rcases List.mem_cons.mp hb with rfl | hb
      · exact hwk a ha
      · exact hswv a ha b hb
  · intro a ha b hb
    rcases List.mem_append.mp hb with hb | hb
    · exact hs12 a ha b (by simp [hb])
    · rcases List.mem_cons.mp hb with rfl | hb
      · rcases h1 a ha with h | h
        · rw [h]; exact hkP
        · exact pq_lt_tr _ _ _ h hkP
      · exact hs12 a ha b (by simp [hb])
/-- the walk down: of the letters under A that come from f on, f has the greatest id -/
theorem pq_dfsA {pa : Nat → List Nat} {ids : Nat → Nat} {F2 : List Nat} {f : Nat} {A : List Nat} (hs : (f :: F2).Pairwise fun a b => pq_lt (pa a) (pa b)) (hf : pa f = A ++ [ids f]) : ∀ x ∈ F2, pa x = A ++ [ids x] → ids x < ids f := by
  intro x hx hpx
  have h := (List.pairwise_cons.mp hs).1 x hx
  rw [hf, hpx] at h
  rcases (pq_lt_cons A (ids f) (ids x) [] []).mp h with h | ⟨-, h⟩
  · exact h
  · exact h.elim
/-- where f is behind a higher letter than a, none from f on is behind a -/
theorem pq_dfsB {pa : Nat → List Nat} {F2 : List Nat} {f n e : Nat} {R t : List Nat} (hs : (f :: F2).Pairwise fun a b => pq_lt (pa a) (pa b)) (hf : pa f = R ++ [n]) (ha : pq_lt (R ++ e :: t) (pa f)) : ∀ x ∈ f :: F2, ∀ c, pa x ≠ (R ++ e :: t) ++ [c] := by
  rw [hf] at ha
  have hne : n < e := by
    rcases (pq_lt_cons R e n t []).mp ha with h | ⟨-, h⟩
    · exact h
    · cases t <;> exact h.elim
  intro x hx c hpx
  rw [List.append_assoc, List.cons_append] at hpx
  rcases List.mem_cons.mp hx with rfl | hx
  · rw [hf] at hpx
    have h := List.append_cancel_left hpx
    simp at h
  · have h := (List.pairwise_cons.mp hs).1 x hx
    rw [hf, hpx] at h
    rcases (pq_lt_cons R n e [] (t ++ [c])).mp h with h | ⟨h, -⟩ <;> omega
/-- the next letter is behind the last one or behind one over it -/
theorem pq_dfsC {pa : Nat → List Nat} {F1 F2 : List Nat} {f q n : Nat} {R : List Nat} (hs : (F1 ++ f :: q :: F2).Pairwise fun a b => pq_lt (pa a) (pa b)) (hq : pa q = R ++ [n]) (hcl : R = [] ∨ ∃ a ∈ F1 ++ f :: q :: F2, pa a = R) : ∃ t, pa f = R ++ t := by
  rcases hcl with rfl | ⟨a, ha, hpa⟩
  · exact ⟨pa f, rfl⟩
  · rw [List.pairwise_append] at hs
    obtain ⟨-, hs2, hs12⟩ := hs
    have hfq := (List.pairwise_cons.mp hs2).1 q (by simp)
    have hqs := (List.pairwise_cons.mp (List.pairwise_cons.mp hs2).2).1
    have haq : pq_lt (pa a) (pa q) := by rw [hpa, hq]; exact pq_lt_app _ _ _
    have hcase : pa a = pa f ∨ pq_lt (pa a) (pa f) := by
      rcases List.mem_append.mp ha with h | h
      · exact Or.inr (hs12 a h f (by simp))
      · rcases List.mem_cons.mp h with rfl | h
        · exact Or.inl rfl
        · exfalso
          rcases List.mem_cons.mp h with rfl | h
          · exact pq_lt_irr _ haq
          · exact pq_lt_irr _ (pq_lt_tr _ _ _ haq (hqs a h))
    rcases hcase with h | h
    · exact ⟨[], by rw [← h, hpa]; simp⟩
    · rw [hpa] at h
      rw [hq] at hfq
      obtain ⟨c, t, ht, -⟩ := pq_lt_mid h hfq
      exact ⟨c :: t, ht⟩
/-- the one with the greatest id among those that c allows -/
def pq_best (ids : Nat → Nat) (c : Nat → Bool) : Nat → Option Nat
  | 0 => none
  | n + 1 => if c n && (match pq_best ids c n with | none => true | some b => decide (ids b < ids n)) then some n else pq_best ids c n
theorem pq_best_spec (ids : Nat → Nat) (c : Nat → Bool) : ∀ n, (∀ b, pq_best ids c n = some b → b < n ∧ c b = true ∧ ∀ j, j < n → c j = true → ids j ≤ ids b) ∧ (pq_best ids c n = none → ∀ j, j < n → c j = false) := by
  intro n
  induction n with
  | zero => exact ⟨fun b h => (by cases h), fun _ j hj => by omega⟩
  | succ n ih =>
    obtain ⟨ih1, ih2⟩ := ih
    unfold pq_best
    cases hb : pq_best ids c n with
    | none =>
      have hn := ih2 hb
      by_cases hc : c n = true
      · simp only [hc, Bool.and_true, if_true]
        refine ⟨fun b h => ?_, fun h => by cases h⟩
        cases h
        refine ⟨by omega, hc, fun j hj hcj => ?_⟩
        rcases Nat.lt_succ_iff_lt_or_eq.mp hj with h | rfl
        · rw [hn j h] at hcj; cases hcj
        · exact Nat.le_refl _
      · have hc' : c n = false := by simpa using hc
        simp only [hc', Bool.false_and, Bool.false_eq_true, if_false]
        refine ⟨fun b h => (by cases h), fun _ j hj => ?_⟩
        rcases Nat.lt_succ_iff_lt_or_eq.mp hj with h | rfl
        · exact hn j h
        · exact hc'
    | some b0 =>
      obtain ⟨h1, h2, h3⟩ := ih1 b0 hb
      by_cases hc : (c n && decide (ids b0 < ids n)) = true
      · rw [if_pos hc]
        simp only [Bool.and_eq_true, decide_eq_true_eq] at hc
        refine ⟨fun b h => ?_, fun h => by cases h⟩
        cases h
        refine ⟨by omega, hc.1, fun j hj hcj => ?_⟩
        rcases Nat.lt_succ_iff_lt_or_eq.mp hj with h | rfl
        · have := h3 j h hcj; omega
        · exact Nat.le_refl _
      · rw [if_neg hc]
        refine ⟨fun b h => ?_, fun h => by cases h⟩
        cases h
        refine ⟨by omega, h2, fun j hj hcj => ?_⟩
        rcases Nat.lt_succ_iff_lt_or_eq.mp hj with h | rfl
        · exact h3 j h hcj
        · simp only [Bool.and_eq_true, decide_eq_true_eq, not_and] at hc
          have := hc hcj
          omega
/-- among different ids: who is allowed and has the greatest is it -/
theorem pq_best_is {ids : Nat → Nat} {c : Nat → Bool} {n f : Nat} (hf : f < n) (hc : c f = true) (hm : ∀ j, j < n → c j = true → j ≠ f → ids j < ids f) : pq_best ids c n = some f := by
  obtain ⟨h1, h2⟩ := pq_best_spec ids c n
  cases hb : pq_best ids c n with
  | none => rw [h2 hb f hf] at hc; cases hc
  | some b =>
    obtain ⟨g1, g2, g3⟩ := h1 b hb
    by_cases hbf : b = f
    · rw [hbf]
    · have := g3 f hf hc
      have := hm b g1 g2 hbf
      omega
theorem pq_best_none {ids : Nat → Nat} {c : Nat → Bool} {n : Nat} (hc : ∀ j, j < n → c j = false) : pq_best ids c n = none := by
  obtain ⟨h1, h2⟩ := pq_best_spec ids c n
  cases hb : pq_best ids c n with
  | none => rfl
  | some b => obtain ⟨g1, g2, -⟩ := h1 b hb; rw [hc b g1] at g2; cases g2
