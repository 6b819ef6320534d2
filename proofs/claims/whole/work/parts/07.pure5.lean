/-! Runs: f p is the format at place p, n the length of the text. -/
def pq_bg (f : Nat → Nat) (p : Nat) : Bool := p == 0 || f p != f (p - 1)
def pq_ru (f : Nat → Nat) : Nat → Nat
  | 0 => 0
  | p + 1 => pq_ru f p + (if pq_bg f p then 1 else 0)
theorem pq_ru_le (f : Nat → Nat) : ∀ p, pq_ru f p ≤ p
  | 0 => Nat.le_refl _
  | p + 1 => by
    unfold pq_ru
    have := pq_ru_le f p
    split <;> omega
theorem pq_ru_mono (f : Nat → Nat) (a : Nat) : ∀ b, a ≤ b → pq_ru f a ≤ pq_ru f b
  | 0, h => by have : a = 0 := by omega
               subst this; exact Nat.le_refl _
  | b + 1, h => by
    by_cases e : a = b + 1
    · rw [e]; exact Nat.le_refl _
    · have := pq_ru_mono f a b (by omega)
      have e : pq_ru f (b + 1) = pq_ru f b + (if pq_bg f b then 1 else 0) := rfl
      rw [e]
      omega
theorem pq_ru_pos (f : Nat → Nat) {p : Nat} (h : 0 < p) : 0 < pq_ru f p := by
  have := pq_ru_mono f 1 p h
  have e : pq_ru f 1 = 1 := by simp [pq_ru, pq_bg]
  omega
/-- the start of run k: the first place whose run is k or later; n if there is none -/
def pq_sr (f : Nat → Nat) (k : Nat) : Nat → Nat
  | 0 => 0
  | n + 1 => if pq_ru f (n + 1) ≤ k then n + 1 else pq_sr f k n
theorem pq_sr_le (f : Nat → Nat) (k : Nat) : ∀ n, pq_sr f k n ≤ n
  | 0 => Nat.le_refl _
  | n + 1 => by
    unfold pq_sr
    have := pq_sr_le f k n
    split <;> omega
/-- places ahead of it belong to earlier runs, those behind it to k or later ones -/
theorem pq_sr_spec (f : Nat → Nat) (k : Nat) : ∀ n p, p < n → (p < pq_sr f k n ↔ pq_ru f (p + 1) ≤ k)
  | 0, p, h => by omega
  | n + 1, p, h => by
    unfold pq_sr
    split
    · rename_i h1
      have := pq_ru_mono f (p + 1) (n + 1) (by omega)
      constructor
      · intro _; omega
      · intro _; exact h
    · rename_i h1
      have hle := pq_sr_le f k n
      by_cases e : p = n
      · subst e
        constructor
        · intro _; omega
        · intro _; omega
      · exact pq_sr_spec f k n p (by omega)
theorem pq_sr_eq {f : Nat → Nat} {k n q : Nat} (hq : q ≤ n) (h1 : ∀ p, p < q → pq_ru f (p + 1) ≤ k) (h2 : ∀ p, q ≤ p → p < n → ¬ pq_ru f (p + 1) ≤ k) : pq_sr f k n = q := by
  have hle := pq_sr_le f k n
  rcases Nat.lt_trichotomy (pq_sr f k n) q with h | h | h
  · have := (pq_sr_spec f k n (pq_sr f k n) (by omega)).mpr (h1 _ h)
    omega
  · exact h
  · exact absurd ((pq_sr_spec f k n q (by omega)).mp h) (h2 q (Nat.le_refl _) (by omega))
/-- a place starts run k just if it is where k starts -/
theorem pq_sr_bg {f : Nat → Nat} {k n p : Nat} (hp : p < n) (hb : pq_bg f p = true) (hr : pq_ru f p = k) : pq_sr f k n = p := by
  refine pq_sr_eq (by omega) (fun q hq => ?_) (fun q hq _ => ?_)
  · have := pq_ru_mono f (q + 1) p (by omega)
    omega
  · have := pq_ru_mono f (p + 1) (q + 1) (by omega)
    have e : pq_ru f (p + 1) = pq_ru f p + 1 := by
      show pq_ru f p + (if pq_bg f p then 1 else 0) = _
      rw [hb]; rfl
    omega
/-- how many places are in run k -/
def pq_mn (f : Nat → Nat) (k : Nat) : Nat → Nat
  | 0 => 0
  | n + 1 => pq_mn f k n + (if pq_ru f (n + 1) = k + 1 then 1 else 0)
theorem pq_mn_eq (f : Nat → Nat) (k : Nat) : ∀ n, pq_mn f k n = pq_sr f (k + 1) n - pq_sr f k n
  | 0 => rfl
  | n + 1 => by
    have ih := pq_mn_eq f k n
    have l1 := pq_sr_le f k n
    have l2 := pq_sr_le f (k + 1) n
    have hx : pq_sr f k n ≤ pq_sr f (k + 1) n := by
      rcases Nat.lt_or_ge (pq_sr f (k + 1) n) (pq_sr f k n) with h | h
      · have h1 := (pq_sr_spec f k n (pq_sr f (k + 1) n) (by omega)).mp h
        have h2 := (pq_sr_spec f (k + 1) n (pq_sr f (k + 1) n) (by omega)).mpr (by omega)
        omega
      · exact h
    have full : ∀ j, pq_ru f (n + 1) ≤ j → pq_sr f j n = n := by
      intro j hj
      refine pq_sr_eq (Nat.le_refl _) (fun p hp => ?_) (fun p hp hp2 => by omega)
      have := pq_ru_mono f (p + 1) (n + 1) (by omega)
      omega
    unfold pq_mn pq_sr
    by_cases c1 : pq_ru f (n + 1) ≤ k
    · rw [if_pos c1, if_neg (show ¬ pq_ru f (n + 1) = k + 1 by omega), if_pos (show pq_ru f (n + 1) ≤ k + 1 by omega), ih, full k c1, full (k + 1) (by omega)]
      omega
    · rw [if_neg c1]
      by_cases c2 : pq_ru f (n + 1) = k + 1
      · rw [if_pos c2, if_pos (show pq_ru f (n + 1) ≤ k + 1 by omega), ih, full (k + 1) (by omega)]
        omega
      · rw [if_neg c2, if_neg (show ¬ pq_ru f (n + 1) ≤ k + 1 by omega), ih]
        omega
