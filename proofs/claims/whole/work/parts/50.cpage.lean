/-! A page: its object at P, its arrays at P + 1 .. P + 7. Operations at ad k. -/
def cp_K (G : mp_G) (h : mp_H) (P : Nat) : Prop := P + 8 ≤ h.2.2 ∧ h.1 P = (1, 12) ∧ (h.1 (P + 1) = (15, 90) ∧ h.2.1 P 0 = .ref (G.1 + (P + 1))) ∧ (h.1 (P + 2) = (16, 90) ∧ h.2.1 P 3 = .ref (G.1 + (P + 2))) ∧ (h.1 (P + 3) = (16, 90) ∧ h.2.1 P 5 = .ref (G.1 + (P + 3))) ∧ (h.1 (P + 4) = (17, 90) ∧ h.2.1 P 7 = .ref (G.1 + (P + 4))) ∧ (h.1 (P + 5) = (11, 90) ∧ h.2.1 P 9 = .ref (G.1 + (P + 5))) ∧ (h.1 (P + 6) = (11, 90) ∧ h.2.1 P 10 = .ref (G.1 + (P + 6))) ∧ (h.1 (P + 7) = (10, 90) ∧ h.2.1 P 11 = .ref (G.1 + (P + 7)))
section CPK
variable {G : mp_G} {h : mp_H} {P : Nat}
theorem cp_K.sz (hK : cp_K G h P) {o : Nat} (ho : o < P + 8) : o < h.2.2 := Nat.lt_of_lt_of_le ho hK.1
theorem cp_K.ob (hK : cp_K G h P) : h.1 P = (1, 12) := hK.2.1
theorem cp_K.k_known (hK : cp_K G h P) : h.1 (P + 1) = (15, 90) := hK.2.2.1.1
theorem cp_K.r_known (hK : cp_K G h P) : h.2.1 P 0 = .ref (G.1 + (P + 1)) := hK.2.2.1.2
theorem cp_K.k_row (hK : cp_K G h P) : h.1 (P + 2) = (16, 90) := hK.2.2.2.1.1
theorem cp_K.r_row (hK : cp_K G h P) : h.2.1 P 3 = .ref (G.1 + (P + 2)) := hK.2.2.2.1.2
theorem cp_K.k_text (hK : cp_K G h P) : h.1 (P + 3) = (16, 90) := hK.2.2.2.2.1.1
theorem cp_K.r_text (hK : cp_K G h P) : h.2.1 P 5 = .ref (G.1 + (P + 3)) := hK.2.2.2.2.1.2
theorem cp_K.k_markings (hK : cp_K G h P) : h.1 (P + 4) = (17, 90) := hK.2.2.2.2.2.1.1
theorem cp_K.r_markings (hK : cp_K G h P) : h.2.1 P 7 = .ref (G.1 + (P + 4)) := hK.2.2.2.2.2.1.2
theorem cp_K.k_knows (hK : cp_K G h P) : h.1 (P + 5) = (11, 90) := hK.2.2.2.2.2.2.1.1
theorem cp_K.r_knows (hK : cp_K G h P) : h.2.1 P 9 = .ref (G.1 + (P + 5)) := hK.2.2.2.2.2.2.1.2
theorem cp_K.k_gone (hK : cp_K G h P) : h.1 (P + 6) = (11, 90) := hK.2.2.2.2.2.2.2.1.1
theorem cp_K.r_gone (hK : cp_K G h P) : h.2.1 P 10 = .ref (G.1 + (P + 6)) := hK.2.2.2.2.2.2.2.1.2
theorem cp_K.k_places (hK : cp_K G h P) : h.1 (P + 7) = (10, 90) := hK.2.2.2.2.2.2.2.2.1
theorem cp_K.r_places (hK : cp_K G h P) : h.2.1 P 11 = .ref (G.1 + (P + 7)) := hK.2.2.2.2.2.2.2.2.2
end CPK
/-- cells that stay while others are made -/
def mp_gr (A : Nat → Nat → Prop) (h h' : mp_H) : Prop := h.2.2 ≤ h'.2.2 ∧ (∀ o, o < h.2.2 → h'.1 o = h.1 o) ∧ ∀ o i, o < h.2.2 → ¬ A o i → h'.2.1 o i = h.2.1 o i
theorem mp_gr.rf {A : Nat → Nat → Prop} {h : mp_H} : mp_gr A h h := ⟨Nat.le_refl _, fun _ _ => rfl, fun _ _ _ _ => rfl⟩
theorem mp_gr.tr {A : Nat → Nat → Prop} {h h' h'' : mp_H} (a : mp_gr A h h') (b : mp_gr A h' h'') : mp_gr A h h'' := ⟨Nat.le_trans a.1 b.1, fun o ho => (b.2.1 o (Nat.lt_of_lt_of_le ho a.1)).trans (a.2.1 o ho), fun o i ho hn => (b.2.2 o i (Nat.lt_of_lt_of_le ho a.1) hn).trans (a.2.2 o i ho hn)⟩
theorem mp_gr.of {A : Nat → Nat → Prop} {h h' : mp_H} (a : mp_fr A h h') : mp_gr A h h' := ⟨Nat.le_of_eq a.2.1.symm, fun o _ => by rw [a.1], fun o i _ hn => a.2.2 o i hn⟩
theorem mp_gr.mono {A B : Nat → Nat → Prop} {h h' : mp_H} (a : mp_gr A h h') (hAB : ∀ o i, A o i → B o i) : mp_gr B h h' := ⟨a.1, a.2.1, fun o i ho hn => a.2.2 o i ho (fun e => hn (hAB o i e))⟩
theorem mp_gr.new {A : Nat → Nat → Prop} {h : mp_H} (k n : Nat) (f : Nat → Value) : mp_gr A h (mp_new h k n f) := by
  refine ⟨Nat.le_succ _, fun o ho => ?_, fun o i ho _ => ?_⟩
  · show (if o = h.2.2 then _ else _) = _
    rw [if_neg (by omega)]
  · show (if o = h.2.2 then _ else _) = _
    rw [if_neg (by omega)]
theorem mp_gr.set {A : Nat → Nat → Prop} {h h' : mp_H} (a : mp_gr A h h') {o i : Nat} {v : Value} (hA : h.2.2 ≤ o ∨ A o i) : mp_gr A h (mp_set h' o i v) := by
  refine ⟨a.1, a.2.1, fun o' i' ho hn => ?_⟩
  rw [mp_set_ne _ _ (fun e => ?_)]
  · exact a.2.2 o' i' ho hn
  · rcases hA with h1 | h1
    · omega
    · exact hn (by rw [e.1, e.2]; exact h1)
/-- what a page's methods may write -/
def cp_A (P o i : Nat) : Prop := (o = P ∧ (i = 1 ∨ i = 2 ∨ i = 4 ∨ i = 6 ∨ i = 8)) ∨ (P < o ∧ o ≤ P + 7)
theorem cp_K.gr {G : mp_G} {h h' : mp_H} {P : Nat} (hK : cp_K G h P) {A : Nat → Nat → Prop} (hA : ∀ i, i ≠ 1 → i ≠ 2 → i ≠ 4 → i ≠ 6 → i ≠ 8 → ¬ A P i) (hf : mp_gr A h h') : cp_K G h' P := by
  obtain ⟨e1, e2, e3⟩ := hf
  have hs := hK.1
  have q : ∀ i, i ≠ 1 → i ≠ 2 → i ≠ 4 → i ≠ 6 → i ≠ 8 → h'.2.1 P i = h.2.1 P i := fun i a b c d e => e3 P i (by omega) (hA i a b c d e)
  unfold cp_K at hK ⊢
  rw [e2 P (by omega), e2 (P + 1) (by omega), e2 (P + 2) (by omega), e2 (P + 3) (by omega), e2 (P + 4) (by omega), e2 (P + 5) (by omega), e2 (P + 6) (by omega), e2 (P + 7) (by omega), q 0 (by decide) (by decide) (by decide) (by decide) (by decide), q 3 (by decide) (by decide) (by decide) (by decide) (by decide), q 5 (by decide) (by decide) (by decide) (by decide) (by decide), q 7 (by decide) (by decide) (by decide) (by decide) (by decide), q 9 (by decide) (by decide) (by decide) (by decide) (by decide), q 10 (by decide) (by decide) (by decide) (by decide) (by decide), q 11 (by decide) (by decide) (by decide) (by decide) (by decide)]
  exact ⟨by omega, hK.2⟩
theorem cp_K.fr {G : mp_G} {h h' : mp_H} {P : Nat} (hK : cp_K G h P) (hf : mp_fr (cp_A P) h h') : cp_K G h' P := hK.gr (by intro i a b c d e; unfold cp_A; omega) (mp_gr.of hf)
theorem cp_K.st {G : mp_G} {h : mp_H} {P o i : Nat} {v : Value} (hK : cp_K G h P) (hc : cp_A P o i) : cp_K G (mp_set h o i v) P := hK.fr (mp_fr.rf.set hc)
/-- an operation's address, or null -/
def cp_r (G : mp_G) (ad : Nat → Nat) : Option Nat → Value
  | none => .null
  | some p => .ref (G.1 + ad p)
def cp_o (G : mp_G) (h : mp_H) (O : pq_O) (ad : Nat → Nat) (k : Nat) : Prop := (41 ≤ ad k ∧ ad k < h.2.2) ∧ h.2.1 (ad k) 0 = .int (nI k) ∧ h.2.1 (ad k) 1 = .int (nI (pq_tm O k)) ∧ h.2.1 (ad k) 2 = .int (nI (pq_id O k)) ∧
  (pq_so O k = 0 → h.1 (ad k) = (2, 5) ∧ h.2.1 (ad k) 3 = .int (pq_le O k) ∧ h.2.1 (ad k) 4 = cp_r G ad (pq_fi O k)) ∧
  (pq_so O k = 1 → h.1 (ad k) = (3, 4) ∧ h.2.1 (ad k) 3 = cp_r G ad (pq_fi O k)) ∧
  (pq_so O k = 2 → h.1 (ad k) = (4, 8) ∧ h.2.1 (ad k) 3 = .int (nI (pq_wh O k % 2)) ∧ h.2.1 (ad k) 4 = .int (nI (2 ^ (pq_wh O k / 2))) ∧ h.2.1 (ad k) 5 = .int (nI (if pq_wh O k < 4 then 0 else 1)) ∧ h.2.1 (ad k) 6 = cp_r G ad (pq_fi O k) ∧ h.2.1 (ad k) 7 = cp_r G ad (pq_en O k))
def cp_O (G : mp_G) (h : mp_H) (M : Nat) (O : pq_O) (ad : Nat → Nat) : Prop := ∀ k, k < M → cp_o G h O ad k
theorem cp_o.gr {G : mp_G} {h h' : mp_H} {O : pq_O} {ad : Nat → Nat} {k : Nat} (hO : cp_o G h O ad k) {A : Nat → Nat → Prop} (hA : ∀ o i, 41 ≤ o → ¬ A o i) (hf : mp_gr A h h') : cp_o G h' O ad k := by
  obtain ⟨⟨a, b⟩, c⟩ := hO
  obtain ⟨e1, e2, e3⟩ := hf
  unfold cp_o
  rw [e2 _ b]
  simp only [fun i => e3 (ad k) i b (hA _ i a)]
  exact ⟨⟨a, by omega⟩, c⟩
theorem cp_O.gr {G : mp_G} {h h' : mp_H} {M : Nat} {O : pq_O} {ad : Nat → Nat} (hO : cp_O G h M O ad) {A : Nat → Nat → Prop} (hA : ∀ o i, 41 ≤ o → ¬ A o i) (hf : mp_gr A h h') : cp_O G h' M O ad := fun k hk => (hO k hk).gr hA hf
theorem cp_O.fr {G : mp_G} {h h' : mp_H} {M P : Nat} {O : pq_O} {ad : Nat → Nat} (hO : cp_O G h M O ad) (hP : P + 8 ≤ 41) (hf : mp_fr (cp_A P) h h') : cp_O G h' M O ad := hO.gr (by intro o i ho; unfold cp_A; omega) (mp_gr.of hf)
/-- the parts of what a page holds -/
def cp_knw (G : mp_G) (h : mp_H) (ad : Nat → Nat) (P : Nat) (kn : Nat → Nat) (c : Nat) : Prop := h.2.1 P 1 = .int (nI c) ∧ (∀ i, i < c → h.2.1 (P + 1) i = .ref (G.1 + ad (kn i))) ∧ ∀ k, k < 90 → h.2.1 (P + 5) k = .int (rm_b (pq_kw kn c k))
def cp_row (G : mp_G) (h : mp_H) (ad : Nat → Nat) (P : Nat) (r : List Nat) : Prop := h.2.1 P 4 = .int (nI r.length) ∧ ∀ i x, r[i]? = some x → h.2.1 (P + 2) i = .ref (G.1 + ad x) ∧ h.2.1 (P + 7) x = .int (nI i)
def cp_txt (G : mp_G) (h : mp_H) (ad : Nat → Nat) (P : Nat) (t : List Nat) : Prop := h.2.1 P 6 = .int (nI t.length) ∧ ∀ i x, t[i]? = some x → h.2.1 (P + 3) i = .ref (G.1 + ad x)
def cp_mks (G : mp_G) (h : mp_H) (ad : Nat → Nat) (P : Nat) (m : List Nat) : Prop := h.2.1 P 8 = .int (nI m.length) ∧ ∀ i x, m[i]? = some x → h.2.1 (P + 4) i = .ref (G.1 + ad x)
def cp_gon (h : mp_H) (P : Nat) (g : Nat → Bool) : Prop := ∀ k, k < 90 → h.2.1 (P + 6) k = .int (rm_b (g k))
def cp_P (G : mp_G) (h : mp_H) (O : pq_O) (ad : Nat → Nat) (P : Nat) (kn : Nat → Nat) (c : Nat) : Prop := cp_knw G h ad P kn c ∧ h.2.1 P 2 = .int (nI (pq_mx O kn c)) ∧ cp_row G h ad P (pq_row O kn c) ∧ cp_gon h P (pq_gn O kn c) ∧ cp_mks G h ad P (pq_mk O kn c) ∧ cp_txt G h ad P (pq_tx O kn c)
/-- nothing of the page was written -/
theorem cp_P.gr {G : mp_G} {h h' : mp_H} {O : pq_O} {ad : Nat → Nat} {P : Nat} {kn : Nat → Nat} {c : Nat} (hP : cp_P G h O ad P kn c) (hs : P + 8 ≤ h.2.2) {A : Nat → Nat → Prop} (hA : ∀ o i, P ≤ o → o ≤ P + 7 → ¬ A o i) (hf : mp_gr A h h') : cp_P G h' O ad P kn c := by
  obtain ⟨e1, e2, e3⟩ := hf
  have q : ∀ o, P ≤ o → o ≤ P + 7 → h'.2.1 o = h.2.1 o := fun o a b => funext fun i => e3 o i (by omega) (hA o i a b)
  unfold cp_P cp_knw cp_row cp_gon cp_mks cp_txt at hP ⊢
  rw [q P (by omega) (by omega), q (P + 1) (by omega) (by omega), q (P + 2) (by omega) (by omega), q (P + 3) (by omega) (by omega), q (P + 4) (by omega) (by omega), q (P + 5) (by omega) (by omega), q (P + 6) (by omega) (by omega), q (P + 7) (by omega) (by omega)]
  exact hP
theorem rm_idxOf {l : List Nat} {i x : Nat} (hn : l.Nodup) (h : l[i]? = some x) : l.idxOf x = i := by
  obtain ⟨hi, he⟩ := List.getElem?_eq_some_iff.mp h
  rw [← he]
  exact hn.idxOf_getElem i hi
theorem cp_row.pl {G : mp_G} {h : mp_H} {ad : Nat → Nat} {P : Nat} {r : List Nat} (hr : cp_row G h ad P r) {x : Nat} (hx : x ∈ r) : h.2.1 (P + 7) x = .int (nI (r.idxOf x)) := (hr.2 _ _ (rm_idx hx)).2
