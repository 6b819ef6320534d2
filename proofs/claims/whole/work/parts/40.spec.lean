/-! What each call answers and does: code (0: it returns), answer, state. -/
def sp_ix (n : Nat) (x : Int32) : Option Nat := if 0 ≤ x.toInt ∧ x.toInt < (n : Int) then some x.toInt.toNat else none
theorem sp_ix_of {n j : Nat} (hj : j < n) (hn : n < 2 ^ 31) : sp_ix n (nI j) = some j := by
  unfold sp_ix
  rw [nI_toInt (by omega), if_pos (by omega)]
  simp
theorem sp_ix_some {n j : Nat} {x : Int32} (h : sp_ix n x = some j) (hn : n < 2 ^ 31) : j < n ∧ x = nI j := by
  unfold sp_ix at h
  split at h
  · rename_i hc
    cases h
    refine ⟨by omega, ?_⟩
    apply Int32.toInt_inj.mp
    rw [nI_toInt (by omega)]
    omega
  · cases h
theorem sp_ix_none {n : Nat} {x : Int32} (hn : n < 2 ^ 31) (h : ∀ j, j < n → x ≠ nI j) : sp_ix n x = none := by
  cases hx : sp_ix n x with
  | none => rfl
  | some j => obtain ⟨h1, h2⟩ := sp_ix_some hx hn; exact absurd h2 (h j h1)
theorem sp_ix_neg {n : Nat} {x : Int32} (h : x < 0) : sp_ix n x = none := by
  unfold sp_ix
  rw [if_neg]
  intro hc
  have := Int32.lt_iff_toInt_lt.mp h
  have e : (0 : Int32).toInt = 0 := by decide
  omega
theorem sp_ix_big {n j : Nat} (h : n ≤ j) (hj : j < 2 ^ 31) : sp_ix n (nI j) = none := by
  unfold sp_ix
  rw [nI_toInt hj, if_neg (by omega)]
abbrev sp_R : Type := Nat × Int32 × pq_S
abbrev sp_mx (S : pq_S) (j : Nat) : Nat := pq_mx S.2.1 (S.2.2.1 j) (S.2.2.2 j)
abbrev sp_mk (S : pq_S) (j : Nat) : List Nat := pq_mk S.2.1 (S.2.2.1 j) (S.2.2.2 j)
def sp_new (S : pq_S) (j so : Nat) (fi en : Option Nat) (wh : Nat) (le : Int32) : pq_S := pq_lrn (pq_add S (so, 1 + sp_mx S j, j, fi, en, wh, le)) j S.1
abbrev sp_t (S : pq_S) (j q : Nat) : Nat := (rm_T S j).getD q 0
def sp_fm (S : pq_S) (j q : Nat) : Nat := pq_fm S.2.1 (rm_F S j) (sp_t S j q) (sp_mk S j)
def sp_write (S : pq_S) (x p c : Int32) : sp_R := match sp_ix 3 x with
  | none => (1, 0, S)
  | some j => match sp_ix ((rm_T S j).length + 1) p with
    | none => (2, 0, S)
    | some q => if S.1 = 90 then (3, 0, S) else (0, nI (1 + sp_mx S j), sp_new S j 0 (if q = 0 then none else some (sp_t S j (q - 1))) none 0 c)
def sp_erase (S : pq_S) (x p : Int32) : sp_R := match sp_ix 3 x with
  | none => (1, 0, S)
  | some j => match sp_ix (rm_T S j).length p with
    | none => (2, 0, S)
    | some q => if S.1 = 90 then (3, 0, S) else (0, pq_le S.2.1 (sp_t S j q), sp_new S j 1 (some (sp_t S j q)) none 0 0)
def sp_mark (S : pq_S) (x f t w : Int32) : sp_R := match sp_ix 3 x, sp_ix 8 w with
  | none, _ => (1, 0, S)
  | some _, none => (1, 0, S)
  | some j, some k => match sp_ix (rm_T S j).length f, sp_ix ((rm_T S j).length + 1) t with
    | none, _ => (2, 0, S)
    | some _, none => (2, 0, S)
    | some a, some b => if b ≤ a then (2, 0, S) else if S.1 = 90 then (3, 0, S) else
      (0, nI (1 + sp_mx S j), sp_new S j 2 (some (sp_t S j a)) (if 3 < k then some (sp_t S j (b - 1)) else if b < (rm_T S j).length then some (sp_t S j b) else none) k 0)
def sp_tl (S : pq_S) (a b n : Nat) : Nat → pq_S × Nat
  | 0 => (S, 0)
  | i + 1 => if (sp_tl S a b n i).2 < n ∧ pq_kw ((sp_tl S a b n i).1.2.2.1 b) ((sp_tl S a b n i).1.2.2.2 b) (S.2.2.1 a i) = false then (pq_lrn (sp_tl S a b n i).1 b (S.2.2.1 a i), (sp_tl S a b n i).2 + 1) else sp_tl S a b n i
def sp_tell (S : pq_S) (x y n : Int32) : sp_R := match sp_ix 3 x, sp_ix 3 y with
  | none, _ => (1, 0, S)
  | some _, none => (1, 0, S)
  | some a, some b => if n < 0 then (1, 0, S) else (0, nI (sp_tl S a b n.toInt.toNat (S.2.2.2 a)).2, (sp_tl S a b n.toInt.toNat (S.2.2.2 a)).1)
def sp_length (S : pq_S) (x : Int32) : sp_R := match sp_ix 3 x with
  | none => (1, 0, S)
  | some j => (0, nI (rm_T S j).length, S)
def sp_get (g : Nat → Nat → Int32) (S : pq_S) (x p : Int32) : sp_R := match sp_ix 3 x with
  | none => (1, 0, S)
  | some j => match sp_ix (rm_T S j).length p with
    | none => (2, 0, S)
    | some q => (0, g j q, S)
def sp_at (S : pq_S) : Int32 → Int32 → sp_R := sp_get (fun j q => pq_le S.2.1 (sp_t S j q)) S
def sp_format (S : pq_S) : Int32 → Int32 → sp_R := sp_get (fun j q => nI (sp_fm S j q)) S
def sp_id (S : pq_S) : Int32 → Int32 → sp_R := sp_get (fun j q => nI (pq_id S.2.1 (sp_t S j q))) S
def sp_runs (S : pq_S) (x : Int32) : sp_R := match sp_ix 3 x with
  | none => (1, 0, S)
  | some j => (0, nI (pq_ru (sp_fm S j) (rm_T S j).length), S)
def sp_run (S : pq_S) (x k w : Int32) : sp_R := match sp_ix 3 x, sp_ix 3 w with
  | none, _ => (1, 0, S)
  | some _, none => (1, 0, S)
  | some j, some v => match sp_ix (pq_ru (sp_fm S j) (rm_T S j).length) k with
    | none => (2, 0, S)
    | some r => (0, nI (if v = 0 then pq_sr (sp_fm S j) r (rm_T S j).length else if v = 1 then pq_sr (sp_fm S j) (r + 1) (rm_T S j).length - pq_sr (sp_fm S j) r (rm_T S j).length else sp_fm S j (pq_sr (sp_fm S j) r (rm_T S j).length)), S)
def sp_count (S : pq_S) (x w : Int32) : sp_R := match sp_ix 3 x, sp_ix 4 w with
  | none, _ => (1, 0, S)
  | some _, none => (1, 0, S)
  | some j, some v => (0, nI (if v = 0 then S.2.2.2 j else if v = 1 then sp_mx S j else if v = 2 then (rm_F S j).length else (sp_mk S j).length), S)
def sp_ak (S : pq_S) (a b : Nat) : Nat → Bool
  | 0 => true
  | n + 1 => sp_ak S a b n && (pq_kw (S.2.2.1 a) (S.2.2.2 a) n == pq_kw (S.2.2.1 b) (S.2.2.2 b) n)
def sp_alike (S : pq_S) (x y : Int32) : sp_R := match sp_ix 3 x, sp_ix 3 y with
  | none, _ => (1, 0, S)
  | some _, none => (1, 0, S)
  | some a, some b => (0, rm_b (sp_ak S a b S.1), S)
/-- all that the reference may write -/
def rm_A (o i : Nat) : Prop := (27 ≤ o ∧ o ≤ 39) ∨ (o = 26 ∧ (i = 0 ∨ i = 1 ∨ i = 11 ∨ i = 14))
/-- what a call of the reference comes to -/
def rm_Z (h : mp_H) (r : sp_R) (v : Option Value) (h' : mp_H) : Prop := h'.2.1 26 0 = .int (nI r.1) ∧ rm_S h' r.2.2 ∧ (∃ z, v = some (.int z) ∧ (r.1 = 0 → z = r.2.1)) ∧ mp_fr rm_A h h'
theorem rm_PA' {o i : Nat} (h : rm_P o i) : rm_A o i := by unfold rm_P at h; unfold rm_A; omega
theorem rm_QA {o i : Nat} (h : rm_Q o i) : rm_A o i := rm_PA' (rm_QP h)
theorem rm_WA {o i : Nat} (h : rm_W o i) : rm_A o i := by unfold rm_W at h; unfold rm_A; omega
theorem sp_t_mem {S : pq_S} {j q : Nat} (hq : q < (rm_T S j).length) : (rm_T S j)[q]? = some (sp_t S j q) := by
  unfold sp_t
  rw [List.getD_eq_getElem?_getD, List.getElem?_eq_getElem hq]
  rfl
theorem sp_t_row {S : pq_S} {j q : Nat} (hq : q < (rm_T S j).length) : sp_t S j q ∈ rm_F S j := by
  have h := List.mem_of_getElem? (sp_t_mem hq)
  exact (List.mem_filter.mp h).1
theorem sp_T_len {S : pq_S} {j : Nat} (hok : pq_ok S) (hj : j < 3) : (rm_T S j).length ≤ 90 := by
  have h1 : (rm_T S j).length ≤ S.2.2.2 j := pq_tx_len _ _ _
  have h2 := pq_kn_le (hok.2.2.1 j hj)
  have h3 := hok.1
  omega
theorem rm_K.frA {G : mp_G} {h h' : mp_H} (hK : rm_K G h) (hf : mp_fr rm_A h h') : rm_K G h' := hK.fr rm_A (by intro i a b c d; unfold rm_A; omega) hf
