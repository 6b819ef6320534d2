/-! From the law's entry. -/
theorem lw_nc {args : Array Value} {s : State} {a b : String} {c t : ClassId} (h : (Cond.not (.castable a b)).before args s = true) (ha : s.vm.findClass a = some c) (hb : s.vm.findClass b = some t) : s.vm.assignable c t = false := by
  simp only [Cond.before, Cond.holds, Cond.value] at h
  simpa [ha, hb] using h
theorem lw_arrP {args : Array Value} {s : State} {ty : FieldType} (h : (Cond.arrayClass ty).before args s = true) : ∃ cA, ArrOfT s cA ty ∧ s.vm.findClass ("[" ++ ty.toString) = some cA := by
  obtain ⟨cA, kA, comp, hfind, hk, hkind⟩ := Cond.arrayClass_spec h
  exact ⟨cA, fun n z => ⟨fun k h => (by cases h), kA, hk, comp, hkind⟩, hfind⟩
theorem lw_arrO {args : Array Value} {s : State} {C : String} (h : (Cond.arrayOver (.object C)).before args s = true) : ∃ cA, ArrOfT s cA (.object C) ∧ va_RA s cA (.object C) := by
  obtain ⟨comp, c, k, h1, h2, h3, h4, h5⟩ := Cond.arrayOver_spec h
  exact ⟨c, fun n z => ⟨fun k h => (by cases h), k, h3, comp, h4⟩, k, comp, h3, h4, h1, h5⟩
def lw_6 {α : Type} (a b c d e f : α) : Nat → α
  | 0 => a
  | 1 => b
  | 2 => c
  | 3 => d
  | 4 => e
  | _ => f
theorem lw_K {args : Array Value} {s : State} (hts : ∀ w ∈ lw_tbl, w.before args s = true) (hgv : (Jvm.Cond.and given_1 narrow_1).before args s = true) : ∃ G : mp_G, G.1 = s.heap.size ∧ G.2.1 = s.heap ∧ mp_K G s := by
  have hT : ∀ w ∈ mp_Ts, w.before args s = true := fun w hw => hts w (List.mem_filter.mp hw).1
  have hf := flat_of_before _ hgv
  obtain ⟨c0, i0, u0⟩ := u_known hT ws_M (hT _ wd_32)
  obtain ⟨c1, i1, u1⟩ := u_known hT ws_P (hT _ wd_41)
  obtain ⟨c2, i2, u2⟩ := u_known hT ws_W (hT _ wd_225)
  obtain ⟨c3, i3, u3⟩ := u_known hT ws_E (hT _ wd_320)
  obtain ⟨c4, i4, u4⟩ := u_known hT ws_K (hT _ wd_343)
  obtain ⟨c5, i5, u5⟩ := u_known hT ws_R (hT _ wd_456)
  obtain ⟨a0, b0, d0⟩ := lw_arrP (hT _ wd_99)
  obtain ⟨a1, b1, d1⟩ := lw_arrP (hT _ wd_98)
  obtain ⟨a2, b2, d2⟩ := lw_arrP (hT _ wd_513)
  obtain ⟨a3, b3, d3⟩ := lw_arrP (hT _ wd_609)
  obtain ⟨a4, b4, d4⟩ := lw_arrO (hT _ wd_40)
  obtain ⟨a5, b5, d5⟩ := lw_arrO (hT _ wd_47)
  obtain ⟨a6, b6, d6⟩ := lw_arrO (hT _ wd_49)
  obtain ⟨a7, b7, d7⟩ := lw_arrO (hT _ wd_51)
  obtain ⟨x0, -, f0, -⟩ := Cond.instantiable_spec (hT _ wd_125)
  obtain ⟨x1, -, f1, -⟩ := Cond.instantiable_spec (hT _ wd_191)
  obtain ⟨x2, -, f2, -⟩ := Cond.instantiable_spec (hT _ wd_210)
  refine ⟨(s.heap.size, s.heap, (lw_6 c0 c1 c2 c3 c4 c5, lw_6 i0 i1 i2 i3 i4 i5), (fun t => if t < 5 then lw_6 a0 a1 a2 a3 a4 a4 t else lw_6 a5 a6 a7 a7 a7 a7 (t - 5)), lw_6 x0 x1 x2 x2 x2 x2), rfl, rfl, ⟨?_, ?_⟩, ?_, ⟨rfl, ?_⟩, ?_⟩
  · intro c q hq
    rcases c with _ | _ | _ | _ | _ | _ | c
    · cases hq; exact u0
    · cases hq; exact u1
    · cases hq; exact u2
    · cases hq; exact u3
    · cases hq; exact u4
    · cases hq; exact u5
    · cases hq
  · intro c q hq
    rcases c with _ | _ | _ | _ | _ | _ | _ | _ | c
    · cases hq; exact ⟨b0, d0⟩
    · cases hq; exact ⟨b1, d1⟩
    · cases hq; exact ⟨b2, d2⟩
    · cases hq; exact ⟨b3, d3⟩
    · cases hq; exact ⟨b4, d4⟩
    · cases hq; exact ⟨b5, d5⟩
    · cases hq; exact ⟨b6, d6⟩
    · cases hq; exact ⟨b7, d7⟩
    · cases hq
  · intro x hx
    rcases x with _ | _ | _ | x
    · exact f0
    · exact f1
    · exact f2
    · omega
  · intro w hw
    simp only [mp_xw, List.mem_cons, List.not_mem_nil, or_false] at hw
    rcases hw with rfl | rfl | rfl | rfl
    · have h9 := hf (.isRef (.static "java/lang/Throwable" "UNASSIGNED_STACK" "[Ljava/lang/StackTraceElement;")) (by decide +kernel)
      exact h9
    · have h9 := hf (.isRef (.static "java/lang/Throwable" "SUPPRESSED_SENTINEL" "Ljava/util/List;")) (by decide +kernel)
      exact h9
    · have h9 := hts (.laysStatic "java/lang/Throwable" "UNASSIGNED_STACK" "[Ljava/lang/StackTraceElement;") (List.mem_of_getElem? (i := 151) (by decide +kernel))
      exact h9
    · have h9 := hts (.laysStatic "java/lang/Throwable" "SUPPRESSED_SENTINEL" "Ljava/util/List;") (List.mem_of_getElem? (i := 153) (by decide +kernel))
      exact h9
  · intro x z hx hz hn
    rcases x with _ | _ | _ | x
    · rcases z with _ | _ | _ | z
      · exact absurd rfl hn
      · exact lw_nc (hf _ (by decide +kernel)) f0 f1
      · exact lw_nc (hf _ (by decide +kernel)) f0 f2
      · omega
    · rcases z with _ | _ | _ | z
      · exact lw_nc (hf _ (by decide +kernel)) f1 f0
      · exact absurd rfl hn
      · exact lw_nc (hf _ (by decide +kernel)) f1 f2
      · omega
    · rcases z with _ | _ | _ | z
      · exact lw_nc (hf _ (by decide +kernel)) f2 f0
      · exact lw_nc (hf _ (by decide +kernel)) f2 f1
      · exact absurd rfl hn
      · omega
    · omega
set_option maxRecDepth 100000 in
set_option maxHeartbeats 4000000 in
/-- the law's walk, from its first instruction -/
theorem lw_body {G : mp_G} {E : mp_E} {b n : Nat} {xs : Nat → Int32} {rt : Option FieldType} {hh : List (Nat × Nat × Nat × Nat)} {Q : State → Prop} (X : mp_C G mp_Ts E y_L_law c_L_law 7 rt hh 10 601024 7293034) (hl0 : E.l.stackTraces = false) (hs : lw_scr G E b n xs) (hn : n ≤ 2560)
    (hend : ∀ (g : mp_H) (cs sl : Nat) (L : List Slot), cs ≤ 601024 → sl ≤ 7293034 → mp_W G E g cs sl Q 968 L [.int (nI 1)]) {h : mp_H} (h0 : h.2.2 = 0) :
    mp_W G E h 0 0 Q 0 [.val (.ref b), .unset, .unset, .unset, .unset, .unset, .unset] [] := by
  refine mp_newo X 3 ln_L_8 d_L_law_0 rfl (by decide) (by decide) ?_
  obtain ⟨g1, e1⟩ : ∃ z, z = mp_new h 0 2 (fun k => defaultValue (nF_M k)) := ⟨_, rfl⟩
  rw [← e1, h0]
  have z1 : g1.2.2 = 1 := by rw [e1]; show h.2.2 + 1 = 1; omega
  have k1 : g1.1 0 = (0, 2) := by rw [e1]; show (if 0 = h.2.2 then _ else _) = _; rw [if_pos h0.symm]
  refine mp_dup X 4 d_L_law_3 rfl rfl ?_
  refine mp_call X mp_Ts_ok 7 (rest := [.ref (G.1 + 0)]) (k_M_init _ z1 k1) Y_M_init in_M (mp_II X d_L_law_4 rfl wd_35 ml_L_58 im_M_init (by decide) (by show _ = some 0; decide)) rfl (by decide) (by decide) (by decide) (by decide) rfl (Nat.le_of_ble_eq_true rfl) (fun v g2 hp => ?_) (fun x g2 q hp => hp.elim)
  obtain ⟨rfl, z2, c2⟩ := hp
  refine mp_eq rfl rfl (st2 := [.ref (G.1 + 0)]) rfl ?_
  refine mp_astore_n X 8 (L' := [.val (.ref b), .val (.ref (G.1 + 0)), .unset, .unset, .unset, .unset, .unset]) d_L_law_7 rfl rfl rfl rfl rfl ?_
  refine mp_newo X 11 ln_L_59 d_L_law_8 rfl (by decide) (by decide) ?_
  obtain ⟨g3, e3⟩ : ∃ z, z = mp_new g2 5 17 (fun k => defaultValue (nF_R k)) := ⟨_, rfl⟩
  rw [← e3, z2]
  have z3 : g3.2.2 = 27 := by rw [e3]; show g2.2.2 + 1 = 27; omega
  have k3 : ∀ a, g3.1 a = if a = 26 then (5, 17) else g2.1 a := by intro a; rw [e3, ← z2]; rfl
  have r3 : ∀ a i, g3.2.1 a i = if a = 26 then defaultValue (nF_R i) else g2.2.1 a i := by intro a i; rw [e3, ← z2]; rfl
  refine mp_dup X 12 d_L_law_11 rfl rfl ?_
  refine mp_call X mp_Ts_ok 15 (rest := [.ref (G.1 + 26)]) (k_R_init _ z3 (by rw [k3, if_pos rfl]) (by rw [r3, if_pos rfl]; rfl) (by rw [r3, if_pos rfl]; rfl)) Y_R_init in_R (mp_II X d_L_law_12 rfl wd_459 ml_L_61 im_R_init (by decide) (by show _ = some 0; decide)) rfl (by decide) (by decide) (by decide) (by decide) rfl (Nat.le_of_ble_eq_true rfl) (fun v g4 hp => ?_) (fun x g4 q hp => hp.elim)
  obtain ⟨rfl, z4, o4, c4⟩ := hp
  refine mp_eq rfl rfl (st2 := [.ref (G.1 + 26)]) rfl ?_
  refine mp_astore_n X 16 (L' := [.val (.ref b), .val (.ref (G.1 + 0)), .val (.ref (G.1 + 26)), .unset, .unset, .unset, .unset]) d_L_law_15 rfl rfl rfl rfl rfl ?_
  refine mp_iconst X 17 (v := nI 1) d_L_law_16 rfl (by decide) ?_
  refine mp_newa X 19 (t := 3) (n := 1) (v0 := .long 0) (by decide) rfl wd_609 rfl d_L_law_17 rfl rfl (by decide) (by decide) (by decide) ?_
  obtain ⟨g5, e5⟩ : ∃ z, z = mp_new g4 (10 + 3) 1 (fun _ => .long 0) := ⟨_, rfl⟩
  rw [← e5, z4]
  have z5 : g5.2.2 = 41 := by rw [e5]; show g4.2.2 + 1 = 41; omega
  have k5 : ∀ a, g5.1 a = if a = 40 then (13, 1) else g4.1 a := by intro a; rw [e5, ← z4]; rfl
  have r5 : ∀ a i, g5.2.1 a i = if a = 40 then .long 0 else g4.2.1 a i := by intro a i; rw [e5, ← z4]; rfl
  refine mp_astore_n X 20 (L' := [.val (.ref b), .val (.ref (G.1 + 0)), .val (.ref (G.1 + 26)), .val (.ref (G.1 + 40)), .unset, .unset, .unset]) d_L_law_19 rfl rfl rfl rfl rfl ?_
  refine mp_iconst X 21 (v := nI 0) d_L_law_20 rfl (by decide) ?_
  refine mp_istore X 23 (L' := [.val (.ref b), .val (.ref (G.1 + 0)), .val (.ref (G.1 + 26)), .val (.ref (G.1 + 40)), .val (.int (nI 0)), .unset, .unset]) d_L_law_21 rfl rfl rfl rfl ?_
  obtain ⟨hK, hR⟩ := c4 g5 (by omega) (fun o h1 h2 => ⟨by rw [k5, if_neg (by omega)], by funext i; rw [r5, if_neg (by omega)]⟩)
  have hM := c2 g5 (fun _ => 0) (by omega) (fun o ho => ⟨by rw [k5, if_neg (by omega), (o4 o ho).1, k3, if_neg (by omega)], by funext i; rw [r5, if_neg (by omega), (o4 o ho).2, r3, if_neg (by omega)]⟩)
  exact lw_loop X hl0 hs hn hend 512 0 g5 sp_0 .unset .unset (by omega) (Nat.zero_le _) rfl rfl ⟨sp_g0, ⟨_, hM⟩, hK, hR, by rw [k5, if_pos rfl]⟩
