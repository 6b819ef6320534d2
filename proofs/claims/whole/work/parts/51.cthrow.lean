/-! The three refusals. -/
def mp_cov (w : Cond) : Bool := decide (w ∈ mp_Ts) || decide (w ∈ mp_xw)
theorem mp_cov_of {ws : List Cond} (h : ws.all mp_cov = true) : ∀ w ∈ ws, w ∈ mp_Ts ∨ w ∈ mp_xw := by
  intro w hw
  have := List.all_eq_true.mp h w hw
  unfold mp_cov at this
  rw [Bool.or_eq_true, decide_eq_true_eq, decide_eq_true_eq] at this
  exact this
theorem at_M_0 : ∀ w ∈ Bundle.ownAtoms0 "MarkedPages" 131 (mp_xn 0) ["java/lang/RuntimeException", "java/lang/Exception"], w ∈ mp_Ts ∨ w ∈ mp_xw := mp_cov_of (by decide +kernel)
theorem at_M_1 : ∀ w ∈ Bundle.ownAtoms0 "MarkedPages" 134 (mp_xn 1) ["java/lang/RuntimeException", "java/lang/Exception"], w ∈ mp_Ts ∨ w ∈ mp_xw := mp_cov_of (by decide +kernel)
theorem at_M_2 : ∀ w ∈ Bundle.ownAtoms0 "MarkedPages" 128 (mp_xn 2) ["java/lang/RuntimeException", "java/lang/Exception"], w ∈ mp_Ts ∨ w ∈ mp_xw := mp_cov_of (by decide +kernel)
/-- a getfield where nothing has changed yet -/
theorem mp_getfW {G : mp_G} {Ts : List Cond} {E : mp_E} {y : MethodName} {cc : ByteArray} {nL : Nat} {rt : Option FieldType} {hh : List (Nat × Nat × Nat × Nat)} {d mc ms : Nat} {h : mp_H} {cs sl : Nat} {Q : State → Prop} {pc : Nat} {L : List Slot} {st : List Value} {H : Heap} {locs : List Loc} (X : mp_C G Ts E y cc nL rt hh d mc ms) {index ci N k o : Nat} {v : Value} (hL : mp_L Ts y.cls index ci N k) (hd : decode cc pc = .ok (.getfield index, 3)) (ho : o < h.2.2) (hkd : h.1 o = (ci, N)) (hv : h.2.1 o k = v) (hR : mp_R G h H)
    (kk : W E.p E.l E.e E.R E.s E.m E.args E.below E.meth E.c H locs cs sl Q (F0 E.m (pc + 3) L.toArray (v :: st))) : W E.p E.l E.e E.R E.s E.m E.args E.below E.meth E.c H locs cs sl Q (F0 E.m pc L.toArray (.ref (G.1 + o) :: st)) := by
  obtain ⟨hci, hk, C, T, ref, hc, hin, hlk, hsm⟩ := hL
  have hcell := hR.2.2 o ho
  rw [hkd] at hcell
  obtain ⟨cell, q1, q2, q3, q4⟩ := hcell.obj hci
  obtain ⟨hS, hfc, kC, hkC, hkind⟩ := X.K.1.1 ci _ hc
  obtain ⟨cf, kf, fi, f, hi, hsl⟩ := hS k hk
  refine W.getf X.1 X.2.1 X.own (X.hts _ hlk) (mp_same X.hts hsm hi) (u_facts hfc hkC (u_lays X.hts hin hk) hi).1 q1 (by rw [q3]; exact fun q => by cases q) (v := v) ?_ rfl rfl hd kk
  rw [hsl, q4 k hk, hv]
/-- a fresh exception and nothing else -/
def mp_nx (h : mp_H) (x : Nat) : mp_H := mp_new h (20 + x) 0 (fun _ => .null)
theorem k_M_raT (l : Launch) {G : mp_G} {h : mp_H} : mp_M G mp_Ts l y_M_refuseArgumentUnless 0 0 0 [.int (nI 1)] h (fun v h' => h' = h ∧ v = none) (fun _ _ => False) := by
  refine mp_enter (by decide) Y_M_refuseArgumentUnless fun E hl X => ?_
  refine mp_eq rfl (L2 := [.val (.int (nI 1))]) rfl rfl ?_
  refine mp_iload_n X 1 d_M_refuseArgumentUnless_0 rfl rfl rfl ?_
  refine mp_Zne X 12 4 d_M_refuseArgumentUnless_1 (by decide) rfl (by omega) (fun q1 => ?_) (fun q1 => by omega)
  exact mp_vret X d_M_refuseArgumentUnless_12 rfl (by decide) (by decide) ⟨rfl, rfl⟩
theorem k_M_riT (l : Launch) {G : mp_G} {h : mp_H} : mp_M G mp_Ts l y_M_refuseIndexUnless 0 0 0 [.int (nI 1)] h (fun v h' => h' = h ∧ v = none) (fun _ _ => False) := by
  refine mp_enter (by decide) Y_M_refuseIndexUnless fun E hl X => ?_
  refine mp_eq rfl (L2 := [.val (.int (nI 1))]) rfl rfl ?_
  refine mp_iload_n X 1 d_M_refuseIndexUnless_0 rfl rfl rfl ?_
  refine mp_Zne X 12 4 d_M_refuseIndexUnless_1 (by decide) rfl (by omega) (fun q1 => ?_) (fun q1 => by omega)
  exact mp_vret X d_M_refuseIndexUnless_12 rfl (by decide) (by decide) ⟨rfl, rfl⟩
theorem k_M_raF {l : Launch} (hl0 : l.stackTraces = false) {G : mp_G} {h : mp_H} : mp_M G mp_Ts l y_M_refuseArgumentUnless 6 1 6 [.int (nI 0)] h (fun _ _ => False) (fun x h' => x = 0 ∧ h' = mp_nx h 0) := by
  refine mp_enter0 (by decide) Y_M_refuseArgumentUnless fun E hl X hR => ?_
  refine lv_iload_n X.1 X.2.1 d_M_refuseArgumentUnless_0 rfl (x := nI 0) rfl ?_
  refine lv_if_ne X.1 X.2.1 d_M_refuseArgumentUnless_1 (tgt := 12) (by decide) (fun q => absurd rfl q) (fun q => ?_)
  exact mp_throw X (by rw [hl]; exact hl0) (x := 0) (by decide) d_M_refuseArgumentUnless_4 d_M_refuseArgumentUnless_7 d_M_refuseArgumentUnless_8 d_M_refuseArgumentUnless_11 cl_M_129 wd_125 wd_23 at_M_0 (by decide) (by decide) (by decide) rfl hR ⟨rfl, rfl⟩
theorem k_M_riF {l : Launch} (hl0 : l.stackTraces = false) {G : mp_G} {h : mp_H} : mp_M G mp_Ts l y_M_refuseIndexUnless 6 1 6 [.int (nI 0)] h (fun _ _ => False) (fun x h' => x = 1 ∧ h' = mp_nx h 1) := by
  refine mp_enter0 (by decide) Y_M_refuseIndexUnless fun E hl X hR => ?_
  refine lv_iload_n X.1 X.2.1 d_M_refuseIndexUnless_0 rfl (x := nI 0) rfl ?_
  refine lv_if_ne X.1 X.2.1 d_M_refuseIndexUnless_1 (tgt := 12) (by decide) (fun q => absurd rfl q) (fun q => ?_)
  exact mp_throw X (by rw [hl]; exact hl0) (x := 1) (by decide) d_M_refuseIndexUnless_4 d_M_refuseIndexUnless_7 d_M_refuseIndexUnless_8 d_M_refuseIndexUnless_11 cl_M_132 wd_191 wd_24 at_M_1 (by decide) (by decide) (by decide) rfl hR ⟨rfl, rfl⟩
theorem k_M_rwT (l : Launch) {G : mp_G} {h : mp_H} {n : Nat} (hs : 0 < h.2.2) (hk : h.1 0 = (0, 2)) (hm : h.2.1 0 1 = .int (nI n)) (hn : n < 90) : mp_M G mp_Ts l y_M_refuseWhenAllAreMade 0 0 0 [.ref (G.1 + 0)] h (fun v h' => h' = h ∧ v = none) (fun _ _ => False) := by
  refine mp_enter (by decide) Y_M_refuseWhenAllAreMade fun E hl X => ?_
  refine mp_eq rfl (L2 := [.val (.ref (G.1 + 0))]) rfl rfl ?_
  refine mp_aload_n X 1 d_M_refuseWhenAllAreMade_0 rfl rfl rfl ?_
  refine mp_getf (v := .int (nI n)) X 4 lk_M_16_M d_M_refuseWhenAllAreMade_1 rfl hs hk hm ?_
  refine mp_bipush X 6 (v := nI 90) d_M_refuseWhenAllAreMade_4 rfl (by decide) ?_
  refine mp_Nlt X 17 9 d_M_refuseWhenAllAreMade_6 (by decide) rfl (by omega) (by omega) (fun q1 => ?_) (fun q1 => by omega)
  exact mp_vret X d_M_refuseWhenAllAreMade_17 rfl (by decide) (by decide) ⟨rfl, rfl⟩
theorem k_M_rwF {l : Launch} (hl0 : l.stackTraces = false) {G : mp_G} {h : mp_H} (hs : 0 < h.2.2) (hk : h.1 0 = (0, 2)) (hm : h.2.1 0 1 = .int (nI 90)) : mp_M G mp_Ts l y_M_refuseWhenAllAreMade 6 1 6 [.ref (G.1 + 0)] h (fun _ _ => False) (fun x h' => x = 2 ∧ h' = mp_nx h 2) := by
  refine mp_enter0 (by decide) Y_M_refuseWhenAllAreMade fun E hl X hR => ?_
  refine lv_aload_n X.1 X.2.1 d_M_refuseWhenAllAreMade_0 rfl (x := G.1 + 0) rfl ?_
  refine mp_getfW (v := .int (nI 90)) (pc := 1) (L := [.val (.ref (G.1 + 0))]) X lk_M_16_M d_M_refuseWhenAllAreMade_1 hs hk hm hR ?_
  refine lv_bipush X.1 X.2.1 d_M_refuseWhenAllAreMade_4 (v := nI 90) (by decide) ?_
  refine lv_icmp_lt X.1 X.2.1 d_M_refuseWhenAllAreMade_6 (tgt := 17) (by decide) (fun q => absurd q (by decide)) (fun q => ?_)
  exact mp_throw (pc := 9) (L := [.val (.ref (G.1 + 0))]) X (by rw [hl]; exact hl0) (x := 2) (by decide) d_M_refuseWhenAllAreMade_9 d_M_refuseWhenAllAreMade_12 d_M_refuseWhenAllAreMade_13 d_M_refuseWhenAllAreMade_16 cl_M_126 wd_210 wd_25 at_M_2 (by decide) (by decide) (by decide) rfl hR ⟨rfl, rfl⟩
