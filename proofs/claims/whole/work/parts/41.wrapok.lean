/-! ===== the wrappers of the law ===== -/
theorem wf_up0 {α : Type} {a : α} {f : Nat → Int64} {v : Int64} {u : α × (Nat → Int64)} (e : (a, va_up f 0 v) = u) : u.2 0 = v := by rw [← e]; exact va_up_self f 0 v

set_option maxHeartbeats 4000000 in
set_option maxRecDepth 100000 in
theorem c_L_set_ok (l : Launch) (hst : l.stackTraces = false) (D : va_G) (q : Nat → Nat) (κ : Nat → ClassId) (o : Nat) (ko : ClassId) (x : (SX × (Nat → Int64))) (ra : Nat) (hra : ra < 8) (h lo : Int64) (sz : Nat) : Met l y_L_set (.codeWith y_L_set b_L_set 7 (some .int) [(0, 8, 11, 13)] :: wG) (wf_rm 8 200 0 0) (wf_PcO D vwCl (wXO o ko q κ x) (tyXO ko κ) ([.ref (q 0), .int (nI ra), .long (h), .long (lo)]) sz) (va_Qi (fun r v => r = 0 ∧ wf_st x.1 v.1 ra (wf_V h lo) ∧ v.2 = x.2) (wf_B D vwCl (wXO o ko q κ) (tyXO ko κ) (va_A (wXO o ko q κ x) sz)) (va_A (wXO o ko q κ x) sz)) 0 0 (va_A (wXO o ko q κ x) sz) := by
  refine wo_open (by decide) (Nat.le_of_ble_eq_true rfl) ?_
  intro p e s m below meth c ls hsz C hr hlocks htab hAll hP hK hD hl
  subst hsz
  have hx := C.1
  have hb := C.2.1
  have hml := C.2.2.1
  have hown := C.2.2.2.1
  have hts := C.2.2.2.2
  have hA : ∀ j : Nat, s.heap.size ≤ j → va_A (wXO o ko q κ x) s.heap.size j := fun j h => Or.inr h
  have hS : va_S (va_A (wXO o ko q κ x) s.heap.size) s.heap s.heap [] := va_S.rf
  generalize hAe : va_A (wXO o ko q κ x) s.heap.size = A at hA hS hD ⊢
  have hl : lv_has ls 7 [(0, .ref (q 0)), (1, .int (nI ra)), (2, .long (h)), (4, .long (lo))] := hl
  have hPc := hP.sub (ws' := wX q κ x.1) [0, 1, 2, 3, 4] rfl
  have hDc := hD.sub (ws' := wX q κ x.1) [0, 1, 2, 3, 4] (by decide) rfl
  have hKc := hK.sub (tys' := tyX κ) [0, 1, 2, 3] rfl
  refine lv_aload_n hx hb d_L_set_0 rfl (lv_at hl 0 rfl) ?_
  refine lv_iload_n hx hb d_L_set_1 rfl (lv_at hl 1 rfl) ?_
  refine lv_lload_n hx hb d_L_set_2 rfl (lv_at hl 2 rfl) ?_
  refine lv_lload hx hb d_L_set_3 (lv_at hl 3 rfl) ?_
  refine wj_v (ws := wXO o ko q κ x) (wc := wX q κ x.1) (wr := [(o, .inl (ko, 1, .inr (.inl x.2)))]) (mkAll := fun z => wXO o ko q κ (z, x.2)) [0, 1, 2, 3, 4] [5] [1, 2, 3, 4, 5, 0] rfl rfl (by decide) (by decide) (by decide) (fun _ => rfl) (va_runV (As := [.int (nI ra), .long (h), .long (lo)]) (rest := []) C (c_X_set l D q κ x.1 ra hra h lo s.heap.size) (cwV 3 C.2.2.2.2 (wG_V (fun _ h => h) k_ml_L_7 k_im_X_set k_se_X_set k_in_X k_X_set) rfl rfl rfl (by decide +kernel) ⟨Nat.le_of_ble_eq_true rfl, Nat.le_of_ble_eq_true rfl⟩) ⟨wf_blind, va_recv hKc hPc (ci := 0) (q0 := 0) rfl rfl, wf_pre hPc hKc hDc⟩ rfl rfl hl.1 rfl (lv_room (Nat.le_of_ble_eq_true rfl)) d_L_set_5 ⟨Nat.le_of_ble_eq_true rfl, Nat.le_of_ble_eq_true rfl⟩) (fun _ h => h) hS hP hD hA (fun z H locs hr_ hP hD hS => ?_)
  obtain ⟨y, ey⟩ : ∃ y : (SX × (Nat → Int64)), y = (z, x.2) := ⟨_, rfl⟩
  rw [← ey] at hP hD
  refine lv_goto (tgt := 15) hx hb d_L_set_8 (by decide) ?_
  refine lv_iconst (v := 0) hx hb d_L_set_15 (by decide) ?_
  exact wf_reti C hr hlocks y (⟨rfl, by rw [ey]; exact hr_, by rw [ey]⟩) hP hK hD hS (fun _ h => h) d_L_set_16

set_option maxHeartbeats 4000000 in
set_option maxRecDepth 100000 in
theorem c_L_half_ok (l : Launch) (hst : l.stackTraces = false) (D : va_G) (q : Nat → Nat) (κ : Nat → ClassId) (o : Nat) (ko : ClassId) (x : (SX × (Nat → Int64))) (ra : Nat) (hra : ra < 8) (z : Int32) (sz : Nat) : Met l y_L_half (.codeWith y_L_half b_L_half 5 (some .int) [(0, 9, 12, 13)] :: wG) (wf_rm 8 200 0 0) (wf_PcO D vwCl (wXO o ko q κ x) (tyXO ko κ) ([.ref (q 0), .int (nI ra), .int (z), .ref o]) sz) (va_Qi (fun r v => r = 0 ∧ ∃ r : Int64, (r = (if z = 0 then x.1.2.1 ra else x.1.1 ra) ∧ v.1 = x.1) ∧ v.2 0 = r) (wf_B D vwCl (wXO o ko q κ) (tyXO ko κ) (va_A (wXO o ko q κ x) sz)) (va_A (wXO o ko q κ x) sz)) 0 0 (va_A (wXO o ko q κ x) sz) := by
  refine wo_open (by decide) (Nat.le_of_ble_eq_true rfl) ?_
  intro p e s m below meth c ls hsz C hr hlocks htab hAll hP hK hD hl
  subst hsz
  have hx := C.1
  have hb := C.2.1
  have hml := C.2.2.1
  have hown := C.2.2.2.1
  have hts := C.2.2.2.2
  have hA : ∀ j : Nat, s.heap.size ≤ j → va_A (wXO o ko q κ x) s.heap.size j := fun j h => Or.inr h
  have hS : va_S (va_A (wXO o ko q κ x) s.heap.size) s.heap s.heap [] := va_S.rf
  generalize hAe : va_A (wXO o ko q κ x) s.heap.size = A at hA hS hD ⊢
  have hl : lv_has ls 5 [(0, .ref (q 0)), (1, .int (nI ra)), (2, .int (z)), (3, .ref (o))] := hl
  have hPc := hP.sub (ws' := wX q κ x.1) [0, 1, 2, 3, 4] rfl
  have hDc := hD.sub (ws' := wX q κ x.1) [0, 1, 2, 3, 4] (by decide) rfl
  have hKc := hK.sub (tys' := tyX κ) [0, 1, 2, 3] rfl
  refine lv_aload_n hx hb d_L_half_0 rfl (lv_at hl 3 rfl) ?_
  refine lv_iconst (v := 0) hx hb d_L_half_1 (by decide) ?_
  refine lv_aload_n hx hb d_L_half_2 rfl (lv_at hl 0 rfl) ?_
  refine lv_iload_n hx hb d_L_half_3 rfl (lv_at hl 1 rfl) ?_
  refine lv_iload_n hx hb d_L_half_4 rfl (lv_at hl 2 rfl) ?_
  refine vp_callSl (W.runV (As := [.int (nI ra), .int (z)]) (rest := [.int (0), .ref (o)]) C (c_X_half l D q κ x.1 ra hra z s.heap.size) (cwV 2 C.2.2.2.2 (wG_V (fun _ h => h) k_ml_L_15 k_im_X_half k_se_X_half k_in_X k_X_half) rfl rfl rfl (by decide +kernel) ⟨Nat.le_of_ble_eq_true rfl, Nat.le_of_ble_eq_true rfl⟩) ⟨wf_blind, va_recv hKc hPc (ci := 0) (q0 := 0) rfl rfl, wf_pre hPc hKc hDc⟩ rfl rfl hl.1 rfl (lv_room (Nat.le_of_ble_eq_true rfl)) d_L_half_5 ⟨Nat.le_of_ble_eq_true rfl, Nat.le_of_ble_eq_true rfl⟩) (fun r hr_ => ?_)
  refine wf_last C hK hP hD hS 5 4 rfl rfl (k := 0) rfl (by decide) (by decide) d_L_half_8 (fun H locs hP hD hS => ?_)
  have hP : va_P D vwCl (wXO o ko q κ (x.1, va_up x.2 0 r)) H := hP
  have hD : va_D A (wXO o ko q κ (x.1, va_up x.2 0 r)) := hD
  generalize eu_1 : ((x.1, va_up x.2 0 r) : SX × (Nat → Int64)) = u_1 at hP hD
  refine lv_goto (tgt := 16) hx hb d_L_half_9 (by decide) ?_
  refine lv_iconst (v := 0) hx hb d_L_half_16 (by decide) ?_
  exact wf_reti C hr hlocks u_1 (⟨rfl, r, ⟨hr_, by rw [← eu_1]⟩, wf_up0 eu_1⟩) hP hK hD hS (fun _ h => h) d_L_half_17

set_option maxHeartbeats 4000000 in
set_option maxRecDepth 100000 in
theorem c_L_add_ok (l : Launch) (hst : l.stackTraces = false) (D : va_G) (q : Nat → Nat) (κ : Nat → ClassId) (o : Nat) (ko : ClassId) (x : (SX × (Nat → Int64))) (ra : Nat) (hra : ra < 8) (rb : Nat) (hrb : rb < 8) (rt : Nat) (hrt : rt < 8) (sz : Nat) : Met l y_L_add (.codeWith y_L_add b_L_add 6 (some .int) [(0, 19, 22, 13)] :: wG) (wf_rm 8 200 0 0) (wf_PcO D vwCl (wXO o ko q κ x) (tyXO ko κ) ([.ref (q 0), .int (nI ra), .int (nI rb), .int (nI rt), .ref o]) sz) (va_Qi (fun r v => r = 0 ∧ ∃ r : Int32, (r = wf_bi (decide (wf_NN ≤ wf_Rx x.1 ra + wf_Rx x.1 rb)) ∧ wf_st x.1 v.1 rt ((wf_Rx x.1 ra + wf_Rx x.1 rb) % wf_NN)) ∧ v.2 0 = wf_zl r) (wf_B D vwCl (wXO o ko q κ) (tyXO ko κ) (va_A (wXO o ko q κ x) sz)) (va_A (wXO o ko q κ x) sz)) 0 0 (va_A (wXO o ko q κ x) sz) := by
  refine wo_open (by decide) (Nat.le_of_ble_eq_true rfl) ?_
  intro p e s m below meth c ls hsz C hr hlocks htab hAll hP hK hD hl
  subst hsz
  have hx := C.1
  have hb := C.2.1
  have hml := C.2.2.1
  have hown := C.2.2.2.1
  have hts := C.2.2.2.2
  have hA : ∀ j : Nat, s.heap.size ≤ j → va_A (wXO o ko q κ x) s.heap.size j := fun j h => Or.inr h
  have hS : va_S (va_A (wXO o ko q κ x) s.heap.size) s.heap s.heap [] := va_S.rf
  generalize hAe : va_A (wXO o ko q κ x) s.heap.size = A at hA hS hD ⊢
  have hl : lv_has ls 6 [(0, .ref (q 0)), (1, .int (nI ra)), (2, .int (nI rb)), (3, .int (nI rt)), (4, .ref (o))] := hl
  have hPc := hP.sub (ws' := wX q κ x.1) [0, 1, 2, 3, 4] rfl
  have hDc := hD.sub (ws' := wX q κ x.1) [0, 1, 2, 3, 4] (by decide) rfl
  have hKc := hK.sub (tys' := tyX κ) [0, 1, 2, 3] rfl
  refine lv_aload hx hb d_L_add_0 (lv_at hl 4 rfl) ?_
  refine lv_iconst (v := 0) hx hb d_L_add_2 (by decide) ?_
  refine lv_aload_n hx hb d_L_add_3 rfl (lv_at hl 0 rfl) ?_
  refine lv_iload_n hx hb d_L_add_4 rfl (lv_at hl 1 rfl) ?_
  refine lv_iload_n hx hb d_L_add_5 rfl (lv_at hl 2 rfl) ?_
  refine lv_iload_n hx hb d_L_add_6 rfl (lv_at hl 3 rfl) ?_
  refine wj_i (ws := wXO o ko q κ x) (wc := wX q κ x.1) (wr := [(o, .inl (ko, 1, .inr (.inl x.2)))]) (mkAll := fun z => wXO o ko q κ (z, x.2)) [0, 1, 2, 3, 4] [5] [1, 2, 3, 4, 5, 0] rfl rfl (by decide) (by decide) (by decide) (fun _ => rfl) (va_runV (As := [.int (nI ra), .int (nI rb), .int (nI rt)]) (rest := [.int (0), .ref (o)]) C (c_X_add l D q κ x.1 ra hra rb hrb rt hrt s.heap.size) (cwV 3 C.2.2.2.2 (wG_V (fun _ h => h) k_ml_L_19 k_im_X_add k_se_X_add k_in_X k_X_add) rfl rfl rfl (by decide +kernel) ⟨Nat.le_of_ble_eq_true rfl, Nat.le_of_ble_eq_true rfl⟩) ⟨wf_blind, va_recv hKc hPc (ci := 0) (q0 := 0) rfl rfl, wf_pre hPc hKc hDc⟩ rfl rfl hl.1 rfl (lv_room (Nat.le_of_ble_eq_true rfl)) d_L_add_7 ⟨Nat.le_of_ble_eq_true rfl, Nat.le_of_ble_eq_true rfl⟩) (fun _ h => h) hS hP hD hA (fun r z H locs hr_ hP hD hS => ?_)
  obtain ⟨y, ey⟩ : ∃ y : (SX × (Nat → Int64)), y = (z, x.2) := ⟨_, rfl⟩
  rw [← ey] at hP hD
  refine lv_if_eq (tgt := 17) hx hb d_L_add_10 (by decide) (fun c_1 => ?_) (fun c_1 => ?_)
  · refine lv_lconst (v := 0) hx hb d_L_add_17 (by decide) ?_
    refine wf_last C hK hP hD hS 5 4 rfl rfl (k := 0) rfl (by decide) (by decide) d_L_add_18 (fun H locs hP hD hS => ?_)
    have hP : va_P D vwCl (wXO o ko q κ (y.1, va_up y.2 0 0)) H := hP
    have hD : va_D A (wXO o ko q κ (y.1, va_up y.2 0 0)) := hD
    generalize eu_2 : ((y.1, va_up y.2 0 0) : SX × (Nat → Int64)) = u_2 at hP hD
    refine lv_goto (tgt := 26) hx hb d_L_add_19 (by decide) ?_
    refine lv_iconst (v := 0) hx hb d_L_add_26 (by decide) ?_
    exact wf_reti C hr hlocks u_2 (⟨rfl, r, by rw [← eu_2, ey]; exact hr_, (wf_up0 eu_2).trans (by unfold wf_zl; rw [if_pos c_1])⟩) hP hK hD hS (fun _ h => h) d_L_add_27
  · refine lv_lconst (v := 1) hx hb d_L_add_13 (by decide) ?_
    refine lv_goto (tgt := 18) hx hb d_L_add_14 (by decide) ?_
    refine wf_last C hK hP hD hS 5 4 rfl rfl (k := 0) rfl (by decide) (by decide) d_L_add_18 (fun H locs hP hD hS => ?_)
    have hP : va_P D vwCl (wXO o ko q κ (y.1, va_up y.2 0 1)) H := hP
    have hD : va_D A (wXO o ko q κ (y.1, va_up y.2 0 1)) := hD
    generalize eu_3 : ((y.1, va_up y.2 0 1) : SX × (Nat → Int64)) = u_3 at hP hD
    refine lv_goto (tgt := 26) hx hb d_L_add_19 (by decide) ?_
    refine lv_iconst (v := 0) hx hb d_L_add_26 (by decide) ?_
    exact wf_reti C hr hlocks u_3 (⟨rfl, r, by rw [← eu_3, ey]; exact hr_, (wf_up0 eu_3).trans (by unfold wf_zl; rw [if_neg c_1])⟩) hP hK hD hS (fun _ h => h) d_L_add_27

set_option maxHeartbeats 4000000 in
set_option maxRecDepth 100000 in
theorem c_L_subtract_ok (l : Launch) (hst : l.stackTraces = false) (D : va_G) (q : Nat → Nat) (κ : Nat → ClassId) (o : Nat) (ko : ClassId) (x : (SX × (Nat → Int64))) (ra : Nat) (hra : ra < 8) (rb : Nat) (hrb : rb < 8) (rt : Nat) (hrt : rt < 8) (sz : Nat) : Met l y_L_subtract (.codeWith y_L_subtract b_L_subtract 6 (some .int) [(0, 19, 22, 13)] :: wG) (wf_rm 8 200 0 0) (wf_PcO D vwCl (wXO o ko q κ x) (tyXO ko κ) ([.ref (q 0), .int (nI ra), .int (nI rb), .int (nI rt), .ref o]) sz) (va_Qi (fun r v => r = 0 ∧ ∃ r : Int32, (r = wf_bi (decide (wf_Rx x.1 ra < wf_Rx x.1 rb)) ∧ wf_st x.1 v.1 rt ((wf_Rx x.1 ra + wf_NN - wf_Rx x.1 rb) % wf_NN)) ∧ v.2 0 = wf_zl r) (wf_B D vwCl (wXO o ko q κ) (tyXO ko κ) (va_A (wXO o ko q κ x) sz)) (va_A (wXO o ko q κ x) sz)) 0 0 (va_A (wXO o ko q κ x) sz) := by
  refine wo_open (by decide) (Nat.le_of_ble_eq_true rfl) ?_
  intro p e s m below meth c ls hsz C hr hlocks htab hAll hP hK hD hl
  subst hsz
  have hx := C.1
  have hb := C.2.1
  have hml := C.2.2.1
  have hown := C.2.2.2.1
  have hts := C.2.2.2.2
  have hA : ∀ j : Nat, s.heap.size ≤ j → va_A (wXO o ko q κ x) s.heap.size j := fun j h => Or.inr h
  have hS : va_S (va_A (wXO o ko q κ x) s.heap.size) s.heap s.heap [] := va_S.rf
  generalize hAe : va_A (wXO o ko q κ x) s.heap.size = A at hA hS hD ⊢
  have hl : lv_has ls 6 [(0, .ref (q 0)), (1, .int (nI ra)), (2, .int (nI rb)), (3, .int (nI rt)), (4, .ref (o))] := hl
  have hPc := hP.sub (ws' := wX q κ x.1) [0, 1, 2, 3, 4] rfl
  have hDc := hD.sub (ws' := wX q κ x.1) [0, 1, 2, 3, 4] (by decide) rfl
  have hKc := hK.sub (tys' := tyX κ) [0, 1, 2, 3] rfl
  refine lv_aload hx hb d_L_subtract_0 (lv_at hl 4 rfl) ?_
  refine lv_iconst (v := 0) hx hb d_L_subtract_2 (by decide) ?_
  refine lv_aload_n hx hb d_L_subtract_3 rfl (lv_at hl 0 rfl) ?_
  refine lv_iload_n hx hb d_L_subtract_4 rfl (lv_at hl 1 rfl) ?_
  refine lv_iload_n hx hb d_L_subtract_5 rfl (lv_at hl 2 rfl) ?_
  refine lv_iload_n hx hb d_L_subtract_6 rfl (lv_at hl 3 rfl) ?_
  refine wj_i (ws := wXO o ko q κ x) (wc := wX q κ x.1) (wr := [(o, .inl (ko, 1, .inr (.inl x.2)))]) (mkAll := fun z => wXO o ko q κ (z, x.2)) [0, 1, 2, 3, 4] [5] [1, 2, 3, 4, 5, 0] rfl rfl (by decide) (by decide) (by decide) (fun _ => rfl) (va_runV (As := [.int (nI ra), .int (nI rb), .int (nI rt)]) (rest := [.int (0), .ref (o)]) C (c_X_subtract l D q κ x.1 ra hra rb hrb rt hrt s.heap.size) (cwV 3 C.2.2.2.2 (wG_V (fun _ h => h) k_ml_L_23 k_im_X_subtract k_se_X_subtract k_in_X k_X_subtract) rfl rfl rfl (by decide +kernel) ⟨Nat.le_of_ble_eq_true rfl, Nat.le_of_ble_eq_true rfl⟩) ⟨wf_blind, va_recv hKc hPc (ci := 0) (q0 := 0) rfl rfl, wf_pre hPc hKc hDc⟩ rfl rfl hl.1 rfl (lv_room (Nat.le_of_ble_eq_true rfl)) d_L_subtract_7 ⟨Nat.le_of_ble_eq_true rfl, Nat.le_of_ble_eq_true rfl⟩) (fun _ h => h) hS hP hD hA (fun r z H locs hr_ hP hD hS => ?_)
  obtain ⟨y, ey⟩ : ∃ y : (SX × (Nat → Int64)), y = (z, x.2) := ⟨_, rfl⟩
  rw [← ey] at hP hD
  refine lv_if_eq (tgt := 17) hx hb d_L_subtract_10 (by decide) (fun c_1 => ?_) (fun c_1 => ?_)
  · refine lv_lconst (v := 0) hx hb d_L_subtract_17 (by decide) ?_
    refine wf_last C hK hP hD hS 5 4 rfl rfl (k := 0) rfl (by decide) (by decide) d_L_subtract_18 (fun H locs hP hD hS => ?_)
    have hP : va_P D vwCl (wXO o ko q κ (y.1, va_up y.2 0 0)) H := hP
    have hD : va_D A (wXO o ko q κ (y.1, va_up y.2 0 0)) := hD
    generalize eu_2 : ((y.1, va_up y.2 0 0) : SX × (Nat → Int64)) = u_2 at hP hD
    refine lv_goto (tgt := 26) hx hb d_L_subtract_19 (by decide) ?_
    refine lv_iconst (v := 0) hx hb d_L_subtract_26 (by decide) ?_
    exact wf_reti C hr hlocks u_2 (⟨rfl, r, by rw [← eu_2, ey]; exact hr_, (wf_up0 eu_2).trans (by unfold wf_zl; rw [if_pos c_1])⟩) hP hK hD hS (fun _ h => h) d_L_subtract_27
  · refine lv_lconst (v := 1) hx hb d_L_subtract_13 (by decide) ?_
    refine lv_goto (tgt := 18) hx hb d_L_subtract_14 (by decide) ?_
    refine wf_last C hK hP hD hS 5 4 rfl rfl (k := 0) rfl (by decide) (by decide) d_L_subtract_18 (fun H locs hP hD hS => ?_)
    have hP : va_P D vwCl (wXO o ko q κ (y.1, va_up y.2 0 1)) H := hP
    have hD : va_D A (wXO o ko q κ (y.1, va_up y.2 0 1)) := hD
    generalize eu_3 : ((y.1, va_up y.2 0 1) : SX × (Nat → Int64)) = u_3 at hP hD
    refine lv_goto (tgt := 26) hx hb d_L_subtract_19 (by decide) ?_
    refine lv_iconst (v := 0) hx hb d_L_subtract_26 (by decide) ?_
    exact wf_reti C hr hlocks u_3 (⟨rfl, r, by rw [← eu_3, ey]; exact hr_, (wf_up0 eu_3).trans (by unfold wf_zl; rw [if_neg c_1])⟩) hP hK hD hS (fun _ h => h) d_L_subtract_27

set_option maxHeartbeats 4000000 in
set_option maxRecDepth 100000 in
theorem c_L_multiply_ok (l : Launch) (hst : l.stackTraces = false) (D : va_G) (q : Nat → Nat) (κ : Nat → ClassId) (o : Nat) (ko : ClassId) (x : (SX × (Nat → Int64))) (ra : Nat) (hra : ra < 8) (rb : Nat) (hrb : rb < 8) (ro : Nat) (hro : ro < 8) (rt : Nat) (hrt : rt < 8) (hne : ¬ nI ro = nI rt) (sz : Nat) : Met l y_L_multiply (.codeWith y_L_multiply b_L_multiply 6 (some .int) [(0, 9, 12, 13), (0, 9, 16, 30)] :: wG) (wf_rm 8 200 0 0) (wf_PcO D vwCl (wXO o ko q κ x) (tyXO ko κ) ([.ref (q 0), .int (nI ra), .int (nI rb), .int (nI ro), .int (nI rt)]) sz) (va_Qi (fun r v => r = 0 ∧ (∃ w : SX, wf_st x.1 w ro (wf_Rx x.1 ra * wf_Rx x.1 rb / wf_NN) ∧ wf_st w v.1 rt (wf_Rx x.1 ra * wf_Rx x.1 rb % wf_NN)) ∧ v.2 = x.2) (wf_B D vwCl (wXO o ko q κ) (tyXO ko κ) (va_A (wXO o ko q κ x) sz)) (va_A (wXO o ko q κ x) sz)) 0 0 (va_A (wXO o ko q κ x) sz) := by
  refine wo_open (by decide) (Nat.le_of_ble_eq_true rfl) ?_
  intro p e s m below meth c ls hsz C hr hlocks htab hAll hP hK hD hl
  subst hsz
  have hx := C.1
  have hb := C.2.1
  have hml := C.2.2.1
  have hown := C.2.2.2.1
  have hts := C.2.2.2.2
  have hA : ∀ j : Nat, s.heap.size ≤ j → va_A (wXO o ko q κ x) s.heap.size j := fun j h => Or.inr h
  have hS : va_S (va_A (wXO o ko q κ x) s.heap.size) s.heap s.heap [] := va_S.rf
  generalize hAe : va_A (wXO o ko q κ x) s.heap.size = A at hA hS hD ⊢
  have hl : lv_has ls 6 [(0, .ref (q 0)), (1, .int (nI ra)), (2, .int (nI rb)), (3, .int (nI ro)), (4, .int (nI rt))] := hl
  have hPc := hP.sub (ws' := wX q κ x.1) [0, 1, 2, 3, 4] rfl
  have hDc := hD.sub (ws' := wX q κ x.1) [0, 1, 2, 3, 4] (by decide) rfl
  have hKc := hK.sub (tys' := tyX κ) [0, 1, 2, 3] rfl
  refine lv_aload_n hx hb d_L_multiply_0 rfl (lv_at hl 0 rfl) ?_
  refine lv_iload_n hx hb d_L_multiply_1 rfl (lv_at hl 1 rfl) ?_
  refine lv_iload_n hx hb d_L_multiply_2 rfl (lv_at hl 2 rfl) ?_
  refine lv_iload_n hx hb d_L_multiply_3 rfl (lv_at hl 3 rfl) ?_
  refine lv_iload hx hb d_L_multiply_4 (lv_at hl 4 rfl) ?_
  refine wj_v (ws := wXO o ko q κ x) (wc := wX q κ x.1) (wr := [(o, .inl (ko, 1, .inr (.inl x.2)))]) (mkAll := fun z => wXO o ko q κ (z, x.2)) [0, 1, 2, 3, 4] [5] [1, 2, 3, 4, 5, 0] rfl rfl (by decide) (by decide) (by decide) (fun _ => rfl) (va_runV (As := [.int (nI ra), .int (nI rb), .int (nI ro), .int (nI rt)]) (rest := []) C (c_X_multiply l D q κ x.1 ra hra rb hrb ro hro rt hrt hne s.heap.size) (cwV 4 C.2.2.2.2 (wG_V (fun _ h => h) k_ml_L_26 k_im_X_multiply k_se_X_multiply k_in_X k_X_multiply) rfl rfl rfl (by decide +kernel) ⟨Nat.le_of_ble_eq_true rfl, Nat.le_of_ble_eq_true rfl⟩) ⟨wf_blind, va_recv hKc hPc (ci := 0) (q0 := 0) rfl rfl, wf_pre hPc hKc hDc⟩ rfl rfl hl.1 rfl (lv_room (Nat.le_of_ble_eq_true rfl)) d_L_multiply_6 ⟨Nat.le_of_ble_eq_true rfl, Nat.le_of_ble_eq_true rfl⟩) (fun _ h => h) hS hP hD hA (fun z H locs hr_ hP hD hS => ?_)
  obtain ⟨y, ey⟩ : ∃ y : (SX × (Nat → Int64)), y = (z, x.2) := ⟨_, rfl⟩
  rw [← ey] at hP hD
  refine lv_goto (tgt := 20) hx hb d_L_multiply_9 (by decide) ?_
  refine lv_iconst (v := 0) hx hb d_L_multiply_20 (by decide) ?_
  exact wf_reti C hr hlocks y (⟨rfl, by rw [ey]; exact hr_, by rw [ey]⟩) hP hK hD hS (fun _ h => h) d_L_multiply_21

set_option maxHeartbeats 4000000 in
set_option maxRecDepth 100000 in
theorem c_L_divide_ok (l : Launch) (hst : l.stackTraces = false) (D : va_G) (q : Nat → Nat) (κ : Nat → ClassId) (o : Nat) (ko : ClassId) (x : (SX × (Nat → Int64))) (ra : Nat) (hra : ra < 8) (rb : Nat) (hrb : rb < 8) (ro : Nat) (hro : ro < 8) (rt : Nat) (hrt : rt < 8) (hne : ¬ nI ro = nI rt) (hb0 : 0 < wf_Rx x.1 rb) (sz : Nat) : Met l y_L_divide (.codeWith y_L_divide b_L_divide 6 (some .int) [(0, 9, 12, 13), (0, 9, 16, 30), (0, 9, 20, 35)] :: wG) (wf_rm 8 200 0 0) (wf_PcO D vwCl (wXO o ko q κ x) (tyXO ko κ) ([.ref (q 0), .int (nI ra), .int (nI rb), .int (nI ro), .int (nI rt)]) sz) (va_Qi (fun r v => r = 0 ∧ (∃ w : SX, wf_st x.1 w ro (wf_Rx x.1 ra / wf_Rx x.1 rb) ∧ wf_st w v.1 rt (wf_Rx x.1 ra % wf_Rx x.1 rb)) ∧ v.2 = x.2) (wf_B D vwCl (wXO o ko q κ) (tyXO ko κ) (va_A (wXO o ko q κ x) sz)) (va_A (wXO o ko q κ x) sz)) 0 0 (va_A (wXO o ko q κ x) sz) := by
  refine wo_open (by decide) (Nat.le_of_ble_eq_true rfl) ?_
  intro p e s m below meth c ls hsz C hr hlocks htab hAll hP hK hD hl
  subst hsz
  have hx := C.1
  have hb := C.2.1
  have hml := C.2.2.1
  have hown := C.2.2.2.1
  have hts := C.2.2.2.2
  have hA : ∀ j : Nat, s.heap.size ≤ j → va_A (wXO o ko q κ x) s.heap.size j := fun j h => Or.inr h
  have hS : va_S (va_A (wXO o ko q κ x) s.heap.size) s.heap s.heap [] := va_S.rf
  generalize hAe : va_A (wXO o ko q κ x) s.heap.size = A at hA hS hD ⊢
  have hl : lv_has ls 6 [(0, .ref (q 0)), (1, .int (nI ra)), (2, .int (nI rb)), (3, .int (nI ro)), (4, .int (nI rt))] := hl
  have hPc := hP.sub (ws' := wX q κ x.1) [0, 1, 2, 3, 4] rfl
  have hDc := hD.sub (ws' := wX q κ x.1) [0, 1, 2, 3, 4] (by decide) rfl
  have hKc := hK.sub (tys' := tyX κ) [0, 1, 2, 3] rfl
  refine lv_aload_n hx hb d_L_divide_0 rfl (lv_at hl 0 rfl) ?_
  refine lv_iload_n hx hb d_L_divide_1 rfl (lv_at hl 1 rfl) ?_
  refine lv_iload_n hx hb d_L_divide_2 rfl (lv_at hl 2 rfl) ?_
  refine lv_iload_n hx hb d_L_divide_3 rfl (lv_at hl 3 rfl) ?_
  refine lv_iload hx hb d_L_divide_4 (lv_at hl 4 rfl) ?_
  refine wj_v (ws := wXO o ko q κ x) (wc := wX q κ x.1) (wr := [(o, .inl (ko, 1, .inr (.inl x.2)))]) (mkAll := fun z => wXO o ko q κ (z, x.2)) [0, 1, 2, 3, 4] [5] [1, 2, 3, 4, 5, 0] rfl rfl (by decide) (by decide) (by decide) (fun _ => rfl) (va_runV (As := [.int (nI ra), .int (nI rb), .int (nI ro), .int (nI rt)]) (rest := []) C (c_X_divide l D q κ x.1 ra hra rb hrb ro hro rt hrt hne hb0 s.heap.size) (cwV 4 C.2.2.2.2 (wG_V (fun _ h => h) k_ml_L_32 k_im_X_divide k_se_X_divide k_in_X k_X_divide) rfl rfl rfl (by decide +kernel) ⟨Nat.le_of_ble_eq_true rfl, Nat.le_of_ble_eq_true rfl⟩) ⟨wf_blind, va_recv hKc hPc (ci := 0) (q0 := 0) rfl rfl, wf_pre hPc hKc hDc⟩ rfl rfl hl.1 rfl (lv_room (Nat.le_of_ble_eq_true rfl)) d_L_divide_6 ⟨Nat.le_of_ble_eq_true rfl, Nat.le_of_ble_eq_true rfl⟩) (fun _ h => h) hS hP hD hA (fun z H locs hr_ hP hD hS => ?_)
  obtain ⟨y, ey⟩ : ∃ y : (SX × (Nat → Int64)), y = (z, x.2) := ⟨_, rfl⟩
  rw [← ey] at hP hD
  refine lv_goto (tgt := 24) hx hb d_L_divide_9 (by decide) ?_
  refine lv_iconst (v := 0) hx hb d_L_divide_24 (by decide) ?_
  exact wf_reti C hr hlocks y (⟨rfl, by rw [ey]; exact hr_, by rw [ey]⟩) hP hK hD hS (fun _ h => h) d_L_divide_25

set_option maxHeartbeats 4000000 in
set_option maxRecDepth 100000 in
theorem c_L_root_ok (l : Launch) (hst : l.stackTraces = false) (D : va_G) (q : Nat → Nat) (κ : Nat → ClassId) (o : Nat) (ko : ClassId) (x : (SX × (Nat → Int64))) (ra : Nat) (hra : ra < 8) (ro : Nat) (hro : ro < 8) (rt : Nat) (hrt : rt < 8) (hne : ¬ nI ro = nI rt) (sz : Nat) : Met l y_L_root (.codeWith y_L_root b_L_root 5 (some .int) [(0, 7, 10, 13), (0, 7, 14, 30)] :: wG) (wf_rm 8 200 0 0) (wf_PcO D vwCl (wXO o ko q κ x) (tyXO ko κ) ([.ref (q 0), .int (nI ra), .int (nI ro), .int (nI rt)]) sz) (va_Qi (fun r v => r = 0 ∧ (∃ (g r : Nat), (wf_Rx x.1 ra = g * g + r ∧ r ≤ 2 * g ∧ g < 2 ^ 64) ∧ ∃ w : SX, wf_st x.1 w ro g ∧ wf_st w v.1 rt r) ∧ v.2 = x.2) (wf_B D vwCl (wXO o ko q κ) (tyXO ko κ) (va_A (wXO o ko q κ x) sz)) (va_A (wXO o ko q κ x) sz)) 0 0 (va_A (wXO o ko q κ x) sz) := by
  refine wo_open (by decide) (Nat.le_of_ble_eq_true rfl) ?_
  intro p e s m below meth c ls hsz C hr hlocks htab hAll hP hK hD hl
  subst hsz
  have hx := C.1
  have hb := C.2.1
  have hml := C.2.2.1
  have hown := C.2.2.2.1
  have hts := C.2.2.2.2
  have hA : ∀ j : Nat, s.heap.size ≤ j → va_A (wXO o ko q κ x) s.heap.size j := fun j h => Or.inr h
  have hS : va_S (va_A (wXO o ko q κ x) s.heap.size) s.heap s.heap [] := va_S.rf
  generalize hAe : va_A (wXO o ko q κ x) s.heap.size = A at hA hS hD ⊢
  have hl : lv_has ls 5 [(0, .ref (q 0)), (1, .int (nI ra)), (2, .int (nI ro)), (3, .int (nI rt))] := hl
  have hPc := hP.sub (ws' := wX q κ x.1) [0, 1, 2, 3, 4] rfl
  have hDc := hD.sub (ws' := wX q κ x.1) [0, 1, 2, 3, 4] (by decide) rfl
  have hKc := hK.sub (tys' := tyX κ) [0, 1, 2, 3] rfl
  refine lv_aload_n hx hb d_L_root_0 rfl (lv_at hl 0 rfl) ?_
  refine lv_iload_n hx hb d_L_root_1 rfl (lv_at hl 1 rfl) ?_
  refine lv_iload_n hx hb d_L_root_2 rfl (lv_at hl 2 rfl) ?_
  refine lv_iload_n hx hb d_L_root_3 rfl (lv_at hl 3 rfl) ?_
  refine wj_v (ws := wXO o ko q κ x) (wc := wX q κ x.1) (wr := [(o, .inl (ko, 1, .inr (.inl x.2)))]) (mkAll := fun z => wXO o ko q κ (z, x.2)) [0, 1, 2, 3, 4] [5] [1, 2, 3, 4, 5, 0] rfl rfl (by decide) (by decide) (by decide) (fun _ => rfl) (va_runV (As := [.int (nI ra), .int (nI ro), .int (nI rt)]) (rest := []) C (c_X_root l D q κ x.1 ra hra ro hro rt hrt hne s.heap.size) (cwV 3 C.2.2.2.2 (wG_V (fun _ h => h) k_ml_L_37 k_im_X_root k_se_X_root k_in_X k_X_root) rfl rfl rfl (by decide +kernel) ⟨Nat.le_of_ble_eq_true rfl, Nat.le_of_ble_eq_true rfl⟩) ⟨wf_blind, va_recv hKc hPc (ci := 0) (q0 := 0) rfl rfl, wf_pre hPc hKc hDc⟩ rfl rfl hl.1 rfl (lv_room (Nat.le_of_ble_eq_true rfl)) d_L_root_4 ⟨Nat.le_of_ble_eq_true rfl, Nat.le_of_ble_eq_true rfl⟩) (fun _ h => h) hS hP hD hA (fun z H locs hr_ hP hD hS => ?_)
  obtain ⟨y, ey⟩ : ∃ y : (SX × (Nat → Int64)), y = (z, x.2) := ⟨_, rfl⟩
  rw [← ey] at hP hD
  refine lv_goto (tgt := 18) hx hb d_L_root_7 (by decide) ?_
  refine lv_iconst (v := 0) hx hb d_L_root_18 (by decide) ?_
  exact wf_reti C hr hlocks y (⟨rfl, by rw [ey]; exact hr_, by rw [ey]⟩) hP hK hD hS (fun _ h => h) d_L_root_19

set_option maxHeartbeats 4000000 in
set_option maxRecDepth 100000 in
theorem c_L_shiftUp_ok (l : Launch) (hst : l.stackTraces = false) (D : va_G) (q : Nat → Nat) (κ : Nat → ClassId) (o : Nat) (ko : ClassId) (x : (SX × (Nat → Int64))) (ra : Nat) (hra : ra < 8) (n : Nat) (hn : n < 2 ^ 31) (rt : Nat) (hrt : rt < 8) (sz : Nat) : Met l y_L_shift (.codeWith y_L_shift b_L_shift 6 (some .int) [(0, 19, 22, 13)] :: wG) (wf_rm 8 200 0 0) (wf_PcO D vwCl (wXO o ko q κ x) (tyXO ko κ) ([.ref (q 0), .int (nI ra), .int (nI n), .int (nI rt), .ref o]) sz) (va_Qi (fun r v => r = 0 ∧ ∃ r : Int32, (r = wf_bi (decide (wf_NN ≤ wf_Rx x.1 ra * 2 ^ n)) ∧ wf_st x.1 v.1 rt (wf_Rx x.1 ra * 2 ^ n % wf_NN)) ∧ v.2 0 = wf_zl r) (wf_B D vwCl (wXO o ko q κ) (tyXO ko κ) (va_A (wXO o ko q κ x) sz)) (va_A (wXO o ko q κ x) sz)) 0 0 (va_A (wXO o ko q κ x) sz) := by
  refine wo_open (by decide) (Nat.le_of_ble_eq_true rfl) ?_
  intro p e s m below meth c ls hsz C hr hlocks htab hAll hP hK hD hl
  subst hsz
  have hx := C.1
  have hb := C.2.1
  have hml := C.2.2.1
  have hown := C.2.2.2.1
  have hts := C.2.2.2.2
  have hA : ∀ j : Nat, s.heap.size ≤ j → va_A (wXO o ko q κ x) s.heap.size j := fun j h => Or.inr h
  have hS : va_S (va_A (wXO o ko q κ x) s.heap.size) s.heap s.heap [] := va_S.rf
  generalize hAe : va_A (wXO o ko q κ x) s.heap.size = A at hA hS hD ⊢
  have hl : lv_has ls 6 [(0, .ref (q 0)), (1, .int (nI ra)), (2, .int (nI n)), (3, .int (nI rt)), (4, .ref (o))] := hl
  have hPc := hP.sub (ws' := wX q κ x.1) [0, 1, 2, 3, 4] rfl
  have hDc := hD.sub (ws' := wX q κ x.1) [0, 1, 2, 3, 4] (by decide) rfl
  have hKc := hK.sub (tys' := tyX κ) [0, 1, 2, 3] rfl
  refine lv_aload hx hb d_L_shift_0 (lv_at hl 4 rfl) ?_
  refine lv_iconst (v := 0) hx hb d_L_shift_2 (by decide) ?_
  refine lv_aload_n hx hb d_L_shift_3 rfl (lv_at hl 0 rfl) ?_
  refine lv_iload_n hx hb d_L_shift_4 rfl (lv_at hl 1 rfl) ?_
  refine lv_iload_n hx hb d_L_shift_5 rfl (lv_at hl 2 rfl) ?_
  refine lv_iload_n hx hb d_L_shift_6 rfl (lv_at hl 3 rfl) ?_
  refine wj_i (ws := wXO o ko q κ x) (wc := wX q κ x.1) (wr := [(o, .inl (ko, 1, .inr (.inl x.2)))]) (mkAll := fun z => wXO o ko q κ (z, x.2)) [0, 1, 2, 3, 4] [5] [1, 2, 3, 4, 5, 0] rfl rfl (by decide) (by decide) (by decide) (fun _ => rfl) (va_runV (As := [.int (nI ra), .int (nI n), .int (nI rt)]) (rest := [.int (0), .ref (o)]) C (c_X_shiftUp l D q κ x.1 ra hra n hn rt hrt s.heap.size) (cwV 3 C.2.2.2.2 (wG_V (fun _ h => h) k_ml_L_41 k_im_X_shift k_se_X_shift k_in_X k_X_shift) rfl rfl rfl (by decide +kernel) ⟨Nat.le_of_ble_eq_true rfl, Nat.le_of_ble_eq_true rfl⟩) ⟨wf_blind, va_recv hKc hPc (ci := 0) (q0 := 0) rfl rfl, wf_pre hPc hKc hDc⟩ rfl rfl hl.1 rfl (lv_room (Nat.le_of_ble_eq_true rfl)) d_L_shift_7 ⟨Nat.le_of_ble_eq_true rfl, Nat.le_of_ble_eq_true rfl⟩) (fun _ h => h) hS hP hD hA (fun r z H locs hr_ hP hD hS => ?_)
  obtain ⟨y, ey⟩ : ∃ y : (SX × (Nat → Int64)), y = (z, x.2) := ⟨_, rfl⟩
  rw [← ey] at hP hD
  refine lv_if_eq (tgt := 17) hx hb d_L_shift_10 (by decide) (fun c_1 => ?_) (fun c_1 => ?_)
  · refine lv_lconst (v := 0) hx hb d_L_shift_17 (by decide) ?_
    refine wf_last C hK hP hD hS 5 4 rfl rfl (k := 0) rfl (by decide) (by decide) d_L_shift_18 (fun H locs hP hD hS => ?_)
    have hP : va_P D vwCl (wXO o ko q κ (y.1, va_up y.2 0 0)) H := hP
    have hD : va_D A (wXO o ko q κ (y.1, va_up y.2 0 0)) := hD
    generalize eu_2 : ((y.1, va_up y.2 0 0) : SX × (Nat → Int64)) = u_2 at hP hD
    refine lv_goto (tgt := 26) hx hb d_L_shift_19 (by decide) ?_
    refine lv_iconst (v := 0) hx hb d_L_shift_26 (by decide) ?_
    exact wf_reti C hr hlocks u_2 (⟨rfl, r, by rw [← eu_2, ey]; exact hr_, (wf_up0 eu_2).trans (by unfold wf_zl; rw [if_pos c_1])⟩) hP hK hD hS (fun _ h => h) d_L_shift_27
  · refine lv_lconst (v := 1) hx hb d_L_shift_13 (by decide) ?_
    refine lv_goto (tgt := 18) hx hb d_L_shift_14 (by decide) ?_
    refine wf_last C hK hP hD hS 5 4 rfl rfl (k := 0) rfl (by decide) (by decide) d_L_shift_18 (fun H locs hP hD hS => ?_)
    have hP : va_P D vwCl (wXO o ko q κ (y.1, va_up y.2 0 1)) H := hP
    have hD : va_D A (wXO o ko q κ (y.1, va_up y.2 0 1)) := hD
    generalize eu_3 : ((y.1, va_up y.2 0 1) : SX × (Nat → Int64)) = u_3 at hP hD
    refine lv_goto (tgt := 26) hx hb d_L_shift_19 (by decide) ?_
    refine lv_iconst (v := 0) hx hb d_L_shift_26 (by decide) ?_
    exact wf_reti C hr hlocks u_3 (⟨rfl, r, by rw [← eu_3, ey]; exact hr_, (wf_up0 eu_3).trans (by unfold wf_zl; rw [if_neg c_1])⟩) hP hK hD hS (fun _ h => h) d_L_shift_27

set_option maxHeartbeats 4000000 in
set_option maxRecDepth 100000 in
theorem c_L_shiftDown_ok (l : Launch) (hst : l.stackTraces = false) (D : va_G) (q : Nat → Nat) (κ : Nat → ClassId) (o : Nat) (ko : ClassId) (x : (SX × (Nat → Int64))) (ra : Nat) (hra : ra < 8) (n : Nat) (hn0 : 0 < n) (hn : n ≤ 2147483648) (rt : Nat) (hrt : rt < 8) (sz : Nat) : Met l y_L_shift (.codeWith y_L_shift b_L_shift 6 (some .int) [(0, 19, 22, 13)] :: wG) (wf_rm 8 200 0 0) (wf_PcO D vwCl (wXO o ko q κ x) (tyXO ko κ) ([.ref (q 0), .int (nI ra), .int (-nI n), .int (nI rt), .ref o]) sz) (va_Qi (fun r v => r = 0 ∧ ∃ r : Int32, (r = wf_bi (decide (wf_Rx x.1 ra % 2 ^ n ≠ 0)) ∧ wf_st x.1 v.1 rt (wf_Rx x.1 ra / 2 ^ n)) ∧ v.2 0 = wf_zl r) (wf_B D vwCl (wXO o ko q κ) (tyXO ko κ) (va_A (wXO o ko q κ x) sz)) (va_A (wXO o ko q κ x) sz)) 0 0 (va_A (wXO o ko q κ x) sz) := by
  refine wo_open (by decide) (Nat.le_of_ble_eq_true rfl) ?_
  intro p e s m below meth c ls hsz C hr hlocks htab hAll hP hK hD hl
  subst hsz
  have hx := C.1
  have hb := C.2.1
  have hml := C.2.2.1
  have hown := C.2.2.2.1
  have hts := C.2.2.2.2
  have hA : ∀ j : Nat, s.heap.size ≤ j → va_A (wXO o ko q κ x) s.heap.size j := fun j h => Or.inr h
  have hS : va_S (va_A (wXO o ko q κ x) s.heap.size) s.heap s.heap [] := va_S.rf
  generalize hAe : va_A (wXO o ko q κ x) s.heap.size = A at hA hS hD ⊢
  have hl : lv_has ls 6 [(0, .ref (q 0)), (1, .int (nI ra)), (2, .int (-nI n)), (3, .int (nI rt)), (4, .ref (o))] := hl
  have hPc := hP.sub (ws' := wX q κ x.1) [0, 1, 2, 3, 4] rfl
  have hDc := hD.sub (ws' := wX q κ x.1) [0, 1, 2, 3, 4] (by decide) rfl
  have hKc := hK.sub (tys' := tyX κ) [0, 1, 2, 3] rfl
  refine lv_aload hx hb d_L_shift_0 (lv_at hl 4 rfl) ?_
  refine lv_iconst (v := 0) hx hb d_L_shift_2 (by decide) ?_
  refine lv_aload_n hx hb d_L_shift_3 rfl (lv_at hl 0 rfl) ?_
  refine lv_iload_n hx hb d_L_shift_4 rfl (lv_at hl 1 rfl) ?_
  refine lv_iload_n hx hb d_L_shift_5 rfl (lv_at hl 2 rfl) ?_
  refine lv_iload_n hx hb d_L_shift_6 rfl (lv_at hl 3 rfl) ?_
  refine wj_i (ws := wXO o ko q κ x) (wc := wX q κ x.1) (wr := [(o, .inl (ko, 1, .inr (.inl x.2)))]) (mkAll := fun z => wXO o ko q κ (z, x.2)) [0, 1, 2, 3, 4] [5] [1, 2, 3, 4, 5, 0] rfl rfl (by decide) (by decide) (by decide) (fun _ => rfl) (va_runV (As := [.int (nI ra), .int (-nI n), .int (nI rt)]) (rest := [.int (0), .ref (o)]) C (c_X_shiftDown l D q κ x.1 ra hra n hn0 hn rt hrt s.heap.size) (cwV 3 C.2.2.2.2 (wG_V (fun _ h => h) k_ml_L_41 k_im_X_shift k_se_X_shift k_in_X k_X_shift) rfl rfl rfl (by decide +kernel) ⟨Nat.le_of_ble_eq_true rfl, Nat.le_of_ble_eq_true rfl⟩) ⟨wf_blind, va_recv hKc hPc (ci := 0) (q0 := 0) rfl rfl, wf_pre hPc hKc hDc⟩ rfl rfl hl.1 rfl (lv_room (Nat.le_of_ble_eq_true rfl)) d_L_shift_7 ⟨Nat.le_of_ble_eq_true rfl, Nat.le_of_ble_eq_true rfl⟩) (fun _ h => h) hS hP hD hA (fun r z H locs hr_ hP hD hS => ?_)
  obtain ⟨y, ey⟩ : ∃ y : (SX × (Nat → Int64)), y = (z, x.2) := ⟨_, rfl⟩
  rw [← ey] at hP hD
  refine lv_if_eq (tgt := 17) hx hb d_L_shift_10 (by decide) (fun c_1 => ?_) (fun c_1 => ?_)
  · refine lv_lconst (v := 0) hx hb d_L_shift_17 (by decide) ?_
    refine wf_last C hK hP hD hS 5 4 rfl rfl (k := 0) rfl (by decide) (by decide) d_L_shift_18 (fun H locs hP hD hS => ?_)
    have hP : va_P D vwCl (wXO o ko q κ (y.1, va_up y.2 0 0)) H := hP
    have hD : va_D A (wXO o ko q κ (y.1, va_up y.2 0 0)) := hD
    generalize eu_2 : ((y.1, va_up y.2 0 0) : SX × (Nat → Int64)) = u_2 at hP hD
    refine lv_goto (tgt := 26) hx hb d_L_shift_19 (by decide) ?_
    refine lv_iconst (v := 0) hx hb d_L_shift_26 (by decide) ?_
    exact wf_reti C hr hlocks u_2 (⟨rfl, r, by rw [← eu_2, ey]; exact hr_, (wf_up0 eu_2).trans (by unfold wf_zl; rw [if_pos c_1])⟩) hP hK hD hS (fun _ h => h) d_L_shift_27
  · refine lv_lconst (v := 1) hx hb d_L_shift_13 (by decide) ?_
    refine lv_goto (tgt := 18) hx hb d_L_shift_14 (by decide) ?_
    refine wf_last C hK hP hD hS 5 4 rfl rfl (k := 0) rfl (by decide) (by decide) d_L_shift_18 (fun H locs hP hD hS => ?_)
    have hP : va_P D vwCl (wXO o ko q κ (y.1, va_up y.2 0 1)) H := hP
    have hD : va_D A (wXO o ko q κ (y.1, va_up y.2 0 1)) := hD
    generalize eu_3 : ((y.1, va_up y.2 0 1) : SX × (Nat → Int64)) = u_3 at hP hD
    refine lv_goto (tgt := 26) hx hb d_L_shift_19 (by decide) ?_
    refine lv_iconst (v := 0) hx hb d_L_shift_26 (by decide) ?_
    exact wf_reti C hr hlocks u_3 (⟨rfl, r, by rw [← eu_3, ey]; exact hr_, (wf_up0 eu_3).trans (by unfold wf_zl; rw [if_neg c_1])⟩) hP hK hD hS (fun _ h => h) d_L_shift_27

set_option maxHeartbeats 4000000 in
set_option maxRecDepth 100000 in
theorem c_L_jam_ok (l : Launch) (hst : l.stackTraces = false) (D : va_G) (q : Nat → Nat) (κ : Nat → ClassId) (o : Nat) (ko : ClassId) (x : (SX × (Nat → Int64))) (ra : Nat) (hra : ra < 8) (n : Nat) (hn : n < 2 ^ 31) (rt : Nat) (hrt : rt < 8) (sz : Nat) : Met l y_L_jam (.codeWith y_L_jam b_L_jam 5 (some .int) [(0, 7, 10, 13), (0, 7, 14, 30)] :: wG) (wf_rm 8 200 0 0) (wf_PcO D vwCl (wXO o ko q κ x) (tyXO ko κ) ([.ref (q 0), .int (nI ra), .int (nI n), .int (nI rt)]) sz) (va_Qi (fun r v => r = 0 ∧ wf_st x.1 v.1 rt (wf_jam (wf_Rx x.1 ra) n) ∧ v.2 = x.2) (wf_B D vwCl (wXO o ko q κ) (tyXO ko κ) (va_A (wXO o ko q κ x) sz)) (va_A (wXO o ko q κ x) sz)) 0 0 (va_A (wXO o ko q κ x) sz) := by
  refine wo_open (by decide) (Nat.le_of_ble_eq_true rfl) ?_
  intro p e s m below meth c ls hsz C hr hlocks htab hAll hP hK hD hl
  subst hsz
  have hx := C.1
  have hb := C.2.1
  have hml := C.2.2.1
  have hown := C.2.2.2.1
  have hts := C.2.2.2.2
  have hA : ∀ j : Nat, s.heap.size ≤ j → va_A (wXO o ko q κ x) s.heap.size j := fun j h => Or.inr h
  have hS : va_S (va_A (wXO o ko q κ x) s.heap.size) s.heap s.heap [] := va_S.rf
  generalize hAe : va_A (wXO o ko q κ x) s.heap.size = A at hA hS hD ⊢
  have hl : lv_has ls 5 [(0, .ref (q 0)), (1, .int (nI ra)), (2, .int (nI n)), (3, .int (nI rt))] := hl
  have hPc := hP.sub (ws' := wX q κ x.1) [0, 1, 2, 3, 4] rfl
  have hDc := hD.sub (ws' := wX q κ x.1) [0, 1, 2, 3, 4] (by decide) rfl
  have hKc := hK.sub (tys' := tyX κ) [0, 1, 2, 3] rfl
  refine lv_aload_n hx hb d_L_jam_0 rfl (lv_at hl 0 rfl) ?_
  refine lv_iload_n hx hb d_L_jam_1 rfl (lv_at hl 1 rfl) ?_
  refine lv_iload_n hx hb d_L_jam_2 rfl (lv_at hl 2 rfl) ?_
  refine lv_iload_n hx hb d_L_jam_3 rfl (lv_at hl 3 rfl) ?_
  refine wj_v (ws := wXO o ko q κ x) (wc := wX q κ x.1) (wr := [(o, .inl (ko, 1, .inr (.inl x.2)))]) (mkAll := fun z => wXO o ko q κ (z, x.2)) [0, 1, 2, 3, 4] [5] [1, 2, 3, 4, 5, 0] rfl rfl (by decide) (by decide) (by decide) (fun _ => rfl) (va_runV (As := [.int (nI ra), .int (nI n), .int (nI rt)]) (rest := []) C (c_X_jam l D q κ x.1 ra hra n hn rt hrt s.heap.size) (cwV 3 C.2.2.2.2 (wG_V (fun _ h => h) k_ml_L_44 k_im_X_jam k_se_X_jam k_in_X k_X_jam) rfl rfl rfl (by decide +kernel) ⟨Nat.le_of_ble_eq_true rfl, Nat.le_of_ble_eq_true rfl⟩) ⟨wf_blind, va_recv hKc hPc (ci := 0) (q0 := 0) rfl rfl, wf_pre hPc hKc hDc⟩ rfl rfl hl.1 rfl (lv_room (Nat.le_of_ble_eq_true rfl)) d_L_jam_4 ⟨Nat.le_of_ble_eq_true rfl, Nat.le_of_ble_eq_true rfl⟩) (fun _ h => h) hS hP hD hA (fun z H locs hr_ hP hD hS => ?_)
  obtain ⟨y, ey⟩ : ∃ y : (SX × (Nat → Int64)), y = (z, x.2) := ⟨_, rfl⟩
  rw [← ey] at hP hD
  refine lv_goto (tgt := 18) hx hb d_L_jam_7 (by decide) ?_
  refine lv_iconst (v := 0) hx hb d_L_jam_18 (by decide) ?_
  exact wf_reti C hr hlocks y (⟨rfl, by rw [ey]; exact hr_, by rw [ey]⟩) hP hK hD hS (fun _ h => h) d_L_jam_19

set_option maxHeartbeats 4000000 in
set_option maxRecDepth 100000 in
theorem c_L_zeros_ok (l : Launch) (hst : l.stackTraces = false) (D : va_G) (q : Nat → Nat) (κ : Nat → ClassId) (o : Nat) (ko : ClassId) (x : (SX × (Nat → Int64))) (ra : Nat) (hra : ra < 8) (sz : Nat) : Met l y_L_zeros (.codeWith y_L_zeros b_L_zeros 4 (some .int) [(0, 9, 12, 13)] :: wG) (wf_rm 8 200 0 0) (wf_PcO D vwCl (wXO o ko q κ x) (tyXO ko κ) ([.ref (q 0), .int (nI ra), .ref o]) sz) (va_Qi (fun r v => r = 0 ∧ ∃ r : Int32, ((∃ z, r = nI z ∧ wf_LZ 128 (wf_Rx x.1 ra) z) ∧ v.1 = x.1) ∧ v.2 0 = Int32.toInt64 r) (wf_B D vwCl (wXO o ko q κ) (tyXO ko κ) (va_A (wXO o ko q κ x) sz)) (va_A (wXO o ko q κ x) sz)) 0 0 (va_A (wXO o ko q κ x) sz) := by
  refine wo_open (by decide) (Nat.le_of_ble_eq_true rfl) ?_
  intro p e s m below meth c ls hsz C hr hlocks htab hAll hP hK hD hl
  subst hsz
  have hx := C.1
  have hb := C.2.1
  have hml := C.2.2.1
  have hown := C.2.2.2.1
  have hts := C.2.2.2.2
  have hA : ∀ j : Nat, s.heap.size ≤ j → va_A (wXO o ko q κ x) s.heap.size j := fun j h => Or.inr h
  have hS : va_S (va_A (wXO o ko q κ x) s.heap.size) s.heap s.heap [] := va_S.rf
  generalize hAe : va_A (wXO o ko q κ x) s.heap.size = A at hA hS hD ⊢
  have hl : lv_has ls 4 [(0, .ref (q 0)), (1, .int (nI ra)), (2, .ref (o))] := hl
  have hPc := hP.sub (ws' := wX q κ x.1) [0, 1, 2, 3, 4] rfl
  have hDc := hD.sub (ws' := wX q κ x.1) [0, 1, 2, 3, 4] (by decide) rfl
  have hKc := hK.sub (tys' := tyX κ) [0, 1, 2, 3] rfl
  refine lv_aload_n hx hb d_L_zeros_0 rfl (lv_at hl 2 rfl) ?_
  refine lv_iconst (v := 0) hx hb d_L_zeros_1 (by decide) ?_
  refine lv_aload_n hx hb d_L_zeros_2 rfl (lv_at hl 0 rfl) ?_
  refine lv_iload_n hx hb d_L_zeros_3 rfl (lv_at hl 1 rfl) ?_
  refine vp_callSi (W.runV (As := [.int (nI ra)]) (rest := [.int (0), .ref (o)]) C (c_X_zeros l D q κ x.1 ra hra s.heap.size) (cwV 1 C.2.2.2.2 (wG_V (fun _ h => h) k_ml_L_47 k_im_X_zeros k_se_X_zeros k_in_X k_X_zeros) rfl rfl rfl (by decide +kernel) ⟨Nat.le_of_ble_eq_true rfl, Nat.le_of_ble_eq_true rfl⟩) ⟨wf_blind, va_recv hKc hPc (ci := 0) (q0 := 0) rfl rfl, wf_pre hPc hKc hDc⟩ rfl rfl hl.1 rfl (lv_room (Nat.le_of_ble_eq_true rfl)) d_L_zeros_4 ⟨Nat.le_of_ble_eq_true rfl, Nat.le_of_ble_eq_true rfl⟩) (fun r hr_ => ?_)
  refine lv_i2l hx hb d_L_zeros_7 rfl ?_
  refine wf_last C hK hP hD hS 5 4 rfl rfl (k := 0) rfl (by decide) (by decide) d_L_zeros_8 (fun H locs hP hD hS => ?_)
  have hP : va_P D vwCl (wXO o ko q κ (x.1, va_up x.2 0 (Int32.toInt64 r))) H := hP
  have hD : va_D A (wXO o ko q κ (x.1, va_up x.2 0 (Int32.toInt64 r))) := hD
  generalize eu_1 : ((x.1, va_up x.2 0 (Int32.toInt64 r)) : SX × (Nat → Int64)) = u_1 at hP hD
  refine lv_goto (tgt := 15) hx hb d_L_zeros_9 (by decide) ?_
  refine lv_iconst (v := 0) hx hb d_L_zeros_15 (by decide) ?_
  exact wf_reti C hr hlocks u_1 (⟨rfl, r, ⟨hr_, by rw [← eu_1]⟩, wf_up0 eu_1⟩) hP hK hD hS (fun _ h => h) d_L_zeros_16

set_option maxHeartbeats 4000000 in
set_option maxRecDepth 100000 in
theorem c_L_compare_ok (l : Launch) (hst : l.stackTraces = false) (D : va_G) (q : Nat → Nat) (κ : Nat → ClassId) (o : Nat) (ko : ClassId) (x : (SX × (Nat → Int64))) (ra : Nat) (hra : ra < 8) (rb : Nat) (hrb : rb < 8) (sz : Nat) : Met l y_L_compare (.codeWith y_L_compare b_L_compare 5 (some .int) [(0, 10, 13, 13)] :: wG) (wf_rm 8 200 0 0) (wf_PcO D vwCl (wXO o ko q κ x) (tyXO ko κ) ([.ref (q 0), .int (nI ra), .int (nI rb), .ref o]) sz) (va_Qi (fun r v => r = 0 ∧ ∃ r : Int32, (r = (if wf_Rx x.1 ra < wf_Rx x.1 rb then -1 else if wf_Rx x.1 rb < wf_Rx x.1 ra then 1 else 0) ∧ v.1 = x.1) ∧ v.2 0 = Int32.toInt64 r) (wf_B D vwCl (wXO o ko q κ) (tyXO ko κ) (va_A (wXO o ko q κ x) sz)) (va_A (wXO o ko q κ x) sz)) 0 0 (va_A (wXO o ko q κ x) sz) := by
  refine wo_open (by decide) (Nat.le_of_ble_eq_true rfl) ?_
  intro p e s m below meth c ls hsz C hr hlocks htab hAll hP hK hD hl
  subst hsz
  have hx := C.1
  have hb := C.2.1
  have hml := C.2.2.1
  have hown := C.2.2.2.1
  have hts := C.2.2.2.2
  have hA : ∀ j : Nat, s.heap.size ≤ j → va_A (wXO o ko q κ x) s.heap.size j := fun j h => Or.inr h
  have hS : va_S (va_A (wXO o ko q κ x) s.heap.size) s.heap s.heap [] := va_S.rf
  generalize hAe : va_A (wXO o ko q κ x) s.heap.size = A at hA hS hD ⊢
  have hl : lv_has ls 5 [(0, .ref (q 0)), (1, .int (nI ra)), (2, .int (nI rb)), (3, .ref (o))] := hl
  have hPc := hP.sub (ws' := wX q κ x.1) [0, 1, 2, 3, 4] rfl
  have hDc := hD.sub (ws' := wX q κ x.1) [0, 1, 2, 3, 4] (by decide) rfl
  have hKc := hK.sub (tys' := tyX κ) [0, 1, 2, 3] rfl
  refine lv_aload_n hx hb d_L_compare_0 rfl (lv_at hl 3 rfl) ?_
  refine lv_iconst (v := 0) hx hb d_L_compare_1 (by decide) ?_
  refine lv_aload_n hx hb d_L_compare_2 rfl (lv_at hl 0 rfl) ?_
  refine lv_iload_n hx hb d_L_compare_3 rfl (lv_at hl 1 rfl) ?_
  refine lv_iload_n hx hb d_L_compare_4 rfl (lv_at hl 2 rfl) ?_
  refine vp_callSi (W.runV (As := [.int (nI ra), .int (nI rb)]) (rest := [.int (0), .ref (o)]) C (c_X_compare l D q κ x.1 ra hra rb hrb s.heap.size) (cwV 2 C.2.2.2.2 (wG_V (fun _ h => h) k_ml_L_51 k_im_X_compare k_se_X_compare k_in_X k_X_compare) rfl rfl rfl (by decide +kernel) ⟨Nat.le_of_ble_eq_true rfl, Nat.le_of_ble_eq_true rfl⟩) ⟨wf_blind, va_recv hKc hPc (ci := 0) (q0 := 0) rfl rfl, wf_pre hPc hKc hDc⟩ rfl rfl hl.1 rfl (lv_room (Nat.le_of_ble_eq_true rfl)) d_L_compare_5 ⟨Nat.le_of_ble_eq_true rfl, Nat.le_of_ble_eq_true rfl⟩) (fun r hr_ => ?_)
  refine lv_i2l hx hb d_L_compare_8 rfl ?_
  refine wf_last C hK hP hD hS 5 4 rfl rfl (k := 0) rfl (by decide) (by decide) d_L_compare_9 (fun H locs hP hD hS => ?_)
  have hP : va_P D vwCl (wXO o ko q κ (x.1, va_up x.2 0 (Int32.toInt64 r))) H := hP
  have hD : va_D A (wXO o ko q κ (x.1, va_up x.2 0 (Int32.toInt64 r))) := hD
  generalize eu_1 : ((x.1, va_up x.2 0 (Int32.toInt64 r)) : SX × (Nat → Int64)) = u_1 at hP hD
  refine lv_goto (tgt := 17) hx hb d_L_compare_10 (by decide) ?_
  refine lv_iconst (v := 0) hx hb d_L_compare_17 (by decide) ?_
  exact wf_reti C hr hlocks u_1 (⟨rfl, r, ⟨hr_, by rw [← eu_1]⟩, wf_up0 eu_1⟩) hP hK hD hS (fun _ h => h) d_L_compare_18

set_option maxHeartbeats 4000000 in
set_option maxRecDepth 100000 in
theorem c_L_digits_ok (l : Launch) (hst : l.stackTraces = false) (D : va_G) (q : Nat → Nat) (κ : Nat → ClassId) (o : Nat) (ko : ClassId) (x : (SX × (Nat → Int64))) (ra : Nat) (hra : ra < 8) (sz : Nat) : Met l y_L_digits (.codeWith y_L_digits b_L_digits 4 (some .int) [(0, 9, 12, 13)] :: wG) (wf_rm 8 200 0 0) (wf_PcO D vwCl (wXO o ko q κ x) (tyXO ko κ) ([.ref (q 0), .int (nI ra), .ref o]) sz) (va_Qi (fun r v => r = 0 ∧ ∃ r : Int32, (∃ (c : Nat) (G : Nat → Nat), r = nI c ∧ c ≤ 39 ∧ wf_DG (wf_Rx x.1 ra) c G ∧ v.1.1 = x.1.1 ∧ v.1.2.1 = x.1.2.1 ∧ v.1.2.2.2.2 = nI (39 - c) ∧ ∀ i, i < c → v.1.2.2.2.1 (39 - c + i) = nI (G i)) ∧ v.2 0 = Int32.toInt64 r) (wf_B D vwCl (wXO o ko q κ) (tyXO ko κ) (va_A (wXO o ko q κ x) sz)) (va_A (wXO o ko q κ x) sz)) 0 0 (va_A (wXO o ko q κ x) sz) := by
  refine wo_open (by decide) (Nat.le_of_ble_eq_true rfl) ?_
  intro p e s m below meth c ls hsz C hr hlocks htab hAll hP hK hD hl
  subst hsz
  have hx := C.1
  have hb := C.2.1
  have hml := C.2.2.1
  have hown := C.2.2.2.1
  have hts := C.2.2.2.2
  have hA : ∀ j : Nat, s.heap.size ≤ j → va_A (wXO o ko q κ x) s.heap.size j := fun j h => Or.inr h
  have hS : va_S (va_A (wXO o ko q κ x) s.heap.size) s.heap s.heap [] := va_S.rf
  generalize hAe : va_A (wXO o ko q κ x) s.heap.size = A at hA hS hD ⊢
  have hl : lv_has ls 4 [(0, .ref (q 0)), (1, .int (nI ra)), (2, .ref (o))] := hl
  have hPc := hP.sub (ws' := wX q κ x.1) [0, 1, 2, 3, 4] rfl
  have hDc := hD.sub (ws' := wX q κ x.1) [0, 1, 2, 3, 4] (by decide) rfl
  have hKc := hK.sub (tys' := tyX κ) [0, 1, 2, 3] rfl
  refine lv_aload_n hx hb d_L_digits_0 rfl (lv_at hl 2 rfl) ?_
  refine lv_iconst (v := 0) hx hb d_L_digits_1 (by decide) ?_
  refine lv_aload_n hx hb d_L_digits_2 rfl (lv_at hl 0 rfl) ?_
  refine lv_iload_n hx hb d_L_digits_3 rfl (lv_at hl 1 rfl) ?_
  refine wj_i (ws := wXO o ko q κ x) (wc := wX q κ x.1) (wr := [(o, .inl (ko, 1, .inr (.inl x.2)))]) (mkAll := fun z => wXO o ko q κ (z, x.2)) [0, 1, 2, 3, 4] [5] [1, 2, 3, 4, 5, 0] rfl rfl (by decide) (by decide) (by decide) (fun _ => rfl) (va_runV (As := [.int (nI ra)]) (rest := [.int (0), .ref (o)]) C (c_X_digits l D q κ x.1 ra hra s.heap.size) (cwV 1 C.2.2.2.2 (wG_V (fun _ h => h) k_ml_L_55 k_im_X_digits k_se_X_digits k_in_X k_X_digits) rfl rfl rfl (by decide +kernel) ⟨Nat.le_of_ble_eq_true rfl, Nat.le_of_ble_eq_true rfl⟩) ⟨wf_blind, va_recv hKc hPc (ci := 0) (q0 := 0) rfl rfl, wf_pre hPc hKc hDc⟩ rfl rfl hl.1 rfl (lv_room (Nat.le_of_ble_eq_true rfl)) d_L_digits_4 ⟨Nat.le_of_ble_eq_true rfl, Nat.le_of_ble_eq_true rfl⟩) (fun _ h => h) hS hP hD hA (fun r z H locs hr_ hP hD hS => ?_)
  obtain ⟨y, ey⟩ : ∃ y : (SX × (Nat → Int64)), y = (z, x.2) := ⟨_, rfl⟩
  rw [← ey] at hP hD
  refine lv_i2l hx hb d_L_digits_7 rfl ?_
  refine wf_last C hK hP hD hS 5 4 rfl rfl (k := 0) rfl (by decide) (by decide) d_L_digits_8 (fun H locs hP hD hS => ?_)
  have hP : va_P D vwCl (wXO o ko q κ (y.1, va_up y.2 0 (Int32.toInt64 r))) H := hP
  have hD : va_D A (wXO o ko q κ (y.1, va_up y.2 0 (Int32.toInt64 r))) := hD
  generalize eu_1 : ((y.1, va_up y.2 0 (Int32.toInt64 r)) : SX × (Nat → Int64)) = u_1 at hP hD
  refine lv_goto (tgt := 15) hx hb d_L_digits_9 (by decide) ?_
  refine lv_iconst (v := 0) hx hb d_L_digits_15 (by decide) ?_
  exact wf_reti C hr hlocks u_1 (⟨rfl, r, by rw [← eu_1, ey]; exact hr_, wf_up0 eu_1⟩) hP hK hD hS (fun _ h => h) d_L_digits_16

set_option maxHeartbeats 4000000 in
set_option maxRecDepth 100000 in
theorem c_L_next_ok (l : Launch) (hst : l.stackTraces = false) (D : va_G) (q : Nat → Nat) (κ : Nat → ClassId) (o : Nat) (ko : ClassId) (x : (SX × (Nat → Int64))) (ra : Nat) (hra : ra < 8) (d : Nat) (hd : d < 10) (sz : Nat) : Met l y_L_next (.codeWith y_L_next b_L_next 5 (some .int) [(0, 17, 20, 13), (0, 17, 24, 30)] :: wG) (wf_rm 8 200 0 0) (wf_PcO D vwCl (wXO o ko q κ x) (tyXO ko κ) ([.ref (q 0), .int (nI ra), .int (nI d), .ref o]) sz) (va_Qi (fun r v => r = 0 ∧ ∃ r : Int32, ((r = 1 ∧ wf_Rx x.1 ra * 10 + d < wf_NN ∧ wf_st x.1 v.1 ra (wf_Rx x.1 ra * 10 + d)) ∨ (r = 0 ∧ wf_NN ≤ wf_Rx x.1 ra * 10 + d ∧ v.1 = x.1)) ∧ v.2 0 = wf_zl r) (wf_B D vwCl (wXO o ko q κ) (tyXO ko κ) (va_A (wXO o ko q κ x) sz)) (va_A (wXO o ko q κ x) sz)) 0 0 (va_A (wXO o ko q κ x) sz) := by
  refine wo_open (by decide) (Nat.le_of_ble_eq_true rfl) ?_
  intro p e s m below meth c ls hsz C hr hlocks htab hAll hP hK hD hl
  subst hsz
  have hx := C.1
  have hb := C.2.1
  have hml := C.2.2.1
  have hown := C.2.2.2.1
  have hts := C.2.2.2.2
  have hA : ∀ j : Nat, s.heap.size ≤ j → va_A (wXO o ko q κ x) s.heap.size j := fun j h => Or.inr h
  have hS : va_S (va_A (wXO o ko q κ x) s.heap.size) s.heap s.heap [] := va_S.rf
  generalize hAe : va_A (wXO o ko q κ x) s.heap.size = A at hA hS hD ⊢
  have hl : lv_has ls 5 [(0, .ref (q 0)), (1, .int (nI ra)), (2, .int (nI d)), (3, .ref (o))] := hl
  have hPc := hP.sub (ws' := wX q κ x.1) [0, 1, 2, 3, 4] rfl
  have hDc := hD.sub (ws' := wX q κ x.1) [0, 1, 2, 3, 4] (by decide) rfl
  have hKc := hK.sub (tys' := tyX κ) [0, 1, 2, 3] rfl
  refine lv_aload_n hx hb d_L_next_0 rfl (lv_at hl 3 rfl) ?_
  refine lv_iconst (v := 0) hx hb d_L_next_1 (by decide) ?_
  refine lv_aload_n hx hb d_L_next_2 rfl (lv_at hl 0 rfl) ?_
  refine lv_iload_n hx hb d_L_next_3 rfl (lv_at hl 1 rfl) ?_
  refine lv_iload_n hx hb d_L_next_4 rfl (lv_at hl 2 rfl) ?_
  refine wj_i (ws := wXO o ko q κ x) (wc := wX q κ x.1) (wr := [(o, .inl (ko, 1, .inr (.inl x.2)))]) (mkAll := fun z => wXO o ko q κ (z, x.2)) [0, 1, 2, 3, 4] [5] [1, 2, 3, 4, 5, 0] rfl rfl (by decide) (by decide) (by decide) (fun _ => rfl) (va_runV (As := [.int (nI ra), .int (nI d)]) (rest := [.int (0), .ref (o)]) C (c_X_next l D q κ x.1 ra hra d hd s.heap.size) (cwV 2 C.2.2.2.2 (wG_V (fun _ h => h) k_ml_L_58 k_im_X_next k_se_X_next k_in_X k_X_next) rfl rfl rfl (by decide +kernel) ⟨Nat.le_of_ble_eq_true rfl, Nat.le_of_ble_eq_true rfl⟩) ⟨wf_blind, va_recv hKc hPc (ci := 0) (q0 := 0) rfl rfl, wf_pre hPc hKc hDc⟩ rfl rfl hl.1 rfl (lv_room (Nat.le_of_ble_eq_true rfl)) d_L_next_5 ⟨Nat.le_of_ble_eq_true rfl, Nat.le_of_ble_eq_true rfl⟩) (fun _ h => h) hS hP hD hA (fun r z H locs hr_ hP hD hS => ?_)
  obtain ⟨y, ey⟩ : ∃ y : (SX × (Nat → Int64)), y = (z, x.2) := ⟨_, rfl⟩
  rw [← ey] at hP hD
  refine lv_if_eq (tgt := 15) hx hb d_L_next_8 (by decide) (fun c_1 => ?_) (fun c_1 => ?_)
  · refine lv_lconst (v := 0) hx hb d_L_next_15 (by decide) ?_
    refine wf_last C hK hP hD hS 5 4 rfl rfl (k := 0) rfl (by decide) (by decide) d_L_next_16 (fun H locs hP hD hS => ?_)
    have hP : va_P D vwCl (wXO o ko q κ (y.1, va_up y.2 0 0)) H := hP
    have hD : va_D A (wXO o ko q κ (y.1, va_up y.2 0 0)) := hD
    generalize eu_2 : ((y.1, va_up y.2 0 0) : SX × (Nat → Int64)) = u_2 at hP hD
    refine lv_goto (tgt := 28) hx hb d_L_next_17 (by decide) ?_
    refine lv_iconst (v := 0) hx hb d_L_next_28 (by decide) ?_
    exact wf_reti C hr hlocks u_2 (⟨rfl, r, by rw [← eu_2, ey]; exact hr_, (wf_up0 eu_2).trans (by unfold wf_zl; rw [if_pos c_1])⟩) hP hK hD hS (fun _ h => h) d_L_next_29
  · refine lv_lconst (v := 1) hx hb d_L_next_11 (by decide) ?_
    refine lv_goto (tgt := 16) hx hb d_L_next_12 (by decide) ?_
    refine wf_last C hK hP hD hS 5 4 rfl rfl (k := 0) rfl (by decide) (by decide) d_L_next_16 (fun H locs hP hD hS => ?_)
    have hP : va_P D vwCl (wXO o ko q κ (y.1, va_up y.2 0 1)) H := hP
    have hD : va_D A (wXO o ko q κ (y.1, va_up y.2 0 1)) := hD
    generalize eu_3 : ((y.1, va_up y.2 0 1) : SX × (Nat → Int64)) = u_3 at hP hD
    refine lv_goto (tgt := 28) hx hb d_L_next_17 (by decide) ?_
    refine lv_iconst (v := 0) hx hb d_L_next_28 (by decide) ?_
    exact wf_reti C hr hlocks u_3 (⟨rfl, r, by rw [← eu_3, ey]; exact hr_, (wf_up0 eu_3).trans (by unfold wf_zl; rw [if_neg c_1])⟩) hP hK hD hS (fun _ h => h) d_L_next_29
