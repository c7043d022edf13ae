/-! ===== the face of the class, where nothing is thrown ===== -/

set_option maxHeartbeats 4000000 in
set_option maxRecDepth 100000 in
/-- X_set -/
theorem c_X_set (l : Launch) (D : va_G) (q : Nat → Nat) (κ : Nat → ClassId) (u : SX) (ra : Nat) (hra : ra < 8) (h lo : Int64) (sz : Nat) : Met l y_X_set (.code y_X_set b_X_set 6 none :: wG) (wf_rm 4 150 0 0) (wf_Pc D vwCl (wX q κ u) (tyX κ) ([.ref (q 0), .int (nI ra), .long h, .long lo]) sz) (va_Qv (fun v => wf_st u v ra (wf_V h lo)) (wf_B D vwCl (wX q κ) (tyX κ) (va_A (wX q κ u) sz)) (va_A (wX q κ u) sz)) 0 0 (va_A (wX q κ u) sz) := by
  refine wf_open (by decide) (Nat.le_of_ble_eq_true rfl) k_X_set ?_
  intro p e s m below meth c ls hsz C hr hlocks hnm hex hP hK hD hl
  subst hsz
  have hx := C.1
  have hb := C.2.1
  have hml := C.2.2.1
  have hown := C.2.2.2.1
  have hts := C.2.2.2.2
  have hA : ∀ j : Nat, s.heap.size ≤ j → va_A (wX q κ u) s.heap.size j := fun j h => Or.inr h
  have hS : va_S (va_A (wX q κ u) s.heap.size) s.heap s.heap [] := va_S.rf
  generalize hAe : va_A (wX q κ u) s.heap.size = A at hA hS hD ⊢
  have hl : lv_has ls 6 [(0, .ref (q 0)), (1, .int (nI ra)), (2, .long (h)), (4, .long (lo))] := hl
  refine lv_iload_n hx hb d_X_set_0 rfl (lv_at hl 1 rfl) ?_
  refine kX_chk (r := ra) hra C hl.1 ⟨Nat.le_of_ble_eq_true rfl, Nat.le_of_ble_eq_true rfl⟩ (Nat.le_of_ble_eq_true rfl) ⟨Nat.le_of_ble_eq_true rfl, Nat.le_of_ble_eq_true rfl⟩ d_X_set_1 ?_
  refine lv_aload_n hx hb d_X_set_4 rfl (lv_at hl 0 rfl) ?_
  refine lv_iload_n hx hb d_X_set_5 rfl (lv_at hl 1 rfl) ?_
  refine lv_lload_n hx hb d_X_set_6 rfl (lv_at hl 2 rfl) ?_
  refine lv_lload hx hb d_X_set_7 (lv_at hl 3 rfl) ?_
  refine kX_store (r := ra) hra C hl.1 ⟨Nat.le_of_ble_eq_true rfl, Nat.le_of_ble_eq_true rfl⟩ (Nat.le_of_ble_eq_true rfl) ⟨Nat.le_of_ble_eq_true rfl, Nat.le_of_ble_eq_true rfl⟩ hP hK hD hS hA d_X_set_9 (fun u_1 H locs eu_1 hP hD hS => ?_)
  exact wf_retv C hr hlocks u_1 (⟨_, _, eu_1, rfl⟩) hP hK hD hS (fun _ h => h) d_X_set_12

set_option maxHeartbeats 4000000 in
set_option maxRecDepth 100000 in
/-- X_half -/
theorem c_X_half (l : Launch) (D : va_G) (q : Nat → Nat) (κ : Nat → ClassId) (u : SX) (ra : Nat) (hra : ra < 8) (z : Int32) (sz : Nat) : Met l y_X_half (.code y_X_half b_X_half 3 (some .long) :: wG) (wf_rm 4 150 0 0) (wf_Pc D vwCl (wX q κ u) (tyX κ) ([.ref (q 0), .int (nI ra), .int z]) sz) (vp_Sl (fun r => r = if z = 0 then u.2.1 ra else u.1 ra)) 0 0 (fun _ => False) := by
  refine wf_open (by decide) (Nat.le_of_ble_eq_true rfl) k_X_half ?_
  intro p e s m below meth c ls hsz C hr hlocks hnm hex hP hK hD hl
  subst hsz
  have hx := C.1
  have hb := C.2.1
  have hml := C.2.2.1
  have hown := C.2.2.2.1
  have hts := C.2.2.2.2
  have hA : ∀ j : Nat, s.heap.size ≤ j → va_A (wX q κ u) s.heap.size j := fun j h => Or.inr h
  have hS : va_S (va_A (wX q κ u) s.heap.size) s.heap s.heap [] := va_S.rf
  generalize hAe : va_A (wX q κ u) s.heap.size = A at hA hS hD ⊢
  have hl : lv_has ls 3 [(0, .ref (q 0)), (1, .int (nI ra)), (2, .int (z))] := hl
  refine lv_iload_n hx hb d_X_half_0 rfl (lv_at hl 1 rfl) ?_
  refine kX_chk (r := ra) hra C hl.1 ⟨Nat.le_of_ble_eq_true rfl, Nat.le_of_ble_eq_true rfl⟩ (Nat.le_of_ble_eq_true rfl) ⟨Nat.le_of_ble_eq_true rfl, Nat.le_of_ble_eq_true rfl⟩ d_X_half_1 ?_
  refine lv_iload_n hx hb d_X_half_4 rfl (lv_at hl 2 rfl) ?_
  refine lv_if_eq (tgt := 17) hx hb d_X_half_5 (by decide) (fun c_1 => ?_) (fun c_1 => ?_)
  · refine lv_aload_n hx hb d_X_half_17 rfl (lv_at hl 0 rfl) ?_
    refine gX C hK hP 0 rfl 1 (by decide) k_fl_X_lows rfl d_X_half_18 ?_
    refine lv_iload_n hx hb d_X_half_21 rfl (lv_at hl 1 rfl) ?_
    refine wf_lald C hK hP 2 1 rfl rfl (k := ra) rfl hra (by decide) d_X_half_22 ?_
    exact W.lret hx hb hr (fun t ht hW => ⟨_, rfl, by rw [if_pos c_1], ht⟩) (fun q h => by cases h) d_X_half_23 hlocks
  · refine lv_aload_n hx hb d_X_half_8 rfl (lv_at hl 0 rfl) ?_
    refine gX C hK hP 0 rfl 0 (by decide) k_fl_X_highs rfl d_X_half_9 ?_
    refine lv_iload_n hx hb d_X_half_12 rfl (lv_at hl 1 rfl) ?_
    refine wf_lald C hK hP 1 0 rfl rfl (k := ra) rfl hra (by decide) d_X_half_13 ?_
    refine lv_goto (tgt := 23) hx hb d_X_half_14 (by decide) ?_
    exact W.lret hx hb hr (fun t ht hW => ⟨_, rfl, by rw [if_neg c_1], ht⟩) (fun q h => by cases h) d_X_half_23 hlocks

set_option maxHeartbeats 4000000 in
set_option maxRecDepth 100000 in
/-- X_add -/
theorem c_X_add (l : Launch) (D : va_G) (q : Nat → Nat) (κ : Nat → ClassId) (u : SX) (ra : Nat) (hra : ra < 8) (rb : Nat) (hrb : rb < 8) (rt : Nat) (hrt : rt < 8) (sz : Nat) : Met l y_X_add (.code y_X_add b_X_add 13 (some .boolean) :: wG) (wf_rm 4 150 0 0) (wf_Pc D vwCl (wX q κ u) (tyX κ) ([.ref (q 0), .int (nI ra), .int (nI rb), .int (nI rt)]) sz) (va_Qi (fun r v => r = wf_bi (decide (wf_NN ≤ wf_Rx u ra + wf_Rx u rb)) ∧ wf_st u v rt ((wf_Rx u ra + wf_Rx u rb) % wf_NN)) (wf_B D vwCl (wX q κ) (tyX κ) (va_A (wX q κ u) sz)) (va_A (wX q κ u) sz)) 0 0 (va_A (wX q κ u) sz) := by
  refine wf_open (by decide) (Nat.le_of_ble_eq_true rfl) k_X_add ?_
  intro p e s m below meth c ls hsz C hr hlocks hnm hex hP hK hD hl
  subst hsz
  have hx := C.1
  have hb := C.2.1
  have hml := C.2.2.1
  have hown := C.2.2.2.1
  have hts := C.2.2.2.2
  have hA : ∀ j : Nat, s.heap.size ≤ j → va_A (wX q κ u) s.heap.size j := fun j h => Or.inr h
  have hS : va_S (va_A (wX q κ u) s.heap.size) s.heap s.heap [] := va_S.rf
  generalize hAe : va_A (wX q κ u) s.heap.size = A at hA hS hD ⊢
  have hl : lv_has ls 13 [(0, .ref (q 0)), (1, .int (nI ra)), (2, .int (nI rb)), (3, .int (nI rt))] := hl
  refine lv_iload_n hx hb d_X_add_0 rfl (lv_at hl 1 rfl) ?_
  refine kX_chk (r := ra) hra C hl.1 ⟨Nat.le_of_ble_eq_true rfl, Nat.le_of_ble_eq_true rfl⟩ (Nat.le_of_ble_eq_true rfl) ⟨Nat.le_of_ble_eq_true rfl, Nat.le_of_ble_eq_true rfl⟩ d_X_add_1 ?_
  refine lv_iload_n hx hb d_X_add_4 rfl (lv_at hl 2 rfl) ?_
  refine kX_chk (r := rb) hrb C hl.1 ⟨Nat.le_of_ble_eq_true rfl, Nat.le_of_ble_eq_true rfl⟩ (Nat.le_of_ble_eq_true rfl) ⟨Nat.le_of_ble_eq_true rfl, Nat.le_of_ble_eq_true rfl⟩ d_X_add_5 ?_
  refine lv_iload_n hx hb d_X_add_8 rfl (lv_at hl 3 rfl) ?_
  refine kX_chk (r := rt) hrt C hl.1 ⟨Nat.le_of_ble_eq_true rfl, Nat.le_of_ble_eq_true rfl⟩ (Nat.le_of_ble_eq_true rfl) ⟨Nat.le_of_ble_eq_true rfl, Nat.le_of_ble_eq_true rfl⟩ d_X_add_9 ?_
  refine lv_aload_n hx hb d_X_add_12 rfl (lv_at hl 0 rfl) ?_
  refine gX C hK hP 0 rfl 1 (by decide) k_fl_X_lows rfl d_X_add_13 ?_
  refine lv_iload_n hx hb d_X_add_16 rfl (lv_at hl 1 rfl) ?_
  refine wf_lald C hK hP 2 1 rfl rfl (k := ra) rfl hra (by decide) d_X_add_17 ?_
  refine lv_aload_n hx hb d_X_add_18 rfl (lv_at hl 0 rfl) ?_
  refine gX C hK hP 0 rfl 1 (by decide) k_fl_X_lows rfl d_X_add_19 ?_
  refine lv_iload_n hx hb d_X_add_22 rfl (lv_at hl 2 rfl) ?_
  refine wf_lald C hK hP 2 1 rfl rfl (k := rb) rfl hrb (by decide) d_X_add_23 ?_
  refine lv_ladd hx hb d_X_add_24 ?_
  refine lv_topl (fun v_1 ev_1 => ?_)
  refine lv_lstore (lv' := [(4, .long (v_1)), (0, .ref (q 0)), (1, .int (nI ra)), (2, .int (nI rb)), (3, .int (nI rt))]) hx hb d_X_add_25 hl (by decide) rfl (fun ls hl => ?_)
  refine lv_lload hx hb d_X_add_27 (lv_at hl 0 rfl) ?_
  refine lv_aload_n hx hb d_X_add_29 rfl (lv_at hl 1 rfl) ?_
  refine gX C hK hP 0 rfl 1 (by decide) k_fl_X_lows rfl d_X_add_30 ?_
  refine lv_iload_n hx hb d_X_add_33 rfl (lv_at hl 2 rfl) ?_
  refine wf_lald C hK hP 2 1 rfl rfl (k := ra) rfl hra (by decide) d_X_add_34 ?_
  refine kX_one C hl.1 ⟨Nat.le_of_ble_eq_true rfl, Nat.le_of_ble_eq_true rfl⟩ (Nat.le_of_ble_eq_true rfl) ⟨Nat.le_of_ble_eq_true rfl, Nat.le_of_ble_eq_true rfl⟩ d_X_add_35 ?_
  refine lv_topl (fun v_2 ev_2 => ?_)
  refine lv_lstore (lv' := [(6, .long (v_2)), (4, .long (v_1)), (0, .ref (q 0)), (1, .int (nI ra)), (2, .int (nI rb)), (3, .int (nI rt))]) hx hb d_X_add_38 hl (by decide) rfl (fun ls hl => ?_)
  refine lv_aload_n hx hb d_X_add_40 rfl (lv_at hl 2 rfl) ?_
  refine gX C hK hP 0 rfl 0 (by decide) k_fl_X_highs rfl d_X_add_41 ?_
  refine lv_iload_n hx hb d_X_add_44 rfl (lv_at hl 3 rfl) ?_
  refine wf_lald C hK hP 1 0 rfl rfl (k := ra) rfl hra (by decide) d_X_add_45 ?_
  refine lv_aload_n hx hb d_X_add_46 rfl (lv_at hl 2 rfl) ?_
  refine gX C hK hP 0 rfl 0 (by decide) k_fl_X_highs rfl d_X_add_47 ?_
  refine lv_iload_n hx hb d_X_add_50 rfl (lv_at hl 4 rfl) ?_
  refine wf_lald C hK hP 1 0 rfl rfl (k := rb) rfl hrb (by decide) d_X_add_51 ?_
  refine lv_ladd hx hb d_X_add_52 ?_
  refine lv_topl (fun v_3 ev_3 => ?_)
  refine lv_lstore (lv' := [(8, .long (v_3)), (6, .long (v_2)), (4, .long (v_1)), (0, .ref (q 0)), (1, .int (nI ra)), (2, .int (nI rb)), (3, .int (nI rt))]) hx hb d_X_add_53 hl (by decide) rfl (fun ls hl => ?_)
  refine lv_lload hx hb d_X_add_55 (lv_at hl 0 rfl) ?_
  refine lv_lload hx hb d_X_add_57 (lv_at hl 1 rfl) ?_
  refine lv_ladd hx hb d_X_add_59 ?_
  refine lv_topl (fun v_4 ev_4 => ?_)
  refine lv_lstore (lv' := [(10, .long (v_4)), (8, .long (v_3)), (6, .long (v_2)), (4, .long (v_1)), (0, .ref (q 0)), (1, .int (nI ra)), (2, .int (nI rb)), (3, .int (nI rt))]) hx hb d_X_add_60 hl (by decide) rfl (fun ls hl => ?_)
  refine lv_lload hx hb d_X_add_62 (lv_at hl 1 rfl) ?_
  refine lv_aload_n hx hb d_X_add_64 rfl (lv_at hl 4 rfl) ?_
  refine gX C hK hP 0 rfl 0 (by decide) k_fl_X_highs rfl d_X_add_65 ?_
  refine lv_iload_n hx hb d_X_add_68 rfl (lv_at hl 5 rfl) ?_
  refine wf_lald C hK hP 1 0 rfl rfl (k := ra) rfl hra (by decide) d_X_add_69 ?_
  refine kX_one C hl.1 ⟨Nat.le_of_ble_eq_true rfl, Nat.le_of_ble_eq_true rfl⟩ (Nat.le_of_ble_eq_true rfl) ⟨Nat.le_of_ble_eq_true rfl, Nat.le_of_ble_eq_true rfl⟩ d_X_add_70 ?_
  refine lv_lload hx hb d_X_add_73 (lv_at hl 0 rfl) ?_
  refine lv_lload hx hb d_X_add_75 (lv_at hl 2 rfl) ?_
  refine kX_one C hl.1 ⟨Nat.le_of_ble_eq_true rfl, Nat.le_of_ble_eq_true rfl⟩ (Nat.le_of_ble_eq_true rfl) ⟨Nat.le_of_ble_eq_true rfl, Nat.le_of_ble_eq_true rfl⟩ d_X_add_77 ?_
  refine lv_ladd hx hb d_X_add_80 ?_
  refine lv_lconst (v := 0) hx hb d_X_add_81 (by decide) ?_
  refine W.lcmp hx hb d_X_add_82 ?_
  refine lv_if_eq (tgt := 90) hx hb d_X_add_83 (by decide) (fun c_5 => ?_) (fun c_5 => ?_)
  · refine lv_iconst (v := 0) hx hb d_X_add_90 (by decide) ?_
    refine lv_istore (lv' := [(12, .int (0)), (10, .long (v_4)), (8, .long (v_3)), (6, .long (v_2)), (4, .long (v_1)), (0, .ref (q 0)), (1, .int (nI ra)), (2, .int (nI rb)), (3, .int (nI rt))]) hx hb d_X_add_91 hl (by decide) rfl (fun ls hl => ?_)
    refine lv_aload_n hx hb d_X_add_93 rfl (lv_at hl 5 rfl) ?_
    refine lv_iload_n hx hb d_X_add_94 rfl (lv_at hl 8 rfl) ?_
    refine lv_lload hx hb d_X_add_95 (lv_at hl 1 rfl) ?_
    refine lv_lload hx hb d_X_add_97 (lv_at hl 4 rfl) ?_
    refine kX_store (r := rt) hrt C hl.1 ⟨Nat.le_of_ble_eq_true rfl, Nat.le_of_ble_eq_true rfl⟩ (Nat.le_of_ble_eq_true rfl) ⟨Nat.le_of_ble_eq_true rfl, Nat.le_of_ble_eq_true rfl⟩ hP hK hD hS hA d_X_add_99 (fun u_6 H locs eu_6 hP hD hS => ?_)
    refine lv_iload hx hb d_X_add_102 (lv_at hl 0 rfl) ?_
    subst ev_1 ev_2 ev_3 ev_4
    exact wf_retz C hr (rfl) hlocks u_6 (⟨by rw [decide_eq_false (show ¬ wf_NN ≤ wf_Rx u ra + wf_Rx u rb from fun h => (wf_add _ _ _ _).2.mpr h ((lg_cmp_eq _ _).mp c_5))]; rfl, ⟨_, _, eu_6, (wf_add _ _ _ _).1⟩⟩) hP hK hD hS (fun _ h => h) d_X_add_104
  · refine lv_iconst (v := 1) hx hb d_X_add_86 (by decide) ?_
    refine lv_goto (tgt := 91) hx hb d_X_add_87 (by decide) ?_
    refine lv_istore (lv' := [(12, .int (1)), (10, .long (v_4)), (8, .long (v_3)), (6, .long (v_2)), (4, .long (v_1)), (0, .ref (q 0)), (1, .int (nI ra)), (2, .int (nI rb)), (3, .int (nI rt))]) hx hb d_X_add_91 hl (by decide) rfl (fun ls hl => ?_)
    refine lv_aload_n hx hb d_X_add_93 rfl (lv_at hl 5 rfl) ?_
    refine lv_iload_n hx hb d_X_add_94 rfl (lv_at hl 8 rfl) ?_
    refine lv_lload hx hb d_X_add_95 (lv_at hl 1 rfl) ?_
    refine lv_lload hx hb d_X_add_97 (lv_at hl 4 rfl) ?_
    refine kX_store (r := rt) hrt C hl.1 ⟨Nat.le_of_ble_eq_true rfl, Nat.le_of_ble_eq_true rfl⟩ (Nat.le_of_ble_eq_true rfl) ⟨Nat.le_of_ble_eq_true rfl, Nat.le_of_ble_eq_true rfl⟩ hP hK hD hS hA d_X_add_99 (fun u_7 H locs eu_7 hP hD hS => ?_)
    refine lv_iload hx hb d_X_add_102 (lv_at hl 0 rfl) ?_
    subst ev_1 ev_2 ev_3 ev_4
    exact wf_retz C hr (rfl) hlocks u_7 (⟨by rw [decide_eq_true (show wf_NN ≤ wf_Rx u ra + wf_Rx u rb from (wf_add _ _ _ _).2.mp (fun h => c_5 ((lg_cmp_eq _ _).mpr h)))]; rfl, ⟨_, _, eu_7, (wf_add _ _ _ _).1⟩⟩) hP hK hD hS (fun _ h => h) d_X_add_104

set_option maxHeartbeats 4000000 in
set_option maxRecDepth 100000 in
/-- X_subtract -/
theorem c_X_subtract (l : Launch) (D : va_G) (q : Nat → Nat) (κ : Nat → ClassId) (u : SX) (ra : Nat) (hra : ra < 8) (rb : Nat) (hrb : rb < 8) (rt : Nat) (hrt : rt < 8) (sz : Nat) : Met l y_X_subtract (.code y_X_subtract b_X_subtract 7 (some .boolean) :: wG) (wf_rm 4 150 0 0) (wf_Pc D vwCl (wX q κ u) (tyX κ) ([.ref (q 0), .int (nI ra), .int (nI rb), .int (nI rt)]) sz) (va_Qi (fun r v => r = wf_bi (decide (wf_Rx u ra < wf_Rx u rb)) ∧ wf_st u v rt ((wf_Rx u ra + wf_NN - wf_Rx u rb) % wf_NN)) (wf_B D vwCl (wX q κ) (tyX κ) (va_A (wX q κ u) sz)) (va_A (wX q κ u) sz)) 0 0 (va_A (wX q κ u) sz) := by
  refine wf_open (by decide) (Nat.le_of_ble_eq_true rfl) k_X_subtract ?_
  intro p e s m below meth c ls hsz C hr hlocks hnm hex hP hK hD hl
  subst hsz
  have hx := C.1
  have hb := C.2.1
  have hml := C.2.2.1
  have hown := C.2.2.2.1
  have hts := C.2.2.2.2
  have hA : ∀ j : Nat, s.heap.size ≤ j → va_A (wX q κ u) s.heap.size j := fun j h => Or.inr h
  have hS : va_S (va_A (wX q κ u) s.heap.size) s.heap s.heap [] := va_S.rf
  generalize hAe : va_A (wX q κ u) s.heap.size = A at hA hS hD ⊢
  have hl : lv_has ls 7 [(0, .ref (q 0)), (1, .int (nI ra)), (2, .int (nI rb)), (3, .int (nI rt))] := hl
  refine lv_iload_n hx hb d_X_subtract_0 rfl (lv_at hl 1 rfl) ?_
  refine kX_chk (r := ra) hra C hl.1 ⟨Nat.le_of_ble_eq_true rfl, Nat.le_of_ble_eq_true rfl⟩ (Nat.le_of_ble_eq_true rfl) ⟨Nat.le_of_ble_eq_true rfl, Nat.le_of_ble_eq_true rfl⟩ d_X_subtract_1 ?_
  refine lv_iload_n hx hb d_X_subtract_4 rfl (lv_at hl 2 rfl) ?_
  refine kX_chk (r := rb) hrb C hl.1 ⟨Nat.le_of_ble_eq_true rfl, Nat.le_of_ble_eq_true rfl⟩ (Nat.le_of_ble_eq_true rfl) ⟨Nat.le_of_ble_eq_true rfl, Nat.le_of_ble_eq_true rfl⟩ d_X_subtract_5 ?_
  refine lv_iload_n hx hb d_X_subtract_8 rfl (lv_at hl 3 rfl) ?_
  refine kX_chk (r := rt) hrt C hl.1 ⟨Nat.le_of_ble_eq_true rfl, Nat.le_of_ble_eq_true rfl⟩ (Nat.le_of_ble_eq_true rfl) ⟨Nat.le_of_ble_eq_true rfl, Nat.le_of_ble_eq_true rfl⟩ d_X_subtract_9 ?_
  refine lv_aload_n hx hb d_X_subtract_12 rfl (lv_at hl 0 rfl) ?_
  refine gX C hK hP 0 rfl 0 (by decide) k_fl_X_highs rfl d_X_subtract_13 ?_
  refine lv_iload_n hx hb d_X_subtract_16 rfl (lv_at hl 1 rfl) ?_
  refine wf_lald C hK hP 1 0 rfl rfl (k := ra) rfl hra (by decide) d_X_subtract_17 ?_
  refine lv_aload_n hx hb d_X_subtract_18 rfl (lv_at hl 0 rfl) ?_
  refine gX C hK hP 0 rfl 1 (by decide) k_fl_X_lows rfl d_X_subtract_19 ?_
  refine lv_iload_n hx hb d_X_subtract_22 rfl (lv_at hl 1 rfl) ?_
  refine wf_lald C hK hP 2 1 rfl rfl (k := ra) rfl hra (by decide) d_X_subtract_23 ?_
  refine lv_aload_n hx hb d_X_subtract_24 rfl (lv_at hl 0 rfl) ?_
  refine gX C hK hP 0 rfl 0 (by decide) k_fl_X_highs rfl d_X_subtract_25 ?_
  refine lv_iload_n hx hb d_X_subtract_28 rfl (lv_at hl 2 rfl) ?_
  refine wf_lald C hK hP 1 0 rfl rfl (k := rb) rfl hrb (by decide) d_X_subtract_29 ?_
  refine lv_aload_n hx hb d_X_subtract_30 rfl (lv_at hl 0 rfl) ?_
  refine gX C hK hP 0 rfl 1 (by decide) k_fl_X_lows rfl d_X_subtract_31 ?_
  refine lv_iload_n hx hb d_X_subtract_34 rfl (lv_at hl 2 rfl) ?_
  refine wf_lald C hK hP 2 1 rfl rfl (k := rb) rfl hrb (by decide) d_X_subtract_35 ?_
  refine kX_below C hl.1 ⟨Nat.le_of_ble_eq_true rfl, Nat.le_of_ble_eq_true rfl⟩ (Nat.le_of_ble_eq_true rfl) ⟨Nat.le_of_ble_eq_true rfl, Nat.le_of_ble_eq_true rfl⟩ d_X_subtract_36 ?_
  refine lv_istore (lv' := [(4, .int (wf_bi (decide (wf_V (u.1 ra) (u.2.1 ra) < wf_V (u.1 rb) (u.2.1 rb))))), (0, .ref (q 0)), (1, .int (nI ra)), (2, .int (nI rb)), (3, .int (nI rt))]) hx hb d_X_subtract_39 hl (by decide) rfl (fun ls hl => ?_)
  refine lv_aload_n hx hb d_X_subtract_41 rfl (lv_at hl 1 rfl) ?_
  refine gX C hK hP 0 rfl 0 (by decide) k_fl_X_highs rfl d_X_subtract_42 ?_
  refine lv_iload_n hx hb d_X_subtract_45 rfl (lv_at hl 2 rfl) ?_
  refine wf_lald C hK hP 1 0 rfl rfl (k := ra) rfl hra (by decide) d_X_subtract_46 ?_
  refine lv_aload_n hx hb d_X_subtract_47 rfl (lv_at hl 1 rfl) ?_
  refine gX C hK hP 0 rfl 0 (by decide) k_fl_X_highs rfl d_X_subtract_48 ?_
  refine lv_iload_n hx hb d_X_subtract_51 rfl (lv_at hl 3 rfl) ?_
  refine wf_lald C hK hP 1 0 rfl rfl (k := rb) rfl hrb (by decide) d_X_subtract_52 ?_
  refine lv_lsub hx hb d_X_subtract_53 ?_
  refine lv_aload_n hx hb d_X_subtract_54 rfl (lv_at hl 1 rfl) ?_
  refine gX C hK hP 0 rfl 1 (by decide) k_fl_X_lows rfl d_X_subtract_55 ?_
  refine lv_iload_n hx hb d_X_subtract_58 rfl (lv_at hl 2 rfl) ?_
  refine wf_lald C hK hP 2 1 rfl rfl (k := ra) rfl hra (by decide) d_X_subtract_59 ?_
  refine lv_aload_n hx hb d_X_subtract_60 rfl (lv_at hl 1 rfl) ?_
  refine gX C hK hP 0 rfl 1 (by decide) k_fl_X_lows rfl d_X_subtract_61 ?_
  refine lv_iload_n hx hb d_X_subtract_64 rfl (lv_at hl 3 rfl) ?_
  refine wf_lald C hK hP 2 1 rfl rfl (k := rb) rfl hrb (by decide) d_X_subtract_65 ?_
  refine kX_one C hl.1 ⟨Nat.le_of_ble_eq_true rfl, Nat.le_of_ble_eq_true rfl⟩ (Nat.le_of_ble_eq_true rfl) ⟨Nat.le_of_ble_eq_true rfl, Nat.le_of_ble_eq_true rfl⟩ d_X_subtract_66 ?_
  refine lv_lsub hx hb d_X_subtract_69 ?_
  refine lv_topl (fun v_1 ev_1 => ?_)
  refine lv_lstore (lv' := [(5, .long (v_1)), (4, .int (wf_bi (decide (wf_V (u.1 ra) (u.2.1 ra) < wf_V (u.1 rb) (u.2.1 rb))))), (0, .ref (q 0)), (1, .int (nI ra)), (2, .int (nI rb)), (3, .int (nI rt))]) hx hb d_X_subtract_70 hl (by decide) rfl (fun ls hl => ?_)
  refine lv_aload_n hx hb d_X_subtract_72 rfl (lv_at hl 2 rfl) ?_
  refine lv_iload_n hx hb d_X_subtract_73 rfl (lv_at hl 5 rfl) ?_
  refine lv_lload hx hb d_X_subtract_74 (lv_at hl 0 rfl) ?_
  refine lv_aload_n hx hb d_X_subtract_76 rfl (lv_at hl 2 rfl) ?_
  refine gX C hK hP 0 rfl 1 (by decide) k_fl_X_lows rfl d_X_subtract_77 ?_
  refine lv_iload_n hx hb d_X_subtract_80 rfl (lv_at hl 3 rfl) ?_
  refine wf_lald C hK hP 2 1 rfl rfl (k := ra) rfl hra (by decide) d_X_subtract_81 ?_
  refine lv_aload_n hx hb d_X_subtract_82 rfl (lv_at hl 2 rfl) ?_
  refine gX C hK hP 0 rfl 1 (by decide) k_fl_X_lows rfl d_X_subtract_83 ?_
  refine lv_iload_n hx hb d_X_subtract_86 rfl (lv_at hl 4 rfl) ?_
  refine wf_lald C hK hP 2 1 rfl rfl (k := rb) rfl hrb (by decide) d_X_subtract_87 ?_
  refine lv_lsub hx hb d_X_subtract_88 ?_
  refine kX_store (r := rt) hrt C hl.1 ⟨Nat.le_of_ble_eq_true rfl, Nat.le_of_ble_eq_true rfl⟩ (Nat.le_of_ble_eq_true rfl) ⟨Nat.le_of_ble_eq_true rfl, Nat.le_of_ble_eq_true rfl⟩ hP hK hD hS hA d_X_subtract_89 (fun u_2 H locs eu_2 hP hD hS => ?_)
  refine lv_iload hx hb d_X_subtract_92 (lv_at hl 1 rfl) ?_
  subst ev_1
  exact wf_retz C hr (wf_bi_ret _) hlocks u_2 (⟨rfl, ⟨_, _, eu_2, wf_sub _ _ _ _⟩⟩) hP hK hD hS (fun _ h => h) d_X_subtract_94

set_option maxHeartbeats 4000000 in
set_option maxRecDepth 100000 in
/-- X_multiply -/
theorem c_X_multiply (l : Launch) (D : va_G) (q : Nat → Nat) (κ : Nat → ClassId) (u : SX) (ra : Nat) (hra : ra < 8) (rb : Nat) (hrb : rb < 8) (ro : Nat) (hro : ro < 8) (rt : Nat) (hrt : rt < 8) (hne : ¬ nI ro = nI rt) (sz : Nat) : Met l y_X_multiply (.code y_X_multiply b_X_multiply 5 none :: wG) (wf_rm 4 150 0 0) (wf_Pc D vwCl (wX q κ u) (tyX κ) ([.ref (q 0), .int (nI ra), .int (nI rb), .int (nI ro), .int (nI rt)]) sz) (va_Qv (fun v => ∃ w : SX, wf_st u w ro (wf_Rx u ra * wf_Rx u rb / wf_NN) ∧ wf_st w v rt (wf_Rx u ra * wf_Rx u rb % wf_NN)) (wf_B D vwCl (wX q κ) (tyX κ) (va_A (wX q κ u) sz)) (va_A (wX q κ u) sz)) 0 0 (va_A (wX q κ u) sz) := by
  refine wf_open (by decide) (Nat.le_of_ble_eq_true rfl) k_X_multiply ?_
  intro p e s m below meth c ls hsz C hr hlocks hnm hex hP hK hD hl
  subst hsz
  have hx := C.1
  have hb := C.2.1
  have hml := C.2.2.1
  have hown := C.2.2.2.1
  have hts := C.2.2.2.2
  have hA : ∀ j : Nat, s.heap.size ≤ j → va_A (wX q κ u) s.heap.size j := fun j h => Or.inr h
  have hS : va_S (va_A (wX q κ u) s.heap.size) s.heap s.heap [] := va_S.rf
  generalize hAe : va_A (wX q κ u) s.heap.size = A at hA hS hD ⊢
  have hl : lv_has ls 5 [(0, .ref (q 0)), (1, .int (nI ra)), (2, .int (nI rb)), (3, .int (nI ro)), (4, .int (nI rt))] := hl
  refine lv_iload_n hx hb d_X_multiply_0 rfl (lv_at hl 1 rfl) ?_
  refine kX_chk (r := ra) hra C hl.1 ⟨Nat.le_of_ble_eq_true rfl, Nat.le_of_ble_eq_true rfl⟩ (Nat.le_of_ble_eq_true rfl) ⟨Nat.le_of_ble_eq_true rfl, Nat.le_of_ble_eq_true rfl⟩ d_X_multiply_1 ?_
  refine lv_iload_n hx hb d_X_multiply_4 rfl (lv_at hl 2 rfl) ?_
  refine kX_chk (r := rb) hrb C hl.1 ⟨Nat.le_of_ble_eq_true rfl, Nat.le_of_ble_eq_true rfl⟩ (Nat.le_of_ble_eq_true rfl) ⟨Nat.le_of_ble_eq_true rfl, Nat.le_of_ble_eq_true rfl⟩ d_X_multiply_5 ?_
  refine lv_iload_n hx hb d_X_multiply_8 rfl (lv_at hl 3 rfl) ?_
  refine kX_chk (r := ro) hro C hl.1 ⟨Nat.le_of_ble_eq_true rfl, Nat.le_of_ble_eq_true rfl⟩ (Nat.le_of_ble_eq_true rfl) ⟨Nat.le_of_ble_eq_true rfl, Nat.le_of_ble_eq_true rfl⟩ d_X_multiply_9 ?_
  refine lv_iload hx hb d_X_multiply_12 (lv_at hl 4 rfl) ?_
  refine kX_chk (r := rt) hrt C hl.1 ⟨Nat.le_of_ble_eq_true rfl, Nat.le_of_ble_eq_true rfl⟩ (Nat.le_of_ble_eq_true rfl) ⟨Nat.le_of_ble_eq_true rfl, Nat.le_of_ble_eq_true rfl⟩ d_X_multiply_14 ?_
  refine lv_iload_n hx hb d_X_multiply_17 rfl (lv_at hl 3 rfl) ?_
  refine lv_iload hx hb d_X_multiply_18 (lv_at hl 4 rfl) ?_
  refine kX_apart hne C hl.1 ⟨Nat.le_of_ble_eq_true rfl, Nat.le_of_ble_eq_true rfl⟩ (Nat.le_of_ble_eq_true rfl) ⟨Nat.le_of_ble_eq_true rfl, Nat.le_of_ble_eq_true rfl⟩ d_X_multiply_20 ?_
  refine lv_aload_n hx hb d_X_multiply_23 rfl (lv_at hl 0 rfl) ?_
  refine lv_aload_n hx hb d_X_multiply_24 rfl (lv_at hl 0 rfl) ?_
  refine gX C hK hP 0 rfl 0 (by decide) k_fl_X_highs rfl d_X_multiply_25 ?_
  refine lv_iload_n hx hb d_X_multiply_28 rfl (lv_at hl 1 rfl) ?_
  refine wf_lald C hK hP 1 0 rfl rfl (k := ra) rfl hra (by decide) d_X_multiply_29 ?_
  refine lv_aload_n hx hb d_X_multiply_30 rfl (lv_at hl 0 rfl) ?_
  refine gX C hK hP 0 rfl 1 (by decide) k_fl_X_lows rfl d_X_multiply_31 ?_
  refine lv_iload_n hx hb d_X_multiply_34 rfl (lv_at hl 1 rfl) ?_
  refine wf_lald C hK hP 2 1 rfl rfl (k := ra) rfl hra (by decide) d_X_multiply_35 ?_
  refine lv_aload_n hx hb d_X_multiply_36 rfl (lv_at hl 0 rfl) ?_
  refine gX C hK hP 0 rfl 0 (by decide) k_fl_X_highs rfl d_X_multiply_37 ?_
  refine lv_iload_n hx hb d_X_multiply_40 rfl (lv_at hl 2 rfl) ?_
  refine wf_lald C hK hP 1 0 rfl rfl (k := rb) rfl hrb (by decide) d_X_multiply_41 ?_
  refine lv_aload_n hx hb d_X_multiply_42 rfl (lv_at hl 0 rfl) ?_
  refine gX C hK hP 0 rfl 1 (by decide) k_fl_X_lows rfl d_X_multiply_43 ?_
  refine lv_iload_n hx hb d_X_multiply_46 rfl (lv_at hl 2 rfl) ?_
  refine wf_lald C hK hP 2 1 rfl rfl (k := rb) rfl hrb (by decide) d_X_multiply_47 ?_
  refine lv_iload_n hx hb d_X_multiply_48 rfl (lv_at hl 3 rfl) ?_
  refine lv_iload hx hb d_X_multiply_49 (lv_at hl 4 rfl) ?_
  refine kX_product hro hrt C hl.1 ⟨Nat.le_of_ble_eq_true rfl, Nat.le_of_ble_eq_true rfl⟩ (Nat.le_of_ble_eq_true rfl) ⟨Nat.le_of_ble_eq_true rfl, Nat.le_of_ble_eq_true rfl⟩ hP hK hD hS hA d_X_multiply_51 (fun u_1 H locs eu_1 hP hD hS => ?_)
  exact wf_retv C hr hlocks u_1 (eu_1) hP hK hD hS (fun _ h => h) d_X_multiply_54

set_option maxHeartbeats 4000000 in
set_option maxRecDepth 100000 in
/-- X_divide -/
theorem c_X_divide (l : Launch) (D : va_G) (q : Nat → Nat) (κ : Nat → ClassId) (u : SX) (ra : Nat) (hra : ra < 8) (rb : Nat) (hrb : rb < 8) (ro : Nat) (hro : ro < 8) (rt : Nat) (hrt : rt < 8) (hne : ¬ nI ro = nI rt) (hb0 : 0 < wf_Rx u rb) (sz : Nat) : Met l y_X_divide (.code y_X_divide b_X_divide 5 none :: wG) (wf_rm 4 150 0 0) (wf_Pc D vwCl (wX q κ u) (tyX κ) ([.ref (q 0), .int (nI ra), .int (nI rb), .int (nI ro), .int (nI rt)]) sz) (va_Qv (fun v => ∃ w : SX, wf_st u w ro (wf_Rx u ra / wf_Rx u rb) ∧ wf_st w v rt (wf_Rx u ra % wf_Rx u rb)) (wf_B D vwCl (wX q κ) (tyX κ) (va_A (wX q κ u) sz)) (va_A (wX q κ u) sz)) 0 0 (va_A (wX q κ u) sz) := by
  refine wf_open (by decide) (Nat.le_of_ble_eq_true rfl) k_X_divide ?_
  intro p e s m below meth c ls hsz C hr hlocks hnm hex hP hK hD hl
  subst hsz
  have hx := C.1
  have hb := C.2.1
  have hml := C.2.2.1
  have hown := C.2.2.2.1
  have hts := C.2.2.2.2
  have hA : ∀ j : Nat, s.heap.size ≤ j → va_A (wX q κ u) s.heap.size j := fun j h => Or.inr h
  have hS : va_S (va_A (wX q κ u) s.heap.size) s.heap s.heap [] := va_S.rf
  generalize hAe : va_A (wX q κ u) s.heap.size = A at hA hS hD ⊢
  have hl : lv_has ls 5 [(0, .ref (q 0)), (1, .int (nI ra)), (2, .int (nI rb)), (3, .int (nI ro)), (4, .int (nI rt))] := hl
  refine lv_iload_n hx hb d_X_divide_0 rfl (lv_at hl 1 rfl) ?_
  refine kX_chk (r := ra) hra C hl.1 ⟨Nat.le_of_ble_eq_true rfl, Nat.le_of_ble_eq_true rfl⟩ (Nat.le_of_ble_eq_true rfl) ⟨Nat.le_of_ble_eq_true rfl, Nat.le_of_ble_eq_true rfl⟩ d_X_divide_1 ?_
  refine lv_iload_n hx hb d_X_divide_4 rfl (lv_at hl 2 rfl) ?_
  refine kX_chk (r := rb) hrb C hl.1 ⟨Nat.le_of_ble_eq_true rfl, Nat.le_of_ble_eq_true rfl⟩ (Nat.le_of_ble_eq_true rfl) ⟨Nat.le_of_ble_eq_true rfl, Nat.le_of_ble_eq_true rfl⟩ d_X_divide_5 ?_
  refine lv_iload_n hx hb d_X_divide_8 rfl (lv_at hl 3 rfl) ?_
  refine kX_chk (r := ro) hro C hl.1 ⟨Nat.le_of_ble_eq_true rfl, Nat.le_of_ble_eq_true rfl⟩ (Nat.le_of_ble_eq_true rfl) ⟨Nat.le_of_ble_eq_true rfl, Nat.le_of_ble_eq_true rfl⟩ d_X_divide_9 ?_
  refine lv_iload hx hb d_X_divide_12 (lv_at hl 4 rfl) ?_
  refine kX_chk (r := rt) hrt C hl.1 ⟨Nat.le_of_ble_eq_true rfl, Nat.le_of_ble_eq_true rfl⟩ (Nat.le_of_ble_eq_true rfl) ⟨Nat.le_of_ble_eq_true rfl, Nat.le_of_ble_eq_true rfl⟩ d_X_divide_14 ?_
  refine lv_iload_n hx hb d_X_divide_17 rfl (lv_at hl 3 rfl) ?_
  refine lv_iload hx hb d_X_divide_18 (lv_at hl 4 rfl) ?_
  refine kX_apart hne C hl.1 ⟨Nat.le_of_ble_eq_true rfl, Nat.le_of_ble_eq_true rfl⟩ (Nat.le_of_ble_eq_true rfl) ⟨Nat.le_of_ble_eq_true rfl, Nat.le_of_ble_eq_true rfl⟩ d_X_divide_20 ?_
  refine lv_aload_n hx hb d_X_divide_23 rfl (lv_at hl 0 rfl) ?_
  refine gX C hK hP 0 rfl 0 (by decide) k_fl_X_highs rfl d_X_divide_24 ?_
  refine lv_iload_n hx hb d_X_divide_27 rfl (lv_at hl 2 rfl) ?_
  refine wf_lald C hK hP 1 0 rfl rfl (k := rb) rfl hrb (by decide) d_X_divide_28 ?_
  refine lv_lconst (v := 0) hx hb d_X_divide_29 (by decide) ?_
  refine W.lcmp hx hb d_X_divide_30 ?_
  refine lv_if_ne (tgt := 55) hx hb d_X_divide_31 (by decide) (fun c_1 => ?_) (fun c_1 => ?_)
  · refine lv_aload_n hx hb d_X_divide_55 rfl (lv_at hl 0 rfl) ?_
    refine lv_aload_n hx hb d_X_divide_56 rfl (lv_at hl 0 rfl) ?_
    refine gX C hK hP 0 rfl 0 (by decide) k_fl_X_highs rfl d_X_divide_57 ?_
    refine lv_iload_n hx hb d_X_divide_60 rfl (lv_at hl 1 rfl) ?_
    refine wf_lald C hK hP 1 0 rfl rfl (k := ra) rfl hra (by decide) d_X_divide_61 ?_
    refine lv_aload_n hx hb d_X_divide_62 rfl (lv_at hl 0 rfl) ?_
    refine gX C hK hP 0 rfl 1 (by decide) k_fl_X_lows rfl d_X_divide_63 ?_
    refine lv_iload_n hx hb d_X_divide_66 rfl (lv_at hl 1 rfl) ?_
    refine wf_lald C hK hP 2 1 rfl rfl (k := ra) rfl hra (by decide) d_X_divide_67 ?_
    refine lv_aload_n hx hb d_X_divide_68 rfl (lv_at hl 0 rfl) ?_
    refine gX C hK hP 0 rfl 0 (by decide) k_fl_X_highs rfl d_X_divide_69 ?_
    refine lv_iload_n hx hb d_X_divide_72 rfl (lv_at hl 2 rfl) ?_
    refine wf_lald C hK hP 1 0 rfl rfl (k := rb) rfl hrb (by decide) d_X_divide_73 ?_
    refine lv_aload_n hx hb d_X_divide_74 rfl (lv_at hl 0 rfl) ?_
    refine gX C hK hP 0 rfl 1 (by decide) k_fl_X_lows rfl d_X_divide_75 ?_
    refine lv_iload_n hx hb d_X_divide_78 rfl (lv_at hl 2 rfl) ?_
    refine wf_lald C hK hP 2 1 rfl rfl (k := rb) rfl hrb (by decide) d_X_divide_79 ?_
    refine lv_iload_n hx hb d_X_divide_80 rfl (lv_at hl 3 rfl) ?_
    refine lv_iload hx hb d_X_divide_81 (lv_at hl 4 rfl) ?_
    refine kX_quotient hro hrt hb0 C hl.1 ⟨Nat.le_of_ble_eq_true rfl, Nat.le_of_ble_eq_true rfl⟩ (Nat.le_of_ble_eq_true rfl) ⟨Nat.le_of_ble_eq_true rfl, Nat.le_of_ble_eq_true rfl⟩ hP hK hD hS hA d_X_divide_83 (fun u_2 H locs eu_2 hP hD hS => ?_)
    exact wf_retv C hr hlocks u_2 (eu_2) hP hK hD hS (fun _ h => h) d_X_divide_86
  · refine lv_aload_n hx hb d_X_divide_34 rfl (lv_at hl 0 rfl) ?_
    refine gX C hK hP 0 rfl 1 (by decide) k_fl_X_lows rfl d_X_divide_35 ?_
    refine lv_iload_n hx hb d_X_divide_38 rfl (lv_at hl 2 rfl) ?_
    refine wf_lald C hK hP 2 1 rfl rfl (k := rb) rfl hrb (by decide) d_X_divide_39 ?_
    refine lv_lconst (v := 0) hx hb d_X_divide_40 (by decide) ?_
    refine W.lcmp hx hb d_X_divide_41 ?_
    refine lv_if_ne (tgt := 55) hx hb d_X_divide_42 (by decide) (fun c_3 => ?_) (fun c_3 => ?_)
    · refine lv_aload_n hx hb d_X_divide_55 rfl (lv_at hl 0 rfl) ?_
      refine lv_aload_n hx hb d_X_divide_56 rfl (lv_at hl 0 rfl) ?_
      refine gX C hK hP 0 rfl 0 (by decide) k_fl_X_highs rfl d_X_divide_57 ?_
      refine lv_iload_n hx hb d_X_divide_60 rfl (lv_at hl 1 rfl) ?_
      refine wf_lald C hK hP 1 0 rfl rfl (k := ra) rfl hra (by decide) d_X_divide_61 ?_
      refine lv_aload_n hx hb d_X_divide_62 rfl (lv_at hl 0 rfl) ?_
      refine gX C hK hP 0 rfl 1 (by decide) k_fl_X_lows rfl d_X_divide_63 ?_
      refine lv_iload_n hx hb d_X_divide_66 rfl (lv_at hl 1 rfl) ?_
      refine wf_lald C hK hP 2 1 rfl rfl (k := ra) rfl hra (by decide) d_X_divide_67 ?_
      refine lv_aload_n hx hb d_X_divide_68 rfl (lv_at hl 0 rfl) ?_
      refine gX C hK hP 0 rfl 0 (by decide) k_fl_X_highs rfl d_X_divide_69 ?_
      refine lv_iload_n hx hb d_X_divide_72 rfl (lv_at hl 2 rfl) ?_
      refine wf_lald C hK hP 1 0 rfl rfl (k := rb) rfl hrb (by decide) d_X_divide_73 ?_
      refine lv_aload_n hx hb d_X_divide_74 rfl (lv_at hl 0 rfl) ?_
      refine gX C hK hP 0 rfl 1 (by decide) k_fl_X_lows rfl d_X_divide_75 ?_
      refine lv_iload_n hx hb d_X_divide_78 rfl (lv_at hl 2 rfl) ?_
      refine wf_lald C hK hP 2 1 rfl rfl (k := rb) rfl hrb (by decide) d_X_divide_79 ?_
      refine lv_iload_n hx hb d_X_divide_80 rfl (lv_at hl 3 rfl) ?_
      refine lv_iload hx hb d_X_divide_81 (lv_at hl 4 rfl) ?_
      refine kX_quotient hro hrt hb0 C hl.1 ⟨Nat.le_of_ble_eq_true rfl, Nat.le_of_ble_eq_true rfl⟩ (Nat.le_of_ble_eq_true rfl) ⟨Nat.le_of_ble_eq_true rfl, Nat.le_of_ble_eq_true rfl⟩ hP hK hD hS hA d_X_divide_83 (fun u_4 H locs eu_4 hP hD hS => ?_)
      exact wf_retv C hr hlocks u_4 (eu_4) hP hK hD hS (fun _ h => h) d_X_divide_86
    · exact absurd hb0 (by rw [wf_lo0] at c_1 c_3; show ¬ 0 < uN (u.1 rb) * _ + uN (u.2.1 rb); rw [c_1, c_3, Nat.zero_mul]; exact Nat.lt_irrefl 0)

set_option maxHeartbeats 4000000 in
set_option maxRecDepth 100000 in
/-- X_root -/
theorem c_X_root (l : Launch) (D : va_G) (q : Nat → Nat) (κ : Nat → ClassId) (u : SX) (ra : Nat) (hra : ra < 8) (ro : Nat) (hro : ro < 8) (rt : Nat) (hrt : rt < 8) (hne : ¬ nI ro = nI rt) (sz : Nat) : Met l y_X_root (.code y_X_root b_X_root 4 none :: wG) (wf_rm 4 150 0 0) (wf_Pc D vwCl (wX q κ u) (tyX κ) ([.ref (q 0), .int (nI ra), .int (nI ro), .int (nI rt)]) sz) (va_Qv (fun v => ∃ (g r : Nat), (wf_Rx u ra = g * g + r ∧ r ≤ 2 * g ∧ g < 2 ^ 64) ∧ ∃ w : SX, wf_st u w ro g ∧ wf_st w v rt r) (wf_B D vwCl (wX q κ) (tyX κ) (va_A (wX q κ u) sz)) (va_A (wX q κ u) sz)) 0 0 (va_A (wX q κ u) sz) := by
  refine wf_open (by decide) (Nat.le_of_ble_eq_true rfl) k_X_root ?_
  intro p e s m below meth c ls hsz C hr hlocks hnm hex hP hK hD hl
  subst hsz
  have hx := C.1
  have hb := C.2.1
  have hml := C.2.2.1
  have hown := C.2.2.2.1
  have hts := C.2.2.2.2
  have hA : ∀ j : Nat, s.heap.size ≤ j → va_A (wX q κ u) s.heap.size j := fun j h => Or.inr h
  have hS : va_S (va_A (wX q κ u) s.heap.size) s.heap s.heap [] := va_S.rf
  generalize hAe : va_A (wX q κ u) s.heap.size = A at hA hS hD ⊢
  have hl : lv_has ls 4 [(0, .ref (q 0)), (1, .int (nI ra)), (2, .int (nI ro)), (3, .int (nI rt))] := hl
  refine lv_iload_n hx hb d_X_root_0 rfl (lv_at hl 1 rfl) ?_
  refine kX_chk (r := ra) hra C hl.1 ⟨Nat.le_of_ble_eq_true rfl, Nat.le_of_ble_eq_true rfl⟩ (Nat.le_of_ble_eq_true rfl) ⟨Nat.le_of_ble_eq_true rfl, Nat.le_of_ble_eq_true rfl⟩ d_X_root_1 ?_
  refine lv_iload_n hx hb d_X_root_4 rfl (lv_at hl 2 rfl) ?_
  refine kX_chk (r := ro) hro C hl.1 ⟨Nat.le_of_ble_eq_true rfl, Nat.le_of_ble_eq_true rfl⟩ (Nat.le_of_ble_eq_true rfl) ⟨Nat.le_of_ble_eq_true rfl, Nat.le_of_ble_eq_true rfl⟩ d_X_root_5 ?_
  refine lv_iload_n hx hb d_X_root_8 rfl (lv_at hl 3 rfl) ?_
  refine kX_chk (r := rt) hrt C hl.1 ⟨Nat.le_of_ble_eq_true rfl, Nat.le_of_ble_eq_true rfl⟩ (Nat.le_of_ble_eq_true rfl) ⟨Nat.le_of_ble_eq_true rfl, Nat.le_of_ble_eq_true rfl⟩ d_X_root_9 ?_
  refine lv_iload_n hx hb d_X_root_12 rfl (lv_at hl 2 rfl) ?_
  refine lv_iload_n hx hb d_X_root_13 rfl (lv_at hl 3 rfl) ?_
  refine kX_apart hne C hl.1 ⟨Nat.le_of_ble_eq_true rfl, Nat.le_of_ble_eq_true rfl⟩ (Nat.le_of_ble_eq_true rfl) ⟨Nat.le_of_ble_eq_true rfl, Nat.le_of_ble_eq_true rfl⟩ d_X_root_14 ?_
  refine lv_aload_n hx hb d_X_root_17 rfl (lv_at hl 0 rfl) ?_
  refine lv_aload_n hx hb d_X_root_18 rfl (lv_at hl 0 rfl) ?_
  refine gX C hK hP 0 rfl 0 (by decide) k_fl_X_highs rfl d_X_root_19 ?_
  refine lv_iload_n hx hb d_X_root_22 rfl (lv_at hl 1 rfl) ?_
  refine wf_lald C hK hP 1 0 rfl rfl (k := ra) rfl hra (by decide) d_X_root_23 ?_
  refine lv_aload_n hx hb d_X_root_24 rfl (lv_at hl 0 rfl) ?_
  refine gX C hK hP 0 rfl 1 (by decide) k_fl_X_lows rfl d_X_root_25 ?_
  refine lv_iload_n hx hb d_X_root_28 rfl (lv_at hl 1 rfl) ?_
  refine wf_lald C hK hP 2 1 rfl rfl (k := ra) rfl hra (by decide) d_X_root_29 ?_
  refine lv_iload_n hx hb d_X_root_30 rfl (lv_at hl 2 rfl) ?_
  refine lv_iload_n hx hb d_X_root_31 rfl (lv_at hl 3 rfl) ?_
  refine kX_root hro hrt C hl.1 ⟨Nat.le_of_ble_eq_true rfl, Nat.le_of_ble_eq_true rfl⟩ (Nat.le_of_ble_eq_true rfl) ⟨Nat.le_of_ble_eq_true rfl, Nat.le_of_ble_eq_true rfl⟩ hP hK hD hS hA d_X_root_32 (fun u_1 H locs eu_1 hP hD hS => ?_)
  exact wf_retv C hr hlocks u_1 (eu_1) hP hK hD hS (fun _ h => h) d_X_root_35

set_option maxHeartbeats 4000000 in
set_option maxRecDepth 100000 in
/-- X_zeros -/
theorem c_X_zeros (l : Launch) (D : va_G) (q : Nat → Nat) (κ : Nat → ClassId) (u : SX) (ra : Nat) (hra : ra < 8) (sz : Nat) : Met l y_X_zeros (.code y_X_zeros b_X_zeros 2 (some .int) :: wG) (wf_rm 4 150 0 0) (wf_Pc D vwCl (wX q κ u) (tyX κ) ([.ref (q 0), .int (nI ra)]) sz) (vp_Si (fun r => ∃ z, r = nI z ∧ wf_LZ 128 (wf_Rx u ra) z)) 0 0 (fun _ => False) := by
  refine wf_open (by decide) (Nat.le_of_ble_eq_true rfl) k_X_zeros ?_
  intro p e s m below meth c ls hsz C hr hlocks hnm hex hP hK hD hl
  subst hsz
  have hx := C.1
  have hb := C.2.1
  have hml := C.2.2.1
  have hown := C.2.2.2.1
  have hts := C.2.2.2.2
  have hA : ∀ j : Nat, s.heap.size ≤ j → va_A (wX q κ u) s.heap.size j := fun j h => Or.inr h
  have hS : va_S (va_A (wX q κ u) s.heap.size) s.heap s.heap [] := va_S.rf
  generalize hAe : va_A (wX q κ u) s.heap.size = A at hA hS hD ⊢
  have hl : lv_has ls 2 [(0, .ref (q 0)), (1, .int (nI ra))] := hl
  refine lv_iload_n hx hb d_X_zeros_0 rfl (lv_at hl 1 rfl) ?_
  refine kX_chk (r := ra) hra C hl.1 ⟨Nat.le_of_ble_eq_true rfl, Nat.le_of_ble_eq_true rfl⟩ (Nat.le_of_ble_eq_true rfl) ⟨Nat.le_of_ble_eq_true rfl, Nat.le_of_ble_eq_true rfl⟩ d_X_zeros_1 ?_
  refine lv_aload_n hx hb d_X_zeros_4 rfl (lv_at hl 0 rfl) ?_
  refine gX C hK hP 0 rfl 0 (by decide) k_fl_X_highs rfl d_X_zeros_5 ?_
  refine lv_iload_n hx hb d_X_zeros_8 rfl (lv_at hl 1 rfl) ?_
  refine wf_lald C hK hP 1 0 rfl rfl (k := ra) rfl hra (by decide) d_X_zeros_9 ?_
  refine lv_aload_n hx hb d_X_zeros_10 rfl (lv_at hl 0 rfl) ?_
  refine gX C hK hP 0 rfl 1 (by decide) k_fl_X_lows rfl d_X_zeros_11 ?_
  refine lv_iload_n hx hb d_X_zeros_14 rfl (lv_at hl 1 rfl) ?_
  refine wf_lald C hK hP 2 1 rfl rfl (k := ra) rfl hra (by decide) d_X_zeros_15 ?_
  refine kX_above C hl.1 ⟨Nat.le_of_ble_eq_true rfl, Nat.le_of_ble_eq_true rfl⟩ (Nat.le_of_ble_eq_true rfl) ⟨Nat.le_of_ble_eq_true rfl, Nat.le_of_ble_eq_true rfl⟩ d_X_zeros_16 (fun r_1 hr_1 => ?_)
  exact W.iret hx hb hr (fun t ht hW => ⟨_, rfl, hr_1, ht⟩) (fun q h => by cases h) d_X_zeros_19 hlocks

set_option maxHeartbeats 4000000 in
set_option maxRecDepth 100000 in
/-- X_compare -/
theorem c_X_compare (l : Launch) (D : va_G) (q : Nat → Nat) (κ : Nat → ClassId) (u : SX) (ra : Nat) (hra : ra < 8) (rb : Nat) (hrb : rb < 8) (sz : Nat) : Met l y_X_compare (.code y_X_compare b_X_compare 3 (some .int) :: wG) (wf_rm 4 150 0 0) (wf_Pc D vwCl (wX q κ u) (tyX κ) ([.ref (q 0), .int (nI ra), .int (nI rb)]) sz) (vp_Si (fun r => r = if wf_Rx u ra < wf_Rx u rb then -1 else if wf_Rx u rb < wf_Rx u ra then 1 else 0)) 0 0 (fun _ => False) := by
  refine wf_open (by decide) (Nat.le_of_ble_eq_true rfl) k_X_compare ?_
  intro p e s m below meth c ls hsz C hr hlocks hnm hex hP hK hD hl
  subst hsz
  have hx := C.1
  have hb := C.2.1
  have hml := C.2.2.1
  have hown := C.2.2.2.1
  have hts := C.2.2.2.2
  have hA : ∀ j : Nat, s.heap.size ≤ j → va_A (wX q κ u) s.heap.size j := fun j h => Or.inr h
  have hS : va_S (va_A (wX q κ u) s.heap.size) s.heap s.heap [] := va_S.rf
  generalize hAe : va_A (wX q κ u) s.heap.size = A at hA hS hD ⊢
  have hl : lv_has ls 3 [(0, .ref (q 0)), (1, .int (nI ra)), (2, .int (nI rb))] := hl
  refine lv_iload_n hx hb d_X_compare_0 rfl (lv_at hl 1 rfl) ?_
  refine kX_chk (r := ra) hra C hl.1 ⟨Nat.le_of_ble_eq_true rfl, Nat.le_of_ble_eq_true rfl⟩ (Nat.le_of_ble_eq_true rfl) ⟨Nat.le_of_ble_eq_true rfl, Nat.le_of_ble_eq_true rfl⟩ d_X_compare_1 ?_
  refine lv_iload_n hx hb d_X_compare_4 rfl (lv_at hl 2 rfl) ?_
  refine kX_chk (r := rb) hrb C hl.1 ⟨Nat.le_of_ble_eq_true rfl, Nat.le_of_ble_eq_true rfl⟩ (Nat.le_of_ble_eq_true rfl) ⟨Nat.le_of_ble_eq_true rfl, Nat.le_of_ble_eq_true rfl⟩ d_X_compare_5 ?_
  refine lv_aload_n hx hb d_X_compare_8 rfl (lv_at hl 0 rfl) ?_
  refine gX C hK hP 0 rfl 0 (by decide) k_fl_X_highs rfl d_X_compare_9 ?_
  refine lv_iload_n hx hb d_X_compare_12 rfl (lv_at hl 1 rfl) ?_
  refine wf_lald C hK hP 1 0 rfl rfl (k := ra) rfl hra (by decide) d_X_compare_13 ?_
  refine lv_aload_n hx hb d_X_compare_14 rfl (lv_at hl 0 rfl) ?_
  refine gX C hK hP 0 rfl 1 (by decide) k_fl_X_lows rfl d_X_compare_15 ?_
  refine lv_iload_n hx hb d_X_compare_18 rfl (lv_at hl 1 rfl) ?_
  refine wf_lald C hK hP 2 1 rfl rfl (k := ra) rfl hra (by decide) d_X_compare_19 ?_
  refine lv_aload_n hx hb d_X_compare_20 rfl (lv_at hl 0 rfl) ?_
  refine gX C hK hP 0 rfl 0 (by decide) k_fl_X_highs rfl d_X_compare_21 ?_
  refine lv_iload_n hx hb d_X_compare_24 rfl (lv_at hl 2 rfl) ?_
  refine wf_lald C hK hP 1 0 rfl rfl (k := rb) rfl hrb (by decide) d_X_compare_25 ?_
  refine lv_aload_n hx hb d_X_compare_26 rfl (lv_at hl 0 rfl) ?_
  refine gX C hK hP 0 rfl 1 (by decide) k_fl_X_lows rfl d_X_compare_27 ?_
  refine lv_iload_n hx hb d_X_compare_30 rfl (lv_at hl 2 rfl) ?_
  refine wf_lald C hK hP 2 1 rfl rfl (k := rb) rfl hrb (by decide) d_X_compare_31 ?_
  refine kX_below C hl.1 ⟨Nat.le_of_ble_eq_true rfl, Nat.le_of_ble_eq_true rfl⟩ (Nat.le_of_ble_eq_true rfl) ⟨Nat.le_of_ble_eq_true rfl, Nat.le_of_ble_eq_true rfl⟩ d_X_compare_32 ?_
  refine lv_if_eq (tgt := 40) hx hb d_X_compare_35 (by decide) (fun c_1 => ?_) (fun c_1 => ?_)
  · refine lv_aload_n hx hb d_X_compare_40 rfl (lv_at hl 0 rfl) ?_
    refine gX C hK hP 0 rfl 0 (by decide) k_fl_X_highs rfl d_X_compare_41 ?_
    refine lv_iload_n hx hb d_X_compare_44 rfl (lv_at hl 2 rfl) ?_
    refine wf_lald C hK hP 1 0 rfl rfl (k := rb) rfl hrb (by decide) d_X_compare_45 ?_
    refine lv_aload_n hx hb d_X_compare_46 rfl (lv_at hl 0 rfl) ?_
    refine gX C hK hP 0 rfl 1 (by decide) k_fl_X_lows rfl d_X_compare_47 ?_
    refine lv_iload_n hx hb d_X_compare_50 rfl (lv_at hl 2 rfl) ?_
    refine wf_lald C hK hP 2 1 rfl rfl (k := rb) rfl hrb (by decide) d_X_compare_51 ?_
    refine lv_aload_n hx hb d_X_compare_52 rfl (lv_at hl 0 rfl) ?_
    refine gX C hK hP 0 rfl 0 (by decide) k_fl_X_highs rfl d_X_compare_53 ?_
    refine lv_iload_n hx hb d_X_compare_56 rfl (lv_at hl 1 rfl) ?_
    refine wf_lald C hK hP 1 0 rfl rfl (k := ra) rfl hra (by decide) d_X_compare_57 ?_
    refine lv_aload_n hx hb d_X_compare_58 rfl (lv_at hl 0 rfl) ?_
    refine gX C hK hP 0 rfl 1 (by decide) k_fl_X_lows rfl d_X_compare_59 ?_
    refine lv_iload_n hx hb d_X_compare_62 rfl (lv_at hl 1 rfl) ?_
    refine wf_lald C hK hP 2 1 rfl rfl (k := ra) rfl hra (by decide) d_X_compare_63 ?_
    refine kX_below C hl.1 ⟨Nat.le_of_ble_eq_true rfl, Nat.le_of_ble_eq_true rfl⟩ (Nat.le_of_ble_eq_true rfl) ⟨Nat.le_of_ble_eq_true rfl, Nat.le_of_ble_eq_true rfl⟩ d_X_compare_64 ?_
    refine lv_if_eq (tgt := 74) hx hb d_X_compare_67 (by decide) (fun c_2 => ?_) (fun c_2 => ?_)
    · refine lv_iconst (v := 0) hx hb d_X_compare_74 (by decide) ?_
      exact W.iret hx hb hr (fun t ht hW => ⟨_, rfl, by have h := of_decide_eq_false ((wf_bi0 _).mp c_1); have h2 := of_decide_eq_false ((wf_bi0 _).mp c_2); exact ((if_neg h).trans (if_neg h2)).symm, ht⟩) (fun q h => by cases h) d_X_compare_75 hlocks
    · refine lv_iconst (v := 1) hx hb d_X_compare_70 (by decide) ?_
      refine lv_goto (tgt := 75) hx hb d_X_compare_71 (by decide) ?_
      exact W.iret hx hb hr (fun t ht hW => ⟨_, rfl, by have h := of_decide_eq_false ((wf_bi0 _).mp c_1); have h2 := of_decide_eq_true ((wf_bi1 _).mp c_2); exact ((if_neg h).trans (if_pos h2)).symm, ht⟩) (fun q h => by cases h) d_X_compare_75 hlocks
  · refine lv_iconst (v := (-1)) hx hb d_X_compare_38 (by decide) ?_
    exact W.iret hx hb hr (fun t ht hW => ⟨_, rfl, by have h := of_decide_eq_true ((wf_bi1 _).mp c_1); exact (if_pos h).symm, ht⟩) (fun q h => by cases h) d_X_compare_39 hlocks
