/-! ===== the wrappers of the law where the class throws ===== -/

set_option maxHeartbeats 4000000 in
set_option maxRecDepth 100000 in
theorem c_L_set_b1 (l : Launch) (hst : l.stackTraces = false) (D : va_G) (q : Nat → Nat) (κ : Nat → ClassId) (o : Nat) (ko : ClassId) (x : (SX × (Nat → Int64))) (a : Int32) (h : Int64) (lo : Int64) (hbad : wf_no a = true) (sz : Nat) : Met l y_L_set (.codeWith y_L_set b_L_set 7 (some .int) [(0, 8, 11, 13)] :: wG) (wf_rm 8 200 1 6) (wf_PcO D vwCl (wXO o ko q κ x) (tyXO ko κ) ([.ref (q 0), .int (a), .long (h), .long (lo)]) sz) (va_Qi (fun r v => r = 1 ∧ v = x) (wf_B D vwCl (wXO o ko q κ) (tyXO ko κ) (va_A (wXO o ko q κ x) sz)) (va_A (wXO o ko q κ x) sz)) 1 6 (va_A (wXO o ko q κ x) sz) := by
  refine wo_open (by decide) (Nat.le_of_ble_eq_true rfl) ?_
  intro p e s m below meth c ls hsz C hr hlocks htab hAll hP hK hD hl
  subst hsz
  have hx := C.1
  have hb := C.2.1
  have hml := C.2.2.1
  have hown := C.2.2.2.1
  have hts := C.2.2.2.2
  have hA : ∀ j : Nat, s.heap.size ≤ j → va_A (wXO o ko q κ x) s.heap.size j := fun j h => Or.inr h
  have hS : va_S (va_A (wXO o ko q κ x) s.heap.size) s.heap s.heap [] := va_S.rf
  generalize hAe : va_A (wXO o ko q κ x) s.heap.size = A at hA hS hD ⊢
  have hl : lv_has ls 7 [(0, .ref (q 0)), (1, .int (a)), (2, .long (h)), (4, .long (lo))] := hl
  have hPc := hP.sub (ws' := wX q κ x.1) [0, 1, 2, 3, 4] rfl
  have hDc := hD.sub (ws' := wX q κ x.1) [0, 1, 2, 3, 4] (by decide) rfl
  have hKc := hK.sub (tys' := tyX κ) [0, 1, 2, 3] rfl
  refine lv_aload_n hx hb d_L_set_0 rfl (lv_at hl 0 rfl) ?_
  refine lv_iload_n hx hb d_L_set_1 rfl (lv_at hl 1 rfl) ?_
  refine lv_lload_n hx hb d_L_set_2 rfl (lv_at hl 2 rfl) ?_
  refine lv_lload hx hb d_L_set_3 (lv_at hl 3 rfl) ?_
  refine wx_catchV (As := [.int (a), .long (h), .long (lo)]) (rest := []) C (t_X_set_b1 l hst (q 0) a h lo hbad) (cwV 3 C.2.2.2.2 (wG_V (fun _ h => h) k_ml_L_7 k_im_X_set k_se_X_set k_in_X k_X_set) rfl rfl rfl (by decide +kernel) ⟨Nat.le_of_ble_eq_true rfl, Nat.le_of_ble_eq_true rfl⟩) ⟨wx_Pc_blind wx_T, va_recv hKc hPc (ci := 0) (q0 := 0) rfl rfl, wx_Pc_pre hAll.1 (fun _ _ => rfl) (fun _ _ _ => trivial)⟩ rfl hl.1 rfl (Nat.le_of_ble_eq_true rfl) d_L_set_5 ⟨Nat.le_of_ble_eq_true rfl, Nat.le_of_ble_eq_true rfl⟩ [] ⟨0, 8, 11, 13⟩ [] htab (fun z hz => absurd hz List.not_mem_nil) rfl (by decide) (hts _ k_kl_L_13) (fun qe H1 hz hk => ?_)
  have hP := hP.kept (fun k z h => hk _ ((hP k z h).lt))
  have hS : va_S A s.heap H1 [] := ⟨hz, fun z h _ => hk z h, fun _ h => by cases h⟩
  refine lv_astore (lv' := [(6, .ref (qe)), (0, .ref (q 0)), (1, .int (a)), (2, .long (h)), (4, .long (lo))]) hx hb d_L_set_11 hl (by decide) rfl (fun ls hl => ?_)
  refine lv_iconst (v := 1) hx hb d_L_set_13 (by decide) ?_
  exact wf_reti C hr hlocks x (⟨rfl, rfl⟩) hP hK hD hS (fun _ h => h) d_L_set_14

set_option maxHeartbeats 4000000 in
set_option maxRecDepth 100000 in
theorem c_L_half_b1 (l : Launch) (hst : l.stackTraces = false) (D : va_G) (q : Nat → Nat) (κ : Nat → ClassId) (o : Nat) (ko : ClassId) (x : (SX × (Nat → Int64))) (a : Int32) (z : Int32) (hbad : wf_no a = true) (sz : Nat) : Met l y_L_half (.codeWith y_L_half b_L_half 5 (some .int) [(0, 9, 12, 13)] :: wG) (wf_rm 8 200 1 6) (wf_PcO D vwCl (wXO o ko q κ x) (tyXO ko κ) ([.ref (q 0), .int (a), .int (z), .ref o]) sz) (va_Qi (fun r v => r = 1 ∧ v = x) (wf_B D vwCl (wXO o ko q κ) (tyXO ko κ) (va_A (wXO o ko q κ x) sz)) (va_A (wXO o ko q κ x) sz)) 1 6 (va_A (wXO o ko q κ x) sz) := by
  refine wo_open (by decide) (Nat.le_of_ble_eq_true rfl) ?_
  intro p e s m below meth c ls hsz C hr hlocks htab hAll hP hK hD hl
  subst hsz
  have hx := C.1
  have hb := C.2.1
  have hml := C.2.2.1
  have hown := C.2.2.2.1
  have hts := C.2.2.2.2
  have hA : ∀ j : Nat, s.heap.size ≤ j → va_A (wXO o ko q κ x) s.heap.size j := fun j h => Or.inr h
  have hS : va_S (va_A (wXO o ko q κ x) s.heap.size) s.heap s.heap [] := va_S.rf
  generalize hAe : va_A (wXO o ko q κ x) s.heap.size = A at hA hS hD ⊢
  have hl : lv_has ls 5 [(0, .ref (q 0)), (1, .int (a)), (2, .int (z)), (3, .ref (o))] := hl
  have hPc := hP.sub (ws' := wX q κ x.1) [0, 1, 2, 3, 4] rfl
  have hDc := hD.sub (ws' := wX q κ x.1) [0, 1, 2, 3, 4] (by decide) rfl
  have hKc := hK.sub (tys' := tyX κ) [0, 1, 2, 3] rfl
  refine lv_aload_n hx hb d_L_half_0 rfl (lv_at hl 3 rfl) ?_
  refine lv_iconst (v := 0) hx hb d_L_half_1 (by decide) ?_
  refine lv_aload_n hx hb d_L_half_2 rfl (lv_at hl 0 rfl) ?_
  refine lv_iload_n hx hb d_L_half_3 rfl (lv_at hl 1 rfl) ?_
  refine lv_iload_n hx hb d_L_half_4 rfl (lv_at hl 2 rfl) ?_
  refine wx_catchV (As := [.int (a), .int (z)]) (rest := [.int (0), .ref (o)]) C (t_X_half_b1 l hst (q 0) a z hbad) (cwV 2 C.2.2.2.2 (wG_V (fun _ h => h) k_ml_L_15 k_im_X_half k_se_X_half k_in_X k_X_half) rfl rfl rfl (by decide +kernel) ⟨Nat.le_of_ble_eq_true rfl, Nat.le_of_ble_eq_true rfl⟩) ⟨wx_Pc_blind wx_T, va_recv hKc hPc (ci := 0) (q0 := 0) rfl rfl, wx_Pc_pre hAll.1 (fun _ _ => rfl) (fun _ _ _ => trivial)⟩ rfl hl.1 rfl (Nat.le_of_ble_eq_true rfl) d_L_half_5 ⟨Nat.le_of_ble_eq_true rfl, Nat.le_of_ble_eq_true rfl⟩ [] ⟨0, 9, 12, 13⟩ [] htab (fun z hz => absurd hz List.not_mem_nil) rfl (by decide) (hts _ k_kl_L_13) (fun qe H1 hz hk => ?_)
  have hP := hP.kept (fun k z h => hk _ ((hP k z h).lt))
  have hS : va_S A s.heap H1 [] := ⟨hz, fun z h _ => hk z h, fun _ h => by cases h⟩
  refine lv_astore (lv' := [(4, .ref (qe)), (0, .ref (q 0)), (1, .int (a)), (2, .int (z)), (3, .ref (o))]) hx hb d_L_half_12 hl (by decide) rfl (fun ls hl => ?_)
  refine lv_iconst (v := 1) hx hb d_L_half_14 (by decide) ?_
  exact wf_reti C hr hlocks x (⟨rfl, rfl⟩) hP hK hD hS (fun _ h => h) d_L_half_15

set_option maxHeartbeats 4000000 in
set_option maxRecDepth 100000 in
theorem c_L_add_b1 (l : Launch) (hst : l.stackTraces = false) (D : va_G) (q : Nat → Nat) (κ : Nat → ClassId) (o : Nat) (ko : ClassId) (x : (SX × (Nat → Int64))) (a : Int32) (k : Int32) (t : Int32) (hbad : wf_no a = true) (sz : Nat) : Met l y_L_add (.codeWith y_L_add b_L_add 6 (some .int) [(0, 19, 22, 13)] :: wG) (wf_rm 8 200 1 6) (wf_PcO D vwCl (wXO o ko q κ x) (tyXO ko κ) ([.ref (q 0), .int (a), .int (k), .int (t), .ref o]) sz) (va_Qi (fun r v => r = 1 ∧ v = x) (wf_B D vwCl (wXO o ko q κ) (tyXO ko κ) (va_A (wXO o ko q κ x) sz)) (va_A (wXO o ko q κ x) sz)) 1 6 (va_A (wXO o ko q κ x) sz) := by
  refine wo_open (by decide) (Nat.le_of_ble_eq_true rfl) ?_
  intro p e s m below meth c ls hsz C hr hlocks htab hAll hP hK hD hl
  subst hsz
  have hx := C.1
  have hb := C.2.1
  have hml := C.2.2.1
  have hown := C.2.2.2.1
  have hts := C.2.2.2.2
  have hA : ∀ j : Nat, s.heap.size ≤ j → va_A (wXO o ko q κ x) s.heap.size j := fun j h => Or.inr h
  have hS : va_S (va_A (wXO o ko q κ x) s.heap.size) s.heap s.heap [] := va_S.rf
  generalize hAe : va_A (wXO o ko q κ x) s.heap.size = A at hA hS hD ⊢
  have hl : lv_has ls 6 [(0, .ref (q 0)), (1, .int (a)), (2, .int (k)), (3, .int (t)), (4, .ref (o))] := hl
  have hPc := hP.sub (ws' := wX q κ x.1) [0, 1, 2, 3, 4] rfl
  have hDc := hD.sub (ws' := wX q κ x.1) [0, 1, 2, 3, 4] (by decide) rfl
  have hKc := hK.sub (tys' := tyX κ) [0, 1, 2, 3] rfl
  refine lv_aload hx hb d_L_add_0 (lv_at hl 4 rfl) ?_
  refine lv_iconst (v := 0) hx hb d_L_add_2 (by decide) ?_
  refine lv_aload_n hx hb d_L_add_3 rfl (lv_at hl 0 rfl) ?_
  refine lv_iload_n hx hb d_L_add_4 rfl (lv_at hl 1 rfl) ?_
  refine lv_iload_n hx hb d_L_add_5 rfl (lv_at hl 2 rfl) ?_
  refine lv_iload_n hx hb d_L_add_6 rfl (lv_at hl 3 rfl) ?_
  refine wx_catchV (As := [.int (a), .int (k), .int (t)]) (rest := [.int (0), .ref (o)]) C (t_X_add_b1 l hst (q 0) a k t hbad) (cwV 3 C.2.2.2.2 (wG_V (fun _ h => h) k_ml_L_19 k_im_X_add k_se_X_add k_in_X k_X_add) rfl rfl rfl (by decide +kernel) ⟨Nat.le_of_ble_eq_true rfl, Nat.le_of_ble_eq_true rfl⟩) ⟨wx_Pc_blind wx_T, va_recv hKc hPc (ci := 0) (q0 := 0) rfl rfl, wx_Pc_pre hAll.1 (fun _ _ => rfl) (fun _ _ _ => trivial)⟩ rfl hl.1 rfl (Nat.le_of_ble_eq_true rfl) d_L_add_7 ⟨Nat.le_of_ble_eq_true rfl, Nat.le_of_ble_eq_true rfl⟩ [] ⟨0, 19, 22, 13⟩ [] htab (fun z hz => absurd hz List.not_mem_nil) rfl (by decide) (hts _ k_kl_L_13) (fun qe H1 hz hk => ?_)
  have hP := hP.kept (fun k z h => hk _ ((hP k z h).lt))
  have hS : va_S A s.heap H1 [] := ⟨hz, fun z h _ => hk z h, fun _ h => by cases h⟩
  refine lv_astore (lv' := [(5, .ref (qe)), (0, .ref (q 0)), (1, .int (a)), (2, .int (k)), (3, .int (t)), (4, .ref (o))]) hx hb d_L_add_22 hl (by decide) rfl (fun ls hl => ?_)
  refine lv_iconst (v := 1) hx hb d_L_add_24 (by decide) ?_
  exact wf_reti C hr hlocks x (⟨rfl, rfl⟩) hP hK hD hS (fun _ h => h) d_L_add_25

set_option maxHeartbeats 4000000 in
set_option maxRecDepth 100000 in
theorem c_L_add_b2 (l : Launch) (hst : l.stackTraces = false) (D : va_G) (q : Nat → Nat) (κ : Nat → ClassId) (o : Nat) (ko : ClassId) (x : (SX × (Nat → Int64))) (a : Nat) (ha : a < 8) (k : Int32) (t : Int32) (hbad : wf_no k = true) (sz : Nat) : Met l y_L_add (.codeWith y_L_add b_L_add 6 (some .int) [(0, 19, 22, 13)] :: wG) (wf_rm 8 200 1 6) (wf_PcO D vwCl (wXO o ko q κ x) (tyXO ko κ) ([.ref (q 0), .int (nI a), .int (k), .int (t), .ref o]) sz) (va_Qi (fun r v => r = 1 ∧ v = x) (wf_B D vwCl (wXO o ko q κ) (tyXO ko κ) (va_A (wXO o ko q κ x) sz)) (va_A (wXO o ko q κ x) sz)) 1 6 (va_A (wXO o ko q κ x) sz) := by
  refine wo_open (by decide) (Nat.le_of_ble_eq_true rfl) ?_
  intro p e s m below meth c ls hsz C hr hlocks htab hAll hP hK hD hl
  subst hsz
  have hx := C.1
  have hb := C.2.1
  have hml := C.2.2.1
  have hown := C.2.2.2.1
  have hts := C.2.2.2.2
  have hA : ∀ j : Nat, s.heap.size ≤ j → va_A (wXO o ko q κ x) s.heap.size j := fun j h => Or.inr h
  have hS : va_S (va_A (wXO o ko q κ x) s.heap.size) s.heap s.heap [] := va_S.rf
  generalize hAe : va_A (wXO o ko q κ x) s.heap.size = A at hA hS hD ⊢
  have hl : lv_has ls 6 [(0, .ref (q 0)), (1, .int (nI a)), (2, .int (k)), (3, .int (t)), (4, .ref (o))] := hl
  have hPc := hP.sub (ws' := wX q κ x.1) [0, 1, 2, 3, 4] rfl
  have hDc := hD.sub (ws' := wX q κ x.1) [0, 1, 2, 3, 4] (by decide) rfl
  have hKc := hK.sub (tys' := tyX κ) [0, 1, 2, 3] rfl
  refine lv_aload hx hb d_L_add_0 (lv_at hl 4 rfl) ?_
  refine lv_iconst (v := 0) hx hb d_L_add_2 (by decide) ?_
  refine lv_aload_n hx hb d_L_add_3 rfl (lv_at hl 0 rfl) ?_
  refine lv_iload_n hx hb d_L_add_4 rfl (lv_at hl 1 rfl) ?_
  refine lv_iload_n hx hb d_L_add_5 rfl (lv_at hl 2 rfl) ?_
  refine lv_iload_n hx hb d_L_add_6 rfl (lv_at hl 3 rfl) ?_
  refine wx_catchV (As := [.int (nI a), .int (k), .int (t)]) (rest := [.int (0), .ref (o)]) C (t_X_add_b2 l hst (q 0) a ha k t hbad) (cwV 3 C.2.2.2.2 (wG_V (fun _ h => h) k_ml_L_19 k_im_X_add k_se_X_add k_in_X k_X_add) rfl rfl rfl (by decide +kernel) ⟨Nat.le_of_ble_eq_true rfl, Nat.le_of_ble_eq_true rfl⟩) ⟨wx_Pc_blind wx_T, va_recv hKc hPc (ci := 0) (q0 := 0) rfl rfl, wx_Pc_pre hAll.1 (fun _ _ => rfl) (fun _ _ _ => trivial)⟩ rfl hl.1 rfl (Nat.le_of_ble_eq_true rfl) d_L_add_7 ⟨Nat.le_of_ble_eq_true rfl, Nat.le_of_ble_eq_true rfl⟩ [] ⟨0, 19, 22, 13⟩ [] htab (fun z hz => absurd hz List.not_mem_nil) rfl (by decide) (hts _ k_kl_L_13) (fun qe H1 hz hk => ?_)
  have hP := hP.kept (fun k z h => hk _ ((hP k z h).lt))
  have hS : va_S A s.heap H1 [] := ⟨hz, fun z h _ => hk z h, fun _ h => by cases h⟩
  refine lv_astore (lv' := [(5, .ref (qe)), (0, .ref (q 0)), (1, .int (nI a)), (2, .int (k)), (3, .int (t)), (4, .ref (o))]) hx hb d_L_add_22 hl (by decide) rfl (fun ls hl => ?_)
  refine lv_iconst (v := 1) hx hb d_L_add_24 (by decide) ?_
  exact wf_reti C hr hlocks x (⟨rfl, rfl⟩) hP hK hD hS (fun _ h => h) d_L_add_25

set_option maxHeartbeats 4000000 in
set_option maxRecDepth 100000 in
theorem c_L_add_b3 (l : Launch) (hst : l.stackTraces = false) (D : va_G) (q : Nat → Nat) (κ : Nat → ClassId) (o : Nat) (ko : ClassId) (x : (SX × (Nat → Int64))) (a : Nat) (ha : a < 8) (k : Nat) (hk : k < 8) (t : Int32) (hbad : wf_no t = true) (sz : Nat) : Met l y_L_add (.codeWith y_L_add b_L_add 6 (some .int) [(0, 19, 22, 13)] :: wG) (wf_rm 8 200 1 6) (wf_PcO D vwCl (wXO o ko q κ x) (tyXO ko κ) ([.ref (q 0), .int (nI a), .int (nI k), .int (t), .ref o]) sz) (va_Qi (fun r v => r = 1 ∧ v = x) (wf_B D vwCl (wXO o ko q κ) (tyXO ko κ) (va_A (wXO o ko q κ x) sz)) (va_A (wXO o ko q κ x) sz)) 1 6 (va_A (wXO o ko q κ x) sz) := by
  refine wo_open (by decide) (Nat.le_of_ble_eq_true rfl) ?_
  intro p e s m below meth c ls hsz C hr hlocks htab hAll hP hK hD hl
  subst hsz
  have hx := C.1
  have hb := C.2.1
  have hml := C.2.2.1
  have hown := C.2.2.2.1
  have hts := C.2.2.2.2
  have hA : ∀ j : Nat, s.heap.size ≤ j → va_A (wXO o ko q κ x) s.heap.size j := fun j h => Or.inr h
  have hS : va_S (va_A (wXO o ko q κ x) s.heap.size) s.heap s.heap [] := va_S.rf
  generalize hAe : va_A (wXO o ko q κ x) s.heap.size = A at hA hS hD ⊢
  have hl : lv_has ls 6 [(0, .ref (q 0)), (1, .int (nI a)), (2, .int (nI k)), (3, .int (t)), (4, .ref (o))] := hl
  have hPc := hP.sub (ws' := wX q κ x.1) [0, 1, 2, 3, 4] rfl
  have hDc := hD.sub (ws' := wX q κ x.1) [0, 1, 2, 3, 4] (by decide) rfl
  have hKc := hK.sub (tys' := tyX κ) [0, 1, 2, 3] rfl
  refine lv_aload hx hb d_L_add_0 (lv_at hl 4 rfl) ?_
  refine lv_iconst (v := 0) hx hb d_L_add_2 (by decide) ?_
  refine lv_aload_n hx hb d_L_add_3 rfl (lv_at hl 0 rfl) ?_
  refine lv_iload_n hx hb d_L_add_4 rfl (lv_at hl 1 rfl) ?_
  refine lv_iload_n hx hb d_L_add_5 rfl (lv_at hl 2 rfl) ?_
  refine lv_iload_n hx hb d_L_add_6 rfl (lv_at hl 3 rfl) ?_
  refine wx_catchV (As := [.int (nI a), .int (nI k), .int (t)]) (rest := [.int (0), .ref (o)]) C (t_X_add_b3 l hst (q 0) a ha k hk t hbad) (cwV 3 C.2.2.2.2 (wG_V (fun _ h => h) k_ml_L_19 k_im_X_add k_se_X_add k_in_X k_X_add) rfl rfl rfl (by decide +kernel) ⟨Nat.le_of_ble_eq_true rfl, Nat.le_of_ble_eq_true rfl⟩) ⟨wx_Pc_blind wx_T, va_recv hKc hPc (ci := 0) (q0 := 0) rfl rfl, wx_Pc_pre hAll.1 (fun _ _ => rfl) (fun _ _ _ => trivial)⟩ rfl hl.1 rfl (Nat.le_of_ble_eq_true rfl) d_L_add_7 ⟨Nat.le_of_ble_eq_true rfl, Nat.le_of_ble_eq_true rfl⟩ [] ⟨0, 19, 22, 13⟩ [] htab (fun z hz => absurd hz List.not_mem_nil) rfl (by decide) (hts _ k_kl_L_13) (fun qe H1 hz hk => ?_)
  have hP := hP.kept (fun k z h => hk _ ((hP k z h).lt))
  have hS : va_S A s.heap H1 [] := ⟨hz, fun z h _ => hk z h, fun _ h => by cases h⟩
  refine lv_astore (lv' := [(5, .ref (qe)), (0, .ref (q 0)), (1, .int (nI a)), (2, .int (nI k)), (3, .int (t)), (4, .ref (o))]) hx hb d_L_add_22 hl (by decide) rfl (fun ls hl => ?_)
  refine lv_iconst (v := 1) hx hb d_L_add_24 (by decide) ?_
  exact wf_reti C hr hlocks x (⟨rfl, rfl⟩) hP hK hD hS (fun _ h => h) d_L_add_25

set_option maxHeartbeats 4000000 in
set_option maxRecDepth 100000 in
theorem c_L_subtract_b1 (l : Launch) (hst : l.stackTraces = false) (D : va_G) (q : Nat → Nat) (κ : Nat → ClassId) (o : Nat) (ko : ClassId) (x : (SX × (Nat → Int64))) (a : Int32) (k : Int32) (t : Int32) (hbad : wf_no a = true) (sz : Nat) : Met l y_L_subtract (.codeWith y_L_subtract b_L_subtract 6 (some .int) [(0, 19, 22, 13)] :: wG) (wf_rm 8 200 1 6) (wf_PcO D vwCl (wXO o ko q κ x) (tyXO ko κ) ([.ref (q 0), .int (a), .int (k), .int (t), .ref o]) sz) (va_Qi (fun r v => r = 1 ∧ v = x) (wf_B D vwCl (wXO o ko q κ) (tyXO ko κ) (va_A (wXO o ko q κ x) sz)) (va_A (wXO o ko q κ x) sz)) 1 6 (va_A (wXO o ko q κ x) sz) := by
  refine wo_open (by decide) (Nat.le_of_ble_eq_true rfl) ?_
  intro p e s m below meth c ls hsz C hr hlocks htab hAll hP hK hD hl
  subst hsz
  have hx := C.1
  have hb := C.2.1
  have hml := C.2.2.1
  have hown := C.2.2.2.1
  have hts := C.2.2.2.2
  have hA : ∀ j : Nat, s.heap.size ≤ j → va_A (wXO o ko q κ x) s.heap.size j := fun j h => Or.inr h
  have hS : va_S (va_A (wXO o ko q κ x) s.heap.size) s.heap s.heap [] := va_S.rf
  generalize hAe : va_A (wXO o ko q κ x) s.heap.size = A at hA hS hD ⊢
  have hl : lv_has ls 6 [(0, .ref (q 0)), (1, .int (a)), (2, .int (k)), (3, .int (t)), (4, .ref (o))] := hl
  have hPc := hP.sub (ws' := wX q κ x.1) [0, 1, 2, 3, 4] rfl
  have hDc := hD.sub (ws' := wX q κ x.1) [0, 1, 2, 3, 4] (by decide) rfl
  have hKc := hK.sub (tys' := tyX κ) [0, 1, 2, 3] rfl
  refine lv_aload hx hb d_L_subtract_0 (lv_at hl 4 rfl) ?_
  refine lv_iconst (v := 0) hx hb d_L_subtract_2 (by decide) ?_
  refine lv_aload_n hx hb d_L_subtract_3 rfl (lv_at hl 0 rfl) ?_
  refine lv_iload_n hx hb d_L_subtract_4 rfl (lv_at hl 1 rfl) ?_
  refine lv_iload_n hx hb d_L_subtract_5 rfl (lv_at hl 2 rfl) ?_
  refine lv_iload_n hx hb d_L_subtract_6 rfl (lv_at hl 3 rfl) ?_
  refine wx_catchV (As := [.int (a), .int (k), .int (t)]) (rest := [.int (0), .ref (o)]) C (t_X_subtract_b1 l hst (q 0) a k t hbad) (cwV 3 C.2.2.2.2 (wG_V (fun _ h => h) k_ml_L_23 k_im_X_subtract k_se_X_subtract k_in_X k_X_subtract) rfl rfl rfl (by decide +kernel) ⟨Nat.le_of_ble_eq_true rfl, Nat.le_of_ble_eq_true rfl⟩) ⟨wx_Pc_blind wx_T, va_recv hKc hPc (ci := 0) (q0 := 0) rfl rfl, wx_Pc_pre hAll.1 (fun _ _ => rfl) (fun _ _ _ => trivial)⟩ rfl hl.1 rfl (Nat.le_of_ble_eq_true rfl) d_L_subtract_7 ⟨Nat.le_of_ble_eq_true rfl, Nat.le_of_ble_eq_true rfl⟩ [] ⟨0, 19, 22, 13⟩ [] htab (fun z hz => absurd hz List.not_mem_nil) rfl (by decide) (hts _ k_kl_L_13) (fun qe H1 hz hk => ?_)
  have hP := hP.kept (fun k z h => hk _ ((hP k z h).lt))
  have hS : va_S A s.heap H1 [] := ⟨hz, fun z h _ => hk z h, fun _ h => by cases h⟩
  refine lv_astore (lv' := [(5, .ref (qe)), (0, .ref (q 0)), (1, .int (a)), (2, .int (k)), (3, .int (t)), (4, .ref (o))]) hx hb d_L_subtract_22 hl (by decide) rfl (fun ls hl => ?_)
  refine lv_iconst (v := 1) hx hb d_L_subtract_24 (by decide) ?_
  exact wf_reti C hr hlocks x (⟨rfl, rfl⟩) hP hK hD hS (fun _ h => h) d_L_subtract_25

set_option maxHeartbeats 4000000 in
set_option maxRecDepth 100000 in
theorem c_L_subtract_b2 (l : Launch) (hst : l.stackTraces = false) (D : va_G) (q : Nat → Nat) (κ : Nat → ClassId) (o : Nat) (ko : ClassId) (x : (SX × (Nat → Int64))) (a : Nat) (ha : a < 8) (k : Int32) (t : Int32) (hbad : wf_no k = true) (sz : Nat) : Met l y_L_subtract (.codeWith y_L_subtract b_L_subtract 6 (some .int) [(0, 19, 22, 13)] :: wG) (wf_rm 8 200 1 6) (wf_PcO D vwCl (wXO o ko q κ x) (tyXO ko κ) ([.ref (q 0), .int (nI a), .int (k), .int (t), .ref o]) sz) (va_Qi (fun r v => r = 1 ∧ v = x) (wf_B D vwCl (wXO o ko q κ) (tyXO ko κ) (va_A (wXO o ko q κ x) sz)) (va_A (wXO o ko q κ x) sz)) 1 6 (va_A (wXO o ko q κ x) sz) := by
  refine wo_open (by decide) (Nat.le_of_ble_eq_true rfl) ?_
  intro p e s m below meth c ls hsz C hr hlocks htab hAll hP hK hD hl
  subst hsz
  have hx := C.1
  have hb := C.2.1
  have hml := C.2.2.1
  have hown := C.2.2.2.1
  have hts := C.2.2.2.2
  have hA : ∀ j : Nat, s.heap.size ≤ j → va_A (wXO o ko q κ x) s.heap.size j := fun j h => Or.inr h
  have hS : va_S (va_A (wXO o ko q κ x) s.heap.size) s.heap s.heap [] := va_S.rf
  generalize hAe : va_A (wXO o ko q κ x) s.heap.size = A at hA hS hD ⊢
  have hl : lv_has ls 6 [(0, .ref (q 0)), (1, .int (nI a)), (2, .int (k)), (3, .int (t)), (4, .ref (o))] := hl
  have hPc := hP.sub (ws' := wX q κ x.1) [0, 1, 2, 3, 4] rfl
  have hDc := hD.sub (ws' := wX q κ x.1) [0, 1, 2, 3, 4] (by decide) rfl
  have hKc := hK.sub (tys' := tyX κ) [0, 1, 2, 3] rfl
  refine lv_aload hx hb d_L_subtract_0 (lv_at hl 4 rfl) ?_
  refine lv_iconst (v := 0) hx hb d_L_subtract_2 (by decide) ?_
  refine lv_aload_n hx hb d_L_subtract_3 rfl (lv_at hl 0 rfl) ?_
  refine lv_iload_n hx hb d_L_subtract_4 rfl (lv_at hl 1 rfl) ?_
  refine lv_iload_n hx hb d_L_subtract_5 rfl (lv_at hl 2 rfl) ?_
  refine lv_iload_n hx hb d_L_subtract_6 rfl (lv_at hl 3 rfl) ?_
  refine wx_catchV (As := [.int (nI a), .int (k), .int (t)]) (rest := [.int (0), .ref (o)]) C (t_X_subtract_b2 l hst (q 0) a ha k t hbad) (cwV 3 C.2.2.2.2 (wG_V (fun _ h => h) k_ml_L_23 k_im_X_subtract k_se_X_subtract k_in_X k_X_subtract) rfl rfl rfl (by decide +kernel) ⟨Nat.le_of_ble_eq_true rfl, Nat.le_of_ble_eq_true rfl⟩) ⟨wx_Pc_blind wx_T, va_recv hKc hPc (ci := 0) (q0 := 0) rfl rfl, wx_Pc_pre hAll.1 (fun _ _ => rfl) (fun _ _ _ => trivial)⟩ rfl hl.1 rfl (Nat.le_of_ble_eq_true rfl) d_L_subtract_7 ⟨Nat.le_of_ble_eq_true rfl, Nat.le_of_ble_eq_true rfl⟩ [] ⟨0, 19, 22, 13⟩ [] htab (fun z hz => absurd hz List.not_mem_nil) rfl (by decide) (hts _ k_kl_L_13) (fun qe H1 hz hk => ?_)
  have hP := hP.kept (fun k z h => hk _ ((hP k z h).lt))
  have hS : va_S A s.heap H1 [] := ⟨hz, fun z h _ => hk z h, fun _ h => by cases h⟩
  refine lv_astore (lv' := [(5, .ref (qe)), (0, .ref (q 0)), (1, .int (nI a)), (2, .int (k)), (3, .int (t)), (4, .ref (o))]) hx hb d_L_subtract_22 hl (by decide) rfl (fun ls hl => ?_)
  refine lv_iconst (v := 1) hx hb d_L_subtract_24 (by decide) ?_
  exact wf_reti C hr hlocks x (⟨rfl, rfl⟩) hP hK hD hS (fun _ h => h) d_L_subtract_25

set_option maxHeartbeats 4000000 in
set_option maxRecDepth 100000 in
theorem c_L_subtract_b3 (l : Launch) (hst : l.stackTraces = false) (D : va_G) (q : Nat → Nat) (κ : Nat → ClassId) (o : Nat) (ko : ClassId) (x : (SX × (Nat → Int64))) (a : Nat) (ha : a < 8) (k : Nat) (hk : k < 8) (t : Int32) (hbad : wf_no t = true) (sz : Nat) : Met l y_L_subtract (.codeWith y_L_subtract b_L_subtract 6 (some .int) [(0, 19, 22, 13)] :: wG) (wf_rm 8 200 1 6) (wf_PcO D vwCl (wXO o ko q κ x) (tyXO ko κ) ([.ref (q 0), .int (nI a), .int (nI k), .int (t), .ref o]) sz) (va_Qi (fun r v => r = 1 ∧ v = x) (wf_B D vwCl (wXO o ko q κ) (tyXO ko κ) (va_A (wXO o ko q κ x) sz)) (va_A (wXO o ko q κ x) sz)) 1 6 (va_A (wXO o ko q κ x) sz) := by
  refine wo_open (by decide) (Nat.le_of_ble_eq_true rfl) ?_
  intro p e s m below meth c ls hsz C hr hlocks htab hAll hP hK hD hl
  subst hsz
  have hx := C.1
  have hb := C.2.1
  have hml := C.2.2.1
  have hown := C.2.2.2.1
  have hts := C.2.2.2.2
  have hA : ∀ j : Nat, s.heap.size ≤ j → va_A (wXO o ko q κ x) s.heap.size j := fun j h => Or.inr h
  have hS : va_S (va_A (wXO o ko q κ x) s.heap.size) s.heap s.heap [] := va_S.rf
  generalize hAe : va_A (wXO o ko q κ x) s.heap.size = A at hA hS hD ⊢
  have hl : lv_has ls 6 [(0, .ref (q 0)), (1, .int (nI a)), (2, .int (nI k)), (3, .int (t)), (4, .ref (o))] := hl
  have hPc := hP.sub (ws' := wX q κ x.1) [0, 1, 2, 3, 4] rfl
  have hDc := hD.sub (ws' := wX q κ x.1) [0, 1, 2, 3, 4] (by decide) rfl
  have hKc := hK.sub (tys' := tyX κ) [0, 1, 2, 3] rfl
  refine lv_aload hx hb d_L_subtract_0 (lv_at hl 4 rfl) ?_
  refine lv_iconst (v := 0) hx hb d_L_subtract_2 (by decide) ?_
  refine lv_aload_n hx hb d_L_subtract_3 rfl (lv_at hl 0 rfl) ?_
  refine lv_iload_n hx hb d_L_subtract_4 rfl (lv_at hl 1 rfl) ?_
  refine lv_iload_n hx hb d_L_subtract_5 rfl (lv_at hl 2 rfl) ?_
  refine lv_iload_n hx hb d_L_subtract_6 rfl (lv_at hl 3 rfl) ?_
  refine wx_catchV (As := [.int (nI a), .int (nI k), .int (t)]) (rest := [.int (0), .ref (o)]) C (t_X_subtract_b3 l hst (q 0) a ha k hk t hbad) (cwV 3 C.2.2.2.2 (wG_V (fun _ h => h) k_ml_L_23 k_im_X_subtract k_se_X_subtract k_in_X k_X_subtract) rfl rfl rfl (by decide +kernel) ⟨Nat.le_of_ble_eq_true rfl, Nat.le_of_ble_eq_true rfl⟩) ⟨wx_Pc_blind wx_T, va_recv hKc hPc (ci := 0) (q0 := 0) rfl rfl, wx_Pc_pre hAll.1 (fun _ _ => rfl) (fun _ _ _ => trivial)⟩ rfl hl.1 rfl (Nat.le_of_ble_eq_true rfl) d_L_subtract_7 ⟨Nat.le_of_ble_eq_true rfl, Nat.le_of_ble_eq_true rfl⟩ [] ⟨0, 19, 22, 13⟩ [] htab (fun z hz => absurd hz List.not_mem_nil) rfl (by decide) (hts _ k_kl_L_13) (fun qe H1 hz hk => ?_)
  have hP := hP.kept (fun k z h => hk _ ((hP k z h).lt))
  have hS : va_S A s.heap H1 [] := ⟨hz, fun z h _ => hk z h, fun _ h => by cases h⟩
  refine lv_astore (lv' := [(5, .ref (qe)), (0, .ref (q 0)), (1, .int (nI a)), (2, .int (nI k)), (3, .int (t)), (4, .ref (o))]) hx hb d_L_subtract_22 hl (by decide) rfl (fun ls hl => ?_)
  refine lv_iconst (v := 1) hx hb d_L_subtract_24 (by decide) ?_
  exact wf_reti C hr hlocks x (⟨rfl, rfl⟩) hP hK hD hS (fun _ h => h) d_L_subtract_25

set_option maxHeartbeats 4000000 in
set_option maxRecDepth 100000 in
theorem c_L_multiply_b1 (l : Launch) (hst : l.stackTraces = false) (D : va_G) (q : Nat → Nat) (κ : Nat → ClassId) (o : Nat) (ko : ClassId) (x : (SX × (Nat → Int64))) (a : Int32) (k : Int32) (g : Int32) (t : Int32) (hbad : wf_no a = true) (sz : Nat) : Met l y_L_multiply (.codeWith y_L_multiply b_L_multiply 6 (some .int) [(0, 9, 12, 13), (0, 9, 16, 30)] :: wG) (wf_rm 8 200 1 6) (wf_PcO D vwCl (wXO o ko q κ x) (tyXO ko κ) ([.ref (q 0), .int (a), .int (k), .int (g), .int (t)]) sz) (va_Qi (fun r v => r = 1 ∧ v = x) (wf_B D vwCl (wXO o ko q κ) (tyXO ko κ) (va_A (wXO o ko q κ x) sz)) (va_A (wXO o ko q κ x) sz)) 1 6 (va_A (wXO o ko q κ x) sz) := by
  refine wo_open (by decide) (Nat.le_of_ble_eq_true rfl) ?_
  intro p e s m below meth c ls hsz C hr hlocks htab hAll hP hK hD hl
  subst hsz
  have hx := C.1
  have hb := C.2.1
  have hml := C.2.2.1
  have hown := C.2.2.2.1
  have hts := C.2.2.2.2
  have hA : ∀ j : Nat, s.heap.size ≤ j → va_A (wXO o ko q κ x) s.heap.size j := fun j h => Or.inr h
  have hS : va_S (va_A (wXO o ko q κ x) s.heap.size) s.heap s.heap [] := va_S.rf
  generalize hAe : va_A (wXO o ko q κ x) s.heap.size = A at hA hS hD ⊢
  have hl : lv_has ls 6 [(0, .ref (q 0)), (1, .int (a)), (2, .int (k)), (3, .int (g)), (4, .int (t))] := hl
  have hPc := hP.sub (ws' := wX q κ x.1) [0, 1, 2, 3, 4] rfl
  have hDc := hD.sub (ws' := wX q κ x.1) [0, 1, 2, 3, 4] (by decide) rfl
  have hKc := hK.sub (tys' := tyX κ) [0, 1, 2, 3] rfl
  refine lv_aload_n hx hb d_L_multiply_0 rfl (lv_at hl 0 rfl) ?_
  refine lv_iload_n hx hb d_L_multiply_1 rfl (lv_at hl 1 rfl) ?_
  refine lv_iload_n hx hb d_L_multiply_2 rfl (lv_at hl 2 rfl) ?_
  refine lv_iload_n hx hb d_L_multiply_3 rfl (lv_at hl 3 rfl) ?_
  refine lv_iload hx hb d_L_multiply_4 (lv_at hl 4 rfl) ?_
  refine wx_catchV (As := [.int (a), .int (k), .int (g), .int (t)]) (rest := []) C (t_X_multiply_b1 l hst (q 0) a k g t hbad) (cwV 4 C.2.2.2.2 (wG_V (fun _ h => h) k_ml_L_26 k_im_X_multiply k_se_X_multiply k_in_X k_X_multiply) rfl rfl rfl (by decide +kernel) ⟨Nat.le_of_ble_eq_true rfl, Nat.le_of_ble_eq_true rfl⟩) ⟨wx_Pc_blind wx_T, va_recv hKc hPc (ci := 0) (q0 := 0) rfl rfl, wx_Pc_pre hAll.1 (fun _ _ => rfl) (fun _ _ _ => trivial)⟩ rfl hl.1 rfl (Nat.le_of_ble_eq_true rfl) d_L_multiply_6 ⟨Nat.le_of_ble_eq_true rfl, Nat.le_of_ble_eq_true rfl⟩ [] ⟨0, 9, 12, 13⟩ [⟨0, 9, 16, 30⟩] htab (fun z hz => absurd hz List.not_mem_nil) rfl (by decide) (hts _ k_kl_L_13) (fun qe H1 hz hk => ?_)
  have hP := hP.kept (fun k z h => hk _ ((hP k z h).lt))
  have hS : va_S A s.heap H1 [] := ⟨hz, fun z h _ => hk z h, fun _ h => by cases h⟩
  refine lv_astore (lv' := [(5, .ref (qe)), (0, .ref (q 0)), (1, .int (a)), (2, .int (k)), (3, .int (g)), (4, .int (t))]) hx hb d_L_multiply_12 hl (by decide) rfl (fun ls hl => ?_)
  refine lv_iconst (v := 1) hx hb d_L_multiply_14 (by decide) ?_
  exact wf_reti C hr hlocks x (⟨rfl, rfl⟩) hP hK hD hS (fun _ h => h) d_L_multiply_15

set_option maxHeartbeats 4000000 in
set_option maxRecDepth 100000 in
theorem c_L_multiply_b2 (l : Launch) (hst : l.stackTraces = false) (D : va_G) (q : Nat → Nat) (κ : Nat → ClassId) (o : Nat) (ko : ClassId) (x : (SX × (Nat → Int64))) (a : Nat) (ha : a < 8) (k : Int32) (g : Int32) (t : Int32) (hbad : wf_no k = true) (sz : Nat) : Met l y_L_multiply (.codeWith y_L_multiply b_L_multiply 6 (some .int) [(0, 9, 12, 13), (0, 9, 16, 30)] :: wG) (wf_rm 8 200 1 6) (wf_PcO D vwCl (wXO o ko q κ x) (tyXO ko κ) ([.ref (q 0), .int (nI a), .int (k), .int (g), .int (t)]) sz) (va_Qi (fun r v => r = 1 ∧ v = x) (wf_B D vwCl (wXO o ko q κ) (tyXO ko κ) (va_A (wXO o ko q κ x) sz)) (va_A (wXO o ko q κ x) sz)) 1 6 (va_A (wXO o ko q κ x) sz) := by
  refine wo_open (by decide) (Nat.le_of_ble_eq_true rfl) ?_
  intro p e s m below meth c ls hsz C hr hlocks htab hAll hP hK hD hl
  subst hsz
  have hx := C.1
  have hb := C.2.1
  have hml := C.2.2.1
  have hown := C.2.2.2.1
  have hts := C.2.2.2.2
  have hA : ∀ j : Nat, s.heap.size ≤ j → va_A (wXO o ko q κ x) s.heap.size j := fun j h => Or.inr h
  have hS : va_S (va_A (wXO o ko q κ x) s.heap.size) s.heap s.heap [] := va_S.rf
  generalize hAe : va_A (wXO o ko q κ x) s.heap.size = A at hA hS hD ⊢
  have hl : lv_has ls 6 [(0, .ref (q 0)), (1, .int (nI a)), (2, .int (k)), (3, .int (g)), (4, .int (t))] := hl
  have hPc := hP.sub (ws' := wX q κ x.1) [0, 1, 2, 3, 4] rfl
  have hDc := hD.sub (ws' := wX q κ x.1) [0, 1, 2, 3, 4] (by decide) rfl
  have hKc := hK.sub (tys' := tyX κ) [0, 1, 2, 3] rfl
  refine lv_aload_n hx hb d_L_multiply_0 rfl (lv_at hl 0 rfl) ?_
  refine lv_iload_n hx hb d_L_multiply_1 rfl (lv_at hl 1 rfl) ?_
  refine lv_iload_n hx hb d_L_multiply_2 rfl (lv_at hl 2 rfl) ?_
  refine lv_iload_n hx hb d_L_multiply_3 rfl (lv_at hl 3 rfl) ?_
  refine lv_iload hx hb d_L_multiply_4 (lv_at hl 4 rfl) ?_
  refine wx_catchV (As := [.int (nI a), .int (k), .int (g), .int (t)]) (rest := []) C (t_X_multiply_b2 l hst (q 0) a ha k g t hbad) (cwV 4 C.2.2.2.2 (wG_V (fun _ h => h) k_ml_L_26 k_im_X_multiply k_se_X_multiply k_in_X k_X_multiply) rfl rfl rfl (by decide +kernel) ⟨Nat.le_of_ble_eq_true rfl, Nat.le_of_ble_eq_true rfl⟩) ⟨wx_Pc_blind wx_T, va_recv hKc hPc (ci := 0) (q0 := 0) rfl rfl, wx_Pc_pre hAll.1 (fun _ _ => rfl) (fun _ _ _ => trivial)⟩ rfl hl.1 rfl (Nat.le_of_ble_eq_true rfl) d_L_multiply_6 ⟨Nat.le_of_ble_eq_true rfl, Nat.le_of_ble_eq_true rfl⟩ [] ⟨0, 9, 12, 13⟩ [⟨0, 9, 16, 30⟩] htab (fun z hz => absurd hz List.not_mem_nil) rfl (by decide) (hts _ k_kl_L_13) (fun qe H1 hz hk => ?_)
  have hP := hP.kept (fun k z h => hk _ ((hP k z h).lt))
  have hS : va_S A s.heap H1 [] := ⟨hz, fun z h _ => hk z h, fun _ h => by cases h⟩
  refine lv_astore (lv' := [(5, .ref (qe)), (0, .ref (q 0)), (1, .int (nI a)), (2, .int (k)), (3, .int (g)), (4, .int (t))]) hx hb d_L_multiply_12 hl (by decide) rfl (fun ls hl => ?_)
  refine lv_iconst (v := 1) hx hb d_L_multiply_14 (by decide) ?_
  exact wf_reti C hr hlocks x (⟨rfl, rfl⟩) hP hK hD hS (fun _ h => h) d_L_multiply_15

set_option maxHeartbeats 4000000 in
set_option maxRecDepth 100000 in
theorem c_L_multiply_b3 (l : Launch) (hst : l.stackTraces = false) (D : va_G) (q : Nat → Nat) (κ : Nat → ClassId) (o : Nat) (ko : ClassId) (x : (SX × (Nat → Int64))) (a : Nat) (ha : a < 8) (k : Nat) (hk : k < 8) (g : Int32) (t : Int32) (hbad : wf_no g = true) (sz : Nat) : Met l y_L_multiply (.codeWith y_L_multiply b_L_multiply 6 (some .int) [(0, 9, 12, 13), (0, 9, 16, 30)] :: wG) (wf_rm 8 200 1 6) (wf_PcO D vwCl (wXO o ko q κ x) (tyXO ko κ) ([.ref (q 0), .int (nI a), .int (nI k), .int (g), .int (t)]) sz) (va_Qi (fun r v => r = 1 ∧ v = x) (wf_B D vwCl (wXO o ko q κ) (tyXO ko κ) (va_A (wXO o ko q κ x) sz)) (va_A (wXO o ko q κ x) sz)) 1 6 (va_A (wXO o ko q κ x) sz) := by
  refine wo_open (by decide) (Nat.le_of_ble_eq_true rfl) ?_
  intro p e s m below meth c ls hsz C hr hlocks htab hAll hP hK hD hl
  subst hsz
  have hx := C.1
  have hb := C.2.1
  have hml := C.2.2.1
  have hown := C.2.2.2.1
  have hts := C.2.2.2.2
  have hA : ∀ j : Nat, s.heap.size ≤ j → va_A (wXO o ko q κ x) s.heap.size j := fun j h => Or.inr h
  have hS : va_S (va_A (wXO o ko q κ x) s.heap.size) s.heap s.heap [] := va_S.rf
  generalize hAe : va_A (wXO o ko q κ x) s.heap.size = A at hA hS hD ⊢
  have hl : lv_has ls 6 [(0, .ref (q 0)), (1, .int (nI a)), (2, .int (nI k)), (3, .int (g)), (4, .int (t))] := hl
  have hPc := hP.sub (ws' := wX q κ x.1) [0, 1, 2, 3, 4] rfl
  have hDc := hD.sub (ws' := wX q κ x.1) [0, 1, 2, 3, 4] (by decide) rfl
  have hKc := hK.sub (tys' := tyX κ) [0, 1, 2, 3] rfl
  refine lv_aload_n hx hb d_L_multiply_0 rfl (lv_at hl 0 rfl) ?_
  refine lv_iload_n hx hb d_L_multiply_1 rfl (lv_at hl 1 rfl) ?_
  refine lv_iload_n hx hb d_L_multiply_2 rfl (lv_at hl 2 rfl) ?_
  refine lv_iload_n hx hb d_L_multiply_3 rfl (lv_at hl 3 rfl) ?_
  refine lv_iload hx hb d_L_multiply_4 (lv_at hl 4 rfl) ?_
  refine wx_catchV (As := [.int (nI a), .int (nI k), .int (g), .int (t)]) (rest := []) C (t_X_multiply_b3 l hst (q 0) a ha k hk g t hbad) (cwV 4 C.2.2.2.2 (wG_V (fun _ h => h) k_ml_L_26 k_im_X_multiply k_se_X_multiply k_in_X k_X_multiply) rfl rfl rfl (by decide +kernel) ⟨Nat.le_of_ble_eq_true rfl, Nat.le_of_ble_eq_true rfl⟩) ⟨wx_Pc_blind wx_T, va_recv hKc hPc (ci := 0) (q0 := 0) rfl rfl, wx_Pc_pre hAll.1 (fun _ _ => rfl) (fun _ _ _ => trivial)⟩ rfl hl.1 rfl (Nat.le_of_ble_eq_true rfl) d_L_multiply_6 ⟨Nat.le_of_ble_eq_true rfl, Nat.le_of_ble_eq_true rfl⟩ [] ⟨0, 9, 12, 13⟩ [⟨0, 9, 16, 30⟩] htab (fun z hz => absurd hz List.not_mem_nil) rfl (by decide) (hts _ k_kl_L_13) (fun qe H1 hz hk => ?_)
  have hP := hP.kept (fun k z h => hk _ ((hP k z h).lt))
  have hS : va_S A s.heap H1 [] := ⟨hz, fun z h _ => hk z h, fun _ h => by cases h⟩
  refine lv_astore (lv' := [(5, .ref (qe)), (0, .ref (q 0)), (1, .int (nI a)), (2, .int (nI k)), (3, .int (g)), (4, .int (t))]) hx hb d_L_multiply_12 hl (by decide) rfl (fun ls hl => ?_)
  refine lv_iconst (v := 1) hx hb d_L_multiply_14 (by decide) ?_
  exact wf_reti C hr hlocks x (⟨rfl, rfl⟩) hP hK hD hS (fun _ h => h) d_L_multiply_15

set_option maxHeartbeats 4000000 in
set_option maxRecDepth 100000 in
theorem c_L_multiply_b4 (l : Launch) (hst : l.stackTraces = false) (D : va_G) (q : Nat → Nat) (κ : Nat → ClassId) (o : Nat) (ko : ClassId) (x : (SX × (Nat → Int64))) (a : Nat) (ha : a < 8) (k : Nat) (hk : k < 8) (g : Nat) (hg : g < 8) (t : Int32) (hbad : wf_no t = true) (sz : Nat) : Met l y_L_multiply (.codeWith y_L_multiply b_L_multiply 6 (some .int) [(0, 9, 12, 13), (0, 9, 16, 30)] :: wG) (wf_rm 8 200 1 6) (wf_PcO D vwCl (wXO o ko q κ x) (tyXO ko κ) ([.ref (q 0), .int (nI a), .int (nI k), .int (nI g), .int (t)]) sz) (va_Qi (fun r v => r = 1 ∧ v = x) (wf_B D vwCl (wXO o ko q κ) (tyXO ko κ) (va_A (wXO o ko q κ x) sz)) (va_A (wXO o ko q κ x) sz)) 1 6 (va_A (wXO o ko q κ x) sz) := by
  refine wo_open (by decide) (Nat.le_of_ble_eq_true rfl) ?_
  intro p e s m below meth c ls hsz C hr hlocks htab hAll hP hK hD hl
  subst hsz
  have hx := C.1
  have hb := C.2.1
  have hml := C.2.2.1
  have hown := C.2.2.2.1
  have hts := C.2.2.2.2
  have hA : ∀ j : Nat, s.heap.size ≤ j → va_A (wXO o ko q κ x) s.heap.size j := fun j h => Or.inr h
  have hS : va_S (va_A (wXO o ko q κ x) s.heap.size) s.heap s.heap [] := va_S.rf
  generalize hAe : va_A (wXO o ko q κ x) s.heap.size = A at hA hS hD ⊢
  have hl : lv_has ls 6 [(0, .ref (q 0)), (1, .int (nI a)), (2, .int (nI k)), (3, .int (nI g)), (4, .int (t))] := hl
  have hPc := hP.sub (ws' := wX q κ x.1) [0, 1, 2, 3, 4] rfl
  have hDc := hD.sub (ws' := wX q κ x.1) [0, 1, 2, 3, 4] (by decide) rfl
  have hKc := hK.sub (tys' := tyX κ) [0, 1, 2, 3] rfl
  refine lv_aload_n hx hb d_L_multiply_0 rfl (lv_at hl 0 rfl) ?_
  refine lv_iload_n hx hb d_L_multiply_1 rfl (lv_at hl 1 rfl) ?_
  refine lv_iload_n hx hb d_L_multiply_2 rfl (lv_at hl 2 rfl) ?_
  refine lv_iload_n hx hb d_L_multiply_3 rfl (lv_at hl 3 rfl) ?_
  refine lv_iload hx hb d_L_multiply_4 (lv_at hl 4 rfl) ?_
  refine wx_catchV (As := [.int (nI a), .int (nI k), .int (nI g), .int (t)]) (rest := []) C (t_X_multiply_b4 l hst (q 0) a ha k hk g hg t hbad) (cwV 4 C.2.2.2.2 (wG_V (fun _ h => h) k_ml_L_26 k_im_X_multiply k_se_X_multiply k_in_X k_X_multiply) rfl rfl rfl (by decide +kernel) ⟨Nat.le_of_ble_eq_true rfl, Nat.le_of_ble_eq_true rfl⟩) ⟨wx_Pc_blind wx_T, va_recv hKc hPc (ci := 0) (q0 := 0) rfl rfl, wx_Pc_pre hAll.1 (fun _ _ => rfl) (fun _ _ _ => trivial)⟩ rfl hl.1 rfl (Nat.le_of_ble_eq_true rfl) d_L_multiply_6 ⟨Nat.le_of_ble_eq_true rfl, Nat.le_of_ble_eq_true rfl⟩ [] ⟨0, 9, 12, 13⟩ [⟨0, 9, 16, 30⟩] htab (fun z hz => absurd hz List.not_mem_nil) rfl (by decide) (hts _ k_kl_L_13) (fun qe H1 hz hk => ?_)
  have hP := hP.kept (fun k z h => hk _ ((hP k z h).lt))
  have hS : va_S A s.heap H1 [] := ⟨hz, fun z h _ => hk z h, fun _ h => by cases h⟩
  refine lv_astore (lv' := [(5, .ref (qe)), (0, .ref (q 0)), (1, .int (nI a)), (2, .int (nI k)), (3, .int (nI g)), (4, .int (t))]) hx hb d_L_multiply_12 hl (by decide) rfl (fun ls hl => ?_)
  refine lv_iconst (v := 1) hx hb d_L_multiply_14 (by decide) ?_
  exact wf_reti C hr hlocks x (⟨rfl, rfl⟩) hP hK hD hS (fun _ h => h) d_L_multiply_15

set_option maxHeartbeats 4000000 in
set_option maxRecDepth 100000 in
theorem c_L_divide_b1 (l : Launch) (hst : l.stackTraces = false) (D : va_G) (q : Nat → Nat) (κ : Nat → ClassId) (o : Nat) (ko : ClassId) (x : (SX × (Nat → Int64))) (a : Int32) (k : Int32) (g : Int32) (t : Int32) (hbad : wf_no a = true) (sz : Nat) : Met l y_L_divide (.codeWith y_L_divide b_L_divide 6 (some .int) [(0, 9, 12, 13), (0, 9, 16, 30), (0, 9, 20, 35)] :: wG) (wf_rm 8 200 1 6) (wf_PcO D vwCl (wXO o ko q κ x) (tyXO ko κ) ([.ref (q 0), .int (a), .int (k), .int (g), .int (t)]) sz) (va_Qi (fun r v => r = 1 ∧ v = x) (wf_B D vwCl (wXO o ko q κ) (tyXO ko κ) (va_A (wXO o ko q κ x) sz)) (va_A (wXO o ko q κ x) sz)) 1 6 (va_A (wXO o ko q κ x) sz) := by
  refine wo_open (by decide) (Nat.le_of_ble_eq_true rfl) ?_
  intro p e s m below meth c ls hsz C hr hlocks htab hAll hP hK hD hl
  subst hsz
  have hx := C.1
  have hb := C.2.1
  have hml := C.2.2.1
  have hown := C.2.2.2.1
  have hts := C.2.2.2.2
  have hA : ∀ j : Nat, s.heap.size ≤ j → va_A (wXO o ko q κ x) s.heap.size j := fun j h => Or.inr h
  have hS : va_S (va_A (wXO o ko q κ x) s.heap.size) s.heap s.heap [] := va_S.rf
  generalize hAe : va_A (wXO o ko q κ x) s.heap.size = A at hA hS hD ⊢
  have hl : lv_has ls 6 [(0, .ref (q 0)), (1, .int (a)), (2, .int (k)), (3, .int (g)), (4, .int (t))] := hl
  have hPc := hP.sub (ws' := wX q κ x.1) [0, 1, 2, 3, 4] rfl
  have hDc := hD.sub (ws' := wX q κ x.1) [0, 1, 2, 3, 4] (by decide) rfl
  have hKc := hK.sub (tys' := tyX κ) [0, 1, 2, 3] rfl
  refine lv_aload_n hx hb d_L_divide_0 rfl (lv_at hl 0 rfl) ?_
  refine lv_iload_n hx hb d_L_divide_1 rfl (lv_at hl 1 rfl) ?_
  refine lv_iload_n hx hb d_L_divide_2 rfl (lv_at hl 2 rfl) ?_
  refine lv_iload_n hx hb d_L_divide_3 rfl (lv_at hl 3 rfl) ?_
  refine lv_iload hx hb d_L_divide_4 (lv_at hl 4 rfl) ?_
  refine wx_catchV (As := [.int (a), .int (k), .int (g), .int (t)]) (rest := []) C (t_X_divide_b1 l hst (q 0) a k g t hbad) (cwV 4 C.2.2.2.2 (wG_V (fun _ h => h) k_ml_L_32 k_im_X_divide k_se_X_divide k_in_X k_X_divide) rfl rfl rfl (by decide +kernel) ⟨Nat.le_of_ble_eq_true rfl, Nat.le_of_ble_eq_true rfl⟩) ⟨wx_Pc_blind wx_T, va_recv hKc hPc (ci := 0) (q0 := 0) rfl rfl, wx_Pc_pre hAll.1 (fun _ _ => rfl) (fun _ _ _ => trivial)⟩ rfl hl.1 rfl (Nat.le_of_ble_eq_true rfl) d_L_divide_6 ⟨Nat.le_of_ble_eq_true rfl, Nat.le_of_ble_eq_true rfl⟩ [] ⟨0, 9, 12, 13⟩ [⟨0, 9, 16, 30⟩, ⟨0, 9, 20, 35⟩] htab (fun z hz => absurd hz List.not_mem_nil) rfl (by decide) (hts _ k_kl_L_13) (fun qe H1 hz hk => ?_)
  have hP := hP.kept (fun k z h => hk _ ((hP k z h).lt))
  have hS : va_S A s.heap H1 [] := ⟨hz, fun z h _ => hk z h, fun _ h => by cases h⟩
  refine lv_astore (lv' := [(5, .ref (qe)), (0, .ref (q 0)), (1, .int (a)), (2, .int (k)), (3, .int (g)), (4, .int (t))]) hx hb d_L_divide_12 hl (by decide) rfl (fun ls hl => ?_)
  refine lv_iconst (v := 1) hx hb d_L_divide_14 (by decide) ?_
  exact wf_reti C hr hlocks x (⟨rfl, rfl⟩) hP hK hD hS (fun _ h => h) d_L_divide_15

set_option maxHeartbeats 4000000 in
set_option maxRecDepth 100000 in
theorem c_L_divide_b2 (l : Launch) (hst : l.stackTraces = false) (D : va_G) (q : Nat → Nat) (κ : Nat → ClassId) (o : Nat) (ko : ClassId) (x : (SX × (Nat → Int64))) (a : Nat) (ha : a < 8) (k : Int32) (g : Int32) (t : Int32) (hbad : wf_no k = true) (sz : Nat) : Met l y_L_divide (.codeWith y_L_divide b_L_divide 6 (some .int) [(0, 9, 12, 13), (0, 9, 16, 30), (0, 9, 20, 35)] :: wG) (wf_rm 8 200 1 6) (wf_PcO D vwCl (wXO o ko q κ x) (tyXO ko κ) ([.ref (q 0), .int (nI a), .int (k), .int (g), .int (t)]) sz) (va_Qi (fun r v => r = 1 ∧ v = x) (wf_B D vwCl (wXO o ko q κ) (tyXO ko κ) (va_A (wXO o ko q κ x) sz)) (va_A (wXO o ko q κ x) sz)) 1 6 (va_A (wXO o ko q κ x) sz) := by
  refine wo_open (by decide) (Nat.le_of_ble_eq_true rfl) ?_
  intro p e s m below meth c ls hsz C hr hlocks htab hAll hP hK hD hl
  subst hsz
  have hx := C.1
  have hb := C.2.1
  have hml := C.2.2.1
  have hown := C.2.2.2.1
  have hts := C.2.2.2.2
  have hA : ∀ j : Nat, s.heap.size ≤ j → va_A (wXO o ko q κ x) s.heap.size j := fun j h => Or.inr h
  have hS : va_S (va_A (wXO o ko q κ x) s.heap.size) s.heap s.heap [] := va_S.rf
  generalize hAe : va_A (wXO o ko q κ x) s.heap.size = A at hA hS hD ⊢
  have hl : lv_has ls 6 [(0, .ref (q 0)), (1, .int (nI a)), (2, .int (k)), (3, .int (g)), (4, .int (t))] := hl
  have hPc := hP.sub (ws' := wX q κ x.1) [0, 1, 2, 3, 4] rfl
  have hDc := hD.sub (ws' := wX q κ x.1) [0, 1, 2, 3, 4] (by decide) rfl
  have hKc := hK.sub (tys' := tyX κ) [0, 1, 2, 3] rfl
  refine lv_aload_n hx hb d_L_divide_0 rfl (lv_at hl 0 rfl) ?_
  refine lv_iload_n hx hb d_L_divide_1 rfl (lv_at hl 1 rfl) ?_
  refine lv_iload_n hx hb d_L_divide_2 rfl (lv_at hl 2 rfl) ?_
  refine lv_iload_n hx hb d_L_divide_3 rfl (lv_at hl 3 rfl) ?_
  refine lv_iload hx hb d_L_divide_4 (lv_at hl 4 rfl) ?_
  refine wx_catchV (As := [.int (nI a), .int (k), .int (g), .int (t)]) (rest := []) C (t_X_divide_b2 l hst (q 0) a ha k g t hbad) (cwV 4 C.2.2.2.2 (wG_V (fun _ h => h) k_ml_L_32 k_im_X_divide k_se_X_divide k_in_X k_X_divide) rfl rfl rfl (by decide +kernel) ⟨Nat.le_of_ble_eq_true rfl, Nat.le_of_ble_eq_true rfl⟩) ⟨wx_Pc_blind wx_T, va_recv hKc hPc (ci := 0) (q0 := 0) rfl rfl, wx_Pc_pre hAll.1 (fun _ _ => rfl) (fun _ _ _ => trivial)⟩ rfl hl.1 rfl (Nat.le_of_ble_eq_true rfl) d_L_divide_6 ⟨Nat.le_of_ble_eq_true rfl, Nat.le_of_ble_eq_true rfl⟩ [] ⟨0, 9, 12, 13⟩ [⟨0, 9, 16, 30⟩, ⟨0, 9, 20, 35⟩] htab (fun z hz => absurd hz List.not_mem_nil) rfl (by decide) (hts _ k_kl_L_13) (fun qe H1 hz hk => ?_)
  have hP := hP.kept (fun k z h => hk _ ((hP k z h).lt))
  have hS : va_S A s.heap H1 [] := ⟨hz, fun z h _ => hk z h, fun _ h => by cases h⟩
  refine lv_astore (lv' := [(5, .ref (qe)), (0, .ref (q 0)), (1, .int (nI a)), (2, .int (k)), (3, .int (g)), (4, .int (t))]) hx hb d_L_divide_12 hl (by decide) rfl (fun ls hl => ?_)
  refine lv_iconst (v := 1) hx hb d_L_divide_14 (by decide) ?_
  exact wf_reti C hr hlocks x (⟨rfl, rfl⟩) hP hK hD hS (fun _ h => h) d_L_divide_15

set_option maxHeartbeats 4000000 in
set_option maxRecDepth 100000 in
theorem c_L_divide_b3 (l : Launch) (hst : l.stackTraces = false) (D : va_G) (q : Nat → Nat) (κ : Nat → ClassId) (o : Nat) (ko : ClassId) (x : (SX × (Nat → Int64))) (a : Nat) (ha : a < 8) (k : Nat) (hk : k < 8) (g : Int32) (t : Int32) (hbad : wf_no g = true) (sz : Nat) : Met l y_L_divide (.codeWith y_L_divide b_L_divide 6 (some .int) [(0, 9, 12, 13), (0, 9, 16, 30), (0, 9, 20, 35)] :: wG) (wf_rm 8 200 1 6) (wf_PcO D vwCl (wXO o ko q κ x) (tyXO ko κ) ([.ref (q 0), .int (nI a), .int (nI k), .int (g), .int (t)]) sz) (va_Qi (fun r v => r = 1 ∧ v = x) (wf_B D vwCl (wXO o ko q κ) (tyXO ko κ) (va_A (wXO o ko q κ x) sz)) (va_A (wXO o ko q κ x) sz)) 1 6 (va_A (wXO o ko q κ x) sz) := by
  refine wo_open (by decide) (Nat.le_of_ble_eq_true rfl) ?_
  intro p e s m below meth c ls hsz C hr hlocks htab hAll hP hK hD hl
  subst hsz
  have hx := C.1
  have hb := C.2.1
  have hml := C.2.2.1
  have hown := C.2.2.2.1
  have hts := C.2.2.2.2
  have hA : ∀ j : Nat, s.heap.size ≤ j → va_A (wXO o ko q κ x) s.heap.size j := fun j h => Or.inr h
  have hS : va_S (va_A (wXO o ko q κ x) s.heap.size) s.heap s.heap [] := va_S.rf
  generalize hAe : va_A (wXO o ko q κ x) s.heap.size = A at hA hS hD ⊢
  have hl : lv_has ls 6 [(0, .ref (q 0)), (1, .int (nI a)), (2, .int (nI k)), (3, .int (g)), (4, .int (t))] := hl
  have hPc := hP.sub (ws' := wX q κ x.1) [0, 1, 2, 3, 4] rfl
  have hDc := hD.sub (ws' := wX q κ x.1) [0, 1, 2, 3, 4] (by decide) rfl
  have hKc := hK.sub (tys' := tyX κ) [0, 1, 2, 3] rfl
  refine lv_aload_n hx hb d_L_divide_0 rfl (lv_at hl 0 rfl) ?_
  refine lv_iload_n hx hb d_L_divide_1 rfl (lv_at hl 1 rfl) ?_
  refine lv_iload_n hx hb d_L_divide_2 rfl (lv_at hl 2 rfl) ?_
  refine lv_iload_n hx hb d_L_divide_3 rfl (lv_at hl 3 rfl) ?_
  refine lv_iload hx hb d_L_divide_4 (lv_at hl 4 rfl) ?_
  refine wx_catchV (As := [.int (nI a), .int (nI k), .int (g), .int (t)]) (rest := []) C (t_X_divide_b3 l hst (q 0) a ha k hk g t hbad) (cwV 4 C.2.2.2.2 (wG_V (fun _ h => h) k_ml_L_32 k_im_X_divide k_se_X_divide k_in_X k_X_divide) rfl rfl rfl (by decide +kernel) ⟨Nat.le_of_ble_eq_true rfl, Nat.le_of_ble_eq_true rfl⟩) ⟨wx_Pc_blind wx_T, va_recv hKc hPc (ci := 0) (q0 := 0) rfl rfl, wx_Pc_pre hAll.1 (fun _ _ => rfl) (fun _ _ _ => trivial)⟩ rfl hl.1 rfl (Nat.le_of_ble_eq_true rfl) d_L_divide_6 ⟨Nat.le_of_ble_eq_true rfl, Nat.le_of_ble_eq_true rfl⟩ [] ⟨0, 9, 12, 13⟩ [⟨0, 9, 16, 30⟩, ⟨0, 9, 20, 35⟩] htab (fun z hz => absurd hz List.not_mem_nil) rfl (by decide) (hts _ k_kl_L_13) (fun qe H1 hz hk => ?_)
  have hP := hP.kept (fun k z h => hk _ ((hP k z h).lt))
  have hS : va_S A s.heap H1 [] := ⟨hz, fun z h _ => hk z h, fun _ h => by cases h⟩
  refine lv_astore (lv' := [(5, .ref (qe)), (0, .ref (q 0)), (1, .int (nI a)), (2, .int (nI k)), (3, .int (g)), (4, .int (t))]) hx hb d_L_divide_12 hl (by decide) rfl (fun ls hl => ?_)
  refine lv_iconst (v := 1) hx hb d_L_divide_14 (by decide) ?_
  exact wf_reti C hr hlocks x (⟨rfl, rfl⟩) hP hK hD hS (fun _ h => h) d_L_divide_15

set_option maxHeartbeats 4000000 in
set_option maxRecDepth 100000 in
theorem c_L_divide_b4 (l : Launch) (hst : l.stackTraces = false) (D : va_G) (q : Nat → Nat) (κ : Nat → ClassId) (o : Nat) (ko : ClassId) (x : (SX × (Nat → Int64))) (a : Nat) (ha : a < 8) (k : Nat) (hk : k < 8) (g : Nat) (hg : g < 8) (t : Int32) (hbad : wf_no t = true) (sz : Nat) : Met l y_L_divide (.codeWith y_L_divide b_L_divide 6 (some .int) [(0, 9, 12, 13), (0, 9, 16, 30), (0, 9, 20, 35)] :: wG) (wf_rm 8 200 1 6) (wf_PcO D vwCl (wXO o ko q κ x) (tyXO ko κ) ([.ref (q 0), .int (nI a), .int (nI k), .int (nI g), .int (t)]) sz) (va_Qi (fun r v => r = 1 ∧ v = x) (wf_B D vwCl (wXO o ko q κ) (tyXO ko κ) (va_A (wXO o ko q κ x) sz)) (va_A (wXO o ko q κ x) sz)) 1 6 (va_A (wXO o ko q κ x) sz) := by
  refine wo_open (by decide) (Nat.le_of_ble_eq_true rfl) ?_
  intro p e s m below meth c ls hsz C hr hlocks htab hAll hP hK hD hl
  subst hsz
  have hx := C.1
  have hb := C.2.1
  have hml := C.2.2.1
  have hown := C.2.2.2.1
  have hts := C.2.2.2.2
  have hA : ∀ j : Nat, s.heap.size ≤ j → va_A (wXO o ko q κ x) s.heap.size j := fun j h => Or.inr h
  have hS : va_S (va_A (wXO o ko q κ x) s.heap.size) s.heap s.heap [] := va_S.rf
  generalize hAe : va_A (wXO o ko q κ x) s.heap.size = A at hA hS hD ⊢
  have hl : lv_has ls 6 [(0, .ref (q 0)), (1, .int (nI a)), (2, .int (nI k)), (3, .int (nI g)), (4, .int (t))] := hl
  have hPc := hP.sub (ws' := wX q κ x.1) [0, 1, 2, 3, 4] rfl
  have hDc := hD.sub (ws' := wX q κ x.1) [0, 1, 2, 3, 4] (by decide) rfl
  have hKc := hK.sub (tys' := tyX κ) [0, 1, 2, 3] rfl
  refine lv_aload_n hx hb d_L_divide_0 rfl (lv_at hl 0 rfl) ?_
  refine lv_iload_n hx hb d_L_divide_1 rfl (lv_at hl 1 rfl) ?_
  refine lv_iload_n hx hb d_L_divide_2 rfl (lv_at hl 2 rfl) ?_
  refine lv_iload_n hx hb d_L_divide_3 rfl (lv_at hl 3 rfl) ?_
  refine lv_iload hx hb d_L_divide_4 (lv_at hl 4 rfl) ?_
  refine wx_catchV (As := [.int (nI a), .int (nI k), .int (nI g), .int (t)]) (rest := []) C (t_X_divide_b4 l hst (q 0) a ha k hk g hg t hbad) (cwV 4 C.2.2.2.2 (wG_V (fun _ h => h) k_ml_L_32 k_im_X_divide k_se_X_divide k_in_X k_X_divide) rfl rfl rfl (by decide +kernel) ⟨Nat.le_of_ble_eq_true rfl, Nat.le_of_ble_eq_true rfl⟩) ⟨wx_Pc_blind wx_T, va_recv hKc hPc (ci := 0) (q0 := 0) rfl rfl, wx_Pc_pre hAll.1 (fun _ _ => rfl) (fun _ _ _ => trivial)⟩ rfl hl.1 rfl (Nat.le_of_ble_eq_true rfl) d_L_divide_6 ⟨Nat.le_of_ble_eq_true rfl, Nat.le_of_ble_eq_true rfl⟩ [] ⟨0, 9, 12, 13⟩ [⟨0, 9, 16, 30⟩, ⟨0, 9, 20, 35⟩] htab (fun z hz => absurd hz List.not_mem_nil) rfl (by decide) (hts _ k_kl_L_13) (fun qe H1 hz hk => ?_)
  have hP := hP.kept (fun k z h => hk _ ((hP k z h).lt))
  have hS : va_S A s.heap H1 [] := ⟨hz, fun z h _ => hk z h, fun _ h => by cases h⟩
  refine lv_astore (lv' := [(5, .ref (qe)), (0, .ref (q 0)), (1, .int (nI a)), (2, .int (nI k)), (3, .int (nI g)), (4, .int (t))]) hx hb d_L_divide_12 hl (by decide) rfl (fun ls hl => ?_)
  refine lv_iconst (v := 1) hx hb d_L_divide_14 (by decide) ?_
  exact wf_reti C hr hlocks x (⟨rfl, rfl⟩) hP hK hD hS (fun _ h => h) d_L_divide_15

set_option maxHeartbeats 4000000 in
set_option maxRecDepth 100000 in
theorem c_L_root_b1 (l : Launch) (hst : l.stackTraces = false) (D : va_G) (q : Nat → Nat) (κ : Nat → ClassId) (o : Nat) (ko : ClassId) (x : (SX × (Nat → Int64))) (a : Int32) (g : Int32) (t : Int32) (hbad : wf_no a = true) (sz : Nat) : Met l y_L_root (.codeWith y_L_root b_L_root 5 (some .int) [(0, 7, 10, 13), (0, 7, 14, 30)] :: wG) (wf_rm 8 200 1 6) (wf_PcO D vwCl (wXO o ko q κ x) (tyXO ko κ) ([.ref (q 0), .int (a), .int (g), .int (t)]) sz) (va_Qi (fun r v => r = 1 ∧ v = x) (wf_B D vwCl (wXO o ko q κ) (tyXO ko κ) (va_A (wXO o ko q κ x) sz)) (va_A (wXO o ko q κ x) sz)) 1 6 (va_A (wXO o ko q κ x) sz) := by
  refine wo_open (by decide) (Nat.le_of_ble_eq_true rfl) ?_
  intro p e s m below meth c ls hsz C hr hlocks htab hAll hP hK hD hl
  subst hsz
  have hx := C.1
  have hb := C.2.1
  have hml := C.2.2.1
  have hown := C.2.2.2.1
  have hts := C.2.2.2.2
  have hA : ∀ j : Nat, s.heap.size ≤ j → va_A (wXO o ko q κ x) s.heap.size j := fun j h => Or.inr h
  have hS : va_S (va_A (wXO o ko q κ x) s.heap.size) s.heap s.heap [] := va_S.rf
  generalize hAe : va_A (wXO o ko q κ x) s.heap.size = A at hA hS hD ⊢
  have hl : lv_has ls 5 [(0, .ref (q 0)), (1, .int (a)), (2, .int (g)), (3, .int (t))] := hl
  have hPc := hP.sub (ws' := wX q κ x.1) [0, 1, 2, 3, 4] rfl
  have hDc := hD.sub (ws' := wX q κ x.1) [0, 1, 2, 3, 4] (by decide) rfl
  have hKc := hK.sub (tys' := tyX κ) [0, 1, 2, 3] rfl
  refine lv_aload_n hx hb d_L_root_0 rfl (lv_at hl 0 rfl) ?_
  refine lv_iload_n hx hb d_L_root_1 rfl (lv_at hl 1 rfl) ?_
  refine lv_iload_n hx hb d_L_root_2 rfl (lv_at hl 2 rfl) ?_
  refine lv_iload_n hx hb d_L_root_3 rfl (lv_at hl 3 rfl) ?_
  refine wx_catchV (As := [.int (a), .int (g), .int (t)]) (rest := []) C (t_X_root_b1 l hst (q 0) a g t hbad) (cwV 3 C.2.2.2.2 (wG_V (fun _ h => h) k_ml_L_37 k_im_X_root k_se_X_root k_in_X k_X_root) rfl rfl rfl (by decide +kernel) ⟨Nat.le_of_ble_eq_true rfl, Nat.le_of_ble_eq_true rfl⟩) ⟨wx_Pc_blind wx_T, va_recv hKc hPc (ci := 0) (q0 := 0) rfl rfl, wx_Pc_pre hAll.1 (fun _ _ => rfl) (fun _ _ _ => trivial)⟩ rfl hl.1 rfl (Nat.le_of_ble_eq_true rfl) d_L_root_4 ⟨Nat.le_of_ble_eq_true rfl, Nat.le_of_ble_eq_true rfl⟩ [] ⟨0, 7, 10, 13⟩ [⟨0, 7, 14, 30⟩] htab (fun z hz => absurd hz List.not_mem_nil) rfl (by decide) (hts _ k_kl_L_13) (fun qe H1 hz hk => ?_)
  have hP := hP.kept (fun k z h => hk _ ((hP k z h).lt))
  have hS : va_S A s.heap H1 [] := ⟨hz, fun z h _ => hk z h, fun _ h => by cases h⟩
  refine lv_astore (lv' := [(4, .ref (qe)), (0, .ref (q 0)), (1, .int (a)), (2, .int (g)), (3, .int (t))]) hx hb d_L_root_10 hl (by decide) rfl (fun ls hl => ?_)
  refine lv_iconst (v := 1) hx hb d_L_root_12 (by decide) ?_
  exact wf_reti C hr hlocks x (⟨rfl, rfl⟩) hP hK hD hS (fun _ h => h) d_L_root_13

set_option maxHeartbeats 4000000 in
set_option maxRecDepth 100000 in
theorem c_L_root_b2 (l : Launch) (hst : l.stackTraces = false) (D : va_G) (q : Nat → Nat) (κ : Nat → ClassId) (o : Nat) (ko : ClassId) (x : (SX × (Nat → Int64))) (a : Nat) (ha : a < 8) (g : Int32) (t : Int32) (hbad : wf_no g = true) (sz : Nat) : Met l y_L_root (.codeWith y_L_root b_L_root 5 (some .int) [(0, 7, 10, 13), (0, 7, 14, 30)] :: wG) (wf_rm 8 200 1 6) (wf_PcO D vwCl (wXO o ko q κ x) (tyXO ko κ) ([.ref (q 0), .int (nI a), .int (g), .int (t)]) sz) (va_Qi (fun r v => r = 1 ∧ v = x) (wf_B D vwCl (wXO o ko q κ) (tyXO ko κ) (va_A (wXO o ko q κ x) sz)) (va_A (wXO o ko q κ x) sz)) 1 6 (va_A (wXO o ko q κ x) sz) := by
  refine wo_open (by decide) (Nat.le_of_ble_eq_true rfl) ?_
  intro p e s m below meth c ls hsz C hr hlocks htab hAll hP hK hD hl
  subst hsz
  have hx := C.1
  have hb := C.2.1
  have hml := C.2.2.1
  have hown := C.2.2.2.1
  have hts := C.2.2.2.2
  have hA : ∀ j : Nat, s.heap.size ≤ j → va_A (wXO o ko q κ x) s.heap.size j := fun j h => Or.inr h
  have hS : va_S (va_A (wXO o ko q κ x) s.heap.size) s.heap s.heap [] := va_S.rf
  generalize hAe : va_A (wXO o ko q κ x) s.heap.size = A at hA hS hD ⊢
  have hl : lv_has ls 5 [(0, .ref (q 0)), (1, .int (nI a)), (2, .int (g)), (3, .int (t))] := hl
  have hPc := hP.sub (ws' := wX q κ x.1) [0, 1, 2, 3, 4] rfl
  have hDc := hD.sub (ws' := wX q κ x.1) [0, 1, 2, 3, 4] (by decide) rfl
  have hKc := hK.sub (tys' := tyX κ) [0, 1, 2, 3] rfl
  refine lv_aload_n hx hb d_L_root_0 rfl (lv_at hl 0 rfl) ?_
  refine lv_iload_n hx hb d_L_root_1 rfl (lv_at hl 1 rfl) ?_
  refine lv_iload_n hx hb d_L_root_2 rfl (lv_at hl 2 rfl) ?_
  refine lv_iload_n hx hb d_L_root_3 rfl (lv_at hl 3 rfl) ?_
  refine wx_catchV (As := [.int (nI a), .int (g), .int (t)]) (rest := []) C (t_X_root_b2 l hst (q 0) a ha g t hbad) (cwV 3 C.2.2.2.2 (wG_V (fun _ h => h) k_ml_L_37 k_im_X_root k_se_X_root k_in_X k_X_root) rfl rfl rfl (by decide +kernel) ⟨Nat.le_of_ble_eq_true rfl, Nat.le_of_ble_eq_true rfl⟩) ⟨wx_Pc_blind wx_T, va_recv hKc hPc (ci := 0) (q0 := 0) rfl rfl, wx_Pc_pre hAll.1 (fun _ _ => rfl) (fun _ _ _ => trivial)⟩ rfl hl.1 rfl (Nat.le_of_ble_eq_true rfl) d_L_root_4 ⟨Nat.le_of_ble_eq_true rfl, Nat.le_of_ble_eq_true rfl⟩ [] ⟨0, 7, 10, 13⟩ [⟨0, 7, 14, 30⟩] htab (fun z hz => absurd hz List.not_mem_nil) rfl (by decide) (hts _ k_kl_L_13) (fun qe H1 hz hk => ?_)
  have hP := hP.kept (fun k z h => hk _ ((hP k z h).lt))
  have hS : va_S A s.heap H1 [] := ⟨hz, fun z h _ => hk z h, fun _ h => by cases h⟩
  refine lv_astore (lv' := [(4, .ref (qe)), (0, .ref (q 0)), (1, .int (nI a)), (2, .int (g)), (3, .int (t))]) hx hb d_L_root_10 hl (by decide) rfl (fun ls hl => ?_)
  refine lv_iconst (v := 1) hx hb d_L_root_12 (by decide) ?_
  exact wf_reti C hr hlocks x (⟨rfl, rfl⟩) hP hK hD hS (fun _ h => h) d_L_root_13

set_option maxHeartbeats 4000000 in
set_option maxRecDepth 100000 in
theorem c_L_root_b3 (l : Launch) (hst : l.stackTraces = false) (D : va_G) (q : Nat → Nat) (κ : Nat → ClassId) (o : Nat) (ko : ClassId) (x : (SX × (Nat → Int64))) (a : Nat) (ha : a < 8) (g : Nat) (hg : g < 8) (t : Int32) (hbad : wf_no t = true) (sz : Nat) : Met l y_L_root (.codeWith y_L_root b_L_root 5 (some .int) [(0, 7, 10, 13), (0, 7, 14, 30)] :: wG) (wf_rm 8 200 1 6) (wf_PcO D vwCl (wXO o ko q κ x) (tyXO ko κ) ([.ref (q 0), .int (nI a), .int (nI g), .int (t)]) sz) (va_Qi (fun r v => r = 1 ∧ v = x) (wf_B D vwCl (wXO o ko q κ) (tyXO ko κ) (va_A (wXO o ko q κ x) sz)) (va_A (wXO o ko q κ x) sz)) 1 6 (va_A (wXO o ko q κ x) sz) := by
  refine wo_open (by decide) (Nat.le_of_ble_eq_true rfl) ?_
  intro p e s m below meth c ls hsz C hr hlocks htab hAll hP hK hD hl
  subst hsz
  have hx := C.1
  have hb := C.2.1
  have hml := C.2.2.1
  have hown := C.2.2.2.1
  have hts := C.2.2.2.2
  have hA : ∀ j : Nat, s.heap.size ≤ j → va_A (wXO o ko q κ x) s.heap.size j := fun j h => Or.inr h
  have hS : va_S (va_A (wXO o ko q κ x) s.heap.size) s.heap s.heap [] := va_S.rf
  generalize hAe : va_A (wXO o ko q κ x) s.heap.size = A at hA hS hD ⊢
  have hl : lv_has ls 5 [(0, .ref (q 0)), (1, .int (nI a)), (2, .int (nI g)), (3, .int (t))] := hl
  have hPc := hP.sub (ws' := wX q κ x.1) [0, 1, 2, 3, 4] rfl
  have hDc := hD.sub (ws' := wX q κ x.1) [0, 1, 2, 3, 4] (by decide) rfl
  have hKc := hK.sub (tys' := tyX κ) [0, 1, 2, 3] rfl
  refine lv_aload_n hx hb d_L_root_0 rfl (lv_at hl 0 rfl) ?_
  refine lv_iload_n hx hb d_L_root_1 rfl (lv_at hl 1 rfl) ?_
  refine lv_iload_n hx hb d_L_root_2 rfl (lv_at hl 2 rfl) ?_
  refine lv_iload_n hx hb d_L_root_3 rfl (lv_at hl 3 rfl) ?_
  refine wx_catchV (As := [.int (nI a), .int (nI g), .int (t)]) (rest := []) C (t_X_root_b3 l hst (q 0) a ha g hg t hbad) (cwV 3 C.2.2.2.2 (wG_V (fun _ h => h) k_ml_L_37 k_im_X_root k_se_X_root k_in_X k_X_root) rfl rfl rfl (by decide +kernel) ⟨Nat.le_of_ble_eq_true rfl, Nat.le_of_ble_eq_true rfl⟩) ⟨wx_Pc_blind wx_T, va_recv hKc hPc (ci := 0) (q0 := 0) rfl rfl, wx_Pc_pre hAll.1 (fun _ _ => rfl) (fun _ _ _ => trivial)⟩ rfl hl.1 rfl (Nat.le_of_ble_eq_true rfl) d_L_root_4 ⟨Nat.le_of_ble_eq_true rfl, Nat.le_of_ble_eq_true rfl⟩ [] ⟨0, 7, 10, 13⟩ [⟨0, 7, 14, 30⟩] htab (fun z hz => absurd hz List.not_mem_nil) rfl (by decide) (hts _ k_kl_L_13) (fun qe H1 hz hk => ?_)
  have hP := hP.kept (fun k z h => hk _ ((hP k z h).lt))
  have hS : va_S A s.heap H1 [] := ⟨hz, fun z h _ => hk z h, fun _ h => by cases h⟩
  refine lv_astore (lv' := [(4, .ref (qe)), (0, .ref (q 0)), (1, .int (nI a)), (2, .int (nI g)), (3, .int (t))]) hx hb d_L_root_10 hl (by decide) rfl (fun ls hl => ?_)
  refine lv_iconst (v := 1) hx hb d_L_root_12 (by decide) ?_
  exact wf_reti C hr hlocks x (⟨rfl, rfl⟩) hP hK hD hS (fun _ h => h) d_L_root_13

set_option maxHeartbeats 4000000 in
set_option maxRecDepth 100000 in
theorem c_L_shift_b1 (l : Launch) (hst : l.stackTraces = false) (D : va_G) (q : Nat → Nat) (κ : Nat → ClassId) (o : Nat) (ko : ClassId) (x : (SX × (Nat → Int64))) (a : Int32) (n : Int32) (t : Int32) (hbad : wf_no a = true) (sz : Nat) : Met l y_L_shift (.codeWith y_L_shift b_L_shift 6 (some .int) [(0, 19, 22, 13)] :: wG) (wf_rm 8 200 1 6) (wf_PcO D vwCl (wXO o ko q κ x) (tyXO ko κ) ([.ref (q 0), .int (a), .int (n), .int (t), .ref o]) sz) (va_Qi (fun r v => r = 1 ∧ v = x) (wf_B D vwCl (wXO o ko q κ) (tyXO ko κ) (va_A (wXO o ko q κ x) sz)) (va_A (wXO o ko q κ x) sz)) 1 6 (va_A (wXO o ko q κ x) sz) := by
  refine wo_open (by decide) (Nat.le_of_ble_eq_true rfl) ?_
  intro p e s m below meth c ls hsz C hr hlocks htab hAll hP hK hD hl
  subst hsz
  have hx := C.1
  have hb := C.2.1
  have hml := C.2.2.1
  have hown := C.2.2.2.1
  have hts := C.2.2.2.2
  have hA : ∀ j : Nat, s.heap.size ≤ j → va_A (wXO o ko q κ x) s.heap.size j := fun j h => Or.inr h
  have hS : va_S (va_A (wXO o ko q κ x) s.heap.size) s.heap s.heap [] := va_S.rf
  generalize hAe : va_A (wXO o ko q κ x) s.heap.size = A at hA hS hD ⊢
  have hl : lv_has ls 6 [(0, .ref (q 0)), (1, .int (a)), (2, .int (n)), (3, .int (t)), (4, .ref (o))] := hl
  have hPc := hP.sub (ws' := wX q κ x.1) [0, 1, 2, 3, 4] rfl
  have hDc := hD.sub (ws' := wX q κ x.1) [0, 1, 2, 3, 4] (by decide) rfl
  have hKc := hK.sub (tys' := tyX κ) [0, 1, 2, 3] rfl
  refine lv_aload hx hb d_L_shift_0 (lv_at hl 4 rfl) ?_
  refine lv_iconst (v := 0) hx hb d_L_shift_2 (by decide) ?_
  refine lv_aload_n hx hb d_L_shift_3 rfl (lv_at hl 0 rfl) ?_
  refine lv_iload_n hx hb d_L_shift_4 rfl (lv_at hl 1 rfl) ?_
  refine lv_iload_n hx hb d_L_shift_5 rfl (lv_at hl 2 rfl) ?_
  refine lv_iload_n hx hb d_L_shift_6 rfl (lv_at hl 3 rfl) ?_
  refine wx_catchV (As := [.int (a), .int (n), .int (t)]) (rest := [.int (0), .ref (o)]) C (t_X_shift_b1 l hst (q 0) a n t hbad) (cwV 3 C.2.2.2.2 (wG_V (fun _ h => h) k_ml_L_41 k_im_X_shift k_se_X_shift k_in_X k_X_shift) rfl rfl rfl (by decide +kernel) ⟨Nat.le_of_ble_eq_true rfl, Nat.le_of_ble_eq_true rfl⟩) ⟨wx_Pc_blind wx_T, va_recv hKc hPc (ci := 0) (q0 := 0) rfl rfl, wx_Pc_pre hAll.1 (fun _ _ => rfl) (fun _ _ _ => trivial)⟩ rfl hl.1 rfl (Nat.le_of_ble_eq_true rfl) d_L_shift_7 ⟨Nat.le_of_ble_eq_true rfl, Nat.le_of_ble_eq_true rfl⟩ [] ⟨0, 19, 22, 13⟩ [] htab (fun z hz => absurd hz List.not_mem_nil) rfl (by decide) (hts _ k_kl_L_13) (fun qe H1 hz hk => ?_)
  have hP := hP.kept (fun k z h => hk _ ((hP k z h).lt))
  have hS : va_S A s.heap H1 [] := ⟨hz, fun z h _ => hk z h, fun _ h => by cases h⟩
  refine lv_astore (lv' := [(5, .ref (qe)), (0, .ref (q 0)), (1, .int (a)), (2, .int (n)), (3, .int (t)), (4, .ref (o))]) hx hb d_L_shift_22 hl (by decide) rfl (fun ls hl => ?_)
  refine lv_iconst (v := 1) hx hb d_L_shift_24 (by decide) ?_
  exact wf_reti C hr hlocks x (⟨rfl, rfl⟩) hP hK hD hS (fun _ h => h) d_L_shift_25

set_option maxHeartbeats 4000000 in
set_option maxRecDepth 100000 in
theorem c_L_shift_b2 (l : Launch) (hst : l.stackTraces = false) (D : va_G) (q : Nat → Nat) (κ : Nat → ClassId) (o : Nat) (ko : ClassId) (x : (SX × (Nat → Int64))) (a : Nat) (ha : a < 8) (n : Int32) (t : Int32) (hbad : wf_no t = true) (sz : Nat) : Met l y_L_shift (.codeWith y_L_shift b_L_shift 6 (some .int) [(0, 19, 22, 13)] :: wG) (wf_rm 8 200 1 6) (wf_PcO D vwCl (wXO o ko q κ x) (tyXO ko κ) ([.ref (q 0), .int (nI a), .int (n), .int (t), .ref o]) sz) (va_Qi (fun r v => r = 1 ∧ v = x) (wf_B D vwCl (wXO o ko q κ) (tyXO ko κ) (va_A (wXO o ko q κ x) sz)) (va_A (wXO o ko q κ x) sz)) 1 6 (va_A (wXO o ko q κ x) sz) := by
  refine wo_open (by decide) (Nat.le_of_ble_eq_true rfl) ?_
  intro p e s m below meth c ls hsz C hr hlocks htab hAll hP hK hD hl
  subst hsz
  have hx := C.1
  have hb := C.2.1
  have hml := C.2.2.1
  have hown := C.2.2.2.1
  have hts := C.2.2.2.2
  have hA : ∀ j : Nat, s.heap.size ≤ j → va_A (wXO o ko q κ x) s.heap.size j := fun j h => Or.inr h
  have hS : va_S (va_A (wXO o ko q κ x) s.heap.size) s.heap s.heap [] := va_S.rf
  generalize hAe : va_A (wXO o ko q κ x) s.heap.size = A at hA hS hD ⊢
  have hl : lv_has ls 6 [(0, .ref (q 0)), (1, .int (nI a)), (2, .int (n)), (3, .int (t)), (4, .ref (o))] := hl
  have hPc := hP.sub (ws' := wX q κ x.1) [0, 1, 2, 3, 4] rfl
  have hDc := hD.sub (ws' := wX q κ x.1) [0, 1, 2, 3, 4] (by decide) rfl
  have hKc := hK.sub (tys' := tyX κ) [0, 1, 2, 3] rfl
  refine lv_aload hx hb d_L_shift_0 (lv_at hl 4 rfl) ?_
  refine lv_iconst (v := 0) hx hb d_L_shift_2 (by decide) ?_
  refine lv_aload_n hx hb d_L_shift_3 rfl (lv_at hl 0 rfl) ?_
  refine lv_iload_n hx hb d_L_shift_4 rfl (lv_at hl 1 rfl) ?_
  refine lv_iload_n hx hb d_L_shift_5 rfl (lv_at hl 2 rfl) ?_
  refine lv_iload_n hx hb d_L_shift_6 rfl (lv_at hl 3 rfl) ?_
  refine wx_catchV (As := [.int (nI a), .int (n), .int (t)]) (rest := [.int (0), .ref (o)]) C (t_X_shift_b2 l hst (q 0) a ha n t hbad) (cwV 3 C.2.2.2.2 (wG_V (fun _ h => h) k_ml_L_41 k_im_X_shift k_se_X_shift k_in_X k_X_shift) rfl rfl rfl (by decide +kernel) ⟨Nat.le_of_ble_eq_true rfl, Nat.le_of_ble_eq_true rfl⟩) ⟨wx_Pc_blind wx_T, va_recv hKc hPc (ci := 0) (q0 := 0) rfl rfl, wx_Pc_pre hAll.1 (fun _ _ => rfl) (fun _ _ _ => trivial)⟩ rfl hl.1 rfl (Nat.le_of_ble_eq_true rfl) d_L_shift_7 ⟨Nat.le_of_ble_eq_true rfl, Nat.le_of_ble_eq_true rfl⟩ [] ⟨0, 19, 22, 13⟩ [] htab (fun z hz => absurd hz List.not_mem_nil) rfl (by decide) (hts _ k_kl_L_13) (fun qe H1 hz hk => ?_)
  have hP := hP.kept (fun k z h => hk _ ((hP k z h).lt))
  have hS : va_S A s.heap H1 [] := ⟨hz, fun z h _ => hk z h, fun _ h => by cases h⟩
  refine lv_astore (lv' := [(5, .ref (qe)), (0, .ref (q 0)), (1, .int (nI a)), (2, .int (n)), (3, .int (t)), (4, .ref (o))]) hx hb d_L_shift_22 hl (by decide) rfl (fun ls hl => ?_)
  refine lv_iconst (v := 1) hx hb d_L_shift_24 (by decide) ?_
  exact wf_reti C hr hlocks x (⟨rfl, rfl⟩) hP hK hD hS (fun _ h => h) d_L_shift_25

set_option maxHeartbeats 4000000 in
set_option maxRecDepth 100000 in
theorem c_L_jam_b1 (l : Launch) (hst : l.stackTraces = false) (D : va_G) (q : Nat → Nat) (κ : Nat → ClassId) (o : Nat) (ko : ClassId) (x : (SX × (Nat → Int64))) (a : Int32) (n : Int32) (t : Int32) (hbad : wf_no a = true) (sz : Nat) : Met l y_L_jam (.codeWith y_L_jam b_L_jam 5 (some .int) [(0, 7, 10, 13), (0, 7, 14, 30)] :: wG) (wf_rm 8 200 1 6) (wf_PcO D vwCl (wXO o ko q κ x) (tyXO ko κ) ([.ref (q 0), .int (a), .int (n), .int (t)]) sz) (va_Qi (fun r v => r = 1 ∧ v = x) (wf_B D vwCl (wXO o ko q κ) (tyXO ko κ) (va_A (wXO o ko q κ x) sz)) (va_A (wXO o ko q κ x) sz)) 1 6 (va_A (wXO o ko q κ x) sz) := by
  refine wo_open (by decide) (Nat.le_of_ble_eq_true rfl) ?_
  intro p e s m below meth c ls hsz C hr hlocks htab hAll hP hK hD hl
  subst hsz
  have hx := C.1
  have hb := C.2.1
  have hml := C.2.2.1
  have hown := C.2.2.2.1
  have hts := C.2.2.2.2
  have hA : ∀ j : Nat, s.heap.size ≤ j → va_A (wXO o ko q κ x) s.heap.size j := fun j h => Or.inr h
  have hS : va_S (va_A (wXO o ko q κ x) s.heap.size) s.heap s.heap [] := va_S.rf
  generalize hAe : va_A (wXO o ko q κ x) s.heap.size = A at hA hS hD ⊢
  have hl : lv_has ls 5 [(0, .ref (q 0)), (1, .int (a)), (2, .int (n)), (3, .int (t))] := hl
  have hPc := hP.sub (ws' := wX q κ x.1) [0, 1, 2, 3, 4] rfl
  have hDc := hD.sub (ws' := wX q κ x.1) [0, 1, 2, 3, 4] (by decide) rfl
  have hKc := hK.sub (tys' := tyX κ) [0, 1, 2, 3] rfl
  refine lv_aload_n hx hb d_L_jam_0 rfl (lv_at hl 0 rfl) ?_
  refine lv_iload_n hx hb d_L_jam_1 rfl (lv_at hl 1 rfl) ?_
  refine lv_iload_n hx hb d_L_jam_2 rfl (lv_at hl 2 rfl) ?_
  refine lv_iload_n hx hb d_L_jam_3 rfl (lv_at hl 3 rfl) ?_
  refine wx_catchV (As := [.int (a), .int (n), .int (t)]) (rest := []) C (t_X_jam_b1 l hst (q 0) a n t hbad) (cwV 3 C.2.2.2.2 (wG_V (fun _ h => h) k_ml_L_44 k_im_X_jam k_se_X_jam k_in_X k_X_jam) rfl rfl rfl (by decide +kernel) ⟨Nat.le_of_ble_eq_true rfl, Nat.le_of_ble_eq_true rfl⟩) ⟨wx_Pc_blind wx_T, va_recv hKc hPc (ci := 0) (q0 := 0) rfl rfl, wx_Pc_pre hAll.1 (fun _ _ => rfl) (fun _ _ _ => trivial)⟩ rfl hl.1 rfl (Nat.le_of_ble_eq_true rfl) d_L_jam_4 ⟨Nat.le_of_ble_eq_true rfl, Nat.le_of_ble_eq_true rfl⟩ [] ⟨0, 7, 10, 13⟩ [⟨0, 7, 14, 30⟩] htab (fun z hz => absurd hz List.not_mem_nil) rfl (by decide) (hts _ k_kl_L_13) (fun qe H1 hz hk => ?_)
  have hP := hP.kept (fun k z h => hk _ ((hP k z h).lt))
  have hS : va_S A s.heap H1 [] := ⟨hz, fun z h _ => hk z h, fun _ h => by cases h⟩
  refine lv_astore (lv' := [(4, .ref (qe)), (0, .ref (q 0)), (1, .int (a)), (2, .int (n)), (3, .int (t))]) hx hb d_L_jam_10 hl (by decide) rfl (fun ls hl => ?_)
  refine lv_iconst (v := 1) hx hb d_L_jam_12 (by decide) ?_
  exact wf_reti C hr hlocks x (⟨rfl, rfl⟩) hP hK hD hS (fun _ h => h) d_L_jam_13

set_option maxHeartbeats 4000000 in
set_option maxRecDepth 100000 in
theorem c_L_jam_b2 (l : Launch) (hst : l.stackTraces = false) (D : va_G) (q : Nat → Nat) (κ : Nat → ClassId) (o : Nat) (ko : ClassId) (x : (SX × (Nat → Int64))) (a : Nat) (ha : a < 8) (n : Int32) (t : Int32) (hbad : wf_no t = true) (sz : Nat) : Met l y_L_jam (.codeWith y_L_jam b_L_jam 5 (some .int) [(0, 7, 10, 13), (0, 7, 14, 30)] :: wG) (wf_rm 8 200 1 6) (wf_PcO D vwCl (wXO o ko q κ x) (tyXO ko κ) ([.ref (q 0), .int (nI a), .int (n), .int (t)]) sz) (va_Qi (fun r v => r = 1 ∧ v = x) (wf_B D vwCl (wXO o ko q κ) (tyXO ko κ) (va_A (wXO o ko q κ x) sz)) (va_A (wXO o ko q κ x) sz)) 1 6 (va_A (wXO o ko q κ x) sz) := by
  refine wo_open (by decide) (Nat.le_of_ble_eq_true rfl) ?_
  intro p e s m below meth c ls hsz C hr hlocks htab hAll hP hK hD hl
  subst hsz
  have hx := C.1
  have hb := C.2.1
  have hml := C.2.2.1
  have hown := C.2.2.2.1
  have hts := C.2.2.2.2
  have hA : ∀ j : Nat, s.heap.size ≤ j → va_A (wXO o ko q κ x) s.heap.size j := fun j h => Or.inr h
  have hS : va_S (va_A (wXO o ko q κ x) s.heap.size) s.heap s.heap [] := va_S.rf
  generalize hAe : va_A (wXO o ko q κ x) s.heap.size = A at hA hS hD ⊢
  have hl : lv_has ls 5 [(0, .ref (q 0)), (1, .int (nI a)), (2, .int (n)), (3, .int (t))] := hl
  have hPc := hP.sub (ws' := wX q κ x.1) [0, 1, 2, 3, 4] rfl
  have hDc := hD.sub (ws' := wX q κ x.1) [0, 1, 2, 3, 4] (by decide) rfl
  have hKc := hK.sub (tys' := tyX κ) [0, 1, 2, 3] rfl
  refine lv_aload_n hx hb d_L_jam_0 rfl (lv_at hl 0 rfl) ?_
  refine lv_iload_n hx hb d_L_jam_1 rfl (lv_at hl 1 rfl) ?_
  refine lv_iload_n hx hb d_L_jam_2 rfl (lv_at hl 2 rfl) ?_
  refine lv_iload_n hx hb d_L_jam_3 rfl (lv_at hl 3 rfl) ?_
  refine wx_catchV (As := [.int (nI a), .int (n), .int (t)]) (rest := []) C (t_X_jam_b2 l hst (q 0) a ha n t hbad) (cwV 3 C.2.2.2.2 (wG_V (fun _ h => h) k_ml_L_44 k_im_X_jam k_se_X_jam k_in_X k_X_jam) rfl rfl rfl (by decide +kernel) ⟨Nat.le_of_ble_eq_true rfl, Nat.le_of_ble_eq_true rfl⟩) ⟨wx_Pc_blind wx_T, va_recv hKc hPc (ci := 0) (q0 := 0) rfl rfl, wx_Pc_pre hAll.1 (fun _ _ => rfl) (fun _ _ _ => trivial)⟩ rfl hl.1 rfl (Nat.le_of_ble_eq_true rfl) d_L_jam_4 ⟨Nat.le_of_ble_eq_true rfl, Nat.le_of_ble_eq_true rfl⟩ [] ⟨0, 7, 10, 13⟩ [⟨0, 7, 14, 30⟩] htab (fun z hz => absurd hz List.not_mem_nil) rfl (by decide) (hts _ k_kl_L_13) (fun qe H1 hz hk => ?_)
  have hP := hP.kept (fun k z h => hk _ ((hP k z h).lt))
  have hS : va_S A s.heap H1 [] := ⟨hz, fun z h _ => hk z h, fun _ h => by cases h⟩
  refine lv_astore (lv' := [(4, .ref (qe)), (0, .ref (q 0)), (1, .int (nI a)), (2, .int (n)), (3, .int (t))]) hx hb d_L_jam_10 hl (by decide) rfl (fun ls hl => ?_)
  refine lv_iconst (v := 1) hx hb d_L_jam_12 (by decide) ?_
  exact wf_reti C hr hlocks x (⟨rfl, rfl⟩) hP hK hD hS (fun _ h => h) d_L_jam_13

set_option maxHeartbeats 4000000 in
set_option maxRecDepth 100000 in
theorem c_L_zeros_b1 (l : Launch) (hst : l.stackTraces = false) (D : va_G) (q : Nat → Nat) (κ : Nat → ClassId) (o : Nat) (ko : ClassId) (x : (SX × (Nat → Int64))) (a : Int32) (hbad : wf_no a = true) (sz : Nat) : Met l y_L_zeros (.codeWith y_L_zeros b_L_zeros 4 (some .int) [(0, 9, 12, 13)] :: wG) (wf_rm 8 200 1 6) (wf_PcO D vwCl (wXO o ko q κ x) (tyXO ko κ) ([.ref (q 0), .int (a), .ref o]) sz) (va_Qi (fun r v => r = 1 ∧ v = x) (wf_B D vwCl (wXO o ko q κ) (tyXO ko κ) (va_A (wXO o ko q κ x) sz)) (va_A (wXO o ko q κ x) sz)) 1 6 (va_A (wXO o ko q κ x) sz) := by
  refine wo_open (by decide) (Nat.le_of_ble_eq_true rfl) ?_
  intro p e s m below meth c ls hsz C hr hlocks htab hAll hP hK hD hl
  subst hsz
  have hx := C.1
  have hb := C.2.1
  have hml := C.2.2.1
  have hown := C.2.2.2.1
  have hts := C.2.2.2.2
  have hA : ∀ j : Nat, s.heap.size ≤ j → va_A (wXO o ko q κ x) s.heap.size j := fun j h => Or.inr h
  have hS : va_S (va_A (wXO o ko q κ x) s.heap.size) s.heap s.heap [] := va_S.rf
  generalize hAe : va_A (wXO o ko q κ x) s.heap.size = A at hA hS hD ⊢
  have hl : lv_has ls 4 [(0, .ref (q 0)), (1, .int (a)), (2, .ref (o))] := hl
  have hPc := hP.sub (ws' := wX q κ x.1) [0, 1, 2, 3, 4] rfl
  have hDc := hD.sub (ws' := wX q κ x.1) [0, 1, 2, 3, 4] (by decide) rfl
  have hKc := hK.sub (tys' := tyX κ) [0, 1, 2, 3] rfl
  refine lv_aload_n hx hb d_L_zeros_0 rfl (lv_at hl 2 rfl) ?_
  refine lv_iconst (v := 0) hx hb d_L_zeros_1 (by decide) ?_
  refine lv_aload_n hx hb d_L_zeros_2 rfl (lv_at hl 0 rfl) ?_
  refine lv_iload_n hx hb d_L_zeros_3 rfl (lv_at hl 1 rfl) ?_
  refine wx_catchV (As := [.int (a)]) (rest := [.int (0), .ref (o)]) C (t_X_zeros_b1 l hst (q 0) a hbad) (cwV 1 C.2.2.2.2 (wG_V (fun _ h => h) k_ml_L_47 k_im_X_zeros k_se_X_zeros k_in_X k_X_zeros) rfl rfl rfl (by decide +kernel) ⟨Nat.le_of_ble_eq_true rfl, Nat.le_of_ble_eq_true rfl⟩) ⟨wx_Pc_blind wx_T, va_recv hKc hPc (ci := 0) (q0 := 0) rfl rfl, wx_Pc_pre hAll.1 (fun _ _ => rfl) (fun _ _ _ => trivial)⟩ rfl hl.1 rfl (Nat.le_of_ble_eq_true rfl) d_L_zeros_4 ⟨Nat.le_of_ble_eq_true rfl, Nat.le_of_ble_eq_true rfl⟩ [] ⟨0, 9, 12, 13⟩ [] htab (fun z hz => absurd hz List.not_mem_nil) rfl (by decide) (hts _ k_kl_L_13) (fun qe H1 hz hk => ?_)
  have hP := hP.kept (fun k z h => hk _ ((hP k z h).lt))
  have hS : va_S A s.heap H1 [] := ⟨hz, fun z h _ => hk z h, fun _ h => by cases h⟩
  refine lv_astore_n (lv' := [(3, .ref (qe)), (0, .ref (q 0)), (1, .int (a)), (2, .ref (o))]) hx hb d_L_zeros_12 rfl hl (by decide) rfl (fun ls hl => ?_)
  refine lv_iconst (v := 1) hx hb d_L_zeros_13 (by decide) ?_
  exact wf_reti C hr hlocks x (⟨rfl, rfl⟩) hP hK hD hS (fun _ h => h) d_L_zeros_14

set_option maxHeartbeats 4000000 in
set_option maxRecDepth 100000 in
theorem c_L_compare_b1 (l : Launch) (hst : l.stackTraces = false) (D : va_G) (q : Nat → Nat) (κ : Nat → ClassId) (o : Nat) (ko : ClassId) (x : (SX × (Nat → Int64))) (a : Int32) (k : Int32) (hbad : wf_no a = true) (sz : Nat) : Met l y_L_compare (.codeWith y_L_compare b_L_compare 5 (some .int) [(0, 10, 13, 13)] :: wG) (wf_rm 8 200 1 6) (wf_PcO D vwCl (wXO o ko q κ x) (tyXO ko κ) ([.ref (q 0), .int (a), .int (k), .ref o]) sz) (va_Qi (fun r v => r = 1 ∧ v = x) (wf_B D vwCl (wXO o ko q κ) (tyXO ko κ) (va_A (wXO o ko q κ x) sz)) (va_A (wXO o ko q κ x) sz)) 1 6 (va_A (wXO o ko q κ x) sz) := by
  refine wo_open (by decide) (Nat.le_of_ble_eq_true rfl) ?_
  intro p e s m below meth c ls hsz C hr hlocks htab hAll hP hK hD hl
  subst hsz
  have hx := C.1
  have hb := C.2.1
  have hml := C.2.2.1
  have hown := C.2.2.2.1
  have hts := C.2.2.2.2
  have hA : ∀ j : Nat, s.heap.size ≤ j → va_A (wXO o ko q κ x) s.heap.size j := fun j h => Or.inr h
  have hS : va_S (va_A (wXO o ko q κ x) s.heap.size) s.heap s.heap [] := va_S.rf
  generalize hAe : va_A (wXO o ko q κ x) s.heap.size = A at hA hS hD ⊢
  have hl : lv_has ls 5 [(0, .ref (q 0)), (1, .int (a)), (2, .int (k)), (3, .ref (o))] := hl
  have hPc := hP.sub (ws' := wX q κ x.1) [0, 1, 2, 3, 4] rfl
  have hDc := hD.sub (ws' := wX q κ x.1) [0, 1, 2, 3, 4] (by decide) rfl
  have hKc := hK.sub (tys' := tyX κ) [0, 1, 2, 3] rfl
  refine lv_aload_n hx hb d_L_compare_0 rfl (lv_at hl 3 rfl) ?_
  refine lv_iconst (v := 0) hx hb d_L_compare_1 (by decide) ?_
  refine lv_aload_n hx hb d_L_compare_2 rfl (lv_at hl 0 rfl) ?_
  refine lv_iload_n hx hb d_L_compare_3 rfl (lv_at hl 1 rfl) ?_
  refine lv_iload_n hx hb d_L_compare_4 rfl (lv_at hl 2 rfl) ?_
  refine wx_catchV (As := [.int (a), .int (k)]) (rest := [.int (0), .ref (o)]) C (t_X_compare_b1 l hst (q 0) a k hbad) (cwV 2 C.2.2.2.2 (wG_V (fun _ h => h) k_ml_L_51 k_im_X_compare k_se_X_compare k_in_X k_X_compare) rfl rfl rfl (by decide +kernel) ⟨Nat.le_of_ble_eq_true rfl, Nat.le_of_ble_eq_true rfl⟩) ⟨wx_Pc_blind wx_T, va_recv hKc hPc (ci := 0) (q0 := 0) rfl rfl, wx_Pc_pre hAll.1 (fun _ _ => rfl) (fun _ _ _ => trivial)⟩ rfl hl.1 rfl (Nat.le_of_ble_eq_true rfl) d_L_compare_5 ⟨Nat.le_of_ble_eq_true rfl, Nat.le_of_ble_eq_true rfl⟩ [] ⟨0, 10, 13, 13⟩ [] htab (fun z hz => absurd hz List.not_mem_nil) rfl (by decide) (hts _ k_kl_L_13) (fun qe H1 hz hk => ?_)
  have hP := hP.kept (fun k z h => hk _ ((hP k z h).lt))
  have hS : va_S A s.heap H1 [] := ⟨hz, fun z h _ => hk z h, fun _ h => by cases h⟩
  refine lv_astore (lv' := [(4, .ref (qe)), (0, .ref (q 0)), (1, .int (a)), (2, .int (k)), (3, .ref (o))]) hx hb d_L_compare_13 hl (by decide) rfl (fun ls hl => ?_)
  refine lv_iconst (v := 1) hx hb d_L_compare_15 (by decide) ?_
  exact wf_reti C hr hlocks x (⟨rfl, rfl⟩) hP hK hD hS (fun _ h => h) d_L_compare_16

set_option maxHeartbeats 4000000 in
set_option maxRecDepth 100000 in
theorem c_L_compare_b2 (l : Launch) (hst : l.stackTraces = false) (D : va_G) (q : Nat → Nat) (κ : Nat → ClassId) (o : Nat) (ko : ClassId) (x : (SX × (Nat → Int64))) (a : Nat) (ha : a < 8) (k : Int32) (hbad : wf_no k = true) (sz : Nat) : Met l y_L_compare (.codeWith y_L_compare b_L_compare 5 (some .int) [(0, 10, 13, 13)] :: wG) (wf_rm 8 200 1 6) (wf_PcO D vwCl (wXO o ko q κ x) (tyXO ko κ) ([.ref (q 0), .int (nI a), .int (k), .ref o]) sz) (va_Qi (fun r v => r = 1 ∧ v = x) (wf_B D vwCl (wXO o ko q κ) (tyXO ko κ) (va_A (wXO o ko q κ x) sz)) (va_A (wXO o ko q κ x) sz)) 1 6 (va_A (wXO o ko q κ x) sz) := by
  refine wo_open (by decide) (Nat.le_of_ble_eq_true rfl) ?_
  intro p e s m below meth c ls hsz C hr hlocks htab hAll hP hK hD hl
  subst hsz
  have hx := C.1
  have hb := C.2.1
  have hml := C.2.2.1
  have hown := C.2.2.2.1
  have hts := C.2.2.2.2
  have hA : ∀ j : Nat, s.heap.size ≤ j → va_A (wXO o ko q κ x) s.heap.size j := fun j h => Or.inr h
  have hS : va_S (va_A (wXO o ko q κ x) s.heap.size) s.heap s.heap [] := va_S.rf
  generalize hAe : va_A (wXO o ko q κ x) s.heap.size = A at hA hS hD ⊢
  have hl : lv_has ls 5 [(0, .ref (q 0)), (1, .int (nI a)), (2, .int (k)), (3, .ref (o))] := hl
  have hPc := hP.sub (ws' := wX q κ x.1) [0, 1, 2, 3, 4] rfl
  have hDc := hD.sub (ws' := wX q κ x.1) [0, 1, 2, 3, 4] (by decide) rfl
  have hKc := hK.sub (tys' := tyX κ) [0, 1, 2, 3] rfl
  refine lv_aload_n hx hb d_L_compare_0 rfl (lv_at hl 3 rfl) ?_
  refine lv_iconst (v := 0) hx hb d_L_compare_1 (by decide) ?_
  refine lv_aload_n hx hb d_L_compare_2 rfl (lv_at hl 0 rfl) ?_
  refine lv_iload_n hx hb d_L_compare_3 rfl (lv_at hl 1 rfl) ?_
  refine lv_iload_n hx hb d_L_compare_4 rfl (lv_at hl 2 rfl) ?_
  refine wx_catchV (As := [.int (nI a), .int (k)]) (rest := [.int (0), .ref (o)]) C (t_X_compare_b2 l hst (q 0) a ha k hbad) (cwV 2 C.2.2.2.2 (wG_V (fun _ h => h) k_ml_L_51 k_im_X_compare k_se_X_compare k_in_X k_X_compare) rfl rfl rfl (by decide +kernel) ⟨Nat.le_of_ble_eq_true rfl, Nat.le_of_ble_eq_true rfl⟩) ⟨wx_Pc_blind wx_T, va_recv hKc hPc (ci := 0) (q0 := 0) rfl rfl, wx_Pc_pre hAll.1 (fun _ _ => rfl) (fun _ _ _ => trivial)⟩ rfl hl.1 rfl (Nat.le_of_ble_eq_true rfl) d_L_compare_5 ⟨Nat.le_of_ble_eq_true rfl, Nat.le_of_ble_eq_true rfl⟩ [] ⟨0, 10, 13, 13⟩ [] htab (fun z hz => absurd hz List.not_mem_nil) rfl (by decide) (hts _ k_kl_L_13) (fun qe H1 hz hk => ?_)
  have hP := hP.kept (fun k z h => hk _ ((hP k z h).lt))
  have hS : va_S A s.heap H1 [] := ⟨hz, fun z h _ => hk z h, fun _ h => by cases h⟩
  refine lv_astore (lv' := [(4, .ref (qe)), (0, .ref (q 0)), (1, .int (nI a)), (2, .int (k)), (3, .ref (o))]) hx hb d_L_compare_13 hl (by decide) rfl (fun ls hl => ?_)
  refine lv_iconst (v := 1) hx hb d_L_compare_15 (by decide) ?_
  exact wf_reti C hr hlocks x (⟨rfl, rfl⟩) hP hK hD hS (fun _ h => h) d_L_compare_16

set_option maxHeartbeats 4000000 in
set_option maxRecDepth 100000 in
theorem c_L_digits_b1 (l : Launch) (hst : l.stackTraces = false) (D : va_G) (q : Nat → Nat) (κ : Nat → ClassId) (o : Nat) (ko : ClassId) (x : (SX × (Nat → Int64))) (a : Int32) (hbad : wf_no a = true) (sz : Nat) : Met l y_L_digits (.codeWith y_L_digits b_L_digits 4 (some .int) [(0, 9, 12, 13)] :: wG) (wf_rm 8 200 1 6) (wf_PcO D vwCl (wXO o ko q κ x) (tyXO ko κ) ([.ref (q 0), .int (a), .ref o]) sz) (va_Qi (fun r v => r = 1 ∧ v = x) (wf_B D vwCl (wXO o ko q κ) (tyXO ko κ) (va_A (wXO o ko q κ x) sz)) (va_A (wXO o ko q κ x) sz)) 1 6 (va_A (wXO o ko q κ x) sz) := by
  refine wo_open (by decide) (Nat.le_of_ble_eq_true rfl) ?_
  intro p e s m below meth c ls hsz C hr hlocks htab hAll hP hK hD hl
  subst hsz
  have hx := C.1
  have hb := C.2.1
  have hml := C.2.2.1
  have hown := C.2.2.2.1
  have hts := C.2.2.2.2
  have hA : ∀ j : Nat, s.heap.size ≤ j → va_A (wXO o ko q κ x) s.heap.size j := fun j h => Or.inr h
  have hS : va_S (va_A (wXO o ko q κ x) s.heap.size) s.heap s.heap [] := va_S.rf
  generalize hAe : va_A (wXO o ko q κ x) s.heap.size = A at hA hS hD ⊢
  have hl : lv_has ls 4 [(0, .ref (q 0)), (1, .int (a)), (2, .ref (o))] := hl
  have hPc := hP.sub (ws' := wX q κ x.1) [0, 1, 2, 3, 4] rfl
  have hDc := hD.sub (ws' := wX q κ x.1) [0, 1, 2, 3, 4] (by decide) rfl
  have hKc := hK.sub (tys' := tyX κ) [0, 1, 2, 3] rfl
  refine lv_aload_n hx hb d_L_digits_0 rfl (lv_at hl 2 rfl) ?_
  refine lv_iconst (v := 0) hx hb d_L_digits_1 (by decide) ?_
  refine lv_aload_n hx hb d_L_digits_2 rfl (lv_at hl 0 rfl) ?_
  refine lv_iload_n hx hb d_L_digits_3 rfl (lv_at hl 1 rfl) ?_
  refine wx_catchV (As := [.int (a)]) (rest := [.int (0), .ref (o)]) C (t_X_digits_b1 l hst (q 0) a hbad) (cwV 1 C.2.2.2.2 (wG_V (fun _ h => h) k_ml_L_55 k_im_X_digits k_se_X_digits k_in_X k_X_digits) rfl rfl rfl (by decide +kernel) ⟨Nat.le_of_ble_eq_true rfl, Nat.le_of_ble_eq_true rfl⟩) ⟨wx_Pc_blind wx_T, va_recv hKc hPc (ci := 0) (q0 := 0) rfl rfl, wx_Pc_pre hAll.1 (fun _ _ => rfl) (fun _ _ _ => trivial)⟩ rfl hl.1 rfl (Nat.le_of_ble_eq_true rfl) d_L_digits_4 ⟨Nat.le_of_ble_eq_true rfl, Nat.le_of_ble_eq_true rfl⟩ [] ⟨0, 9, 12, 13⟩ [] htab (fun z hz => absurd hz List.not_mem_nil) rfl (by decide) (hts _ k_kl_L_13) (fun qe H1 hz hk => ?_)
  have hP := hP.kept (fun k z h => hk _ ((hP k z h).lt))
  have hS : va_S A s.heap H1 [] := ⟨hz, fun z h _ => hk z h, fun _ h => by cases h⟩
  refine lv_astore_n (lv' := [(3, .ref (qe)), (0, .ref (q 0)), (1, .int (a)), (2, .ref (o))]) hx hb d_L_digits_12 rfl hl (by decide) rfl (fun ls hl => ?_)
  refine lv_iconst (v := 1) hx hb d_L_digits_13 (by decide) ?_
  exact wf_reti C hr hlocks x (⟨rfl, rfl⟩) hP hK hD hS (fun _ h => h) d_L_digits_14

set_option maxHeartbeats 4000000 in
set_option maxRecDepth 100000 in
theorem c_L_next_b1 (l : Launch) (hst : l.stackTraces = false) (D : va_G) (q : Nat → Nat) (κ : Nat → ClassId) (o : Nat) (ko : ClassId) (x : (SX × (Nat → Int64))) (a : Int32) (d : Int32) (hbad : wf_no a = true) (sz : Nat) : Met l y_L_next (.codeWith y_L_next b_L_next 5 (some .int) [(0, 17, 20, 13), (0, 17, 24, 30)] :: wG) (wf_rm 8 200 1 6) (wf_PcO D vwCl (wXO o ko q κ x) (tyXO ko κ) ([.ref (q 0), .int (a), .int (d), .ref o]) sz) (va_Qi (fun r v => r = 1 ∧ v = x) (wf_B D vwCl (wXO o ko q κ) (tyXO ko κ) (va_A (wXO o ko q κ x) sz)) (va_A (wXO o ko q κ x) sz)) 1 6 (va_A (wXO o ko q κ x) sz) := by
  refine wo_open (by decide) (Nat.le_of_ble_eq_true rfl) ?_
  intro p e s m below meth c ls hsz C hr hlocks htab hAll hP hK hD hl
  subst hsz
  have hx := C.1
  have hb := C.2.1
  have hml := C.2.2.1
  have hown := C.2.2.2.1
  have hts := C.2.2.2.2
  have hA : ∀ j : Nat, s.heap.size ≤ j → va_A (wXO o ko q κ x) s.heap.size j := fun j h => Or.inr h
  have hS : va_S (va_A (wXO o ko q κ x) s.heap.size) s.heap s.heap [] := va_S.rf
  generalize hAe : va_A (wXO o ko q κ x) s.heap.size = A at hA hS hD ⊢
  have hl : lv_has ls 5 [(0, .ref (q 0)), (1, .int (a)), (2, .int (d)), (3, .ref (o))] := hl
  have hPc := hP.sub (ws' := wX q κ x.1) [0, 1, 2, 3, 4] rfl
  have hDc := hD.sub (ws' := wX q κ x.1) [0, 1, 2, 3, 4] (by decide) rfl
  have hKc := hK.sub (tys' := tyX κ) [0, 1, 2, 3] rfl
  refine lv_aload_n hx hb d_L_next_0 rfl (lv_at hl 3 rfl) ?_
  refine lv_iconst (v := 0) hx hb d_L_next_1 (by decide) ?_
  refine lv_aload_n hx hb d_L_next_2 rfl (lv_at hl 0 rfl) ?_
  refine lv_iload_n hx hb d_L_next_3 rfl (lv_at hl 1 rfl) ?_
  refine lv_iload_n hx hb d_L_next_4 rfl (lv_at hl 2 rfl) ?_
  refine wx_catchV (As := [.int (a), .int (d)]) (rest := [.int (0), .ref (o)]) C (t_X_next_b1 l hst (q 0) a d hbad) (cwV 2 C.2.2.2.2 (wG_V (fun _ h => h) k_ml_L_58 k_im_X_next k_se_X_next k_in_X k_X_next) rfl rfl rfl (by decide +kernel) ⟨Nat.le_of_ble_eq_true rfl, Nat.le_of_ble_eq_true rfl⟩) ⟨wx_Pc_blind wx_T, va_recv hKc hPc (ci := 0) (q0 := 0) rfl rfl, wx_Pc_pre hAll.1 (fun _ _ => rfl) (fun _ _ _ => trivial)⟩ rfl hl.1 rfl (Nat.le_of_ble_eq_true rfl) d_L_next_5 ⟨Nat.le_of_ble_eq_true rfl, Nat.le_of_ble_eq_true rfl⟩ [] ⟨0, 17, 20, 13⟩ [⟨0, 17, 24, 30⟩] htab (fun z hz => absurd hz List.not_mem_nil) rfl (by decide) (hts _ k_kl_L_13) (fun qe H1 hz hk => ?_)
  have hP := hP.kept (fun k z h => hk _ ((hP k z h).lt))
  have hS : va_S A s.heap H1 [] := ⟨hz, fun z h _ => hk z h, fun _ h => by cases h⟩
  refine lv_astore (lv' := [(4, .ref (qe)), (0, .ref (q 0)), (1, .int (a)), (2, .int (d)), (3, .ref (o))]) hx hb d_L_next_20 hl (by decide) rfl (fun ls hl => ?_)
  refine lv_iconst (v := 1) hx hb d_L_next_22 (by decide) ?_
  exact wf_reti C hr hlocks x (⟨rfl, rfl⟩) hP hK hD hS (fun _ h => h) d_L_next_23

set_option maxHeartbeats 4000000 in
set_option maxRecDepth 100000 in
theorem c_L_multiply_same (l : Launch) (hst : l.stackTraces = false) (D : va_G) (q : Nat → Nat) (κ : Nat → ClassId) (o : Nat) (ko : ClassId) (x : (SX × (Nat → Int64))) (a : Nat) (ha : a < 8) (k : Nat) (hk : k < 8) (g : Nat) (hg : g < 8) (sz : Nat) : Met l y_L_multiply (.codeWith y_L_multiply b_L_multiply 6 (some .int) [(0, 9, 12, 13), (0, 9, 16, 30)] :: wG) (wf_rm 8 200 1 6) (wf_PcO D vwCl (wXO o ko q κ x) (tyXO ko κ) ([.ref (q 0), .int (nI a), .int (nI k), .int (nI g), .int (nI g)]) sz) (va_Qi (fun r v => r = 2 ∧ v = x) (wf_B D vwCl (wXO o ko q κ) (tyXO ko κ) (va_A (wXO o ko q κ x) sz)) (va_A (wXO o ko q κ x) sz)) 1 6 (va_A (wXO o ko q κ x) sz) := by
  refine wo_open (by decide) (Nat.le_of_ble_eq_true rfl) ?_
  intro p e s m below meth c ls hsz C hr hlocks htab hAll hP hK hD hl
  subst hsz
  have hx := C.1
  have hb := C.2.1
  have hml := C.2.2.1
  have hown := C.2.2.2.1
  have hts := C.2.2.2.2
  have hA : ∀ j : Nat, s.heap.size ≤ j → va_A (wXO o ko q κ x) s.heap.size j := fun j h => Or.inr h
  have hS : va_S (va_A (wXO o ko q κ x) s.heap.size) s.heap s.heap [] := va_S.rf
  generalize hAe : va_A (wXO o ko q κ x) s.heap.size = A at hA hS hD ⊢
  have hl : lv_has ls 6 [(0, .ref (q 0)), (1, .int (nI a)), (2, .int (nI k)), (3, .int (nI g)), (4, .int (nI g))] := hl
  have hPc := hP.sub (ws' := wX q κ x.1) [0, 1, 2, 3, 4] rfl
  have hDc := hD.sub (ws' := wX q κ x.1) [0, 1, 2, 3, 4] (by decide) rfl
  have hKc := hK.sub (tys' := tyX κ) [0, 1, 2, 3] rfl
  refine lv_aload_n hx hb d_L_multiply_0 rfl (lv_at hl 0 rfl) ?_
  refine lv_iload_n hx hb d_L_multiply_1 rfl (lv_at hl 1 rfl) ?_
  refine lv_iload_n hx hb d_L_multiply_2 rfl (lv_at hl 2 rfl) ?_
  refine lv_iload_n hx hb d_L_multiply_3 rfl (lv_at hl 3 rfl) ?_
  refine lv_iload hx hb d_L_multiply_4 (lv_at hl 4 rfl) ?_
  refine wx_catchV (As := [.int (nI a), .int (nI k), .int (nI g), .int (nI g)]) (rest := []) C (t_X_multiply_same l hst (q 0) a ha k hk g hg) (cwV 4 C.2.2.2.2 (wG_V (fun _ h => h) k_ml_L_26 k_im_X_multiply k_se_X_multiply k_in_X k_X_multiply) rfl rfl rfl (by decide +kernel) ⟨Nat.le_of_ble_eq_true rfl, Nat.le_of_ble_eq_true rfl⟩) ⟨wx_Pc_blind wx_T, va_recv hKc hPc (ci := 0) (q0 := 0) rfl rfl, wx_Pc_pre hAll.1 (fun _ _ => rfl) (fun _ _ _ => trivial)⟩ rfl hl.1 rfl (Nat.le_of_ble_eq_true rfl) d_L_multiply_6 ⟨Nat.le_of_ble_eq_true rfl, Nat.le_of_ble_eq_true rfl⟩ [⟨0, 9, 12, 13⟩] ⟨0, 9, 16, 30⟩ [] htab (by intro z hz; simp only [List.mem_cons, List.not_mem_nil, or_false] at hz; rcases hz with rfl; exact ⟨rfl, by decide, EI, hts _ k_kl_L_13, hAll.2.1⟩) rfl (by decide) (hts _ k_kl_L_30) (fun qe H1 hz hk => ?_)
  have hP := hP.kept (fun k z h => hk _ ((hP k z h).lt))
  have hS : va_S A s.heap H1 [] := ⟨hz, fun z h _ => hk z h, fun _ h => by cases h⟩
  refine lv_astore (lv' := [(5, .ref (qe)), (0, .ref (q 0)), (1, .int (nI a)), (2, .int (nI k)), (3, .int (nI g)), (4, .int (nI g))]) hx hb d_L_multiply_16 hl (by decide) rfl (fun ls hl => ?_)
  refine lv_iconst (v := 2) hx hb d_L_multiply_18 (by decide) ?_
  exact wf_reti C hr hlocks x (⟨rfl, rfl⟩) hP hK hD hS (fun _ h => h) d_L_multiply_19

set_option maxHeartbeats 4000000 in
set_option maxRecDepth 100000 in
theorem c_L_divide_same (l : Launch) (hst : l.stackTraces = false) (D : va_G) (q : Nat → Nat) (κ : Nat → ClassId) (o : Nat) (ko : ClassId) (x : (SX × (Nat → Int64))) (a : Nat) (ha : a < 8) (k : Nat) (hk : k < 8) (g : Nat) (hg : g < 8) (sz : Nat) : Met l y_L_divide (.codeWith y_L_divide b_L_divide 6 (some .int) [(0, 9, 12, 13), (0, 9, 16, 30), (0, 9, 20, 35)] :: wG) (wf_rm 8 200 1 6) (wf_PcO D vwCl (wXO o ko q κ x) (tyXO ko κ) ([.ref (q 0), .int (nI a), .int (nI k), .int (nI g), .int (nI g)]) sz) (va_Qi (fun r v => r = 2 ∧ v = x) (wf_B D vwCl (wXO o ko q κ) (tyXO ko κ) (va_A (wXO o ko q κ x) sz)) (va_A (wXO o ko q κ x) sz)) 1 6 (va_A (wXO o ko q κ x) sz) := by
  refine wo_open (by decide) (Nat.le_of_ble_eq_true rfl) ?_
  intro p e s m below meth c ls hsz C hr hlocks htab hAll hP hK hD hl
  subst hsz
  have hx := C.1
  have hb := C.2.1
  have hml := C.2.2.1
  have hown := C.2.2.2.1
  have hts := C.2.2.2.2
  have hA : ∀ j : Nat, s.heap.size ≤ j → va_A (wXO o ko q κ x) s.heap.size j := fun j h => Or.inr h
  have hS : va_S (va_A (wXO o ko q κ x) s.heap.size) s.heap s.heap [] := va_S.rf
  generalize hAe : va_A (wXO o ko q κ x) s.heap.size = A at hA hS hD ⊢
  have hl : lv_has ls 6 [(0, .ref (q 0)), (1, .int (nI a)), (2, .int (nI k)), (3, .int (nI g)), (4, .int (nI g))] := hl
  have hPc := hP.sub (ws' := wX q κ x.1) [0, 1, 2, 3, 4] rfl
  have hDc := hD.sub (ws' := wX q κ x.1) [0, 1, 2, 3, 4] (by decide) rfl
  have hKc := hK.sub (tys' := tyX κ) [0, 1, 2, 3] rfl
  refine lv_aload_n hx hb d_L_divide_0 rfl (lv_at hl 0 rfl) ?_
  refine lv_iload_n hx hb d_L_divide_1 rfl (lv_at hl 1 rfl) ?_
  refine lv_iload_n hx hb d_L_divide_2 rfl (lv_at hl 2 rfl) ?_
  refine lv_iload_n hx hb d_L_divide_3 rfl (lv_at hl 3 rfl) ?_
  refine lv_iload hx hb d_L_divide_4 (lv_at hl 4 rfl) ?_
  refine wx_catchV (As := [.int (nI a), .int (nI k), .int (nI g), .int (nI g)]) (rest := []) C (t_X_divide_same l hst (q 0) a ha k hk g hg) (cwV 4 C.2.2.2.2 (wG_V (fun _ h => h) k_ml_L_32 k_im_X_divide k_se_X_divide k_in_X k_X_divide) rfl rfl rfl (by decide +kernel) ⟨Nat.le_of_ble_eq_true rfl, Nat.le_of_ble_eq_true rfl⟩) ⟨wx_Pc_blind wx_T, va_recv hKc hPc (ci := 0) (q0 := 0) rfl rfl, wx_Pc_pre hAll.1 (fun _ _ => rfl) (fun _ _ _ => trivial)⟩ rfl hl.1 rfl (Nat.le_of_ble_eq_true rfl) d_L_divide_6 ⟨Nat.le_of_ble_eq_true rfl, Nat.le_of_ble_eq_true rfl⟩ [⟨0, 9, 12, 13⟩] ⟨0, 9, 16, 30⟩ [⟨0, 9, 20, 35⟩] htab (by intro z hz; simp only [List.mem_cons, List.not_mem_nil, or_false] at hz; rcases hz with rfl; exact ⟨rfl, by decide, EI, hts _ k_kl_L_13, hAll.2.1⟩) rfl (by decide) (hts _ k_kl_L_30) (fun qe H1 hz hk => ?_)
  have hP := hP.kept (fun k z h => hk _ ((hP k z h).lt))
  have hS : va_S A s.heap H1 [] := ⟨hz, fun z h _ => hk z h, fun _ h => by cases h⟩
  refine lv_astore (lv' := [(5, .ref (qe)), (0, .ref (q 0)), (1, .int (nI a)), (2, .int (nI k)), (3, .int (nI g)), (4, .int (nI g))]) hx hb d_L_divide_16 hl (by decide) rfl (fun ls hl => ?_)
  refine lv_iconst (v := 2) hx hb d_L_divide_18 (by decide) ?_
  exact wf_reti C hr hlocks x (⟨rfl, rfl⟩) hP hK hD hS (fun _ h => h) d_L_divide_19

set_option maxHeartbeats 4000000 in
set_option maxRecDepth 100000 in
theorem c_L_root_same (l : Launch) (hst : l.stackTraces = false) (D : va_G) (q : Nat → Nat) (κ : Nat → ClassId) (o : Nat) (ko : ClassId) (x : (SX × (Nat → Int64))) (a : Nat) (ha : a < 8) (g : Nat) (hg : g < 8) (sz : Nat) : Met l y_L_root (.codeWith y_L_root b_L_root 5 (some .int) [(0, 7, 10, 13), (0, 7, 14, 30)] :: wG) (wf_rm 8 200 1 6) (wf_PcO D vwCl (wXO o ko q κ x) (tyXO ko κ) ([.ref (q 0), .int (nI a), .int (nI g), .int (nI g)]) sz) (va_Qi (fun r v => r = 2 ∧ v = x) (wf_B D vwCl (wXO o ko q κ) (tyXO ko κ) (va_A (wXO o ko q κ x) sz)) (va_A (wXO o ko q κ x) sz)) 1 6 (va_A (wXO o ko q κ x) sz) := by
  refine wo_open (by decide) (Nat.le_of_ble_eq_true rfl) ?_
  intro p e s m below meth c ls hsz C hr hlocks htab hAll hP hK hD hl
  subst hsz
  have hx := C.1
  have hb := C.2.1
  have hml := C.2.2.1
  have hown := C.2.2.2.1
  have hts := C.2.2.2.2
  have hA : ∀ j : Nat, s.heap.size ≤ j → va_A (wXO o ko q κ x) s.heap.size j := fun j h => Or.inr h
  have hS : va_S (va_A (wXO o ko q κ x) s.heap.size) s.heap s.heap [] := va_S.rf
  generalize hAe : va_A (wXO o ko q κ x) s.heap.size = A at hA hS hD ⊢
  have hl : lv_has ls 5 [(0, .ref (q 0)), (1, .int (nI a)), (2, .int (nI g)), (3, .int (nI g))] := hl
  have hPc := hP.sub (ws' := wX q κ x.1) [0, 1, 2, 3, 4] rfl
  have hDc := hD.sub (ws' := wX q κ x.1) [0, 1, 2, 3, 4] (by decide) rfl
  have hKc := hK.sub (tys' := tyX κ) [0, 1, 2, 3] rfl
  refine lv_aload_n hx hb d_L_root_0 rfl (lv_at hl 0 rfl) ?_
  refine lv_iload_n hx hb d_L_root_1 rfl (lv_at hl 1 rfl) ?_
  refine lv_iload_n hx hb d_L_root_2 rfl (lv_at hl 2 rfl) ?_
  refine lv_iload_n hx hb d_L_root_3 rfl (lv_at hl 3 rfl) ?_
  refine wx_catchV (As := [.int (nI a), .int (nI g), .int (nI g)]) (rest := []) C (t_X_root_same l hst (q 0) a ha g hg) (cwV 3 C.2.2.2.2 (wG_V (fun _ h => h) k_ml_L_37 k_im_X_root k_se_X_root k_in_X k_X_root) rfl rfl rfl (by decide +kernel) ⟨Nat.le_of_ble_eq_true rfl, Nat.le_of_ble_eq_true rfl⟩) ⟨wx_Pc_blind wx_T, va_recv hKc hPc (ci := 0) (q0 := 0) rfl rfl, wx_Pc_pre hAll.1 (fun _ _ => rfl) (fun _ _ _ => trivial)⟩ rfl hl.1 rfl (Nat.le_of_ble_eq_true rfl) d_L_root_4 ⟨Nat.le_of_ble_eq_true rfl, Nat.le_of_ble_eq_true rfl⟩ [⟨0, 7, 10, 13⟩] ⟨0, 7, 14, 30⟩ [] htab (by intro z hz; simp only [List.mem_cons, List.not_mem_nil, or_false] at hz; rcases hz with rfl; exact ⟨rfl, by decide, EI, hts _ k_kl_L_13, hAll.2.1⟩) rfl (by decide) (hts _ k_kl_L_30) (fun qe H1 hz hk => ?_)
  have hP := hP.kept (fun k z h => hk _ ((hP k z h).lt))
  have hS : va_S A s.heap H1 [] := ⟨hz, fun z h _ => hk z h, fun _ h => by cases h⟩
  refine lv_astore (lv' := [(4, .ref (qe)), (0, .ref (q 0)), (1, .int (nI a)), (2, .int (nI g)), (3, .int (nI g))]) hx hb d_L_root_14 hl (by decide) rfl (fun ls hl => ?_)
  refine lv_iconst (v := 2) hx hb d_L_root_16 (by decide) ?_
  exact wf_reti C hr hlocks x (⟨rfl, rfl⟩) hP hK hD hS (fun _ h => h) d_L_root_17

set_option maxHeartbeats 4000000 in
set_option maxRecDepth 100000 in
theorem c_L_jam_neg (l : Launch) (hst : l.stackTraces = false) (D : va_G) (q : Nat → Nat) (κ : Nat → ClassId) (o : Nat) (ko : ClassId) (x : (SX × (Nat → Int64))) (a : Nat) (ha : a < 8) (n : Int32) (hneg : n < 0) (t : Nat) (ht : t < 8) (sz : Nat) : Met l y_L_jam (.codeWith y_L_jam b_L_jam 5 (some .int) [(0, 7, 10, 13), (0, 7, 14, 30)] :: wG) (wf_rm 8 200 1 6) (wf_PcO D vwCl (wXO o ko q κ x) (tyXO ko κ) ([.ref (q 0), .int (nI a), .int (n), .int (nI t)]) sz) (va_Qi (fun r v => r = 2 ∧ v = x) (wf_B D vwCl (wXO o ko q κ) (tyXO ko κ) (va_A (wXO o ko q κ x) sz)) (va_A (wXO o ko q κ x) sz)) 1 6 (va_A (wXO o ko q κ x) sz) := by
  refine wo_open (by decide) (Nat.le_of_ble_eq_true rfl) ?_
  intro p e s m below meth c ls hsz C hr hlocks htab hAll hP hK hD hl
  subst hsz
  have hx := C.1
  have hb := C.2.1
  have hml := C.2.2.1
  have hown := C.2.2.2.1
  have hts := C.2.2.2.2
  have hA : ∀ j : Nat, s.heap.size ≤ j → va_A (wXO o ko q κ x) s.heap.size j := fun j h => Or.inr h
  have hS : va_S (va_A (wXO o ko q κ x) s.heap.size) s.heap s.heap [] := va_S.rf
  generalize hAe : va_A (wXO o ko q κ x) s.heap.size = A at hA hS hD ⊢
  have hl : lv_has ls 5 [(0, .ref (q 0)), (1, .int (nI a)), (2, .int (n)), (3, .int (nI t))] := hl
  have hPc := hP.sub (ws' := wX q κ x.1) [0, 1, 2, 3, 4] rfl
  have hDc := hD.sub (ws' := wX q κ x.1) [0, 1, 2, 3, 4] (by decide) rfl
  have hKc := hK.sub (tys' := tyX κ) [0, 1, 2, 3] rfl
  refine lv_aload_n hx hb d_L_jam_0 rfl (lv_at hl 0 rfl) ?_
  refine lv_iload_n hx hb d_L_jam_1 rfl (lv_at hl 1 rfl) ?_
  refine lv_iload_n hx hb d_L_jam_2 rfl (lv_at hl 2 rfl) ?_
  refine lv_iload_n hx hb d_L_jam_3 rfl (lv_at hl 3 rfl) ?_
  refine wx_catchV (As := [.int (nI a), .int (n), .int (nI t)]) (rest := []) C (t_X_jam_neg l hst (q 0) a ha n hneg t ht) (cwV 3 C.2.2.2.2 (wG_V (fun _ h => h) k_ml_L_44 k_im_X_jam k_se_X_jam k_in_X k_X_jam) rfl rfl rfl (by decide +kernel) ⟨Nat.le_of_ble_eq_true rfl, Nat.le_of_ble_eq_true rfl⟩) ⟨wx_Pc_blind wx_T, va_recv hKc hPc (ci := 0) (q0 := 0) rfl rfl, wx_Pc_pre hAll.1 (fun _ _ => rfl) (fun _ _ _ => trivial)⟩ rfl hl.1 rfl (Nat.le_of_ble_eq_true rfl) d_L_jam_4 ⟨Nat.le_of_ble_eq_true rfl, Nat.le_of_ble_eq_true rfl⟩ [⟨0, 7, 10, 13⟩] ⟨0, 7, 14, 30⟩ [] htab (by intro z hz; simp only [List.mem_cons, List.not_mem_nil, or_false] at hz; rcases hz with rfl; exact ⟨rfl, by decide, EI, hts _ k_kl_L_13, hAll.2.1⟩) rfl (by decide) (hts _ k_kl_L_30) (fun qe H1 hz hk => ?_)
  have hP := hP.kept (fun k z h => hk _ ((hP k z h).lt))
  have hS : va_S A s.heap H1 [] := ⟨hz, fun z h _ => hk z h, fun _ h => by cases h⟩
  refine lv_astore (lv' := [(4, .ref (qe)), (0, .ref (q 0)), (1, .int (nI a)), (2, .int (n)), (3, .int (nI t))]) hx hb d_L_jam_14 hl (by decide) rfl (fun ls hl => ?_)
  refine lv_iconst (v := 2) hx hb d_L_jam_16 (by decide) ?_
  exact wf_reti C hr hlocks x (⟨rfl, rfl⟩) hP hK hD hS (fun _ h => h) d_L_jam_17

set_option maxHeartbeats 4000000 in
set_option maxRecDepth 100000 in
theorem c_L_next_digit (l : Launch) (hst : l.stackTraces = false) (D : va_G) (q : Nat → Nat) (κ : Nat → ClassId) (o : Nat) (ko : ClassId) (x : (SX × (Nat → Int64))) (a : Nat) (ha : a < 8) (d : Int32) (hbad : (decide (d < 0) || decide (9 < d)) = true) (sz : Nat) : Met l y_L_next (.codeWith y_L_next b_L_next 5 (some .int) [(0, 17, 20, 13), (0, 17, 24, 30)] :: wG) (wf_rm 8 200 1 6) (wf_PcO D vwCl (wXO o ko q κ x) (tyXO ko κ) ([.ref (q 0), .int (nI a), .int (d), .ref o]) sz) (va_Qi (fun r v => r = 2 ∧ v = x) (wf_B D vwCl (wXO o ko q κ) (tyXO ko κ) (va_A (wXO o ko q κ x) sz)) (va_A (wXO o ko q κ x) sz)) 1 6 (va_A (wXO o ko q κ x) sz) := by
  refine wo_open (by decide) (Nat.le_of_ble_eq_true rfl) ?_
  intro p e s m below meth c ls hsz C hr hlocks htab hAll hP hK hD hl
  subst hsz
  have hx := C.1
  have hb := C.2.1
  have hml := C.2.2.1
  have hown := C.2.2.2.1
  have hts := C.2.2.2.2
  have hA : ∀ j : Nat, s.heap.size ≤ j → va_A (wXO o ko q κ x) s.heap.size j := fun j h => Or.inr h
  have hS : va_S (va_A (wXO o ko q κ x) s.heap.size) s.heap s.heap [] := va_S.rf
  generalize hAe : va_A (wXO o ko q κ x) s.heap.size = A at hA hS hD ⊢
  have hl : lv_has ls 5 [(0, .ref (q 0)), (1, .int (nI a)), (2, .int (d)), (3, .ref (o))] := hl
  have hPc := hP.sub (ws' := wX q κ x.1) [0, 1, 2, 3, 4] rfl
  have hDc := hD.sub (ws' := wX q κ x.1) [0, 1, 2, 3, 4] (by decide) rfl
  have hKc := hK.sub (tys' := tyX κ) [0, 1, 2, 3] rfl
  refine lv_aload_n hx hb d_L_next_0 rfl (lv_at hl 3 rfl) ?_
  refine lv_iconst (v := 0) hx hb d_L_next_1 (by decide) ?_
  refine lv_aload_n hx hb d_L_next_2 rfl (lv_at hl 0 rfl) ?_
  refine lv_iload_n hx hb d_L_next_3 rfl (lv_at hl 1 rfl) ?_
  refine lv_iload_n hx hb d_L_next_4 rfl (lv_at hl 2 rfl) ?_
  refine wx_catchV (As := [.int (nI a), .int (d)]) (rest := [.int (0), .ref (o)]) C (t_X_next_digit l hst (q 0) a ha d hbad) (cwV 2 C.2.2.2.2 (wG_V (fun _ h => h) k_ml_L_58 k_im_X_next k_se_X_next k_in_X k_X_next) rfl rfl rfl (by decide +kernel) ⟨Nat.le_of_ble_eq_true rfl, Nat.le_of_ble_eq_true rfl⟩) ⟨wx_Pc_blind wx_T, va_recv hKc hPc (ci := 0) (q0 := 0) rfl rfl, wx_Pc_pre hAll.1 (fun _ _ => rfl) (fun _ _ _ => trivial)⟩ rfl hl.1 rfl (Nat.le_of_ble_eq_true rfl) d_L_next_5 ⟨Nat.le_of_ble_eq_true rfl, Nat.le_of_ble_eq_true rfl⟩ [⟨0, 17, 20, 13⟩] ⟨0, 17, 24, 30⟩ [] htab (by intro z hz; simp only [List.mem_cons, List.not_mem_nil, or_false] at hz; rcases hz with rfl; exact ⟨rfl, by decide, EI, hts _ k_kl_L_13, hAll.2.1⟩) rfl (by decide) (hts _ k_kl_L_30) (fun qe H1 hz hk => ?_)
  have hP := hP.kept (fun k z h => hk _ ((hP k z h).lt))
  have hS : va_S A s.heap H1 [] := ⟨hz, fun z h _ => hk z h, fun _ h => by cases h⟩
  refine lv_astore (lv' := [(4, .ref (qe)), (0, .ref (q 0)), (1, .int (nI a)), (2, .int (d)), (3, .ref (o))]) hx hb d_L_next_24 hl (by decide) rfl (fun ls hl => ?_)
  refine lv_iconst (v := 2) hx hb d_L_next_26 (by decide) ?_
  exact wf_reti C hr hlocks x (⟨rfl, rfl⟩) hP hK hD hS (fun _ h => h) d_L_next_27

set_option maxHeartbeats 4000000 in
set_option maxRecDepth 100000 in
theorem c_L_divide_zero (l : Launch) (hst : l.stackTraces = false) (D : va_G) (q : Nat → Nat) (κ : Nat → ClassId) (o : Nat) (ko : ClassId) (x : (SX × (Nat → Int64))) (ra : Nat) (hra : ra < 8) (rb : Nat) (hrb : rb < 8) (ro : Nat) (hro : ro < 8) (rt : Nat) (hrt : rt < 8) (hne : ¬ nI ro = nI rt) (hz : wf_Rx x.1 rb = 0) (sz : Nat) : Met l y_L_divide (.codeWith y_L_divide b_L_divide 6 (some .int) [(0, 9, 12, 13), (0, 9, 16, 30), (0, 9, 20, 35)] :: wG) (wf_rm 8 200 1 6) (wf_PcO D vwCl (wXO o ko q κ x) (tyXO ko κ) ([.ref (q 0), .int (nI ra), .int (nI rb), .int (nI ro), .int (nI rt)]) sz) (va_Qi (fun r v => r = 3 ∧ v = x) (wf_B D vwCl (wXO o ko q κ) (tyXO ko κ) (va_A (wXO o ko q κ x) sz)) (va_A (wXO o ko q κ x) sz)) 1 6 (va_A (wXO o ko q κ x) sz) := by
  refine wo_open (by decide) (Nat.le_of_ble_eq_true rfl) ?_
  intro p e s m below meth c ls hsz C hr hlocks htab hAll hP hK hD hl
  subst hsz
  have hx := C.1
  have hb := C.2.1
  have hml := C.2.2.1
  have hown := C.2.2.2.1
  have hts := C.2.2.2.2
  have hA : ∀ j : Nat, s.heap.size ≤ j → va_A (wXO o ko q κ x) s.heap.size j := fun j h => Or.inr h
  have hS : va_S (va_A (wXO o ko q κ x) s.heap.size) s.heap s.heap [] := va_S.rf
  generalize hAe : va_A (wXO o ko q κ x) s.heap.size = A at hA hS hD ⊢
  have hl : lv_has ls 6 [(0, .ref (q 0)), (1, .int (nI ra)), (2, .int (nI rb)), (3, .int (nI ro)), (4, .int (nI rt))] := hl
  have hPc := hP.sub (ws' := wX q κ x.1) [0, 1, 2, 3, 4] rfl
  have hDc := hD.sub (ws' := wX q κ x.1) [0, 1, 2, 3, 4] (by decide) rfl
  have hKc := hK.sub (tys' := tyX κ) [0, 1, 2, 3] rfl
  refine lv_aload_n hx hb d_L_divide_0 rfl (lv_at hl 0 rfl) ?_
  refine lv_iload_n hx hb d_L_divide_1 rfl (lv_at hl 1 rfl) ?_
  refine lv_iload_n hx hb d_L_divide_2 rfl (lv_at hl 2 rfl) ?_
  refine lv_iload_n hx hb d_L_divide_3 rfl (lv_at hl 3 rfl) ?_
  refine lv_iload hx hb d_L_divide_4 (lv_at hl 4 rfl) ?_
  refine wx_catchV (As := [.int (nI ra), .int (nI rb), .int (nI ro), .int (nI rt)]) (rest := []) C (t_X_divide_zero l hst D q κ x.1 ra hra rb hrb ro hro rt hrt hne hz) (cwV 4 C.2.2.2.2 (wG_V (fun _ h => h) k_ml_L_32 k_im_X_divide k_se_X_divide k_in_X k_X_divide) rfl rfl rfl (by decide +kernel) ⟨Nat.le_of_ble_eq_true rfl, Nat.le_of_ble_eq_true rfl⟩) ⟨wx_Pc_blind (fun U g mk a h => ⟨h.1, va_K.moved (u := U) (U := U.calling g mk a) (Vm.Alike.refl U.vm) h.2⟩), va_recv hKc hPc (ci := 0) (q0 := 0) rfl rfl, wx_Pc_pre hAll.1 (fun _ _ => rfl) (fun U hU hW => ⟨by rw [hU]; exact hPc, va_K.moved hW.alike hKc⟩)⟩ rfl hl.1 rfl (Nat.le_of_ble_eq_true rfl) d_L_divide_6 ⟨Nat.le_of_ble_eq_true rfl, Nat.le_of_ble_eq_true rfl⟩ [⟨0, 9, 12, 13⟩, ⟨0, 9, 16, 30⟩] ⟨0, 9, 20, 35⟩ [] htab (by
      intro z hz
      simp only [List.mem_cons, List.not_mem_nil, or_false] at hz
      rcases hz with rfl | rfl
      · exact ⟨rfl, by decide, EI, hts _ k_kl_L_13, hAll.2.2.1⟩
      · exact ⟨rfl, by decide, EA, hts _ k_kl_L_30, hAll.2.2.2⟩) rfl (by decide) (hts _ k_kl_L_35) (fun qe H1 hz hk => ?_)
  have hP := hP.kept (fun k z h => hk _ ((hP k z h).lt))
  have hS : va_S A s.heap H1 [] := ⟨hz, fun z h _ => hk z h, fun _ h => by cases h⟩
  refine lv_astore (lv' := [(5, .ref (qe)), (0, .ref (q 0)), (1, .int (nI ra)), (2, .int (nI rb)), (3, .int (nI ro)), (4, .int (nI rt))]) hx hb d_L_divide_20 hl (by decide) rfl (fun ls hl => ?_)
  refine lv_iconst (v := 3) hx hb d_L_divide_22 (by decide) ?_
  exact wf_reti C hr hlocks x (⟨rfl, rfl⟩) hP hK hD hS (fun _ h => h) d_L_divide_23

set_option maxHeartbeats 4000000 in
set_option maxRecDepth 100000 in
theorem c_L_set_bad (l : Launch) (hst : l.stackTraces = false) (D : va_G) (q : Nat → Nat) (κ : Nat → ClassId) (o : Nat) (ko : ClassId) (x : (SX × (Nat → Int64))) (a : Int32) (h : Int64) (lo : Int64) (hbad : ((wf_no a) || (false)) = true) (sz : Nat) : Met l y_L_set (.codeWith y_L_set b_L_set 7 (some .int) [(0, 8, 11, 13)] :: wG) (wf_rm 8 200 1 6) (wf_PcO D vwCl (wXO o ko q κ x) (tyXO ko κ) ([.ref (q 0), .int a, .long h, .long lo]) sz) (va_Qi (fun r v => r = wf_c2 (wf_no a) (false) ∧ v = x) (wf_B D vwCl (wXO o ko q κ) (tyXO ko κ) (va_A (wXO o ko q κ x) sz)) (va_A (wXO o ko q κ x) sz)) 1 6 (va_A (wXO o ko q κ x) sz) := by
  rcases Bool.eq_false_or_eq_true (wf_no a) with ea | ea
  · have e_ : wf_c2 (wf_no a) (false) = 1 := by simp [wf_c2, ea]
    rw [e_]
    exact c_L_set_b1 l hst D q κ o ko x a h lo ea sz
  · obtain ⟨a_, ha, rfl⟩ := wf_no_is ea
    simp [wf_no_ok ha] at hbad

set_option maxHeartbeats 4000000 in
set_option maxRecDepth 100000 in
theorem c_L_half_bad (l : Launch) (hst : l.stackTraces = false) (D : va_G) (q : Nat → Nat) (κ : Nat → ClassId) (o : Nat) (ko : ClassId) (x : (SX × (Nat → Int64))) (a : Int32) (z : Int32) (hbad : ((wf_no a) || (false)) = true) (sz : Nat) : Met l y_L_half (.codeWith y_L_half b_L_half 5 (some .int) [(0, 9, 12, 13)] :: wG) (wf_rm 8 200 1 6) (wf_PcO D vwCl (wXO o ko q κ x) (tyXO ko κ) ([.ref (q 0), .int a, .int z, .ref o]) sz) (va_Qi (fun r v => r = wf_c2 (wf_no a) (false) ∧ v = x) (wf_B D vwCl (wXO o ko q κ) (tyXO ko κ) (va_A (wXO o ko q κ x) sz)) (va_A (wXO o ko q κ x) sz)) 1 6 (va_A (wXO o ko q κ x) sz) := by
  rcases Bool.eq_false_or_eq_true (wf_no a) with ea | ea
  · have e_ : wf_c2 (wf_no a) (false) = 1 := by simp [wf_c2, ea]
    rw [e_]
    exact c_L_half_b1 l hst D q κ o ko x a z ea sz
  · obtain ⟨a_, ha, rfl⟩ := wf_no_is ea
    simp [wf_no_ok ha] at hbad

set_option maxHeartbeats 4000000 in
set_option maxRecDepth 100000 in
theorem c_L_add_bad (l : Launch) (hst : l.stackTraces = false) (D : va_G) (q : Nat → Nat) (κ : Nat → ClassId) (o : Nat) (ko : ClassId) (x : (SX × (Nat → Int64))) (a : Int32) (k : Int32) (t : Int32) (hbad : ((wf_no a || wf_no k || wf_no t) || (false)) = true) (sz : Nat) : Met l y_L_add (.codeWith y_L_add b_L_add 6 (some .int) [(0, 19, 22, 13)] :: wG) (wf_rm 8 200 1 6) (wf_PcO D vwCl (wXO o ko q κ x) (tyXO ko κ) ([.ref (q 0), .int a, .int k, .int t, .ref o]) sz) (va_Qi (fun r v => r = wf_c2 (wf_no a || wf_no k || wf_no t) (false) ∧ v = x) (wf_B D vwCl (wXO o ko q κ) (tyXO ko κ) (va_A (wXO o ko q κ x) sz)) (va_A (wXO o ko q κ x) sz)) 1 6 (va_A (wXO o ko q κ x) sz) := by
  rcases Bool.eq_false_or_eq_true (wf_no a) with ea | ea
  · have e_ : wf_c2 (wf_no a || wf_no k || wf_no t) (false) = 1 := by simp [wf_c2, ea]
    rw [e_]
    exact c_L_add_b1 l hst D q κ o ko x a k t ea sz
  · obtain ⟨a_, ha, rfl⟩ := wf_no_is ea
    rcases Bool.eq_false_or_eq_true (wf_no k) with ek | ek
    · have e_ : wf_c2 (wf_no (nI a_) || wf_no k || wf_no t) (false) = 1 := by simp [wf_c2, ek, wf_no_ok ha]
      rw [e_]
      exact c_L_add_b2 l hst D q κ o ko x a_ ha k t ek sz
    · obtain ⟨k_, hk, rfl⟩ := wf_no_is ek
      rcases Bool.eq_false_or_eq_true (wf_no t) with et | et
      · have e_ : wf_c2 (wf_no (nI a_) || wf_no (nI k_) || wf_no t) (false) = 1 := by simp [wf_c2, et, wf_no_ok ha, wf_no_ok hk]
        rw [e_]
        exact c_L_add_b3 l hst D q κ o ko x a_ ha k_ hk t et sz
      · obtain ⟨t_, ht, rfl⟩ := wf_no_is et
        simp [wf_no_ok ha, wf_no_ok hk, wf_no_ok ht] at hbad

set_option maxHeartbeats 4000000 in
set_option maxRecDepth 100000 in
theorem c_L_subtract_bad (l : Launch) (hst : l.stackTraces = false) (D : va_G) (q : Nat → Nat) (κ : Nat → ClassId) (o : Nat) (ko : ClassId) (x : (SX × (Nat → Int64))) (a : Int32) (k : Int32) (t : Int32) (hbad : ((wf_no a || wf_no k || wf_no t) || (false)) = true) (sz : Nat) : Met l y_L_subtract (.codeWith y_L_subtract b_L_subtract 6 (some .int) [(0, 19, 22, 13)] :: wG) (wf_rm 8 200 1 6) (wf_PcO D vwCl (wXO o ko q κ x) (tyXO ko κ) ([.ref (q 0), .int a, .int k, .int t, .ref o]) sz) (va_Qi (fun r v => r = wf_c2 (wf_no a || wf_no k || wf_no t) (false) ∧ v = x) (wf_B D vwCl (wXO o ko q κ) (tyXO ko κ) (va_A (wXO o ko q κ x) sz)) (va_A (wXO o ko q κ x) sz)) 1 6 (va_A (wXO o ko q κ x) sz) := by
  rcases Bool.eq_false_or_eq_true (wf_no a) with ea | ea
  · have e_ : wf_c2 (wf_no a || wf_no k || wf_no t) (false) = 1 := by simp [wf_c2, ea]
    rw [e_]
    exact c_L_subtract_b1 l hst D q κ o ko x a k t ea sz
  · obtain ⟨a_, ha, rfl⟩ := wf_no_is ea
    rcases Bool.eq_false_or_eq_true (wf_no k) with ek | ek
    · have e_ : wf_c2 (wf_no (nI a_) || wf_no k || wf_no t) (false) = 1 := by simp [wf_c2, ek, wf_no_ok ha]
      rw [e_]
      exact c_L_subtract_b2 l hst D q κ o ko x a_ ha k t ek sz
    · obtain ⟨k_, hk, rfl⟩ := wf_no_is ek
      rcases Bool.eq_false_or_eq_true (wf_no t) with et | et
      · have e_ : wf_c2 (wf_no (nI a_) || wf_no (nI k_) || wf_no t) (false) = 1 := by simp [wf_c2, et, wf_no_ok ha, wf_no_ok hk]
        rw [e_]
        exact c_L_subtract_b3 l hst D q κ o ko x a_ ha k_ hk t et sz
      · obtain ⟨t_, ht, rfl⟩ := wf_no_is et
        simp [wf_no_ok ha, wf_no_ok hk, wf_no_ok ht] at hbad

set_option maxHeartbeats 4000000 in
set_option maxRecDepth 100000 in
theorem c_L_shift_bad (l : Launch) (hst : l.stackTraces = false) (D : va_G) (q : Nat → Nat) (κ : Nat → ClassId) (o : Nat) (ko : ClassId) (x : (SX × (Nat → Int64))) (a : Int32) (n : Int32) (t : Int32) (hbad : ((wf_no a || wf_no t) || (false)) = true) (sz : Nat) : Met l y_L_shift (.codeWith y_L_shift b_L_shift 6 (some .int) [(0, 19, 22, 13)] :: wG) (wf_rm 8 200 1 6) (wf_PcO D vwCl (wXO o ko q κ x) (tyXO ko κ) ([.ref (q 0), .int a, .int n, .int t, .ref o]) sz) (va_Qi (fun r v => r = wf_c2 (wf_no a || wf_no t) (false) ∧ v = x) (wf_B D vwCl (wXO o ko q κ) (tyXO ko κ) (va_A (wXO o ko q κ x) sz)) (va_A (wXO o ko q κ x) sz)) 1 6 (va_A (wXO o ko q κ x) sz) := by
  rcases Bool.eq_false_or_eq_true (wf_no a) with ea | ea
  · have e_ : wf_c2 (wf_no a || wf_no t) (false) = 1 := by simp [wf_c2, ea]
    rw [e_]
    exact c_L_shift_b1 l hst D q κ o ko x a n t ea sz
  · obtain ⟨a_, ha, rfl⟩ := wf_no_is ea
    rcases Bool.eq_false_or_eq_true (wf_no t) with et | et
    · have e_ : wf_c2 (wf_no (nI a_) || wf_no t) (false) = 1 := by simp [wf_c2, et, wf_no_ok ha]
      rw [e_]
      exact c_L_shift_b2 l hst D q κ o ko x a_ ha n t et sz
    · obtain ⟨t_, ht, rfl⟩ := wf_no_is et
      simp [wf_no_ok ha, wf_no_ok ht] at hbad

set_option maxHeartbeats 4000000 in
set_option maxRecDepth 100000 in
theorem c_L_zeros_bad (l : Launch) (hst : l.stackTraces = false) (D : va_G) (q : Nat → Nat) (κ : Nat → ClassId) (o : Nat) (ko : ClassId) (x : (SX × (Nat → Int64))) (a : Int32) (hbad : ((wf_no a) || (false)) = true) (sz : Nat) : Met l y_L_zeros (.codeWith y_L_zeros b_L_zeros 4 (some .int) [(0, 9, 12, 13)] :: wG) (wf_rm 8 200 1 6) (wf_PcO D vwCl (wXO o ko q κ x) (tyXO ko κ) ([.ref (q 0), .int a, .ref o]) sz) (va_Qi (fun r v => r = wf_c2 (wf_no a) (false) ∧ v = x) (wf_B D vwCl (wXO o ko q κ) (tyXO ko κ) (va_A (wXO o ko q κ x) sz)) (va_A (wXO o ko q κ x) sz)) 1 6 (va_A (wXO o ko q κ x) sz) := by
  rcases Bool.eq_false_or_eq_true (wf_no a) with ea | ea
  · have e_ : wf_c2 (wf_no a) (false) = 1 := by simp [wf_c2, ea]
    rw [e_]
    exact c_L_zeros_b1 l hst D q κ o ko x a ea sz
  · obtain ⟨a_, ha, rfl⟩ := wf_no_is ea
    simp [wf_no_ok ha] at hbad

set_option maxHeartbeats 4000000 in
set_option maxRecDepth 100000 in
theorem c_L_compare_bad (l : Launch) (hst : l.stackTraces = false) (D : va_G) (q : Nat → Nat) (κ : Nat → ClassId) (o : Nat) (ko : ClassId) (x : (SX × (Nat → Int64))) (a : Int32) (k : Int32) (hbad : ((wf_no a || wf_no k) || (false)) = true) (sz : Nat) : Met l y_L_compare (.codeWith y_L_compare b_L_compare 5 (some .int) [(0, 10, 13, 13)] :: wG) (wf_rm 8 200 1 6) (wf_PcO D vwCl (wXO o ko q κ x) (tyXO ko κ) ([.ref (q 0), .int a, .int k, .ref o]) sz) (va_Qi (fun r v => r = wf_c2 (wf_no a || wf_no k) (false) ∧ v = x) (wf_B D vwCl (wXO o ko q κ) (tyXO ko κ) (va_A (wXO o ko q κ x) sz)) (va_A (wXO o ko q κ x) sz)) 1 6 (va_A (wXO o ko q κ x) sz) := by
  rcases Bool.eq_false_or_eq_true (wf_no a) with ea | ea
  · have e_ : wf_c2 (wf_no a || wf_no k) (false) = 1 := by simp [wf_c2, ea]
    rw [e_]
    exact c_L_compare_b1 l hst D q κ o ko x a k ea sz
  · obtain ⟨a_, ha, rfl⟩ := wf_no_is ea
    rcases Bool.eq_false_or_eq_true (wf_no k) with ek | ek
    · have e_ : wf_c2 (wf_no (nI a_) || wf_no k) (false) = 1 := by simp [wf_c2, ek, wf_no_ok ha]
      rw [e_]
      exact c_L_compare_b2 l hst D q κ o ko x a_ ha k ek sz
    · obtain ⟨k_, hk, rfl⟩ := wf_no_is ek
      simp [wf_no_ok ha, wf_no_ok hk] at hbad

set_option maxHeartbeats 4000000 in
set_option maxRecDepth 100000 in
theorem c_L_digits_bad (l : Launch) (hst : l.stackTraces = false) (D : va_G) (q : Nat → Nat) (κ : Nat → ClassId) (o : Nat) (ko : ClassId) (x : (SX × (Nat → Int64))) (a : Int32) (hbad : ((wf_no a) || (false)) = true) (sz : Nat) : Met l y_L_digits (.codeWith y_L_digits b_L_digits 4 (some .int) [(0, 9, 12, 13)] :: wG) (wf_rm 8 200 1 6) (wf_PcO D vwCl (wXO o ko q κ x) (tyXO ko κ) ([.ref (q 0), .int a, .ref o]) sz) (va_Qi (fun r v => r = wf_c2 (wf_no a) (false) ∧ v = x) (wf_B D vwCl (wXO o ko q κ) (tyXO ko κ) (va_A (wXO o ko q κ x) sz)) (va_A (wXO o ko q κ x) sz)) 1 6 (va_A (wXO o ko q κ x) sz) := by
  rcases Bool.eq_false_or_eq_true (wf_no a) with ea | ea
  · have e_ : wf_c2 (wf_no a) (false) = 1 := by simp [wf_c2, ea]
    rw [e_]
    exact c_L_digits_b1 l hst D q κ o ko x a ea sz
  · obtain ⟨a_, ha, rfl⟩ := wf_no_is ea
    simp [wf_no_ok ha] at hbad

set_option maxHeartbeats 4000000 in
set_option maxRecDepth 100000 in
theorem c_L_multiply_bad (l : Launch) (hst : l.stackTraces = false) (D : va_G) (q : Nat → Nat) (κ : Nat → ClassId) (o : Nat) (ko : ClassId) (x : (SX × (Nat → Int64))) (a : Int32) (k : Int32) (g : Int32) (t : Int32) (hbad : ((wf_no a || wf_no k || wf_no g || wf_no t) || (decide (g = t))) = true) (sz : Nat) : Met l y_L_multiply (.codeWith y_L_multiply b_L_multiply 6 (some .int) [(0, 9, 12, 13), (0, 9, 16, 30)] :: wG) (wf_rm 8 200 1 6) (wf_PcO D vwCl (wXO o ko q κ x) (tyXO ko κ) ([.ref (q 0), .int a, .int k, .int g, .int t]) sz) (va_Qi (fun r v => r = wf_c2 (wf_no a || wf_no k || wf_no g || wf_no t) (decide (g = t)) ∧ v = x) (wf_B D vwCl (wXO o ko q κ) (tyXO ko κ) (va_A (wXO o ko q κ x) sz)) (va_A (wXO o ko q κ x) sz)) 1 6 (va_A (wXO o ko q κ x) sz) := by
  rcases Bool.eq_false_or_eq_true (wf_no a) with ea | ea
  · have e_ : wf_c2 (wf_no a || wf_no k || wf_no g || wf_no t) (decide (g = t)) = 1 := by simp [wf_c2, ea]
    rw [e_]
    exact c_L_multiply_b1 l hst D q κ o ko x a k g t ea sz
  · obtain ⟨a_, ha, rfl⟩ := wf_no_is ea
    rcases Bool.eq_false_or_eq_true (wf_no k) with ek | ek
    · have e_ : wf_c2 (wf_no (nI a_) || wf_no k || wf_no g || wf_no t) (decide (g = t)) = 1 := by simp [wf_c2, ek, wf_no_ok ha]
      rw [e_]
      exact c_L_multiply_b2 l hst D q κ o ko x a_ ha k g t ek sz
    · obtain ⟨k_, hk, rfl⟩ := wf_no_is ek
      rcases Bool.eq_false_or_eq_true (wf_no g) with eg | eg
      · have e_ : wf_c2 (wf_no (nI a_) || wf_no (nI k_) || wf_no g || wf_no t) (decide (g = t)) = 1 := by simp [wf_c2, eg, wf_no_ok ha, wf_no_ok hk]
        rw [e_]
        exact c_L_multiply_b3 l hst D q κ o ko x a_ ha k_ hk g t eg sz
      · obtain ⟨g_, hg, rfl⟩ := wf_no_is eg
        rcases Bool.eq_false_or_eq_true (wf_no t) with et | et
        · have e_ : wf_c2 (wf_no (nI a_) || wf_no (nI k_) || wf_no (nI g_) || wf_no t) (decide ((nI g_) = t)) = 1 := by simp [wf_c2, et, wf_no_ok ha, wf_no_ok hk, wf_no_ok hg]
          rw [e_]
          exact c_L_multiply_b4 l hst D q κ o ko x a_ ha k_ hk g_ hg t et sz
        · obtain ⟨t_, ht, rfl⟩ := wf_no_is et
          have eg : nI g_ = nI t_ := by simpa [wf_no_ok ha, wf_no_ok hk, wf_no_ok hg, wf_no_ok ht] using hbad
          have e_ : wf_c2 (wf_no (nI a_) || wf_no (nI k_) || wf_no (nI g_) || wf_no (nI t_)) (decide (nI g_ = nI t_)) = 2 := by simp [wf_c2, eg, wf_no_ok ha, wf_no_ok hk, wf_no_ok hg, wf_no_ok ht]
          rw [e_, ← eg]
          exact c_L_multiply_same l hst D q κ o ko x a_ ha k_ hk g_ hg sz

set_option maxHeartbeats 4000000 in
set_option maxRecDepth 100000 in
theorem c_L_divide_bad (l : Launch) (hst : l.stackTraces = false) (D : va_G) (q : Nat → Nat) (κ : Nat → ClassId) (o : Nat) (ko : ClassId) (x : (SX × (Nat → Int64))) (a : Int32) (k : Int32) (g : Int32) (t : Int32) (hbad : ((wf_no a || wf_no k || wf_no g || wf_no t) || (decide (g = t))) = true) (sz : Nat) : Met l y_L_divide (.codeWith y_L_divide b_L_divide 6 (some .int) [(0, 9, 12, 13), (0, 9, 16, 30), (0, 9, 20, 35)] :: wG) (wf_rm 8 200 1 6) (wf_PcO D vwCl (wXO o ko q κ x) (tyXO ko κ) ([.ref (q 0), .int a, .int k, .int g, .int t]) sz) (va_Qi (fun r v => r = wf_c2 (wf_no a || wf_no k || wf_no g || wf_no t) (decide (g = t)) ∧ v = x) (wf_B D vwCl (wXO o ko q κ) (tyXO ko κ) (va_A (wXO o ko q κ x) sz)) (va_A (wXO o ko q κ x) sz)) 1 6 (va_A (wXO o ko q κ x) sz) := by
  rcases Bool.eq_false_or_eq_true (wf_no a) with ea | ea
  · have e_ : wf_c2 (wf_no a || wf_no k || wf_no g || wf_no t) (decide (g = t)) = 1 := by simp [wf_c2, ea]
    rw [e_]
    exact c_L_divide_b1 l hst D q κ o ko x a k g t ea sz
  · obtain ⟨a_, ha, rfl⟩ := wf_no_is ea
    rcases Bool.eq_false_or_eq_true (wf_no k) with ek | ek
    · have e_ : wf_c2 (wf_no (nI a_) || wf_no k || wf_no g || wf_no t) (decide (g = t)) = 1 := by simp [wf_c2, ek, wf_no_ok ha]
      rw [e_]
      exact c_L_divide_b2 l hst D q κ o ko x a_ ha k g t ek sz
    · obtain ⟨k_, hk, rfl⟩ := wf_no_is ek
      rcases Bool.eq_false_or_eq_true (wf_no g) with eg | eg
      · have e_ : wf_c2 (wf_no (nI a_) || wf_no (nI k_) || wf_no g || wf_no t) (decide (g = t)) = 1 := by simp [wf_c2, eg, wf_no_ok ha, wf_no_ok hk]
        rw [e_]
        exact c_L_divide_b3 l hst D q κ o ko x a_ ha k_ hk g t eg sz
      · obtain ⟨g_, hg, rfl⟩ := wf_no_is eg
        rcases Bool.eq_false_or_eq_true (wf_no t) with et | et
        · have e_ : wf_c2 (wf_no (nI a_) || wf_no (nI k_) || wf_no (nI g_) || wf_no t) (decide ((nI g_) = t)) = 1 := by simp [wf_c2, et, wf_no_ok ha, wf_no_ok hk, wf_no_ok hg]
          rw [e_]
          exact c_L_divide_b4 l hst D q κ o ko x a_ ha k_ hk g_ hg t et sz
        · obtain ⟨t_, ht, rfl⟩ := wf_no_is et
          have eg : nI g_ = nI t_ := by simpa [wf_no_ok ha, wf_no_ok hk, wf_no_ok hg, wf_no_ok ht] using hbad
          have e_ : wf_c2 (wf_no (nI a_) || wf_no (nI k_) || wf_no (nI g_) || wf_no (nI t_)) (decide (nI g_ = nI t_)) = 2 := by simp [wf_c2, eg, wf_no_ok ha, wf_no_ok hk, wf_no_ok hg, wf_no_ok ht]
          rw [e_, ← eg]
          exact c_L_divide_same l hst D q κ o ko x a_ ha k_ hk g_ hg sz

set_option maxHeartbeats 4000000 in
set_option maxRecDepth 100000 in
theorem c_L_root_bad (l : Launch) (hst : l.stackTraces = false) (D : va_G) (q : Nat → Nat) (κ : Nat → ClassId) (o : Nat) (ko : ClassId) (x : (SX × (Nat → Int64))) (a : Int32) (g : Int32) (t : Int32) (hbad : ((wf_no a || wf_no g || wf_no t) || (decide (g = t))) = true) (sz : Nat) : Met l y_L_root (.codeWith y_L_root b_L_root 5 (some .int) [(0, 7, 10, 13), (0, 7, 14, 30)] :: wG) (wf_rm 8 200 1 6) (wf_PcO D vwCl (wXO o ko q κ x) (tyXO ko κ) ([.ref (q 0), .int a, .int g, .int t]) sz) (va_Qi (fun r v => r = wf_c2 (wf_no a || wf_no g || wf_no t) (decide (g = t)) ∧ v = x) (wf_B D vwCl (wXO o ko q κ) (tyXO ko κ) (va_A (wXO o ko q κ x) sz)) (va_A (wXO o ko q κ x) sz)) 1 6 (va_A (wXO o ko q κ x) sz) := by
  rcases Bool.eq_false_or_eq_true (wf_no a) with ea | ea
  · have e_ : wf_c2 (wf_no a || wf_no g || wf_no t) (decide (g = t)) = 1 := by simp [wf_c2, ea]
    rw [e_]
    exact c_L_root_b1 l hst D q κ o ko x a g t ea sz
  · obtain ⟨a_, ha, rfl⟩ := wf_no_is ea
    rcases Bool.eq_false_or_eq_true (wf_no g) with eg | eg
    · have e_ : wf_c2 (wf_no (nI a_) || wf_no g || wf_no t) (decide (g = t)) = 1 := by simp [wf_c2, eg, wf_no_ok ha]
      rw [e_]
      exact c_L_root_b2 l hst D q κ o ko x a_ ha g t eg sz
    · obtain ⟨g_, hg, rfl⟩ := wf_no_is eg
      rcases Bool.eq_false_or_eq_true (wf_no t) with et | et
      · have e_ : wf_c2 (wf_no (nI a_) || wf_no (nI g_) || wf_no t) (decide ((nI g_) = t)) = 1 := by simp [wf_c2, et, wf_no_ok ha, wf_no_ok hg]
        rw [e_]
        exact c_L_root_b3 l hst D q κ o ko x a_ ha g_ hg t et sz
      · obtain ⟨t_, ht, rfl⟩ := wf_no_is et
        have eg : nI g_ = nI t_ := by simpa [wf_no_ok ha, wf_no_ok hg, wf_no_ok ht] using hbad
        have e_ : wf_c2 (wf_no (nI a_) || wf_no (nI g_) || wf_no (nI t_)) (decide (nI g_ = nI t_)) = 2 := by simp [wf_c2, eg, wf_no_ok ha, wf_no_ok hg, wf_no_ok ht]
        rw [e_, ← eg]
        exact c_L_root_same l hst D q κ o ko x a_ ha g_ hg sz

set_option maxHeartbeats 4000000 in
set_option maxRecDepth 100000 in
theorem c_L_jam_bad (l : Launch) (hst : l.stackTraces = false) (D : va_G) (q : Nat → Nat) (κ : Nat → ClassId) (o : Nat) (ko : ClassId) (x : (SX × (Nat → Int64))) (a : Int32) (n : Int32) (t : Int32) (hbad : ((wf_no a || wf_no t) || (decide (n < 0))) = true) (sz : Nat) : Met l y_L_jam (.codeWith y_L_jam b_L_jam 5 (some .int) [(0, 7, 10, 13), (0, 7, 14, 30)] :: wG) (wf_rm 8 200 1 6) (wf_PcO D vwCl (wXO o ko q κ x) (tyXO ko κ) ([.ref (q 0), .int a, .int n, .int t]) sz) (va_Qi (fun r v => r = wf_c2 (wf_no a || wf_no t) (decide (n < 0)) ∧ v = x) (wf_B D vwCl (wXO o ko q κ) (tyXO ko κ) (va_A (wXO o ko q κ x) sz)) (va_A (wXO o ko q κ x) sz)) 1 6 (va_A (wXO o ko q κ x) sz) := by
  rcases Bool.eq_false_or_eq_true (wf_no a) with ea | ea
  · have e_ : wf_c2 (wf_no a || wf_no t) (decide (n < 0)) = 1 := by simp [wf_c2, ea]
    rw [e_]
    exact c_L_jam_b1 l hst D q κ o ko x a n t ea sz
  · obtain ⟨a_, ha, rfl⟩ := wf_no_is ea
    rcases Bool.eq_false_or_eq_true (wf_no t) with et | et
    · have e_ : wf_c2 (wf_no (nI a_) || wf_no t) (decide (n < 0)) = 1 := by simp [wf_c2, et, wf_no_ok ha]
      rw [e_]
      exact c_L_jam_b2 l hst D q κ o ko x a_ ha n t et sz
    · obtain ⟨t_, ht, rfl⟩ := wf_no_is et
      have eg : n < 0 := by simpa [wf_no_ok ha, wf_no_ok ht] using hbad
      have e_ : wf_c2 (wf_no (nI a_) || wf_no (nI t_)) (decide (n < 0)) = 2 := by simp [wf_c2, eg, wf_no_ok ha, wf_no_ok ht]
      rw [e_]
      exact c_L_jam_neg l hst D q κ o ko x a_ ha n eg t_ ht sz

set_option maxHeartbeats 4000000 in
set_option maxRecDepth 100000 in
theorem c_L_next_bad (l : Launch) (hst : l.stackTraces = false) (D : va_G) (q : Nat → Nat) (κ : Nat → ClassId) (o : Nat) (ko : ClassId) (x : (SX × (Nat → Int64))) (a : Int32) (d : Int32) (hbad : ((wf_no a) || (decide (d < 0) || decide (9 < d))) = true) (sz : Nat) : Met l y_L_next (.codeWith y_L_next b_L_next 5 (some .int) [(0, 17, 20, 13), (0, 17, 24, 30)] :: wG) (wf_rm 8 200 1 6) (wf_PcO D vwCl (wXO o ko q κ x) (tyXO ko κ) ([.ref (q 0), .int a, .int d, .ref o]) sz) (va_Qi (fun r v => r = wf_c2 (wf_no a) (decide (d < 0) || decide (9 < d)) ∧ v = x) (wf_B D vwCl (wXO o ko q κ) (tyXO ko κ) (va_A (wXO o ko q κ x) sz)) (va_A (wXO o ko q κ x) sz)) 1 6 (va_A (wXO o ko q κ x) sz) := by
  rcases Bool.eq_false_or_eq_true (wf_no a) with ea | ea
  · have e_ : wf_c2 (wf_no a) (decide (d < 0) || decide (9 < d)) = 1 := by simp [wf_c2, ea]
    rw [e_]
    exact c_L_next_b1 l hst D q κ o ko x a d ea sz
  · obtain ⟨a_, ha, rfl⟩ := wf_no_is ea
    have eg : (decide (d < 0) || decide (9 < d)) = true := by rw [wf_no_ok ha, Bool.false_or] at hbad; exact hbad
    have e_ : wf_c2 (wf_no (nI a_)) (decide (d < 0) || decide (9 < d)) = 2 := by rw [eg, wf_no_ok ha]; rfl
    rw [e_]
    exact c_L_next_digit l hst D q κ o ko x a_ ha d eg sz
