/-! ===== the two constructors ===== -/
theorem k_Object : Cond.code objectInit ⟨#[0xb1]⟩ 1 none ∈ wG := wG_in (List.mem_append_right _ (List.mem_append_left _ (List.mem_of_getElem? (i := 18) rfl))) rfl

set_option maxHeartbeats 4000000 in
set_option maxRecDepth 100000 in
/-- WideFractions() -/
theorem c_X_init (l : Launch) (D : va_G) (h0 sz : Nat) : Met l y_X_init (.code y_X_init b_X_init 1 none :: wG) (wf_rm 1 12 4 59) (wf_Pc D vwCl [(h0, .inr (0, [.null, .null, .null, .null, .int 0]))] [] [.ref h0] sz) (va_Qv (fun v : (Nat → Nat) × (Nat → ClassId) × SX => v.1 0 = h0 ∧ v.2.2 = ((fun _ => 0, fun _ => 0, fun _ => 0, fun _ => 0, 39) : SX)) (fun v t => va_P D vwCl (wX v.1 v.2.1 v.2.2) t.heap ∧ va_K D vwCl (tyX v.2.1) t ∧ va_D (va_A [(h0, .inr (0, [.null, .null, .null, .null, .int 0]))] sz) (wX v.1 v.2.1 v.2.2)) (va_A [(h0, .inr (0, [.null, .null, .null, .null, .int 0]))] sz)) 4 59 (va_A [(h0, .inr (0, [.null, .null, .null, .null, .int 0]))] sz) := by
  refine wf_open (by decide) (Nat.le_of_ble_eq_true rfl) k_X_init ?_
  intro p e s m below meth c ls hsz C hr hlocks hnm hex hP hK hD hl
  subst hsz
  have hx := C.1
  have hb := C.2.1
  have hml := C.2.2.1
  have hown := C.2.2.2.1
  have hts := C.2.2.2.2
  have hA : ∀ j : Nat, s.heap.size ≤ j → va_A ([(h0, .inr (0, [.null, .null, .null, .null, .int 0]))]) s.heap.size j := fun j h => Or.inr h
  have hS : va_S (va_A ([(h0, .inr (0, [.null, .null, .null, .null, .int 0]))]) s.heap.size) s.heap s.heap [] := va_S.rf
  generalize hAe : va_A ([(h0, .inr (0, [.null, .null, .null, .null, .int 0]))]) s.heap.size = A at hA hS hD ⊢
  have hl : lv_has ls 1 [(0, .ref (h0))] := hl
  refine lv_aload_n hx hb d_X_init_0 rfl (lv_at hl 0 rfl) ?_
  refine W.objInit hx hb hown (hts _ k_ml_X_1) (hts _ k_im_Object) (hts _ k_Object) rfl (by rw [hml]; exact hl.1) rfl d_X_init_1 (Nat.le_of_ble_eq_true rfl) (Nat.le_of_ble_eq_true rfl) ?_
  refine W.eq (g2 := F0 m 4 ls []) rfl ?_
  refine lv_aload_n hx hb d_X_init_4 rfl (lv_at hl 0 rfl) ?_
  refine lv_bipush (v := 8) hx hb d_X_init_5 (by decide) ?_
  refine va_newa (atype := .long) (ty := .long) (a0 := (8, .inr (.inl (fun _ => 0)))) (N' := 8) hx hb (hts _ k_ac_long) rfl hK hP hD hS hA (fun _ => rfl) (by decide) (by decide) (by decide) (Nat.le_of_ble_eq_true rfl) (Nat.le_of_ble_eq_true rfl) d_X_init_7 (fun q1 k1 H hK hP hD hS => ?_)
  have hP : va_P D vwCl [(h0, .inr (0, [.null, .null, .null, .null, .int 0])), (q1, .inl (k1, (8, .inr (.inl (fun _ => 0)))))] H := hP
  have hD : va_D A [(h0, .inr (0, [.null, .null, .null, .null, .int 0])), (q1, .inl (k1, (8, .inr (.inl (fun _ => 0)))))] := hD
  have hK : va_K D vwCl [(k1, .long)] s := hK
  refine W.widen (k := 1) (n := 8) (Nat.le_refl _) (Nat.le_refl _) ?_
  refine va_putF (D := D) (ci := 0) (v := .ref q1) (ty := .array .long) (C := RX) (T := FX) (N := 5) hx hb hts iX tX tX_ok nX hown hK hP hD hS 0 rfl rfl 0 (by decide) (hts _ k_fl_X_highs) (fun _ h9 => h9) rfl hnm rfl (by decide +kernel) rfl rfl (Nat.le_of_ble_eq_true rfl) d_X_init_9 (fun H locs hP hD hS => ?_)
  have hP : va_P D vwCl [(h0, .inr (0, [.ref q1, .null, .null, .null, .int 0])), (q1, .inl (k1, (8, .inr (.inl (fun _ => 0)))))] H := hP
  have hD : va_D A [(h0, .inr (0, [.ref q1, .null, .null, .null, .int 0])), (q1, .inl (k1, (8, .inr (.inl (fun _ => 0)))))] := hD
  refine lv_aload_n hx hb d_X_init_12 rfl (lv_at hl 0 rfl) ?_
  refine lv_bipush (v := 8) hx hb d_X_init_13 (by decide) ?_
  refine va_newa (atype := .long) (ty := .long) (a0 := (8, .inr (.inl (fun _ => 0)))) (N' := 8) hx hb (hts _ k_ac_long) rfl hK hP hD hS hA (fun _ => rfl) (by decide) (by decide) (by decide) (Nat.le_of_ble_eq_true rfl) (Nat.le_of_ble_eq_true rfl) d_X_init_15 (fun q2 k2 H hK hP hD hS => ?_)
  have hP : va_P D vwCl [(h0, .inr (0, [.ref q1, .null, .null, .null, .int 0])), (q1, .inl (k1, (8, .inr (.inl (fun _ => 0))))), (q2, .inl (k2, (8, .inr (.inl (fun _ => 0)))))] H := hP
  have hD : va_D A [(h0, .inr (0, [.ref q1, .null, .null, .null, .int 0])), (q1, .inl (k1, (8, .inr (.inl (fun _ => 0))))), (q2, .inl (k2, (8, .inr (.inl (fun _ => 0)))))] := hD
  have hK : va_K D vwCl [(k1, .long), (k2, .long)] s := hK
  refine W.widen (k := 2) (n := 16) (Nat.le_refl _) (Nat.le_refl _) ?_
  refine va_putF (D := D) (ci := 0) (v := .ref q2) (ty := .array .long) (C := RX) (T := FX) (N := 5) hx hb hts iX tX tX_ok nX hown hK hP hD hS 0 rfl rfl 1 (by decide) (hts _ k_fl_X_lows) (fun _ h9 => h9) rfl hnm rfl (by decide +kernel) rfl rfl (Nat.le_of_ble_eq_true rfl) d_X_init_17 (fun H locs hP hD hS => ?_)
  have hP : va_P D vwCl [(h0, .inr (0, [.ref q1, .ref q2, .null, .null, .int 0])), (q1, .inl (k1, (8, .inr (.inl (fun _ => 0))))), (q2, .inl (k2, (8, .inr (.inl (fun _ => 0)))))] H := hP
  have hD : va_D A [(h0, .inr (0, [.ref q1, .ref q2, .null, .null, .int 0])), (q1, .inl (k1, (8, .inr (.inl (fun _ => 0))))), (q2, .inl (k2, (8, .inr (.inl (fun _ => 0)))))] := hD
  refine lv_aload_n hx hb d_X_init_20 rfl (lv_at hl 0 rfl) ?_
  refine lv_iconst (v := 4) hx hb d_X_init_21 (by decide) ?_
  refine va_newa (atype := .long) (ty := .long) (a0 := (4, .inr (.inl (fun _ => 0)))) (N' := 4) hx hb (hts _ k_ac_long) rfl hK hP hD hS hA (fun _ => rfl) (by decide) (by decide) (by decide) (Nat.le_of_ble_eq_true rfl) (Nat.le_of_ble_eq_true rfl) d_X_init_22 (fun q3 k3 H hK hP hD hS => ?_)
  have hP : va_P D vwCl [(h0, .inr (0, [.ref q1, .ref q2, .null, .null, .int 0])), (q1, .inl (k1, (8, .inr (.inl (fun _ => 0))))), (q2, .inl (k2, (8, .inr (.inl (fun _ => 0))))), (q3, .inl (k3, (4, .inr (.inl (fun _ => 0)))))] H := hP
  have hD : va_D A [(h0, .inr (0, [.ref q1, .ref q2, .null, .null, .int 0])), (q1, .inl (k1, (8, .inr (.inl (fun _ => 0))))), (q2, .inl (k2, (8, .inr (.inl (fun _ => 0))))), (q3, .inl (k3, (4, .inr (.inl (fun _ => 0)))))] := hD
  have hK : va_K D vwCl [(k1, .long), (k2, .long), (k3, .long)] s := hK
  refine W.widen (k := 3) (n := 20) (Nat.le_refl _) (Nat.le_refl _) ?_
  refine va_putF (D := D) (ci := 0) (v := .ref q3) (ty := .array .long) (C := RX) (T := FX) (N := 5) hx hb hts iX tX tX_ok nX hown hK hP hD hS 0 rfl rfl 2 (by decide) (hts _ k_fl_X_parts) (fun _ h9 => h9) rfl hnm rfl (by decide +kernel) rfl rfl (Nat.le_of_ble_eq_true rfl) d_X_init_24 (fun H locs hP hD hS => ?_)
  have hP : va_P D vwCl [(h0, .inr (0, [.ref q1, .ref q2, .ref q3, .null, .int 0])), (q1, .inl (k1, (8, .inr (.inl (fun _ => 0))))), (q2, .inl (k2, (8, .inr (.inl (fun _ => 0))))), (q3, .inl (k3, (4, .inr (.inl (fun _ => 0)))))] H := hP
  have hD : va_D A [(h0, .inr (0, [.ref q1, .ref q2, .ref q3, .null, .int 0])), (q1, .inl (k1, (8, .inr (.inl (fun _ => 0))))), (q2, .inl (k2, (8, .inr (.inl (fun _ => 0))))), (q3, .inl (k3, (4, .inr (.inl (fun _ => 0)))))] := hD
  refine lv_aload_n hx hb d_X_init_27 rfl (lv_at hl 0 rfl) ?_
  refine lv_bipush (v := 39) hx hb d_X_init_28 (by decide) ?_
  refine va_newa (atype := .int) (ty := .int) (a0 := (39, .inl (fun _ => 0))) (N' := 39) hx hb (hts _ k_ac_int) rfl hK hP hD hS hA (fun _ => rfl) (by decide) (by decide) (by decide) (Nat.le_of_ble_eq_true rfl) (Nat.le_of_ble_eq_true rfl) d_X_init_30 (fun q4 k4 H hK hP hD hS => ?_)
  have hP : va_P D vwCl [(h0, .inr (0, [.ref q1, .ref q2, .ref q3, .null, .int 0])), (q1, .inl (k1, (8, .inr (.inl (fun _ => 0))))), (q2, .inl (k2, (8, .inr (.inl (fun _ => 0))))), (q3, .inl (k3, (4, .inr (.inl (fun _ => 0))))), (q4, .inl (k4, (39, .inl (fun _ => 0))))] H := hP
  have hD : va_D A [(h0, .inr (0, [.ref q1, .ref q2, .ref q3, .null, .int 0])), (q1, .inl (k1, (8, .inr (.inl (fun _ => 0))))), (q2, .inl (k2, (8, .inr (.inl (fun _ => 0))))), (q3, .inl (k3, (4, .inr (.inl (fun _ => 0))))), (q4, .inl (k4, (39, .inl (fun _ => 0))))] := hD
  have hK : va_K D vwCl [(k1, .long), (k2, .long), (k3, .long), (k4, .int)] s := hK
  refine W.widen (k := 4) (n := 59) (Nat.le_refl _) (Nat.le_refl _) ?_
  refine va_putF (D := D) (ci := 0) (v := .ref q4) (ty := .array .int) (C := RX) (T := FX) (N := 5) hx hb hts iX tX tX_ok nX hown hK hP hD hS 0 rfl rfl 3 (by decide) (hts _ k_fl_X_digitRow) (fun _ h9 => h9) rfl hnm rfl (by decide +kernel) rfl rfl (Nat.le_of_ble_eq_true rfl) d_X_init_32 (fun H locs hP hD hS => ?_)
  have hP : va_P D vwCl [(h0, .inr (0, [.ref q1, .ref q2, .ref q3, .ref q4, .int 0])), (q1, .inl (k1, (8, .inr (.inl (fun _ => 0))))), (q2, .inl (k2, (8, .inr (.inl (fun _ => 0))))), (q3, .inl (k3, (4, .inr (.inl (fun _ => 0))))), (q4, .inl (k4, (39, .inl (fun _ => 0))))] H := hP
  have hD : va_D A [(h0, .inr (0, [.ref q1, .ref q2, .ref q3, .ref q4, .int 0])), (q1, .inl (k1, (8, .inr (.inl (fun _ => 0))))), (q2, .inl (k2, (8, .inr (.inl (fun _ => 0))))), (q3, .inl (k3, (4, .inr (.inl (fun _ => 0))))), (q4, .inl (k4, (39, .inl (fun _ => 0))))] := hD
  refine lv_aload_n hx hb d_X_init_35 rfl (lv_at hl 0 rfl) ?_
  refine lv_bipush (v := 39) hx hb d_X_init_36 (by decide) ?_
  refine pX_first C hK hP hD hS 0 rfl (Nat.le_of_ble_eq_true rfl) d_X_init_38 (fun H locs hP hD hS => ?_)
  have hP : va_P D vwCl [(h0, .inr (0, [.ref q1, .ref q2, .ref q3, .ref q4, .int 39])), (q1, .inl (k1, (8, .inr (.inl (fun _ => 0))))), (q2, .inl (k2, (8, .inr (.inl (fun _ => 0))))), (q3, .inl (k3, (4, .inr (.inl (fun _ => 0))))), (q4, .inl (k4, (39, .inl (fun _ => 0))))] H := hP
  have hD : va_D A [(h0, .inr (0, [.ref q1, .ref q2, .ref q3, .ref q4, .int 39])), (q1, .inl (k1, (8, .inr (.inl (fun _ => 0))))), (q2, .inl (k2, (8, .inr (.inl (fun _ => 0))))), (q3, .inl (k3, (4, .inr (.inl (fun _ => 0))))), (q4, .inl (k4, (39, .inl (fun _ => 0))))] := hD
  exact W.vret hx hb hr (fun t ht hW => ⟨⟨((fun k => match k with | 0 => h0 | 1 => q1 | 2 => q2 | 3 => q3 | _ => q4), (fun k => match k with | 1 => k1 | 2 => k2 | 3 => k3 | _ => k4), ((fun _ => 0, fun _ => 0, fun _ => 0, fun _ => 0, 39) : SX)), rfl, ⟨rfl, rfl⟩, by rw [ht]; exact hP, va_K.moved hW.alike hK, hD⟩, hS.F ht⟩) (fun q h => hS.2.2 q h) d_X_init_41 hlocks

set_option maxHeartbeats 4000000 in
set_option maxRecDepth 100000 in
/-- WideFractionsModel() -/
theorem c_M_init (l : Launch) (D : va_G) (h0 sz : Nat) : Met l y_M_init (.code y_M_init b_M_init 1 none :: wG) (wf_rm 1 12 5 1833) (wf_Pc D vwCl [(h0, .inr (1, [.int 0, .null, .null, .null, .null, .null, .int 0]))] [] [.ref h0] sz) (va_Qv (fun v : (Nat → Nat) × (Nat → ClassId) × SM => v.1 0 = h0 ∧ v.2.2 = ((0, fun _ => false, fun _ => false, fun _ => false, fun _ => false, fun _ => 0, 0) : SM)) (fun v t => va_P D vwCl (wM v.1 v.2.1 v.2.2) t.heap ∧ va_K D vwCl (tyM v.2.1) t ∧ va_D (va_A [(h0, .inr (1, [.int 0, .null, .null, .null, .null, .null, .int 0]))] sz) (wM v.1 v.2.1 v.2.2)) (va_A [(h0, .inr (1, [.int 0, .null, .null, .null, .null, .null, .int 0]))] sz)) 5 1833 (va_A [(h0, .inr (1, [.int 0, .null, .null, .null, .null, .null, .int 0]))] sz) := by
  refine wf_open (by decide) (Nat.le_of_ble_eq_true rfl) k_M_init ?_
  intro p e s m below meth c ls hsz C hr hlocks hnm hex hP hK hD hl
  subst hsz
  have hx := C.1
  have hb := C.2.1
  have hml := C.2.2.1
  have hown := C.2.2.2.1
  have hts := C.2.2.2.2
  have hA : ∀ j : Nat, s.heap.size ≤ j → va_A ([(h0, .inr (1, [.int 0, .null, .null, .null, .null, .null, .int 0]))]) s.heap.size j := fun j h => Or.inr h
  have hS : va_S (va_A ([(h0, .inr (1, [.int 0, .null, .null, .null, .null, .null, .int 0]))]) s.heap.size) s.heap s.heap [] := va_S.rf
  generalize hAe : va_A ([(h0, .inr (1, [.int 0, .null, .null, .null, .null, .null, .int 0]))]) s.heap.size = A at hA hS hD ⊢
  have hl : lv_has ls 1 [(0, .ref (h0))] := hl
  refine lv_aload_n hx hb d_M_init_0 rfl (lv_at hl 0 rfl) ?_
  refine W.objInit hx hb hown (hts _ k_ml_M_1) (hts _ k_im_Object) (hts _ k_Object) rfl (by rw [hml]; exact hl.1) rfl d_M_init_1 (Nat.le_of_ble_eq_true rfl) (Nat.le_of_ble_eq_true rfl) ?_
  refine W.eq (g2 := F0 m 4 ls []) rfl ?_
  refine lv_aload_n hx hb d_M_init_4 rfl (lv_at hl 0 rfl) ?_
  refine lv_sipush (v := 1280) hx hb d_M_init_5 (by decide) ?_
  refine va_newa (atype := .boolean) (ty := .boolean) (a0 := (1280, .inl (fun _ => wf_bi false))) (N' := 1280) hx hb (hts _ k_ac_boolean) rfl hK hP hD hS hA (fun _ => rfl) (by decide) (by decide) (by decide) (Nat.le_of_ble_eq_true rfl) (Nat.le_of_ble_eq_true rfl) d_M_init_8 (fun q1 k1 H hK hP hD hS => ?_)
  have hP : va_P D vwCl [(h0, .inr (1, [.int 0, .null, .null, .null, .null, .null, .int 0])), (q1, .inl (k1, (1280, .inl (fun _ => wf_bi false))))] H := hP
  have hD : va_D A [(h0, .inr (1, [.int 0, .null, .null, .null, .null, .null, .int 0])), (q1, .inl (k1, (1280, .inl (fun _ => wf_bi false))))] := hD
  have hK : va_K D vwCl [(k1, .boolean)] s := hK
  refine W.widen (k := 1) (n := 1280) (Nat.le_refl _) (Nat.le_refl _) ?_
  refine va_putF (D := D) (ci := 1) (v := .ref q1) (ty := .array .boolean) (C := RM) (T := FM) (N := 7) hx hb hts iM tM tM_ok nM hown hK hP hD hS 0 rfl rfl 1 (by decide) (hts _ k_fl_M_bits) (fun _ h9 => h9) rfl hnm rfl (by decide +kernel) rfl rfl (Nat.le_of_ble_eq_true rfl) d_M_init_10 (fun H locs hP hD hS => ?_)
  have hP : va_P D vwCl [(h0, .inr (1, [.int 0, .ref q1, .null, .null, .null, .null, .int 0])), (q1, .inl (k1, (1280, .inl (fun _ => wf_bi false))))] H := hP
  have hD : va_D A [(h0, .inr (1, [.int 0, .ref q1, .null, .null, .null, .null, .int 0])), (q1, .inl (k1, (1280, .inl (fun _ => wf_bi false))))] := hD
  refine lv_aload_n hx hb d_M_init_13 rfl (lv_at hl 0 rfl) ?_
  refine lv_sipush (v := 256) hx hb d_M_init_14 (by decide) ?_
  refine va_newa (atype := .boolean) (ty := .boolean) (a0 := (256, .inl (fun _ => wf_bi false))) (N' := 256) hx hb (hts _ k_ac_boolean) rfl hK hP hD hS hA (fun _ => rfl) (by decide) (by decide) (by decide) (Nat.le_of_ble_eq_true rfl) (Nat.le_of_ble_eq_true rfl) d_M_init_17 (fun q2 k2 H hK hP hD hS => ?_)
  have hP : va_P D vwCl [(h0, .inr (1, [.int 0, .ref q1, .null, .null, .null, .null, .int 0])), (q1, .inl (k1, (1280, .inl (fun _ => wf_bi false)))), (q2, .inl (k2, (256, .inl (fun _ => wf_bi false))))] H := hP
  have hD : va_D A [(h0, .inr (1, [.int 0, .ref q1, .null, .null, .null, .null, .int 0])), (q1, .inl (k1, (1280, .inl (fun _ => wf_bi false)))), (q2, .inl (k2, (256, .inl (fun _ => wf_bi false))))] := hD
  have hK : va_K D vwCl [(k1, .boolean), (k2, .boolean)] s := hK
  refine W.widen (k := 2) (n := 1536) (Nat.le_refl _) (Nat.le_refl _) ?_
  refine va_putF (D := D) (ci := 1) (v := .ref q2) (ty := .array .boolean) (C := RM) (T := FM) (N := 7) hx hb hts iM tM tM_ok nM hown hK hP hD hS 0 rfl rfl 2 (by decide) (hts _ k_fl_M_product) (fun _ h9 => h9) rfl hnm rfl (by decide +kernel) rfl rfl (Nat.le_of_ble_eq_true rfl) d_M_init_19 (fun H locs hP hD hS => ?_)
  have hP : va_P D vwCl [(h0, .inr (1, [.int 0, .ref q1, .ref q2, .null, .null, .null, .int 0])), (q1, .inl (k1, (1280, .inl (fun _ => wf_bi false)))), (q2, .inl (k2, (256, .inl (fun _ => wf_bi false))))] H := hP
  have hD : va_D A [(h0, .inr (1, [.int 0, .ref q1, .ref q2, .null, .null, .null, .int 0])), (q1, .inl (k1, (1280, .inl (fun _ => wf_bi false)))), (q2, .inl (k2, (256, .inl (fun _ => wf_bi false))))] := hD
  refine lv_aload_n hx hb d_M_init_22 rfl (lv_at hl 0 rfl) ?_
  refine lv_sipush (v := 128) hx hb d_M_init_23 (by decide) ?_
  refine va_newa (atype := .boolean) (ty := .boolean) (a0 := (128, .inl (fun _ => wf_bi false))) (N' := 128) hx hb (hts _ k_ac_boolean) rfl hK hP hD hS hA (fun _ => rfl) (by decide) (by decide) (by decide) (Nat.le_of_ble_eq_true rfl) (Nat.le_of_ble_eq_true rfl) d_M_init_26 (fun q3 k3 H hK hP hD hS => ?_)
  have hP : va_P D vwCl [(h0, .inr (1, [.int 0, .ref q1, .ref q2, .null, .null, .null, .int 0])), (q1, .inl (k1, (1280, .inl (fun _ => wf_bi false)))), (q2, .inl (k2, (256, .inl (fun _ => wf_bi false)))), (q3, .inl (k3, (128, .inl (fun _ => wf_bi false))))] H := hP
  have hD : va_D A [(h0, .inr (1, [.int 0, .ref q1, .ref q2, .null, .null, .null, .int 0])), (q1, .inl (k1, (1280, .inl (fun _ => wf_bi false)))), (q2, .inl (k2, (256, .inl (fun _ => wf_bi false)))), (q3, .inl (k3, (128, .inl (fun _ => wf_bi false))))] := hD
  have hK : va_K D vwCl [(k1, .boolean), (k2, .boolean), (k3, .boolean)] s := hK
  refine W.widen (k := 3) (n := 1664) (Nat.le_refl _) (Nat.le_refl _) ?_
  refine va_putF (D := D) (ci := 1) (v := .ref q3) (ty := .array .boolean) (C := RM) (T := FM) (N := 7) hx hb hts iM tM tM_ok nM hown hK hP hD hS 0 rfl rfl 3 (by decide) (hts _ k_fl_M_answer) (fun _ h9 => h9) rfl hnm rfl (by decide +kernel) rfl rfl (Nat.le_of_ble_eq_true rfl) d_M_init_28 (fun H locs hP hD hS => ?_)
  have hP : va_P D vwCl [(h0, .inr (1, [.int 0, .ref q1, .ref q2, .ref q3, .null, .null, .int 0])), (q1, .inl (k1, (1280, .inl (fun _ => wf_bi false)))), (q2, .inl (k2, (256, .inl (fun _ => wf_bi false)))), (q3, .inl (k3, (128, .inl (fun _ => wf_bi false))))] H := hP
  have hD : va_D A [(h0, .inr (1, [.int 0, .ref q1, .ref q2, .ref q3, .null, .null, .int 0])), (q1, .inl (k1, (1280, .inl (fun _ => wf_bi false)))), (q2, .inl (k2, (256, .inl (fun _ => wf_bi false)))), (q3, .inl (k3, (128, .inl (fun _ => wf_bi false))))] := hD
  refine lv_aload_n hx hb d_M_init_31 rfl (lv_at hl 0 rfl) ?_
  refine lv_sipush (v := 130) hx hb d_M_init_32 (by decide) ?_
  refine va_newa (atype := .boolean) (ty := .boolean) (a0 := (130, .inl (fun _ => wf_bi false))) (N' := 130) hx hb (hts _ k_ac_boolean) rfl hK hP hD hS hA (fun _ => rfl) (by decide) (by decide) (by decide) (Nat.le_of_ble_eq_true rfl) (Nat.le_of_ble_eq_true rfl) d_M_init_35 (fun q4 k4 H hK hP hD hS => ?_)
  have hP : va_P D vwCl [(h0, .inr (1, [.int 0, .ref q1, .ref q2, .ref q3, .null, .null, .int 0])), (q1, .inl (k1, (1280, .inl (fun _ => wf_bi false)))), (q2, .inl (k2, (256, .inl (fun _ => wf_bi false)))), (q3, .inl (k3, (128, .inl (fun _ => wf_bi false)))), (q4, .inl (k4, (130, .inl (fun _ => wf_bi false))))] H := hP
  have hD : va_D A [(h0, .inr (1, [.int 0, .ref q1, .ref q2, .ref q3, .null, .null, .int 0])), (q1, .inl (k1, (1280, .inl (fun _ => wf_bi false)))), (q2, .inl (k2, (256, .inl (fun _ => wf_bi false)))), (q3, .inl (k3, (128, .inl (fun _ => wf_bi false)))), (q4, .inl (k4, (130, .inl (fun _ => wf_bi false))))] := hD
  have hK : va_K D vwCl [(k1, .boolean), (k2, .boolean), (k3, .boolean), (k4, .boolean)] s := hK
  refine W.widen (k := 4) (n := 1794) (Nat.le_refl _) (Nat.le_refl _) ?_
  refine va_putF (D := D) (ci := 1) (v := .ref q4) (ty := .array .boolean) (C := RM) (T := FM) (N := 7) hx hb hts iM tM tM_ok nM hown hK hP hD hS 0 rfl rfl 4 (by decide) (hts _ k_fl_M_rest) (fun _ h9 => h9) rfl hnm rfl (by decide +kernel) rfl rfl (Nat.le_of_ble_eq_true rfl) d_M_init_37 (fun H locs hP hD hS => ?_)
  have hP : va_P D vwCl [(h0, .inr (1, [.int 0, .ref q1, .ref q2, .ref q3, .ref q4, .null, .int 0])), (q1, .inl (k1, (1280, .inl (fun _ => wf_bi false)))), (q2, .inl (k2, (256, .inl (fun _ => wf_bi false)))), (q3, .inl (k3, (128, .inl (fun _ => wf_bi false)))), (q4, .inl (k4, (130, .inl (fun _ => wf_bi false))))] H := hP
  have hD : va_D A [(h0, .inr (1, [.int 0, .ref q1, .ref q2, .ref q3, .ref q4, .null, .int 0])), (q1, .inl (k1, (1280, .inl (fun _ => wf_bi false)))), (q2, .inl (k2, (256, .inl (fun _ => wf_bi false)))), (q3, .inl (k3, (128, .inl (fun _ => wf_bi false)))), (q4, .inl (k4, (130, .inl (fun _ => wf_bi false))))] := hD
  refine lv_aload_n hx hb d_M_init_40 rfl (lv_at hl 0 rfl) ?_
  refine lv_bipush (v := 39) hx hb d_M_init_41 (by decide) ?_
  refine va_newa (atype := .int) (ty := .int) (a0 := (39, .inl (fun _ => 0))) (N' := 39) hx hb (hts _ k_ac_int) rfl hK hP hD hS hA (fun _ => rfl) (by decide) (by decide) (by decide) (Nat.le_of_ble_eq_true rfl) (Nat.le_of_ble_eq_true rfl) d_M_init_43 (fun q5 k5 H hK hP hD hS => ?_)
  have hP : va_P D vwCl [(h0, .inr (1, [.int 0, .ref q1, .ref q2, .ref q3, .ref q4, .null, .int 0])), (q1, .inl (k1, (1280, .inl (fun _ => wf_bi false)))), (q2, .inl (k2, (256, .inl (fun _ => wf_bi false)))), (q3, .inl (k3, (128, .inl (fun _ => wf_bi false)))), (q4, .inl (k4, (130, .inl (fun _ => wf_bi false)))), (q5, .inl (k5, (39, .inl (fun _ => 0))))] H := hP
  have hD : va_D A [(h0, .inr (1, [.int 0, .ref q1, .ref q2, .ref q3, .ref q4, .null, .int 0])), (q1, .inl (k1, (1280, .inl (fun _ => wf_bi false)))), (q2, .inl (k2, (256, .inl (fun _ => wf_bi false)))), (q3, .inl (k3, (128, .inl (fun _ => wf_bi false)))), (q4, .inl (k4, (130, .inl (fun _ => wf_bi false)))), (q5, .inl (k5, (39, .inl (fun _ => 0))))] := hD
  have hK : va_K D vwCl [(k1, .boolean), (k2, .boolean), (k3, .boolean), (k4, .boolean), (k5, .int)] s := hK
  refine W.widen (k := 5) (n := 1833) (Nat.le_refl _) (Nat.le_refl _) ?_
  refine va_putF (D := D) (ci := 1) (v := .ref q5) (ty := .array .int) (C := RM) (T := FM) (N := 7) hx hb hts iM tM tM_ok nM hown hK hP hD hS 0 rfl rfl 5 (by decide) (hts _ k_fl_M_digits) (fun _ h9 => h9) rfl hnm rfl (by decide +kernel) rfl rfl (Nat.le_of_ble_eq_true rfl) d_M_init_45 (fun H locs hP hD hS => ?_)
  have hP : va_P D vwCl [(h0, .inr (1, [.int 0, .ref q1, .ref q2, .ref q3, .ref q4, .ref q5, .int 0])), (q1, .inl (k1, (1280, .inl (fun _ => wf_bi false)))), (q2, .inl (k2, (256, .inl (fun _ => wf_bi false)))), (q3, .inl (k3, (128, .inl (fun _ => wf_bi false)))), (q4, .inl (k4, (130, .inl (fun _ => wf_bi false)))), (q5, .inl (k5, (39, .inl (fun _ => 0))))] H := hP
  have hD : va_D A [(h0, .inr (1, [.int 0, .ref q1, .ref q2, .ref q3, .ref q4, .ref q5, .int 0])), (q1, .inl (k1, (1280, .inl (fun _ => wf_bi false)))), (q2, .inl (k2, (256, .inl (fun _ => wf_bi false)))), (q3, .inl (k3, (128, .inl (fun _ => wf_bi false)))), (q4, .inl (k4, (130, .inl (fun _ => wf_bi false)))), (q5, .inl (k5, (39, .inl (fun _ => 0))))] := hD
  exact W.vret hx hb hr (fun t ht hW => ⟨⟨((fun k => match k with | 0 => h0 | 1 => q1 | 2 => q2 | 3 => q3 | 4 => q4 | _ => q5), (fun k => match k with | 1 => k1 | 2 => k2 | 3 => k3 | 4 => k4 | _ => k5), ((0, fun _ => false, fun _ => false, fun _ => false, fun _ => false, fun _ => 0, 0) : SM)), rfl, ⟨rfl, rfl⟩, by rw [ht]; exact hP, va_K.moved hW.alike hK, hD⟩, hS.F ht⟩) (fun q h => hS.2.2 q h) d_M_init_48 hlocks
