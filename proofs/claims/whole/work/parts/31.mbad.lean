/-! ===== the reference where it refuses ===== -/
/-- the code: a register that is none before all else -/
def wf_c2 (n e : Bool) : Int32 := if n then 1 else if e then 2 else 0
theorem wf_c2_pos {n e : Bool} (h : (n || e) = true) : ¬ wf_c2 n e ≤ 0 := by revert h; cases n <;> cases e <;> decide
theorem wf_c2_ne {n e : Bool} (h : (n || e) = true) : ¬ wf_c2 n e = 0 := by revert h; cases n <;> cases e <;> decide

set_option maxHeartbeats 4000000 in
set_option maxRecDepth 100000 in
/-- M_set -/
theorem c_M_setBad (l : Launch) (D : va_G) (q : Nat → Nat) (κ : Nat → ClassId) (u : SM) (a : Int32) (h : Int64) (lo : Int64) (hbad : ((wf_no a) || (false)) = true) (sz : Nat) : Met l y_M_set (.code y_M_set b_M_set 7 none :: wG) (wf_rm 1 30 0 0) (wf_Pc D vwCl (wM q κ u) (tyM κ) ([.ref (q 0), .int a, .long h, .long lo]) sz) (va_Qv (fun v => v = (wf_c2 (wf_no a) (false), u.2)) (wf_B D vwCl (wM q κ) (tyM κ) (va_A (wM q κ u) sz)) (va_A (wM q κ u) sz)) 0 0 (va_A (wM q κ u) sz) := by
  refine wf_open (by decide) (Nat.le_of_ble_eq_true rfl) k_M_set ?_
  intro p e s m below meth c ls hsz C hr hlocks hnm hex hP hK hD hl
  subst hsz
  have hx := C.1
  have hb := C.2.1
  have hml := C.2.2.1
  have hown := C.2.2.2.1
  have hts := C.2.2.2.2
  have hA : ∀ j : Nat, s.heap.size ≤ j → va_A (wM q κ u) s.heap.size j := fun j h => Or.inr h
  have hS : va_S (va_A (wM q κ u) s.heap.size) s.heap s.heap [] := va_S.rf
  generalize hAe : va_A (wM q κ u) s.heap.size = A at hA hS hD ⊢
  have hl : lv_has ls 7 [(0, .ref (q 0)), (1, .int (a)), (2, .long (h)), (4, .long (lo))] := hl
  refine lv_aload_n hx hb d_M_set_0 rfl (lv_at hl 0 rfl) ?_
  refine wf_cutI (pcj := 13) (ls := ls) (rest := [.ref (q 0)]) (fun z => z = wf_c2 (wf_no a) (false)) (fun z_1 ez_1 => ?_) (fun jn => ?_)
  · subst ez_1
    refine pM_code C hK hP hD hS 0 rfl (Nat.le_of_ble_eq_true rfl) d_M_set_13 (fun H locs hP hD hS => ?_)
    have hP : va_P D vwCl (wM q κ (wf_c2 (wf_no a) (false), u.2)) H := hP
    have hD : va_D A (wM q κ (wf_c2 (wf_no a) (false), u.2)) := hD
    generalize eu_2 : ((wf_c2 (wf_no a) (false), u.2) : SM) = u_2 at hP hD
    refine lv_iconst (v := 0) hx hb d_M_set_16 (by decide) ?_
    refine lv_istore (lv' := [(6, .int (0)), (0, .ref (q 0)), (1, .int (a)), (2, .long (h)), (4, .long (lo))]) hx hb d_M_set_17 hl (by decide) rfl (fun ls hl => ?_)
    refine lv_iload hx hb d_M_set_19 (lv_at hl 0 rfl) ?_
    refine lv_sipush (v := 128) hx hb d_M_set_21 (by decide) ?_
    refine lv_icmp_ge (tgt := 87) hx hb d_M_set_24 (by decide) (fun c_3 => False.elim (absurd c_3 (by decide))) (fun _ => ?_)
    refine lv_aload_n hx hb d_M_set_27 rfl (lv_at hl 1 rfl) ?_
    refine gM C hK hP 0 rfl 0 (by decide) k_fl_M_code rfl d_M_set_28 ?_
    refine lv_if_ne (tgt := 87) hx hb d_M_set_31 (by decide) (fun c_4 => ?_) (fun c_4 => False.elim (by first | exact absurd (by rw [← eu_2]; exact wf_c2_ne hbad) c_4 | exact absurd c_4 (by rw [← eu_2]; exact wf_c2_ne hbad)))
    exact wf_retv C hr hlocks u_2 (by first | exact eu_2.symm | rfl) hP hK hD hS (fun _ h => h) d_M_set_87
  · refine lv_iload_n hx hb d_M_set_1 rfl (lv_at hl 1 rfl) ?_
    refine kM_none C hl.1 ⟨Nat.le_of_ble_eq_true rfl, Nat.le_of_ble_eq_true rfl⟩ (Nat.le_of_ble_eq_true rfl) ⟨Nat.le_of_ble_eq_true rfl, Nat.le_of_ble_eq_true rfl⟩ d_M_set_2 ?_
    refine lv_if_eq (tgt := 12) hx hb d_M_set_5 (by decide) (fun c_5 => ?_) (fun c_5 => ?_)
    · refine lv_iconst (v := 0) hx hb d_M_set_12 (by decide) ?_
      exact jn _ (by revert c_5; cases (wf_no a) <;> decide)
    · refine lv_iconst (v := 1) hx hb d_M_set_8 (by decide) ?_
      refine lv_goto (tgt := 13) hx hb d_M_set_9 (by decide) ?_
      exact jn _ (by revert c_5; cases (wf_no a) <;> decide)

set_option maxHeartbeats 4000000 in
set_option maxRecDepth 100000 in
/-- M_half -/
theorem c_M_halfBad (l : Launch) (D : va_G) (q : Nat → Nat) (κ : Nat → ClassId) (u : SM) (a : Int32) (z : Int32) (hbad : ((wf_no a) || (false)) = true) (sz : Nat) : Met l y_M_half (.code y_M_half b_M_half 6 (some .long) :: wG) (wf_rm 1 30 0 0) (wf_Pc D vwCl (wM q κ u) (tyM κ) ([.ref (q 0), .int a, .int z]) sz) (va_Ql (fun r v => v = (wf_c2 (wf_no a) (false), u.2)) (wf_B D vwCl (wM q κ) (tyM κ) (va_A (wM q κ u) sz)) (va_A (wM q κ u) sz)) 0 0 (va_A (wM q κ u) sz) := by
  refine wf_open (by decide) (Nat.le_of_ble_eq_true rfl) k_M_half ?_
  intro p e s m below meth c ls hsz C hr hlocks hnm hex hP hK hD hl
  subst hsz
  have hx := C.1
  have hb := C.2.1
  have hml := C.2.2.1
  have hown := C.2.2.2.1
  have hts := C.2.2.2.2
  have hA : ∀ j : Nat, s.heap.size ≤ j → va_A (wM q κ u) s.heap.size j := fun j h => Or.inr h
  have hS : va_S (va_A (wM q κ u) s.heap.size) s.heap s.heap [] := va_S.rf
  generalize hAe : va_A (wM q κ u) s.heap.size = A at hA hS hD ⊢
  have hl : lv_has ls 6 [(0, .ref (q 0)), (1, .int (a)), (2, .int (z))] := hl
  refine lv_aload_n hx hb d_M_half_0 rfl (lv_at hl 0 rfl) ?_
  refine wf_cutI (pcj := 13) (ls := ls) (rest := [.ref (q 0)]) (fun z => z = wf_c2 (wf_no a) (false)) (fun z_1 ez_1 => ?_) (fun jn => ?_)
  · subst ez_1
    refine pM_code C hK hP hD hS 0 rfl (Nat.le_of_ble_eq_true rfl) d_M_half_13 (fun H locs hP hD hS => ?_)
    have hP : va_P D vwCl (wM q κ (wf_c2 (wf_no a) (false), u.2)) H := hP
    have hD : va_D A (wM q κ (wf_c2 (wf_no a) (false), u.2)) := hD
    generalize eu_2 : ((wf_c2 (wf_no a) (false), u.2) : SM) = u_2 at hP hD
    refine lv_lconst (v := 0) hx hb d_M_half_16 (by decide) ?_
    refine lv_lstore_n (lv' := [(3, .long (0)), (0, .ref (q 0)), (1, .int (a)), (2, .int (z))]) hx hb d_M_half_17 rfl hl (by decide) rfl (fun ls hl => ?_)
    refine lv_bipush (v := 63) hx hb d_M_half_18 (by decide) ?_
    refine lv_istore (lv' := [(5, .int (63)), (3, .long (0)), (0, .ref (q 0)), (1, .int (a)), (2, .int (z))]) hx hb d_M_half_20 hl (by decide) rfl (fun ls hl => ?_)
    refine lv_iload hx hb d_M_half_22 (lv_at hl 0 rfl) ?_
    refine lv_if_lt (tgt := 79) hx hb d_M_half_24 (by decide) (fun c_3 => False.elim (absurd c_3 (by decide))) (fun _ => ?_)
    refine lv_aload_n hx hb d_M_half_27 rfl (lv_at hl 2 rfl) ?_
    refine gM C hK hP 0 rfl 0 (by decide) k_fl_M_code rfl d_M_half_28 ?_
    refine lv_if_ne (tgt := 79) hx hb d_M_half_31 (by decide) (fun c_4 => ?_) (fun c_4 => False.elim (by first | exact absurd (by rw [← eu_2]; exact wf_c2_ne hbad) c_4 | exact absurd c_4 (by rw [← eu_2]; exact wf_c2_ne hbad)))
    refine lv_lload_n hx hb d_M_half_79 rfl (lv_at hl 1 rfl) ?_
    exact wf_retl C hr hlocks u_2 (by first | exact eu_2.symm | rfl) hP hK hD hS (fun _ h => h) d_M_half_80
  · refine lv_iload_n hx hb d_M_half_1 rfl (lv_at hl 1 rfl) ?_
    refine kM_none C hl.1 ⟨Nat.le_of_ble_eq_true rfl, Nat.le_of_ble_eq_true rfl⟩ (Nat.le_of_ble_eq_true rfl) ⟨Nat.le_of_ble_eq_true rfl, Nat.le_of_ble_eq_true rfl⟩ d_M_half_2 ?_
    refine lv_if_eq (tgt := 12) hx hb d_M_half_5 (by decide) (fun c_5 => ?_) (fun c_5 => ?_)
    · refine lv_iconst (v := 0) hx hb d_M_half_12 (by decide) ?_
      exact jn _ (by revert c_5; cases (wf_no a) <;> decide)
    · refine lv_iconst (v := 1) hx hb d_M_half_8 (by decide) ?_
      refine lv_goto (tgt := 13) hx hb d_M_half_9 (by decide) ?_
      exact jn _ (by revert c_5; cases (wf_no a) <;> decide)

set_option maxHeartbeats 4000000 in
set_option maxRecDepth 100000 in
/-- M_add -/
theorem c_M_addBad (l : Launch) (D : va_G) (q : Nat → Nat) (κ : Nat → ClassId) (u : SM) (a : Int32) (b : Int32) (t : Int32) (hbad : ((wf_no a || wf_no b || wf_no t) || (false)) = true) (sz : Nat) : Met l y_M_add (.code y_M_add b_M_add 5 (some .boolean) :: wG) (wf_rm 1 30 0 0) (wf_Pc D vwCl (wM q κ u) (tyM κ) ([.ref (q 0), .int a, .int b, .int t]) sz) (va_Qi (fun r v => v = (wf_c2 (wf_no a || wf_no b || wf_no t) (false), u.2)) (wf_B D vwCl (wM q κ) (tyM κ) (va_A (wM q κ u) sz)) (va_A (wM q κ u) sz)) 0 0 (va_A (wM q κ u) sz) := by
  refine wf_open (by decide) (Nat.le_of_ble_eq_true rfl) k_M_add ?_
  intro p e s m below meth c ls hsz C hr hlocks hnm hex hP hK hD hl
  subst hsz
  have hx := C.1
  have hb := C.2.1
  have hml := C.2.2.1
  have hown := C.2.2.2.1
  have hts := C.2.2.2.2
  have hA : ∀ j : Nat, s.heap.size ≤ j → va_A (wM q κ u) s.heap.size j := fun j h => Or.inr h
  have hS : va_S (va_A (wM q κ u) s.heap.size) s.heap s.heap [] := va_S.rf
  generalize hAe : va_A (wM q κ u) s.heap.size = A at hA hS hD ⊢
  have hl : lv_has ls 5 [(0, .ref (q 0)), (1, .int (a)), (2, .int (b)), (3, .int (t))] := hl
  refine lv_aload_n hx hb d_M_add_0 rfl (lv_at hl 0 rfl) ?_
  refine wf_cutI (pcj := 27) (ls := ls) (rest := [.ref (q 0)]) (fun z => z = wf_c2 (wf_no a || wf_no b || wf_no t) (false)) (fun z_1 ez_1 => ?_) (fun jn => ?_)
  · subst ez_1
    refine pM_code C hK hP hD hS 0 rfl (Nat.le_of_ble_eq_true rfl) d_M_add_27 (fun H locs hP hD hS => ?_)
    have hP : va_P D vwCl (wM q κ (wf_c2 (wf_no a || wf_no b || wf_no t) (false), u.2)) H := hP
    have hD : va_D A (wM q κ (wf_c2 (wf_no a || wf_no b || wf_no t) (false), u.2)) := hD
    generalize eu_2 : ((wf_c2 (wf_no a || wf_no b || wf_no t) (false), u.2) : SM) = u_2 at hP hD
    refine lv_aload_n hx hb d_M_add_30 rfl (lv_at hl 0 rfl) ?_
    refine gM C hK hP 0 rfl 0 (by decide) k_fl_M_code rfl d_M_add_31 ?_
    refine lv_if_le (tgt := 39) hx hb d_M_add_34 (by decide) (fun c_3 => False.elim (by first | exact absurd c_3 (by rw [← eu_2]; exact wf_c2_pos hbad) | exact absurd (by rw [← eu_2]; exact wf_c2_pos hbad) c_3)) (fun c_3 => ?_)
    refine lv_iconst (v := 0) hx hb d_M_add_37 (by decide) ?_
    exact wf_retz C hr (rfl) hlocks u_2 (by first | exact eu_2.symm | rfl) hP hK hD hS (fun _ h => h) d_M_add_38
  · refine lv_iload_n hx hb d_M_add_1 rfl (lv_at hl 1 rfl) ?_
    refine kM_none C hl.1 ⟨Nat.le_of_ble_eq_true rfl, Nat.le_of_ble_eq_true rfl⟩ (Nat.le_of_ble_eq_true rfl) ⟨Nat.le_of_ble_eq_true rfl, Nat.le_of_ble_eq_true rfl⟩ d_M_add_2 ?_
    refine lv_if_ne (tgt := 22) hx hb d_M_add_5 (by decide) (fun c_4 => ?_) (fun c_4 => ?_)
    · refine lv_iconst (v := 1) hx hb d_M_add_22 (by decide) ?_
      refine lv_goto (tgt := 27) hx hb d_M_add_23 (by decide) ?_
      exact jn _ (by revert c_4; cases (wf_no a) <;> cases (wf_no b) <;> cases (wf_no t) <;> decide)
    · refine lv_iload_n hx hb d_M_add_8 rfl (lv_at hl 2 rfl) ?_
      refine kM_none C hl.1 ⟨Nat.le_of_ble_eq_true rfl, Nat.le_of_ble_eq_true rfl⟩ (Nat.le_of_ble_eq_true rfl) ⟨Nat.le_of_ble_eq_true rfl, Nat.le_of_ble_eq_true rfl⟩ d_M_add_9 ?_
      refine lv_if_ne (tgt := 22) hx hb d_M_add_12 (by decide) (fun c_5 => ?_) (fun c_5 => ?_)
      · refine lv_iconst (v := 1) hx hb d_M_add_22 (by decide) ?_
        refine lv_goto (tgt := 27) hx hb d_M_add_23 (by decide) ?_
        exact jn _ (by revert c_4 c_5; cases (wf_no a) <;> cases (wf_no b) <;> cases (wf_no t) <;> decide)
      · refine lv_iload_n hx hb d_M_add_15 rfl (lv_at hl 3 rfl) ?_
        refine kM_none C hl.1 ⟨Nat.le_of_ble_eq_true rfl, Nat.le_of_ble_eq_true rfl⟩ (Nat.le_of_ble_eq_true rfl) ⟨Nat.le_of_ble_eq_true rfl, Nat.le_of_ble_eq_true rfl⟩ d_M_add_16 ?_
        refine lv_if_eq (tgt := 26) hx hb d_M_add_19 (by decide) (fun c_6 => ?_) (fun c_6 => ?_)
        · refine lv_iconst (v := 0) hx hb d_M_add_26 (by decide) ?_
          exact jn _ (by revert c_4 c_5 c_6; cases (wf_no a) <;> cases (wf_no b) <;> cases (wf_no t) <;> decide)
        · refine lv_iconst (v := 1) hx hb d_M_add_22 (by decide) ?_
          refine lv_goto (tgt := 27) hx hb d_M_add_23 (by decide) ?_
          exact jn _ (by revert c_4 c_5 c_6; cases (wf_no a) <;> cases (wf_no b) <;> cases (wf_no t) <;> decide)

set_option maxHeartbeats 4000000 in
set_option maxRecDepth 100000 in
/-- M_subtract -/
theorem c_M_subtractBad (l : Launch) (D : va_G) (q : Nat → Nat) (κ : Nat → ClassId) (u : SM) (a : Int32) (b : Int32) (t : Int32) (hbad : ((wf_no a || wf_no b || wf_no t) || (false)) = true) (sz : Nat) : Met l y_M_subtract (.code y_M_subtract b_M_subtract 5 (some .boolean) :: wG) (wf_rm 1 30 0 0) (wf_Pc D vwCl (wM q κ u) (tyM κ) ([.ref (q 0), .int a, .int b, .int t]) sz) (va_Qi (fun r v => v = (wf_c2 (wf_no a || wf_no b || wf_no t) (false), u.2)) (wf_B D vwCl (wM q κ) (tyM κ) (va_A (wM q κ u) sz)) (va_A (wM q κ u) sz)) 0 0 (va_A (wM q κ u) sz) := by
  refine wf_open (by decide) (Nat.le_of_ble_eq_true rfl) k_M_subtract ?_
  intro p e s m below meth c ls hsz C hr hlocks hnm hex hP hK hD hl
  subst hsz
  have hx := C.1
  have hb := C.2.1
  have hml := C.2.2.1
  have hown := C.2.2.2.1
  have hts := C.2.2.2.2
  have hA : ∀ j : Nat, s.heap.size ≤ j → va_A (wM q κ u) s.heap.size j := fun j h => Or.inr h
  have hS : va_S (va_A (wM q κ u) s.heap.size) s.heap s.heap [] := va_S.rf
  generalize hAe : va_A (wM q κ u) s.heap.size = A at hA hS hD ⊢
  have hl : lv_has ls 5 [(0, .ref (q 0)), (1, .int (a)), (2, .int (b)), (3, .int (t))] := hl
  refine lv_aload_n hx hb d_M_subtract_0 rfl (lv_at hl 0 rfl) ?_
  refine wf_cutI (pcj := 27) (ls := ls) (rest := [.ref (q 0)]) (fun z => z = wf_c2 (wf_no a || wf_no b || wf_no t) (false)) (fun z_1 ez_1 => ?_) (fun jn => ?_)
  · subst ez_1
    refine pM_code C hK hP hD hS 0 rfl (Nat.le_of_ble_eq_true rfl) d_M_subtract_27 (fun H locs hP hD hS => ?_)
    have hP : va_P D vwCl (wM q κ (wf_c2 (wf_no a || wf_no b || wf_no t) (false), u.2)) H := hP
    have hD : va_D A (wM q κ (wf_c2 (wf_no a || wf_no b || wf_no t) (false), u.2)) := hD
    generalize eu_2 : ((wf_c2 (wf_no a || wf_no b || wf_no t) (false), u.2) : SM) = u_2 at hP hD
    refine lv_aload_n hx hb d_M_subtract_30 rfl (lv_at hl 0 rfl) ?_
    refine gM C hK hP 0 rfl 0 (by decide) k_fl_M_code rfl d_M_subtract_31 ?_
    refine lv_if_le (tgt := 39) hx hb d_M_subtract_34 (by decide) (fun c_3 => False.elim (by first | exact absurd c_3 (by rw [← eu_2]; exact wf_c2_pos hbad) | exact absurd (by rw [← eu_2]; exact wf_c2_pos hbad) c_3)) (fun c_3 => ?_)
    refine lv_iconst (v := 0) hx hb d_M_subtract_37 (by decide) ?_
    exact wf_retz C hr (rfl) hlocks u_2 (by first | exact eu_2.symm | rfl) hP hK hD hS (fun _ h => h) d_M_subtract_38
  · refine lv_iload_n hx hb d_M_subtract_1 rfl (lv_at hl 1 rfl) ?_
    refine kM_none C hl.1 ⟨Nat.le_of_ble_eq_true rfl, Nat.le_of_ble_eq_true rfl⟩ (Nat.le_of_ble_eq_true rfl) ⟨Nat.le_of_ble_eq_true rfl, Nat.le_of_ble_eq_true rfl⟩ d_M_subtract_2 ?_
    refine lv_if_ne (tgt := 22) hx hb d_M_subtract_5 (by decide) (fun c_4 => ?_) (fun c_4 => ?_)
    · refine lv_iconst (v := 1) hx hb d_M_subtract_22 (by decide) ?_
      refine lv_goto (tgt := 27) hx hb d_M_subtract_23 (by decide) ?_
      exact jn _ (by revert c_4; cases (wf_no a) <;> cases (wf_no b) <;> cases (wf_no t) <;> decide)
    · refine lv_iload_n hx hb d_M_subtract_8 rfl (lv_at hl 2 rfl) ?_
      refine kM_none C hl.1 ⟨Nat.le_of_ble_eq_true rfl, Nat.le_of_ble_eq_true rfl⟩ (Nat.le_of_ble_eq_true rfl) ⟨Nat.le_of_ble_eq_true rfl, Nat.le_of_ble_eq_true rfl⟩ d_M_subtract_9 ?_
      refine lv_if_ne (tgt := 22) hx hb d_M_subtract_12 (by decide) (fun c_5 => ?_) (fun c_5 => ?_)
      · refine lv_iconst (v := 1) hx hb d_M_subtract_22 (by decide) ?_
        refine lv_goto (tgt := 27) hx hb d_M_subtract_23 (by decide) ?_
        exact jn _ (by revert c_4 c_5; cases (wf_no a) <;> cases (wf_no b) <;> cases (wf_no t) <;> decide)
      · refine lv_iload_n hx hb d_M_subtract_15 rfl (lv_at hl 3 rfl) ?_
        refine kM_none C hl.1 ⟨Nat.le_of_ble_eq_true rfl, Nat.le_of_ble_eq_true rfl⟩ (Nat.le_of_ble_eq_true rfl) ⟨Nat.le_of_ble_eq_true rfl, Nat.le_of_ble_eq_true rfl⟩ d_M_subtract_16 ?_
        refine lv_if_eq (tgt := 26) hx hb d_M_subtract_19 (by decide) (fun c_6 => ?_) (fun c_6 => ?_)
        · refine lv_iconst (v := 0) hx hb d_M_subtract_26 (by decide) ?_
          exact jn _ (by revert c_4 c_5 c_6; cases (wf_no a) <;> cases (wf_no b) <;> cases (wf_no t) <;> decide)
        · refine lv_iconst (v := 1) hx hb d_M_subtract_22 (by decide) ?_
          refine lv_goto (tgt := 27) hx hb d_M_subtract_23 (by decide) ?_
          exact jn _ (by revert c_4 c_5 c_6; cases (wf_no a) <;> cases (wf_no b) <;> cases (wf_no t) <;> decide)

set_option maxHeartbeats 4000000 in
set_option maxRecDepth 100000 in
/-- M_multiply -/
theorem c_M_multiplyBad (l : Launch) (D : va_G) (q : Nat → Nat) (κ : Nat → ClassId) (u : SM) (a : Int32) (b : Int32) (o_ : Int32) (t : Int32) (hbad : ((wf_no a || wf_no b || wf_no o_ || wf_no t) || (decide (o_ = t))) = true) (sz : Nat) : Met l y_M_multiply (.code y_M_multiply b_M_multiply 5 none :: wG) (wf_rm 1 30 0 0) (wf_Pc D vwCl (wM q κ u) (tyM κ) ([.ref (q 0), .int a, .int b, .int o_, .int t]) sz) (va_Qv (fun v => v = (wf_c2 (wf_no a || wf_no b || wf_no o_ || wf_no t) (decide (o_ = t)), u.2)) (wf_B D vwCl (wM q κ) (tyM κ) (va_A (wM q κ u) sz)) (va_A (wM q κ u) sz)) 0 0 (va_A (wM q κ u) sz) := by
  refine wf_open (by decide) (Nat.le_of_ble_eq_true rfl) k_M_multiply ?_
  intro p e s m below meth c ls hsz C hr hlocks hnm hex hP hK hD hl
  subst hsz
  have hx := C.1
  have hb := C.2.1
  have hml := C.2.2.1
  have hown := C.2.2.2.1
  have hts := C.2.2.2.2
  have hA : ∀ j : Nat, s.heap.size ≤ j → va_A (wM q κ u) s.heap.size j := fun j h => Or.inr h
  have hS : va_S (va_A (wM q κ u) s.heap.size) s.heap s.heap [] := va_S.rf
  generalize hAe : va_A (wM q κ u) s.heap.size = A at hA hS hD ⊢
  have hl : lv_has ls 5 [(0, .ref (q 0)), (1, .int (a)), (2, .int (b)), (3, .int (o_)), (4, .int (t))] := hl
  refine lv_aload_n hx hb d_M_multiply_0 rfl (lv_at hl 0 rfl) ?_
  refine wf_cutI (pcj := 45) (ls := ls) (rest := [.ref (q 0)]) (fun z => z = wf_c2 (wf_no a || wf_no b || wf_no o_ || wf_no t) (decide (o_ = t))) (fun z_1 ez_1 => ?_) (fun jn => ?_)
  · subst ez_1
    refine pM_code C hK hP hD hS 0 rfl (Nat.le_of_ble_eq_true rfl) d_M_multiply_45 (fun H locs hP hD hS => ?_)
    have hP : va_P D vwCl (wM q κ (wf_c2 (wf_no a || wf_no b || wf_no o_ || wf_no t) (decide (o_ = t)), u.2)) H := hP
    have hD : va_D A (wM q κ (wf_c2 (wf_no a || wf_no b || wf_no o_ || wf_no t) (decide (o_ = t)), u.2)) := hD
    generalize eu_2 : ((wf_c2 (wf_no a || wf_no b || wf_no o_ || wf_no t) (decide (o_ = t)), u.2) : SM) = u_2 at hP hD
    refine lv_aload_n hx hb d_M_multiply_48 rfl (lv_at hl 0 rfl) ?_
    refine gM C hK hP 0 rfl 0 (by decide) k_fl_M_code rfl d_M_multiply_49 ?_
    refine lv_if_le (tgt := 56) hx hb d_M_multiply_52 (by decide) (fun c_3 => False.elim (by first | exact absurd c_3 (by rw [← eu_2]; exact wf_c2_pos hbad) | exact absurd (by rw [← eu_2]; exact wf_c2_pos hbad) c_3)) (fun c_3 => ?_)
    exact wf_retv C hr hlocks u_2 (by first | exact eu_2.symm | rfl) hP hK hD hS (fun _ h => h) d_M_multiply_55
  · refine lv_iload_n hx hb d_M_multiply_1 rfl (lv_at hl 1 rfl) ?_
    refine kM_none C hl.1 ⟨Nat.le_of_ble_eq_true rfl, Nat.le_of_ble_eq_true rfl⟩ (Nat.le_of_ble_eq_true rfl) ⟨Nat.le_of_ble_eq_true rfl, Nat.le_of_ble_eq_true rfl⟩ d_M_multiply_2 ?_
    refine lv_if_ne (tgt := 30) hx hb d_M_multiply_5 (by decide) (fun c_4 => ?_) (fun c_4 => ?_)
    · refine lv_iconst (v := 1) hx hb d_M_multiply_30 (by decide) ?_
      refine lv_goto (tgt := 45) hx hb d_M_multiply_31 (by decide) ?_
      exact jn _ (by revert c_4; cases (wf_no a) <;> cases (wf_no b) <;> cases (wf_no o_) <;> cases (wf_no t) <;> cases (decide (o_ = t)) <;> decide)
    · refine lv_iload_n hx hb d_M_multiply_8 rfl (lv_at hl 2 rfl) ?_
      refine kM_none C hl.1 ⟨Nat.le_of_ble_eq_true rfl, Nat.le_of_ble_eq_true rfl⟩ (Nat.le_of_ble_eq_true rfl) ⟨Nat.le_of_ble_eq_true rfl, Nat.le_of_ble_eq_true rfl⟩ d_M_multiply_9 ?_
      refine lv_if_ne (tgt := 30) hx hb d_M_multiply_12 (by decide) (fun c_5 => ?_) (fun c_5 => ?_)
      · refine lv_iconst (v := 1) hx hb d_M_multiply_30 (by decide) ?_
        refine lv_goto (tgt := 45) hx hb d_M_multiply_31 (by decide) ?_
        exact jn _ (by revert c_4 c_5; cases (wf_no a) <;> cases (wf_no b) <;> cases (wf_no o_) <;> cases (wf_no t) <;> cases (decide (o_ = t)) <;> decide)
      · refine lv_iload_n hx hb d_M_multiply_15 rfl (lv_at hl 3 rfl) ?_
        refine kM_none C hl.1 ⟨Nat.le_of_ble_eq_true rfl, Nat.le_of_ble_eq_true rfl⟩ (Nat.le_of_ble_eq_true rfl) ⟨Nat.le_of_ble_eq_true rfl, Nat.le_of_ble_eq_true rfl⟩ d_M_multiply_16 ?_
        refine lv_if_ne (tgt := 30) hx hb d_M_multiply_19 (by decide) (fun c_6 => ?_) (fun c_6 => ?_)
        · refine lv_iconst (v := 1) hx hb d_M_multiply_30 (by decide) ?_
          refine lv_goto (tgt := 45) hx hb d_M_multiply_31 (by decide) ?_
          exact jn _ (by revert c_4 c_5 c_6; cases (wf_no a) <;> cases (wf_no b) <;> cases (wf_no o_) <;> cases (wf_no t) <;> cases (decide (o_ = t)) <;> decide)
        · refine lv_iload hx hb d_M_multiply_22 (lv_at hl 4 rfl) ?_
          refine kM_none C hl.1 ⟨Nat.le_of_ble_eq_true rfl, Nat.le_of_ble_eq_true rfl⟩ (Nat.le_of_ble_eq_true rfl) ⟨Nat.le_of_ble_eq_true rfl, Nat.le_of_ble_eq_true rfl⟩ d_M_multiply_24 ?_
          refine lv_if_eq (tgt := 34) hx hb d_M_multiply_27 (by decide) (fun c_7 => ?_) (fun c_7 => ?_)
          · refine lv_iload_n hx hb d_M_multiply_34 rfl (lv_at hl 3 rfl) ?_
            refine lv_iload hx hb d_M_multiply_35 (lv_at hl 4 rfl) ?_
            refine lv_icmp_ne (tgt := 44) hx hb d_M_multiply_37 (by decide) (fun c_8 => ?_) (fun c_8 => ?_)
            · have d_9 : decide (o_ = t) = false := decide_eq_false (c_8)
              refine lv_iconst (v := 0) hx hb d_M_multiply_44 (by decide) ?_
              exact jn _ (by revert c_4 c_5 c_6 c_7 d_9; cases (wf_no a) <;> cases (wf_no b) <;> cases (wf_no o_) <;> cases (wf_no t) <;> cases (decide (o_ = t)) <;> decide)
            · have d_9 : decide (o_ = t) = true := decide_eq_true (c_8)
              refine lv_iconst (v := 2) hx hb d_M_multiply_40 (by decide) ?_
              refine lv_goto (tgt := 45) hx hb d_M_multiply_41 (by decide) ?_
              exact jn _ (by revert c_4 c_5 c_6 c_7 d_9; cases (wf_no a) <;> cases (wf_no b) <;> cases (wf_no o_) <;> cases (wf_no t) <;> cases (decide (o_ = t)) <;> decide)
          · refine lv_iconst (v := 1) hx hb d_M_multiply_30 (by decide) ?_
            refine lv_goto (tgt := 45) hx hb d_M_multiply_31 (by decide) ?_
            exact jn _ (by revert c_4 c_5 c_6 c_7; cases (wf_no a) <;> cases (wf_no b) <;> cases (wf_no o_) <;> cases (wf_no t) <;> cases (decide (o_ = t)) <;> decide)

set_option maxHeartbeats 4000000 in
set_option maxRecDepth 100000 in
/-- M_divide -/
theorem c_M_divideBad (l : Launch) (D : va_G) (q : Nat → Nat) (κ : Nat → ClassId) (u : SM) (a : Int32) (b : Int32) (o_ : Int32) (t : Int32) (hbad : ((wf_no a || wf_no b || wf_no o_ || wf_no t) || (decide (o_ = t))) = true) (sz : Nat) : Met l y_M_divide (.code y_M_divide b_M_divide 7 none :: wG) (wf_rm 1 30 0 0) (wf_Pc D vwCl (wM q κ u) (tyM κ) ([.ref (q 0), .int a, .int b, .int o_, .int t]) sz) (va_Qv (fun v => v = (wf_c2 (wf_no a || wf_no b || wf_no o_ || wf_no t) (decide (o_ = t)), u.2)) (wf_B D vwCl (wM q κ) (tyM κ) (va_A (wM q κ u) sz)) (va_A (wM q κ u) sz)) 0 0 (va_A (wM q κ u) sz) := by
  refine wf_open (by decide) (Nat.le_of_ble_eq_true rfl) k_M_divide ?_
  intro p e s m below meth c ls hsz C hr hlocks hnm hex hP hK hD hl
  subst hsz
  have hx := C.1
  have hb := C.2.1
  have hml := C.2.2.1
  have hown := C.2.2.2.1
  have hts := C.2.2.2.2
  have hA : ∀ j : Nat, s.heap.size ≤ j → va_A (wM q κ u) s.heap.size j := fun j h => Or.inr h
  have hS : va_S (va_A (wM q κ u) s.heap.size) s.heap s.heap [] := va_S.rf
  generalize hAe : va_A (wM q κ u) s.heap.size = A at hA hS hD ⊢
  have hl : lv_has ls 7 [(0, .ref (q 0)), (1, .int (a)), (2, .int (b)), (3, .int (o_)), (4, .int (t))] := hl
  refine lv_aload_n hx hb d_M_divide_0 rfl (lv_at hl 0 rfl) ?_
  refine wf_cutI (pcj := 45) (ls := ls) (rest := [.ref (q 0)]) (fun z => z = wf_c2 (wf_no a || wf_no b || wf_no o_ || wf_no t) (decide (o_ = t))) (fun z_1 ez_1 => ?_) (fun jn => ?_)
  · subst ez_1
    refine pM_code C hK hP hD hS 0 rfl (Nat.le_of_ble_eq_true rfl) d_M_divide_45 (fun H locs hP hD hS => ?_)
    have hP : va_P D vwCl (wM q κ (wf_c2 (wf_no a || wf_no b || wf_no o_ || wf_no t) (decide (o_ = t)), u.2)) H := hP
    have hD : va_D A (wM q κ (wf_c2 (wf_no a || wf_no b || wf_no o_ || wf_no t) (decide (o_ = t)), u.2)) := hD
    generalize eu_2 : ((wf_c2 (wf_no a || wf_no b || wf_no o_ || wf_no t) (decide (o_ = t)), u.2) : SM) = u_2 at hP hD
    refine lv_aload_n hx hb d_M_divide_48 rfl (lv_at hl 0 rfl) ?_
    refine gM C hK hP 0 rfl 0 (by decide) k_fl_M_code rfl d_M_divide_49 ?_
    refine lv_if_le (tgt := 56) hx hb d_M_divide_52 (by decide) (fun c_3 => False.elim (by first | exact absurd c_3 (by rw [← eu_2]; exact wf_c2_pos hbad) | exact absurd (by rw [← eu_2]; exact wf_c2_pos hbad) c_3)) (fun c_3 => ?_)
    exact wf_retv C hr hlocks u_2 (by first | exact eu_2.symm | rfl) hP hK hD hS (fun _ h => h) d_M_divide_55
  · refine lv_iload_n hx hb d_M_divide_1 rfl (lv_at hl 1 rfl) ?_
    refine kM_none C hl.1 ⟨Nat.le_of_ble_eq_true rfl, Nat.le_of_ble_eq_true rfl⟩ (Nat.le_of_ble_eq_true rfl) ⟨Nat.le_of_ble_eq_true rfl, Nat.le_of_ble_eq_true rfl⟩ d_M_divide_2 ?_
    refine lv_if_ne (tgt := 30) hx hb d_M_divide_5 (by decide) (fun c_4 => ?_) (fun c_4 => ?_)
    · refine lv_iconst (v := 1) hx hb d_M_divide_30 (by decide) ?_
      refine lv_goto (tgt := 45) hx hb d_M_divide_31 (by decide) ?_
      exact jn _ (by revert c_4; cases (wf_no a) <;> cases (wf_no b) <;> cases (wf_no o_) <;> cases (wf_no t) <;> cases (decide (o_ = t)) <;> decide)
    · refine lv_iload_n hx hb d_M_divide_8 rfl (lv_at hl 2 rfl) ?_
      refine kM_none C hl.1 ⟨Nat.le_of_ble_eq_true rfl, Nat.le_of_ble_eq_true rfl⟩ (Nat.le_of_ble_eq_true rfl) ⟨Nat.le_of_ble_eq_true rfl, Nat.le_of_ble_eq_true rfl⟩ d_M_divide_9 ?_
      refine lv_if_ne (tgt := 30) hx hb d_M_divide_12 (by decide) (fun c_5 => ?_) (fun c_5 => ?_)
      · refine lv_iconst (v := 1) hx hb d_M_divide_30 (by decide) ?_
        refine lv_goto (tgt := 45) hx hb d_M_divide_31 (by decide) ?_
        exact jn _ (by revert c_4 c_5; cases (wf_no a) <;> cases (wf_no b) <;> cases (wf_no o_) <;> cases (wf_no t) <;> cases (decide (o_ = t)) <;> decide)
      · refine lv_iload_n hx hb d_M_divide_15 rfl (lv_at hl 3 rfl) ?_
        refine kM_none C hl.1 ⟨Nat.le_of_ble_eq_true rfl, Nat.le_of_ble_eq_true rfl⟩ (Nat.le_of_ble_eq_true rfl) ⟨Nat.le_of_ble_eq_true rfl, Nat.le_of_ble_eq_true rfl⟩ d_M_divide_16 ?_
        refine lv_if_ne (tgt := 30) hx hb d_M_divide_19 (by decide) (fun c_6 => ?_) (fun c_6 => ?_)
        · refine lv_iconst (v := 1) hx hb d_M_divide_30 (by decide) ?_
          refine lv_goto (tgt := 45) hx hb d_M_divide_31 (by decide) ?_
          exact jn _ (by revert c_4 c_5 c_6; cases (wf_no a) <;> cases (wf_no b) <;> cases (wf_no o_) <;> cases (wf_no t) <;> cases (decide (o_ = t)) <;> decide)
        · refine lv_iload hx hb d_M_divide_22 (lv_at hl 4 rfl) ?_
          refine kM_none C hl.1 ⟨Nat.le_of_ble_eq_true rfl, Nat.le_of_ble_eq_true rfl⟩ (Nat.le_of_ble_eq_true rfl) ⟨Nat.le_of_ble_eq_true rfl, Nat.le_of_ble_eq_true rfl⟩ d_M_divide_24 ?_
          refine lv_if_eq (tgt := 34) hx hb d_M_divide_27 (by decide) (fun c_7 => ?_) (fun c_7 => ?_)
          · refine lv_iload_n hx hb d_M_divide_34 rfl (lv_at hl 3 rfl) ?_
            refine lv_iload hx hb d_M_divide_35 (lv_at hl 4 rfl) ?_
            refine lv_icmp_ne (tgt := 44) hx hb d_M_divide_37 (by decide) (fun c_8 => ?_) (fun c_8 => ?_)
            · have d_9 : decide (o_ = t) = false := decide_eq_false (c_8)
              refine lv_iconst (v := 0) hx hb d_M_divide_44 (by decide) ?_
              exact jn _ (by revert c_4 c_5 c_6 c_7 d_9; cases (wf_no a) <;> cases (wf_no b) <;> cases (wf_no o_) <;> cases (wf_no t) <;> cases (decide (o_ = t)) <;> decide)
            · have d_9 : decide (o_ = t) = true := decide_eq_true (c_8)
              refine lv_iconst (v := 2) hx hb d_M_divide_40 (by decide) ?_
              refine lv_goto (tgt := 45) hx hb d_M_divide_41 (by decide) ?_
              exact jn _ (by revert c_4 c_5 c_6 c_7 d_9; cases (wf_no a) <;> cases (wf_no b) <;> cases (wf_no o_) <;> cases (wf_no t) <;> cases (decide (o_ = t)) <;> decide)
          · refine lv_iconst (v := 1) hx hb d_M_divide_30 (by decide) ?_
            refine lv_goto (tgt := 45) hx hb d_M_divide_31 (by decide) ?_
            exact jn _ (by revert c_4 c_5 c_6 c_7; cases (wf_no a) <;> cases (wf_no b) <;> cases (wf_no o_) <;> cases (wf_no t) <;> cases (decide (o_ = t)) <;> decide)

set_option maxHeartbeats 4000000 in
set_option maxRecDepth 100000 in
/-- M_root -/
theorem c_M_rootBad (l : Launch) (D : va_G) (q : Nat → Nat) (κ : Nat → ClassId) (u : SM) (a : Int32) (o_ : Int32) (t : Int32) (hbad : ((wf_no a || wf_no o_ || wf_no t) || (decide (o_ = t))) = true) (sz : Nat) : Met l y_M_root (.code y_M_root b_M_root 7 none :: wG) (wf_rm 1 30 0 0) (wf_Pc D vwCl (wM q κ u) (tyM κ) ([.ref (q 0), .int a, .int o_, .int t]) sz) (va_Qv (fun v => v = (wf_c2 (wf_no a || wf_no o_ || wf_no t) (decide (o_ = t)), u.2)) (wf_B D vwCl (wM q κ) (tyM κ) (va_A (wM q κ u) sz)) (va_A (wM q κ u) sz)) 0 0 (va_A (wM q κ u) sz) := by
  refine wf_open (by decide) (Nat.le_of_ble_eq_true rfl) k_M_root ?_
  intro p e s m below meth c ls hsz C hr hlocks hnm hex hP hK hD hl
  subst hsz
  have hx := C.1
  have hb := C.2.1
  have hml := C.2.2.1
  have hown := C.2.2.2.1
  have hts := C.2.2.2.2
  have hA : ∀ j : Nat, s.heap.size ≤ j → va_A (wM q κ u) s.heap.size j := fun j h => Or.inr h
  have hS : va_S (va_A (wM q κ u) s.heap.size) s.heap s.heap [] := va_S.rf
  generalize hAe : va_A (wM q κ u) s.heap.size = A at hA hS hD ⊢
  have hl : lv_has ls 7 [(0, .ref (q 0)), (1, .int (a)), (2, .int (o_)), (3, .int (t))] := hl
  refine lv_aload_n hx hb d_M_root_0 rfl (lv_at hl 0 rfl) ?_
  refine wf_cutI (pcj := 36) (ls := ls) (rest := [.ref (q 0)]) (fun z => z = wf_c2 (wf_no a || wf_no o_ || wf_no t) (decide (o_ = t))) (fun z_1 ez_1 => ?_) (fun jn => ?_)
  · subst ez_1
    refine pM_code C hK hP hD hS 0 rfl (Nat.le_of_ble_eq_true rfl) d_M_root_36 (fun H locs hP hD hS => ?_)
    have hP : va_P D vwCl (wM q κ (wf_c2 (wf_no a || wf_no o_ || wf_no t) (decide (o_ = t)), u.2)) H := hP
    have hD : va_D A (wM q κ (wf_c2 (wf_no a || wf_no o_ || wf_no t) (decide (o_ = t)), u.2)) := hD
    generalize eu_2 : ((wf_c2 (wf_no a || wf_no o_ || wf_no t) (decide (o_ = t)), u.2) : SM) = u_2 at hP hD
    refine lv_aload_n hx hb d_M_root_39 rfl (lv_at hl 0 rfl) ?_
    refine gM C hK hP 0 rfl 0 (by decide) k_fl_M_code rfl d_M_root_40 ?_
    refine lv_if_le (tgt := 47) hx hb d_M_root_43 (by decide) (fun c_3 => False.elim (by first | exact absurd c_3 (by rw [← eu_2]; exact wf_c2_pos hbad) | exact absurd (by rw [← eu_2]; exact wf_c2_pos hbad) c_3)) (fun c_3 => ?_)
    exact wf_retv C hr hlocks u_2 (by first | exact eu_2.symm | rfl) hP hK hD hS (fun _ h => h) d_M_root_46
  · refine lv_iload_n hx hb d_M_root_1 rfl (lv_at hl 1 rfl) ?_
    refine kM_none C hl.1 ⟨Nat.le_of_ble_eq_true rfl, Nat.le_of_ble_eq_true rfl⟩ (Nat.le_of_ble_eq_true rfl) ⟨Nat.le_of_ble_eq_true rfl, Nat.le_of_ble_eq_true rfl⟩ d_M_root_2 ?_
    refine lv_if_ne (tgt := 22) hx hb d_M_root_5 (by decide) (fun c_4 => ?_) (fun c_4 => ?_)
    · refine lv_iconst (v := 1) hx hb d_M_root_22 (by decide) ?_
      refine lv_goto (tgt := 36) hx hb d_M_root_23 (by decide) ?_
      exact jn _ (by revert c_4; cases (wf_no a) <;> cases (wf_no o_) <;> cases (wf_no t) <;> cases (decide (o_ = t)) <;> decide)
    · refine lv_iload_n hx hb d_M_root_8 rfl (lv_at hl 2 rfl) ?_
      refine kM_none C hl.1 ⟨Nat.le_of_ble_eq_true rfl, Nat.le_of_ble_eq_true rfl⟩ (Nat.le_of_ble_eq_true rfl) ⟨Nat.le_of_ble_eq_true rfl, Nat.le_of_ble_eq_true rfl⟩ d_M_root_9 ?_
      refine lv_if_ne (tgt := 22) hx hb d_M_root_12 (by decide) (fun c_5 => ?_) (fun c_5 => ?_)
      · refine lv_iconst (v := 1) hx hb d_M_root_22 (by decide) ?_
        refine lv_goto (tgt := 36) hx hb d_M_root_23 (by decide) ?_
        exact jn _ (by revert c_4 c_5; cases (wf_no a) <;> cases (wf_no o_) <;> cases (wf_no t) <;> cases (decide (o_ = t)) <;> decide)
      · refine lv_iload_n hx hb d_M_root_15 rfl (lv_at hl 3 rfl) ?_
        refine kM_none C hl.1 ⟨Nat.le_of_ble_eq_true rfl, Nat.le_of_ble_eq_true rfl⟩ (Nat.le_of_ble_eq_true rfl) ⟨Nat.le_of_ble_eq_true rfl, Nat.le_of_ble_eq_true rfl⟩ d_M_root_16 ?_
        refine lv_if_eq (tgt := 26) hx hb d_M_root_19 (by decide) (fun c_6 => ?_) (fun c_6 => ?_)
        · refine lv_iload_n hx hb d_M_root_26 rfl (lv_at hl 2 rfl) ?_
          refine lv_iload_n hx hb d_M_root_27 rfl (lv_at hl 3 rfl) ?_
          refine lv_icmp_ne (tgt := 35) hx hb d_M_root_28 (by decide) (fun c_7 => ?_) (fun c_7 => ?_)
          · have d_8 : decide (o_ = t) = false := decide_eq_false (c_7)
            refine lv_iconst (v := 0) hx hb d_M_root_35 (by decide) ?_
            exact jn _ (by revert c_4 c_5 c_6 d_8; cases (wf_no a) <;> cases (wf_no o_) <;> cases (wf_no t) <;> cases (decide (o_ = t)) <;> decide)
          · have d_8 : decide (o_ = t) = true := decide_eq_true (c_7)
            refine lv_iconst (v := 2) hx hb d_M_root_31 (by decide) ?_
            refine lv_goto (tgt := 36) hx hb d_M_root_32 (by decide) ?_
            exact jn _ (by revert c_4 c_5 c_6 d_8; cases (wf_no a) <;> cases (wf_no o_) <;> cases (wf_no t) <;> cases (decide (o_ = t)) <;> decide)
        · refine lv_iconst (v := 1) hx hb d_M_root_22 (by decide) ?_
          refine lv_goto (tgt := 36) hx hb d_M_root_23 (by decide) ?_
          exact jn _ (by revert c_4 c_5 c_6; cases (wf_no a) <;> cases (wf_no o_) <;> cases (wf_no t) <;> cases (decide (o_ = t)) <;> decide)

set_option maxHeartbeats 4000000 in
set_option maxRecDepth 100000 in
/-- M_shift -/
theorem c_M_shiftBad (l : Launch) (D : va_G) (q : Nat → Nat) (κ : Nat → ClassId) (u : SM) (a : Int32) (n : Int32) (t : Int32) (hbad : ((wf_no a || wf_no t) || (false)) = true) (sz : Nat) : Met l y_M_shift (.code y_M_shift b_M_shift 4 (some .boolean) :: wG) (wf_rm 1 30 0 0) (wf_Pc D vwCl (wM q κ u) (tyM κ) ([.ref (q 0), .int a, .int n, .int t]) sz) (va_Qi (fun r v => v = (wf_c2 (wf_no a || wf_no t) (false), u.2)) (wf_B D vwCl (wM q κ) (tyM κ) (va_A (wM q κ u) sz)) (va_A (wM q κ u) sz)) 0 0 (va_A (wM q κ u) sz) := by
  refine wf_open (by decide) (Nat.le_of_ble_eq_true rfl) k_M_shift ?_
  intro p e s m below meth c ls hsz C hr hlocks hnm hex hP hK hD hl
  subst hsz
  have hx := C.1
  have hb := C.2.1
  have hml := C.2.2.1
  have hown := C.2.2.2.1
  have hts := C.2.2.2.2
  have hA : ∀ j : Nat, s.heap.size ≤ j → va_A (wM q κ u) s.heap.size j := fun j h => Or.inr h
  have hS : va_S (va_A (wM q κ u) s.heap.size) s.heap s.heap [] := va_S.rf
  generalize hAe : va_A (wM q κ u) s.heap.size = A at hA hS hD ⊢
  have hl : lv_has ls 4 [(0, .ref (q 0)), (1, .int (a)), (2, .int (n)), (3, .int (t))] := hl
  refine lv_aload_n hx hb d_M_shift_0 rfl (lv_at hl 0 rfl) ?_
  refine wf_cutI (pcj := 20) (ls := ls) (rest := [.ref (q 0)]) (fun z => z = wf_c2 (wf_no a || wf_no t) (false)) (fun z_1 ez_1 => ?_) (fun jn => ?_)
  · subst ez_1
    refine pM_code C hK hP hD hS 0 rfl (Nat.le_of_ble_eq_true rfl) d_M_shift_20 (fun H locs hP hD hS => ?_)
    have hP : va_P D vwCl (wM q κ (wf_c2 (wf_no a || wf_no t) (false), u.2)) H := hP
    have hD : va_D A (wM q κ (wf_c2 (wf_no a || wf_no t) (false), u.2)) := hD
    generalize eu_2 : ((wf_c2 (wf_no a || wf_no t) (false), u.2) : SM) = u_2 at hP hD
    refine lv_aload_n hx hb d_M_shift_23 rfl (lv_at hl 0 rfl) ?_
    refine gM C hK hP 0 rfl 0 (by decide) k_fl_M_code rfl d_M_shift_24 ?_
    refine lv_if_ne (tgt := 45) hx hb d_M_shift_27 (by decide) (fun c_3 => ?_) (fun c_3 => False.elim (by first | exact absurd (by rw [← eu_2]; exact wf_c2_ne hbad) c_3 | exact absurd c_3 (by rw [← eu_2]; exact wf_c2_ne hbad)))
    refine lv_iconst (v := 0) hx hb d_M_shift_45 (by decide) ?_
    exact wf_retz C hr (rfl) hlocks u_2 (by first | exact eu_2.symm | rfl) hP hK hD hS (fun _ h => h) d_M_shift_46
  · refine lv_iload_n hx hb d_M_shift_1 rfl (lv_at hl 1 rfl) ?_
    refine kM_none C hl.1 ⟨Nat.le_of_ble_eq_true rfl, Nat.le_of_ble_eq_true rfl⟩ (Nat.le_of_ble_eq_true rfl) ⟨Nat.le_of_ble_eq_true rfl, Nat.le_of_ble_eq_true rfl⟩ d_M_shift_2 ?_
    refine lv_if_ne (tgt := 15) hx hb d_M_shift_5 (by decide) (fun c_4 => ?_) (fun c_4 => ?_)
    · refine lv_iconst (v := 1) hx hb d_M_shift_15 (by decide) ?_
      refine lv_goto (tgt := 20) hx hb d_M_shift_16 (by decide) ?_
      exact jn _ (by revert c_4; cases (wf_no a) <;> cases (wf_no t) <;> decide)
    · refine lv_iload_n hx hb d_M_shift_8 rfl (lv_at hl 3 rfl) ?_
      refine kM_none C hl.1 ⟨Nat.le_of_ble_eq_true rfl, Nat.le_of_ble_eq_true rfl⟩ (Nat.le_of_ble_eq_true rfl) ⟨Nat.le_of_ble_eq_true rfl, Nat.le_of_ble_eq_true rfl⟩ d_M_shift_9 ?_
      refine lv_if_eq (tgt := 19) hx hb d_M_shift_12 (by decide) (fun c_5 => ?_) (fun c_5 => ?_)
      · refine lv_iconst (v := 0) hx hb d_M_shift_19 (by decide) ?_
        exact jn _ (by revert c_4 c_5; cases (wf_no a) <;> cases (wf_no t) <;> decide)
      · refine lv_iconst (v := 1) hx hb d_M_shift_15 (by decide) ?_
        refine lv_goto (tgt := 20) hx hb d_M_shift_16 (by decide) ?_
        exact jn _ (by revert c_4 c_5; cases (wf_no a) <;> cases (wf_no t) <;> decide)

set_option maxHeartbeats 4000000 in
set_option maxRecDepth 100000 in
/-- M_jam -/
theorem c_M_jamBad (l : Launch) (D : va_G) (q : Nat → Nat) (κ : Nat → ClassId) (u : SM) (a : Int32) (n : Int32) (t : Int32) (hbad : ((wf_no a || wf_no t) || (decide (n < 0))) = true) (sz : Nat) : Met l y_M_jam (.code y_M_jam b_M_jam 4 none :: wG) (wf_rm 1 30 0 0) (wf_Pc D vwCl (wM q κ u) (tyM κ) ([.ref (q 0), .int a, .int n, .int t]) sz) (va_Qv (fun v => v = (wf_c2 (wf_no a || wf_no t) (decide (n < 0)), u.2)) (wf_B D vwCl (wM q κ) (tyM κ) (va_A (wM q κ u) sz)) (va_A (wM q κ u) sz)) 0 0 (va_A (wM q κ u) sz) := by
  refine wf_open (by decide) (Nat.le_of_ble_eq_true rfl) k_M_jam ?_
  intro p e s m below meth c ls hsz C hr hlocks hnm hex hP hK hD hl
  subst hsz
  have hx := C.1
  have hb := C.2.1
  have hml := C.2.2.1
  have hown := C.2.2.2.1
  have hts := C.2.2.2.2
  have hA : ∀ j : Nat, s.heap.size ≤ j → va_A (wM q κ u) s.heap.size j := fun j h => Or.inr h
  have hS : va_S (va_A (wM q κ u) s.heap.size) s.heap s.heap [] := va_S.rf
  generalize hAe : va_A (wM q κ u) s.heap.size = A at hA hS hD ⊢
  have hl : lv_has ls 4 [(0, .ref (q 0)), (1, .int (a)), (2, .int (n)), (3, .int (t))] := hl
  refine lv_aload_n hx hb d_M_jam_0 rfl (lv_at hl 0 rfl) ?_
  refine wf_cutI (pcj := 28) (ls := ls) (rest := [.ref (q 0)]) (fun z => z = wf_c2 (wf_no a || wf_no t) (decide (n < 0))) (fun z_1 ez_1 => ?_) (fun jn => ?_)
  · subst ez_1
    refine pM_code C hK hP hD hS 0 rfl (Nat.le_of_ble_eq_true rfl) d_M_jam_28 (fun H locs hP hD hS => ?_)
    have hP : va_P D vwCl (wM q κ (wf_c2 (wf_no a || wf_no t) (decide (n < 0)), u.2)) H := hP
    have hD : va_D A (wM q κ (wf_c2 (wf_no a || wf_no t) (decide (n < 0)), u.2)) := hD
    generalize eu_2 : ((wf_c2 (wf_no a || wf_no t) (decide (n < 0)), u.2) : SM) = u_2 at hP hD
    refine lv_aload_n hx hb d_M_jam_31 rfl (lv_at hl 0 rfl) ?_
    refine gM C hK hP 0 rfl 0 (by decide) k_fl_M_code rfl d_M_jam_32 ?_
    refine lv_if_ne (tgt := 61) hx hb d_M_jam_35 (by decide) (fun c_3 => ?_) (fun c_3 => False.elim (by first | exact absurd (by rw [← eu_2]; exact wf_c2_ne hbad) c_3 | exact absurd c_3 (by rw [← eu_2]; exact wf_c2_ne hbad)))
    exact wf_retv C hr hlocks u_2 (by first | exact eu_2.symm | rfl) hP hK hD hS (fun _ h => h) d_M_jam_61
  · refine lv_iload_n hx hb d_M_jam_1 rfl (lv_at hl 1 rfl) ?_
    refine kM_none C hl.1 ⟨Nat.le_of_ble_eq_true rfl, Nat.le_of_ble_eq_true rfl⟩ (Nat.le_of_ble_eq_true rfl) ⟨Nat.le_of_ble_eq_true rfl, Nat.le_of_ble_eq_true rfl⟩ d_M_jam_2 ?_
    refine lv_if_ne (tgt := 15) hx hb d_M_jam_5 (by decide) (fun c_4 => ?_) (fun c_4 => ?_)
    · refine lv_iconst (v := 1) hx hb d_M_jam_15 (by decide) ?_
      refine lv_goto (tgt := 28) hx hb d_M_jam_16 (by decide) ?_
      exact jn _ (by revert c_4; cases (wf_no a) <;> cases (wf_no t) <;> cases (decide (n < 0)) <;> decide)
    · refine lv_iload_n hx hb d_M_jam_8 rfl (lv_at hl 3 rfl) ?_
      refine kM_none C hl.1 ⟨Nat.le_of_ble_eq_true rfl, Nat.le_of_ble_eq_true rfl⟩ (Nat.le_of_ble_eq_true rfl) ⟨Nat.le_of_ble_eq_true rfl, Nat.le_of_ble_eq_true rfl⟩ d_M_jam_9 ?_
      refine lv_if_eq (tgt := 19) hx hb d_M_jam_12 (by decide) (fun c_5 => ?_) (fun c_5 => ?_)
      · refine lv_iload_n hx hb d_M_jam_19 rfl (lv_at hl 2 rfl) ?_
        refine lv_if_ge (tgt := 27) hx hb d_M_jam_20 (by decide) (fun c_6 => ?_) (fun c_6 => ?_)
        · have d_7 : decide (n < 0) = false := decide_eq_false (Int32.not_lt.mpr c_6)
          refine lv_iconst (v := 0) hx hb d_M_jam_27 (by decide) ?_
          exact jn _ (by revert c_4 c_5 d_7; cases (wf_no a) <;> cases (wf_no t) <;> cases (decide (n < 0)) <;> decide)
        · have d_7 : decide (n < 0) = true := decide_eq_true (Int32.not_le.mp c_6)
          refine lv_iconst (v := 2) hx hb d_M_jam_23 (by decide) ?_
          refine lv_goto (tgt := 28) hx hb d_M_jam_24 (by decide) ?_
          exact jn _ (by revert c_4 c_5 d_7; cases (wf_no a) <;> cases (wf_no t) <;> cases (decide (n < 0)) <;> decide)
      · refine lv_iconst (v := 1) hx hb d_M_jam_15 (by decide) ?_
        refine lv_goto (tgt := 28) hx hb d_M_jam_16 (by decide) ?_
        exact jn _ (by revert c_4 c_5; cases (wf_no a) <;> cases (wf_no t) <;> cases (decide (n < 0)) <;> decide)

set_option maxHeartbeats 4000000 in
set_option maxRecDepth 100000 in
/-- M_zeros -/
theorem c_M_zerosBad (l : Launch) (D : va_G) (q : Nat → Nat) (κ : Nat → ClassId) (u : SM) (a : Int32) (hbad : ((wf_no a) || (false)) = true) (sz : Nat) : Met l y_M_zeros (.code y_M_zeros b_M_zeros 3 (some .int) :: wG) (wf_rm 1 30 0 0) (wf_Pc D vwCl (wM q κ u) (tyM κ) ([.ref (q 0), .int a]) sz) (va_Qi (fun r v => v = (wf_c2 (wf_no a) (false), u.2)) (wf_B D vwCl (wM q κ) (tyM κ) (va_A (wM q κ u) sz)) (va_A (wM q κ u) sz)) 0 0 (va_A (wM q κ u) sz) := by
  refine wf_open (by decide) (Nat.le_of_ble_eq_true rfl) k_M_zeros ?_
  intro p e s m below meth c ls hsz C hr hlocks hnm hex hP hK hD hl
  subst hsz
  have hx := C.1
  have hb := C.2.1
  have hml := C.2.2.1
  have hown := C.2.2.2.1
  have hts := C.2.2.2.2
  have hA : ∀ j : Nat, s.heap.size ≤ j → va_A (wM q κ u) s.heap.size j := fun j h => Or.inr h
  have hS : va_S (va_A (wM q κ u) s.heap.size) s.heap s.heap [] := va_S.rf
  generalize hAe : va_A (wM q κ u) s.heap.size = A at hA hS hD ⊢
  have hl : lv_has ls 3 [(0, .ref (q 0)), (1, .int (a))] := hl
  refine lv_aload_n hx hb d_M_zeros_0 rfl (lv_at hl 0 rfl) ?_
  refine wf_cutI (pcj := 13) (ls := ls) (rest := [.ref (q 0)]) (fun z => z = wf_c2 (wf_no a) (false)) (fun z_1 ez_1 => ?_) (fun jn => ?_)
  · subst ez_1
    refine pM_code C hK hP hD hS 0 rfl (Nat.le_of_ble_eq_true rfl) d_M_zeros_13 (fun H locs hP hD hS => ?_)
    have hP : va_P D vwCl (wM q κ (wf_c2 (wf_no a) (false), u.2)) H := hP
    have hD : va_D A (wM q κ (wf_c2 (wf_no a) (false), u.2)) := hD
    generalize eu_2 : ((wf_c2 (wf_no a) (false), u.2) : SM) = u_2 at hP hD
    refine lv_iconst (v := 0) hx hb d_M_zeros_16 (by decide) ?_
    refine lv_istore_n (lv' := [(2, .int (0)), (0, .ref (q 0)), (1, .int (a))]) hx hb d_M_zeros_17 rfl hl (by decide) rfl (fun ls hl => ?_)
    refine lv_aload_n hx hb d_M_zeros_18 rfl (lv_at hl 1 rfl) ?_
    refine gM C hK hP 0 rfl 0 (by decide) k_fl_M_code rfl d_M_zeros_19 ?_
    refine lv_if_ne (tgt := 56) hx hb d_M_zeros_22 (by decide) (fun c_3 => ?_) (fun c_3 => False.elim (by first | exact absurd (by rw [← eu_2]; exact wf_c2_ne hbad) c_3 | exact absurd c_3 (by rw [← eu_2]; exact wf_c2_ne hbad)))
    refine lv_iload_n hx hb d_M_zeros_56 rfl (lv_at hl 0 rfl) ?_
    exact wf_reti C hr hlocks u_2 (by first | exact eu_2.symm | rfl) hP hK hD hS (fun _ h => h) d_M_zeros_57
  · refine lv_iload_n hx hb d_M_zeros_1 rfl (lv_at hl 1 rfl) ?_
    refine kM_none C hl.1 ⟨Nat.le_of_ble_eq_true rfl, Nat.le_of_ble_eq_true rfl⟩ (Nat.le_of_ble_eq_true rfl) ⟨Nat.le_of_ble_eq_true rfl, Nat.le_of_ble_eq_true rfl⟩ d_M_zeros_2 ?_
    refine lv_if_eq (tgt := 12) hx hb d_M_zeros_5 (by decide) (fun c_4 => ?_) (fun c_4 => ?_)
    · refine lv_iconst (v := 0) hx hb d_M_zeros_12 (by decide) ?_
      exact jn _ (by revert c_4; cases (wf_no a) <;> decide)
    · refine lv_iconst (v := 1) hx hb d_M_zeros_8 (by decide) ?_
      refine lv_goto (tgt := 13) hx hb d_M_zeros_9 (by decide) ?_
      exact jn _ (by revert c_4; cases (wf_no a) <;> decide)

set_option maxHeartbeats 4000000 in
set_option maxRecDepth 100000 in
/-- M_compare -/
theorem c_M_compareBad (l : Launch) (D : va_G) (q : Nat → Nat) (κ : Nat → ClassId) (u : SM) (a : Int32) (b : Int32) (hbad : ((wf_no a || wf_no b) || (false)) = true) (sz : Nat) : Met l y_M_compare (.code y_M_compare b_M_compare 7 (some .int) :: wG) (wf_rm 1 30 0 0) (wf_Pc D vwCl (wM q κ u) (tyM κ) ([.ref (q 0), .int a, .int b]) sz) (va_Qi (fun r v => v = (wf_c2 (wf_no a || wf_no b) (false), u.2)) (wf_B D vwCl (wM q κ) (tyM κ) (va_A (wM q κ u) sz)) (va_A (wM q κ u) sz)) 0 0 (va_A (wM q κ u) sz) := by
  refine wf_open (by decide) (Nat.le_of_ble_eq_true rfl) k_M_compare ?_
  intro p e s m below meth c ls hsz C hr hlocks hnm hex hP hK hD hl
  subst hsz
  have hx := C.1
  have hb := C.2.1
  have hml := C.2.2.1
  have hown := C.2.2.2.1
  have hts := C.2.2.2.2
  have hA : ∀ j : Nat, s.heap.size ≤ j → va_A (wM q κ u) s.heap.size j := fun j h => Or.inr h
  have hS : va_S (va_A (wM q κ u) s.heap.size) s.heap s.heap [] := va_S.rf
  generalize hAe : va_A (wM q κ u) s.heap.size = A at hA hS hD ⊢
  have hl : lv_has ls 7 [(0, .ref (q 0)), (1, .int (a)), (2, .int (b))] := hl
  refine lv_aload_n hx hb d_M_compare_0 rfl (lv_at hl 0 rfl) ?_
  refine wf_cutI (pcj := 20) (ls := ls) (rest := [.ref (q 0)]) (fun z => z = wf_c2 (wf_no a || wf_no b) (false)) (fun z_1 ez_1 => ?_) (fun jn => ?_)
  · subst ez_1
    refine pM_code C hK hP hD hS 0 rfl (Nat.le_of_ble_eq_true rfl) d_M_compare_20 (fun H locs hP hD hS => ?_)
    have hP : va_P D vwCl (wM q κ (wf_c2 (wf_no a || wf_no b) (false), u.2)) H := hP
    have hD : va_D A (wM q κ (wf_c2 (wf_no a || wf_no b) (false), u.2)) := hD
    generalize eu_2 : ((wf_c2 (wf_no a || wf_no b) (false), u.2) : SM) = u_2 at hP hD
    refine lv_iconst (v := 0) hx hb d_M_compare_23 (by decide) ?_
    refine lv_istore_n (lv' := [(3, .int (0)), (0, .ref (q 0)), (1, .int (a)), (2, .int (b))]) hx hb d_M_compare_24 rfl hl (by decide) rfl (fun ls hl => ?_)
    refine lv_iconst (v := 0) hx hb d_M_compare_25 (by decide) ?_
    refine lv_istore (lv' := [(4, .int (0)), (3, .int (0)), (0, .ref (q 0)), (1, .int (a)), (2, .int (b))]) hx hb d_M_compare_26 hl (by decide) rfl (fun ls hl => ?_)
    refine lv_iload hx hb d_M_compare_28 (lv_at hl 0 rfl) ?_
    refine lv_sipush (v := 128) hx hb d_M_compare_30 (by decide) ?_
    refine lv_icmp_ge (tgt := 101) hx hb d_M_compare_33 (by decide) (fun c_3 => False.elim (absurd c_3 (by decide))) (fun _ => ?_)
    refine lv_aload_n hx hb d_M_compare_36 rfl (lv_at hl 2 rfl) ?_
    refine gM C hK hP 0 rfl 0 (by decide) k_fl_M_code rfl d_M_compare_37 ?_
    refine lv_if_ne (tgt := 101) hx hb d_M_compare_40 (by decide) (fun c_4 => ?_) (fun c_4 => False.elim (by first | exact absurd (by rw [← eu_2]; exact wf_c2_ne hbad) c_4 | exact absurd c_4 (by rw [← eu_2]; exact wf_c2_ne hbad)))
    refine lv_iload_n hx hb d_M_compare_101 rfl (lv_at hl 1 rfl) ?_
    exact wf_reti C hr hlocks u_2 (by first | exact eu_2.symm | rfl) hP hK hD hS (fun _ h => h) d_M_compare_102
  · refine lv_iload_n hx hb d_M_compare_1 rfl (lv_at hl 1 rfl) ?_
    refine kM_none C hl.1 ⟨Nat.le_of_ble_eq_true rfl, Nat.le_of_ble_eq_true rfl⟩ (Nat.le_of_ble_eq_true rfl) ⟨Nat.le_of_ble_eq_true rfl, Nat.le_of_ble_eq_true rfl⟩ d_M_compare_2 ?_
    refine lv_if_ne (tgt := 15) hx hb d_M_compare_5 (by decide) (fun c_5 => ?_) (fun c_5 => ?_)
    · refine lv_iconst (v := 1) hx hb d_M_compare_15 (by decide) ?_
      refine lv_goto (tgt := 20) hx hb d_M_compare_16 (by decide) ?_
      exact jn _ (by revert c_5; cases (wf_no a) <;> cases (wf_no b) <;> decide)
    · refine lv_iload_n hx hb d_M_compare_8 rfl (lv_at hl 2 rfl) ?_
      refine kM_none C hl.1 ⟨Nat.le_of_ble_eq_true rfl, Nat.le_of_ble_eq_true rfl⟩ (Nat.le_of_ble_eq_true rfl) ⟨Nat.le_of_ble_eq_true rfl, Nat.le_of_ble_eq_true rfl⟩ d_M_compare_9 ?_
      refine lv_if_eq (tgt := 19) hx hb d_M_compare_12 (by decide) (fun c_6 => ?_) (fun c_6 => ?_)
      · refine lv_iconst (v := 0) hx hb d_M_compare_19 (by decide) ?_
        exact jn _ (by revert c_5 c_6; cases (wf_no a) <;> cases (wf_no b) <;> decide)
      · refine lv_iconst (v := 1) hx hb d_M_compare_15 (by decide) ?_
        refine lv_goto (tgt := 20) hx hb d_M_compare_16 (by decide) ?_
        exact jn _ (by revert c_5 c_6; cases (wf_no a) <;> cases (wf_no b) <;> decide)

set_option maxHeartbeats 4000000 in
set_option maxRecDepth 100000 in
/-- M_digits -/
theorem c_M_digitsBad (l : Launch) (D : va_G) (q : Nat → Nat) (κ : Nat → ClassId) (u : SM) (a : Int32) (hbad : ((wf_no a) || (false)) = true) (sz : Nat) : Met l y_M_digits (.code y_M_digits b_M_digits 5 (some .int) :: wG) (wf_rm 1 30 0 0) (wf_Pc D vwCl (wM q κ u) (tyM κ) ([.ref (q 0), .int a]) sz) (va_Qi (fun r v => v = (wf_c2 (wf_no a) (false), u.2)) (wf_B D vwCl (wM q κ) (tyM κ) (va_A (wM q κ u) sz)) (va_A (wM q κ u) sz)) 0 0 (va_A (wM q κ u) sz) := by
  refine wf_open (by decide) (Nat.le_of_ble_eq_true rfl) k_M_digits ?_
  intro p e s m below meth c ls hsz C hr hlocks hnm hex hP hK hD hl
  subst hsz
  have hx := C.1
  have hb := C.2.1
  have hml := C.2.2.1
  have hown := C.2.2.2.1
  have hts := C.2.2.2.2
  have hA : ∀ j : Nat, s.heap.size ≤ j → va_A (wM q κ u) s.heap.size j := fun j h => Or.inr h
  have hS : va_S (va_A (wM q κ u) s.heap.size) s.heap s.heap [] := va_S.rf
  generalize hAe : va_A (wM q κ u) s.heap.size = A at hA hS hD ⊢
  have hl : lv_has ls 5 [(0, .ref (q 0)), (1, .int (a))] := hl
  refine lv_aload_n hx hb d_M_digits_0 rfl (lv_at hl 0 rfl) ?_
  refine wf_cutI (pcj := 13) (ls := ls) (rest := [.ref (q 0)]) (fun z => z = wf_c2 (wf_no a) (false)) (fun z_1 ez_1 => ?_) (fun jn => ?_)
  · subst ez_1
    refine pM_code C hK hP hD hS 0 rfl (Nat.le_of_ble_eq_true rfl) d_M_digits_13 (fun H locs hP hD hS => ?_)
    have hP : va_P D vwCl (wM q κ (wf_c2 (wf_no a) (false), u.2)) H := hP
    have hD : va_D A (wM q κ (wf_c2 (wf_no a) (false), u.2)) := hD
    generalize eu_2 : ((wf_c2 (wf_no a) (false), u.2) : SM) = u_2 at hP hD
    refine lv_aload_n hx hb d_M_digits_16 rfl (lv_at hl 0 rfl) ?_
    refine gM C hK hP 0 rfl 0 (by decide) k_fl_M_code rfl d_M_digits_17 ?_
    refine lv_if_le (tgt := 25) hx hb d_M_digits_20 (by decide) (fun c_3 => False.elim (by first | exact absurd c_3 (by rw [← eu_2]; exact wf_c2_pos hbad) | exact absurd (by rw [← eu_2]; exact wf_c2_pos hbad) c_3)) (fun c_3 => ?_)
    refine lv_iconst (v := 0) hx hb d_M_digits_23 (by decide) ?_
    exact wf_reti C hr hlocks u_2 (by first | exact eu_2.symm | rfl) hP hK hD hS (fun _ h => h) d_M_digits_24
  · refine lv_iload_n hx hb d_M_digits_1 rfl (lv_at hl 1 rfl) ?_
    refine kM_none C hl.1 ⟨Nat.le_of_ble_eq_true rfl, Nat.le_of_ble_eq_true rfl⟩ (Nat.le_of_ble_eq_true rfl) ⟨Nat.le_of_ble_eq_true rfl, Nat.le_of_ble_eq_true rfl⟩ d_M_digits_2 ?_
    refine lv_if_eq (tgt := 12) hx hb d_M_digits_5 (by decide) (fun c_4 => ?_) (fun c_4 => ?_)
    · refine lv_iconst (v := 0) hx hb d_M_digits_12 (by decide) ?_
      exact jn _ (by revert c_4; cases (wf_no a) <;> decide)
    · refine lv_iconst (v := 1) hx hb d_M_digits_8 (by decide) ?_
      refine lv_goto (tgt := 13) hx hb d_M_digits_9 (by decide) ?_
      exact jn _ (by revert c_4; cases (wf_no a) <;> decide)

set_option maxHeartbeats 4000000 in
set_option maxRecDepth 100000 in
/-- M_next -/
theorem c_M_nextBad (l : Launch) (D : va_G) (q : Nat → Nat) (κ : Nat → ClassId) (u : SM) (a : Int32) (d : Int32) (hbad : ((wf_no a) || (decide (d < 0) || decide (9 < d))) = true) (sz : Nat) : Met l y_M_next (.code y_M_next b_M_next 5 (some .boolean) :: wG) (wf_rm 1 30 0 0) (wf_Pc D vwCl (wM q κ u) (tyM κ) ([.ref (q 0), .int a, .int d]) sz) (va_Qi (fun r v => v = (wf_c2 (wf_no a) (decide (d < 0) || decide (9 < d)), u.2)) (wf_B D vwCl (wM q κ) (tyM κ) (va_A (wM q κ u) sz)) (va_A (wM q κ u) sz)) 0 0 (va_A (wM q κ u) sz) := by
  refine wf_open (by decide) (Nat.le_of_ble_eq_true rfl) k_M_next ?_
  intro p e s m below meth c ls hsz C hr hlocks hnm hex hP hK hD hl
  subst hsz
  have hx := C.1
  have hb := C.2.1
  have hml := C.2.2.1
  have hown := C.2.2.2.1
  have hts := C.2.2.2.2
  have hA : ∀ j : Nat, s.heap.size ≤ j → va_A (wM q κ u) s.heap.size j := fun j h => Or.inr h
  have hS : va_S (va_A (wM q κ u) s.heap.size) s.heap s.heap [] := va_S.rf
  generalize hAe : va_A (wM q κ u) s.heap.size = A at hA hS hD ⊢
  have hl : lv_has ls 5 [(0, .ref (q 0)), (1, .int (a)), (2, .int (d))] := hl
  refine lv_aload_n hx hb d_M_next_0 rfl (lv_at hl 0 rfl) ?_
  refine wf_cutI (pcj := 27) (ls := ls) (rest := [.ref (q 0)]) (fun z => z = wf_c2 (wf_no a) (decide (d < 0) || decide (9 < d))) (fun z_1 ez_1 => ?_) (fun jn => ?_)
  · subst ez_1
    refine pM_code C hK hP hD hS 0 rfl (Nat.le_of_ble_eq_true rfl) d_M_next_27 (fun H locs hP hD hS => ?_)
    have hP : va_P D vwCl (wM q κ (wf_c2 (wf_no a) (decide (d < 0) || decide (9 < d)), u.2)) H := hP
    have hD : va_D A (wM q κ (wf_c2 (wf_no a) (decide (d < 0) || decide (9 < d)), u.2)) := hD
    generalize eu_2 : ((wf_c2 (wf_no a) (decide (d < 0) || decide (9 < d)), u.2) : SM) = u_2 at hP hD
    refine lv_aload_n hx hb d_M_next_30 rfl (lv_at hl 0 rfl) ?_
    refine gM C hK hP 0 rfl 0 (by decide) k_fl_M_code rfl d_M_next_31 ?_
    refine lv_if_le (tgt := 39) hx hb d_M_next_34 (by decide) (fun c_3 => False.elim (by first | exact absurd c_3 (by rw [← eu_2]; exact wf_c2_pos hbad) | exact absurd (by rw [← eu_2]; exact wf_c2_pos hbad) c_3)) (fun c_3 => ?_)
    refine lv_iconst (v := 0) hx hb d_M_next_37 (by decide) ?_
    exact wf_retz C hr (rfl) hlocks u_2 (by first | exact eu_2.symm | rfl) hP hK hD hS (fun _ h => h) d_M_next_38
  · refine lv_iload_n hx hb d_M_next_1 rfl (lv_at hl 1 rfl) ?_
    refine kM_none C hl.1 ⟨Nat.le_of_ble_eq_true rfl, Nat.le_of_ble_eq_true rfl⟩ (Nat.le_of_ble_eq_true rfl) ⟨Nat.le_of_ble_eq_true rfl, Nat.le_of_ble_eq_true rfl⟩ d_M_next_2 ?_
    refine lv_if_eq (tgt := 12) hx hb d_M_next_5 (by decide) (fun c_4 => ?_) (fun c_4 => ?_)
    · refine lv_iload_n hx hb d_M_next_12 rfl (lv_at hl 2 rfl) ?_
      refine lv_if_lt (tgt := 22) hx hb d_M_next_13 (by decide) (fun c_5 => ?_) (fun c_5 => ?_)
      · have d_6 : decide (d < 0) = true := decide_eq_true (c_5)
        refine lv_iconst (v := 2) hx hb d_M_next_22 (by decide) ?_
        refine lv_goto (tgt := 27) hx hb d_M_next_23 (by decide) ?_
        exact jn _ (by revert c_4 d_6; cases (wf_no a) <;> cases (decide (d < 0)) <;> cases (decide (9 < d)) <;> decide)
      · have d_6 : decide (d < 0) = false := decide_eq_false (c_5)
        refine lv_iload_n hx hb d_M_next_16 rfl (lv_at hl 2 rfl) ?_
        refine lv_bipush (v := 9) hx hb d_M_next_17 (by decide) ?_
        refine lv_icmp_le (tgt := 26) hx hb d_M_next_19 (by decide) (fun c_7 => ?_) (fun c_7 => ?_)
        · have d_8 : decide (9 < d) = false := decide_eq_false (Int32.not_lt.mpr c_7)
          refine lv_iconst (v := 0) hx hb d_M_next_26 (by decide) ?_
          exact jn _ (by revert c_4 d_6 d_8; cases (wf_no a) <;> cases (decide (d < 0)) <;> cases (decide (9 < d)) <;> decide)
        · have d_8 : decide (9 < d) = true := decide_eq_true (Int32.not_le.mp c_7)
          refine lv_iconst (v := 2) hx hb d_M_next_22 (by decide) ?_
          refine lv_goto (tgt := 27) hx hb d_M_next_23 (by decide) ?_
          exact jn _ (by revert c_4 d_6 d_8; cases (wf_no a) <;> cases (decide (d < 0)) <;> cases (decide (9 < d)) <;> decide)
    · refine lv_iconst (v := 1) hx hb d_M_next_8 (by decide) ?_
      refine lv_goto (tgt := 27) hx hb d_M_next_9 (by decide) ?_
      exact jn _ (by revert c_4; cases (wf_no a) <;> cases (decide (d < 0)) <;> cases (decide (9 < d)) <;> decide)
