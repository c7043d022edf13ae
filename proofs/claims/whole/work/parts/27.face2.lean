/-! ===== shift, jam, digit, next, where nothing is thrown ===== -/
theorem wf_neg_toInt {k : Nat} (hk : k ≤ 2147483648) : (-nI k).toInt = -(k : Int) := by
  rcases Nat.lt_or_ge k 2147483648 with h | h
  · exact sb_negT h
  · rw [show k = 2147483648 by omega]; decide
theorem wf_neg_lt {k : Nat} (h0 : 0 < k) (hk : k ≤ 2147483648) : -nI k < 0 := by
  rw [Int32.lt_iff_toInt_lt, wf_neg_toInt hk]
  show _ < (0 : Int)
  omega
theorem wf_neg_128 {k : Nat} (hk : k ≤ 2147483648) : (-128 : Int32) < -nI k ↔ k < 128 := by
  rw [Int32.lt_iff_toInt_lt, wf_neg_toInt hk, show (-128 : Int32).toInt = -128 from by decide]
  omega
theorem wf_far {V k : Nat} (hV : V < wf_NN) (hk : 128 ≤ k) : V / 2 ^ 128 = V / 2 ^ k ∧ (V % 2 ^ 128 ≠ 0 ↔ V % 2 ^ k ≠ 0) := by
  have h1 : V < 2 ^ 128 := by rw [wf_p128]; exact hV
  have h2 : V < 2 ^ k := Nat.lt_of_lt_of_le h1 (wf_pw hk)
  rw [Nat.div_eq_of_lt h1, Nat.div_eq_of_lt h2, Nat.mod_eq_of_lt h1, Nat.mod_eq_of_lt h2]
  exact ⟨rfl, Iff.rfl⟩
theorem wf_or_1 (x : Int64) : uN (x ||| 1) = 2 * (uN x / 2) + 1 := by
  rw [uN_or', show uN (1 : Int64) = 1 from by decide]
  have h1 : (uN x ||| 1) / 2 = uN x / 2 := by rw [Nat.or_div_two]; show uN x / 2 ||| 0 = _; rw [Nat.or_zero]
  have h2 : (uN x ||| 1) % 2 = 1 := Nat.or_mod_two_eq_one.mpr (Or.inr rfl)
  omega
theorem wf_V_or (h l : Int64) : wf_V h (l ||| 1) = 2 * (wf_V h l / 2) + 1 := by
  show uN h * _ + uN (l ||| 1) = 2 * ((uN h * _ + uN l) / 2) + 1
  rw [wf_or_1]
  omega
/-- jam: with the lowest bit 1 if something is lost -/
def wf_jam (V n : Nat) : Nat := if V % 2 ^ n ≠ 0 then 2 * (V / 2 ^ n / 2) + 1 else V / 2 ^ n
theorem wf_i2l {d : Nat} (hd : d < 10) : uN (Int32.toInt64 (nI d)) = d ∧ Int32.toInt64 (nI d) < 10 := by
  rw [nI_l (by omega)]
  refine ⟨by rw [uN_ofNat]; omega, ?_⟩
  exact (lN_lt (a := d) (b := 10) (by omega) (by decide)).mpr hd

set_option maxHeartbeats 4000000 in
set_option maxRecDepth 100000 in
/-- X_shift -/
theorem c_X_shiftUp (l : Launch) (D : va_G) (q : Nat → Nat) (κ : Nat → ClassId) (u : SX) (ra : Nat) (hra : ra < 8) (n : Nat) (hn : n < 2 ^ 31) (rt : Nat) (hrt : rt < 8) (sz : Nat) : Met l y_X_shift (.code y_X_shift b_X_shift 5 (some .boolean) :: wG) (wf_rm 4 150 0 0) (wf_Pc D vwCl (wX q κ u) (tyX κ) ([.ref (q 0), .int (nI ra), .int (nI n), .int (nI rt)]) sz) (va_Qi (fun r v => r = wf_bi (decide (wf_NN ≤ wf_Rx u ra * 2 ^ n)) ∧ wf_st u v rt (wf_Rx u ra * 2 ^ n % wf_NN)) (wf_B D vwCl (wX q κ) (tyX κ) (va_A (wX q κ u) sz)) (va_A (wX q κ u) sz)) 0 0 (va_A (wX q κ u) sz) := by
  refine wf_open (by decide) (Nat.le_of_ble_eq_true rfl) k_X_shift ?_
  intro p e s m below meth c ls hsz C hr hlocks hnm hex hP hK hD hl
  subst hsz
  have hx := C.1
  have hb := C.2.1
  have hml := C.2.2.1
  have hown := C.2.2.2.1
  have hts := C.2.2.2.2
  have hA : ∀ j : Nat, s.heap.size ≤ j → va_A (wX q κ u) s.heap.size j := fun j h => Or.inr h
  have hS : va_S (va_A (wX q κ u) s.heap.size) s.heap s.heap [] := va_S.rf
  generalize hAe : va_A (wX q κ u) s.heap.size = A at hA hS hD ⊢
  have hl : lv_has ls 5 [(0, .ref (q 0)), (1, .int (nI ra)), (2, .int (nI n)), (3, .int (nI rt))] := hl
  refine lv_iload_n hx hb d_X_shift_0 rfl (lv_at hl 1 rfl) ?_
  refine kX_chk (r := ra) hra C hl.1 ⟨Nat.le_of_ble_eq_true rfl, Nat.le_of_ble_eq_true rfl⟩ (Nat.le_of_ble_eq_true rfl) ⟨Nat.le_of_ble_eq_true rfl, Nat.le_of_ble_eq_true rfl⟩ d_X_shift_1 ?_
  refine lv_iload_n hx hb d_X_shift_4 rfl (lv_at hl 3 rfl) ?_
  refine kX_chk (r := rt) hrt C hl.1 ⟨Nat.le_of_ble_eq_true rfl, Nat.le_of_ble_eq_true rfl⟩ (Nat.le_of_ble_eq_true rfl) ⟨Nat.le_of_ble_eq_true rfl, Nat.le_of_ble_eq_true rfl⟩ d_X_shift_5 ?_
  refine lv_iload_n hx hb d_X_shift_8 rfl (lv_at hl 2 rfl) ?_
  refine lv_if_lt (tgt := 31) hx hb d_X_shift_9 (by decide) (fun c_1 => False.elim (by first | exact absurd c_1 (nI_pos hn) | exact absurd (nI_pos hn) c_1)) (fun c_1 => ?_)
  refine lv_aload_n hx hb d_X_shift_12 rfl (lv_at hl 0 rfl) ?_
  refine lv_aload_n hx hb d_X_shift_13 rfl (lv_at hl 0 rfl) ?_
  refine gX C hK hP 0 rfl 0 (by decide) k_fl_X_highs rfl d_X_shift_14 ?_
  refine lv_iload_n hx hb d_X_shift_17 rfl (lv_at hl 1 rfl) ?_
  refine wf_lald C hK hP 1 0 rfl rfl (k := ra) rfl hra (by decide) d_X_shift_18 ?_
  refine lv_aload_n hx hb d_X_shift_19 rfl (lv_at hl 0 rfl) ?_
  refine gX C hK hP 0 rfl 1 (by decide) k_fl_X_lows rfl d_X_shift_20 ?_
  refine lv_iload_n hx hb d_X_shift_23 rfl (lv_at hl 1 rfl) ?_
  refine wf_lald C hK hP 2 1 rfl rfl (k := ra) rfl hra (by decide) d_X_shift_24 ?_
  refine lv_iload_n hx hb d_X_shift_25 rfl (lv_at hl 2 rfl) ?_
  refine lv_iload_n hx hb d_X_shift_26 rfl (lv_at hl 3 rfl) ?_
  refine kX_up hn hrt C hl.1 ⟨Nat.le_of_ble_eq_true rfl, Nat.le_of_ble_eq_true rfl⟩ (Nat.le_of_ble_eq_true rfl) ⟨Nat.le_of_ble_eq_true rfl, Nat.le_of_ble_eq_true rfl⟩ hP hK hD hS hA d_X_shift_27 (fun ru_2 u_2 H locs eu_2 hP hD hS => ?_)
  exact wf_retz C hr (by rw [eu_2.1]; exact wf_bi_ret _) hlocks u_2 (eu_2) hP hK hD hS (fun _ h => h) d_X_shift_30

set_option maxHeartbeats 4000000 in
set_option maxRecDepth 100000 in
/-- X_shift -/
theorem c_X_shiftDown (l : Launch) (D : va_G) (q : Nat → Nat) (κ : Nat → ClassId) (u : SX) (ra : Nat) (hra : ra < 8) (n : Nat) (hn0 : 0 < n) (hn : n ≤ 2147483648) (rt : Nat) (hrt : rt < 8) (sz : Nat) : Met l y_X_shift (.code y_X_shift b_X_shift 5 (some .boolean) :: wG) (wf_rm 4 150 0 0) (wf_Pc D vwCl (wX q κ u) (tyX κ) ([.ref (q 0), .int (nI ra), .int (-nI n), .int (nI rt)]) sz) (va_Qi (fun r v => r = wf_bi (decide (wf_Rx u ra % 2 ^ n ≠ 0)) ∧ wf_st u v rt (wf_Rx u ra / 2 ^ n)) (wf_B D vwCl (wX q κ) (tyX κ) (va_A (wX q κ u) sz)) (va_A (wX q κ u) sz)) 0 0 (va_A (wX q κ u) sz) := by
  refine wf_open (by decide) (Nat.le_of_ble_eq_true rfl) k_X_shift ?_
  intro p e s m below meth c ls hsz C hr hlocks hnm hex hP hK hD hl
  subst hsz
  have hx := C.1
  have hb := C.2.1
  have hml := C.2.2.1
  have hown := C.2.2.2.1
  have hts := C.2.2.2.2
  have hA : ∀ j : Nat, s.heap.size ≤ j → va_A (wX q κ u) s.heap.size j := fun j h => Or.inr h
  have hS : va_S (va_A (wX q κ u) s.heap.size) s.heap s.heap [] := va_S.rf
  generalize hAe : va_A (wX q κ u) s.heap.size = A at hA hS hD ⊢
  have hl : lv_has ls 5 [(0, .ref (q 0)), (1, .int (nI ra)), (2, .int (-nI n)), (3, .int (nI rt))] := hl
  refine lv_iload_n hx hb d_X_shift_0 rfl (lv_at hl 1 rfl) ?_
  refine kX_chk (r := ra) hra C hl.1 ⟨Nat.le_of_ble_eq_true rfl, Nat.le_of_ble_eq_true rfl⟩ (Nat.le_of_ble_eq_true rfl) ⟨Nat.le_of_ble_eq_true rfl, Nat.le_of_ble_eq_true rfl⟩ d_X_shift_1 ?_
  refine lv_iload_n hx hb d_X_shift_4 rfl (lv_at hl 3 rfl) ?_
  refine kX_chk (r := rt) hrt C hl.1 ⟨Nat.le_of_ble_eq_true rfl, Nat.le_of_ble_eq_true rfl⟩ (Nat.le_of_ble_eq_true rfl) ⟨Nat.le_of_ble_eq_true rfl, Nat.le_of_ble_eq_true rfl⟩ d_X_shift_5 ?_
  refine lv_iload_n hx hb d_X_shift_8 rfl (lv_at hl 2 rfl) ?_
  refine lv_if_lt (tgt := 31) hx hb d_X_shift_9 (by decide) (fun c_1 => ?_) (fun c_1 => False.elim (by first | exact absurd (wf_neg_lt hn0 hn) c_1 | exact absurd c_1 (wf_neg_lt hn0 hn)))
  refine lv_iload_n hx hb d_X_shift_31 rfl (lv_at hl 2 rfl) ?_
  refine lv_bipush (v := (-128)) hx hb d_X_shift_32 (by decide) ?_
  refine lv_icmp_gt (tgt := 43) hx hb d_X_shift_34 (by decide) (fun c1 => ?_) (fun c1 => ?_)
  · have h1 : n < 128 := (wf_neg_128 hn).mp c1
    refine lv_iload_n hx hb d_X_shift_43 rfl (lv_at hl 2 rfl) ?_
    refine lv_ineg hx hb d_X_shift_44 ?_
    refine lv_topi (fun k_2 ek_2 => ?_)
    have ek_2 : k_2 = nI n := ek_2.trans (Int32.neg_neg)
    subst ek_2
    refine lv_istore (lv' := [(4, .int (nI n)), (0, .ref (q 0)), (1, .int (nI ra)), (2, .int (-nI n)), (3, .int (nI rt))]) hx hb d_X_shift_45 hl (by decide) rfl (fun ls hl => ?_)
    refine lv_aload_n hx hb d_X_shift_47 rfl (lv_at hl 1 rfl) ?_
    refine lv_aload_n hx hb d_X_shift_48 rfl (lv_at hl 1 rfl) ?_
    refine gX C hK hP 0 rfl 0 (by decide) k_fl_X_highs rfl d_X_shift_49 ?_
    refine lv_iload_n hx hb d_X_shift_52 rfl (lv_at hl 2 rfl) ?_
    refine wf_lald C hK hP 1 0 rfl rfl (k := ra) rfl hra (by decide) d_X_shift_53 ?_
    refine lv_aload_n hx hb d_X_shift_54 rfl (lv_at hl 1 rfl) ?_
    refine gX C hK hP 0 rfl 1 (by decide) k_fl_X_lows rfl d_X_shift_55 ?_
    refine lv_iload_n hx hb d_X_shift_58 rfl (lv_at hl 2 rfl) ?_
    refine wf_lald C hK hP 2 1 rfl rfl (k := ra) rfl hra (by decide) d_X_shift_59 ?_
    refine lv_iload hx hb d_X_shift_60 (lv_at hl 0 rfl) ?_
    refine lv_iload_n hx hb d_X_shift_62 rfl (lv_at hl 4 rfl) ?_
    refine kX_down (by omega) hrt C hl.1 ⟨Nat.le_of_ble_eq_true rfl, Nat.le_of_ble_eq_true rfl⟩ (Nat.le_of_ble_eq_true rfl) ⟨Nat.le_of_ble_eq_true rfl, Nat.le_of_ble_eq_true rfl⟩ hP hK hD hS hA d_X_shift_63 (fun ru_3 u_3 H locs eu_3 hP hD hS => ?_)
    exact wf_retz C hr (by rw [eu_3.1]; exact wf_bi_ret _) hlocks u_3 (eu_3) hP hK hD hS (fun _ h => h) d_X_shift_66
  · have h1 : 128 ≤ n := Nat.not_lt.mp (fun h => c1 ((wf_neg_128 hn).mpr h))
    refine lv_sipush (v := nI 128) hx hb d_X_shift_37 (by decide) ?_
    refine lv_goto (tgt := 45) hx hb d_X_shift_40 (by decide) ?_
    refine lv_istore (lv' := [(4, .int (nI 128)), (0, .ref (q 0)), (1, .int (nI ra)), (2, .int (-nI n)), (3, .int (nI rt))]) hx hb d_X_shift_45 hl (by decide) rfl (fun ls hl => ?_)
    refine lv_aload_n hx hb d_X_shift_47 rfl (lv_at hl 1 rfl) ?_
    refine lv_aload_n hx hb d_X_shift_48 rfl (lv_at hl 1 rfl) ?_
    refine gX C hK hP 0 rfl 0 (by decide) k_fl_X_highs rfl d_X_shift_49 ?_
    refine lv_iload_n hx hb d_X_shift_52 rfl (lv_at hl 2 rfl) ?_
    refine wf_lald C hK hP 1 0 rfl rfl (k := ra) rfl hra (by decide) d_X_shift_53 ?_
    refine lv_aload_n hx hb d_X_shift_54 rfl (lv_at hl 1 rfl) ?_
    refine gX C hK hP 0 rfl 1 (by decide) k_fl_X_lows rfl d_X_shift_55 ?_
    refine lv_iload_n hx hb d_X_shift_58 rfl (lv_at hl 2 rfl) ?_
    refine wf_lald C hK hP 2 1 rfl rfl (k := ra) rfl hra (by decide) d_X_shift_59 ?_
    refine lv_iload hx hb d_X_shift_60 (lv_at hl 0 rfl) ?_
    refine lv_iload_n hx hb d_X_shift_62 rfl (lv_at hl 4 rfl) ?_
    refine kX_down (by omega) hrt C hl.1 ⟨Nat.le_of_ble_eq_true rfl, Nat.le_of_ble_eq_true rfl⟩ (Nat.le_of_ble_eq_true rfl) ⟨Nat.le_of_ble_eq_true rfl, Nat.le_of_ble_eq_true rfl⟩ hP hK hD hS hA d_X_shift_63 (fun ru_4 u_4 H locs eu_4 hP hD hS => ?_)
    exact wf_retz C hr (by rw [eu_4.1]; exact wf_bi_ret _) hlocks u_4 (⟨eu_4.1.trans (congrArg wf_bi (decide_eq_decide.mpr (wf_far (wf_Rx_lt u ra) h1).2)), by rw [← (wf_far (wf_Rx_lt u ra) h1).1]; exact eu_4.2⟩) hP hK hD hS (fun _ h => h) d_X_shift_66

set_option maxHeartbeats 4000000 in
set_option maxRecDepth 100000 in
/-- X_jam -/
theorem c_X_jam (l : Launch) (D : va_G) (q : Nat → Nat) (κ : Nat → ClassId) (u : SX) (ra : Nat) (hra : ra < 8) (n : Nat) (hn : n < 2 ^ 31) (rt : Nat) (hrt : rt < 8) (sz : Nat) : Met l y_X_jam (.code y_X_jam b_X_jam 4 none :: wG) (wf_rm 4 150 0 0) (wf_Pc D vwCl (wX q κ u) (tyX κ) ([.ref (q 0), .int (nI ra), .int (nI n), .int (nI rt)]) sz) (va_Qv (fun v => wf_st u v rt (wf_jam (wf_Rx u ra) n)) (wf_B D vwCl (wX q κ) (tyX κ) (va_A (wX q κ u) sz)) (va_A (wX q κ u) sz)) 0 0 (va_A (wX q κ u) sz) := by
  refine wf_open (by decide) (Nat.le_of_ble_eq_true rfl) k_X_jam ?_
  intro p e s m below meth c ls hsz C hr hlocks hnm hex hP hK hD hl
  subst hsz
  have hx := C.1
  have hb := C.2.1
  have hml := C.2.2.1
  have hown := C.2.2.2.1
  have hts := C.2.2.2.2
  have hA : ∀ j : Nat, s.heap.size ≤ j → va_A (wX q κ u) s.heap.size j := fun j h => Or.inr h
  have hS : va_S (va_A (wX q κ u) s.heap.size) s.heap s.heap [] := va_S.rf
  generalize hAe : va_A (wX q κ u) s.heap.size = A at hA hS hD ⊢
  have hl : lv_has ls 4 [(0, .ref (q 0)), (1, .int (nI ra)), (2, .int (nI n)), (3, .int (nI rt))] := hl
  refine lv_iload_n hx hb d_X_jam_0 rfl (lv_at hl 1 rfl) ?_
  refine kX_chk (r := ra) hra C hl.1 ⟨Nat.le_of_ble_eq_true rfl, Nat.le_of_ble_eq_true rfl⟩ (Nat.le_of_ble_eq_true rfl) ⟨Nat.le_of_ble_eq_true rfl, Nat.le_of_ble_eq_true rfl⟩ d_X_jam_1 ?_
  refine lv_iload_n hx hb d_X_jam_4 rfl (lv_at hl 3 rfl) ?_
  refine kX_chk (r := rt) hrt C hl.1 ⟨Nat.le_of_ble_eq_true rfl, Nat.le_of_ble_eq_true rfl⟩ (Nat.le_of_ble_eq_true rfl) ⟨Nat.le_of_ble_eq_true rfl, Nat.le_of_ble_eq_true rfl⟩ d_X_jam_5 ?_
  refine lv_iload_n hx hb d_X_jam_8 rfl (lv_at hl 2 rfl) ?_
  refine lv_if_ge (tgt := 22) hx hb d_X_jam_9 (by decide) (fun c_1 => ?_) (fun c_1 => False.elim (by first | exact absurd (nI_pos' hn) c_1 | exact absurd c_1 (nI_pos' hn)))
  refine lv_aload_n hx hb d_X_jam_22 rfl (lv_at hl 0 rfl) ?_
  refine lv_aload_n hx hb d_X_jam_23 rfl (lv_at hl 0 rfl) ?_
  refine gX C hK hP 0 rfl 0 (by decide) k_fl_X_highs rfl d_X_jam_24 ?_
  refine lv_iload_n hx hb d_X_jam_27 rfl (lv_at hl 1 rfl) ?_
  refine wf_lald C hK hP 1 0 rfl rfl (k := ra) rfl hra (by decide) d_X_jam_28 ?_
  refine lv_aload_n hx hb d_X_jam_29 rfl (lv_at hl 0 rfl) ?_
  refine gX C hK hP 0 rfl 1 (by decide) k_fl_X_lows rfl d_X_jam_30 ?_
  refine lv_iload_n hx hb d_X_jam_33 rfl (lv_at hl 1 rfl) ?_
  refine wf_lald C hK hP 2 1 rfl rfl (k := ra) rfl hra (by decide) d_X_jam_34 ?_
  refine lv_iload_n hx hb d_X_jam_35 rfl (lv_at hl 2 rfl) ?_
  refine lv_iload_n hx hb d_X_jam_36 rfl (lv_at hl 3 rfl) ?_
  refine kX_down hn hrt C hl.1 ⟨Nat.le_of_ble_eq_true rfl, Nat.le_of_ble_eq_true rfl⟩ (Nat.le_of_ble_eq_true rfl) ⟨Nat.le_of_ble_eq_true rfl, Nat.le_of_ble_eq_true rfl⟩ hP hK hD hS hA d_X_jam_37 (fun ru_2 u_2 H locs eu_2 hP hD hS => ?_)
  obtain ⟨er, h1, l1, e1, hv⟩ := eu_2
  refine lv_if_eq (tgt := 53) hx hb d_X_jam_40 (by decide) (fun c1 => ?_) (fun c1 => ?_)
  · exact wf_retv C hr hlocks u_2 (⟨h1, l1, e1, by unfold wf_jam; rw [er, wf_bi0] at c1; rw [if_neg (show ¬ wf_Rx u ra % 2 ^ n ≠ 0 from of_decide_eq_false c1)]; exact hv⟩) hP hK hD hS (fun _ h => h) d_X_jam_53
  · refine lv_aload_n hx hb d_X_jam_43 rfl (lv_at hl 0 rfl) ?_
    refine gX C hK hP 0 rfl 1 (by decide) k_fl_X_lows rfl d_X_jam_44 ?_
    refine lv_iload_n hx hb d_X_jam_47 rfl (lv_at hl 3 rfl) ?_
    refine lv_dup2_11 hx hb d_X_jam_48 rfl rfl ?_
    refine wf_lald C hK hP 2 1 rfl rfl (k := rt) rfl hrt (by decide) d_X_jam_49 ?_
    refine lv_lconst (v := 1) hx hb d_X_jam_50 (by decide) ?_
    refine lv_lor hx hb d_X_jam_51 ?_
    refine wf_last C hK hP hD hS 2 1 rfl rfl (k := rt) rfl hrt (by decide) d_X_jam_52 (fun H locs hP hD hS => ?_)
    have hP : va_P D vwCl (wX q κ (u_2.1, va_up u_2.2.1 rt ((u_2.2.1 rt) ||| 1), u_2.2.2)) H := hP
    have hD : va_D A (wX q κ (u_2.1, va_up u_2.2.1 rt ((u_2.2.1 rt) ||| 1), u_2.2.2)) := hD
    generalize eu_3 : ((u_2.1, va_up u_2.2.1 rt ((u_2.2.1 rt) ||| 1), u_2.2.2) : SX) = u_3 at hP hD
    exact wf_retv C hr hlocks u_3 (⟨h1, l1 ||| 1, by subst e1; rw [← eu_3]; show (va_up u.1 rt h1, va_up (va_up u.2.1 rt l1) rt (va_up u.2.1 rt l1 rt ||| 1), u.2.2) = _; rw [bx_uu, va_up_self], by unfold wf_jam; rw [er, wf_bi1] at c1; rw [if_pos (show wf_Rx u ra % 2 ^ n ≠ 0 from of_decide_eq_true c1), wf_V_or, show wf_V h1 l1 = wf_Rx u ra / 2 ^ n from hv]⟩) hP hK hD hS (fun _ h => h) d_X_jam_53

set_option maxHeartbeats 4000000 in
set_option maxRecDepth 100000 in
/-- X_digit -/
theorem c_X_digitIn (l : Launch) (D : va_G) (q : Nat → Nat) (κ : Nat → ClassId) (u : SX) (f : Nat) (hf9 : f ≤ 39) (hf : u.2.2.2.2 = nI f) (j : Nat) (hj : f + j < 39) (sz : Nat) : Met l y_X_digit (.code y_X_digit b_X_digit 2 (some .int) :: wG) (wf_rm 0 0 0 0) (wf_Pc D vwCl (wX q κ u) (tyX κ) ([.ref (q 0), .int (nI j)]) sz) (vp_Si (fun r => r = u.2.2.2.1 (f + j))) 0 0 (fun _ => False) := by
  refine wf_open (by decide) (Nat.le_of_ble_eq_true rfl) k_X_digit ?_
  intro p e s m below meth c ls hsz C hr hlocks hnm hex hP hK hD hl
  subst hsz
  have hx := C.1
  have hb := C.2.1
  have hml := C.2.2.1
  have hown := C.2.2.2.1
  have hts := C.2.2.2.2
  have hA : ∀ j : Nat, s.heap.size ≤ j → va_A (wX q κ u) s.heap.size j := fun j h => Or.inr h
  have hS : va_S (va_A (wX q κ u) s.heap.size) s.heap s.heap [] := va_S.rf
  generalize hAe : va_A (wX q κ u) s.heap.size = A at hA hS hD ⊢
  have hl : lv_has ls 2 [(0, .ref (q 0)), (1, .int (nI j))] := hl
  refine lv_iload_n hx hb d_X_digit_0 rfl (lv_at hl 1 rfl) ?_
  refine lv_if_lt (tgt := 15) hx hb d_X_digit_1 (by decide) (fun c_1 => False.elim (by first | exact absurd c_1 (nI_pos (by omega)) | exact absurd (nI_pos (by omega)) c_1)) (fun c_1 => ?_)
  refine lv_iload_n hx hb d_X_digit_4 rfl (lv_at hl 1 rfl) ?_
  refine lv_bipush (v := 39) hx hb d_X_digit_5 (by decide) ?_
  refine lv_aload_n hx hb d_X_digit_7 rfl (lv_at hl 0 rfl) ?_
  refine gX C hK hP 0 rfl 4 (by decide) k_fl_X_firstDigit rfl d_X_digit_8 ?_
  refine lv_topi (fun k_2 ek_2 => ?_)
  have ek_2 : k_2 = nI f := ek_2.trans (hf)
  subst ek_2
  refine lv_isub hx hb d_X_digit_11 ?_
  refine lv_topi (fun k_3 ek_3 => ?_)
  have ek_3 : k_3 = nI (39 - f) := ek_3.trans (pk_sub (a := 39) hf9)
  subst ek_3
  refine lv_icmp_lt (tgt := 17) hx hb d_X_digit_12 (by decide) (fun c_4 => ?_) (fun c_4 => False.elim (by first | exact absurd (nI_lt (by omega) (by omega)) c_4 | exact absurd c_4 (nI_lt (by omega) (by omega))))
  refine lv_aload_n hx hb d_X_digit_17 rfl (lv_at hl 0 rfl) ?_
  refine gX C hK hP 0 rfl 3 (by decide) k_fl_X_digitRow rfl d_X_digit_18 ?_
  refine lv_aload_n hx hb d_X_digit_21 rfl (lv_at hl 0 rfl) ?_
  refine gX C hK hP 0 rfl 4 (by decide) k_fl_X_firstDigit rfl d_X_digit_22 ?_
  refine lv_topi (fun k_5 ek_5 => ?_)
  have ek_5 : k_5 = nI f := ek_5.trans (hf)
  subst ek_5
  refine lv_iload_n hx hb d_X_digit_25 rfl (lv_at hl 1 rfl) ?_
  refine lv_iadd hx hb d_X_digit_26 ?_
  refine lv_topi (fun k_6 ek_6 => ?_)
  have ek_6 : k_6 = nI (f + j) := ek_6.trans (nI_add f j)
  subst ek_6
  refine wf_iald C hK hP 4 3 rfl rfl (k := f + j) rfl hj (by decide) d_X_digit_27 ?_
  exact W.iret hx hb hr (fun t ht hW => ⟨_, rfl, rfl, ht⟩) (fun q h => by cases h) d_X_digit_28 hlocks

set_option maxHeartbeats 4000000 in
set_option maxRecDepth 100000 in
/-- X_digit -/
theorem c_X_digitBig (l : Launch) (D : va_G) (q : Nat → Nat) (κ : Nat → ClassId) (u : SX) (f : Nat) (hf9 : f ≤ 39) (hf : u.2.2.2.2 = nI f) (j : Nat) (hj31 : j < 2 ^ 31) (hj : 39 ≤ f + j) (sz : Nat) : Met l y_X_digit (.code y_X_digit b_X_digit 2 (some .int) :: wG) (wf_rm 0 0 0 0) (wf_Pc D vwCl (wX q κ u) (tyX κ) ([.ref (q 0), .int (nI j)]) sz) (vp_Si (fun r => r = -1)) 0 0 (fun _ => False) := by
  refine wf_open (by decide) (Nat.le_of_ble_eq_true rfl) k_X_digit ?_
  intro p e s m below meth c ls hsz C hr hlocks hnm hex hP hK hD hl
  subst hsz
  have hx := C.1
  have hb := C.2.1
  have hml := C.2.2.1
  have hown := C.2.2.2.1
  have hts := C.2.2.2.2
  have hA : ∀ j : Nat, s.heap.size ≤ j → va_A (wX q κ u) s.heap.size j := fun j h => Or.inr h
  have hS : va_S (va_A (wX q κ u) s.heap.size) s.heap s.heap [] := va_S.rf
  generalize hAe : va_A (wX q κ u) s.heap.size = A at hA hS hD ⊢
  have hl : lv_has ls 2 [(0, .ref (q 0)), (1, .int (nI j))] := hl
  refine lv_iload_n hx hb d_X_digit_0 rfl (lv_at hl 1 rfl) ?_
  refine lv_if_lt (tgt := 15) hx hb d_X_digit_1 (by decide) (fun c_1 => False.elim (by first | exact absurd c_1 (nI_pos hj31) | exact absurd (nI_pos hj31) c_1)) (fun c_1 => ?_)
  refine lv_iload_n hx hb d_X_digit_4 rfl (lv_at hl 1 rfl) ?_
  refine lv_bipush (v := 39) hx hb d_X_digit_5 (by decide) ?_
  refine lv_aload_n hx hb d_X_digit_7 rfl (lv_at hl 0 rfl) ?_
  refine gX C hK hP 0 rfl 4 (by decide) k_fl_X_firstDigit rfl d_X_digit_8 ?_
  refine lv_topi (fun k_2 ek_2 => ?_)
  have ek_2 : k_2 = nI f := ek_2.trans (hf)
  subst ek_2
  refine lv_isub hx hb d_X_digit_11 ?_
  refine lv_topi (fun k_3 ek_3 => ?_)
  have ek_3 : k_3 = nI (39 - f) := ek_3.trans (pk_sub (a := 39) hf9)
  subst ek_3
  refine lv_icmp_lt (tgt := 17) hx hb d_X_digit_12 (by decide) (fun c_4 => False.elim (by first | exact absurd c_4 (nI_nlt (by omega) (by omega)) | exact absurd (nI_nlt (by omega) (by omega)) c_4)) (fun c_4 => ?_)
  refine lv_iconst (v := (-1)) hx hb d_X_digit_15 (by decide) ?_
  exact W.iret hx hb hr (fun t ht hW => ⟨_, rfl, rfl, ht⟩) (fun q h => by cases h) d_X_digit_16 hlocks

set_option maxHeartbeats 4000000 in
set_option maxRecDepth 100000 in
/-- X_digit -/
theorem c_X_digitNeg (l : Launch) (D : va_G) (q : Nat → Nat) (κ : Nat → ClassId) (u : SX) (i : Int32) (hi0 : i < 0) (sz : Nat) : Met l y_X_digit (.code y_X_digit b_X_digit 2 (some .int) :: wG) (wf_rm 0 0 0 0) (wf_Pc D vwCl (wX q κ u) (tyX κ) ([.ref (q 0), .int i]) sz) (vp_Si (fun r => r = -1)) 0 0 (fun _ => False) := by
  refine wf_open (by decide) (Nat.le_of_ble_eq_true rfl) k_X_digit ?_
  intro p e s m below meth c ls hsz C hr hlocks hnm hex hP hK hD hl
  subst hsz
  have hx := C.1
  have hb := C.2.1
  have hml := C.2.2.1
  have hown := C.2.2.2.1
  have hts := C.2.2.2.2
  have hA : ∀ j : Nat, s.heap.size ≤ j → va_A (wX q κ u) s.heap.size j := fun j h => Or.inr h
  have hS : va_S (va_A (wX q κ u) s.heap.size) s.heap s.heap [] := va_S.rf
  generalize hAe : va_A (wX q κ u) s.heap.size = A at hA hS hD ⊢
  have hl : lv_has ls 2 [(0, .ref (q 0)), (1, .int (i))] := hl
  refine lv_iload_n hx hb d_X_digit_0 rfl (lv_at hl 1 rfl) ?_
  refine lv_if_lt (tgt := 15) hx hb d_X_digit_1 (by decide) (fun c_1 => ?_) (fun c_1 => False.elim (by first | exact absurd (hi0) c_1 | exact absurd c_1 (hi0)))
  refine lv_iconst (v := (-1)) hx hb d_X_digit_15 (by decide) ?_
  exact W.iret hx hb hr (fun t ht hW => ⟨_, rfl, rfl, ht⟩) (fun q h => by cases h) d_X_digit_16 hlocks

set_option maxHeartbeats 4000000 in
set_option maxRecDepth 100000 in
/-- X_next -/
theorem c_X_next (l : Launch) (D : va_G) (q : Nat → Nat) (κ : Nat → ClassId) (u : SX) (rk : Nat) (hrk : rk < 8) (d : Nat) (hd : d < 10) (sz : Nat) : Met l y_X_next (.code y_X_next b_X_next 11 (some .boolean) :: wG) (wf_rm 4 150 0 0) (wf_Pc D vwCl (wX q κ u) (tyX κ) ([.ref (q 0), .int (nI rk), .int (nI d)]) sz) (va_Qi (fun r v => (r = 1 ∧ wf_Rx u rk * 10 + d < wf_NN ∧ wf_st u v rk (wf_Rx u rk * 10 + d)) ∨ (r = 0 ∧ wf_NN ≤ wf_Rx u rk * 10 + d ∧ v = u)) (wf_B D vwCl (wX q κ) (tyX κ) (va_A (wX q κ u) sz)) (va_A (wX q κ u) sz)) 0 0 (va_A (wX q κ u) sz) := by
  refine wf_open (by decide) (Nat.le_of_ble_eq_true rfl) k_X_next ?_
  intro p e s m below meth c ls hsz C hr hlocks hnm hex hP hK hD hl
  subst hsz
  have hx := C.1
  have hb := C.2.1
  have hml := C.2.2.1
  have hown := C.2.2.2.1
  have hts := C.2.2.2.2
  have hA : ∀ j : Nat, s.heap.size ≤ j → va_A (wX q κ u) s.heap.size j := fun j h => Or.inr h
  have hS : va_S (va_A (wX q κ u) s.heap.size) s.heap s.heap [] := va_S.rf
  generalize hAe : va_A (wX q κ u) s.heap.size = A at hA hS hD ⊢
  have hl : lv_has ls 11 [(0, .ref (q 0)), (1, .int (nI rk)), (2, .int (nI d))] := hl
  refine lv_iload_n hx hb d_X_next_0 rfl (lv_at hl 1 rfl) ?_
  refine kX_chk (r := rk) hrk C hl.1 ⟨Nat.le_of_ble_eq_true rfl, Nat.le_of_ble_eq_true rfl⟩ (Nat.le_of_ble_eq_true rfl) ⟨Nat.le_of_ble_eq_true rfl, Nat.le_of_ble_eq_true rfl⟩ d_X_next_1 ?_
  refine lv_iload_n hx hb d_X_next_4 rfl (lv_at hl 2 rfl) ?_
  refine lv_if_lt (tgt := 17) hx hb d_X_next_5 (by decide) (fun c_1 => False.elim (by first | exact absurd c_1 (nI_pos (by omega)) | exact absurd (nI_pos (by omega)) c_1)) (fun c_1 => ?_)
  refine lv_iload_n hx hb d_X_next_8 rfl (lv_at hl 2 rfl) ?_
  refine lv_i2l hx hb d_X_next_9 rfl ?_
  refine lv_ldc2 (v := 10) hx hb hown (hts _ (k_cl_X_93)) d_X_next_10 ?_
  refine W.lcmp hx hb d_X_next_13 ?_
  refine lv_if_lt (tgt := 27) hx hb d_X_next_14 (by decide) (fun c_2 => ?_) (fun c_2 => False.elim (by first | exact absurd ((lg_cmp_lt _ _).mpr (wf_i2l hd).2) c_2 | exact absurd c_2 ((lg_cmp_lt _ _).mpr (wf_i2l hd).2)))
  refine lv_aload_n hx hb d_X_next_27 rfl (lv_at hl 0 rfl) ?_
  refine gX C hK hP 0 rfl 1 (by decide) k_fl_X_lows rfl d_X_next_28 ?_
  refine lv_iload_n hx hb d_X_next_31 rfl (lv_at hl 1 rfl) ?_
  refine wf_lald C hK hP 2 1 rfl rfl (k := rk) rfl hrk (by decide) d_X_next_32 ?_
  refine lv_ldc2 (v := 10) hx hb hown (hts _ (k_cl_X_93)) d_X_next_33 ?_
  refine lv_lmul hx hb d_X_next_36 ?_
  refine lv_topl (fun v_3 ev_3 => ?_)
  refine lv_lstore_n (lv' := [(3, .long (v_3)), (0, .ref (q 0)), (1, .int (nI rk)), (2, .int (nI d))]) hx hb d_X_next_37 rfl hl (by decide) rfl (fun ls hl => ?_)
  refine lv_lload_n hx hb d_X_next_38 rfl (lv_at hl 0 rfl) ?_
  refine lv_iload_n hx hb d_X_next_39 rfl (lv_at hl 3 rfl) ?_
  refine lv_i2l hx hb d_X_next_40 rfl ?_
  refine lv_ladd hx hb d_X_next_41 ?_
  refine lv_topl (fun v_4 ev_4 => ?_)
  refine lv_lstore (lv' := [(5, .long (v_4)), (3, .long (v_3)), (0, .ref (q 0)), (1, .int (nI rk)), (2, .int (nI d))]) hx hb d_X_next_42 hl (by decide) rfl (fun ls hl => ?_)
  refine lv_aload_n hx hb d_X_next_44 rfl (lv_at hl 2 rfl) ?_
  refine gX C hK hP 0 rfl 1 (by decide) k_fl_X_lows rfl d_X_next_45 ?_
  refine lv_iload_n hx hb d_X_next_48 rfl (lv_at hl 3 rfl) ?_
  refine wf_lald C hK hP 2 1 rfl rfl (k := rk) rfl hrk (by decide) d_X_next_49 ?_
  refine lv_ldc2 (v := 10) hx hb hown (hts _ (k_cl_X_93)) d_X_next_50 ?_
  refine kX_over C hl.1 ⟨Nat.le_of_ble_eq_true rfl, Nat.le_of_ble_eq_true rfl⟩ (Nat.le_of_ble_eq_true rfl) ⟨Nat.le_of_ble_eq_true rfl, Nat.le_of_ble_eq_true rfl⟩ d_X_next_53 (fun r_5 hr_5 => ?_)
  refine lv_lload hx hb d_X_next_56 (lv_at hl 0 rfl) ?_
  refine lv_lload_n hx hb d_X_next_58 rfl (lv_at hl 1 rfl) ?_
  refine kX_one C hl.1 ⟨Nat.le_of_ble_eq_true rfl, Nat.le_of_ble_eq_true rfl⟩ (Nat.le_of_ble_eq_true rfl) ⟨Nat.le_of_ble_eq_true rfl, Nat.le_of_ble_eq_true rfl⟩ d_X_next_59 ?_
  refine lv_ladd hx hb d_X_next_62 ?_
  refine lv_topl (fun v_6 ev_6 => ?_)
  refine lv_lstore (lv' := [(7, .long (v_6)), (5, .long (v_4)), (3, .long (v_3)), (0, .ref (q 0)), (1, .int (nI rk)), (2, .int (nI d))]) hx hb d_X_next_63 hl (by decide) rfl (fun ls hl => ?_)
  refine lv_aload_n hx hb d_X_next_65 rfl (lv_at hl 3 rfl) ?_
  refine gX C hK hP 0 rfl 0 (by decide) k_fl_X_highs rfl d_X_next_66 ?_
  refine lv_iload_n hx hb d_X_next_69 rfl (lv_at hl 4 rfl) ?_
  refine wf_lald C hK hP 1 0 rfl rfl (k := rk) rfl hrk (by decide) d_X_next_70 ?_
  refine lv_ldc2 (v := 10) hx hb hown (hts _ (k_cl_X_93)) d_X_next_71 ?_
  refine lv_lmul hx hb d_X_next_74 ?_
  refine lv_lload hx hb d_X_next_75 (lv_at hl 0 rfl) ?_
  refine lv_ladd hx hb d_X_next_77 ?_
  refine lv_topl (fun v_7 ev_7 => ?_)
  refine lv_lstore (lv' := [(9, .long (v_7)), (7, .long (v_6)), (5, .long (v_4)), (3, .long (v_3)), (0, .ref (q 0)), (1, .int (nI rk)), (2, .int (nI d))]) hx hb d_X_next_78 hl (by decide) rfl (fun ls hl => ?_)
  refine lv_aload_n hx hb d_X_next_80 rfl (lv_at hl 4 rfl) ?_
  refine gX C hK hP 0 rfl 0 (by decide) k_fl_X_highs rfl d_X_next_81 ?_
  refine lv_iload_n hx hb d_X_next_84 rfl (lv_at hl 5 rfl) ?_
  refine wf_lald C hK hP 1 0 rfl rfl (k := rk) rfl hrk (by decide) d_X_next_85 ?_
  refine lv_ldc2 (v := 10) hx hb hown (hts _ (k_cl_X_93)) d_X_next_86 ?_
  refine kX_over C hl.1 ⟨Nat.le_of_ble_eq_true rfl, Nat.le_of_ble_eq_true rfl⟩ (Nat.le_of_ble_eq_true rfl) ⟨Nat.le_of_ble_eq_true rfl, Nat.le_of_ble_eq_true rfl⟩ d_X_next_89 (fun r_8 hr_8 => ?_)
  refine lv_lload hx hb d_X_next_92 (lv_at hl 0 rfl) ?_
  refine lv_lload hx hb d_X_next_94 (lv_at hl 1 rfl) ?_
  refine kX_one C hl.1 ⟨Nat.le_of_ble_eq_true rfl, Nat.le_of_ble_eq_true rfl⟩ (Nat.le_of_ble_eq_true rfl) ⟨Nat.le_of_ble_eq_true rfl, Nat.le_of_ble_eq_true rfl⟩ d_X_next_96 ?_
  refine lv_ladd hx hb d_X_next_99 ?_
  refine lv_lconst (v := 0) hx hb d_X_next_100 (by decide) ?_
  refine W.lcmp hx hb d_X_next_101 ?_
  have hten := wf_ten (h := u.1 rk) (l := u.2.1 rk) (d := Int32.toInt64 (nI d)) (P := r_5) (Q := r_8) (cy := v_6) (by rw [(wf_i2l hd).1]; exact hd) hr_5 hr_8 (by rw [ev_6, ev_4, ev_3])
  rw [(wf_i2l hd).1, ← ev_7] at hten
  refine lv_if_eq (tgt := 107) hx hb d_X_next_102 (by decide) (fun c1 => ?_) (fun c1 => ?_)
  · have h1 : wf_Rx u rk * 10 + d < wf_NN := Nat.not_le.mp (fun h => hten.1.mpr h ((lg_cmp_eq _ _).mp c1))
    refine lv_aload_n hx hb d_X_next_107 rfl (lv_at hl 4 rfl) ?_
    refine lv_iload_n hx hb d_X_next_108 rfl (lv_at hl 5 rfl) ?_
    refine lv_lload hx hb d_X_next_109 (lv_at hl 0 rfl) ?_
    refine lv_lload hx hb d_X_next_111 (lv_at hl 2 rfl) ?_
    refine kX_store (r := rk) hrk C hl.1 ⟨Nat.le_of_ble_eq_true rfl, Nat.le_of_ble_eq_true rfl⟩ (Nat.le_of_ble_eq_true rfl) ⟨Nat.le_of_ble_eq_true rfl, Nat.le_of_ble_eq_true rfl⟩ hP hK hD hS hA d_X_next_113 (fun u_9 H locs eu_9 hP hD hS => ?_)
    refine lv_iconst (v := 1) hx hb d_X_next_116 (by decide) ?_
    exact wf_retz C hr (rfl) hlocks u_9 (Or.inl ⟨rfl, h1, _, _, eu_9, by rw [ev_4, ev_3]; exact hten.2 h1⟩) hP hK hD hS (fun _ h => h) d_X_next_117
  · have h1 : wf_NN ≤ wf_Rx u rk * 10 + d := hten.1.mp (fun h => c1 ((lg_cmp_eq _ _).mpr h))
    refine lv_iconst (v := 0) hx hb d_X_next_105 (by decide) ?_
    exact wf_retz C hr (rfl) hlocks u (Or.inr ⟨rfl, h1, rfl⟩) hP hK hD hS (fun _ h => h) d_X_next_106
