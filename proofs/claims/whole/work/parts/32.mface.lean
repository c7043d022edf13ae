/-! ===== the reference: set, half, add, subtract, zeros, compare, digit ===== -/
theorem wf_dn64 {i : Nat} (h : i < 64) : wf_dn 64 i = nI (63 - i) := wf_dn_nI h
theorem wf_dn128 {i : Nat} (h : i < 128) : wf_dn 128 i = nI (127 - i) := wf_dn_nI h
theorem wf_tb_lo {h l : Nat} {i : Nat} (hl : l < 18446744073709551616) (hi : i < 64) : (h * 18446744073709551616 + l).testBit i = decide (l / 2 ^ i % 2 = 1) := by
  rw [show h * 18446744073709551616 + l = 2 ^ 64 * h + l from by rw [Nat.mul_comm], Nat.testBit_two_pow_mul_add h (show l < 2 ^ 64 from hl), if_pos hi, Nat.testBit_eq_decide_div_mod_eq]
theorem wf_tb_hi {h l : Nat} {i : Nat} (hl : l < 18446744073709551616) (hi : 64 ≤ i) : (h * 18446744073709551616 + l).testBit i = decide (h / 2 ^ (i - 64) % 2 = 1) := by
  rw [show h * 18446744073709551616 + l = 2 ^ 64 * h + l from by rw [Nat.mul_comm], Nat.testBit_two_pow_mul_add h (show l < 2 ^ 64 from hl), if_neg (by omega), Nat.testBit_eq_decide_div_mod_eq]
theorem wf_bit_lo (h lo : Int64) {i : Nat} (hi : i < 64) : (lo >>> ((nI i).toInt64 &&& 63)) &&& 1 = 1 ↔ (wf_V h lo).testBit i = true := by
  rw [wf_sar lo hi, show (wf_V h lo).testBit i = _ from wf_tb_lo (uN_lt lo) hi]
  exact decide_eq_true_iff.symm
theorem wf_bit_hi (h lo : Int64) {i : Nat} (h1 : 64 ≤ i) (h2 : i < 128) : (h >>> ((nI (i - 64)).toInt64 &&& 63)) &&& 1 = 1 ↔ (wf_V h lo).testBit i = true := by
  rw [wf_sar h (k := i - 64) (by omega), show (wf_V h lo).testBit i = _ from wf_tb_hi (uN_lt lo) h1]
  exact decide_eq_true_iff.symm
theorem wf_tb_sm (N : Nat) (h : N < wf_NN) : wf_sm (fun k => N.testBit (0 + k)) 128 = N := by
  have e : (fun k => N.testBit (0 + k)) = fun k => N.testBit k := funext fun k => by rw [Nat.zero_add]
  rw [e, wf_sm_tb, wf_p128]
  exact Nat.mod_eq_of_lt h
theorem wf_mW_put {u v : SM} {S : Nat → Bool} {s r N : Nat} {c : Int32} {B : Nat → Bool} (hB : ∀ j, j < 8 → wf_R B j = wf_R u.2.1 j) (h1 : v.1 = c) (h2 : v.2.1 = va_cpy S B s (128 * r) 128) (h3 : v.2.2.2.2.2 = u.2.2.2.2.2) (hN : wf_sm (fun k => S (s + k)) 128 = N) : wf_mW u v c (va_up (wf_R u.2.1) r N) :=
  ⟨h1, fun j hj => by rw [h2]; exact wf_R_upd _ _ _ _ _ hN (hB j hj), h3⟩

set_option maxHeartbeats 4000000 in
set_option maxRecDepth 100000 in
/-- M_set -/
theorem c_M_set (l : Launch) (D : va_G) (q : Nat → Nat) (κ : Nat → ClassId) (u : SM) (ra : Nat) (hra : ra < 8) (h lo : Int64) (sz : Nat) : Met l y_M_set (.code y_M_set b_M_set 7 none :: wG) (wf_rm 1 30 0 0) (wf_Pc D vwCl (wM q κ u) (tyM κ) ([.ref (q 0), .int (nI ra), .long h, .long lo]) sz) (va_Qv (fun v => wf_mW u v 0 (va_up (wf_R u.2.1) ra (wf_V h lo))) (wf_B D vwCl (wM q κ) (tyM κ) (va_A (wM q κ u) sz)) (va_A (wM q κ u) sz)) 0 0 (va_A (wM q κ u) sz) := by
  refine wf_open (by decide) (Nat.le_of_ble_eq_true rfl) k_M_set ?_
  intro p e s m below meth c ls hsz C hr hlocks hnm hex hP hK hD hl
  subst hsz
  have hx := C.1
  have hb := C.2.1
  have hml := C.2.2.1
  have hown := C.2.2.2.1
  have hts := C.2.2.2.2
  have hA : ∀ j : Nat, s.heap.size ≤ j → va_A (wM q κ u) s.heap.size j := fun j h => Or.inr h
  have hS : va_S (va_A (wM q κ u) s.heap.size) s.heap s.heap [] := va_S.rf
  generalize hAe : va_A (wM q κ u) s.heap.size = A at hA hS hD ⊢
  have hl : lv_has ls 7 [(0, .ref (q 0)), (1, .int (nI ra)), (2, .long (h)), (4, .long (lo))] := hl
  refine lv_aload_n hx hb d_M_set_0 rfl (lv_at hl 0 rfl) ?_
  refine lv_iload_n hx hb d_M_set_1 rfl (lv_at hl 1 rfl) ?_
  refine kM_ok (r := ra) hra C hl.1 ⟨Nat.le_of_ble_eq_true rfl, Nat.le_of_ble_eq_true rfl⟩ (Nat.le_of_ble_eq_true rfl) ⟨Nat.le_of_ble_eq_true rfl, Nat.le_of_ble_eq_true rfl⟩ d_M_set_2 ?_
  refine lv_if_eq (tgt := 12) hx hb d_M_set_5 (by decide) (fun _ => ?_) (fun c_1 => False.elim (absurd c_1 (by decide)))
  refine lv_iconst (v := 0) hx hb d_M_set_12 (by decide) ?_
  refine pM_code C hK hP hD hS 0 rfl (Nat.le_of_ble_eq_true rfl) d_M_set_13 (fun H locs hP hD hS => ?_)
  have hP : va_P D vwCl (wM q κ (0, u.2)) H := hP
  have hD : va_D A (wM q κ (0, u.2)) := hD
  generalize eu_2 : ((0, u.2) : SM) = u_2 at hP hD
  refine lv_iconst (v := 0) hx hb d_M_set_16 (by decide) ?_
  refine lv_istore (lv' := [(6, .int (0)), (0, .ref (q 0)), (1, .int (nI ra)), (2, .long (h)), (4, .long (lo))]) hx hb d_M_set_17 hl (by decide) rfl (fun ls hl => ?_)
  refine wf_forH (σ := SM) 128 (fun i x => x = (0, va_cpy (fun k => (wf_V h lo).testBit k) u.2.1 0 (128 * ra) i, u.2.2)) (fun x => wM q κ x) (fun i x => [(6, .int (nI i)), (0, .ref (q 0)), (1, .int (nI ra)), (2, .long (h)), (4, .long (lo))]) (fun i x H locs ls hi hI hP hD hS hl ih => ?_) (fun x H locs ls hI hP hD hS hl => ?_) u_2 (by rw [wf_cpy0]; exact eu_2.symm) hP hD hS (lv_sub hl [0, 1, 2, 3, 4] rfl)
  · have hP : va_P D vwCl (wM q κ x) H := hP
    have hD : va_D A (wM q κ x) := hD
    have hl : lv_has ls 7 [(6, .int (nI i)), (0, .ref (q 0)), (1, .int (nI ra)), (2, .long (h)), (4, .long (lo))] := hl
    have hI : x = (0, va_cpy (fun k => (wf_V h lo).testBit k) u.2.1 0 (128 * ra) i, u.2.2) := hI
    refine lv_iload hx hb d_M_set_19 (lv_at hl 0 rfl) ?_
    refine lv_sipush (v := 128) hx hb d_M_set_21 (by decide) ?_
    refine lv_icmp_ge (tgt := 87) hx hb d_M_set_24 (by decide) (fun c_3 => False.elim (by first | exact absurd c_3 (nI_ge hi (by decide)) | exact absurd (nI_ge hi (by decide)) c_3)) (fun c_3 => ?_)
    refine lv_aload_n hx hb d_M_set_27 rfl (lv_at hl 1 rfl) ?_
    refine gM C hK hP 0 rfl 0 (by decide) k_fl_M_code rfl d_M_set_28 ?_
    refine lv_topi (fun k_4 ek_4 => ?_)
    have ek_4 : k_4 = 0 := ek_4.trans (by rw [hI])
    subst ek_4
    refine lv_if_ne (tgt := 87) hx hb d_M_set_31 (by decide) (fun c_5 => False.elim (absurd c_5 (by decide))) (fun _ => ?_)
    refine lv_aload_n hx hb d_M_set_34 rfl (lv_at hl 1 rfl) ?_
    refine gM C hK hP 0 rfl 1 (by decide) k_fl_M_bits rfl d_M_set_35 ?_
    refine lv_sipush (v := 128) hx hb d_M_set_38 (by decide) ?_
    refine lv_iload_n hx hb d_M_set_41 rfl (lv_at hl 2 rfl) ?_
    refine lv_imul hx hb d_M_set_42 ?_
    refine lv_iload hx hb d_M_set_43 (lv_at hl 0 rfl) ?_
    refine lv_iadd hx hb d_M_set_45 ?_
    refine wf_cutI (pcj := 80) (ls := ls) (rest := [.int ((128 * (nI ra)) + (nI i)), .ref (q 1)]) (fun z => z = wf_bi ((wf_V h lo).testBit i)) (fun z_6 ez_6 => ?_) (fun jn => ?_)
    · subst ez_6
      refine wf_zast C hK hP hD hS 1 0 rfl rfl (k := 128 * ra + i) (b := (((wf_V h lo).testBit i))) (wf_ia (x := 128 * ra) (y := i) (wf_im (x := 128) (y := ra) rfl rfl) rfl) (by omega) (by decide) d_M_set_80 (fun H locs hP hD hS => ?_)
      have hP : va_P D vwCl (wM q κ (x.1, va_up x.2.1 (128 * ra + i) (((wf_V h lo).testBit i)), x.2.2)) H := hP
      have hD : va_D A (wM q κ (x.1, va_up x.2.1 (128 * ra + i) (((wf_V h lo).testBit i)), x.2.2)) := hD
      generalize eu_7 : ((x.1, va_up x.2.1 (128 * ra + i) (((wf_V h lo).testBit i)), x.2.2) : SM) = u_7 at hP hD
      refine lv_iinc (v := nI (i + 1)) (lv' := [(6, .int (nI (i + 1))), (0, .ref (q 0)), (1, .int (nI ra)), (2, .long (h)), (4, .long (lo))]) hx hb d_M_set_81 hl (k := 0) rfl (nI_1 _) (by decide) rfl (fun ls hl => ?_)
      refine lv_goto (tgt := 19) hx hb d_M_set_84 (by decide) ?_
      exact ih u_7 H locs ls (by rw [← eu_7, hI, show (wf_V h lo).testBit i = (wf_V h lo).testBit (0 + i) from by rw [Nat.zero_add]]; exact congrArg (fun z => ((0 : Int32), z, u.2.2)) (wf_cpyS (fun k => (wf_V h lo).testBit k) _ _ _ _)) hP hD hS (lv_sub hl [0, 1, 2, 3, 4] rfl)
    · refine lv_iload hx hb d_M_set_46 (lv_at hl 0 rfl) ?_
      refine lv_bipush (v := 64) hx hb d_M_set_48 (by decide) ?_
      refine lv_icmp_ge (tgt := 61) hx hb d_M_set_50 (by decide) (fun c_8 => ?_) (fun c_8 => ?_)
      · have h64 : 64 ≤ i := Nat.not_lt.mp (fun h => absurd c_8 (nI_ge h (by decide)))
        refine lv_lload_n hx hb d_M_set_61 rfl (lv_at hl 3 rfl) ?_
        refine lv_iload hx hb d_M_set_62 (lv_at hl 0 rfl) ?_
        refine lv_bipush (v := 64) hx hb d_M_set_64 (by decide) ?_
        refine lv_isub hx hb d_M_set_66 ?_
        refine lv_topi (fun k_9 ek_9 => ?_)
        have ek_9 : k_9 = nI (i - 64) := ek_9.trans (wf_is rfl rfl h64)
        subst ek_9
        refine lv_lshr hx hb d_M_set_67 rfl ?_
        refine lv_lconst (v := 1) hx hb d_M_set_68 (by decide) ?_
        refine lv_land hx hb d_M_set_69 ?_
        refine lv_lconst (v := 1) hx hb d_M_set_70 (by decide) ?_
        refine W.lcmp hx hb d_M_set_71 ?_
        refine lv_if_ne (tgt := 79) hx hb d_M_set_72 (by decide) (fun c_10 => ?_) (fun c_10 => ?_)
        · refine lv_iconst (v := 0) hx hb d_M_set_79 (by decide) ?_
          exact jn _ (by rw [Bool.eq_false_iff.mpr (fun k => c_10 ((lg_cmp_eq _ _).mpr ((wf_bit_hi h lo h64 hi).mpr k)))]; rfl)
        · refine lv_iconst (v := 1) hx hb d_M_set_75 (by decide) ?_
          refine lv_goto (tgt := 80) hx hb d_M_set_76 (by decide) ?_
          exact jn _ (by rw [(wf_bit_hi h lo h64 hi).mp ((lg_cmp_eq _ _).mp c_10)]; rfl)
      · have h64 : i < 64 := Nat.not_le.mp (fun h => c_8 (nI_le h (by omega)))
        refine lv_lload hx hb d_M_set_53 (lv_at hl 4 rfl) ?_
        refine lv_iload hx hb d_M_set_55 (lv_at hl 0 rfl) ?_
        refine lv_lshr hx hb d_M_set_57 rfl ?_
        refine lv_goto (tgt := 68) hx hb d_M_set_58 (by decide) ?_
        refine lv_lconst (v := 1) hx hb d_M_set_68 (by decide) ?_
        refine lv_land hx hb d_M_set_69 ?_
        refine lv_lconst (v := 1) hx hb d_M_set_70 (by decide) ?_
        refine W.lcmp hx hb d_M_set_71 ?_
        refine lv_if_ne (tgt := 79) hx hb d_M_set_72 (by decide) (fun c_11 => ?_) (fun c_11 => ?_)
        · refine lv_iconst (v := 0) hx hb d_M_set_79 (by decide) ?_
          exact jn _ (by rw [Bool.eq_false_iff.mpr (fun k => c_11 ((lg_cmp_eq _ _).mpr ((wf_bit_lo h lo h64).mpr k)))]; rfl)
        · refine lv_iconst (v := 1) hx hb d_M_set_75 (by decide) ?_
          refine lv_goto (tgt := 80) hx hb d_M_set_76 (by decide) ?_
          exact jn _ (by rw [(wf_bit_lo h lo h64).mp ((lg_cmp_eq _ _).mp c_11)]; rfl)
  · have hP : va_P D vwCl (wM q κ x) H := hP
    have hD : va_D A (wM q κ x) := hD
    have hl : lv_has ls 7 [(6, .int (nI 128)), (0, .ref (q 0)), (1, .int (nI ra)), (2, .long (h)), (4, .long (lo))] := hl
    have hI : x = (0, va_cpy (fun k => (wf_V h lo).testBit k) u.2.1 0 (128 * ra) 128, u.2.2) := hI
    refine lv_iload hx hb d_M_set_19 (lv_at hl 0 rfl) ?_
    refine lv_sipush (v := 128) hx hb d_M_set_21 (by decide) ?_
    refine lv_icmp_ge (tgt := 87) hx hb d_M_set_24 (by decide) (fun c_12 => ?_) (fun c_12 => False.elim (by first | exact absurd (nI_le (Nat.le_refl 128) (by decide)) c_12 | exact absurd c_12 (nI_le (Nat.le_refl 128) (by decide))))
    exact wf_retv C hr hlocks x (wf_mW_put (fun _ _ => rfl) (by rw [hI]) (by rw [hI]) (by rw [hI]) (wf_tb_sm _ (wf_V_lt h lo))) hP hK hD hS (fun _ h => h) d_M_set_87

theorem wf_HI_S {B : Nat → Bool} {o i : Nat} {v v' t : Int64} {y : Bool} (hi : i < 64) (h : uN v = wf_sm (fun k => B (o + (64 - i) + k)) i) (e : v' = 2 * v + t) (ht : uN t = y.toNat) (hy : y = B (o + (63 - i))) : uN v' = wf_sm (fun k => B (o + (64 - (i + 1)) + k)) (i + 1) := by
  have h1 := wf_sm_lt (fun k => B (o + (64 - i) + k)) i
  rw [← h] at h1
  have h2 : (2 : Nat) ^ i ≤ 2 ^ 63 := wf_pw (by omega)
  have h3 := wf_tn y
  rw [e, uN_add, uN_mul, ht, show uN (2 : Int64) = 2 from by decide, wf_sm_cons]
  rw [show (fun k => B (o + (64 - (i + 1)) + (k + 1))) = fun k => B (o + (64 - i) + k) from funext fun k => by congr 1; omega, ← h, show o + (64 - (i + 1)) + 0 = o + (63 - i) by omega, ← hy]
  rw [show (2 : Nat) ^ 63 = 9223372036854775808 from by decide] at h2
  omega

set_option maxHeartbeats 4000000 in
set_option maxRecDepth 100000 in
/-- M_half -/
theorem c_M_halfHi (l : Launch) (D : va_G) (q : Nat → Nat) (κ : Nat → ClassId) (u : SM) (ra : Nat) (hra : ra < 8) (sz : Nat) : Met l y_M_half (.code y_M_half b_M_half 6 (some .long) :: wG) (wf_rm 1 30 0 0) (wf_Pc D vwCl (wM q κ u) (tyM κ) ([.ref (q 0), .int (nI ra), .int 1]) sz) (va_Ql (fun r v => v = (0, u.2) ∧ uN r = wf_sm (fun k => u.2.1 (128 * ra + 64 + k)) 64) (wf_B D vwCl (wM q κ) (tyM κ) (va_A (wM q κ u) sz)) (va_A (wM q κ u) sz)) 0 0 (va_A (wM q κ u) sz) := by
  refine wf_open (by decide) (Nat.le_of_ble_eq_true rfl) k_M_half ?_
  intro p e s m below meth c ls hsz C hr hlocks hnm hex hP hK hD hl
  subst hsz
  have hx := C.1
  have hb := C.2.1
  have hml := C.2.2.1
  have hown := C.2.2.2.1
  have hts := C.2.2.2.2
  have hA : ∀ j : Nat, s.heap.size ≤ j → va_A (wM q κ u) s.heap.size j := fun j h => Or.inr h
  have hS : va_S (va_A (wM q κ u) s.heap.size) s.heap s.heap [] := va_S.rf
  generalize hAe : va_A (wM q κ u) s.heap.size = A at hA hS hD ⊢
  have hl : lv_has ls 6 [(0, .ref (q 0)), (1, .int (nI ra)), (2, .int (1))] := hl
  refine lv_aload_n hx hb d_M_half_0 rfl (lv_at hl 0 rfl) ?_
  refine lv_iload_n hx hb d_M_half_1 rfl (lv_at hl 1 rfl) ?_
  refine kM_ok (r := ra) hra C hl.1 ⟨Nat.le_of_ble_eq_true rfl, Nat.le_of_ble_eq_true rfl⟩ (Nat.le_of_ble_eq_true rfl) ⟨Nat.le_of_ble_eq_true rfl, Nat.le_of_ble_eq_true rfl⟩ d_M_half_2 ?_
  refine lv_if_eq (tgt := 12) hx hb d_M_half_5 (by decide) (fun _ => ?_) (fun c_1 => False.elim (absurd c_1 (by decide)))
  refine lv_iconst (v := 0) hx hb d_M_half_12 (by decide) ?_
  refine pM_code C hK hP hD hS 0 rfl (Nat.le_of_ble_eq_true rfl) d_M_half_13 (fun H locs hP hD hS => ?_)
  have hP : va_P D vwCl (wM q κ (0, u.2)) H := hP
  have hD : va_D A (wM q κ (0, u.2)) := hD
  generalize eu_2 : ((0, u.2) : SM) = u_2 at hP hD
  refine lv_lconst (v := 0) hx hb d_M_half_16 (by decide) ?_
  refine lv_lstore_n (lv' := [(3, .long (0)), (0, .ref (q 0)), (1, .int (nI ra)), (2, .int (1))]) hx hb d_M_half_17 rfl hl (by decide) rfl (fun ls hl => ?_)
  refine lv_bipush (v := wf_dn 64 0) hx hb d_M_half_18 (by decide) ?_
  refine lv_istore (lv' := [(5, .int (wf_dn 64 0)), (3, .long (0)), (0, .ref (q 0)), (1, .int (nI ra)), (2, .int (1))]) hx hb d_M_half_20 hl (by decide) rfl (fun ls hl => ?_)
  refine wf_for (σ := Int64) 64 (fun i x => uN x = wf_sm (fun k => u.2.1 (128 * ra + 64 + (64 - i) + k)) i) (fun i x => [(5, .int (wf_dn 64 i)), (3, .long (x)), (0, .ref (q 0)), (1, .int (nI ra)), (2, .int (1))]) (fun i x ls hi hI hl ih => ?_) (fun x ls hI hl => ?_) 0 (rfl) (lv_sub hl [0, 1, 2, 3, 4] rfl)
  · have hl : lv_has ls 6 [(5, .int (wf_dn 64 i)), (3, .long (x)), (0, .ref (q 0)), (1, .int (nI ra)), (2, .int (1))] := hl
    have hI : uN x = wf_sm (fun k => u.2.1 (128 * ra + 64 + (64 - i) + k)) i := hI
    rw [wf_dn64 hi] at hl
    refine lv_iload hx hb d_M_half_22 (lv_at hl 0 rfl) ?_
    refine lv_if_lt (tgt := 79) hx hb d_M_half_24 (by decide) (fun c_3 => False.elim (by first | exact absurd c_3 (nI_pos (by omega)) | exact absurd (nI_pos (by omega)) c_3)) (fun c_3 => ?_)
    refine lv_aload_n hx hb d_M_half_27 rfl (lv_at hl 2 rfl) ?_
    refine gM C hK hP 0 rfl 0 (by decide) k_fl_M_code rfl d_M_half_28 ?_
    refine lv_topi (fun k_4 ek_4 => ?_)
    have ek_4 : k_4 = 0 := ek_4.trans (by rw [← eu_2])
    subst ek_4
    refine lv_if_ne (tgt := 79) hx hb d_M_half_31 (by decide) (fun c_5 => False.elim (absurd c_5 (by decide))) (fun _ => ?_)
    refine lv_ldc2 (v := 2) hx hb hown (hts _ (k_cl_M_34)) d_M_half_34 ?_
    refine lv_lload_n hx hb d_M_half_37 rfl (lv_at hl 1 rfl) ?_
    refine lv_lmul hx hb d_M_half_38 ?_
    refine lv_aload_n hx hb d_M_half_39 rfl (lv_at hl 2 rfl) ?_
    refine gM C hK hP 0 rfl 1 (by decide) k_fl_M_bits rfl d_M_half_40 ?_
    refine lv_sipush (v := 128) hx hb d_M_half_43 (by decide) ?_
    refine lv_iload_n hx hb d_M_half_46 rfl (lv_at hl 3 rfl) ?_
    refine lv_imul hx hb d_M_half_47 ?_
    refine lv_iload_n hx hb d_M_half_48 rfl (lv_at hl 4 rfl) ?_
    refine lv_if_eq (tgt := 57) hx hb d_M_half_49 (by decide) (fun c_6 => False.elim (absurd c_6 (by decide))) (fun _ => ?_)
    refine lv_bipush (v := 64) hx hb d_M_half_52 (by decide) ?_
    refine lv_goto (tgt := 58) hx hb d_M_half_54 (by decide) ?_
    refine lv_iadd hx hb d_M_half_58 ?_
    refine lv_iload hx hb d_M_half_59 (lv_at hl 0 rfl) ?_
    refine lv_iadd hx hb d_M_half_61 ?_
    refine wf_zald C hK hP 1 0 rfl rfl (k := 128 * ra + 64 + (63 - i)) (wf_ia (x := 128 * ra + 64) (y := 63 - i) (wf_ia (x := 128 * ra) (y := 64) (wf_im (x := 128) (y := ra) rfl rfl) rfl) rfl) (by omega) (by decide) d_M_half_62 ?_
    refine lv_if_eq (tgt := 70) hx hb d_M_half_63 (by decide) (fun c_7 => ?_) (fun c_7 => ?_)
    · refine lv_lconst (v := 0) hx hb d_M_half_70 (by decide) ?_
      refine lv_ladd hx hb d_M_half_71 ?_
      refine lv_topl (fun v_8 ev_8 => ?_)
      refine lv_lstore_n (lv' := [(3, .long (v_8)), (5, .int (nI (63 - i))), (0, .ref (q 0)), (1, .int (nI ra)), (2, .int (1))]) hx hb d_M_half_72 rfl hl (by decide) rfl (fun ls hl => ?_)
      refine lv_iinc (v := wf_dn 64 (i + 1)) (lv' := [(5, .int (wf_dn 64 (i + 1))), (3, .long (v_8)), (0, .ref (q 0)), (1, .int (nI ra)), (2, .int (1))]) hx hb d_M_half_73 hl (k := 1) rfl (by rw [← wf_dn64 hi]; exact wf_dn_S) (by decide) rfl (fun ls hl => ?_)
      refine lv_goto (tgt := 22) hx hb d_M_half_76 (by decide) ?_
      exact ih v_8 ls (wf_HI_S hi hI ev_8 (y := false) rfl (by rw [← (wf_bi0 _).mp c_7, ← eu_2])) (lv_sub hl [0, 1, 2, 3, 4] rfl)
    · refine lv_lconst (v := 1) hx hb d_M_half_66 (by decide) ?_
      refine lv_goto (tgt := 71) hx hb d_M_half_67 (by decide) ?_
      refine lv_ladd hx hb d_M_half_71 ?_
      refine lv_topl (fun v_9 ev_9 => ?_)
      refine lv_lstore_n (lv' := [(3, .long (v_9)), (5, .int (nI (63 - i))), (0, .ref (q 0)), (1, .int (nI ra)), (2, .int (1))]) hx hb d_M_half_72 rfl hl (by decide) rfl (fun ls hl => ?_)
      refine lv_iinc (v := wf_dn 64 (i + 1)) (lv' := [(5, .int (wf_dn 64 (i + 1))), (3, .long (v_9)), (0, .ref (q 0)), (1, .int (nI ra)), (2, .int (1))]) hx hb d_M_half_73 hl (k := 1) rfl (by rw [← wf_dn64 hi]; exact wf_dn_S) (by decide) rfl (fun ls hl => ?_)
      refine lv_goto (tgt := 22) hx hb d_M_half_76 (by decide) ?_
      exact ih v_9 ls (wf_HI_S hi hI ev_9 (y := true) rfl (by rw [← (wf_bi1 _).mp c_7, ← eu_2])) (lv_sub hl [0, 1, 2, 3, 4] rfl)
  · have hl : lv_has ls 6 [(5, .int (wf_dn 64 64)), (3, .long (x)), (0, .ref (q 0)), (1, .int (nI ra)), (2, .int (1))] := hl
    have hI : uN x = wf_sm (fun k => u.2.1 (128 * ra + 64 + (64 - 64) + k)) 64 := hI
    refine lv_iload hx hb d_M_half_22 (lv_at hl 0 rfl) ?_
    refine lv_if_lt (tgt := 79) hx hb d_M_half_24 (by decide) (fun c_10 => ?_) (fun c_10 => False.elim (by first | exact absurd (by rw [wf_dn_end]; decide) c_10 | exact absurd c_10 (by rw [wf_dn_end]; decide)))
    refine lv_lload_n hx hb d_M_half_79 rfl (lv_at hl 1 rfl) ?_
    exact wf_retl C hr hlocks u_2 (⟨by first | exact eu_2.symm | rfl, hI⟩) hP hK hD hS (fun _ h => h) d_M_half_80

set_option maxHeartbeats 4000000 in
set_option maxRecDepth 100000 in
/-- M_half -/
theorem c_M_halfLo (l : Launch) (D : va_G) (q : Nat → Nat) (κ : Nat → ClassId) (u : SM) (ra : Nat) (hra : ra < 8) (sz : Nat) : Met l y_M_half (.code y_M_half b_M_half 6 (some .long) :: wG) (wf_rm 1 30 0 0) (wf_Pc D vwCl (wM q κ u) (tyM κ) ([.ref (q 0), .int (nI ra), .int 0]) sz) (va_Ql (fun r v => v = (0, u.2) ∧ uN r = wf_sm (fun k => u.2.1 (128 * ra + 0 + k)) 64) (wf_B D vwCl (wM q κ) (tyM κ) (va_A (wM q κ u) sz)) (va_A (wM q κ u) sz)) 0 0 (va_A (wM q κ u) sz) := by
  refine wf_open (by decide) (Nat.le_of_ble_eq_true rfl) k_M_half ?_
  intro p e s m below meth c ls hsz C hr hlocks hnm hex hP hK hD hl
  subst hsz
  have hx := C.1
  have hb := C.2.1
  have hml := C.2.2.1
  have hown := C.2.2.2.1
  have hts := C.2.2.2.2
  have hA : ∀ j : Nat, s.heap.size ≤ j → va_A (wM q κ u) s.heap.size j := fun j h => Or.inr h
  have hS : va_S (va_A (wM q κ u) s.heap.size) s.heap s.heap [] := va_S.rf
  generalize hAe : va_A (wM q κ u) s.heap.size = A at hA hS hD ⊢
  have hl : lv_has ls 6 [(0, .ref (q 0)), (1, .int (nI ra)), (2, .int (0))] := hl
  refine lv_aload_n hx hb d_M_half_0 rfl (lv_at hl 0 rfl) ?_
  refine lv_iload_n hx hb d_M_half_1 rfl (lv_at hl 1 rfl) ?_
  refine kM_ok (r := ra) hra C hl.1 ⟨Nat.le_of_ble_eq_true rfl, Nat.le_of_ble_eq_true rfl⟩ (Nat.le_of_ble_eq_true rfl) ⟨Nat.le_of_ble_eq_true rfl, Nat.le_of_ble_eq_true rfl⟩ d_M_half_2 ?_
  refine lv_if_eq (tgt := 12) hx hb d_M_half_5 (by decide) (fun _ => ?_) (fun c_1 => False.elim (absurd c_1 (by decide)))
  refine lv_iconst (v := 0) hx hb d_M_half_12 (by decide) ?_
  refine pM_code C hK hP hD hS 0 rfl (Nat.le_of_ble_eq_true rfl) d_M_half_13 (fun H locs hP hD hS => ?_)
  have hP : va_P D vwCl (wM q κ (0, u.2)) H := hP
  have hD : va_D A (wM q κ (0, u.2)) := hD
  generalize eu_2 : ((0, u.2) : SM) = u_2 at hP hD
  refine lv_lconst (v := 0) hx hb d_M_half_16 (by decide) ?_
  refine lv_lstore_n (lv' := [(3, .long (0)), (0, .ref (q 0)), (1, .int (nI ra)), (2, .int (0))]) hx hb d_M_half_17 rfl hl (by decide) rfl (fun ls hl => ?_)
  refine lv_bipush (v := wf_dn 64 0) hx hb d_M_half_18 (by decide) ?_
  refine lv_istore (lv' := [(5, .int (wf_dn 64 0)), (3, .long (0)), (0, .ref (q 0)), (1, .int (nI ra)), (2, .int (0))]) hx hb d_M_half_20 hl (by decide) rfl (fun ls hl => ?_)
  refine wf_for (σ := Int64) 64 (fun i x => uN x = wf_sm (fun k => u.2.1 (128 * ra + 0 + (64 - i) + k)) i) (fun i x => [(5, .int (wf_dn 64 i)), (3, .long (x)), (0, .ref (q 0)), (1, .int (nI ra)), (2, .int (0))]) (fun i x ls hi hI hl ih => ?_) (fun x ls hI hl => ?_) 0 (rfl) (lv_sub hl [0, 1, 2, 3, 4] rfl)
  · have hl : lv_has ls 6 [(5, .int (wf_dn 64 i)), (3, .long (x)), (0, .ref (q 0)), (1, .int (nI ra)), (2, .int (0))] := hl
    have hI : uN x = wf_sm (fun k => u.2.1 (128 * ra + 0 + (64 - i) + k)) i := hI
    rw [wf_dn64 hi] at hl
    refine lv_iload hx hb d_M_half_22 (lv_at hl 0 rfl) ?_
    refine lv_if_lt (tgt := 79) hx hb d_M_half_24 (by decide) (fun c_3 => False.elim (by first | exact absurd c_3 (nI_pos (by omega)) | exact absurd (nI_pos (by omega)) c_3)) (fun c_3 => ?_)
    refine lv_aload_n hx hb d_M_half_27 rfl (lv_at hl 2 rfl) ?_
    refine gM C hK hP 0 rfl 0 (by decide) k_fl_M_code rfl d_M_half_28 ?_
    refine lv_topi (fun k_4 ek_4 => ?_)
    have ek_4 : k_4 = 0 := ek_4.trans (by rw [← eu_2])
    subst ek_4
    refine lv_if_ne (tgt := 79) hx hb d_M_half_31 (by decide) (fun c_5 => False.elim (absurd c_5 (by decide))) (fun _ => ?_)
    refine lv_ldc2 (v := 2) hx hb hown (hts _ (k_cl_M_34)) d_M_half_34 ?_
    refine lv_lload_n hx hb d_M_half_37 rfl (lv_at hl 1 rfl) ?_
    refine lv_lmul hx hb d_M_half_38 ?_
    refine lv_aload_n hx hb d_M_half_39 rfl (lv_at hl 2 rfl) ?_
    refine gM C hK hP 0 rfl 1 (by decide) k_fl_M_bits rfl d_M_half_40 ?_
    refine lv_sipush (v := 128) hx hb d_M_half_43 (by decide) ?_
    refine lv_iload_n hx hb d_M_half_46 rfl (lv_at hl 3 rfl) ?_
    refine lv_imul hx hb d_M_half_47 ?_
    refine lv_iload_n hx hb d_M_half_48 rfl (lv_at hl 4 rfl) ?_
    refine lv_if_eq (tgt := 57) hx hb d_M_half_49 (by decide) (fun _ => ?_) (fun c_6 => False.elim (absurd c_6 (by decide)))
    refine lv_iconst (v := 0) hx hb d_M_half_57 (by decide) ?_
    refine lv_iadd hx hb d_M_half_58 ?_
    refine lv_iload hx hb d_M_half_59 (lv_at hl 0 rfl) ?_
    refine lv_iadd hx hb d_M_half_61 ?_
    refine wf_zald C hK hP 1 0 rfl rfl (k := 128 * ra + 0 + (63 - i)) (wf_ia (x := 128 * ra + 0) (y := 63 - i) (wf_ia (x := 128 * ra) (y := 0) (wf_im (x := 128) (y := ra) rfl rfl) rfl) rfl) (by omega) (by decide) d_M_half_62 ?_
    refine lv_if_eq (tgt := 70) hx hb d_M_half_63 (by decide) (fun c_7 => ?_) (fun c_7 => ?_)
    · refine lv_lconst (v := 0) hx hb d_M_half_70 (by decide) ?_
      refine lv_ladd hx hb d_M_half_71 ?_
      refine lv_topl (fun v_8 ev_8 => ?_)
      refine lv_lstore_n (lv' := [(3, .long (v_8)), (5, .int (nI (63 - i))), (0, .ref (q 0)), (1, .int (nI ra)), (2, .int (0))]) hx hb d_M_half_72 rfl hl (by decide) rfl (fun ls hl => ?_)
      refine lv_iinc (v := wf_dn 64 (i + 1)) (lv' := [(5, .int (wf_dn 64 (i + 1))), (3, .long (v_8)), (0, .ref (q 0)), (1, .int (nI ra)), (2, .int (0))]) hx hb d_M_half_73 hl (k := 1) rfl (by rw [← wf_dn64 hi]; exact wf_dn_S) (by decide) rfl (fun ls hl => ?_)
      refine lv_goto (tgt := 22) hx hb d_M_half_76 (by decide) ?_
      exact ih v_8 ls (wf_HI_S hi hI ev_8 (y := false) rfl (by rw [← (wf_bi0 _).mp c_7, ← eu_2])) (lv_sub hl [0, 1, 2, 3, 4] rfl)
    · refine lv_lconst (v := 1) hx hb d_M_half_66 (by decide) ?_
      refine lv_goto (tgt := 71) hx hb d_M_half_67 (by decide) ?_
      refine lv_ladd hx hb d_M_half_71 ?_
      refine lv_topl (fun v_9 ev_9 => ?_)
      refine lv_lstore_n (lv' := [(3, .long (v_9)), (5, .int (nI (63 - i))), (0, .ref (q 0)), (1, .int (nI ra)), (2, .int (0))]) hx hb d_M_half_72 rfl hl (by decide) rfl (fun ls hl => ?_)
      refine lv_iinc (v := wf_dn 64 (i + 1)) (lv' := [(5, .int (wf_dn 64 (i + 1))), (3, .long (v_9)), (0, .ref (q 0)), (1, .int (nI ra)), (2, .int (0))]) hx hb d_M_half_73 hl (k := 1) rfl (by rw [← wf_dn64 hi]; exact wf_dn_S) (by decide) rfl (fun ls hl => ?_)
      refine lv_goto (tgt := 22) hx hb d_M_half_76 (by decide) ?_
      exact ih v_9 ls (wf_HI_S hi hI ev_9 (y := true) rfl (by rw [← (wf_bi1 _).mp c_7, ← eu_2])) (lv_sub hl [0, 1, 2, 3, 4] rfl)
  · have hl : lv_has ls 6 [(5, .int (wf_dn 64 64)), (3, .long (x)), (0, .ref (q 0)), (1, .int (nI ra)), (2, .int (0))] := hl
    have hI : uN x = wf_sm (fun k => u.2.1 (128 * ra + 0 + (64 - 64) + k)) 64 := hI
    refine lv_iload hx hb d_M_half_22 (lv_at hl 0 rfl) ?_
    refine lv_if_lt (tgt := 79) hx hb d_M_half_24 (by decide) (fun c_10 => ?_) (fun c_10 => False.elim (by first | exact absurd (by rw [wf_dn_end]; decide) c_10 | exact absurd c_10 (by rw [wf_dn_end]; decide)))
    refine lv_lload_n hx hb d_M_half_79 rfl (lv_at hl 1 rfl) ?_
    exact wf_retl C hr hlocks u_2 (⟨by first | exact eu_2.symm | rfl, hI⟩) hP hK hD hS (fun _ h => h) d_M_half_80

theorem wf_fin_M_add {u u1 u2 u3 u4 u5 : SM} {ra rb rt : Nat} {c_ : Bool} {r : Int32} (hra : ra < 8) (hrb : rb < 8) (hrt : rt < 8) (e1 : (0, u.2) = u1) (e2 : u2 = (u1.1, va_cpy u1.2.1 u1.2.1 (128 * ra) (128 * 8) 128, u1.2.2)) (e3 : u3 = (u2.1, va_cpy u2.2.1 u2.2.1 (128 * rb) (128 * 9) 128, u2.2.2))
    (hr : r = wf_bi c_) (e4 : u4 = (u3.1, u4.2.1, u3.2.2)) (hJ : wf_JA u3.2.1 u4.2.1 128 c_) (e5 : u5 = (u4.1, va_cpy u4.2.1 u4.2.1 (128 * 8) (128 * rt) 128, u4.2.2)) : r = wf_bi (decide (wf_NN ≤ wf_R u.2.1 ra + wf_R u.2.1 rb)) ∧ wf_mW u u5 0 (va_up (wf_R u.2.1) rt ((wf_R u.2.1 ra + wf_R u.2.1 rb) % wf_NN)) := by
  obtain ⟨h1, h2, h3⟩ := wf_JA_end hJ
  have f1 : u1.2.1 = u.2.1 := by rw [← e1]
  have f2 : u2.2.1 = va_cpy u1.2.1 u1.2.1 (128 * ra) (128 * 8) 128 := by rw [e2]
  have f3 : u3.2.1 = va_cpy u2.2.1 u2.2.1 (128 * rb) (128 * 9) 128 := by rw [e3]
  have g8 : wf_R u3.2.1 8 = wf_R u.2.1 ra := by rw [f3, wf_R_else _ _ (by decide), f2, wf_R_self, f1]; rfl
  have g9 : wf_R u3.2.1 9 = wf_R u.2.1 rb := by
    rw [f3, wf_R_self]
    show wf_R u2.2.1 rb = _
    rw [f2, wf_R_else _ _ (by omega), f1]
  have gj : ∀ j, j < 8 → wf_R u3.2.1 j = wf_R u.2.1 j := fun j hj => by rw [f3, wf_R_else _ _ (by omega), f2, wf_R_else _ _ (by omega), f1]
  rw [g8, g9] at h2 h3
  refine ⟨by rw [hr, h2], wf_mW_put (S := u4.2.1) (s := 128 * 8) (B := u4.2.1) (fun j hj => (h1 j hj).trans (gj j hj)) ?_ ?_ ?_ h3⟩
  · rw [e5]; show u4.1 = _; rw [e4]; show u3.1 = _; rw [e3]; show u2.1 = _; rw [e2]; show u1.1 = _; rw [← e1]
  · rw [e5]
  · rw [e5]; show u4.2.2.2.2.2 = _; rw [e4]; show u3.2.2.2.2.2 = _; rw [e3]; show u2.2.2.2.2.2 = _; rw [e2]; show u1.2.2.2.2.2 = _; rw [← e1]

set_option maxHeartbeats 4000000 in
set_option maxRecDepth 100000 in
/-- M_add -/
theorem c_M_add (l : Launch) (D : va_G) (q : Nat → Nat) (κ : Nat → ClassId) (u : SM) (ra : Nat) (hra : ra < 8) (rb : Nat) (hrb : rb < 8) (rt : Nat) (hrt : rt < 8) (sz : Nat) : Met l y_M_add (.code y_M_add b_M_add 5 (some .boolean) :: wG) (wf_rm 1 60 0 0) (wf_Pc D vwCl (wM q κ u) (tyM κ) ([.ref (q 0), .int (nI ra), .int (nI rb), .int (nI rt)]) sz) (va_Qi (fun r v => r = wf_bi (decide (wf_NN ≤ wf_R u.2.1 ra + wf_R u.2.1 rb)) ∧ wf_mW u v 0 (va_up (wf_R u.2.1) rt ((wf_R u.2.1 ra + wf_R u.2.1 rb) % wf_NN))) (wf_B D vwCl (wM q κ) (tyM κ) (va_A (wM q κ u) sz)) (va_A (wM q κ u) sz)) 0 0 (va_A (wM q κ u) sz) := by
  refine wf_open (by decide) (Nat.le_of_ble_eq_true rfl) k_M_add ?_
  intro p e s m below meth c ls hsz C hr hlocks hnm hex hP hK hD hl
  subst hsz
  have hx := C.1
  have hb := C.2.1
  have hml := C.2.2.1
  have hown := C.2.2.2.1
  have hts := C.2.2.2.2
  have hA : ∀ j : Nat, s.heap.size ≤ j → va_A (wM q κ u) s.heap.size j := fun j h => Or.inr h
  have hS : va_S (va_A (wM q κ u) s.heap.size) s.heap s.heap [] := va_S.rf
  generalize hAe : va_A (wM q κ u) s.heap.size = A at hA hS hD ⊢
  have hl : lv_has ls 5 [(0, .ref (q 0)), (1, .int (nI ra)), (2, .int (nI rb)), (3, .int (nI rt))] := hl
  refine lv_aload_n hx hb d_M_add_0 rfl (lv_at hl 0 rfl) ?_
  refine lv_iload_n hx hb d_M_add_1 rfl (lv_at hl 1 rfl) ?_
  refine kM_ok (r := ra) hra C hl.1 ⟨Nat.le_of_ble_eq_true rfl, Nat.le_of_ble_eq_true rfl⟩ (Nat.le_of_ble_eq_true rfl) ⟨Nat.le_of_ble_eq_true rfl, Nat.le_of_ble_eq_true rfl⟩ d_M_add_2 ?_
  refine lv_if_ne (tgt := 22) hx hb d_M_add_5 (by decide) (fun c_1 => False.elim (absurd c_1 (by decide))) (fun _ => ?_)
  refine lv_iload_n hx hb d_M_add_8 rfl (lv_at hl 2 rfl) ?_
  refine kM_ok (r := rb) hrb C hl.1 ⟨Nat.le_of_ble_eq_true rfl, Nat.le_of_ble_eq_true rfl⟩ (Nat.le_of_ble_eq_true rfl) ⟨Nat.le_of_ble_eq_true rfl, Nat.le_of_ble_eq_true rfl⟩ d_M_add_9 ?_
  refine lv_if_ne (tgt := 22) hx hb d_M_add_12 (by decide) (fun c_2 => False.elim (absurd c_2 (by decide))) (fun _ => ?_)
  refine lv_iload_n hx hb d_M_add_15 rfl (lv_at hl 3 rfl) ?_
  refine kM_ok (r := rt) hrt C hl.1 ⟨Nat.le_of_ble_eq_true rfl, Nat.le_of_ble_eq_true rfl⟩ (Nat.le_of_ble_eq_true rfl) ⟨Nat.le_of_ble_eq_true rfl, Nat.le_of_ble_eq_true rfl⟩ d_M_add_16 ?_
  refine lv_if_eq (tgt := 26) hx hb d_M_add_19 (by decide) (fun _ => ?_) (fun c_3 => False.elim (absurd c_3 (by decide)))
  refine lv_iconst (v := 0) hx hb d_M_add_26 (by decide) ?_
  refine pM_code C hK hP hD hS 0 rfl (Nat.le_of_ble_eq_true rfl) d_M_add_27 (fun H locs hP hD hS => ?_)
  have hP : va_P D vwCl (wM q κ (0, u.2)) H := hP
  have hD : va_D A (wM q κ (0, u.2)) := hD
  generalize eu_4 : ((0, u.2) : SM) = u_4 at hP hD
  refine lv_aload_n hx hb d_M_add_30 rfl (lv_at hl 0 rfl) ?_
  refine gM C hK hP 0 rfl 0 (by decide) k_fl_M_code rfl d_M_add_31 ?_
  refine lv_topi (fun k_5 ek_5 => ?_)
  have ek_5 : k_5 = 0 := ek_5.trans (by rw [← eu_4])
  subst ek_5
  refine lv_if_le (tgt := 39) hx hb d_M_add_34 (by decide) (fun _ => ?_) (fun c_6 => False.elim (absurd c_6 (by decide)))
  refine lv_aload_n hx hb d_M_add_39 rfl (lv_at hl 0 rfl) ?_
  refine lv_iload_n hx hb d_M_add_40 rfl (lv_at hl 1 rfl) ?_
  refine lv_bipush (v := 8) hx hb d_M_add_41 (by decide) ?_
  refine kM_copy (ra := ra) (rb := 8) (by omega) (by omega) C hl.1 ⟨Nat.le_of_ble_eq_true rfl, Nat.le_of_ble_eq_true rfl⟩ (Nat.le_of_ble_eq_true rfl) ⟨Nat.le_of_ble_eq_true rfl, Nat.le_of_ble_eq_true rfl⟩ hP hK hD hS hA d_M_add_43 (fun u_7 H locs eu_7 hP hD hS => ?_)
  refine lv_aload_n hx hb d_M_add_46 rfl (lv_at hl 0 rfl) ?_
  refine lv_iload_n hx hb d_M_add_47 rfl (lv_at hl 2 rfl) ?_
  refine lv_bipush (v := 9) hx hb d_M_add_48 (by decide) ?_
  refine kM_copy (ra := rb) (rb := 9) (by omega) (by omega) C hl.1 ⟨Nat.le_of_ble_eq_true rfl, Nat.le_of_ble_eq_true rfl⟩ (Nat.le_of_ble_eq_true rfl) ⟨Nat.le_of_ble_eq_true rfl, Nat.le_of_ble_eq_true rfl⟩ hP hK hD hS hA d_M_add_50 (fun u_8 H locs eu_8 hP hD hS => ?_)
  refine lv_aload_n hx hb d_M_add_53 rfl (lv_at hl 0 rfl) ?_
  refine lv_iconst (v := 0) hx hb d_M_add_54 (by decide) ?_
  refine kM_joinAdd C hl.1 ⟨Nat.le_of_ble_eq_true rfl, Nat.le_of_ble_eq_true rfl⟩ (Nat.le_of_ble_eq_true rfl) ⟨Nat.le_of_ble_eq_true rfl, Nat.le_of_ble_eq_true rfl⟩ hP hK hD hS hA d_M_add_55 (fun rr u_9 H locs eu_9 hP hD hS => ?_)
  obtain ⟨c_, hrr, e4, hJ⟩ := eu_9
  refine lv_istore (lv' := [(4, .int (rr)), (0, .ref (q 0)), (1, .int (nI ra)), (2, .int (nI rb)), (3, .int (nI rt))]) hx hb d_M_add_58 hl (by decide) rfl (fun ls hl => ?_)
  refine lv_aload_n hx hb d_M_add_60 rfl (lv_at hl 1 rfl) ?_
  refine lv_bipush (v := 8) hx hb d_M_add_61 (by decide) ?_
  refine lv_iload_n hx hb d_M_add_63 rfl (lv_at hl 4 rfl) ?_
  refine kM_copy (ra := 8) (rb := rt) (by omega) (by omega) C hl.1 ⟨Nat.le_of_ble_eq_true rfl, Nat.le_of_ble_eq_true rfl⟩ (Nat.le_of_ble_eq_true rfl) ⟨Nat.le_of_ble_eq_true rfl, Nat.le_of_ble_eq_true rfl⟩ hP hK hD hS hA d_M_add_64 (fun u_10 H locs eu_10 hP hD hS => ?_)
  refine lv_iload hx hb d_M_add_67 (lv_at hl 0 rfl) ?_
  exact wf_retz C hr (by rw [hrr]; exact wf_bi_ret _) hlocks u_10 (wf_fin_M_add hra hrb hrt eu_4 eu_7 eu_8 hrr e4 hJ eu_10) hP hK hD hS (fun _ h => h) d_M_add_69

theorem wf_fin_M_subtract {u u1 u2 u3 u4 u5 : SM} {ra rb rt : Nat} {c_ : Bool} {r : Int32} (hra : ra < 8) (hrb : rb < 8) (hrt : rt < 8) (e1 : (0, u.2) = u1) (e2 : u2 = (u1.1, va_cpy u1.2.1 u1.2.1 (128 * ra) (128 * 8) 128, u1.2.2)) (e3 : u3 = (u2.1, va_cpy u2.2.1 u2.2.1 (128 * rb) (128 * 9) 128, u2.2.2))
    (hr : r = wf_bi c_) (e4 : u4 = (u3.1, u4.2.1, u3.2.2)) (hJ : wf_JS u3.2.1 u4.2.1 128 c_) (e5 : u5 = (u4.1, va_cpy u4.2.1 u4.2.1 (128 * 8) (128 * rt) 128, u4.2.2)) : r = wf_bi (decide (wf_R u.2.1 ra < wf_R u.2.1 rb)) ∧ wf_mW u u5 0 (va_up (wf_R u.2.1) rt ((wf_R u.2.1 ra + wf_NN - wf_R u.2.1 rb) % wf_NN)) := by
  obtain ⟨h1, h2, h3⟩ := wf_JS_end hJ
  have f1 : u1.2.1 = u.2.1 := by rw [← e1]
  have f2 : u2.2.1 = va_cpy u1.2.1 u1.2.1 (128 * ra) (128 * 8) 128 := by rw [e2]
  have f3 : u3.2.1 = va_cpy u2.2.1 u2.2.1 (128 * rb) (128 * 9) 128 := by rw [e3]
  have g8 : wf_R u3.2.1 8 = wf_R u.2.1 ra := by rw [f3, wf_R_else _ _ (by decide), f2, wf_R_self, f1]; rfl
  have g9 : wf_R u3.2.1 9 = wf_R u.2.1 rb := by
    rw [f3, wf_R_self]
    show wf_R u2.2.1 rb = _
    rw [f2, wf_R_else _ _ (by omega), f1]
  have gj : ∀ j, j < 8 → wf_R u3.2.1 j = wf_R u.2.1 j := fun j hj => by rw [f3, wf_R_else _ _ (by omega), f2, wf_R_else _ _ (by omega), f1]
  rw [g8, g9] at h2 h3
  refine ⟨by rw [hr, h2], wf_mW_put (S := u4.2.1) (s := 128 * 8) (B := u4.2.1) (fun j hj => (h1 j hj).trans (gj j hj)) ?_ ?_ ?_ h3⟩
  · rw [e5]; show u4.1 = _; rw [e4]; show u3.1 = _; rw [e3]; show u2.1 = _; rw [e2]; show u1.1 = _; rw [← e1]
  · rw [e5]
  · rw [e5]; show u4.2.2.2.2.2 = _; rw [e4]; show u3.2.2.2.2.2 = _; rw [e3]; show u2.2.2.2.2.2 = _; rw [e2]; show u1.2.2.2.2.2 = _; rw [← e1]

set_option maxHeartbeats 4000000 in
set_option maxRecDepth 100000 in
/-- M_subtract -/
theorem c_M_subtract (l : Launch) (D : va_G) (q : Nat → Nat) (κ : Nat → ClassId) (u : SM) (ra : Nat) (hra : ra < 8) (rb : Nat) (hrb : rb < 8) (rt : Nat) (hrt : rt < 8) (sz : Nat) : Met l y_M_subtract (.code y_M_subtract b_M_subtract 5 (some .boolean) :: wG) (wf_rm 1 60 0 0) (wf_Pc D vwCl (wM q κ u) (tyM κ) ([.ref (q 0), .int (nI ra), .int (nI rb), .int (nI rt)]) sz) (va_Qi (fun r v => r = wf_bi (decide (wf_R u.2.1 ra < wf_R u.2.1 rb)) ∧ wf_mW u v 0 (va_up (wf_R u.2.1) rt ((wf_R u.2.1 ra + wf_NN - wf_R u.2.1 rb) % wf_NN))) (wf_B D vwCl (wM q κ) (tyM κ) (va_A (wM q κ u) sz)) (va_A (wM q κ u) sz)) 0 0 (va_A (wM q κ u) sz) := by
  refine wf_open (by decide) (Nat.le_of_ble_eq_true rfl) k_M_subtract ?_
  intro p e s m below meth c ls hsz C hr hlocks hnm hex hP hK hD hl
  subst hsz
  have hx := C.1
  have hb := C.2.1
  have hml := C.2.2.1
  have hown := C.2.2.2.1
  have hts := C.2.2.2.2
  have hA : ∀ j : Nat, s.heap.size ≤ j → va_A (wM q κ u) s.heap.size j := fun j h => Or.inr h
  have hS : va_S (va_A (wM q κ u) s.heap.size) s.heap s.heap [] := va_S.rf
  generalize hAe : va_A (wM q κ u) s.heap.size = A at hA hS hD ⊢
  have hl : lv_has ls 5 [(0, .ref (q 0)), (1, .int (nI ra)), (2, .int (nI rb)), (3, .int (nI rt))] := hl
  refine lv_aload_n hx hb d_M_subtract_0 rfl (lv_at hl 0 rfl) ?_
  refine lv_iload_n hx hb d_M_subtract_1 rfl (lv_at hl 1 rfl) ?_
  refine kM_ok (r := ra) hra C hl.1 ⟨Nat.le_of_ble_eq_true rfl, Nat.le_of_ble_eq_true rfl⟩ (Nat.le_of_ble_eq_true rfl) ⟨Nat.le_of_ble_eq_true rfl, Nat.le_of_ble_eq_true rfl⟩ d_M_subtract_2 ?_
  refine lv_if_ne (tgt := 22) hx hb d_M_subtract_5 (by decide) (fun c_1 => False.elim (absurd c_1 (by decide))) (fun _ => ?_)
  refine lv_iload_n hx hb d_M_subtract_8 rfl (lv_at hl 2 rfl) ?_
  refine kM_ok (r := rb) hrb C hl.1 ⟨Nat.le_of_ble_eq_true rfl, Nat.le_of_ble_eq_true rfl⟩ (Nat.le_of_ble_eq_true rfl) ⟨Nat.le_of_ble_eq_true rfl, Nat.le_of_ble_eq_true rfl⟩ d_M_subtract_9 ?_
  refine lv_if_ne (tgt := 22) hx hb d_M_subtract_12 (by decide) (fun c_2 => False.elim (absurd c_2 (by decide))) (fun _ => ?_)
  refine lv_iload_n hx hb d_M_subtract_15 rfl (lv_at hl 3 rfl) ?_
  refine kM_ok (r := rt) hrt C hl.1 ⟨Nat.le_of_ble_eq_true rfl, Nat.le_of_ble_eq_true rfl⟩ (Nat.le_of_ble_eq_true rfl) ⟨Nat.le_of_ble_eq_true rfl, Nat.le_of_ble_eq_true rfl⟩ d_M_subtract_16 ?_
  refine lv_if_eq (tgt := 26) hx hb d_M_subtract_19 (by decide) (fun _ => ?_) (fun c_3 => False.elim (absurd c_3 (by decide)))
  refine lv_iconst (v := 0) hx hb d_M_subtract_26 (by decide) ?_
  refine pM_code C hK hP hD hS 0 rfl (Nat.le_of_ble_eq_true rfl) d_M_subtract_27 (fun H locs hP hD hS => ?_)
  have hP : va_P D vwCl (wM q κ (0, u.2)) H := hP
  have hD : va_D A (wM q κ (0, u.2)) := hD
  generalize eu_4 : ((0, u.2) : SM) = u_4 at hP hD
  refine lv_aload_n hx hb d_M_subtract_30 rfl (lv_at hl 0 rfl) ?_
  refine gM C hK hP 0 rfl 0 (by decide) k_fl_M_code rfl d_M_subtract_31 ?_
  refine lv_topi (fun k_5 ek_5 => ?_)
  have ek_5 : k_5 = 0 := ek_5.trans (by rw [← eu_4])
  subst ek_5
  refine lv_if_le (tgt := 39) hx hb d_M_subtract_34 (by decide) (fun _ => ?_) (fun c_6 => False.elim (absurd c_6 (by decide)))
  refine lv_aload_n hx hb d_M_subtract_39 rfl (lv_at hl 0 rfl) ?_
  refine lv_iload_n hx hb d_M_subtract_40 rfl (lv_at hl 1 rfl) ?_
  refine lv_bipush (v := 8) hx hb d_M_subtract_41 (by decide) ?_
  refine kM_copy (ra := ra) (rb := 8) (by omega) (by omega) C hl.1 ⟨Nat.le_of_ble_eq_true rfl, Nat.le_of_ble_eq_true rfl⟩ (Nat.le_of_ble_eq_true rfl) ⟨Nat.le_of_ble_eq_true rfl, Nat.le_of_ble_eq_true rfl⟩ hP hK hD hS hA d_M_subtract_43 (fun u_7 H locs eu_7 hP hD hS => ?_)
  refine lv_aload_n hx hb d_M_subtract_46 rfl (lv_at hl 0 rfl) ?_
  refine lv_iload_n hx hb d_M_subtract_47 rfl (lv_at hl 2 rfl) ?_
  refine lv_bipush (v := 9) hx hb d_M_subtract_48 (by decide) ?_
  refine kM_copy (ra := rb) (rb := 9) (by omega) (by omega) C hl.1 ⟨Nat.le_of_ble_eq_true rfl, Nat.le_of_ble_eq_true rfl⟩ (Nat.le_of_ble_eq_true rfl) ⟨Nat.le_of_ble_eq_true rfl, Nat.le_of_ble_eq_true rfl⟩ hP hK hD hS hA d_M_subtract_50 (fun u_8 H locs eu_8 hP hD hS => ?_)
  refine lv_aload_n hx hb d_M_subtract_53 rfl (lv_at hl 0 rfl) ?_
  refine lv_iconst (v := 1) hx hb d_M_subtract_54 (by decide) ?_
  refine kM_joinSub C hl.1 ⟨Nat.le_of_ble_eq_true rfl, Nat.le_of_ble_eq_true rfl⟩ (Nat.le_of_ble_eq_true rfl) ⟨Nat.le_of_ble_eq_true rfl, Nat.le_of_ble_eq_true rfl⟩ hP hK hD hS hA d_M_subtract_55 (fun rr u_9 H locs eu_9 hP hD hS => ?_)
  obtain ⟨c_, hrr, e4, hJ⟩ := eu_9
  refine lv_istore (lv' := [(4, .int (rr)), (0, .ref (q 0)), (1, .int (nI ra)), (2, .int (nI rb)), (3, .int (nI rt))]) hx hb d_M_subtract_58 hl (by decide) rfl (fun ls hl => ?_)
  refine lv_aload_n hx hb d_M_subtract_60 rfl (lv_at hl 1 rfl) ?_
  refine lv_bipush (v := 8) hx hb d_M_subtract_61 (by decide) ?_
  refine lv_iload_n hx hb d_M_subtract_63 rfl (lv_at hl 4 rfl) ?_
  refine kM_copy (ra := 8) (rb := rt) (by omega) (by omega) C hl.1 ⟨Nat.le_of_ble_eq_true rfl, Nat.le_of_ble_eq_true rfl⟩ (Nat.le_of_ble_eq_true rfl) ⟨Nat.le_of_ble_eq_true rfl, Nat.le_of_ble_eq_true rfl⟩ hP hK hD hS hA d_M_subtract_64 (fun u_10 H locs eu_10 hP hD hS => ?_)
  refine lv_iload hx hb d_M_subtract_67 (lv_at hl 0 rfl) ?_
  exact wf_retz C hr (by rw [hrr]; exact wf_bi_ret _) hlocks u_10 (wf_fin_M_subtract hra hrb hrt eu_4 eu_7 eu_8 hrr e4 hJ eu_10) hP hK hD hS (fun _ h => h) d_M_subtract_69

theorem wf_lz_at {B : Nat → Bool} {r i : Nat} (hi : i < 128) (h : ∀ k, k < i → B (128 * r + (127 - k)) = false) (h1 : B (128 * r + (127 - i)) = true) : wf_LZ 128 (wf_R B r) i := by
  have e : wf_R B r = wf_sm (fun k => B (128 * r + k)) (127 - i + 1) := wf_sm_ext (by omega) (fun k a b => by
    have := h (127 - k) (by omega)
    rw [show 127 - (127 - k) = k by omega] at this
    exact this)
  refine Or.inr ⟨hi, ?_, ?_⟩
  · rw [e, wf_smS]
    show _ ≤ _ + (B (128 * r + (127 - i))).toNat * _
    rw [h1, show 128 - 1 - i = 127 - i by omega]
    simp only [Bool.toNat_true]
    omega
  · rw [e, show 128 - i = 127 - i + 1 by omega]
    exact wf_sm_lt _ _
theorem wf_lz_all {B : Nat → Bool} {r : Nat} (h : ∀ k, k < 128 → B (128 * r + (127 - k)) = false) : wf_LZ 128 (wf_R B r) 128 := by
  refine Or.inl ⟨wf_sm_eq0.mpr (fun k hk => ?_), rfl⟩
  have := h (127 - k) (by omega)
  rw [show 127 - (127 - k) = k by omega] at this
  exact this

set_option maxHeartbeats 4000000 in
set_option maxRecDepth 100000 in
/-- M_zeros -/
theorem c_M_zeros (l : Launch) (D : va_G) (q : Nat → Nat) (κ : Nat → ClassId) (u : SM) (ra : Nat) (hra : ra < 8) (sz : Nat) : Met l y_M_zeros (.code y_M_zeros b_M_zeros 3 (some .int) :: wG) (wf_rm 1 30 0 0) (wf_Pc D vwCl (wM q κ u) (tyM κ) ([.ref (q 0), .int (nI ra)]) sz) (va_Qi (fun r v => v = (0, u.2) ∧ ∃ z, r = nI z ∧ wf_LZ 128 (wf_R u.2.1 ra) z) (wf_B D vwCl (wM q κ) (tyM κ) (va_A (wM q κ u) sz)) (va_A (wM q κ u) sz)) 0 0 (va_A (wM q κ u) sz) := by
  refine wf_open (by decide) (Nat.le_of_ble_eq_true rfl) k_M_zeros ?_
  intro p e s m below meth c ls hsz C hr hlocks hnm hex hP hK hD hl
  subst hsz
  have hx := C.1
  have hb := C.2.1
  have hml := C.2.2.1
  have hown := C.2.2.2.1
  have hts := C.2.2.2.2
  have hA : ∀ j : Nat, s.heap.size ≤ j → va_A (wM q κ u) s.heap.size j := fun j h => Or.inr h
  have hS : va_S (va_A (wM q κ u) s.heap.size) s.heap s.heap [] := va_S.rf
  generalize hAe : va_A (wM q κ u) s.heap.size = A at hA hS hD ⊢
  have hl : lv_has ls 3 [(0, .ref (q 0)), (1, .int (nI ra))] := hl
  refine lv_aload_n hx hb d_M_zeros_0 rfl (lv_at hl 0 rfl) ?_
  refine lv_iload_n hx hb d_M_zeros_1 rfl (lv_at hl 1 rfl) ?_
  refine kM_ok (r := ra) hra C hl.1 ⟨Nat.le_of_ble_eq_true rfl, Nat.le_of_ble_eq_true rfl⟩ (Nat.le_of_ble_eq_true rfl) ⟨Nat.le_of_ble_eq_true rfl, Nat.le_of_ble_eq_true rfl⟩ d_M_zeros_2 ?_
  refine lv_if_eq (tgt := 12) hx hb d_M_zeros_5 (by decide) (fun _ => ?_) (fun c_1 => False.elim (absurd c_1 (by decide)))
  refine lv_iconst (v := 0) hx hb d_M_zeros_12 (by decide) ?_
  refine pM_code C hK hP hD hS 0 rfl (Nat.le_of_ble_eq_true rfl) d_M_zeros_13 (fun H locs hP hD hS => ?_)
  have hP : va_P D vwCl (wM q κ (0, u.2)) H := hP
  have hD : va_D A (wM q κ (0, u.2)) := hD
  generalize eu_2 : ((0, u.2) : SM) = u_2 at hP hD
  refine lv_iconst (v := 0) hx hb d_M_zeros_16 (by decide) ?_
  refine lv_istore_n (lv' := [(2, .int (0)), (0, .ref (q 0)), (1, .int (nI ra))]) hx hb d_M_zeros_17 rfl hl (by decide) rfl (fun ls hl => ?_)
  refine wf_for (σ := Unit) 128 (fun i x => ∀ k, k < i → u.2.1 (128 * ra + (127 - k)) = false) (fun i x => [(2, .int (nI i)), (0, .ref (q 0)), (1, .int (nI ra))]) (fun i x ls hi hI hl ih => ?_) (fun x ls hI hl => ?_) () (fun k h => absurd h (Nat.not_lt_zero k)) (lv_sub hl [0, 1, 2] rfl)
  · have hl : lv_has ls 3 [(2, .int (nI i)), (0, .ref (q 0)), (1, .int (nI ra))] := hl
    have hI : ∀ k, k < i → u.2.1 (128 * ra + (127 - k)) = false := hI
    refine lv_aload_n hx hb d_M_zeros_18 rfl (lv_at hl 1 rfl) ?_
    refine gM C hK hP 0 rfl 0 (by decide) k_fl_M_code rfl d_M_zeros_19 ?_
    refine lv_topi (fun k_3 ek_3 => ?_)
    have ek_3 : k_3 = 0 := ek_3.trans (by rw [← eu_2])
    subst ek_3
    refine lv_if_ne (tgt := 56) hx hb d_M_zeros_22 (by decide) (fun c_4 => False.elim (absurd c_4 (by decide))) (fun _ => ?_)
    refine lv_iload_n hx hb d_M_zeros_25 rfl (lv_at hl 0 rfl) ?_
    refine lv_sipush (v := 128) hx hb d_M_zeros_26 (by decide) ?_
    refine lv_icmp_ge (tgt := 56) hx hb d_M_zeros_29 (by decide) (fun c_5 => False.elim (by first | exact absurd c_5 (nI_ge hi (by decide)) | exact absurd (nI_ge hi (by decide)) c_5)) (fun c_5 => ?_)
    refine lv_aload_n hx hb d_M_zeros_32 rfl (lv_at hl 1 rfl) ?_
    refine gM C hK hP 0 rfl 1 (by decide) k_fl_M_bits rfl d_M_zeros_33 ?_
    refine lv_sipush (v := 128) hx hb d_M_zeros_36 (by decide) ?_
    refine lv_iload_n hx hb d_M_zeros_39 rfl (lv_at hl 2 rfl) ?_
    refine lv_imul hx hb d_M_zeros_40 ?_
    refine lv_bipush (v := 127) hx hb d_M_zeros_41 (by decide) ?_
    refine lv_iadd hx hb d_M_zeros_43 ?_
    refine lv_iload_n hx hb d_M_zeros_44 rfl (lv_at hl 0 rfl) ?_
    refine lv_isub hx hb d_M_zeros_45 ?_
    refine wf_zald C hK hP 1 0 rfl rfl (k := 128 * ra + (127 - i)) ((wf_is (x := 128 * ra + 127) (y := i) (wf_ia (x := 128 * ra) (y := 127) (wf_im (x := 128) (y := ra) rfl rfl) rfl) rfl (by omega)).trans (congrArg nI (show 128 * ra + 127 - i = 128 * ra + (127 - i) by omega))) (by omega) (by decide) d_M_zeros_46 ?_
    refine lv_if_ne (tgt := 56) hx hb d_M_zeros_47 (by decide) (fun c_6 => ?_) (fun c_6 => ?_)
    · have hz : u.2.1 (128 * ra + (127 - i)) = true := by rw [← (wf_bi1 _).mp c_6, ← eu_2]
      refine lv_iload_n hx hb d_M_zeros_56 rfl (lv_at hl 0 rfl) ?_
      exact wf_reti C hr hlocks u_2 (⟨by first | exact eu_2.symm | rfl, ⟨_, rfl, wf_lz_at hi hI hz⟩⟩) hP hK hD hS (fun _ h => h) d_M_zeros_57
    · have hz : u.2.1 (128 * ra + (127 - i)) = false := by rw [← (wf_bi0 _).mp c_6, ← eu_2]
      refine lv_iinc (v := nI (i + 1)) (lv' := [(2, .int (nI (i + 1))), (0, .ref (q 0)), (1, .int (nI ra))]) hx hb d_M_zeros_50 hl (k := 0) rfl (nI_1 _) (by decide) rfl (fun ls hl => ?_)
      refine lv_goto (tgt := 18) hx hb d_M_zeros_53 (by decide) ?_
      exact ih () ls (fun k hk => by rcases Nat.lt_succ_iff_lt_or_eq.mp hk with h | h; exact hI k h; rw [h]; exact hz) (lv_sub hl [0, 1, 2] rfl)
  · have hl : lv_has ls 3 [(2, .int (nI 128)), (0, .ref (q 0)), (1, .int (nI ra))] := hl
    have hI : ∀ k, k < 128 → u.2.1 (128 * ra + (127 - k)) = false := hI
    refine lv_aload_n hx hb d_M_zeros_18 rfl (lv_at hl 1 rfl) ?_
    refine gM C hK hP 0 rfl 0 (by decide) k_fl_M_code rfl d_M_zeros_19 ?_
    refine lv_topi (fun k_7 ek_7 => ?_)
    have ek_7 : k_7 = 0 := ek_7.trans (by rw [← eu_2])
    subst ek_7
    refine lv_if_ne (tgt := 56) hx hb d_M_zeros_22 (by decide) (fun c_8 => False.elim (absurd c_8 (by decide))) (fun _ => ?_)
    refine lv_iload_n hx hb d_M_zeros_25 rfl (lv_at hl 0 rfl) ?_
    refine lv_sipush (v := 128) hx hb d_M_zeros_26 (by decide) ?_
    refine lv_icmp_ge (tgt := 56) hx hb d_M_zeros_29 (by decide) (fun c_9 => ?_) (fun c_9 => False.elim (by first | exact absurd (nI_le (Nat.le_refl 128) (by decide)) c_9 | exact absurd c_9 (nI_le (Nat.le_refl 128) (by decide))))
    refine lv_iload_n hx hb d_M_zeros_56 rfl (lv_at hl 0 rfl) ?_
    exact wf_reti C hr hlocks u_2 (⟨by first | exact eu_2.symm | rfl, ⟨_, rfl, wf_lz_all hI⟩⟩) hP hK hD hS (fun _ h => h) d_M_zeros_57

/-- compared upwards -/
def wf_cm (x y : Nat) : Int32 := if x < y then -1 else if y < x then 1 else 0
theorem wf_cm_S {f g : Nat → Bool} {i : Nat} {c x : Int32} {a b : Bool} (h : c = wf_cm (wf_sm f i) (wf_sm g i)) (ea : a = f i) (eb : b = g i) (e : x = if a = b then c else if a then 1 else -1) : x = wf_cm (wf_sm f (i + 1)) (wf_sm g (i + 1)) := by
  rw [wf_smS, wf_smS, ← ea, ← eb, e, h]
  have h1 := wf_sm_lt f i
  have h2 := wf_sm_lt g i
  obtain ⟨k1, k2, k3⟩ := wf_cmp_step (x := a) (y := b) h1 h2
  by_cases hab : a = b
  · rw [if_pos hab]
    obtain ⟨q1, q2⟩ := k1 hab
    unfold wf_cm
    subst hab
    by_cases z1 : wf_sm f i < wf_sm g i
    · rw [if_pos z1, if_pos (q1.mpr z1)]
    · rw [if_neg z1, if_neg (fun h => z1 (q1.mp h))]
      by_cases z2 : wf_sm g i < wf_sm f i
      · rw [if_pos z2, if_pos (by omega)]
      · rw [if_neg z2, if_neg (by omega)]
  · rw [if_neg hab]
    cases a <;> cases b
    · exact absurd rfl hab
    · have := k3 rfl rfl
      unfold wf_cm
      rw [if_pos this]; rfl
    · have := k2 rfl rfl
      unfold wf_cm
      rw [if_neg (Nat.not_lt.mpr (Nat.le_of_lt this)), if_pos this]; rfl
    · exact absurd rfl hab

set_option maxHeartbeats 4000000 in
set_option maxRecDepth 100000 in
/-- M_compare -/
theorem c_M_compare (l : Launch) (D : va_G) (q : Nat → Nat) (κ : Nat → ClassId) (u : SM) (ra : Nat) (hra : ra < 8) (rb : Nat) (hrb : rb < 8) (sz : Nat) : Met l y_M_compare (.code y_M_compare b_M_compare 7 (some .int) :: wG) (wf_rm 1 30 0 0) (wf_Pc D vwCl (wM q κ u) (tyM κ) ([.ref (q 0), .int (nI ra), .int (nI rb)]) sz) (va_Qi (fun r v => v = (0, u.2) ∧ r = wf_cm (wf_R u.2.1 ra) (wf_R u.2.1 rb)) (wf_B D vwCl (wM q κ) (tyM κ) (va_A (wM q κ u) sz)) (va_A (wM q κ u) sz)) 0 0 (va_A (wM q κ u) sz) := by
  refine wf_open (by decide) (Nat.le_of_ble_eq_true rfl) k_M_compare ?_
  intro p e s m below meth c ls hsz C hr hlocks hnm hex hP hK hD hl
  subst hsz
  have hx := C.1
  have hb := C.2.1
  have hml := C.2.2.1
  have hown := C.2.2.2.1
  have hts := C.2.2.2.2
  have hA : ∀ j : Nat, s.heap.size ≤ j → va_A (wM q κ u) s.heap.size j := fun j h => Or.inr h
  have hS : va_S (va_A (wM q κ u) s.heap.size) s.heap s.heap [] := va_S.rf
  generalize hAe : va_A (wM q κ u) s.heap.size = A at hA hS hD ⊢
  have hl : lv_has ls 7 [(0, .ref (q 0)), (1, .int (nI ra)), (2, .int (nI rb))] := hl
  refine lv_aload_n hx hb d_M_compare_0 rfl (lv_at hl 0 rfl) ?_
  refine lv_iload_n hx hb d_M_compare_1 rfl (lv_at hl 1 rfl) ?_
  refine kM_ok (r := ra) hra C hl.1 ⟨Nat.le_of_ble_eq_true rfl, Nat.le_of_ble_eq_true rfl⟩ (Nat.le_of_ble_eq_true rfl) ⟨Nat.le_of_ble_eq_true rfl, Nat.le_of_ble_eq_true rfl⟩ d_M_compare_2 ?_
  refine lv_if_ne (tgt := 15) hx hb d_M_compare_5 (by decide) (fun c_1 => False.elim (absurd c_1 (by decide))) (fun _ => ?_)
  refine lv_iload_n hx hb d_M_compare_8 rfl (lv_at hl 2 rfl) ?_
  refine kM_ok (r := rb) hrb C hl.1 ⟨Nat.le_of_ble_eq_true rfl, Nat.le_of_ble_eq_true rfl⟩ (Nat.le_of_ble_eq_true rfl) ⟨Nat.le_of_ble_eq_true rfl, Nat.le_of_ble_eq_true rfl⟩ d_M_compare_9 ?_
  refine lv_if_eq (tgt := 19) hx hb d_M_compare_12 (by decide) (fun _ => ?_) (fun c_2 => False.elim (absurd c_2 (by decide)))
  refine lv_iconst (v := 0) hx hb d_M_compare_19 (by decide) ?_
  refine pM_code C hK hP hD hS 0 rfl (Nat.le_of_ble_eq_true rfl) d_M_compare_20 (fun H locs hP hD hS => ?_)
  have hP : va_P D vwCl (wM q κ (0, u.2)) H := hP
  have hD : va_D A (wM q κ (0, u.2)) := hD
  generalize eu_3 : ((0, u.2) : SM) = u_3 at hP hD
  refine lv_iconst (v := 0) hx hb d_M_compare_23 (by decide) ?_
  refine lv_istore_n (lv' := [(3, .int (0)), (0, .ref (q 0)), (1, .int (nI ra)), (2, .int (nI rb))]) hx hb d_M_compare_24 rfl hl (by decide) rfl (fun ls hl => ?_)
  refine lv_iconst (v := 0) hx hb d_M_compare_25 (by decide) ?_
  refine lv_istore (lv' := [(4, .int (0)), (3, .int (0)), (0, .ref (q 0)), (1, .int (nI ra)), (2, .int (nI rb))]) hx hb d_M_compare_26 hl (by decide) rfl (fun ls hl => ?_)
  refine wf_for (σ := Int32) 128 (fun i x => x = wf_cm (wf_sm (fun k => u.2.1 (128 * ra + k)) i) (wf_sm (fun k => u.2.1 (128 * rb + k)) i)) (fun i x => [(4, .int (nI i)), (3, .int (x)), (0, .ref (q 0)), (1, .int (nI ra)), (2, .int (nI rb))]) (fun i x ls hi hI hl ih => ?_) (fun x ls hI hl => ?_) 0 (rfl) (lv_sub hl [0, 1, 2, 3, 4] rfl)
  · have hl : lv_has ls 7 [(4, .int (nI i)), (3, .int (x)), (0, .ref (q 0)), (1, .int (nI ra)), (2, .int (nI rb))] := hl
    have hI : x = wf_cm (wf_sm (fun k => u.2.1 (128 * ra + k)) i) (wf_sm (fun k => u.2.1 (128 * rb + k)) i) := hI
    refine lv_iload hx hb d_M_compare_28 (lv_at hl 0 rfl) ?_
    refine lv_sipush (v := 128) hx hb d_M_compare_30 (by decide) ?_
    refine lv_icmp_ge (tgt := 101) hx hb d_M_compare_33 (by decide) (fun c_4 => False.elim (by first | exact absurd c_4 (nI_ge hi (by decide)) | exact absurd (nI_ge hi (by decide)) c_4)) (fun c_4 => ?_)
    refine lv_aload_n hx hb d_M_compare_36 rfl (lv_at hl 2 rfl) ?_
    refine gM C hK hP 0 rfl 0 (by decide) k_fl_M_code rfl d_M_compare_37 ?_
    refine lv_topi (fun k_5 ek_5 => ?_)
    have ek_5 : k_5 = 0 := ek_5.trans (by rw [← eu_3])
    subst ek_5
    refine lv_if_ne (tgt := 101) hx hb d_M_compare_40 (by decide) (fun c_6 => False.elim (absurd c_6 (by decide))) (fun _ => ?_)
    refine lv_aload_n hx hb d_M_compare_43 rfl (lv_at hl 2 rfl) ?_
    refine gM C hK hP 0 rfl 1 (by decide) k_fl_M_bits rfl d_M_compare_44 ?_
    refine lv_sipush (v := 128) hx hb d_M_compare_47 (by decide) ?_
    refine lv_iload_n hx hb d_M_compare_50 rfl (lv_at hl 3 rfl) ?_
    refine lv_imul hx hb d_M_compare_51 ?_
    refine lv_iload hx hb d_M_compare_52 (lv_at hl 0 rfl) ?_
    refine lv_iadd hx hb d_M_compare_54 ?_
    refine wf_zald C hK hP 1 0 rfl rfl (k := 128 * ra + i) (wf_ia (x := 128 * ra) (y := i) (wf_im (x := 128) (y := ra) rfl rfl) rfl) (by omega) (by decide) d_M_compare_55 ?_
    obtain ⟨x1, hx1⟩ : ∃ b : Bool, b = u_3.2.1 (128 * ra + i) := ⟨_, rfl⟩
    rw [← hx1]
    refine lv_istore (lv' := [(5, .int (wf_bi x1)), (4, .int (nI i)), (3, .int (x)), (0, .ref (q 0)), (1, .int (nI ra)), (2, .int (nI rb))]) hx hb d_M_compare_56 hl (by decide) rfl (fun ls hl => ?_)
    refine lv_aload_n hx hb d_M_compare_58 rfl (lv_at hl 3 rfl) ?_
    refine gM C hK hP 0 rfl 1 (by decide) k_fl_M_bits rfl d_M_compare_59 ?_
    refine lv_sipush (v := 128) hx hb d_M_compare_62 (by decide) ?_
    refine lv_iload_n hx hb d_M_compare_65 rfl (lv_at hl 5 rfl) ?_
    refine lv_imul hx hb d_M_compare_66 ?_
    refine lv_iload hx hb d_M_compare_67 (lv_at hl 1 rfl) ?_
    refine lv_iadd hx hb d_M_compare_69 ?_
    refine wf_zald C hK hP 1 0 rfl rfl (k := 128 * rb + i) (wf_ia (x := 128 * rb) (y := i) (wf_im (x := 128) (y := rb) rfl rfl) rfl) (by omega) (by decide) d_M_compare_70 ?_
    obtain ⟨y1, hy1⟩ : ∃ b : Bool, b = u_3.2.1 (128 * rb + i) := ⟨_, rfl⟩
    rw [← hy1]
    refine lv_istore (lv' := [(6, .int (wf_bi y1)), (5, .int (wf_bi x1)), (4, .int (nI i)), (3, .int (x)), (0, .ref (q 0)), (1, .int (nI ra)), (2, .int (nI rb))]) hx hb d_M_compare_71 hl (by decide) rfl (fun ls hl => ?_)
    refine lv_iload hx hb d_M_compare_73 (lv_at hl 1 rfl) ?_
    refine lv_iload hx hb d_M_compare_75 (lv_at hl 0 rfl) ?_
    refine wf_cutI (pcj := 94) (ls := ls) (rest := []) (fun z => z = if x1 = y1 then x else if x1 = true then 1 else -1) (fun z_7 ez_7 => ?_) (fun jn => ?_)
    · refine lv_istore_n (lv' := [(3, .int (z_7)), (6, .int (wf_bi y1)), (5, .int (wf_bi x1)), (4, .int (nI i)), (0, .ref (q 0)), (1, .int (nI ra)), (2, .int (nI rb))]) hx hb d_M_compare_94 rfl hl (by decide) rfl (fun ls hl => ?_)
      refine lv_iinc (v := nI (i + 1)) (lv' := [(4, .int (nI (i + 1))), (3, .int (z_7)), (6, .int (wf_bi y1)), (5, .int (wf_bi x1)), (0, .ref (q 0)), (1, .int (nI ra)), (2, .int (nI rb))]) hx hb d_M_compare_95 hl (k := 3) rfl (nI_1 _) (by decide) rfl (fun ls hl => ?_)
      refine lv_goto (tgt := 28) hx hb d_M_compare_98 (by decide) ?_
      exact ih z_7 ls (wf_cm_S hI (hx1.trans (by rw [← eu_3])) (hy1.trans (by rw [← eu_3])) ez_7) (lv_sub hl [0, 1, 4, 5, 6] rfl)
    · refine lv_icmp_ne (tgt := 84) hx hb d_M_compare_77 (by decide) (fun c_8 => ?_) (fun c_8 => ?_)
      · refine lv_iload hx hb d_M_compare_84 (lv_at hl 1 rfl) ?_
        refine lv_if_eq (tgt := 93) hx hb d_M_compare_86 (by decide) (fun c_9 => ?_) (fun c_9 => ?_)
        · refine lv_iconst (v := (-1)) hx hb d_M_compare_93 (by decide) ?_
          exact jn _ (by rw [if_neg (fun h => c_8 (congrArg wf_bi h)), (wf_bi0 _).mp c_9]; rfl)
        · refine lv_iconst (v := 1) hx hb d_M_compare_89 (by decide) ?_
          refine lv_goto (tgt := 94) hx hb d_M_compare_90 (by decide) ?_
          exact jn _ (by rw [if_neg (fun h => c_8 (congrArg wf_bi h)), (wf_bi1 _).mp c_9]; rfl)
      · refine lv_iload_n hx hb d_M_compare_80 rfl (lv_at hl 3 rfl) ?_
        refine lv_goto (tgt := 94) hx hb d_M_compare_81 (by decide) ?_
        exact jn _ (by rw [if_pos (wf_bi_inj c_8)])
  · have hl : lv_has ls 7 [(4, .int (nI 128)), (3, .int (x)), (0, .ref (q 0)), (1, .int (nI ra)), (2, .int (nI rb))] := hl
    have hI : x = wf_cm (wf_sm (fun k => u.2.1 (128 * ra + k)) 128) (wf_sm (fun k => u.2.1 (128 * rb + k)) 128) := hI
    refine lv_iload hx hb d_M_compare_28 (lv_at hl 0 rfl) ?_
    refine lv_sipush (v := 128) hx hb d_M_compare_30 (by decide) ?_
    refine lv_icmp_ge (tgt := 101) hx hb d_M_compare_33 (by decide) (fun c_10 => ?_) (fun c_10 => False.elim (by first | exact absurd (nI_le (Nat.le_refl 128) (by decide)) c_10 | exact absurd c_10 (nI_le (Nat.le_refl 128) (by decide))))
    refine lv_iload_n hx hb d_M_compare_101 rfl (lv_at hl 1 rfl) ?_
    exact wf_reti C hr hlocks u_3 (⟨by first | exact eu_3.symm | rfl, hI⟩) hP hK hD hS (fun _ h => h) d_M_compare_102

set_option maxHeartbeats 4000000 in
set_option maxRecDepth 100000 in
/-- M_digit -/
theorem c_M_digitIn (l : Launch) (D : va_G) (q : Nat → Nat) (κ : Nat → ClassId) (u : SM) (c_ : Nat) (hc9 : c_ ≤ 39) (hc : u.2.2.2.2.2.2 = nI c_) (j : Nat) (hj : j < c_) (sz : Nat) : Met l y_M_digit (.code y_M_digit b_M_digit 2 (some .int) :: wG) (wf_rm 0 0 0 0) (wf_Pc D vwCl (wM q κ u) (tyM κ) ([.ref (q 0), .int (nI j)]) sz) (va_Qi (fun r v => v = (0, u.2) ∧ r = u.2.2.2.2.2.1 j) (wf_B D vwCl (wM q κ) (tyM κ) (va_A (wM q κ u) sz)) (va_A (wM q κ u) sz)) 0 0 (va_A (wM q κ u) sz) := by
  refine wf_open (by decide) (Nat.le_of_ble_eq_true rfl) k_M_digit ?_
  intro p e s m below meth c ls hsz C hr hlocks hnm hex hP hK hD hl
  subst hsz
  have hx := C.1
  have hb := C.2.1
  have hml := C.2.2.1
  have hown := C.2.2.2.1
  have hts := C.2.2.2.2
  have hA : ∀ j : Nat, s.heap.size ≤ j → va_A (wM q κ u) s.heap.size j := fun j h => Or.inr h
  have hS : va_S (va_A (wM q κ u) s.heap.size) s.heap s.heap [] := va_S.rf
  generalize hAe : va_A (wM q κ u) s.heap.size = A at hA hS hD ⊢
  have hl : lv_has ls 2 [(0, .ref (q 0)), (1, .int (nI j))] := hl
  refine lv_aload_n hx hb d_M_digit_0 rfl (lv_at hl 0 rfl) ?_
  refine lv_iconst (v := 0) hx hb d_M_digit_1 (by decide) ?_
  refine pM_code C hK hP hD hS 0 rfl (Nat.le_of_ble_eq_true rfl) d_M_digit_2 (fun H locs hP hD hS => ?_)
  have hP : va_P D vwCl (wM q κ (0, u.2)) H := hP
  have hD : va_D A (wM q κ (0, u.2)) := hD
  generalize eu_1 : ((0, u.2) : SM) = u_1 at hP hD
  refine lv_iload_n hx hb d_M_digit_5 rfl (lv_at hl 1 rfl) ?_
  refine lv_if_lt (tgt := 17) hx hb d_M_digit_6 (by decide) (fun c_2 => False.elim (by first | exact absurd c_2 (nI_pos (by omega)) | exact absurd (nI_pos (by omega)) c_2)) (fun c_2 => ?_)
  refine lv_iload_n hx hb d_M_digit_9 rfl (lv_at hl 1 rfl) ?_
  refine lv_aload_n hx hb d_M_digit_10 rfl (lv_at hl 0 rfl) ?_
  refine gM C hK hP 0 rfl 6 (by decide) k_fl_M_written rfl d_M_digit_11 ?_
  refine lv_topi (fun k_3 ek_3 => ?_)
  have ek_3 : k_3 = nI c_ := ek_3.trans (by rw [← eu_1]; exact hc)
  subst ek_3
  refine lv_icmp_lt (tgt := 21) hx hb d_M_digit_14 (by decide) (fun c_4 => ?_) (fun c_4 => False.elim (by first | exact absurd (nI_lt hj (by omega)) c_4 | exact absurd c_4 (nI_lt hj (by omega))))
  refine lv_aload_n hx hb d_M_digit_21 rfl (lv_at hl 0 rfl) ?_
  refine gM C hK hP 0 rfl 5 (by decide) k_fl_M_digits rfl d_M_digit_22 ?_
  refine lv_iload_n hx hb d_M_digit_25 rfl (lv_at hl 1 rfl) ?_
  refine wf_iald C hK hP 5 4 rfl rfl (k := j) rfl (by omega) (by decide) d_M_digit_26 ?_
  exact wf_reti C hr hlocks u_1 (⟨by first | exact eu_1.symm | rfl, by rw [← eu_1]⟩) hP hK hD hS (fun _ h => h) d_M_digit_27

set_option maxHeartbeats 4000000 in
set_option maxRecDepth 100000 in
/-- M_digit -/
theorem c_M_digitBig (l : Launch) (D : va_G) (q : Nat → Nat) (κ : Nat → ClassId) (u : SM) (c_ : Nat) (hc9 : c_ ≤ 39) (hc : u.2.2.2.2.2.2 = nI c_) (j : Nat) (hj31 : j < 2 ^ 31) (hj : c_ ≤ j) (sz : Nat) : Met l y_M_digit (.code y_M_digit b_M_digit 2 (some .int) :: wG) (wf_rm 0 0 0 0) (wf_Pc D vwCl (wM q κ u) (tyM κ) ([.ref (q 0), .int (nI j)]) sz) (va_Qi (fun r v => v = (0, u.2) ∧ r = -1) (wf_B D vwCl (wM q κ) (tyM κ) (va_A (wM q κ u) sz)) (va_A (wM q κ u) sz)) 0 0 (va_A (wM q κ u) sz) := by
  refine wf_open (by decide) (Nat.le_of_ble_eq_true rfl) k_M_digit ?_
  intro p e s m below meth c ls hsz C hr hlocks hnm hex hP hK hD hl
  subst hsz
  have hx := C.1
  have hb := C.2.1
  have hml := C.2.2.1
  have hown := C.2.2.2.1
  have hts := C.2.2.2.2
  have hA : ∀ j : Nat, s.heap.size ≤ j → va_A (wM q κ u) s.heap.size j := fun j h => Or.inr h
  have hS : va_S (va_A (wM q κ u) s.heap.size) s.heap s.heap [] := va_S.rf
  generalize hAe : va_A (wM q κ u) s.heap.size = A at hA hS hD ⊢
  have hl : lv_has ls 2 [(0, .ref (q 0)), (1, .int (nI j))] := hl
  refine lv_aload_n hx hb d_M_digit_0 rfl (lv_at hl 0 rfl) ?_
  refine lv_iconst (v := 0) hx hb d_M_digit_1 (by decide) ?_
  refine pM_code C hK hP hD hS 0 rfl (Nat.le_of_ble_eq_true rfl) d_M_digit_2 (fun H locs hP hD hS => ?_)
  have hP : va_P D vwCl (wM q κ (0, u.2)) H := hP
  have hD : va_D A (wM q κ (0, u.2)) := hD
  generalize eu_1 : ((0, u.2) : SM) = u_1 at hP hD
  refine lv_iload_n hx hb d_M_digit_5 rfl (lv_at hl 1 rfl) ?_
  refine lv_if_lt (tgt := 17) hx hb d_M_digit_6 (by decide) (fun c_2 => False.elim (by first | exact absurd c_2 (nI_pos hj31) | exact absurd (nI_pos hj31) c_2)) (fun c_2 => ?_)
  refine lv_iload_n hx hb d_M_digit_9 rfl (lv_at hl 1 rfl) ?_
  refine lv_aload_n hx hb d_M_digit_10 rfl (lv_at hl 0 rfl) ?_
  refine gM C hK hP 0 rfl 6 (by decide) k_fl_M_written rfl d_M_digit_11 ?_
  refine lv_topi (fun k_3 ek_3 => ?_)
  have ek_3 : k_3 = nI c_ := ek_3.trans (by rw [← eu_1]; exact hc)
  subst ek_3
  refine lv_icmp_lt (tgt := 21) hx hb d_M_digit_14 (by decide) (fun c_4 => False.elim (by first | exact absurd c_4 (nI_nlt hj hj31) | exact absurd (nI_nlt hj hj31) c_4)) (fun c_4 => ?_)
  refine lv_iconst (v := (-1)) hx hb d_M_digit_17 (by decide) ?_
  refine lv_goto (tgt := 27) hx hb d_M_digit_18 (by decide) ?_
  exact wf_reti C hr hlocks u_1 (⟨by first | exact eu_1.symm | rfl, rfl⟩) hP hK hD hS (fun _ h => h) d_M_digit_27

set_option maxHeartbeats 4000000 in
set_option maxRecDepth 100000 in
/-- M_digit -/
theorem c_M_digitNeg (l : Launch) (D : va_G) (q : Nat → Nat) (κ : Nat → ClassId) (u : SM) (i : Int32) (hi0 : i < 0) (sz : Nat) : Met l y_M_digit (.code y_M_digit b_M_digit 2 (some .int) :: wG) (wf_rm 0 0 0 0) (wf_Pc D vwCl (wM q κ u) (tyM κ) ([.ref (q 0), .int i]) sz) (va_Qi (fun r v => v = (0, u.2) ∧ r = -1) (wf_B D vwCl (wM q κ) (tyM κ) (va_A (wM q κ u) sz)) (va_A (wM q κ u) sz)) 0 0 (va_A (wM q κ u) sz) := by
  refine wf_open (by decide) (Nat.le_of_ble_eq_true rfl) k_M_digit ?_
  intro p e s m below meth c ls hsz C hr hlocks hnm hex hP hK hD hl
  subst hsz
  have hx := C.1
  have hb := C.2.1
  have hml := C.2.2.1
  have hown := C.2.2.2.1
  have hts := C.2.2.2.2
  have hA : ∀ j : Nat, s.heap.size ≤ j → va_A (wM q κ u) s.heap.size j := fun j h => Or.inr h
  have hS : va_S (va_A (wM q κ u) s.heap.size) s.heap s.heap [] := va_S.rf
  generalize hAe : va_A (wM q κ u) s.heap.size = A at hA hS hD ⊢
  have hl : lv_has ls 2 [(0, .ref (q 0)), (1, .int (i))] := hl
  refine lv_aload_n hx hb d_M_digit_0 rfl (lv_at hl 0 rfl) ?_
  refine lv_iconst (v := 0) hx hb d_M_digit_1 (by decide) ?_
  refine pM_code C hK hP hD hS 0 rfl (Nat.le_of_ble_eq_true rfl) d_M_digit_2 (fun H locs hP hD hS => ?_)
  have hP : va_P D vwCl (wM q κ (0, u.2)) H := hP
  have hD : va_D A (wM q κ (0, u.2)) := hD
  generalize eu_1 : ((0, u.2) : SM) = u_1 at hP hD
  refine lv_iload_n hx hb d_M_digit_5 rfl (lv_at hl 1 rfl) ?_
  refine lv_if_lt (tgt := 17) hx hb d_M_digit_6 (by decide) (fun c_2 => ?_) (fun c_2 => False.elim (by first | exact absurd (hi0) c_2 | exact absurd c_2 (hi0)))
  refine lv_iconst (v := (-1)) hx hb d_M_digit_17 (by decide) ?_
  refine lv_goto (tgt := 27) hx hb d_M_digit_18 (by decide) ?_
  exact wf_reti C hr hlocks u_1 (⟨by first | exact eu_1.symm | rfl, rfl⟩) hP hK hD hS (fun _ h => h) d_M_digit_27
