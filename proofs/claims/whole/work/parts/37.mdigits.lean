/-! ===== the reference: digits ===== -/

set_option maxHeartbeats 4000000 in
set_option maxRecDepth 100000 in
/-- M_digits -/
theorem c_M_digits (l : Launch) (D : va_G) (q : Nat → Nat) (κ : Nat → ClassId) (u : SM) (rk : Nat) (hrk : rk < 8) (sz : Nat) : Met l y_M_digits (.code y_M_digits b_M_digits 5 (some .int) :: wG) (wf_rm 1 60 0 0) (wf_Pc D vwCl (wM q κ u) (tyM κ) ([.ref (q 0), .int (nI rk)]) sz) (va_Qi (fun r v => r = v.2.2.2.2.2.2 ∧ ∃ (c : Nat) (G : Nat → Nat), v.2.2.2.2.2.2 = nI c ∧ c ≤ 39 ∧ wf_DG (wf_R u.2.1 rk) c G ∧ v.1 = 0 ∧ (∀ j, j < 8 → wf_R v.2.1 j = wf_R u.2.1 j) ∧ ∀ i, i < c → v.2.2.2.2.2.1 i = nI (G i)) (wf_B D vwCl (wM q κ) (tyM κ) (va_A (wM q κ u) sz)) (va_A (wM q κ u) sz)) 0 0 (va_A (wM q κ u) sz) := by
  refine wf_open (by decide) (Nat.le_of_ble_eq_true rfl) k_M_digits ?_
  intro p e s m below meth c ls hsz C hr hlocks hnm hex hP hK hD hl
  subst hsz
  have hx := C.1
  have hb := C.2.1
  have hml := C.2.2.1
  have hown := C.2.2.2.1
  have hts := C.2.2.2.2
  have hA : ∀ j : Nat, s.heap.size ≤ j → va_A (wM q κ u) s.heap.size j := fun j h => Or.inr h
  have hS : va_S (va_A (wM q κ u) s.heap.size) s.heap s.heap [] := va_S.rf
  generalize hAe : va_A (wM q κ u) s.heap.size = A at hA hS hD ⊢
  have hl : lv_has ls 5 [(0, .ref (q 0)), (1, .int (nI rk))] := hl
  refine lv_aload_n hx hb d_M_digits_0 rfl (lv_at hl 0 rfl) ?_
  refine lv_iload_n hx hb d_M_digits_1 rfl (lv_at hl 1 rfl) ?_
  refine kM_ok (r := rk) hrk C hl.1 ⟨Nat.le_of_ble_eq_true rfl, Nat.le_of_ble_eq_true rfl⟩ (Nat.le_of_ble_eq_true rfl) ⟨Nat.le_of_ble_eq_true rfl, Nat.le_of_ble_eq_true rfl⟩ d_M_digits_2 ?_
  refine lv_if_eq (tgt := 12) hx hb d_M_digits_5 (by decide) (fun _ => ?_) (fun c_1 => False.elim (absurd c_1 (by decide)))
  refine lv_iconst (v := 0) hx hb d_M_digits_12 (by decide) ?_
  refine pM_code C hK hP hD hS 0 rfl (Nat.le_of_ble_eq_true rfl) d_M_digits_13 (fun H locs hP hD hS => ?_)
  have hP : va_P D vwCl (wM q κ (0, u.2)) H := hP
  have hD : va_D A (wM q κ (0, u.2)) := hD
  generalize eu_2 : ((0, u.2) : SM) = u_2 at hP hD
  refine lv_aload_n hx hb d_M_digits_16 rfl (lv_at hl 0 rfl) ?_
  refine gM C hK hP 0 rfl 0 (by decide) k_fl_M_code rfl d_M_digits_17 ?_
  refine lv_topi (fun k_3 ek_3 => ?_)
  have ek_3 : k_3 = 0 := ek_3.trans (by rw [← eu_2])
  subst ek_3
  refine lv_if_le (tgt := 25) hx hb d_M_digits_20 (by decide) (fun _ => ?_) (fun c_4 => False.elim (absurd c_4 (by decide)))
  refine lv_aload_n hx hb d_M_digits_25 rfl (lv_at hl 0 rfl) ?_
  refine lv_iload_n hx hb d_M_digits_26 rfl (lv_at hl 1 rfl) ?_
  refine lv_bipush (v := 8) hx hb d_M_digits_27 (by decide) ?_
  refine kM_copy (ra := rk) (rb := 8) (by omega) (by decide) C hl.1 ⟨Nat.le_of_ble_eq_true rfl, Nat.le_of_ble_eq_true rfl⟩ (Nat.le_of_ble_eq_true rfl) ⟨Nat.le_of_ble_eq_true rfl, Nat.le_of_ble_eq_true rfl⟩ hP hK hD hS hA d_M_digits_29 (fun u_5 H locs eu_5 hP hD hS => ?_)
  refine lv_aload_n hx hb d_M_digits_32 rfl (lv_at hl 0 rfl) ?_
  refine lv_iconst (v := 0) hx hb d_M_digits_33 (by decide) ?_
  refine pM_written C hK hP hD hS 0 rfl (Nat.le_of_ble_eq_true rfl) d_M_digits_34 (fun H locs hP hD hS => ?_)
  have hP : va_P D vwCl (wM q κ (u_5.1, u_5.2.1, u_5.2.2.1, u_5.2.2.2.1, u_5.2.2.2.2.1, u_5.2.2.2.2.2.1, 0)) H := hP
  have hD : va_D A (wM q κ (u_5.1, u_5.2.1, u_5.2.2.1, u_5.2.2.2.1, u_5.2.2.2.2.1, u_5.2.2.2.2.2.1, 0)) := hD
  generalize eu_6 : ((u_5.1, u_5.2.1, u_5.2.2.1, u_5.2.2.2.1, u_5.2.2.2.2.1, u_5.2.2.2.2.2.1, 0) : SM) = u_6 at hP hD
  refine lv_iconst (v := 1) hx hb d_M_digits_37 (by decide) ?_
  refine lv_istore_n (lv' := [(2, .int (1)), (0, .ref (q 0)), (1, .int (nI rk))]) hx hb d_M_digits_38 rfl hl (by decide) rfl (fun ls hl => ?_)
  refine wf_whileH (σ := SM × Nat × Bool) (fun x => wf_DM u x.1 (wf_R u.2.1 rk) x.2.1 x.2.2) (fun x => 40 - x.2.1) (fun x => wM q κ x.1) (fun x => [(2, .int (wf_bi x.2.2)), (0, .ref (q 0)), (1, .int (nI rk))]) (fun x H locs ls hIo hP hD hS hl iho => ?_) (u_6, 0, true) (wf_DM_0 hrk eu_2 eu_5 eu_6) hP hD hS (lv_sub hl [0, 1, 2] rfl)
  obtain ⟨w0, c_, m_⟩ := x
  have hP : va_P D vwCl (wM q κ w0) H := hP
  have hD : va_D A (wM q κ w0) := hD
  have hl : lv_has ls 5 [(2, .int (wf_bi m_)), (0, .ref (q 0)), (1, .int (nI rk))] := hl
  have hIo : wf_DM u w0 (wf_R u.2.1 rk) c_ m_ := hIo
  refine lv_iload_n hx hb d_M_digits_39 rfl (lv_at hl 0 rfl) ?_
  refine lv_if_eq (tgt := 192) hx hb d_M_digits_40 (by decide) (fun c_7 => ?_) (fun c_7 => ?_)
  · have hm := (wf_bi0 _).mp c_7
    rw [hm] at hIo
    refine lv_aload_n hx hb d_M_digits_192 rfl (lv_at hl 1 rfl) ?_
    refine gM C hK hP 0 rfl 6 (by decide) k_fl_M_written rfl d_M_digits_193 ?_
    exact wf_reti C hr hlocks w0 (⟨rfl, wf_DM_end hIo⟩) hP hK hD hS (fun _ h => h) d_M_digits_196
  · have hm := (wf_bi1 _).mp c_7
    rw [hm] at hIo
    have h38 := wf_DM_38 (wf_R_lt _ _) hIo
    refine lv_iconst (v := 0) hx hb d_M_digits_43 (by decide) ?_
    refine lv_istore_n (lv' := [(3, .int (0)), (2, .int (wf_bi m_)), (0, .ref (q 0)), (1, .int (nI rk))]) hx hb d_M_digits_44 rfl hl (by decide) rfl (fun ls hl => ?_)
    refine lv_iconst (v := 0) hx hb d_M_digits_45 (by decide) ?_
    refine lv_istore_n (lv' := [(2, .int (0)), (3, .int (0)), (0, .ref (q 0)), (1, .int (nI rk))]) hx hb d_M_digits_46 rfl hl (by decide) rfl (fun ls hl => ?_)
    refine lv_bipush (v := wf_dn 128 0) hx hb d_M_digits_47 (by decide) ?_
    refine lv_istore (lv' := [(4, .int (wf_dn 128 0)), (2, .int (0)), (3, .int (0)), (0, .ref (q 0)), (1, .int (nI rk))]) hx hb d_M_digits_49 hl (by decide) rfl (fun ls hl => ?_)
    refine wf_forH (σ := SM × Nat × Bool) 128 (fun i x => x.1 = (w0.1, x.1.2.1, w0.2.2) ∧ wf_TN w0.2.1 x.1.2.1 i x.2.1 x.2.2) (fun x => wM q κ x.1) (fun i x => [(4, .int (wf_dn 128 i)), (3, .int (nI x.2.1)), (2, .int (wf_bi x.2.2)), (0, .ref (q 0)), (1, .int (nI rk))]) (fun i x H locs ls hi hI hP hD hS hl ih => ?_) (fun x H locs ls hI hP hD hS hl => ?_) (w0, 0, false) (⟨rfl, wf_TN_0 _⟩) hP hD hS (lv_sub hl [0, 2, 1, 3, 4] rfl)
    · obtain ⟨w1, L_, m1⟩ := x
      have hP : va_P D vwCl (wM q κ w1) H := hP
      have hD : va_D A (wM q κ w1) := hD
      have hl : lv_has ls 5 [(4, .int (wf_dn 128 i)), (3, .int (nI L_)), (2, .int (wf_bi m1)), (0, .ref (q 0)), (1, .int (nI rk))] := hl
      have hI : w1 = (w0.1, w1.2.1, w0.2.2) ∧ wf_TN w0.2.1 w1.2.1 i L_ m1 := hI
      rw [wf_dn128 hi] at hl
      refine lv_iload hx hb d_M_digits_51 (lv_at hl 0 rfl) ?_
      refine lv_if_lt (tgt := 139) hx hb d_M_digits_53 (by decide) (fun c_8 => False.elim (by first | exact absurd c_8 (nI_pos (by omega)) | exact absurd (nI_pos (by omega)) c_8)) (fun c_8 => ?_)
      refine lv_iconst (v := 2) hx hb d_M_digits_56 (by decide) ?_
      refine lv_iload_n hx hb d_M_digits_57 rfl (lv_at hl 1 rfl) ?_
      refine lv_imul hx hb d_M_digits_58 ?_
      refine lv_aload_n hx hb d_M_digits_59 rfl (lv_at hl 3 rfl) ?_
      refine gM C hK hP 0 rfl 1 (by decide) k_fl_M_bits rfl d_M_digits_60 ?_
      refine lv_sipush (v := 1024) hx hb d_M_digits_63 (by decide) ?_
      refine lv_iload hx hb d_M_digits_66 (lv_at hl 0 rfl) ?_
      refine lv_iadd hx hb d_M_digits_68 ?_
      refine wf_zald C hK hP 1 0 rfl rfl (k := 1024 + (127 - i)) (wf_ia (x := 1024) (y := 127 - i) rfl rfl) (by omega) (by decide) d_M_digits_69 ?_
      have hL10 := hI.2.2.1
      refine lv_if_eq (tgt := 77) hx hb d_M_digits_70 (by decide) (fun c_9 => ?_) (fun c_9 => ?_)
      · have hy1 : false = w1.2.1 (1024 + (127 - i)) := ((wf_bi0 _).mp c_9).symm
        have hX : 2 * L_ + false.toNat < 2 ^ 31 := by simp only [Bool.toNat_false, Bool.toNat_true]; omega
        refine lv_iconst (v := 0) hx hb d_M_digits_77 (by decide) ?_
        refine lv_iadd hx hb d_M_digits_78 ?_
        refine lv_topi (fun k_10 ek_10 => ?_)
        have ek_10 : k_10 = nI (2 * L_ + false.toNat) := ek_10.trans (wf_ia (x := 2 * L_) (y := false.toNat) (wf_im (x := 2) (y := L_) rfl rfl) rfl)
        subst ek_10
        refine lv_istore_n (lv' := [(3, .int (nI (2 * L_ + false.toNat))), (4, .int (nI (127 - i))), (2, .int (wf_bi m1)), (0, .ref (q 0)), (1, .int (nI rk))]) hx hb d_M_digits_79 rfl hl (by decide) rfl (fun ls hl => ?_)
        by_cases h10 : 10 ≤ 2 * L_ + false.toNat
        · refine lv_aload_n hx hb d_M_digits_80 rfl (lv_at hl 3 rfl) ?_
          refine gM C hK hP 0 rfl 1 (by decide) k_fl_M_bits rfl d_M_digits_81 ?_
          refine lv_sipush (v := 1024) hx hb d_M_digits_84 (by decide) ?_
          refine lv_iload hx hb d_M_digits_87 (lv_at hl 1 rfl) ?_
          refine lv_iadd hx hb d_M_digits_89 ?_
          refine lv_iload_n hx hb d_M_digits_90 rfl (lv_at hl 0 rfl) ?_
          refine lv_bipush (v := 10) hx hb d_M_digits_91 (by decide) ?_
          refine lv_icmp_lt (tgt := 100) hx hb d_M_digits_93 (by decide) (fun c_11 => False.elim (by first | exact absurd c_11 (nI_nlt (b := 10) h10 hX) | exact absurd (nI_nlt (b := 10) h10 hX) c_11)) (fun c_11 => ?_)
          refine lv_iconst (v := 1) hx hb d_M_digits_96 (by decide) ?_
          refine lv_goto (tgt := 101) hx hb d_M_digits_97 (by decide) ?_
          refine wf_zast C hK hP hD hS 1 0 rfl rfl (k := 1024 + (127 - i)) (b := true) (wf_ia (x := 1024) (y := 127 - i) rfl rfl) (by omega) (by decide) d_M_digits_101 (fun H locs hP hD hS => ?_)
          have hP : va_P D vwCl (wM q κ (w1.1, va_up w1.2.1 (1024 + (127 - i)) true, w1.2.2)) H := hP
          have hD : va_D A (wM q κ (w1.1, va_up w1.2.1 (1024 + (127 - i)) true, w1.2.2)) := hD
          generalize eu_12 : ((w1.1, va_up w1.2.1 (1024 + (127 - i)) true, w1.2.2) : SM) = u_12 at hP hD
          refine lv_iload_n hx hb d_M_digits_102 rfl (lv_at hl 2 rfl) ?_
          refine wf_cutI (pcj := 117) (ls := ls) (rest := []) (fun z => z = wf_bi (true)) (fun z_13 ez_13 => ?_) (fun jn => ?_)
          · subst ez_13
            refine lv_istore_n (lv' := [(2, .int (wf_bi (true))), (3, .int (nI (2 * L_ + false.toNat))), (4, .int (nI (127 - i))), (0, .ref (q 0)), (1, .int (nI rk))]) hx hb d_M_digits_117 rfl hl (by decide) rfl (fun ls hl => ?_)
            refine lv_iload_n hx hb d_M_digits_118 rfl (lv_at hl 1 rfl) ?_
            refine lv_bipush (v := 10) hx hb d_M_digits_119 (by decide) ?_
            refine lv_icmp_lt (tgt := 131) hx hb d_M_digits_121 (by decide) (fun c_14 => False.elim (by first | exact absurd c_14 (nI_nlt (b := 10) h10 hX) | exact absurd (nI_nlt (b := 10) h10 hX) c_14)) (fun c_14 => ?_)
            refine lv_iload_n hx hb d_M_digits_124 rfl (lv_at hl 1 rfl) ?_
            refine lv_bipush (v := 10) hx hb d_M_digits_125 (by decide) ?_
            refine lv_isub hx hb d_M_digits_127 ?_
            refine lv_topi (fun k_15 ek_15 => ?_)
            have ek_15 : k_15 = nI (2 * L_ + false.toNat - 10) := ek_15.trans (wf_is (x := 2 * L_ + false.toNat) (y := 10) rfl rfl h10)
            subst ek_15
            refine lv_goto (tgt := 132) hx hb d_M_digits_128 (by decide) ?_
            refine lv_istore_n (lv' := [(3, .int (nI (2 * L_ + false.toNat - 10))), (2, .int (wf_bi (true))), (4, .int (nI (127 - i))), (0, .ref (q 0)), (1, .int (nI rk))]) hx hb d_M_digits_132 rfl hl (by decide) rfl (fun ls hl => ?_)
            refine lv_iinc (v := wf_dn 128 (i + 1)) (lv' := [(4, .int (wf_dn 128 (i + 1))), (3, .int (nI (2 * L_ + false.toNat - 10))), (2, .int (wf_bi (true))), (0, .ref (q 0)), (1, .int (nI rk))]) hx hb d_M_digits_133 hl (k := 2) rfl (by rw [← wf_dn128 hi]; exact wf_dn_S) (by decide) rfl (fun ls hl => ?_)
            refine lv_goto (tgt := 51) hx hb d_M_digits_136 (by decide) ?_
            have t := wf_TN_S hi hI.2 hy1 (X := 2 * L_ + false.toNat) rfl
            rw [decide_eq_true h10, if_pos h10, Bool.or_true] at t
            exact ih (u_12, 2 * L_ + false.toNat - 10, true) H locs ls ⟨by rw [← eu_12, hI.1], by rw [← eu_12]; exact t⟩ hP hD hS (lv_sub hl [0, 1, 2, 3, 4] rfl)
          · refine lv_if_ne (tgt := 112) hx hb d_M_digits_103 (by decide) (fun c_16 => ?_) (fun c_16 => ?_)
            · refine lv_iconst (v := 1) hx hb d_M_digits_112 (by decide) ?_
              refine lv_goto (tgt := 117) hx hb d_M_digits_113 (by decide) ?_
              exact jn _ (by revert c_16; cases m1 <;> decide)
            · refine lv_iload_n hx hb d_M_digits_106 rfl (lv_at hl 0 rfl) ?_
              refine lv_bipush (v := 10) hx hb d_M_digits_107 (by decide) ?_
              refine lv_icmp_lt (tgt := 116) hx hb d_M_digits_109 (by decide) (fun c_17 => False.elim (by first | exact absurd c_17 (nI_nlt (b := 10) h10 hX) | exact absurd (nI_nlt (b := 10) h10 hX) c_17)) (fun c_17 => ?_)
              refine lv_iconst (v := 1) hx hb d_M_digits_112 (by decide) ?_
              refine lv_goto (tgt := 117) hx hb d_M_digits_113 (by decide) ?_
              exact jn _ (by revert c_16; cases m1 <;> decide)
        · refine lv_aload_n hx hb d_M_digits_80 rfl (lv_at hl 3 rfl) ?_
          refine gM C hK hP 0 rfl 1 (by decide) k_fl_M_bits rfl d_M_digits_81 ?_
          refine lv_sipush (v := 1024) hx hb d_M_digits_84 (by decide) ?_
          refine lv_iload hx hb d_M_digits_87 (lv_at hl 1 rfl) ?_
          refine lv_iadd hx hb d_M_digits_89 ?_
          refine lv_iload_n hx hb d_M_digits_90 rfl (lv_at hl 0 rfl) ?_
          refine lv_bipush (v := 10) hx hb d_M_digits_91 (by decide) ?_
          refine lv_icmp_lt (tgt := 100) hx hb d_M_digits_93 (by decide) (fun c_18 => ?_) (fun c_18 => False.elim (by first | exact absurd (nI_lt (b := 10) (Nat.not_le.mp h10) (by decide)) c_18 | exact absurd c_18 (nI_lt (b := 10) (Nat.not_le.mp h10) (by decide))))
          refine lv_iconst (v := 0) hx hb d_M_digits_100 (by decide) ?_
          refine wf_zast C hK hP hD hS 1 0 rfl rfl (k := 1024 + (127 - i)) (b := false) (wf_ia (x := 1024) (y := 127 - i) rfl rfl) (by omega) (by decide) d_M_digits_101 (fun H locs hP hD hS => ?_)
          have hP : va_P D vwCl (wM q κ (w1.1, va_up w1.2.1 (1024 + (127 - i)) false, w1.2.2)) H := hP
          have hD : va_D A (wM q κ (w1.1, va_up w1.2.1 (1024 + (127 - i)) false, w1.2.2)) := hD
          generalize eu_19 : ((w1.1, va_up w1.2.1 (1024 + (127 - i)) false, w1.2.2) : SM) = u_19 at hP hD
          refine lv_iload_n hx hb d_M_digits_102 rfl (lv_at hl 2 rfl) ?_
          refine wf_cutI (pcj := 117) (ls := ls) (rest := []) (fun z => z = wf_bi (m1)) (fun z_20 ez_20 => ?_) (fun jn => ?_)
          · subst ez_20
            refine lv_istore_n (lv' := [(2, .int (wf_bi (m1))), (3, .int (nI (2 * L_ + false.toNat))), (4, .int (nI (127 - i))), (0, .ref (q 0)), (1, .int (nI rk))]) hx hb d_M_digits_117 rfl hl (by decide) rfl (fun ls hl => ?_)
            refine lv_iload_n hx hb d_M_digits_118 rfl (lv_at hl 1 rfl) ?_
            refine lv_bipush (v := 10) hx hb d_M_digits_119 (by decide) ?_
            refine lv_icmp_lt (tgt := 131) hx hb d_M_digits_121 (by decide) (fun c_21 => ?_) (fun c_21 => False.elim (by first | exact absurd (nI_lt (b := 10) (Nat.not_le.mp h10) (by decide)) c_21 | exact absurd c_21 (nI_lt (b := 10) (Nat.not_le.mp h10) (by decide))))
            refine lv_iload_n hx hb d_M_digits_131 rfl (lv_at hl 1 rfl) ?_
            refine lv_istore_n (lv' := [(3, .int (nI (2 * L_ + false.toNat))), (2, .int (wf_bi (m1))), (4, .int (nI (127 - i))), (0, .ref (q 0)), (1, .int (nI rk))]) hx hb d_M_digits_132 rfl hl (by decide) rfl (fun ls hl => ?_)
            refine lv_iinc (v := wf_dn 128 (i + 1)) (lv' := [(4, .int (wf_dn 128 (i + 1))), (3, .int (nI (2 * L_ + false.toNat))), (2, .int (wf_bi (m1))), (0, .ref (q 0)), (1, .int (nI rk))]) hx hb d_M_digits_133 hl (k := 2) rfl (by rw [← wf_dn128 hi]; exact wf_dn_S) (by decide) rfl (fun ls hl => ?_)
            refine lv_goto (tgt := 51) hx hb d_M_digits_136 (by decide) ?_
            have t := wf_TN_S hi hI.2 hy1 (X := 2 * L_ + false.toNat) rfl
            rw [decide_eq_false h10, if_neg h10, Bool.or_false] at t
            exact ih (u_19, 2 * L_ + false.toNat, m1) H locs ls ⟨by rw [← eu_19, hI.1], by rw [← eu_19]; exact t⟩ hP hD hS (lv_sub hl [0, 1, 2, 3, 4] rfl)
          · refine lv_if_ne (tgt := 112) hx hb d_M_digits_103 (by decide) (fun c_22 => ?_) (fun c_22 => ?_)
            · refine lv_iconst (v := 1) hx hb d_M_digits_112 (by decide) ?_
              refine lv_goto (tgt := 117) hx hb d_M_digits_113 (by decide) ?_
              exact jn _ (by revert c_22; cases m1 <;> decide)
            · refine lv_iload_n hx hb d_M_digits_106 rfl (lv_at hl 0 rfl) ?_
              refine lv_bipush (v := 10) hx hb d_M_digits_107 (by decide) ?_
              refine lv_icmp_lt (tgt := 116) hx hb d_M_digits_109 (by decide) (fun c_23 => ?_) (fun c_23 => False.elim (by first | exact absurd (nI_lt (b := 10) (Nat.not_le.mp h10) (by decide)) c_23 | exact absurd c_23 (nI_lt (b := 10) (Nat.not_le.mp h10) (by decide))))
              refine lv_iconst (v := 0) hx hb d_M_digits_116 (by decide) ?_
              exact jn _ (by revert c_22; cases m1 <;> decide)
      · have hy1 : true = w1.2.1 (1024 + (127 - i)) := ((wf_bi1 _).mp c_9).symm
        have hX : 2 * L_ + true.toNat < 2 ^ 31 := by simp only [Bool.toNat_false, Bool.toNat_true]; omega
        refine lv_iconst (v := 1) hx hb d_M_digits_73 (by decide) ?_
        refine lv_goto (tgt := 78) hx hb d_M_digits_74 (by decide) ?_
        refine lv_iadd hx hb d_M_digits_78 ?_
        refine lv_topi (fun k_24 ek_24 => ?_)
        have ek_24 : k_24 = nI (2 * L_ + true.toNat) := ek_24.trans (wf_ia (x := 2 * L_) (y := true.toNat) (wf_im (x := 2) (y := L_) rfl rfl) rfl)
        subst ek_24
        refine lv_istore_n (lv' := [(3, .int (nI (2 * L_ + true.toNat))), (4, .int (nI (127 - i))), (2, .int (wf_bi m1)), (0, .ref (q 0)), (1, .int (nI rk))]) hx hb d_M_digits_79 rfl hl (by decide) rfl (fun ls hl => ?_)
        by_cases h10 : 10 ≤ 2 * L_ + true.toNat
        · refine lv_aload_n hx hb d_M_digits_80 rfl (lv_at hl 3 rfl) ?_
          refine gM C hK hP 0 rfl 1 (by decide) k_fl_M_bits rfl d_M_digits_81 ?_
          refine lv_sipush (v := 1024) hx hb d_M_digits_84 (by decide) ?_
          refine lv_iload hx hb d_M_digits_87 (lv_at hl 1 rfl) ?_
          refine lv_iadd hx hb d_M_digits_89 ?_
          refine lv_iload_n hx hb d_M_digits_90 rfl (lv_at hl 0 rfl) ?_
          refine lv_bipush (v := 10) hx hb d_M_digits_91 (by decide) ?_
          refine lv_icmp_lt (tgt := 100) hx hb d_M_digits_93 (by decide) (fun c_25 => False.elim (by first | exact absurd c_25 (nI_nlt (b := 10) h10 hX) | exact absurd (nI_nlt (b := 10) h10 hX) c_25)) (fun c_25 => ?_)
          refine lv_iconst (v := 1) hx hb d_M_digits_96 (by decide) ?_
          refine lv_goto (tgt := 101) hx hb d_M_digits_97 (by decide) ?_
          refine wf_zast C hK hP hD hS 1 0 rfl rfl (k := 1024 + (127 - i)) (b := true) (wf_ia (x := 1024) (y := 127 - i) rfl rfl) (by omega) (by decide) d_M_digits_101 (fun H locs hP hD hS => ?_)
          have hP : va_P D vwCl (wM q κ (w1.1, va_up w1.2.1 (1024 + (127 - i)) true, w1.2.2)) H := hP
          have hD : va_D A (wM q κ (w1.1, va_up w1.2.1 (1024 + (127 - i)) true, w1.2.2)) := hD
          generalize eu_26 : ((w1.1, va_up w1.2.1 (1024 + (127 - i)) true, w1.2.2) : SM) = u_26 at hP hD
          refine lv_iload_n hx hb d_M_digits_102 rfl (lv_at hl 2 rfl) ?_
          refine wf_cutI (pcj := 117) (ls := ls) (rest := []) (fun z => z = wf_bi (true)) (fun z_27 ez_27 => ?_) (fun jn => ?_)
          · subst ez_27
            refine lv_istore_n (lv' := [(2, .int (wf_bi (true))), (3, .int (nI (2 * L_ + true.toNat))), (4, .int (nI (127 - i))), (0, .ref (q 0)), (1, .int (nI rk))]) hx hb d_M_digits_117 rfl hl (by decide) rfl (fun ls hl => ?_)
            refine lv_iload_n hx hb d_M_digits_118 rfl (lv_at hl 1 rfl) ?_
            refine lv_bipush (v := 10) hx hb d_M_digits_119 (by decide) ?_
            refine lv_icmp_lt (tgt := 131) hx hb d_M_digits_121 (by decide) (fun c_28 => False.elim (by first | exact absurd c_28 (nI_nlt (b := 10) h10 hX) | exact absurd (nI_nlt (b := 10) h10 hX) c_28)) (fun c_28 => ?_)
            refine lv_iload_n hx hb d_M_digits_124 rfl (lv_at hl 1 rfl) ?_
            refine lv_bipush (v := 10) hx hb d_M_digits_125 (by decide) ?_
            refine lv_isub hx hb d_M_digits_127 ?_
            refine lv_topi (fun k_29 ek_29 => ?_)
            have ek_29 : k_29 = nI (2 * L_ + true.toNat - 10) := ek_29.trans (wf_is (x := 2 * L_ + true.toNat) (y := 10) rfl rfl h10)
            subst ek_29
            refine lv_goto (tgt := 132) hx hb d_M_digits_128 (by decide) ?_
            refine lv_istore_n (lv' := [(3, .int (nI (2 * L_ + true.toNat - 10))), (2, .int (wf_bi (true))), (4, .int (nI (127 - i))), (0, .ref (q 0)), (1, .int (nI rk))]) hx hb d_M_digits_132 rfl hl (by decide) rfl (fun ls hl => ?_)
            refine lv_iinc (v := wf_dn 128 (i + 1)) (lv' := [(4, .int (wf_dn 128 (i + 1))), (3, .int (nI (2 * L_ + true.toNat - 10))), (2, .int (wf_bi (true))), (0, .ref (q 0)), (1, .int (nI rk))]) hx hb d_M_digits_133 hl (k := 2) rfl (by rw [← wf_dn128 hi]; exact wf_dn_S) (by decide) rfl (fun ls hl => ?_)
            refine lv_goto (tgt := 51) hx hb d_M_digits_136 (by decide) ?_
            have t := wf_TN_S hi hI.2 hy1 (X := 2 * L_ + true.toNat) rfl
            rw [decide_eq_true h10, if_pos h10, Bool.or_true] at t
            exact ih (u_26, 2 * L_ + true.toNat - 10, true) H locs ls ⟨by rw [← eu_26, hI.1], by rw [← eu_26]; exact t⟩ hP hD hS (lv_sub hl [0, 1, 2, 3, 4] rfl)
          · refine lv_if_ne (tgt := 112) hx hb d_M_digits_103 (by decide) (fun c_30 => ?_) (fun c_30 => ?_)
            · refine lv_iconst (v := 1) hx hb d_M_digits_112 (by decide) ?_
              refine lv_goto (tgt := 117) hx hb d_M_digits_113 (by decide) ?_
              exact jn _ (by revert c_30; cases m1 <;> decide)
            · refine lv_iload_n hx hb d_M_digits_106 rfl (lv_at hl 0 rfl) ?_
              refine lv_bipush (v := 10) hx hb d_M_digits_107 (by decide) ?_
              refine lv_icmp_lt (tgt := 116) hx hb d_M_digits_109 (by decide) (fun c_31 => False.elim (by first | exact absurd c_31 (nI_nlt (b := 10) h10 hX) | exact absurd (nI_nlt (b := 10) h10 hX) c_31)) (fun c_31 => ?_)
              refine lv_iconst (v := 1) hx hb d_M_digits_112 (by decide) ?_
              refine lv_goto (tgt := 117) hx hb d_M_digits_113 (by decide) ?_
              exact jn _ (by revert c_30; cases m1 <;> decide)
        · refine lv_aload_n hx hb d_M_digits_80 rfl (lv_at hl 3 rfl) ?_
          refine gM C hK hP 0 rfl 1 (by decide) k_fl_M_bits rfl d_M_digits_81 ?_
          refine lv_sipush (v := 1024) hx hb d_M_digits_84 (by decide) ?_
          refine lv_iload hx hb d_M_digits_87 (lv_at hl 1 rfl) ?_
          refine lv_iadd hx hb d_M_digits_89 ?_
          refine lv_iload_n hx hb d_M_digits_90 rfl (lv_at hl 0 rfl) ?_
          refine lv_bipush (v := 10) hx hb d_M_digits_91 (by decide) ?_
          refine lv_icmp_lt (tgt := 100) hx hb d_M_digits_93 (by decide) (fun c_32 => ?_) (fun c_32 => False.elim (by first | exact absurd (nI_lt (b := 10) (Nat.not_le.mp h10) (by decide)) c_32 | exact absurd c_32 (nI_lt (b := 10) (Nat.not_le.mp h10) (by decide))))
          refine lv_iconst (v := 0) hx hb d_M_digits_100 (by decide) ?_
          refine wf_zast C hK hP hD hS 1 0 rfl rfl (k := 1024 + (127 - i)) (b := false) (wf_ia (x := 1024) (y := 127 - i) rfl rfl) (by omega) (by decide) d_M_digits_101 (fun H locs hP hD hS => ?_)
          have hP : va_P D vwCl (wM q κ (w1.1, va_up w1.2.1 (1024 + (127 - i)) false, w1.2.2)) H := hP
          have hD : va_D A (wM q κ (w1.1, va_up w1.2.1 (1024 + (127 - i)) false, w1.2.2)) := hD
          generalize eu_33 : ((w1.1, va_up w1.2.1 (1024 + (127 - i)) false, w1.2.2) : SM) = u_33 at hP hD
          refine lv_iload_n hx hb d_M_digits_102 rfl (lv_at hl 2 rfl) ?_
          refine wf_cutI (pcj := 117) (ls := ls) (rest := []) (fun z => z = wf_bi (m1)) (fun z_34 ez_34 => ?_) (fun jn => ?_)
          · subst ez_34
            refine lv_istore_n (lv' := [(2, .int (wf_bi (m1))), (3, .int (nI (2 * L_ + true.toNat))), (4, .int (nI (127 - i))), (0, .ref (q 0)), (1, .int (nI rk))]) hx hb d_M_digits_117 rfl hl (by decide) rfl (fun ls hl => ?_)
            refine lv_iload_n hx hb d_M_digits_118 rfl (lv_at hl 1 rfl) ?_
            refine lv_bipush (v := 10) hx hb d_M_digits_119 (by decide) ?_
            refine lv_icmp_lt (tgt := 131) hx hb d_M_digits_121 (by decide) (fun c_35 => ?_) (fun c_35 => False.elim (by first | exact absurd (nI_lt (b := 10) (Nat.not_le.mp h10) (by decide)) c_35 | exact absurd c_35 (nI_lt (b := 10) (Nat.not_le.mp h10) (by decide))))
            refine lv_iload_n hx hb d_M_digits_131 rfl (lv_at hl 1 rfl) ?_
            refine lv_istore_n (lv' := [(3, .int (nI (2 * L_ + true.toNat))), (2, .int (wf_bi (m1))), (4, .int (nI (127 - i))), (0, .ref (q 0)), (1, .int (nI rk))]) hx hb d_M_digits_132 rfl hl (by decide) rfl (fun ls hl => ?_)
            refine lv_iinc (v := wf_dn 128 (i + 1)) (lv' := [(4, .int (wf_dn 128 (i + 1))), (3, .int (nI (2 * L_ + true.toNat))), (2, .int (wf_bi (m1))), (0, .ref (q 0)), (1, .int (nI rk))]) hx hb d_M_digits_133 hl (k := 2) rfl (by rw [← wf_dn128 hi]; exact wf_dn_S) (by decide) rfl (fun ls hl => ?_)
            refine lv_goto (tgt := 51) hx hb d_M_digits_136 (by decide) ?_
            have t := wf_TN_S hi hI.2 hy1 (X := 2 * L_ + true.toNat) rfl
            rw [decide_eq_false h10, if_neg h10, Bool.or_false] at t
            exact ih (u_33, 2 * L_ + true.toNat, m1) H locs ls ⟨by rw [← eu_33, hI.1], by rw [← eu_33]; exact t⟩ hP hD hS (lv_sub hl [0, 1, 2, 3, 4] rfl)
          · refine lv_if_ne (tgt := 112) hx hb d_M_digits_103 (by decide) (fun c_36 => ?_) (fun c_36 => ?_)
            · refine lv_iconst (v := 1) hx hb d_M_digits_112 (by decide) ?_
              refine lv_goto (tgt := 117) hx hb d_M_digits_113 (by decide) ?_
              exact jn _ (by revert c_36; cases m1 <;> decide)
            · refine lv_iload_n hx hb d_M_digits_106 rfl (lv_at hl 0 rfl) ?_
              refine lv_bipush (v := 10) hx hb d_M_digits_107 (by decide) ?_
              refine lv_icmp_lt (tgt := 116) hx hb d_M_digits_109 (by decide) (fun c_37 => ?_) (fun c_37 => False.elim (by first | exact absurd (nI_lt (b := 10) (Nat.not_le.mp h10) (by decide)) c_37 | exact absurd c_37 (nI_lt (b := 10) (Nat.not_le.mp h10) (by decide))))
              refine lv_iconst (v := 0) hx hb d_M_digits_116 (by decide) ?_
              exact jn _ (by revert c_36; cases m1 <;> decide)
    · obtain ⟨w1, L_, m1⟩ := x
      have hP : va_P D vwCl (wM q κ w1) H := hP
      have hD : va_D A (wM q κ w1) := hD
      have hl : lv_has ls 5 [(4, .int (wf_dn 128 128)), (3, .int (nI L_)), (2, .int (wf_bi m1)), (0, .ref (q 0)), (1, .int (nI rk))] := hl
      have hI : w1 = (w0.1, w1.2.1, w0.2.2) ∧ wf_TN w0.2.1 w1.2.1 128 L_ m1 := hI
      have hw1 : w1.2.2.2.2.2.2 = nI c_ := by rw [hI.1]; exact hIo.2.2.2.2.1
      refine lv_iload hx hb d_M_digits_51 (lv_at hl 0 rfl) ?_
      refine lv_if_lt (tgt := 139) hx hb d_M_digits_53 (by decide) (fun c_38 => ?_) (fun c_38 => False.elim (by first | exact absurd (by rw [wf_dn_end]; decide) c_38 | exact absurd c_38 (by rw [wf_dn_end]; decide)))
      refine lv_aload_n hx hb d_M_digits_139 rfl (lv_at hl 3 rfl) ?_
      refine gM C hK hP 0 rfl 6 (by decide) k_fl_M_written rfl d_M_digits_140 ?_
      refine lv_topi (fun k_39 ek_39 => ?_)
      have ek_39 : k_39 = nI c_ := ek_39.trans (hw1)
      subst ek_39
      refine lv_istore (lv' := [(4, .int (nI c_)), (3, .int (nI L_)), (2, .int (wf_bi m1)), (0, .ref (q 0)), (1, .int (nI rk))]) hx hb d_M_digits_143 hl (by decide) rfl (fun ls hl => ?_)
      refine wf_forH (σ := SM) c_ (fun i x => x = (w1.1, w1.2.1, w1.2.2.1, w1.2.2.2.1, w1.2.2.2.2.1, wf_shD w1.2.2.2.2.2.1 c_ i, w1.2.2.2.2.2.2)) (fun x => wM q κ x) (fun i x => [(4, .int (nI (c_ - i))), (3, .int (nI L_)), (2, .int (wf_bi m1)), (0, .ref (q 0)), (1, .int (nI rk))]) (fun i3 x H locs ls hi3 hI3 hP hD hS hl ih3 => ?_) (fun x H locs ls hI3 hP hD hS hl => ?_) w1 (by rw [wf_shD0]) hP hD hS (lv_sub hl [0, 1, 2, 3, 4] rfl)
      · have hP : va_P D vwCl (wM q κ x) H := hP
        have hD : va_D A (wM q κ x) := hD
        have hl : lv_has ls 5 [(4, .int (nI (c_ - i3))), (3, .int (nI L_)), (2, .int (wf_bi m1)), (0, .ref (q 0)), (1, .int (nI rk))] := hl
        have hI3 : x = (w1.1, w1.2.1, w1.2.2.1, w1.2.2.2.1, w1.2.2.2.2.1, wf_shD w1.2.2.2.2.2.1 c_ i3, w1.2.2.2.2.2.2) := hI3
        refine lv_iload hx hb d_M_digits_145 (lv_at hl 0 rfl) ?_
        refine lv_if_le (tgt := 172) hx hb d_M_digits_147 (by decide) (fun c_40 => False.elim (by first | exact absurd c_40 (nI_nle (n := c_ - i3) (by omega) (by omega)) | exact absurd (nI_nle (n := c_ - i3) (by omega) (by omega)) c_40)) (fun c_40 => ?_)
        refine lv_aload_n hx hb d_M_digits_150 rfl (lv_at hl 3 rfl) ?_
        refine gM C hK hP 0 rfl 5 (by decide) k_fl_M_digits rfl d_M_digits_151 ?_
        refine lv_iload hx hb d_M_digits_154 (lv_at hl 0 rfl) ?_
        refine lv_aload_n hx hb d_M_digits_156 rfl (lv_at hl 3 rfl) ?_
        refine gM C hK hP 0 rfl 5 (by decide) k_fl_M_digits rfl d_M_digits_157 ?_
        refine lv_iload hx hb d_M_digits_160 (lv_at hl 0 rfl) ?_
        refine lv_iconst (v := 1) hx hb d_M_digits_162 (by decide) ?_
        refine lv_isub hx hb d_M_digits_163 ?_
        refine wf_iald C hK hP 5 4 rfl rfl (k := c_ - i3 - 1) (wf_is (x := c_ - i3) (y := 1) rfl rfl (by omega)) (by omega) (by decide) d_M_digits_164 ?_
        refine wf_iast C hK hP hD hS 5 4 rfl rfl (k := c_ - i3) rfl (by omega) (by decide) d_M_digits_165 (fun H locs hP hD hS => ?_)
        have hP : va_P D vwCl (wM q κ (x.1, x.2.1, x.2.2.1, x.2.2.2.1, x.2.2.2.2.1, va_up x.2.2.2.2.2.1 (c_ - i3) (x.2.2.2.2.2.1 (c_ - i3 - 1)), x.2.2.2.2.2.2)) H := hP
        have hD : va_D A (wM q κ (x.1, x.2.1, x.2.2.1, x.2.2.2.1, x.2.2.2.2.1, va_up x.2.2.2.2.2.1 (c_ - i3) (x.2.2.2.2.2.1 (c_ - i3 - 1)), x.2.2.2.2.2.2)) := hD
        generalize eu_41 : ((x.1, x.2.1, x.2.2.1, x.2.2.2.1, x.2.2.2.2.1, va_up x.2.2.2.2.2.1 (c_ - i3) (x.2.2.2.2.2.1 (c_ - i3 - 1)), x.2.2.2.2.2.2) : SM) = u_41 at hP hD
        refine lv_iinc (v := nI (c_ - (i3 + 1))) (lv' := [(4, .int (nI (c_ - (i3 + 1)))), (3, .int (nI L_)), (2, .int (wf_bi m1)), (0, .ref (q 0)), (1, .int (nI rk))]) hx hb d_M_digits_166 hl (k := 0) rfl ((wf_deI (k := c_ - i3) (by omega)).trans (by rw [Nat.sub_sub])) (by decide) rfl (fun ls hl => ?_)
        refine lv_goto (tgt := 145) hx hb d_M_digits_169 (by decide) ?_
        exact ih3 u_41 H locs ls (by rw [← eu_41, hI3]; exact congrArg (fun z => (w1.1, w1.2.1, w1.2.2.1, w1.2.2.2.1, w1.2.2.2.2.1, z, w1.2.2.2.2.2.2)) (wf_shDS _ hi3)) hP hD hS (lv_sub hl [0, 1, 2, 3, 4] rfl)
      · have hP : va_P D vwCl (wM q κ x) H := hP
        have hD : va_D A (wM q κ x) := hD
        have hl : lv_has ls 5 [(4, .int (nI (c_ - c_))), (3, .int (nI L_)), (2, .int (wf_bi m1)), (0, .ref (q 0)), (1, .int (nI rk))] := hl
        have hI3 : x = (w1.1, w1.2.1, w1.2.2.1, w1.2.2.2.1, w1.2.2.2.2.1, wf_shD w1.2.2.2.2.2.1 c_ c_, w1.2.2.2.2.2.2) := hI3
        have hwr : x.2.2.2.2.2.2 = nI c_ := by rw [hI3]; exact hw1
        refine lv_iload hx hb d_M_digits_145 (lv_at hl 0 rfl) ?_
        refine lv_if_le (tgt := 172) hx hb d_M_digits_147 (by decide) (fun c_42 => ?_) (fun c_42 => False.elim (by first | exact absurd (by rw [Nat.sub_self]; decide) c_42 | exact absurd c_42 (by rw [Nat.sub_self]; decide)))
        refine lv_aload_n hx hb d_M_digits_172 rfl (lv_at hl 3 rfl) ?_
        refine gM C hK hP 0 rfl 5 (by decide) k_fl_M_digits rfl d_M_digits_173 ?_
        refine lv_iconst (v := 0) hx hb d_M_digits_176 (by decide) ?_
        refine lv_iload_n hx hb d_M_digits_177 rfl (lv_at hl 1 rfl) ?_
        refine wf_iast C hK hP hD hS 5 4 rfl rfl (k := 0) rfl (by omega) (by decide) d_M_digits_178 (fun H locs hP hD hS => ?_)
        have hP : va_P D vwCl (wM q κ (x.1, x.2.1, x.2.2.1, x.2.2.2.1, x.2.2.2.2.1, va_up x.2.2.2.2.2.1 0 (nI L_), x.2.2.2.2.2.2)) H := hP
        have hD : va_D A (wM q κ (x.1, x.2.1, x.2.2.1, x.2.2.2.1, x.2.2.2.2.1, va_up x.2.2.2.2.2.1 0 (nI L_), x.2.2.2.2.2.2)) := hD
        generalize eu_43 : ((x.1, x.2.1, x.2.2.1, x.2.2.2.1, x.2.2.2.2.1, va_up x.2.2.2.2.2.1 0 (nI L_), x.2.2.2.2.2.2) : SM) = u_43 at hP hD
        refine lv_aload_n hx hb d_M_digits_179 rfl (lv_at hl 3 rfl) ?_
        refine lv_dup hx hb d_M_digits_180 rfl ?_
        refine gM C hK hP 0 rfl 6 (by decide) k_fl_M_written rfl d_M_digits_181 ?_
        refine lv_iconst (v := 1) hx hb d_M_digits_184 (by decide) ?_
        refine lv_iadd hx hb d_M_digits_185 ?_
        refine lv_topi (fun k_44 ek_44 => ?_)
        have ek_44 : k_44 = nI (c_ + 1) := ek_44.trans (by rw [← eu_43]; show x.2.2.2.2.2.2 + 1 = _; rw [hwr, nI_1])
        subst ek_44
        refine pM_written C hK hP hD hS 0 rfl (Nat.le_of_ble_eq_true rfl) d_M_digits_186 (fun H locs hP hD hS => ?_)
        have hP : va_P D vwCl (wM q κ (u_43.1, u_43.2.1, u_43.2.2.1, u_43.2.2.2.1, u_43.2.2.2.2.1, u_43.2.2.2.2.2.1, nI (c_ + 1))) H := hP
        have hD : va_D A (wM q κ (u_43.1, u_43.2.1, u_43.2.2.1, u_43.2.2.2.1, u_43.2.2.2.2.1, u_43.2.2.2.2.2.1, nI (c_ + 1))) := hD
        generalize eu_45 : ((u_43.1, u_43.2.1, u_43.2.2.1, u_43.2.2.2.1, u_43.2.2.2.2.1, u_43.2.2.2.2.2.1, nI (c_ + 1)) : SM) = u_45 at hP hD
        refine lv_goto (tgt := 39) hx hb d_M_digits_189 (by decide) ?_
        exact iho (u_45, c_ + 1, m1) H locs ls (wf_DM_S (wf_R_lt _ _) hIo hI.1 hI.2 hI3 eu_43 eu_45) (by show 40 - (c_ + 1) < 40 - c_; omega) hP hD hS (lv_sub hl [2, 3, 4] rfl)
