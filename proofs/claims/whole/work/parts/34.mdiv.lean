/-! ===== the reference: findProduct, multiply, divide, root ===== -/
theorem wf_cpyZ_in {g : Nat → Bool} {n k : Nat} (h : k < n) : va_cpy (fun _ => false) g 0 0 n k = false := pk_cpy_in (f := fun _ => false) (Nat.zero_le _) (by omega)

set_option maxHeartbeats 4000000 in
set_option maxRecDepth 100000 in
/-- M_findProduct -/
theorem c_M_findProduct (l : Launch) (D : va_G) (q : Nat → Nat) (κ : Nat → ClassId) (u : SM) (ra : Nat) (hra : ra < 8) (rb : Nat) (hrb : rb < 8) (sz : Nat) : Met l y_M_findProduct (.code y_M_findProduct b_M_findProduct 8 none :: wG) (wf_rm 0 0 0 0) (wf_Pc D vwCl (wM q κ u) (tyM κ) ([.ref (q 0), .int (nI ra), .int (nI rb)]) sz) (va_Qv (fun v => ∃ f : Nat → Bool, v = (u.1, u.2.1, f, u.2.2.2) ∧ wf_sm f 256 = wf_R u.2.1 ra * wf_R u.2.1 rb) (wf_B D vwCl (wM q κ) (tyM κ) (va_A (wM q κ u) sz)) (va_A (wM q κ u) sz)) 0 0 (va_A (wM q κ u) sz) := by
  refine wf_open (by decide) (Nat.le_of_ble_eq_true rfl) k_M_findProduct ?_
  intro p e s m below meth c ls hsz C hr hlocks hnm hex hP hK hD hl
  subst hsz
  have hx := C.1
  have hb := C.2.1
  have hml := C.2.2.1
  have hown := C.2.2.2.1
  have hts := C.2.2.2.2
  have hA : ∀ j : Nat, s.heap.size ≤ j → va_A (wM q κ u) s.heap.size j := fun j h => Or.inr h
  have hS : va_S (va_A (wM q κ u) s.heap.size) s.heap s.heap [] := va_S.rf
  generalize hAe : va_A (wM q κ u) s.heap.size = A at hA hS hD ⊢
  have hl : lv_has ls 8 [(0, .ref (q 0)), (1, .int (nI ra)), (2, .int (nI rb))] := hl
  refine lv_iconst (v := 0) hx hb d_M_findProduct_0 (by decide) ?_
  refine lv_istore_n (lv' := [(3, .int (0)), (0, .ref (q 0)), (1, .int (nI ra)), (2, .int (nI rb))]) hx hb d_M_findProduct_1 rfl hl (by decide) rfl (fun ls hl => ?_)
  refine wf_forH (σ := SM) 256 (fun i x => x = (u.1, u.2.1, va_cpy (fun _ => false) u.2.2.1 0 0 i, u.2.2.2)) (fun x => wM q κ x) (fun i x => [(3, .int (nI i)), (0, .ref (q 0)), (1, .int (nI ra)), (2, .int (nI rb))]) (fun i x H locs ls hi hI hP hD hS hl ih => ?_) (fun x H locs ls hI hP hD hS hl => ?_) u (by rw [wf_cpy0]) hP hD hS (lv_sub hl [0, 1, 2, 3] rfl)
  · have hP : va_P D vwCl (wM q κ x) H := hP
    have hD : va_D A (wM q κ x) := hD
    have hl : lv_has ls 8 [(3, .int (nI i)), (0, .ref (q 0)), (1, .int (nI ra)), (2, .int (nI rb))] := hl
    have hI : x = (u.1, u.2.1, va_cpy (fun _ => false) u.2.2.1 0 0 i, u.2.2.2) := hI
    refine lv_iload_n hx hb d_M_findProduct_2 rfl (lv_at hl 0 rfl) ?_
    refine lv_sipush (v := 256) hx hb d_M_findProduct_3 (by decide) ?_
    refine lv_icmp_ge (tgt := 22) hx hb d_M_findProduct_6 (by decide) (fun c_1 => False.elim (by first | exact absurd c_1 (nI_ge hi (by decide)) | exact absurd (nI_ge hi (by decide)) c_1)) (fun c_1 => ?_)
    refine lv_aload_n hx hb d_M_findProduct_9 rfl (lv_at hl 1 rfl) ?_
    refine gM C hK hP 0 rfl 2 (by decide) k_fl_M_product rfl d_M_findProduct_10 ?_
    refine lv_iload_n hx hb d_M_findProduct_13 rfl (lv_at hl 0 rfl) ?_
    refine lv_iconst (v := 0) hx hb d_M_findProduct_14 (by decide) ?_
    refine wf_zast C hK hP hD hS 2 1 rfl rfl (k := i) (b := false) rfl (by omega) (by decide) d_M_findProduct_15 (fun H locs hP hD hS => ?_)
    have hP : va_P D vwCl (wM q κ (x.1, x.2.1, va_up x.2.2.1 i false, x.2.2.2)) H := hP
    have hD : va_D A (wM q κ (x.1, x.2.1, va_up x.2.2.1 i false, x.2.2.2)) := hD
    generalize eu_2 : ((x.1, x.2.1, va_up x.2.2.1 i false, x.2.2.2) : SM) = u_2 at hP hD
    refine lv_iinc (v := nI (i + 1)) (lv' := [(3, .int (nI (i + 1))), (0, .ref (q 0)), (1, .int (nI ra)), (2, .int (nI rb))]) hx hb d_M_findProduct_16 hl (k := 0) rfl (nI_1 _) (by decide) rfl (fun ls hl => ?_)
    refine lv_goto (tgt := 2) hx hb d_M_findProduct_19 (by decide) ?_
    exact ih u_2 H locs ls (by rw [← eu_2, hI]; exact congrArg (fun z => (u.1, u.2.1, z, u.2.2.2)) (wf_cpyZ _ _)) hP hD hS (lv_sub hl [0, 1, 2, 3] rfl)
  · have hP : va_P D vwCl (wM q κ x) H := hP
    have hD : va_D A (wM q κ x) := hD
    have hl : lv_has ls 8 [(3, .int (nI 256)), (0, .ref (q 0)), (1, .int (nI ra)), (2, .int (nI rb))] := hl
    have hI : x = (u.1, u.2.1, va_cpy (fun _ => false) u.2.2.1 0 0 256, u.2.2.2) := hI
    refine lv_iload_n hx hb d_M_findProduct_2 rfl (lv_at hl 0 rfl) ?_
    refine lv_sipush (v := 256) hx hb d_M_findProduct_3 (by decide) ?_
    refine lv_icmp_ge (tgt := 22) hx hb d_M_findProduct_6 (by decide) (fun c_3 => ?_) (fun c_3 => False.elim (by first | exact absurd (nI_le (Nat.le_refl 256) (by decide)) c_3 | exact absurd c_3 (nI_le (Nat.le_refl 256) (by decide))))
    refine lv_iconst (v := 0) hx hb d_M_findProduct_22 (by decide) ?_
    refine lv_istore_n (lv' := [(3, .int (0)), (0, .ref (q 0)), (1, .int (nI ra)), (2, .int (nI rb))]) hx hb d_M_findProduct_23 rfl hl (by decide) rfl (fun ls hl => ?_)
    refine wf_forH (σ := SM) 128 (fun i x => x = (u.1, u.2.1, x.2.2.1, u.2.2.2) ∧ wf_sm x.2.2.1 256 = wf_R u.2.1 ra * wf_sm (fun k => u.2.1 (128 * rb + k)) i) (fun x => wM q κ x) (fun i x => [(3, .int (nI i)), (0, .ref (q 0)), (1, .int (nI ra)), (2, .int (nI rb))]) (fun i1 x H locs ls hi1 hI1 hP hD hS hl ih1 => ?_) (fun x H locs ls hI1 hP hD hS hl => ?_) x (⟨by rw [hI], by rw [hI]; show wf_sm (va_cpy (fun _ => false) u.2.2.1 0 0 256) 256 = _; rw [wf_sm0, Nat.mul_zero]; exact wf_sm_eq0.mpr (fun k hk => wf_cpyZ_in hk)⟩) hP hD hS (lv_sub hl [0, 1, 2, 3] rfl)
    · obtain ⟨w1, rfl⟩ : ∃ z, z = x := ⟨x, rfl⟩
      have hP : va_P D vwCl (wM q κ w1) H := hP
      have hD : va_D A (wM q κ w1) := hD
      have hl : lv_has ls 8 [(3, .int (nI i1)), (0, .ref (q 0)), (1, .int (nI ra)), (2, .int (nI rb))] := hl
      have hI1 : w1 = (u.1, u.2.1, w1.2.2.1, u.2.2.2) ∧ wf_sm w1.2.2.1 256 = wf_R u.2.1 ra * wf_sm (fun k => u.2.1 (128 * rb + k)) i1 := hI1
      refine lv_iload_n hx hb d_M_findProduct_24 rfl (lv_at hl 0 rfl) ?_
      refine lv_sipush (v := 128) hx hb d_M_findProduct_25 (by decide) ?_
      refine lv_icmp_ge (tgt := 184) hx hb d_M_findProduct_28 (by decide) (fun c_4 => False.elim (by first | exact absurd c_4 (nI_ge hi1 (by decide)) | exact absurd (nI_ge hi1 (by decide)) c_4)) (fun c_4 => ?_)
      refine lv_aload_n hx hb d_M_findProduct_31 rfl (lv_at hl 1 rfl) ?_
      refine gM C hK hP 0 rfl 1 (by decide) k_fl_M_bits rfl d_M_findProduct_32 ?_
      refine lv_sipush (v := 128) hx hb d_M_findProduct_35 (by decide) ?_
      refine lv_iload_n hx hb d_M_findProduct_38 rfl (lv_at hl 3 rfl) ?_
      refine lv_imul hx hb d_M_findProduct_39 ?_
      refine lv_iload_n hx hb d_M_findProduct_40 rfl (lv_at hl 0 rfl) ?_
      refine lv_iadd hx hb d_M_findProduct_41 ?_
      refine wf_zald C hK hP 1 0 rfl rfl (k := 128 * rb + i1) (wf_ia (x := 128 * rb) (y := i1) (wf_im (x := 128) (y := rb) rfl rfl) rfl) (by omega) (by decide) d_M_findProduct_42 ?_
      refine lv_if_eq (tgt := 178) hx hb d_M_findProduct_43 (by decide) (fun c_5 => ?_) (fun c_5 => ?_)
      · have hy0 : u.2.1 (128 * rb + i1) = false := by rw [← (wf_bi0 _).mp c_5, hI1.1]
        refine lv_iinc (v := nI (i1 + 1)) (lv' := [(3, .int (nI (i1 + 1))), (0, .ref (q 0)), (1, .int (nI ra)), (2, .int (nI rb))]) hx hb d_M_findProduct_178 hl (k := 0) rfl (nI_1 _) (by decide) rfl (fun ls hl => ?_)
        refine lv_goto (tgt := 24) hx hb d_M_findProduct_181 (by decide) ?_
        exact ih1 w1 H locs ls ⟨hI1.1, wf_PI_no hI1.2 hy0⟩ hP hD hS (lv_sub hl [0, 1, 2, 3] rfl)
      · have hy0 : u.2.1 (128 * rb + i1) = true := by rw [← (wf_bi1 _).mp c_5, hI1.1]
        refine lv_iconst (v := 0) hx hb d_M_findProduct_46 (by decide) ?_
        refine lv_istore (lv' := [(4, .int (0)), (3, .int (nI i1)), (0, .ref (q 0)), (1, .int (nI ra)), (2, .int (nI rb))]) hx hb d_M_findProduct_47 hl (by decide) rfl (fun ls hl => ?_)
        refine lv_iconst (v := 0) hx hb d_M_findProduct_49 (by decide) ?_
        refine lv_istore (lv' := [(5, .int (0)), (4, .int (0)), (3, .int (nI i1)), (0, .ref (q 0)), (1, .int (nI ra)), (2, .int (nI rb))]) hx hb d_M_findProduct_50 hl (by decide) rfl (fun ls hl => ?_)
        refine wf_forH (σ := SM × Bool) (256 - i1) (fun i x => x.1 = (u.1, u.2.1, x.1.2.2.1, u.2.2.2) ∧ wf_PI (wf_lw u.2.1 ra) w1.2.2.1 x.1.2.2.1 i1 i x.2) (fun x => wM q κ x.1) (fun i x => [(5, .int (nI i)), (4, .int (wf_bi x.2)), (3, .int (nI i1)), (0, .ref (q 0)), (1, .int (nI ra)), (2, .int (nI rb))]) (fun i x H locs ls hi hI hP hD hS hl ih => ?_) (fun x H locs ls hI hP hD hS hl => ?_) (w1, false) (⟨hI1.1, wf_PI_0 _ _ _⟩) hP hD hS (lv_sub hl [0, 1, 2, 3, 4, 5] rfl)
        · obtain ⟨w0, cy⟩ := x
          have hP : va_P D vwCl (wM q κ w0) H := hP
          have hD : va_D A (wM q κ w0) := hD
          have hl : lv_has ls 8 [(5, .int (nI i)), (4, .int (wf_bi cy)), (3, .int (nI i1)), (0, .ref (q 0)), (1, .int (nI ra)), (2, .int (nI rb))] := hl
          have hI : w0 = (u.1, u.2.1, w0.2.2.1, u.2.2.2) ∧ wf_PI (wf_lw u.2.1 ra) w1.2.2.1 w0.2.2.1 i1 i cy := hI
          refine lv_iload_n hx hb d_M_findProduct_52 rfl (lv_at hl 2 rfl) ?_
          refine lv_iload hx hb d_M_findProduct_53 (lv_at hl 0 rfl) ?_
          refine lv_iadd hx hb d_M_findProduct_55 ?_
          refine lv_topi (fun k_6 ek_6 => ?_)
          have ek_6 : k_6 = nI (i1 + i) := ek_6.trans (nI_add i1 i)
          subst ek_6
          refine lv_sipush (v := 256) hx hb d_M_findProduct_56 (by decide) ?_
          refine lv_icmp_ge (tgt := 178) hx hb d_M_findProduct_59 (by decide) (fun c_7 => False.elim (by first | exact absurd c_7 (nI_ge (a := i1 + i) (b := 256) (by omega) (by decide)) | exact absurd (nI_ge (a := i1 + i) (b := 256) (by omega) (by decide)) c_7)) (fun c_7 => ?_)
          refine lv_aload_n hx hb d_M_findProduct_62 rfl (lv_at hl 3 rfl) ?_
          refine gM C hK hP 0 rfl 2 (by decide) k_fl_M_product rfl d_M_findProduct_63 ?_
          refine lv_iload_n hx hb d_M_findProduct_66 rfl (lv_at hl 2 rfl) ?_
          refine lv_iload hx hb d_M_findProduct_67 (lv_at hl 0 rfl) ?_
          refine lv_iadd hx hb d_M_findProduct_69 ?_
          refine wf_zald C hK hP 2 1 rfl rfl (k := i1 + i) (wf_ia (x := i1) (y := i) rfl rfl) (by omega) (by decide) d_M_findProduct_70 ?_
          obtain ⟨x1, hx1⟩ : ∃ b : Bool, b = w0.2.2.1 (i1 + i) := ⟨_, rfl⟩
          rw [← hx1]
          refine lv_istore (lv' := [(6, .int (wf_bi x1)), (5, .int (nI i)), (4, .int (wf_bi cy)), (3, .int (nI i1)), (0, .ref (q 0)), (1, .int (nI ra)), (2, .int (nI rb))]) hx hb d_M_findProduct_71 hl (by decide) rfl (fun ls hl => ?_)
          refine lv_iload hx hb d_M_findProduct_73 (lv_at hl 1 rfl) ?_
          refine lv_sipush (v := 128) hx hb d_M_findProduct_75 (by decide) ?_
          refine wf_cutI (pcj := 102) (ls := ls) (rest := []) (fun z => z = wf_bi (wf_lw u.2.1 ra i)) (fun z_8 ez_8 => ?_) (fun jn => ?_)
          · subst ez_8
            obtain ⟨y1, hy1⟩ : ∃ b : Bool, b = wf_lw u.2.1 ra i := ⟨_, rfl⟩
            rw [← hy1]
            refine lv_istore (lv' := [(7, .int (wf_bi y1)), (6, .int (wf_bi x1)), (5, .int (nI i)), (4, .int (wf_bi cy)), (3, .int (nI i1)), (0, .ref (q 0)), (1, .int (nI ra)), (2, .int (nI rb))]) hx hb d_M_findProduct_102 hl (by decide) rfl (fun ls hl => ?_)
            refine lv_aload_n hx hb d_M_findProduct_104 rfl (lv_at hl 5 rfl) ?_
            refine gM C hK hP 0 rfl 2 (by decide) k_fl_M_product rfl d_M_findProduct_105 ?_
            refine lv_iload_n hx hb d_M_findProduct_108 rfl (lv_at hl 4 rfl) ?_
            refine lv_iload hx hb d_M_findProduct_109 (lv_at hl 2 rfl) ?_
            refine lv_iadd hx hb d_M_findProduct_111 ?_
            refine lv_iload hx hb d_M_findProduct_112 (lv_at hl 1 rfl) ?_
            refine lv_iload hx hb d_M_findProduct_114 (lv_at hl 0 rfl) ?_
            refine wf_cutI (pcj := 124) (ls := ls) (rest := [.int ((nI i1) + (nI i)), .ref (q 2)]) (fun z => z = wf_bi (x1 != y1)) (fun z_9 ez_9 => ?_) (fun jn => ?_)
            · subst ez_9
              refine lv_iload hx hb d_M_findProduct_124 (lv_at hl 3 rfl) ?_
              refine wf_cutI (pcj := 134) (ls := ls) (rest := [.int ((nI i1) + (nI i)), .ref (q 2)]) (fun z => z = wf_bi ((x1 != y1) != cy)) (fun z_10 ez_10 => ?_) (fun jn => ?_)
              · subst ez_10
                refine wf_zast C hK hP hD hS 2 1 rfl rfl (k := i1 + i) (b := (((x1 != y1) != cy))) (wf_ia (x := i1) (y := i) rfl rfl) (by omega) (by decide) d_M_findProduct_134 (fun H locs hP hD hS => ?_)
                have hP : va_P D vwCl (wM q κ (w0.1, w0.2.1, va_up w0.2.2.1 (i1 + i) (((x1 != y1) != cy)), w0.2.2.2)) H := hP
                have hD : va_D A (wM q κ (w0.1, w0.2.1, va_up w0.2.2.1 (i1 + i) (((x1 != y1) != cy)), w0.2.2.2)) := hD
                generalize eu_11 : ((w0.1, w0.2.1, va_up w0.2.2.1 (i1 + i) (((x1 != y1) != cy)), w0.2.2.2) : SM) = u_11 at hP hD
                refine lv_iload hx hb d_M_findProduct_135 (lv_at hl 1 rfl) ?_
                refine wf_cutI (pcj := 170) (ls := ls) (rest := []) (fun z => z = wf_bi (x1 && y1 || x1 && cy || y1 && cy)) (fun z_12 ez_12 => ?_) (fun jn => ?_)
                · subst ez_12
                  refine lv_istore (lv' := [(4, .int (wf_bi (x1 && y1 || x1 && cy || y1 && cy))), (7, .int (wf_bi y1)), (6, .int (wf_bi x1)), (5, .int (nI i)), (3, .int (nI i1)), (0, .ref (q 0)), (1, .int (nI ra)), (2, .int (nI rb))]) hx hb d_M_findProduct_170 hl (by decide) rfl (fun ls hl => ?_)
                  refine lv_iinc (v := nI (i + 1)) (lv' := [(5, .int (nI (i + 1))), (4, .int (wf_bi (x1 && y1 || x1 && cy || y1 && cy))), (7, .int (wf_bi y1)), (6, .int (wf_bi x1)), (3, .int (nI i1)), (0, .ref (q 0)), (1, .int (nI ra)), (2, .int (nI rb))]) hx hb d_M_findProduct_172 hl (k := 3) rfl (nI_1 _) (by decide) rfl (fun ls hl => ?_)
                  refine lv_goto (tgt := 52) hx hb d_M_findProduct_175 (by decide) ?_
                  exact ih (u_11, _) H locs ls ⟨by rw [← eu_11, hI.1], by rw [← eu_11]; exact wf_PI_S hI.2 hx1 hy1⟩ hP hD hS (lv_sub hl [0, 1, 4, 5, 6, 7] rfl)
                · refine lv_if_eq (tgt := 145) hx hb d_M_findProduct_137 (by decide) (fun c_13 => ?_) (fun c_13 => ?_)
                  · refine lv_iload hx hb d_M_findProduct_145 (lv_at hl 1 rfl) ?_
                    refine lv_if_eq (tgt := 155) hx hb d_M_findProduct_147 (by decide) (fun c_14 => ?_) (fun c_14 => ?_)
                    · refine lv_iload hx hb d_M_findProduct_155 (lv_at hl 0 rfl) ?_
                      refine lv_if_eq (tgt := 169) hx hb d_M_findProduct_157 (by decide) (fun c_15 => ?_) (fun c_15 => ?_)
                      · refine lv_iconst (v := 0) hx hb d_M_findProduct_169 (by decide) ?_
                        exact jn _ (by revert c_13 c_14 c_15; cases x1 <;> cases y1 <;> cases cy <;> decide)
                      · refine lv_iload hx hb d_M_findProduct_160 (lv_at hl 3 rfl) ?_
                        refine lv_if_eq (tgt := 169) hx hb d_M_findProduct_162 (by decide) (fun c_16 => ?_) (fun c_16 => ?_)
                        · refine lv_iconst (v := 0) hx hb d_M_findProduct_169 (by decide) ?_
                          exact jn _ (by revert c_13 c_14 c_15 c_16; cases x1 <;> cases y1 <;> cases cy <;> decide)
                        · refine lv_iconst (v := 1) hx hb d_M_findProduct_165 (by decide) ?_
                          refine lv_goto (tgt := 170) hx hb d_M_findProduct_166 (by decide) ?_
                          exact jn _ (by revert c_13 c_14 c_15 c_16; cases x1 <;> cases y1 <;> cases cy <;> decide)
                    · refine lv_iload hx hb d_M_findProduct_150 (lv_at hl 3 rfl) ?_
                      refine lv_if_ne (tgt := 165) hx hb d_M_findProduct_152 (by decide) (fun c_17 => ?_) (fun c_17 => ?_)
                      · refine lv_iconst (v := 1) hx hb d_M_findProduct_165 (by decide) ?_
                        refine lv_goto (tgt := 170) hx hb d_M_findProduct_166 (by decide) ?_
                        exact jn _ (by revert c_13 c_14 c_17; cases x1 <;> cases y1 <;> cases cy <;> decide)
                      · refine lv_iload hx hb d_M_findProduct_155 (lv_at hl 0 rfl) ?_
                        refine lv_if_eq (tgt := 169) hx hb d_M_findProduct_157 (by decide) (fun c_18 => ?_) (fun c_18 => ?_)
                        · refine lv_iconst (v := 0) hx hb d_M_findProduct_169 (by decide) ?_
                          exact jn _ (by revert c_13 c_14 c_17 c_18; cases x1 <;> cases y1 <;> cases cy <;> decide)
                        · refine lv_iload hx hb d_M_findProduct_160 (lv_at hl 3 rfl) ?_
                          refine lv_if_eq (tgt := 169) hx hb d_M_findProduct_162 (by decide) (fun c_19 => ?_) (fun c_19 => ?_)
                          · refine lv_iconst (v := 0) hx hb d_M_findProduct_169 (by decide) ?_
                            exact jn _ (by revert c_13 c_14 c_17 c_18 c_19; cases x1 <;> cases y1 <;> cases cy <;> decide)
                          · refine lv_iconst (v := 1) hx hb d_M_findProduct_165 (by decide) ?_
                            refine lv_goto (tgt := 170) hx hb d_M_findProduct_166 (by decide) ?_
                            exact jn _ (by revert c_13 c_14 c_17 c_18 c_19; cases x1 <;> cases y1 <;> cases cy <;> decide)
                  · refine lv_iload hx hb d_M_findProduct_140 (lv_at hl 0 rfl) ?_
                    refine lv_if_ne (tgt := 165) hx hb d_M_findProduct_142 (by decide) (fun c_20 => ?_) (fun c_20 => ?_)
                    · refine lv_iconst (v := 1) hx hb d_M_findProduct_165 (by decide) ?_
                      refine lv_goto (tgt := 170) hx hb d_M_findProduct_166 (by decide) ?_
                      exact jn _ (by revert c_13 c_20; cases x1 <;> cases y1 <;> cases cy <;> decide)
                    · refine lv_iload hx hb d_M_findProduct_145 (lv_at hl 1 rfl) ?_
                      refine lv_if_eq (tgt := 155) hx hb d_M_findProduct_147 (by decide) (fun c_21 => ?_) (fun c_21 => ?_)
                      · refine lv_iload hx hb d_M_findProduct_155 (lv_at hl 0 rfl) ?_
                        refine lv_if_eq (tgt := 169) hx hb d_M_findProduct_157 (by decide) (fun c_22 => ?_) (fun c_22 => ?_)
                        · refine lv_iconst (v := 0) hx hb d_M_findProduct_169 (by decide) ?_
                          exact jn _ (by revert c_13 c_20 c_21 c_22; cases x1 <;> cases y1 <;> cases cy <;> decide)
                        · refine lv_iload hx hb d_M_findProduct_160 (lv_at hl 3 rfl) ?_
                          refine lv_if_eq (tgt := 169) hx hb d_M_findProduct_162 (by decide) (fun c_23 => ?_) (fun c_23 => ?_)
                          · refine lv_iconst (v := 0) hx hb d_M_findProduct_169 (by decide) ?_
                            exact jn _ (by revert c_13 c_20 c_21 c_22 c_23; cases x1 <;> cases y1 <;> cases cy <;> decide)
                          · refine lv_iconst (v := 1) hx hb d_M_findProduct_165 (by decide) ?_
                            refine lv_goto (tgt := 170) hx hb d_M_findProduct_166 (by decide) ?_
                            exact jn _ (by revert c_13 c_20 c_21 c_22 c_23; cases x1 <;> cases y1 <;> cases cy <;> decide)
                      · refine lv_iload hx hb d_M_findProduct_150 (lv_at hl 3 rfl) ?_
                        refine lv_if_ne (tgt := 165) hx hb d_M_findProduct_152 (by decide) (fun c_24 => ?_) (fun c_24 => ?_)
                        · refine lv_iconst (v := 1) hx hb d_M_findProduct_165 (by decide) ?_
                          refine lv_goto (tgt := 170) hx hb d_M_findProduct_166 (by decide) ?_
                          exact jn _ (by revert c_13 c_20 c_21 c_24; cases x1 <;> cases y1 <;> cases cy <;> decide)
                        · refine lv_iload hx hb d_M_findProduct_155 (lv_at hl 0 rfl) ?_
                          refine lv_if_eq (tgt := 169) hx hb d_M_findProduct_157 (by decide) (fun c_25 => ?_) (fun c_25 => ?_)
                          · refine lv_iconst (v := 0) hx hb d_M_findProduct_169 (by decide) ?_
                            exact jn _ (by revert c_13 c_20 c_21 c_24 c_25; cases x1 <;> cases y1 <;> cases cy <;> decide)
                          · refine lv_iload hx hb d_M_findProduct_160 (lv_at hl 3 rfl) ?_
                            refine lv_if_eq (tgt := 169) hx hb d_M_findProduct_162 (by decide) (fun c_26 => ?_) (fun c_26 => ?_)
                            · refine lv_iconst (v := 0) hx hb d_M_findProduct_169 (by decide) ?_
                              exact jn _ (by revert c_13 c_20 c_21 c_24 c_25 c_26; cases x1 <;> cases y1 <;> cases cy <;> decide)
                            · refine lv_iconst (v := 1) hx hb d_M_findProduct_165 (by decide) ?_
                              refine lv_goto (tgt := 170) hx hb d_M_findProduct_166 (by decide) ?_
                              exact jn _ (by revert c_13 c_20 c_21 c_24 c_25 c_26; cases x1 <;> cases y1 <;> cases cy <;> decide)
              · refine lv_icmp_eq (tgt := 133) hx hb d_M_findProduct_126 (by decide) (fun c_27 => ?_) (fun c_27 => ?_)
                · refine lv_iconst (v := 0) hx hb d_M_findProduct_133 (by decide) ?_
                  exact jn _ (by revert c_27; cases x1 <;> cases y1 <;> cases cy <;> decide)
                · refine lv_iconst (v := 1) hx hb d_M_findProduct_129 (by decide) ?_
                  refine lv_goto (tgt := 134) hx hb d_M_findProduct_130 (by decide) ?_
                  exact jn _ (by revert c_27; cases x1 <;> cases y1 <;> cases cy <;> decide)
            · refine lv_icmp_eq (tgt := 123) hx hb d_M_findProduct_116 (by decide) (fun c_28 => ?_) (fun c_28 => ?_)
              · refine lv_iconst (v := 0) hx hb d_M_findProduct_123 (by decide) ?_
                exact jn _ (by revert c_28; cases x1 <;> cases y1 <;> decide)
              · refine lv_iconst (v := 1) hx hb d_M_findProduct_119 (by decide) ?_
                refine lv_goto (tgt := 124) hx hb d_M_findProduct_120 (by decide) ?_
                exact jn _ (by revert c_28; cases x1 <;> cases y1 <;> decide)
          · refine lv_icmp_ge (tgt := 101) hx hb d_M_findProduct_78 (by decide) (fun c_29 => ?_) (fun c_29 => ?_)
            · have hk8 : ¬ i < 128 := fun h => absurd c_29 (nI_ge h (by decide))
              refine lv_iconst (v := 0) hx hb d_M_findProduct_101 (by decide) ?_
              exact jn _ (by unfold wf_lw; rw [decide_eq_false hk8]; rfl)
            · have hk8 : i < 128 := Nat.not_le.mp (fun h => c_29 (nI_le h (by omega)))
              refine lv_aload_n hx hb d_M_findProduct_81 rfl (lv_at hl 4 rfl) ?_
              refine gM C hK hP 0 rfl 1 (by decide) k_fl_M_bits rfl d_M_findProduct_82 ?_
              refine lv_sipush (v := 128) hx hb d_M_findProduct_85 (by decide) ?_
              refine lv_iload_n hx hb d_M_findProduct_88 rfl (lv_at hl 5 rfl) ?_
              refine lv_imul hx hb d_M_findProduct_89 ?_
              refine lv_iload hx hb d_M_findProduct_90 (lv_at hl 1 rfl) ?_
              refine lv_iadd hx hb d_M_findProduct_92 ?_
              refine wf_zald C hK hP 1 0 rfl rfl (k := 128 * ra + i) (wf_ia (x := 128 * ra) (y := i) (wf_im (x := 128) (y := ra) rfl rfl) rfl) (by omega) (by decide) d_M_findProduct_93 ?_
              refine lv_if_eq (tgt := 101) hx hb d_M_findProduct_94 (by decide) (fun c_30 => ?_) (fun c_30 => ?_)
              · refine lv_iconst (v := 0) hx hb d_M_findProduct_101 (by decide) ?_
                exact jn _ (by unfold wf_lw; rw [show u.2.1 (128 * ra + i) = false from by rw [← (wf_bi0 _).mp c_30, hI.1], Bool.and_false]; rfl)
              · refine lv_iconst (v := 1) hx hb d_M_findProduct_97 (by decide) ?_
                refine lv_goto (tgt := 102) hx hb d_M_findProduct_98 (by decide) ?_
                exact jn _ (by unfold wf_lw; rw [decide_eq_true hk8, Bool.true_and, show u.2.1 (128 * ra + i) = true from by rw [← (wf_bi1 _).mp c_30, hI.1]]; rfl)
        · obtain ⟨w0, cy⟩ := x
          have hP : va_P D vwCl (wM q κ w0) H := hP
          have hD : va_D A (wM q κ w0) := hD
          have hl : lv_has ls 8 [(5, .int (nI (256 - i1))), (4, .int (wf_bi cy)), (3, .int (nI i1)), (0, .ref (q 0)), (1, .int (nI ra)), (2, .int (nI rb))] := hl
          have hI : w0 = (u.1, u.2.1, w0.2.2.1, u.2.2.2) ∧ wf_PI (wf_lw u.2.1 ra) w1.2.2.1 w0.2.2.1 i1 (256 - i1) cy := hI
          refine lv_iload_n hx hb d_M_findProduct_52 rfl (lv_at hl 2 rfl) ?_
          refine lv_iload hx hb d_M_findProduct_53 (lv_at hl 0 rfl) ?_
          refine lv_iadd hx hb d_M_findProduct_55 ?_
          refine lv_topi (fun k_31 ek_31 => ?_)
          have ek_31 : k_31 = nI 256 := ek_31.trans (by rw [nI_add, show i1 + (256 - i1) = 256 by omega])
          subst ek_31
          refine lv_sipush (v := 256) hx hb d_M_findProduct_56 (by decide) ?_
          refine lv_icmp_ge (tgt := 178) hx hb d_M_findProduct_59 (by decide) (fun c_32 => ?_) (fun c_32 => False.elim (by first | exact absurd (nI_le (Nat.le_refl 256) (by decide)) c_32 | exact absurd c_32 (nI_le (Nat.le_refl 256) (by decide))))
          refine lv_iinc (v := nI (i1 + 1)) (lv' := [(3, .int (nI (i1 + 1))), (5, .int (nI (256 - i1))), (4, .int (wf_bi cy)), (0, .ref (q 0)), (1, .int (nI ra)), (2, .int (nI rb))]) hx hb d_M_findProduct_178 hl (k := 2) rfl (nI_1 _) (by decide) rfl (fun ls hl => ?_)
          refine lv_goto (tgt := 24) hx hb d_M_findProduct_181 (by decide) ?_
          exact ih1 w0 H locs ls ⟨hI.1, wf_PI_end hi1 hI.2 (wf_lw_sm _ _ (by omega)) (wf_sm_lt _ 128) hI1.2 hy0⟩ hP hD hS (lv_sub hl [0, 3, 4, 5] rfl)
    · have hP : va_P D vwCl (wM q κ x) H := hP
      have hD : va_D A (wM q κ x) := hD
      have hl : lv_has ls 8 [(3, .int (nI 128)), (0, .ref (q 0)), (1, .int (nI ra)), (2, .int (nI rb))] := hl
      have hI1 : x = (u.1, u.2.1, x.2.2.1, u.2.2.2) ∧ wf_sm x.2.2.1 256 = wf_R u.2.1 ra * wf_sm (fun k => u.2.1 (128 * rb + k)) 128 := hI1
      refine lv_iload_n hx hb d_M_findProduct_24 rfl (lv_at hl 0 rfl) ?_
      refine lv_sipush (v := 128) hx hb d_M_findProduct_25 (by decide) ?_
      refine lv_icmp_ge (tgt := 184) hx hb d_M_findProduct_28 (by decide) (fun c_33 => ?_) (fun c_33 => False.elim (by first | exact absurd (nI_le (Nat.le_refl 128) (by decide)) c_33 | exact absurd c_33 (nI_le (Nat.le_refl 128) (by decide))))
      exact wf_retv C hr hlocks x (⟨_, hI1.1, hI1.2⟩) hP hK hD hS (fun _ h => h) d_M_findProduct_184

set_option maxHeartbeats 4000000 in
set_option maxRecDepth 100000 in
theorem kM_prod {p : Program} {l : Launch} {e : Env} {R : Room} {s : State} {m : MethodId} {args : Array Value} {below : List Frame} {meth : Method} {c : Code} {H : Heap} {locs : List Loc} {cells slots : Nat} {Q : State → Prop} {cc : ByteArray} {pc nL : Nat} {ls : Array Slot} {rest : List Value} {D : va_G} {q : Nat → Nat} {κ : Nat → ClassId} {A : Nat → Prop} {u : SM} {ra rb : Nat} (hra : ra < 8) (hrb : rb < 8) (C : CallFix p m c cc nL s args wG RM) (hsz : ls.size = nL) (hR : 1 ≤ R.frames ∧ 27 ≤ R.locals) (hw : (rest.map fun v => v.category).sum ≤ 8) (hc : cells + 0 ≤ R.cells ∧ slots + 0 ≤ R.slots) (hP : va_P D vwCl (wM q κ u) H) (hK : va_K D vwCl (tyM κ) s) (hD : va_D A (wM q κ u)) (hS : va_S A s.heap H locs) (hA : ∀ q, s.heap.size ≤ q → A q) (hdg : decode cc pc = .ok (.invokevirtual 44, 3)) (kk : ∀ (v : SM) (H1 : Heap) (locs1 : List Loc), (∃ f : Nat → Bool, v = (u.1, u.2.1, f, u.2.2.2) ∧ wf_sm f 256 = wf_R u.2.1 ra * wf_R u.2.1 rb) → va_P D vwCl (wM q κ v) H1 → va_D A (wM q κ v) → va_S A s.heap H1 locs1 → W p l e R s m args below meth c H1 locs1 (cells) (slots) Q (F0 m (pc + 3) ls (rest))) : W p l e R s m args below meth c H locs cells slots Q (F0 m pc ls (.int (nI rb) :: .int (nI ra) :: .ref (q 0) :: rest)) := by
  exact wf_cv (va_runV (As := [.int (nI ra), .int (nI rb)]) (rest := rest) C (c_M_findProduct l D q κ u ra hra rb hrb H.size) (cwV 2 C.2.2.2.2 (wG_V (fun _ h => h) k_ml_M_44 k_im_M_findProduct k_se_M_findProduct k_in_M k_M_findProduct) rfl rfl rfl (by decide +kernel) ⟨hR.1, hR.2⟩) ⟨wf_blind, va_recv hK hP (ci := 1) (q0 := 0) rfl rfl, wf_pre hP hK hD⟩ rfl rfl hsz rfl (lv_room hw) hdg ⟨hc.1, hc.2⟩) (fun _ h => h) hS hD hA kk

theorem wf_fin_mul {u u1 u2 u3 u4 : SM} {ra rb ro rt : Nat} (e1 : (0, u.2) = u1) (e2 : ∃ f : Nat → Bool, u2 = (u1.1, u1.2.1, f, u1.2.2.2) ∧ wf_sm f 256 = wf_R u1.2.1 ra * wf_R u1.2.1 rb) (e3 : u3 = (u2.1, va_cpy u2.2.2.1 u2.2.1 128 (128 * ro) 128, u2.2.2)) (e4 : u4 = (u3.1, va_cpy u3.2.2.1 u3.2.1 0 (128 * rt) 128, u3.2.2)) :
    wf_mW u u4 0 (va_up (va_up (wf_R u.2.1) ro (wf_R u.2.1 ra * wf_R u.2.1 rb / wf_NN)) rt (wf_R u.2.1 ra * wf_R u.2.1 rb % wf_NN)) := by
  obtain ⟨f, e2, hf⟩ := e2
  subst e1 e2 e3 e4
  obtain ⟨h1, h2⟩ := wf_p256 hf
  exact wf_mW_two (B := u.2.1) (fun _ _ => rfl) rfl rfl rfl rfl h1 h2

set_option maxHeartbeats 4000000 in
set_option maxRecDepth 100000 in
/-- M_multiply -/
theorem c_M_multiply (l : Launch) (D : va_G) (q : Nat → Nat) (κ : Nat → ClassId) (u : SM) (ra : Nat) (hra : ra < 8) (rb : Nat) (hrb : rb < 8) (ro : Nat) (hro : ro < 8) (rt : Nat) (hrt : rt < 8) (hne : ¬ nI ro = nI rt) (sz : Nat) : Met l y_M_multiply (.code y_M_multiply b_M_multiply 5 none :: wG) (wf_rm 1 60 0 0) (wf_Pc D vwCl (wM q κ u) (tyM κ) ([.ref (q 0), .int (nI ra), .int (nI rb), .int (nI ro), .int (nI rt)]) sz) (va_Qv (fun v => wf_mW u v 0 (va_up (va_up (wf_R u.2.1) ro (wf_R u.2.1 ra * wf_R u.2.1 rb / wf_NN)) rt (wf_R u.2.1 ra * wf_R u.2.1 rb % wf_NN))) (wf_B D vwCl (wM q κ) (tyM κ) (va_A (wM q κ u) sz)) (va_A (wM q κ u) sz)) 0 0 (va_A (wM q κ u) sz) := by
  refine wf_open (by decide) (Nat.le_of_ble_eq_true rfl) k_M_multiply ?_
  intro p e s m below meth c ls hsz C hr hlocks hnm hex hP hK hD hl
  subst hsz
  have hx := C.1
  have hb := C.2.1
  have hml := C.2.2.1
  have hown := C.2.2.2.1
  have hts := C.2.2.2.2
  have hA : ∀ j : Nat, s.heap.size ≤ j → va_A (wM q κ u) s.heap.size j := fun j h => Or.inr h
  have hS : va_S (va_A (wM q κ u) s.heap.size) s.heap s.heap [] := va_S.rf
  generalize hAe : va_A (wM q κ u) s.heap.size = A at hA hS hD ⊢
  have hl : lv_has ls 5 [(0, .ref (q 0)), (1, .int (nI ra)), (2, .int (nI rb)), (3, .int (nI ro)), (4, .int (nI rt))] := hl
  refine lv_aload_n hx hb d_M_multiply_0 rfl (lv_at hl 0 rfl) ?_
  refine lv_iload_n hx hb d_M_multiply_1 rfl (lv_at hl 1 rfl) ?_
  refine kM_ok (r := ra) hra C hl.1 ⟨Nat.le_of_ble_eq_true rfl, Nat.le_of_ble_eq_true rfl⟩ (Nat.le_of_ble_eq_true rfl) ⟨Nat.le_of_ble_eq_true rfl, Nat.le_of_ble_eq_true rfl⟩ d_M_multiply_2 ?_
  refine lv_if_ne (tgt := 30) hx hb d_M_multiply_5 (by decide) (fun c_1 => False.elim (absurd c_1 (by decide))) (fun _ => ?_)
  refine lv_iload_n hx hb d_M_multiply_8 rfl (lv_at hl 2 rfl) ?_
  refine kM_ok (r := rb) hrb C hl.1 ⟨Nat.le_of_ble_eq_true rfl, Nat.le_of_ble_eq_true rfl⟩ (Nat.le_of_ble_eq_true rfl) ⟨Nat.le_of_ble_eq_true rfl, Nat.le_of_ble_eq_true rfl⟩ d_M_multiply_9 ?_
  refine lv_if_ne (tgt := 30) hx hb d_M_multiply_12 (by decide) (fun c_2 => False.elim (absurd c_2 (by decide))) (fun _ => ?_)
  refine lv_iload_n hx hb d_M_multiply_15 rfl (lv_at hl 3 rfl) ?_
  refine kM_ok (r := ro) hro C hl.1 ⟨Nat.le_of_ble_eq_true rfl, Nat.le_of_ble_eq_true rfl⟩ (Nat.le_of_ble_eq_true rfl) ⟨Nat.le_of_ble_eq_true rfl, Nat.le_of_ble_eq_true rfl⟩ d_M_multiply_16 ?_
  refine lv_if_ne (tgt := 30) hx hb d_M_multiply_19 (by decide) (fun c_3 => False.elim (absurd c_3 (by decide))) (fun _ => ?_)
  refine lv_iload hx hb d_M_multiply_22 (lv_at hl 4 rfl) ?_
  refine kM_ok (r := rt) hrt C hl.1 ⟨Nat.le_of_ble_eq_true rfl, Nat.le_of_ble_eq_true rfl⟩ (Nat.le_of_ble_eq_true rfl) ⟨Nat.le_of_ble_eq_true rfl, Nat.le_of_ble_eq_true rfl⟩ d_M_multiply_24 ?_
  refine lv_if_eq (tgt := 34) hx hb d_M_multiply_27 (by decide) (fun _ => ?_) (fun c_4 => False.elim (absurd c_4 (by decide)))
  refine lv_iload_n hx hb d_M_multiply_34 rfl (lv_at hl 3 rfl) ?_
  refine lv_iload hx hb d_M_multiply_35 (lv_at hl 4 rfl) ?_
  refine lv_icmp_ne (tgt := 44) hx hb d_M_multiply_37 (by decide) (fun c_5 => ?_) (fun c_5 => False.elim (by first | exact absurd (hne) c_5 | exact absurd c_5 (hne)))
  refine lv_iconst (v := 0) hx hb d_M_multiply_44 (by decide) ?_
  refine pM_code C hK hP hD hS 0 rfl (Nat.le_of_ble_eq_true rfl) d_M_multiply_45 (fun H locs hP hD hS => ?_)
  have hP : va_P D vwCl (wM q κ (0, u.2)) H := hP
  have hD : va_D A (wM q κ (0, u.2)) := hD
  generalize eu_6 : ((0, u.2) : SM) = u_6 at hP hD
  refine lv_aload_n hx hb d_M_multiply_48 rfl (lv_at hl 0 rfl) ?_
  refine gM C hK hP 0 rfl 0 (by decide) k_fl_M_code rfl d_M_multiply_49 ?_
  refine lv_topi (fun k_7 ek_7 => ?_)
  have ek_7 : k_7 = 0 := ek_7.trans (by rw [← eu_6])
  subst ek_7
  refine lv_if_le (tgt := 56) hx hb d_M_multiply_52 (by decide) (fun _ => ?_) (fun c_8 => False.elim (absurd c_8 (by decide)))
  refine lv_aload_n hx hb d_M_multiply_56 rfl (lv_at hl 0 rfl) ?_
  refine lv_iload_n hx hb d_M_multiply_57 rfl (lv_at hl 1 rfl) ?_
  refine lv_iload_n hx hb d_M_multiply_58 rfl (lv_at hl 2 rfl) ?_
  refine kM_prod (ra := ra) (rb := rb) hra hrb  C hl.1 ⟨Nat.le_of_ble_eq_true rfl, Nat.le_of_ble_eq_true rfl⟩ (Nat.le_of_ble_eq_true rfl) ⟨Nat.le_of_ble_eq_true rfl, Nat.le_of_ble_eq_true rfl⟩ hP hK hD hS hA d_M_multiply_59 (fun u_9 H locs eu_9 hP hD hS => ?_)
  refine lv_aload_n hx hb d_M_multiply_62 rfl (lv_at hl 0 rfl) ?_
  refine lv_aload_n hx hb d_M_multiply_63 rfl (lv_at hl 0 rfl) ?_
  refine gM C hK hP 0 rfl 2 (by decide) k_fl_M_product rfl d_M_multiply_64 ?_
  refine lv_sipush (v := 128) hx hb d_M_multiply_67 (by decide) ?_
  refine lv_iload_n hx hb d_M_multiply_70 rfl (lv_at hl 3 rfl) ?_
  refine kM_takeProduct (b := 128) (rt := ro) (by decide) hro C hl.1 ⟨Nat.le_of_ble_eq_true rfl, Nat.le_of_ble_eq_true rfl⟩ (Nat.le_of_ble_eq_true rfl) ⟨Nat.le_of_ble_eq_true rfl, Nat.le_of_ble_eq_true rfl⟩ hP hK hD hS hA d_M_multiply_71 (fun u_10 H locs eu_10 hP hD hS => ?_)
  refine lv_aload_n hx hb d_M_multiply_74 rfl (lv_at hl 0 rfl) ?_
  refine lv_aload_n hx hb d_M_multiply_75 rfl (lv_at hl 0 rfl) ?_
  refine gM C hK hP 0 rfl 2 (by decide) k_fl_M_product rfl d_M_multiply_76 ?_
  refine lv_iconst (v := 0) hx hb d_M_multiply_79 (by decide) ?_
  refine lv_iload hx hb d_M_multiply_80 (lv_at hl 4 rfl) ?_
  refine kM_takeProduct (b := 0) (rt := rt) (by decide) hrt C hl.1 ⟨Nat.le_of_ble_eq_true rfl, Nat.le_of_ble_eq_true rfl⟩ (Nat.le_of_ble_eq_true rfl) ⟨Nat.le_of_ble_eq_true rfl, Nat.le_of_ble_eq_true rfl⟩ hP hK hD hS hA d_M_multiply_82 (fun u_11 H locs eu_11 hP hD hS => ?_)
  exact wf_retv C hr hlocks u_11 (wf_fin_mul eu_6 eu_9 eu_10 eu_11) hP hK hD hS (fun _ h => h) d_M_multiply_85

theorem wf_zero_S {f : Nat → Bool} {i : Nat} {x y : Bool} (h : x = decide (wf_sm f i = 0)) (hy : y = f i) : (x && !y) = decide (wf_sm f (i + 1) = 0) := by
  rw [wf_smS, ← hy, h]
  have hp := Nat.two_pow_pos i
  cases y
  · simp
  · simp only [Bool.toNat_true, Bool.not_true, Bool.and_false]
    exact (decide_eq_false (by omega)).symm

theorem wf_div_S {u w w1 w2 w3 : SM} {ra rb i : Nat} {y nx : Bool} {f : Nat → Bool} (hi : i < 128) (hI : w = (0, u.2.1, u.2.2.1, w.2.2.2.1, w.2.2.2.2.1, u.2.2.2.2.2) ∧ wf_DV (wf_R u.2.1 ra) (wf_R u.2.1 rb) w.2.2.2.1 w.2.2.2.2.1 i) (hy : y = w.2.1 (128 * ra + (127 - i)))
    (e1 : w1 = (w.1, w.2.1, w.2.2.1, w.2.2.2.1, va_up (wf_sh w.2.2.2.2.1 129 129) 0 y, w.2.2.2.2.2)) (e2 : w2 = (w1.1, w1.2.1, w1.2.2.1, w1.2.2.2.1, f, w1.2.2.2.2.2)) (hn : nx = decide (wf_sm (wf_lw w1.2.1 rb) 130 ≤ wf_sm w1.2.2.2.2.1 130)) (hf : wf_sm f 130 = wf_sm w1.2.2.2.2.1 130 - nx.toNat * wf_sm (wf_lw w1.2.1 rb) 130)
    (e3 : (w2.1, w2.2.1, w2.2.2.1, va_up w2.2.2.2.1 (127 - i) nx, w2.2.2.2.2) = w3) : w3 = (0, u.2.1, u.2.2.1, w3.2.2.2.1, w3.2.2.2.2.1, u.2.2.2.2.2) ∧ wf_DV (wf_R u.2.1 ra) (wf_R u.2.1 rb) w3.2.2.2.1 w3.2.2.2.2.1 (i + 1) := by
  obtain ⟨h1, h2⟩ := hI
  generalize w.2.2.2.1 = An at h1 h2 e1
  generalize w.2.2.2.2.1 = Re at h1 h2 e1
  subst h1
  subst e1 e2 e3
  exact ⟨rfl, wf_DV_S (B := u.2.1) hi (wf_lw_sm _ _ (by decide)) (wf_sm_lt _ 128) h2 hy hn hf⟩
theorem wf_fin_div {u w v1 v2 : SM} {ra rb ro rt : Nat} (hI : w = (0, u.2.1, u.2.2.1, w.2.2.2.1, w.2.2.2.2.1, u.2.2.2.2.2) ∧ wf_DV (wf_R u.2.1 ra) (wf_R u.2.1 rb) w.2.2.2.1 w.2.2.2.2.1 128) (e3 : v1 = (w.1, va_cpy w.2.2.2.1 w.2.1 0 (128 * ro) 128, w.2.2)) (e4 : v2 = (v1.1, va_cpy v1.2.2.2.2.1 v1.2.1 0 (128 * rt) 128, v1.2.2)) :
    wf_mW u v2 0 (va_up (va_up (wf_R u.2.1) ro (wf_R u.2.1 ra / wf_R u.2.1 rb)) rt (wf_R u.2.1 ra % wf_R u.2.1 rb)) := by
  obtain ⟨h1, h2⟩ := hI
  generalize w.2.2.2.1 = An at h1 h2 e3
  generalize w.2.2.2.2.1 = Re at h1 h2 e3
  subst h1
  subst e3 e4
  obtain ⟨k1, k2⟩ := wf_DV_end (wf_sm_lt _ 128) h2
  exact wf_mW_two (B := u.2.1) (fun _ _ => rfl) rfl rfl rfl rfl k1 k2

set_option maxHeartbeats 4000000 in
set_option maxRecDepth 100000 in
/-- M_divide -/
theorem c_M_divide (l : Launch) (D : va_G) (q : Nat → Nat) (κ : Nat → ClassId) (u : SM) (ra : Nat) (hra : ra < 8) (rb : Nat) (hrb : rb < 8) (ro : Nat) (hro : ro < 8) (rt : Nat) (hrt : rt < 8) (hne : ¬ nI ro = nI rt) (hb0 : 0 < wf_R u.2.1 rb) (sz : Nat) : Met l y_M_divide (.code y_M_divide b_M_divide 7 none :: wG) (wf_rm 2 120 0 0) (wf_Pc D vwCl (wM q κ u) (tyM κ) ([.ref (q 0), .int (nI ra), .int (nI rb), .int (nI ro), .int (nI rt)]) sz) (va_Qv (fun v => wf_mW u v 0 (va_up (va_up (wf_R u.2.1) ro (wf_R u.2.1 ra / wf_R u.2.1 rb)) rt (wf_R u.2.1 ra % wf_R u.2.1 rb))) (wf_B D vwCl (wM q κ) (tyM κ) (va_A (wM q κ u) sz)) (va_A (wM q κ u) sz)) 0 0 (va_A (wM q κ u) sz) := by
  refine wf_open (by decide) (Nat.le_of_ble_eq_true rfl) k_M_divide ?_
  intro p e s m below meth c ls hsz C hr hlocks hnm hex hP hK hD hl
  subst hsz
  have hx := C.1
  have hb := C.2.1
  have hml := C.2.2.1
  have hown := C.2.2.2.1
  have hts := C.2.2.2.2
  have hA : ∀ j : Nat, s.heap.size ≤ j → va_A (wM q κ u) s.heap.size j := fun j h => Or.inr h
  have hS : va_S (va_A (wM q κ u) s.heap.size) s.heap s.heap [] := va_S.rf
  generalize hAe : va_A (wM q κ u) s.heap.size = A at hA hS hD ⊢
  have hl : lv_has ls 7 [(0, .ref (q 0)), (1, .int (nI ra)), (2, .int (nI rb)), (3, .int (nI ro)), (4, .int (nI rt))] := hl
  refine lv_aload_n hx hb d_M_divide_0 rfl (lv_at hl 0 rfl) ?_
  refine lv_iload_n hx hb d_M_divide_1 rfl (lv_at hl 1 rfl) ?_
  refine kM_ok (r := ra) hra C hl.1 ⟨Nat.le_of_ble_eq_true rfl, Nat.le_of_ble_eq_true rfl⟩ (Nat.le_of_ble_eq_true rfl) ⟨Nat.le_of_ble_eq_true rfl, Nat.le_of_ble_eq_true rfl⟩ d_M_divide_2 ?_
  refine lv_if_ne (tgt := 30) hx hb d_M_divide_5 (by decide) (fun c_1 => False.elim (absurd c_1 (by decide))) (fun _ => ?_)
  refine lv_iload_n hx hb d_M_divide_8 rfl (lv_at hl 2 rfl) ?_
  refine kM_ok (r := rb) hrb C hl.1 ⟨Nat.le_of_ble_eq_true rfl, Nat.le_of_ble_eq_true rfl⟩ (Nat.le_of_ble_eq_true rfl) ⟨Nat.le_of_ble_eq_true rfl, Nat.le_of_ble_eq_true rfl⟩ d_M_divide_9 ?_
  refine lv_if_ne (tgt := 30) hx hb d_M_divide_12 (by decide) (fun c_2 => False.elim (absurd c_2 (by decide))) (fun _ => ?_)
  refine lv_iload_n hx hb d_M_divide_15 rfl (lv_at hl 3 rfl) ?_
  refine kM_ok (r := ro) hro C hl.1 ⟨Nat.le_of_ble_eq_true rfl, Nat.le_of_ble_eq_true rfl⟩ (Nat.le_of_ble_eq_true rfl) ⟨Nat.le_of_ble_eq_true rfl, Nat.le_of_ble_eq_true rfl⟩ d_M_divide_16 ?_
  refine lv_if_ne (tgt := 30) hx hb d_M_divide_19 (by decide) (fun c_3 => False.elim (absurd c_3 (by decide))) (fun _ => ?_)
  refine lv_iload hx hb d_M_divide_22 (lv_at hl 4 rfl) ?_
  refine kM_ok (r := rt) hrt C hl.1 ⟨Nat.le_of_ble_eq_true rfl, Nat.le_of_ble_eq_true rfl⟩ (Nat.le_of_ble_eq_true rfl) ⟨Nat.le_of_ble_eq_true rfl, Nat.le_of_ble_eq_true rfl⟩ d_M_divide_24 ?_
  refine lv_if_eq (tgt := 34) hx hb d_M_divide_27 (by decide) (fun _ => ?_) (fun c_4 => False.elim (absurd c_4 (by decide)))
  refine lv_iload_n hx hb d_M_divide_34 rfl (lv_at hl 3 rfl) ?_
  refine lv_iload hx hb d_M_divide_35 (lv_at hl 4 rfl) ?_
  refine lv_icmp_ne (tgt := 44) hx hb d_M_divide_37 (by decide) (fun c_5 => ?_) (fun c_5 => False.elim (by first | exact absurd (hne) c_5 | exact absurd c_5 (hne)))
  refine lv_iconst (v := 0) hx hb d_M_divide_44 (by decide) ?_
  refine pM_code C hK hP hD hS 0 rfl (Nat.le_of_ble_eq_true rfl) d_M_divide_45 (fun H locs hP hD hS => ?_)
  have hP : va_P D vwCl (wM q κ (0, u.2)) H := hP
  have hD : va_D A (wM q κ (0, u.2)) := hD
  generalize eu_6 : ((0, u.2) : SM) = u_6 at hP hD
  refine lv_aload_n hx hb d_M_divide_48 rfl (lv_at hl 0 rfl) ?_
  refine gM C hK hP 0 rfl 0 (by decide) k_fl_M_code rfl d_M_divide_49 ?_
  refine lv_topi (fun k_7 ek_7 => ?_)
  have ek_7 : k_7 = 0 := ek_7.trans (by rw [← eu_6])
  subst ek_7
  refine lv_if_le (tgt := 56) hx hb d_M_divide_52 (by decide) (fun _ => ?_) (fun c_8 => False.elim (absurd c_8 (by decide)))
  refine lv_iconst (v := 1) hx hb d_M_divide_56 (by decide) ?_
  refine lv_istore (lv' := [(5, .int (1)), (0, .ref (q 0)), (1, .int (nI ra)), (2, .int (nI rb)), (3, .int (nI ro)), (4, .int (nI rt))]) hx hb d_M_divide_57 hl (by decide) rfl (fun ls hl => ?_)
  refine lv_iconst (v := 0) hx hb d_M_divide_59 (by decide) ?_
  refine lv_istore (lv' := [(6, .int (0)), (5, .int (1)), (0, .ref (q 0)), (1, .int (nI ra)), (2, .int (nI rb)), (3, .int (nI ro)), (4, .int (nI rt))]) hx hb d_M_divide_60 hl (by decide) rfl (fun ls hl => ?_)
  refine wf_for (σ := Bool) 128 (fun i x => x = decide (wf_sm (fun k => u.2.1 (128 * rb + k)) i = 0)) (fun i x => [(6, .int (nI i)), (5, .int (wf_bi x)), (0, .ref (q 0)), (1, .int (nI ra)), (2, .int (nI rb)), (3, .int (nI ro)), (4, .int (nI rt))]) (fun i x ls hi hI hl ih => ?_) (fun x ls hI hl => ?_) true (rfl) (lv_sub hl [0, 1, 2, 3, 4, 5, 6] rfl)
  · have hl : lv_has ls 7 [(6, .int (nI i)), (5, .int (wf_bi x)), (0, .ref (q 0)), (1, .int (nI ra)), (2, .int (nI rb)), (3, .int (nI ro)), (4, .int (nI rt))] := hl
    have hI : x = decide (wf_sm (fun k => u.2.1 (128 * rb + k)) i = 0) := hI
    refine lv_iload hx hb d_M_divide_62 (lv_at hl 0 rfl) ?_
    refine lv_sipush (v := 128) hx hb d_M_divide_64 (by decide) ?_
    refine lv_icmp_ge (tgt := 104) hx hb d_M_divide_67 (by decide) (fun c_9 => False.elim (by first | exact absurd c_9 (nI_ge hi (by decide)) | exact absurd (nI_ge hi (by decide)) c_9)) (fun c_9 => ?_)
    refine lv_iload hx hb d_M_divide_70 (lv_at hl 1 rfl) ?_
    obtain ⟨y1, hy1⟩ : ∃ b : Bool, b = u_6.2.1 (128 * rb + i) := ⟨_, rfl⟩
    refine wf_cutI (pcj := 96) (ls := ls) (rest := []) (fun z => z = wf_bi (x && !y1)) (fun z_10 ez_10 => ?_) (fun jn => ?_)
    · subst ez_10
      refine lv_istore (lv' := [(5, .int (wf_bi (x && !y1))), (6, .int (nI i)), (0, .ref (q 0)), (1, .int (nI ra)), (2, .int (nI rb)), (3, .int (nI ro)), (4, .int (nI rt))]) hx hb d_M_divide_96 hl (by decide) rfl (fun ls hl => ?_)
      refine lv_iinc (v := nI (i + 1)) (lv' := [(6, .int (nI (i + 1))), (5, .int (wf_bi (x && !y1))), (0, .ref (q 0)), (1, .int (nI ra)), (2, .int (nI rb)), (3, .int (nI ro)), (4, .int (nI rt))]) hx hb d_M_divide_98 hl (k := 1) rfl (nI_1 _) (by decide) rfl (fun ls hl => ?_)
      refine lv_goto (tgt := 62) hx hb d_M_divide_101 (by decide) ?_
      exact ih _ ls (wf_zero_S hI (hy1.trans (by rw [← eu_6]))) (lv_sub hl [0, 1, 2, 3, 4, 5, 6] rfl)
    · refine lv_if_eq (tgt := 95) hx hb d_M_divide_72 (by decide) (fun c_11 => ?_) (fun c_11 => ?_)
      · refine lv_iconst (v := 0) hx hb d_M_divide_95 (by decide) ?_
        exact jn _ (by revert c_11; cases x <;> cases y1 <;> decide)
      · refine lv_aload_n hx hb d_M_divide_75 rfl (lv_at hl 2 rfl) ?_
        refine gM C hK hP 0 rfl 1 (by decide) k_fl_M_bits rfl d_M_divide_76 ?_
        refine lv_sipush (v := 128) hx hb d_M_divide_79 (by decide) ?_
        refine lv_iload_n hx hb d_M_divide_82 rfl (lv_at hl 4 rfl) ?_
        refine lv_imul hx hb d_M_divide_83 ?_
        refine lv_iload hx hb d_M_divide_84 (lv_at hl 0 rfl) ?_
        refine lv_iadd hx hb d_M_divide_86 ?_
        refine wf_zald C hK hP 1 0 rfl rfl (k := 128 * rb + i) (wf_ia (x := 128 * rb) (y := i) (wf_im (x := 128) (y := rb) rfl rfl) rfl) (by omega) (by decide) d_M_divide_87 ?_
        rw [← hy1]
        refine lv_if_ne (tgt := 95) hx hb d_M_divide_88 (by decide) (fun c_12 => ?_) (fun c_12 => ?_)
        · refine lv_iconst (v := 0) hx hb d_M_divide_95 (by decide) ?_
          exact jn _ (by revert c_11 c_12; cases x <;> cases y1 <;> decide)
        · refine lv_iconst (v := 1) hx hb d_M_divide_91 (by decide) ?_
          refine lv_goto (tgt := 96) hx hb d_M_divide_92 (by decide) ?_
          exact jn _ (by revert c_11 c_12; cases x <;> cases y1 <;> decide)
  · have hl : lv_has ls 7 [(6, .int (nI 128)), (5, .int (wf_bi x)), (0, .ref (q 0)), (1, .int (nI ra)), (2, .int (nI rb)), (3, .int (nI ro)), (4, .int (nI rt))] := hl
    have hI : x = decide (wf_sm (fun k => u.2.1 (128 * rb + k)) 128 = 0) := hI
    refine lv_iload hx hb d_M_divide_62 (lv_at hl 0 rfl) ?_
    refine lv_sipush (v := 128) hx hb d_M_divide_64 (by decide) ?_
    refine lv_icmp_ge (tgt := 104) hx hb d_M_divide_67 (by decide) (fun c_13 => ?_) (fun c_13 => False.elim (by first | exact absurd (nI_le (Nat.le_refl 128) (by decide)) c_13 | exact absurd c_13 (nI_le (Nat.le_refl 128) (by decide))))
    refine lv_aload_n hx hb d_M_divide_104 rfl (lv_at hl 2 rfl) ?_
    refine lv_iload hx hb d_M_divide_105 (lv_at hl 1 rfl) ?_
    refine lv_if_eq (tgt := 114) hx hb d_M_divide_107 (by decide) (fun c_14 => ?_) (fun c_14 => False.elim (by first | exact absurd ((wf_bi0 _).mpr (hI.trans (decide_eq_false (show ¬ wf_R u.2.1 rb = 0 by omega)))) c_14 | exact absurd c_14 ((wf_bi0 _).mpr (hI.trans (decide_eq_false (show ¬ wf_R u.2.1 rb = 0 by omega))))))
    refine lv_iconst (v := 0) hx hb d_M_divide_114 (by decide) ?_
    refine pM_code C hK hP hD hS 0 rfl (Nat.le_of_ble_eq_true rfl) d_M_divide_115 (fun H locs hP hD hS => ?_)
    have hP : va_P D vwCl (wM q κ (0, u_6.2)) H := hP
    have hD : va_D A (wM q κ (0, u_6.2)) := hD
    generalize eu_15 : ((0, u_6.2) : SM) = u_15 at hP hD
    refine lv_aload_n hx hb d_M_divide_118 rfl (lv_at hl 2 rfl) ?_
    refine gM C hK hP 0 rfl 0 (by decide) k_fl_M_code rfl d_M_divide_119 ?_
    refine lv_topi (fun k_16 ek_16 => ?_)
    have ek_16 : k_16 = 0 := ek_16.trans (by rw [← eu_15])
    subst ek_16
    refine lv_if_le (tgt := 126) hx hb d_M_divide_122 (by decide) (fun _ => ?_) (fun c_17 => False.elim (absurd c_17 (by decide)))
    refine lv_aload_n hx hb d_M_divide_126 rfl (lv_at hl 2 rfl) ?_
    refine kM_clear  C hl.1 ⟨Nat.le_of_ble_eq_true rfl, Nat.le_of_ble_eq_true rfl⟩ (Nat.le_of_ble_eq_true rfl) ⟨Nat.le_of_ble_eq_true rfl, Nat.le_of_ble_eq_true rfl⟩ hP hK hD hS hA d_M_divide_127 (fun u_18 H locs eu_18 hP hD hS => ?_)
    refine lv_bipush (v := wf_dn 128 0) hx hb d_M_divide_130 (by decide) ?_
    refine lv_istore (lv' := [(6, .int (wf_dn 128 0)), (5, .int (wf_bi x)), (0, .ref (q 0)), (1, .int (nI ra)), (2, .int (nI rb)), (3, .int (nI ro)), (4, .int (nI rt))]) hx hb d_M_divide_132 hl (by decide) rfl (fun ls hl => ?_)
    refine wf_forH (σ := SM) 128 (fun i x => x = (0, u.2.1, u.2.2.1, x.2.2.2.1, x.2.2.2.2.1, u.2.2.2.2.2) ∧ wf_DV (wf_R u.2.1 ra) (wf_R u.2.1 rb) x.2.2.2.1 x.2.2.2.2.1 i) (fun x => wM q κ x) (fun i x => [(6, .int (wf_dn 128 i)), (0, .ref (q 0)), (1, .int (nI ra)), (2, .int (nI rb)), (3, .int (nI ro)), (4, .int (nI rt))]) (fun i x H locs ls hi hI hP hD hS hl ih => ?_) (fun x H locs ls hI hP hD hS hl => ?_) u_18 (⟨by rw [eu_18, ← eu_15, ← eu_6], by rw [eu_18]; exact wf_DV_0 (wf_sm_lt _ 128) hb0 (fun k hk => wf_cpyZ_in hk)⟩) hP hD hS (lv_sub hl [0, 2, 3, 4, 5, 6] rfl)
    · have hP : va_P D vwCl (wM q κ x) H := hP
      have hD : va_D A (wM q κ x) := hD
      have hl : lv_has ls 7 [(6, .int (wf_dn 128 i)), (0, .ref (q 0)), (1, .int (nI ra)), (2, .int (nI rb)), (3, .int (nI ro)), (4, .int (nI rt))] := hl
      have hI : x = (0, u.2.1, u.2.2.1, x.2.2.2.1, x.2.2.2.2.1, u.2.2.2.2.2) ∧ wf_DV (wf_R u.2.1 ra) (wf_R u.2.1 rb) x.2.2.2.1 x.2.2.2.2.1 i := hI
      rw [wf_dn128 hi] at hl
      refine lv_iload hx hb d_M_divide_134 (lv_at hl 0 rfl) ?_
      refine lv_if_lt (tgt := 174) hx hb d_M_divide_136 (by decide) (fun c_19 => False.elim (by first | exact absurd c_19 (nI_pos (by omega)) | exact absurd (nI_pos (by omega)) c_19)) (fun c_19 => ?_)
      refine lv_aload_n hx hb d_M_divide_139 rfl (lv_at hl 1 rfl) ?_
      refine lv_aload_n hx hb d_M_divide_140 rfl (lv_at hl 1 rfl) ?_
      refine gM C hK hP 0 rfl 1 (by decide) k_fl_M_bits rfl d_M_divide_141 ?_
      refine lv_sipush (v := 128) hx hb d_M_divide_144 (by decide) ?_
      refine lv_iload_n hx hb d_M_divide_147 rfl (lv_at hl 2 rfl) ?_
      refine lv_imul hx hb d_M_divide_148 ?_
      refine lv_iload hx hb d_M_divide_149 (lv_at hl 0 rfl) ?_
      refine lv_iadd hx hb d_M_divide_151 ?_
      refine wf_zald C hK hP 1 0 rfl rfl (k := 128 * ra + (127 - i)) (wf_ia (x := 128 * ra) (y := 127 - i) (wf_im (x := 128) (y := ra) rfl rfl) rfl) (by omega) (by decide) d_M_divide_152 ?_
      obtain ⟨y1, hy1⟩ : ∃ b : Bool, b = x.2.1 (128 * ra + (127 - i)) := ⟨_, rfl⟩
      rw [← hy1]
      refine kM_bring (y := y1) C hl.1 ⟨Nat.le_of_ble_eq_true rfl, Nat.le_of_ble_eq_true rfl⟩ (Nat.le_of_ble_eq_true rfl) ⟨Nat.le_of_ble_eq_true rfl, Nat.le_of_ble_eq_true rfl⟩ hP hK hD hS hA d_M_divide_153 (fun u_20 H locs eu_20 hP hD hS => ?_)
      refine lv_aload_n hx hb d_M_divide_156 rfl (lv_at hl 1 rfl) ?_
      refine gM C hK hP 0 rfl 3 (by decide) k_fl_M_answer rfl d_M_divide_157 ?_
      refine lv_iload hx hb d_M_divide_160 (lv_at hl 0 rfl) ?_
      refine lv_aload_n hx hb d_M_divide_162 rfl (lv_at hl 1 rfl) ?_
      refine lv_iload_n hx hb d_M_divide_163 rfl (lv_at hl 3 rfl) ?_
      refine kM_awayR (r := rb) hrb C hl.1 ⟨Nat.le_of_ble_eq_true rfl, Nat.le_of_ble_eq_true rfl⟩ (Nat.le_of_ble_eq_true rfl) ⟨Nat.le_of_ble_eq_true rfl, Nat.le_of_ble_eq_true rfl⟩ hP hK hD hS hA d_M_divide_164 (fun r_ u_21 H locs eu_21 hP hD hS => ?_)
      obtain ⟨nx, f, hr_, ev, hn, hf⟩ := wf_away_b eu_21
      subst hr_
      refine wf_zast C hK hP hD hS 3 2 rfl rfl (k := 127 - i) (b := nx) rfl (by omega) (by decide) d_M_divide_167 (fun H locs hP hD hS => ?_)
      have hP : va_P D vwCl (wM q κ (u_21.1, u_21.2.1, u_21.2.2.1, va_up u_21.2.2.2.1 (127 - i) nx, u_21.2.2.2.2)) H := hP
      have hD : va_D A (wM q κ (u_21.1, u_21.2.1, u_21.2.2.1, va_up u_21.2.2.2.1 (127 - i) nx, u_21.2.2.2.2)) := hD
      generalize eu_22 : ((u_21.1, u_21.2.1, u_21.2.2.1, va_up u_21.2.2.2.1 (127 - i) nx, u_21.2.2.2.2) : SM) = u_22 at hP hD
      refine lv_iinc (v := wf_dn 128 (i + 1)) (lv' := [(6, .int (wf_dn 128 (i + 1))), (0, .ref (q 0)), (1, .int (nI ra)), (2, .int (nI rb)), (3, .int (nI ro)), (4, .int (nI rt))]) hx hb d_M_divide_168 hl (k := 0) rfl (by rw [← wf_dn128 hi]; exact wf_dn_S) (by decide) rfl (fun ls hl => ?_)
      refine lv_goto (tgt := 134) hx hb d_M_divide_171 (by decide) ?_
      exact ih u_22 H locs ls (wf_div_S hi hI hy1 eu_20 ev hn hf eu_22) hP hD hS (lv_sub hl [0, 1, 2, 3, 4, 5] rfl)
    · have hP : va_P D vwCl (wM q κ x) H := hP
      have hD : va_D A (wM q κ x) := hD
      have hl : lv_has ls 7 [(6, .int (wf_dn 128 128)), (0, .ref (q 0)), (1, .int (nI ra)), (2, .int (nI rb)), (3, .int (nI ro)), (4, .int (nI rt))] := hl
      have hI : x = (0, u.2.1, u.2.2.1, x.2.2.2.1, x.2.2.2.2.1, u.2.2.2.2.2) ∧ wf_DV (wf_R u.2.1 ra) (wf_R u.2.1 rb) x.2.2.2.1 x.2.2.2.2.1 128 := hI
      refine lv_iload hx hb d_M_divide_134 (lv_at hl 0 rfl) ?_
      refine lv_if_lt (tgt := 174) hx hb d_M_divide_136 (by decide) (fun c_23 => ?_) (fun c_23 => False.elim (by first | exact absurd (by rw [wf_dn_end]; decide) c_23 | exact absurd c_23 (by rw [wf_dn_end]; decide)))
      refine lv_aload_n hx hb d_M_divide_174 rfl (lv_at hl 1 rfl) ?_
      refine lv_aload_n hx hb d_M_divide_175 rfl (lv_at hl 1 rfl) ?_
      refine gM C hK hP 0 rfl 3 (by decide) k_fl_M_answer rfl d_M_divide_176 ?_
      refine lv_iconst (v := 0) hx hb d_M_divide_179 (by decide) ?_
      refine lv_iload_n hx hb d_M_divide_180 rfl (lv_at hl 4 rfl) ?_
      refine kM_takeAnswer (b := 0) (rt := ro) (by decide) hro C hl.1 ⟨Nat.le_of_ble_eq_true rfl, Nat.le_of_ble_eq_true rfl⟩ (Nat.le_of_ble_eq_true rfl) ⟨Nat.le_of_ble_eq_true rfl, Nat.le_of_ble_eq_true rfl⟩ hP hK hD hS hA d_M_divide_181 (fun u_24 H locs eu_24 hP hD hS => ?_)
      refine lv_aload_n hx hb d_M_divide_184 rfl (lv_at hl 1 rfl) ?_
      refine lv_aload_n hx hb d_M_divide_185 rfl (lv_at hl 1 rfl) ?_
      refine gM C hK hP 0 rfl 4 (by decide) k_fl_M_rest rfl d_M_divide_186 ?_
      refine lv_iconst (v := 0) hx hb d_M_divide_189 (by decide) ?_
      refine lv_iload hx hb d_M_divide_190 (lv_at hl 5 rfl) ?_
      refine kM_takeRest (b := 0) (rt := rt) (by decide) hrt C hl.1 ⟨Nat.le_of_ble_eq_true rfl, Nat.le_of_ble_eq_true rfl⟩ (Nat.le_of_ble_eq_true rfl) ⟨Nat.le_of_ble_eq_true rfl, Nat.le_of_ble_eq_true rfl⟩ hP hK hD hS hA d_M_divide_192 (fun u_25 H locs eu_25 hP hD hS => ?_)
      exact wf_retv C hr hlocks u_25 (wf_fin_div hI eu_24 eu_25) hP hK hD hS (fun _ h => h) d_M_divide_195

set_option maxHeartbeats 4000000 in
set_option maxRecDepth 100000 in
/-- M_divide -/
theorem c_M_divideZero (l : Launch) (D : va_G) (q : Nat → Nat) (κ : Nat → ClassId) (u : SM) (ra : Nat) (hra : ra < 8) (rb : Nat) (hrb : rb < 8) (ro : Nat) (hro : ro < 8) (rt : Nat) (hrt : rt < 8) (hne : ¬ nI ro = nI rt) (hb0 : wf_R u.2.1 rb = 0) (sz : Nat) : Met l y_M_divide (.code y_M_divide b_M_divide 7 none :: wG) (wf_rm 2 120 0 0) (wf_Pc D vwCl (wM q κ u) (tyM κ) ([.ref (q 0), .int (nI ra), .int (nI rb), .int (nI ro), .int (nI rt)]) sz) (va_Qv (fun v => v = (3, u.2)) (wf_B D vwCl (wM q κ) (tyM κ) (va_A (wM q κ u) sz)) (va_A (wM q κ u) sz)) 0 0 (va_A (wM q κ u) sz) := by
  refine wf_open (by decide) (Nat.le_of_ble_eq_true rfl) k_M_divide ?_
  intro p e s m below meth c ls hsz C hr hlocks hnm hex hP hK hD hl
  subst hsz
  have hx := C.1
  have hb := C.2.1
  have hml := C.2.2.1
  have hown := C.2.2.2.1
  have hts := C.2.2.2.2
  have hA : ∀ j : Nat, s.heap.size ≤ j → va_A (wM q κ u) s.heap.size j := fun j h => Or.inr h
  have hS : va_S (va_A (wM q κ u) s.heap.size) s.heap s.heap [] := va_S.rf
  generalize hAe : va_A (wM q κ u) s.heap.size = A at hA hS hD ⊢
  have hl : lv_has ls 7 [(0, .ref (q 0)), (1, .int (nI ra)), (2, .int (nI rb)), (3, .int (nI ro)), (4, .int (nI rt))] := hl
  refine lv_aload_n hx hb d_M_divide_0 rfl (lv_at hl 0 rfl) ?_
  refine lv_iload_n hx hb d_M_divide_1 rfl (lv_at hl 1 rfl) ?_
  refine kM_ok (r := ra) hra C hl.1 ⟨Nat.le_of_ble_eq_true rfl, Nat.le_of_ble_eq_true rfl⟩ (Nat.le_of_ble_eq_true rfl) ⟨Nat.le_of_ble_eq_true rfl, Nat.le_of_ble_eq_true rfl⟩ d_M_divide_2 ?_
  refine lv_if_ne (tgt := 30) hx hb d_M_divide_5 (by decide) (fun c_1 => False.elim (absurd c_1 (by decide))) (fun _ => ?_)
  refine lv_iload_n hx hb d_M_divide_8 rfl (lv_at hl 2 rfl) ?_
  refine kM_ok (r := rb) hrb C hl.1 ⟨Nat.le_of_ble_eq_true rfl, Nat.le_of_ble_eq_true rfl⟩ (Nat.le_of_ble_eq_true rfl) ⟨Nat.le_of_ble_eq_true rfl, Nat.le_of_ble_eq_true rfl⟩ d_M_divide_9 ?_
  refine lv_if_ne (tgt := 30) hx hb d_M_divide_12 (by decide) (fun c_2 => False.elim (absurd c_2 (by decide))) (fun _ => ?_)
  refine lv_iload_n hx hb d_M_divide_15 rfl (lv_at hl 3 rfl) ?_
  refine kM_ok (r := ro) hro C hl.1 ⟨Nat.le_of_ble_eq_true rfl, Nat.le_of_ble_eq_true rfl⟩ (Nat.le_of_ble_eq_true rfl) ⟨Nat.le_of_ble_eq_true rfl, Nat.le_of_ble_eq_true rfl⟩ d_M_divide_16 ?_
  refine lv_if_ne (tgt := 30) hx hb d_M_divide_19 (by decide) (fun c_3 => False.elim (absurd c_3 (by decide))) (fun _ => ?_)
  refine lv_iload hx hb d_M_divide_22 (lv_at hl 4 rfl) ?_
  refine kM_ok (r := rt) hrt C hl.1 ⟨Nat.le_of_ble_eq_true rfl, Nat.le_of_ble_eq_true rfl⟩ (Nat.le_of_ble_eq_true rfl) ⟨Nat.le_of_ble_eq_true rfl, Nat.le_of_ble_eq_true rfl⟩ d_M_divide_24 ?_
  refine lv_if_eq (tgt := 34) hx hb d_M_divide_27 (by decide) (fun _ => ?_) (fun c_4 => False.elim (absurd c_4 (by decide)))
  refine lv_iload_n hx hb d_M_divide_34 rfl (lv_at hl 3 rfl) ?_
  refine lv_iload hx hb d_M_divide_35 (lv_at hl 4 rfl) ?_
  refine lv_icmp_ne (tgt := 44) hx hb d_M_divide_37 (by decide) (fun c_5 => ?_) (fun c_5 => False.elim (by first | exact absurd (hne) c_5 | exact absurd c_5 (hne)))
  refine lv_iconst (v := 0) hx hb d_M_divide_44 (by decide) ?_
  refine pM_code C hK hP hD hS 0 rfl (Nat.le_of_ble_eq_true rfl) d_M_divide_45 (fun H locs hP hD hS => ?_)
  have hP : va_P D vwCl (wM q κ (0, u.2)) H := hP
  have hD : va_D A (wM q κ (0, u.2)) := hD
  generalize eu_6 : ((0, u.2) : SM) = u_6 at hP hD
  refine lv_aload_n hx hb d_M_divide_48 rfl (lv_at hl 0 rfl) ?_
  refine gM C hK hP 0 rfl 0 (by decide) k_fl_M_code rfl d_M_divide_49 ?_
  refine lv_topi (fun k_7 ek_7 => ?_)
  have ek_7 : k_7 = 0 := ek_7.trans (by rw [← eu_6])
  subst ek_7
  refine lv_if_le (tgt := 56) hx hb d_M_divide_52 (by decide) (fun _ => ?_) (fun c_8 => False.elim (absurd c_8 (by decide)))
  refine lv_iconst (v := 1) hx hb d_M_divide_56 (by decide) ?_
  refine lv_istore (lv' := [(5, .int (1)), (0, .ref (q 0)), (1, .int (nI ra)), (2, .int (nI rb)), (3, .int (nI ro)), (4, .int (nI rt))]) hx hb d_M_divide_57 hl (by decide) rfl (fun ls hl => ?_)
  refine lv_iconst (v := 0) hx hb d_M_divide_59 (by decide) ?_
  refine lv_istore (lv' := [(6, .int (0)), (5, .int (1)), (0, .ref (q 0)), (1, .int (nI ra)), (2, .int (nI rb)), (3, .int (nI ro)), (4, .int (nI rt))]) hx hb d_M_divide_60 hl (by decide) rfl (fun ls hl => ?_)
  refine wf_for (σ := Bool) 128 (fun i x => x = decide (wf_sm (fun k => u.2.1 (128 * rb + k)) i = 0)) (fun i x => [(6, .int (nI i)), (5, .int (wf_bi x)), (0, .ref (q 0)), (1, .int (nI ra)), (2, .int (nI rb)), (3, .int (nI ro)), (4, .int (nI rt))]) (fun i x ls hi hI hl ih => ?_) (fun x ls hI hl => ?_) true (rfl) (lv_sub hl [0, 1, 2, 3, 4, 5, 6] rfl)
  · have hl : lv_has ls 7 [(6, .int (nI i)), (5, .int (wf_bi x)), (0, .ref (q 0)), (1, .int (nI ra)), (2, .int (nI rb)), (3, .int (nI ro)), (4, .int (nI rt))] := hl
    have hI : x = decide (wf_sm (fun k => u.2.1 (128 * rb + k)) i = 0) := hI
    refine lv_iload hx hb d_M_divide_62 (lv_at hl 0 rfl) ?_
    refine lv_sipush (v := 128) hx hb d_M_divide_64 (by decide) ?_
    refine lv_icmp_ge (tgt := 104) hx hb d_M_divide_67 (by decide) (fun c_9 => False.elim (by first | exact absurd c_9 (nI_ge hi (by decide)) | exact absurd (nI_ge hi (by decide)) c_9)) (fun c_9 => ?_)
    refine lv_iload hx hb d_M_divide_70 (lv_at hl 1 rfl) ?_
    obtain ⟨y1, hy1⟩ : ∃ b : Bool, b = u_6.2.1 (128 * rb + i) := ⟨_, rfl⟩
    refine wf_cutI (pcj := 96) (ls := ls) (rest := []) (fun z => z = wf_bi (x && !y1)) (fun z_10 ez_10 => ?_) (fun jn => ?_)
    · subst ez_10
      refine lv_istore (lv' := [(5, .int (wf_bi (x && !y1))), (6, .int (nI i)), (0, .ref (q 0)), (1, .int (nI ra)), (2, .int (nI rb)), (3, .int (nI ro)), (4, .int (nI rt))]) hx hb d_M_divide_96 hl (by decide) rfl (fun ls hl => ?_)
      refine lv_iinc (v := nI (i + 1)) (lv' := [(6, .int (nI (i + 1))), (5, .int (wf_bi (x && !y1))), (0, .ref (q 0)), (1, .int (nI ra)), (2, .int (nI rb)), (3, .int (nI ro)), (4, .int (nI rt))]) hx hb d_M_divide_98 hl (k := 1) rfl (nI_1 _) (by decide) rfl (fun ls hl => ?_)
      refine lv_goto (tgt := 62) hx hb d_M_divide_101 (by decide) ?_
      exact ih _ ls (wf_zero_S hI (hy1.trans (by rw [← eu_6]))) (lv_sub hl [0, 1, 2, 3, 4, 5, 6] rfl)
    · refine lv_if_eq (tgt := 95) hx hb d_M_divide_72 (by decide) (fun c_11 => ?_) (fun c_11 => ?_)
      · refine lv_iconst (v := 0) hx hb d_M_divide_95 (by decide) ?_
        exact jn _ (by revert c_11; cases x <;> cases y1 <;> decide)
      · refine lv_aload_n hx hb d_M_divide_75 rfl (lv_at hl 2 rfl) ?_
        refine gM C hK hP 0 rfl 1 (by decide) k_fl_M_bits rfl d_M_divide_76 ?_
        refine lv_sipush (v := 128) hx hb d_M_divide_79 (by decide) ?_
        refine lv_iload_n hx hb d_M_divide_82 rfl (lv_at hl 4 rfl) ?_
        refine lv_imul hx hb d_M_divide_83 ?_
        refine lv_iload hx hb d_M_divide_84 (lv_at hl 0 rfl) ?_
        refine lv_iadd hx hb d_M_divide_86 ?_
        refine wf_zald C hK hP 1 0 rfl rfl (k := 128 * rb + i) (wf_ia (x := 128 * rb) (y := i) (wf_im (x := 128) (y := rb) rfl rfl) rfl) (by omega) (by decide) d_M_divide_87 ?_
        rw [← hy1]
        refine lv_if_ne (tgt := 95) hx hb d_M_divide_88 (by decide) (fun c_12 => ?_) (fun c_12 => ?_)
        · refine lv_iconst (v := 0) hx hb d_M_divide_95 (by decide) ?_
          exact jn _ (by revert c_11 c_12; cases x <;> cases y1 <;> decide)
        · refine lv_iconst (v := 1) hx hb d_M_divide_91 (by decide) ?_
          refine lv_goto (tgt := 96) hx hb d_M_divide_92 (by decide) ?_
          exact jn _ (by revert c_11 c_12; cases x <;> cases y1 <;> decide)
  · have hl : lv_has ls 7 [(6, .int (nI 128)), (5, .int (wf_bi x)), (0, .ref (q 0)), (1, .int (nI ra)), (2, .int (nI rb)), (3, .int (nI ro)), (4, .int (nI rt))] := hl
    have hI : x = decide (wf_sm (fun k => u.2.1 (128 * rb + k)) 128 = 0) := hI
    refine lv_iload hx hb d_M_divide_62 (lv_at hl 0 rfl) ?_
    refine lv_sipush (v := 128) hx hb d_M_divide_64 (by decide) ?_
    refine lv_icmp_ge (tgt := 104) hx hb d_M_divide_67 (by decide) (fun c_13 => ?_) (fun c_13 => False.elim (by first | exact absurd (nI_le (Nat.le_refl 128) (by decide)) c_13 | exact absurd c_13 (nI_le (Nat.le_refl 128) (by decide))))
    refine lv_aload_n hx hb d_M_divide_104 rfl (lv_at hl 2 rfl) ?_
    refine lv_iload hx hb d_M_divide_105 (lv_at hl 1 rfl) ?_
    refine lv_if_eq (tgt := 114) hx hb d_M_divide_107 (by decide) (fun c_14 => False.elim (by first | exact absurd c_14 ((wf_bi1 _).mpr (hI.trans (decide_eq_true (show wf_R u.2.1 rb = 0 from hb0)))) | exact absurd ((wf_bi1 _).mpr (hI.trans (decide_eq_true (show wf_R u.2.1 rb = 0 from hb0)))) c_14)) (fun c_14 => ?_)
    refine lv_iconst (v := 3) hx hb d_M_divide_110 (by decide) ?_
    refine lv_goto (tgt := 115) hx hb d_M_divide_111 (by decide) ?_
    refine pM_code C hK hP hD hS 0 rfl (Nat.le_of_ble_eq_true rfl) d_M_divide_115 (fun H locs hP hD hS => ?_)
    have hP : va_P D vwCl (wM q κ (3, u_6.2)) H := hP
    have hD : va_D A (wM q κ (3, u_6.2)) := hD
    generalize eu_15 : ((3, u_6.2) : SM) = u_15 at hP hD
    refine lv_aload_n hx hb d_M_divide_118 rfl (lv_at hl 2 rfl) ?_
    refine gM C hK hP 0 rfl 0 (by decide) k_fl_M_code rfl d_M_divide_119 ?_
    refine lv_topi (fun k_16 ek_16 => ?_)
    have ek_16 : k_16 = 3 := ek_16.trans (by rw [← eu_15])
    subst ek_16
    refine lv_if_le (tgt := 126) hx hb d_M_divide_122 (by decide) (fun c_17 => False.elim (absurd c_17 (by decide))) (fun _ => ?_)
    exact wf_retv C hr hlocks u_15 (by rw [← eu_15, ← eu_6]) hP hK hD hS (fun _ h => h) d_M_divide_125

theorem wf_root_S {u w w1 w2 w3 w4 w5 : SM} {ra i : Nat} {y1 y0 nx : Bool} {f : Nat → Bool} (hi : i < 64) (hI : w = (0, u.2.1, u.2.2.1, w.2.2.2.1, w.2.2.2.2.1, u.2.2.2.2.2) ∧ wf_RV (wf_R u.2.1 ra) w.2.2.2.1 w.2.2.2.2.1 i) (hy1 : y1 = w.2.1 (128 * ra + 2 * (63 - i) + 1))
    (e1 : w1 = (w.1, w.2.1, w.2.2.1, w.2.2.2.1, va_up (wf_sh w.2.2.2.2.1 129 129) 0 y1, w.2.2.2.2.2)) (hy0 : y0 = w1.2.1 (128 * ra + 2 * (63 - i))) (e2 : w2 = (w1.1, w1.2.1, w1.2.2.1, w1.2.2.2.1, va_up (wf_sh w1.2.2.2.2.1 129 129) 0 y0, w1.2.2.2.2.2))
    (e3 : w3 = (w2.1, w2.2.1, w2.2.2.1, w2.2.2.2.1, f, w2.2.2.2.2.2)) (hn : nx = decide (wf_sm (wf_lr w2.2.2.2.1) 130 ≤ wf_sm w2.2.2.2.2.1 130)) (hf : wf_sm f 130 = wf_sm w2.2.2.2.2.1 130 - nx.toNat * wf_sm (wf_lr w2.2.2.2.1) 130)
    (e4 : w4 = (w3.1, w3.2.1, w3.2.2.1, wf_sh w3.2.2.2.1 127 127, w3.2.2.2.2)) (e5 : (w4.1, w4.2.1, w4.2.2.1, va_up w4.2.2.2.1 0 nx, w4.2.2.2.2) = w5) : w5 = (0, u.2.1, u.2.2.1, w5.2.2.2.1, w5.2.2.2.2.1, u.2.2.2.2.2) ∧ wf_RV (wf_R u.2.1 ra) w5.2.2.2.1 w5.2.2.2.2.1 (i + 1) := by
  obtain ⟨h1, h2⟩ := hI
  generalize w.2.2.2.1 = An at h1 h2 e1
  generalize w.2.2.2.2.1 = Re at h1 h2 e1
  subst h1
  subst e1 e2 e3 e4 e5
  exact ⟨rfl, wf_RV_S (B := u.2.1) hi h2 hy1 hy0 hn hf⟩
theorem wf_fin_root {u w v1 v2 : SM} {ra ro rt : Nat} (hI : w = (0, u.2.1, u.2.2.1, w.2.2.2.1, w.2.2.2.2.1, u.2.2.2.2.2) ∧ wf_RV (wf_R u.2.1 ra) w.2.2.2.1 w.2.2.2.2.1 64) (e3 : v1 = (w.1, va_cpy w.2.2.2.1 w.2.1 0 (128 * ro) 128, w.2.2)) (e4 : v2 = (v1.1, va_cpy v1.2.2.2.2.1 v1.2.1 0 (128 * rt) 128, v1.2.2)) :
    ∃ g r : Nat, (wf_R u.2.1 ra = g * g + r ∧ r ≤ 2 * g ∧ g < 2 ^ 64) ∧ wf_mW u v2 0 (va_up (va_up (wf_R u.2.1) ro g) rt r) := by
  obtain ⟨h1, h2⟩ := hI
  generalize w.2.2.2.1 = An at h1 h2 e3
  generalize w.2.2.2.2.1 = Re at h1 h2 e3
  subst h1
  subst e3 e4
  obtain ⟨g, r, k0, k1, k2⟩ := wf_RV_end h2
  exact ⟨g, r, k0, wf_mW_two (B := u.2.1) (fun _ _ => rfl) rfl rfl rfl rfl k1 k2⟩

set_option maxHeartbeats 4000000 in
set_option maxRecDepth 100000 in
/-- M_root -/
theorem c_M_root (l : Launch) (D : va_G) (q : Nat → Nat) (κ : Nat → ClassId) (u : SM) (ra : Nat) (hra : ra < 8) (ro : Nat) (hro : ro < 8) (rt : Nat) (hrt : rt < 8) (hne : ¬ nI ro = nI rt) (sz : Nat) : Met l y_M_root (.code y_M_root b_M_root 7 none :: wG) (wf_rm 2 120 0 0) (wf_Pc D vwCl (wM q κ u) (tyM κ) ([.ref (q 0), .int (nI ra), .int (nI ro), .int (nI rt)]) sz) (va_Qv (fun v => ∃ g r : Nat, (wf_R u.2.1 ra = g * g + r ∧ r ≤ 2 * g ∧ g < 2 ^ 64) ∧ wf_mW u v 0 (va_up (va_up (wf_R u.2.1) ro g) rt r)) (wf_B D vwCl (wM q κ) (tyM κ) (va_A (wM q κ u) sz)) (va_A (wM q κ u) sz)) 0 0 (va_A (wM q κ u) sz) := by
  refine wf_open (by decide) (Nat.le_of_ble_eq_true rfl) k_M_root ?_
  intro p e s m below meth c ls hsz C hr hlocks hnm hex hP hK hD hl
  subst hsz
  have hx := C.1
  have hb := C.2.1
  have hml := C.2.2.1
  have hown := C.2.2.2.1
  have hts := C.2.2.2.2
  have hA : ∀ j : Nat, s.heap.size ≤ j → va_A (wM q κ u) s.heap.size j := fun j h => Or.inr h
  have hS : va_S (va_A (wM q κ u) s.heap.size) s.heap s.heap [] := va_S.rf
  generalize hAe : va_A (wM q κ u) s.heap.size = A at hA hS hD ⊢
  have hl : lv_has ls 7 [(0, .ref (q 0)), (1, .int (nI ra)), (2, .int (nI ro)), (3, .int (nI rt))] := hl
  refine lv_aload_n hx hb d_M_root_0 rfl (lv_at hl 0 rfl) ?_
  refine lv_iload_n hx hb d_M_root_1 rfl (lv_at hl 1 rfl) ?_
  refine kM_ok (r := ra) hra C hl.1 ⟨Nat.le_of_ble_eq_true rfl, Nat.le_of_ble_eq_true rfl⟩ (Nat.le_of_ble_eq_true rfl) ⟨Nat.le_of_ble_eq_true rfl, Nat.le_of_ble_eq_true rfl⟩ d_M_root_2 ?_
  refine lv_if_ne (tgt := 22) hx hb d_M_root_5 (by decide) (fun c_1 => False.elim (absurd c_1 (by decide))) (fun _ => ?_)
  refine lv_iload_n hx hb d_M_root_8 rfl (lv_at hl 2 rfl) ?_
  refine kM_ok (r := ro) hro C hl.1 ⟨Nat.le_of_ble_eq_true rfl, Nat.le_of_ble_eq_true rfl⟩ (Nat.le_of_ble_eq_true rfl) ⟨Nat.le_of_ble_eq_true rfl, Nat.le_of_ble_eq_true rfl⟩ d_M_root_9 ?_
  refine lv_if_ne (tgt := 22) hx hb d_M_root_12 (by decide) (fun c_2 => False.elim (absurd c_2 (by decide))) (fun _ => ?_)
  refine lv_iload_n hx hb d_M_root_15 rfl (lv_at hl 3 rfl) ?_
  refine kM_ok (r := rt) hrt C hl.1 ⟨Nat.le_of_ble_eq_true rfl, Nat.le_of_ble_eq_true rfl⟩ (Nat.le_of_ble_eq_true rfl) ⟨Nat.le_of_ble_eq_true rfl, Nat.le_of_ble_eq_true rfl⟩ d_M_root_16 ?_
  refine lv_if_eq (tgt := 26) hx hb d_M_root_19 (by decide) (fun _ => ?_) (fun c_3 => False.elim (absurd c_3 (by decide)))
  refine lv_iload_n hx hb d_M_root_26 rfl (lv_at hl 2 rfl) ?_
  refine lv_iload_n hx hb d_M_root_27 rfl (lv_at hl 3 rfl) ?_
  refine lv_icmp_ne (tgt := 35) hx hb d_M_root_28 (by decide) (fun c_4 => ?_) (fun c_4 => False.elim (by first | exact absurd (hne) c_4 | exact absurd c_4 (hne)))
  refine lv_iconst (v := 0) hx hb d_M_root_35 (by decide) ?_
  refine pM_code C hK hP hD hS 0 rfl (Nat.le_of_ble_eq_true rfl) d_M_root_36 (fun H locs hP hD hS => ?_)
  have hP : va_P D vwCl (wM q κ (0, u.2)) H := hP
  have hD : va_D A (wM q κ (0, u.2)) := hD
  generalize eu_5 : ((0, u.2) : SM) = u_5 at hP hD
  refine lv_aload_n hx hb d_M_root_39 rfl (lv_at hl 0 rfl) ?_
  refine gM C hK hP 0 rfl 0 (by decide) k_fl_M_code rfl d_M_root_40 ?_
  refine lv_topi (fun k_6 ek_6 => ?_)
  have ek_6 : k_6 = 0 := ek_6.trans (by rw [← eu_5])
  subst ek_6
  refine lv_if_le (tgt := 47) hx hb d_M_root_43 (by decide) (fun _ => ?_) (fun c_7 => False.elim (absurd c_7 (by decide)))
  refine lv_aload_n hx hb d_M_root_47 rfl (lv_at hl 0 rfl) ?_
  refine kM_clear  C hl.1 ⟨Nat.le_of_ble_eq_true rfl, Nat.le_of_ble_eq_true rfl⟩ (Nat.le_of_ble_eq_true rfl) ⟨Nat.le_of_ble_eq_true rfl, Nat.le_of_ble_eq_true rfl⟩ hP hK hD hS hA d_M_root_48 (fun u_8 H locs eu_8 hP hD hS => ?_)
  refine lv_bipush (v := wf_dn 64 0) hx hb d_M_root_51 (by decide) ?_
  refine lv_istore (lv' := [(4, .int (wf_dn 64 0)), (0, .ref (q 0)), (1, .int (nI ra)), (2, .int (nI ro)), (3, .int (nI rt))]) hx hb d_M_root_53 hl (by decide) rfl (fun ls hl => ?_)
  refine wf_forH (σ := SM) 64 (fun i x => x = (0, u.2.1, u.2.2.1, x.2.2.2.1, x.2.2.2.2.1, u.2.2.2.2.2) ∧ wf_RV (wf_R u.2.1 ra) x.2.2.2.1 x.2.2.2.2.1 i) (fun x => wM q κ x) (fun i x => [(4, .int (wf_dn 64 i)), (0, .ref (q 0)), (1, .int (nI ra)), (2, .int (nI ro)), (3, .int (nI rt))]) (fun i1 x H locs ls hi1 hI1 hP hD hS hl ih1 => ?_) (fun x H locs ls hI1 hP hD hS hl => ?_) u_8 (⟨by rw [eu_8, ← eu_5], by rw [eu_8]; exact wf_RV_0 (wf_sm_lt _ 128) (fun k hk => wf_cpyZ_in hk) (fun k hk => wf_cpyZ_in hk)⟩) hP hD hS (lv_sub hl [0, 1, 2, 3, 4] rfl)
  · obtain ⟨w1, rfl⟩ : ∃ z, z = x := ⟨x, rfl⟩
    have hP : va_P D vwCl (wM q κ w1) H := hP
    have hD : va_D A (wM q κ w1) := hD
    have hl : lv_has ls 7 [(4, .int (wf_dn 64 i1)), (0, .ref (q 0)), (1, .int (nI ra)), (2, .int (nI ro)), (3, .int (nI rt))] := hl
    have hI1 : w1 = (0, u.2.1, u.2.2.1, w1.2.2.2.1, w1.2.2.2.2.1, u.2.2.2.2.2) ∧ wf_RV (wf_R u.2.1 ra) w1.2.2.2.1 w1.2.2.2.2.1 i1 := hI1
    rw [wf_dn64 hi1] at hl
    refine lv_iload hx hb d_M_root_55 (lv_at hl 0 rfl) ?_
    refine lv_if_lt (tgt := 152) hx hb d_M_root_57 (by decide) (fun c_9 => False.elim (by first | exact absurd c_9 (nI_pos (by omega)) | exact absurd (nI_pos (by omega)) c_9)) (fun c_9 => ?_)
    refine lv_aload_n hx hb d_M_root_60 rfl (lv_at hl 1 rfl) ?_
    refine lv_aload_n hx hb d_M_root_61 rfl (lv_at hl 1 rfl) ?_
    refine gM C hK hP 0 rfl 1 (by decide) k_fl_M_bits rfl d_M_root_62 ?_
    refine lv_sipush (v := 128) hx hb d_M_root_65 (by decide) ?_
    refine lv_iload_n hx hb d_M_root_68 rfl (lv_at hl 2 rfl) ?_
    refine lv_imul hx hb d_M_root_69 ?_
    refine lv_iconst (v := 2) hx hb d_M_root_70 (by decide) ?_
    refine lv_iload hx hb d_M_root_71 (lv_at hl 0 rfl) ?_
    refine lv_imul hx hb d_M_root_73 ?_
    refine lv_iadd hx hb d_M_root_74 ?_
    refine lv_iconst (v := 1) hx hb d_M_root_75 (by decide) ?_
    refine lv_iadd hx hb d_M_root_76 ?_
    refine wf_zald C hK hP 1 0 rfl rfl (k := 128 * ra + (2 * (63 - i1)) + 1) (wf_ia (x := 128 * ra + (2 * (63 - i1))) (y := 1) (wf_ia (x := 128 * ra) (y := 2 * (63 - i1)) (wf_im (x := 128) (y := ra) rfl rfl) (wf_im (x := 2) (y := 63 - i1) rfl rfl)) rfl) (by omega) (by decide) d_M_root_77 ?_
    obtain ⟨y1, hy1⟩ : ∃ b : Bool, b = w1.2.1 (128 * ra + (2 * (63 - i1)) + 1) := ⟨_, rfl⟩
    rw [← hy1]
    refine kM_bring (y := y1) C hl.1 ⟨Nat.le_of_ble_eq_true rfl, Nat.le_of_ble_eq_true rfl⟩ (Nat.le_of_ble_eq_true rfl) ⟨Nat.le_of_ble_eq_true rfl, Nat.le_of_ble_eq_true rfl⟩ hP hK hD hS hA d_M_root_78 (fun u_10 H locs eu_10 hP hD hS => ?_)
    refine lv_aload_n hx hb d_M_root_81 rfl (lv_at hl 1 rfl) ?_
    refine lv_aload_n hx hb d_M_root_82 rfl (lv_at hl 1 rfl) ?_
    refine gM C hK hP 0 rfl 1 (by decide) k_fl_M_bits rfl d_M_root_83 ?_
    refine lv_sipush (v := 128) hx hb d_M_root_86 (by decide) ?_
    refine lv_iload_n hx hb d_M_root_89 rfl (lv_at hl 2 rfl) ?_
    refine lv_imul hx hb d_M_root_90 ?_
    refine lv_iconst (v := 2) hx hb d_M_root_91 (by decide) ?_
    refine lv_iload hx hb d_M_root_92 (lv_at hl 0 rfl) ?_
    refine lv_imul hx hb d_M_root_94 ?_
    refine lv_iadd hx hb d_M_root_95 ?_
    refine wf_zald C hK hP 1 0 rfl rfl (k := 128 * ra + (2 * (63 - i1))) (wf_ia (x := 128 * ra) (y := 2 * (63 - i1)) (wf_im (x := 128) (y := ra) rfl rfl) (wf_im (x := 2) (y := 63 - i1) rfl rfl)) (by omega) (by decide) d_M_root_96 ?_
    obtain ⟨y0, hy0⟩ : ∃ b : Bool, b = u_10.2.1 (128 * ra + (2 * (63 - i1))) := ⟨_, rfl⟩
    rw [← hy0]
    refine kM_bring (y := y0) C hl.1 ⟨Nat.le_of_ble_eq_true rfl, Nat.le_of_ble_eq_true rfl⟩ (Nat.le_of_ble_eq_true rfl) ⟨Nat.le_of_ble_eq_true rfl, Nat.le_of_ble_eq_true rfl⟩ hP hK hD hS hA d_M_root_97 (fun u_11 H locs eu_11 hP hD hS => ?_)
    refine lv_aload_n hx hb d_M_root_100 rfl (lv_at hl 1 rfl) ?_
    refine lv_iconst (v := (-1)) hx hb d_M_root_101 (by decide) ?_
    refine kM_awayA  C hl.1 ⟨Nat.le_of_ble_eq_true rfl, Nat.le_of_ble_eq_true rfl⟩ (Nat.le_of_ble_eq_true rfl) ⟨Nat.le_of_ble_eq_true rfl, Nat.le_of_ble_eq_true rfl⟩ hP hK hD hS hA d_M_root_102 (fun r_ u_12 H locs eu_12 hP hD hS => ?_)
    obtain ⟨nx, f, hr_, ev, hn, hf⟩ := wf_away_b eu_12
    subst hr_
    refine lv_istore (lv' := [(5, .int (wf_bi nx)), (4, .int (nI (63 - i1))), (0, .ref (q 0)), (1, .int (nI ra)), (2, .int (nI ro)), (3, .int (nI rt))]) hx hb d_M_root_105 hl (by decide) rfl (fun ls hl => ?_)
    refine lv_bipush (v := nI 127) hx hb d_M_root_107 (by decide) ?_
    refine lv_istore (lv' := [(6, .int (nI 127)), (5, .int (wf_bi nx)), (4, .int (nI (63 - i1))), (0, .ref (q 0)), (1, .int (nI ra)), (2, .int (nI ro)), (3, .int (nI rt))]) hx hb d_M_root_109 hl (by decide) rfl (fun ls hl => ?_)
    refine wf_forH (σ := SM) 127 (fun i x => x = (u_12.1, u_12.2.1, u_12.2.2.1, wf_sh u_12.2.2.2.1 127 i, u_12.2.2.2.2)) (fun x => wM q κ x) (fun i x => [(6, .int (nI (127 - i))), (5, .int (wf_bi nx)), (4, .int (nI (63 - i1))), (0, .ref (q 0)), (1, .int (nI ra)), (2, .int (nI ro)), (3, .int (nI rt))]) (fun i x H locs ls hi hI hP hD hS hl ih => ?_) (fun x H locs ls hI hP hD hS hl => ?_) u_12 (by rw [wf_sh0]) hP hD hS (lv_sub hl [0, 1, 2, 3, 4, 5, 6] rfl)
    · have hP : va_P D vwCl (wM q κ x) H := hP
      have hD : va_D A (wM q κ x) := hD
      have hl : lv_has ls 7 [(6, .int (nI (127 - i))), (5, .int (wf_bi nx)), (4, .int (nI (63 - i1))), (0, .ref (q 0)), (1, .int (nI ra)), (2, .int (nI ro)), (3, .int (nI rt))] := hl
      have hI : x = (u_12.1, u_12.2.1, u_12.2.2.1, wf_sh u_12.2.2.2.1 127 i, u_12.2.2.2.2) := hI
      refine lv_iload hx hb d_M_root_111 (lv_at hl 0 rfl) ?_
      refine lv_if_le (tgt := 138) hx hb d_M_root_113 (by decide) (fun c_13 => False.elim (by first | exact absurd c_13 (nI_nle (n := 127 - i) (by omega) (by omega)) | exact absurd (nI_nle (n := 127 - i) (by omega) (by omega)) c_13)) (fun c_13 => ?_)
      refine lv_aload_n hx hb d_M_root_116 rfl (lv_at hl 3 rfl) ?_
      refine gM C hK hP 0 rfl 3 (by decide) k_fl_M_answer rfl d_M_root_117 ?_
      refine lv_iload hx hb d_M_root_120 (lv_at hl 0 rfl) ?_
      refine lv_aload_n hx hb d_M_root_122 rfl (lv_at hl 3 rfl) ?_
      refine gM C hK hP 0 rfl 3 (by decide) k_fl_M_answer rfl d_M_root_123 ?_
      refine lv_iload hx hb d_M_root_126 (lv_at hl 0 rfl) ?_
      refine lv_iconst (v := 1) hx hb d_M_root_128 (by decide) ?_
      refine lv_isub hx hb d_M_root_129 ?_
      refine wf_zald C hK hP 3 2 rfl rfl (k := 127 - i - 1) (wf_is (x := 127 - i) (y := 1) rfl rfl (by omega)) (by omega) (by decide) d_M_root_130 ?_
      refine wf_zast C hK hP hD hS 3 2 rfl rfl (k := 127 - i) (b := ((x.2.2.2.1 (127 - i - 1)))) rfl (by omega) (by decide) d_M_root_131 (fun H locs hP hD hS => ?_)
      have hP : va_P D vwCl (wM q κ (x.1, x.2.1, x.2.2.1, va_up x.2.2.2.1 (127 - i) ((x.2.2.2.1 (127 - i - 1))), x.2.2.2.2)) H := hP
      have hD : va_D A (wM q κ (x.1, x.2.1, x.2.2.1, va_up x.2.2.2.1 (127 - i) ((x.2.2.2.1 (127 - i - 1))), x.2.2.2.2)) := hD
      generalize eu_14 : ((x.1, x.2.1, x.2.2.1, va_up x.2.2.2.1 (127 - i) ((x.2.2.2.1 (127 - i - 1))), x.2.2.2.2) : SM) = u_14 at hP hD
      refine lv_iinc (v := nI (127 - (i + 1))) (lv' := [(6, .int (nI (127 - (i + 1)))), (5, .int (wf_bi nx)), (4, .int (nI (63 - i1))), (0, .ref (q 0)), (1, .int (nI ra)), (2, .int (nI ro)), (3, .int (nI rt))]) hx hb d_M_root_132 hl (k := 0) rfl ((wf_deI (k := 127 - i) (by omega)).trans (by rw [Nat.sub_sub])) (by decide) rfl (fun ls hl => ?_)
      refine lv_goto (tgt := 111) hx hb d_M_root_135 (by decide) ?_
      exact ih u_14 H locs ls (by rw [← eu_14, hI]; exact congrArg (fun z => (u_12.1, u_12.2.1, u_12.2.2.1, z, u_12.2.2.2.2)) (wf_shS _ hi)) hP hD hS (lv_sub hl [0, 1, 2, 3, 4, 5, 6] rfl)
    · have hP : va_P D vwCl (wM q κ x) H := hP
      have hD : va_D A (wM q κ x) := hD
      have hl : lv_has ls 7 [(6, .int (nI (127 - 127))), (5, .int (wf_bi nx)), (4, .int (nI (63 - i1))), (0, .ref (q 0)), (1, .int (nI ra)), (2, .int (nI ro)), (3, .int (nI rt))] := hl
      have hI : x = (u_12.1, u_12.2.1, u_12.2.2.1, wf_sh u_12.2.2.2.1 127 127, u_12.2.2.2.2) := hI
      refine lv_iload hx hb d_M_root_111 (lv_at hl 0 rfl) ?_
      refine lv_if_le (tgt := 138) hx hb d_M_root_113 (by decide) (fun c_15 => ?_) (fun c_15 => False.elim (by first | exact absurd (by decide) c_15 | exact absurd c_15 (by decide)))
      refine lv_aload_n hx hb d_M_root_138 rfl (lv_at hl 3 rfl) ?_
      refine gM C hK hP 0 rfl 3 (by decide) k_fl_M_answer rfl d_M_root_139 ?_
      refine lv_iconst (v := 0) hx hb d_M_root_142 (by decide) ?_
      refine lv_iload hx hb d_M_root_143 (lv_at hl 1 rfl) ?_
      refine wf_zast C hK hP hD hS 3 2 rfl rfl (k := 0) (b := nx) rfl (by omega) (by decide) d_M_root_145 (fun H locs hP hD hS => ?_)
      have hP : va_P D vwCl (wM q κ (x.1, x.2.1, x.2.2.1, va_up x.2.2.2.1 0 nx, x.2.2.2.2)) H := hP
      have hD : va_D A (wM q κ (x.1, x.2.1, x.2.2.1, va_up x.2.2.2.1 0 nx, x.2.2.2.2)) := hD
      generalize eu_16 : ((x.1, x.2.1, x.2.2.1, va_up x.2.2.2.1 0 nx, x.2.2.2.2) : SM) = u_16 at hP hD
      refine lv_iinc (v := wf_dn 64 (i1 + 1)) (lv' := [(4, .int (wf_dn 64 (i1 + 1))), (6, .int (nI (127 - 127))), (5, .int (wf_bi nx)), (0, .ref (q 0)), (1, .int (nI ra)), (2, .int (nI ro)), (3, .int (nI rt))]) hx hb d_M_root_146 hl (k := 2) rfl (by rw [← wf_dn64 hi1]; exact wf_dn_S) (by decide) rfl (fun ls hl => ?_)
      refine lv_goto (tgt := 55) hx hb d_M_root_149 (by decide) ?_
      exact ih1 u_16 H locs ls (wf_root_S hi1 hI1 hy1 eu_10 hy0 eu_11 ev hn hf hI eu_16) hP hD hS (lv_sub hl [0, 3, 4, 5, 6] rfl)
  · have hP : va_P D vwCl (wM q κ x) H := hP
    have hD : va_D A (wM q κ x) := hD
    have hl : lv_has ls 7 [(4, .int (wf_dn 64 64)), (0, .ref (q 0)), (1, .int (nI ra)), (2, .int (nI ro)), (3, .int (nI rt))] := hl
    have hI1 : x = (0, u.2.1, u.2.2.1, x.2.2.2.1, x.2.2.2.2.1, u.2.2.2.2.2) ∧ wf_RV (wf_R u.2.1 ra) x.2.2.2.1 x.2.2.2.2.1 64 := hI1
    refine lv_iload hx hb d_M_root_55 (lv_at hl 0 rfl) ?_
    refine lv_if_lt (tgt := 152) hx hb d_M_root_57 (by decide) (fun c_17 => ?_) (fun c_17 => False.elim (by first | exact absurd (by rw [wf_dn_end]; decide) c_17 | exact absurd c_17 (by rw [wf_dn_end]; decide)))
    refine lv_aload_n hx hb d_M_root_152 rfl (lv_at hl 1 rfl) ?_
    refine lv_aload_n hx hb d_M_root_153 rfl (lv_at hl 1 rfl) ?_
    refine gM C hK hP 0 rfl 3 (by decide) k_fl_M_answer rfl d_M_root_154 ?_
    refine lv_iconst (v := 0) hx hb d_M_root_157 (by decide) ?_
    refine lv_iload_n hx hb d_M_root_158 rfl (lv_at hl 3 rfl) ?_
    refine kM_takeAnswer (b := 0) (rt := ro) (by decide) hro C hl.1 ⟨Nat.le_of_ble_eq_true rfl, Nat.le_of_ble_eq_true rfl⟩ (Nat.le_of_ble_eq_true rfl) ⟨Nat.le_of_ble_eq_true rfl, Nat.le_of_ble_eq_true rfl⟩ hP hK hD hS hA d_M_root_159 (fun u_18 H locs eu_18 hP hD hS => ?_)
    refine lv_aload_n hx hb d_M_root_162 rfl (lv_at hl 1 rfl) ?_
    refine lv_aload_n hx hb d_M_root_163 rfl (lv_at hl 1 rfl) ?_
    refine gM C hK hP 0 rfl 4 (by decide) k_fl_M_rest rfl d_M_root_164 ?_
    refine lv_iconst (v := 0) hx hb d_M_root_167 (by decide) ?_
    refine lv_iload_n hx hb d_M_root_168 rfl (lv_at hl 4 rfl) ?_
    refine kM_takeRest (b := 0) (rt := rt) (by decide) hrt C hl.1 ⟨Nat.le_of_ble_eq_true rfl, Nat.le_of_ble_eq_true rfl⟩ (Nat.le_of_ble_eq_true rfl) ⟨Nat.le_of_ble_eq_true rfl, Nat.le_of_ble_eq_true rfl⟩ hP hK hD hS hA d_M_root_169 (fun u_19 H locs eu_19 hP hD hS => ?_)
    exact wf_retv C hr hlocks u_19 (wf_fin_root hI1 eu_18 eu_19) hP hK hD hS (fun _ h => h) d_M_root_172
