/-! ===== storeQuotient, storeRoot ===== -/
theorem wf_V_0 : wf_V 0 0 = 0 := by decide +kernel

set_option maxHeartbeats 4000000 in
set_option maxRecDepth 100000 in
/-- storeQuotient -/
theorem c_X_storeQuotient (l : Launch) (D : va_G) (q : Nat → Nat) (κ : Nat → ClassId) (u : SX) (ah al bh bl : Int64) (o : Nat) (ho : o < 8) (t : Nat) (ht : t < 8) (hb0 : 0 < wf_V bh bl) (sz : Nat) : Met l y_X_storeQuotient (.code y_X_storeQuotient b_X_storeQuotient 21 none :: wG) (wf_rm 3 90 0 0) (wf_Pc D vwCl (wX q κ u) (tyX κ) ([.ref (q 0), .long ah, .long al, .long bh, .long bl, .int (nI o), .int (nI t)]) sz) (va_Qv (fun v => ∃ w : SX, wf_st u w o (wf_V ah al / wf_V bh bl) ∧ wf_st w v t (wf_V ah al % wf_V bh bl)) (wf_B D vwCl (wX q κ) (tyX κ) (va_A (wX q κ u) sz)) (va_A (wX q κ u) sz)) 0 0 (va_A (wX q κ u) sz) := by
  refine wf_open (by decide) (Nat.le_of_ble_eq_true rfl) k_X_storeQuotient ?_
  intro p e s m below meth c ls hsz C hr hlocks hnm hex hP hK hD hl
  subst hsz
  have hx := C.1
  have hb := C.2.1
  have hml := C.2.2.1
  have hown := C.2.2.2.1
  have hts := C.2.2.2.2
  have hA : ∀ j : Nat, s.heap.size ≤ j → va_A (wX q κ u) s.heap.size j := fun j h => Or.inr h
  have hS : va_S (va_A (wX q κ u) s.heap.size) s.heap s.heap [] := va_S.rf
  generalize hAe : va_A (wX q κ u) s.heap.size = A at hA hS hD ⊢
  have hl : lv_has ls 21 [(0, .ref (q 0)), (1, .long (ah)), (3, .long (al)), (5, .long (bh)), (7, .long (bl)), (9, .int (nI o)), (10, .int (nI t))] := hl
  refine lv_lload_n hx hb d_X_storeQuotient_0 rfl (lv_at hl 1 rfl) ?_
  refine lv_lstore (lv' := [(11, .long (ah)), (0, .ref (q 0)), (1, .long (ah)), (3, .long (al)), (5, .long (bh)), (7, .long (bl)), (9, .int (nI o)), (10, .int (nI t))]) hx hb d_X_storeQuotient_1 hl (by decide) rfl (fun ls hl => ?_)
  refine lv_lload_n hx hb d_X_storeQuotient_3 rfl (lv_at hl 3 rfl) ?_
  refine lv_lstore (lv' := [(13, .long (al)), (11, .long (ah)), (0, .ref (q 0)), (1, .long (ah)), (3, .long (al)), (5, .long (bh)), (7, .long (bl)), (9, .int (nI o)), (10, .int (nI t))]) hx hb d_X_storeQuotient_4 hl (by decide) rfl (fun ls hl => ?_)
  refine lv_lconst (v := 0) hx hb d_X_storeQuotient_6 (by decide) ?_
  refine lv_lstore (lv' := [(15, .long (0)), (13, .long (al)), (11, .long (ah)), (0, .ref (q 0)), (1, .long (ah)), (3, .long (al)), (5, .long (bh)), (7, .long (bl)), (9, .int (nI o)), (10, .int (nI t))]) hx hb d_X_storeQuotient_7 hl (by decide) rfl (fun ls hl => ?_)
  refine lv_lconst (v := 0) hx hb d_X_storeQuotient_9 (by decide) ?_
  refine lv_lstore (lv' := [(17, .long (0)), (15, .long (0)), (13, .long (al)), (11, .long (ah)), (0, .ref (q 0)), (1, .long (ah)), (3, .long (al)), (5, .long (bh)), (7, .long (bl)), (9, .int (nI o)), (10, .int (nI t))]) hx hb d_X_storeQuotient_10 hl (by decide) rfl (fun ls hl => ?_)
  refine lv_iconst (v := 0) hx hb d_X_storeQuotient_12 (by decide) ?_
  refine lv_istore (lv' := [(19, .int (0)), (17, .long (0)), (15, .long (0)), (13, .long (al)), (11, .long (ah)), (0, .ref (q 0)), (1, .long (ah)), (3, .long (al)), (5, .long (bh)), (7, .long (bl)), (9, .int (nI o)), (10, .int (nI t))]) hx hb d_X_storeQuotient_13 hl (by decide) rfl (fun ls hl => ?_)
  refine wf_for (σ := Nat × Int64 × Int64 × Int64 × Int64) 128 (fun i x => wf_DI (wf_V ah al) (wf_V bh bl) i x.1 (wf_V x.2.2.2.1 x.2.2.2.2) (wf_V x.2.1 x.2.2.1)) (fun i x => [(19, .int (nI i)), (17, .long (x.2.2.2.2)), (15, .long (x.2.2.2.1)), (13, .long (x.2.2.1)), (11, .long (x.2.1)), (0, .ref (q 0)), (1, .long (ah)), (3, .long (al)), (5, .long (bh)), (7, .long (bl)), (9, .int (nI o)), (10, .int (nI t))]) (fun i x ls hi hI hl ih => ?_) (fun x ls hI hl => ?_) (0, ah, al, 0, 0) (by show wf_DI (wf_V ah al) (wf_V bh bl) 0 0 (wf_V 0 0) (wf_V ah al); rw [wf_V_0]; exact wf_DI_0 (by rw [wf_p128]; exact wf_V_lt _ _) hb0) (lv_sub hl [0, 1, 2, 3, 4, 5, 6, 7, 8, 9, 10, 11] rfl)
  · obtain ⟨q1, hh, hlo, fh, fl⟩ := x
    have hl : lv_has ls 21 [(19, .int (nI i)), (17, .long (fl)), (15, .long (fh)), (13, .long (hlo)), (11, .long (hh)), (0, .ref (q 0)), (1, .long (ah)), (3, .long (al)), (5, .long (bh)), (7, .long (bl)), (9, .int (nI o)), (10, .int (nI t))] := hl
    have hI : wf_DI (wf_V ah al) (wf_V bh bl) i q1 (wf_V fh fl) (wf_V hh hlo) := hI
    refine lv_iload hx hb d_X_storeQuotient_15 (lv_at hl 0 rfl) ?_
    refine lv_sipush (v := 128) hx hb d_X_storeQuotient_17 (by decide) ?_
    refine lv_icmp_ge (tgt := 132) hx hb d_X_storeQuotient_20 (by decide) (fun c_1 => False.elim (by first | exact absurd c_1 (nI_ge hi (by decide)) | exact absurd (nI_ge hi (by decide)) c_1)) (fun c_1 => ?_)
    refine wf_cutI (pcj := 35) (ls := ls) (rest := []) (fun z => z = wf_bi (decide (9223372036854775808 ≤ uN fh))) (fun z_2 ez_2 => ?_) (fun jn => ?_)
    · refine lv_istore (lv' := [(20, .int (z_2)), (19, .int (nI i)), (17, .long (fl)), (15, .long (fh)), (13, .long (hlo)), (11, .long (hh)), (0, .ref (q 0)), (1, .long (ah)), (3, .long (al)), (5, .long (bh)), (7, .long (bl)), (9, .int (nI o)), (10, .int (nI t))]) hx hb d_X_storeQuotient_35 hl (by decide) rfl (fun ls hl => ?_)
      refine lv_lload hx hb d_X_storeQuotient_37 (lv_at hl 3 rfl) ?_
      refine lv_iconst (v := 1) hx hb d_X_storeQuotient_39 (by decide) ?_
      refine lv_lshl hx hb d_X_storeQuotient_40 rfl ?_
      refine lv_lload hx hb d_X_storeQuotient_41 (lv_at hl 2 rfl) ?_
      refine lv_bipush (v := 63) hx hb d_X_storeQuotient_43 (by decide) ?_
      refine lv_lushr hx hb d_X_storeQuotient_45 rfl ?_
      refine lv_lor hx hb d_X_storeQuotient_46 ?_
      refine lv_topl (fun v_3 ev_3 => ?_)
      refine lv_lstore (lv' := [(15, .long (v_3)), (20, .int (z_2)), (19, .int (nI i)), (17, .long (fl)), (13, .long (hlo)), (11, .long (hh)), (0, .ref (q 0)), (1, .long (ah)), (3, .long (al)), (5, .long (bh)), (7, .long (bl)), (9, .int (nI o)), (10, .int (nI t))]) hx hb d_X_storeQuotient_47 hl (by decide) rfl (fun ls hl => ?_)
      refine lv_lload hx hb d_X_storeQuotient_49 (lv_at hl 3 rfl) ?_
      refine lv_iconst (v := 1) hx hb d_X_storeQuotient_51 (by decide) ?_
      refine lv_lshl hx hb d_X_storeQuotient_52 rfl ?_
      refine lv_lload hx hb d_X_storeQuotient_53 (lv_at hl 5 rfl) ?_
      refine lv_bipush (v := 63) hx hb d_X_storeQuotient_55 (by decide) ?_
      refine lv_lushr hx hb d_X_storeQuotient_57 rfl ?_
      refine lv_lor hx hb d_X_storeQuotient_58 ?_
      refine lv_topl (fun v_4 ev_4 => ?_)
      refine lv_lstore (lv' := [(17, .long (v_4)), (15, .long (v_3)), (20, .int (z_2)), (19, .int (nI i)), (13, .long (hlo)), (11, .long (hh)), (0, .ref (q 0)), (1, .long (ah)), (3, .long (al)), (5, .long (bh)), (7, .long (bl)), (9, .int (nI o)), (10, .int (nI t))]) hx hb d_X_storeQuotient_59 hl (by decide) rfl (fun ls hl => ?_)
      refine lv_lload hx hb d_X_storeQuotient_61 (lv_at hl 5 rfl) ?_
      refine lv_iconst (v := 1) hx hb d_X_storeQuotient_63 (by decide) ?_
      refine lv_lshl hx hb d_X_storeQuotient_64 rfl ?_
      refine lv_lload hx hb d_X_storeQuotient_65 (lv_at hl 4 rfl) ?_
      refine lv_bipush (v := 63) hx hb d_X_storeQuotient_67 (by decide) ?_
      refine lv_lushr hx hb d_X_storeQuotient_69 rfl ?_
      refine lv_lor hx hb d_X_storeQuotient_70 ?_
      refine lv_topl (fun v_5 ev_5 => ?_)
      refine lv_lstore (lv' := [(11, .long (v_5)), (17, .long (v_4)), (15, .long (v_3)), (20, .int (z_2)), (19, .int (nI i)), (13, .long (hlo)), (0, .ref (q 0)), (1, .long (ah)), (3, .long (al)), (5, .long (bh)), (7, .long (bl)), (9, .int (nI o)), (10, .int (nI t))]) hx hb d_X_storeQuotient_71 hl (by decide) rfl (fun ls hl => ?_)
      refine lv_lload hx hb d_X_storeQuotient_73 (lv_at hl 5 rfl) ?_
      refine lv_iconst (v := 1) hx hb d_X_storeQuotient_75 (by decide) ?_
      refine lv_lshl hx hb d_X_storeQuotient_76 rfl ?_
      refine lv_topl (fun v_6 ev_6 => ?_)
      refine lv_lstore (lv' := [(13, .long (v_6)), (11, .long (v_5)), (17, .long (v_4)), (15, .long (v_3)), (20, .int (z_2)), (19, .int (nI i)), (0, .ref (q 0)), (1, .long (ah)), (3, .long (al)), (5, .long (bh)), (7, .long (bl)), (9, .int (nI o)), (10, .int (nI t))]) hx hb d_X_storeQuotient_77 hl (by decide) rfl (fun ls hl => ?_)
      refine lv_iload hx hb d_X_storeQuotient_79 (lv_at hl 4 rfl) ?_
      refine lv_if_ne (tgt := 98) hx hb d_X_storeQuotient_81 (by decide) (fun c_7 => ?_) (fun c_7 => ?_)
      · refine lv_lload hx hb d_X_storeQuotient_98 (lv_at hl 3 rfl) ?_
        refine lv_lload hx hb d_X_storeQuotient_100 (lv_at hl 9 rfl) ?_
        refine lv_lsub hx hb d_X_storeQuotient_102 ?_
        refine lv_lload hx hb d_X_storeQuotient_103 (lv_at hl 2 rfl) ?_
        refine lv_lload hx hb d_X_storeQuotient_105 (lv_at hl 10 rfl) ?_
        refine kX_one C hl.1 ⟨Nat.le_of_ble_eq_true rfl, Nat.le_of_ble_eq_true rfl⟩ (Nat.le_of_ble_eq_true rfl) ⟨Nat.le_of_ble_eq_true rfl, Nat.le_of_ble_eq_true rfl⟩ d_X_storeQuotient_107 ?_
        refine lv_lsub hx hb d_X_storeQuotient_110 ?_
        refine lv_topl (fun v_8 ev_8 => ?_)
        refine lv_lstore (lv' := [(15, .long (v_8)), (13, .long (v_6)), (11, .long (v_5)), (17, .long (v_4)), (20, .int (z_2)), (19, .int (nI i)), (0, .ref (q 0)), (1, .long (ah)), (3, .long (al)), (5, .long (bh)), (7, .long (bl)), (9, .int (nI o)), (10, .int (nI t))]) hx hb d_X_storeQuotient_111 hl (by decide) rfl (fun ls hl => ?_)
        refine lv_lload hx hb d_X_storeQuotient_113 (lv_at hl 3 rfl) ?_
        refine lv_lload hx hb d_X_storeQuotient_115 (lv_at hl 10 rfl) ?_
        refine lv_lsub hx hb d_X_storeQuotient_117 ?_
        refine lv_topl (fun v_9 ev_9 => ?_)
        refine lv_lstore (lv' := [(17, .long (v_9)), (15, .long (v_8)), (13, .long (v_6)), (11, .long (v_5)), (20, .int (z_2)), (19, .int (nI i)), (0, .ref (q 0)), (1, .long (ah)), (3, .long (al)), (5, .long (bh)), (7, .long (bl)), (9, .int (nI o)), (10, .int (nI t))]) hx hb d_X_storeQuotient_118 hl (by decide) rfl (fun ls hl => ?_)
        refine lv_lload hx hb d_X_storeQuotient_120 (lv_at hl 2 rfl) ?_
        refine lv_lconst (v := 1) hx hb d_X_storeQuotient_122 (by decide) ?_
        refine lv_lor hx hb d_X_storeQuotient_123 ?_
        refine lv_topl (fun v_10 ev_10 => ?_)
        refine lv_lstore (lv' := [(13, .long (v_10)), (17, .long (v_9)), (15, .long (v_8)), (11, .long (v_5)), (20, .int (z_2)), (19, .int (nI i)), (0, .ref (q 0)), (1, .long (ah)), (3, .long (al)), (5, .long (bh)), (7, .long (bl)), (9, .int (nI o)), (10, .int (nI t))]) hx hb d_X_storeQuotient_124 hl (by decide) rfl (fun ls hl => ?_)
        refine lv_iinc (v := nI (i + 1)) (lv' := [(19, .int (nI (i + 1))), (13, .long (v_10)), (17, .long (v_9)), (15, .long (v_8)), (11, .long (v_5)), (20, .int (z_2)), (0, .ref (q 0)), (1, .long (ah)), (3, .long (al)), (5, .long (bh)), (7, .long (bl)), (9, .int (nI o)), (10, .int (nI t))]) hx hb d_X_storeQuotient_126 hl (k := 5) rfl (nI_1 _) (by decide) rfl (fun ls hl => ?_)
        refine lv_goto (tgt := 15) hx hb d_X_storeQuotient_129 (by decide) ?_
        exact ih (2 * q1 + 1, v_5, v_10, v_8, v_9) ls (by
          show wf_DI (wf_V ah al) (wf_V bh bl) (i + 1) (2 * q1 + 1) (wf_V v_8 v_9) (wf_V v_5 v_10)
          rw [ev_8, ev_9, ev_10]
          exact wf_q_yes hi hI (by rw [ev_3]; exact wf_s1 _ _) (by rw [ev_4]; exact wf_s1 _ _) (by rw [ev_5]; exact wf_s1 _ _) (by rw [ev_6]; exact uN_shl _) (Or.inl (of_decide_eq_true ((wf_bi1 _).mp (by rw [← ez_2]; exact c_7))))) (lv_sub hl [0, 2, 3, 1, 4, 6, 7, 8, 9, 10, 11, 12] rfl)
      · refine lv_lload hx hb d_X_storeQuotient_84 (lv_at hl 3 rfl) ?_
        refine lv_lload hx hb d_X_storeQuotient_86 (lv_at hl 2 rfl) ?_
        refine lv_lload hx hb d_X_storeQuotient_88 (lv_at hl 9 rfl) ?_
        refine lv_lload hx hb d_X_storeQuotient_90 (lv_at hl 10 rfl) ?_
        refine kX_below C hl.1 ⟨Nat.le_of_ble_eq_true rfl, Nat.le_of_ble_eq_true rfl⟩ (Nat.le_of_ble_eq_true rfl) ⟨Nat.le_of_ble_eq_true rfl, Nat.le_of_ble_eq_true rfl⟩ d_X_storeQuotient_92 ?_
        refine lv_if_ne (tgt := 126) hx hb d_X_storeQuotient_95 (by decide) (fun c_11 => ?_) (fun c_11 => ?_)
        · refine lv_iinc (v := nI (i + 1)) (lv' := [(19, .int (nI (i + 1))), (13, .long (v_6)), (11, .long (v_5)), (17, .long (v_4)), (15, .long (v_3)), (20, .int (z_2)), (0, .ref (q 0)), (1, .long (ah)), (3, .long (al)), (5, .long (bh)), (7, .long (bl)), (9, .int (nI o)), (10, .int (nI t))]) hx hb d_X_storeQuotient_126 hl (k := 5) rfl (nI_1 _) (by decide) rfl (fun ls hl => ?_)
          refine lv_goto (tgt := 15) hx hb d_X_storeQuotient_129 (by decide) ?_
          exact ih (2 * q1, v_5, v_6, v_3, v_4) ls (by
            show wf_DI (wf_V ah al) (wf_V bh bl) (i + 1) (2 * q1) (wf_V v_3 v_4) (wf_V v_5 v_6)
            exact wf_q_no hi hI (by rw [ev_3]; exact wf_s1 _ _) (by rw [ev_4]; exact wf_s1 _ _) (by rw [ev_5]; exact wf_s1 _ _) (by rw [ev_6]; exact uN_shl _) (of_decide_eq_false ((wf_bi0 _).mp (by rw [← ez_2]; exact c_7))) (of_decide_eq_true ((wf_bi1 _).mp c_11))) (lv_sub hl [0, 3, 4, 1, 2, 6, 7, 8, 9, 10, 11, 12] rfl)
        · refine lv_lload hx hb d_X_storeQuotient_98 (lv_at hl 3 rfl) ?_
          refine lv_lload hx hb d_X_storeQuotient_100 (lv_at hl 9 rfl) ?_
          refine lv_lsub hx hb d_X_storeQuotient_102 ?_
          refine lv_lload hx hb d_X_storeQuotient_103 (lv_at hl 2 rfl) ?_
          refine lv_lload hx hb d_X_storeQuotient_105 (lv_at hl 10 rfl) ?_
          refine kX_one C hl.1 ⟨Nat.le_of_ble_eq_true rfl, Nat.le_of_ble_eq_true rfl⟩ (Nat.le_of_ble_eq_true rfl) ⟨Nat.le_of_ble_eq_true rfl, Nat.le_of_ble_eq_true rfl⟩ d_X_storeQuotient_107 ?_
          refine lv_lsub hx hb d_X_storeQuotient_110 ?_
          refine lv_topl (fun v_12 ev_12 => ?_)
          refine lv_lstore (lv' := [(15, .long (v_12)), (13, .long (v_6)), (11, .long (v_5)), (17, .long (v_4)), (20, .int (z_2)), (19, .int (nI i)), (0, .ref (q 0)), (1, .long (ah)), (3, .long (al)), (5, .long (bh)), (7, .long (bl)), (9, .int (nI o)), (10, .int (nI t))]) hx hb d_X_storeQuotient_111 hl (by decide) rfl (fun ls hl => ?_)
          refine lv_lload hx hb d_X_storeQuotient_113 (lv_at hl 3 rfl) ?_
          refine lv_lload hx hb d_X_storeQuotient_115 (lv_at hl 10 rfl) ?_
          refine lv_lsub hx hb d_X_storeQuotient_117 ?_
          refine lv_topl (fun v_13 ev_13 => ?_)
          refine lv_lstore (lv' := [(17, .long (v_13)), (15, .long (v_12)), (13, .long (v_6)), (11, .long (v_5)), (20, .int (z_2)), (19, .int (nI i)), (0, .ref (q 0)), (1, .long (ah)), (3, .long (al)), (5, .long (bh)), (7, .long (bl)), (9, .int (nI o)), (10, .int (nI t))]) hx hb d_X_storeQuotient_118 hl (by decide) rfl (fun ls hl => ?_)
          refine lv_lload hx hb d_X_storeQuotient_120 (lv_at hl 2 rfl) ?_
          refine lv_lconst (v := 1) hx hb d_X_storeQuotient_122 (by decide) ?_
          refine lv_lor hx hb d_X_storeQuotient_123 ?_
          refine lv_topl (fun v_14 ev_14 => ?_)
          refine lv_lstore (lv' := [(13, .long (v_14)), (17, .long (v_13)), (15, .long (v_12)), (11, .long (v_5)), (20, .int (z_2)), (19, .int (nI i)), (0, .ref (q 0)), (1, .long (ah)), (3, .long (al)), (5, .long (bh)), (7, .long (bl)), (9, .int (nI o)), (10, .int (nI t))]) hx hb d_X_storeQuotient_124 hl (by decide) rfl (fun ls hl => ?_)
          refine lv_iinc (v := nI (i + 1)) (lv' := [(19, .int (nI (i + 1))), (13, .long (v_14)), (17, .long (v_13)), (15, .long (v_12)), (11, .long (v_5)), (20, .int (z_2)), (0, .ref (q 0)), (1, .long (ah)), (3, .long (al)), (5, .long (bh)), (7, .long (bl)), (9, .int (nI o)), (10, .int (nI t))]) hx hb d_X_storeQuotient_126 hl (k := 5) rfl (nI_1 _) (by decide) rfl (fun ls hl => ?_)
          refine lv_goto (tgt := 15) hx hb d_X_storeQuotient_129 (by decide) ?_
          exact ih (2 * q1 + 1, v_5, v_14, v_12, v_13) ls (by
            show wf_DI (wf_V ah al) (wf_V bh bl) (i + 1) (2 * q1 + 1) (wf_V v_12 v_13) (wf_V v_5 v_14)
            rw [ev_12, ev_13, ev_14]
            exact wf_q_yes hi hI (by rw [ev_3]; exact wf_s1 _ _) (by rw [ev_4]; exact wf_s1 _ _) (by rw [ev_5]; exact wf_s1 _ _) (by rw [ev_6]; exact uN_shl _) (Or.inr (of_decide_eq_false ((wf_bi0 _).mp c_11)))) (lv_sub hl [0, 2, 3, 1, 4, 6, 7, 8, 9, 10, 11, 12] rfl)
    · refine lv_lload hx hb d_X_storeQuotient_23 (lv_at hl 2 rfl) ?_
      refine lv_lconst (v := 0) hx hb d_X_storeQuotient_25 (by decide) ?_
      refine W.lcmp hx hb d_X_storeQuotient_26 ?_
      refine lv_if_ge (tgt := 34) hx hb d_X_storeQuotient_27 (by decide) (fun c_15 => ?_) (fun c_15 => ?_)
      · refine lv_iconst (v := 0) hx hb d_X_storeQuotient_34 (by decide) ?_
        exact jn _ (by rw [decide_eq_false (by have h := c_15; rw [lg_cmp_ge, wf_neg] at h; exact h)]; rfl)
      · refine lv_iconst (v := 1) hx hb d_X_storeQuotient_30 (by decide) ?_
        refine lv_goto (tgt := 35) hx hb d_X_storeQuotient_31 (by decide) ?_
        exact jn _ (by rw [decide_eq_true (by have h := c_15; rw [lg_cmp_ge, wf_neg] at h; exact Decidable.not_not.mp h)]; rfl)
  · obtain ⟨q1, hh, hlo, fh, fl⟩ := x
    have hl : lv_has ls 21 [(19, .int (nI 128)), (17, .long (fl)), (15, .long (fh)), (13, .long (hlo)), (11, .long (hh)), (0, .ref (q 0)), (1, .long (ah)), (3, .long (al)), (5, .long (bh)), (7, .long (bl)), (9, .int (nI o)), (10, .int (nI t))] := hl
    have hI : wf_DI (wf_V ah al) (wf_V bh bl) 128 q1 (wf_V fh fl) (wf_V hh hlo) := hI
    refine lv_iload hx hb d_X_storeQuotient_15 (lv_at hl 0 rfl) ?_
    refine lv_sipush (v := 128) hx hb d_X_storeQuotient_17 (by decide) ?_
    refine lv_icmp_ge (tgt := 132) hx hb d_X_storeQuotient_20 (by decide) (fun c_16 => ?_) (fun c_16 => False.elim (by first | exact absurd (nI_le (Nat.le_refl 128) (by decide)) c_16 | exact absurd c_16 (nI_le (Nat.le_refl 128) (by decide))))
    refine lv_aload_n hx hb d_X_storeQuotient_132 rfl (lv_at hl 5 rfl) ?_
    refine lv_iload hx hb d_X_storeQuotient_133 (lv_at hl 10 rfl) ?_
    refine lv_lload hx hb d_X_storeQuotient_135 (lv_at hl 4 rfl) ?_
    refine lv_lload hx hb d_X_storeQuotient_137 (lv_at hl 3 rfl) ?_
    refine kX_store (r := o) ho C hl.1 ⟨Nat.le_of_ble_eq_true rfl, Nat.le_of_ble_eq_true rfl⟩ (Nat.le_of_ble_eq_true rfl) ⟨Nat.le_of_ble_eq_true rfl, Nat.le_of_ble_eq_true rfl⟩ hP hK hD hS hA d_X_storeQuotient_139 (fun u_17 H locs eu_17 hP hD hS => ?_)
    refine lv_aload_n hx hb d_X_storeQuotient_142 rfl (lv_at hl 5 rfl) ?_
    refine lv_iload hx hb d_X_storeQuotient_143 (lv_at hl 11 rfl) ?_
    refine lv_lload hx hb d_X_storeQuotient_145 (lv_at hl 2 rfl) ?_
    refine lv_lload hx hb d_X_storeQuotient_147 (lv_at hl 1 rfl) ?_
    refine kX_store (r := t) ht C hl.1 ⟨Nat.le_of_ble_eq_true rfl, Nat.le_of_ble_eq_true rfl⟩ (Nat.le_of_ble_eq_true rfl) ⟨Nat.le_of_ble_eq_true rfl, Nat.le_of_ble_eq_true rfl⟩ hP hK hD hS hA d_X_storeQuotient_149 (fun u_18 H locs eu_18 hP hD hS => ?_)
    exact wf_retv C hr hlocks u_18 (⟨u_17, ⟨_, _, eu_17, (wf_DI_end hI).1⟩, ⟨_, _, eu_18, (wf_DI_end hI).2⟩⟩) hP hK hD hS (fun _ h => h) d_X_storeQuotient_152

set_option maxHeartbeats 4000000 in
set_option maxRecDepth 100000 in
theorem kX_quotient {p : Program} {l : Launch} {e : Env} {R : Room} {s : State} {m : MethodId} {args : Array Value} {below : List Frame} {meth : Method} {c : Code} {H : Heap} {locs : List Loc} {cells slots : Nat} {Q : State → Prop} {cc : ByteArray} {pc nL : Nat} {ls : Array Slot} {rest : List Value} {D : va_G} {q : Nat → Nat} {κ : Nat → ClassId} {A : Nat → Prop} {u : SX} {ah al bh bl : Int64} {o : Nat} (ho : o < 8) {t : Nat} (ht : t < 8) (hb0 : 0 < wf_V bh bl) (C : CallFix p m c cc nL s args wG RX) (hsz : ls.size = nL) (hR : 4 ≤ R.frames ∧ 130 ≤ R.locals) (hw : (rest.map fun v => v.category).sum ≤ 8) (hc : cells + 0 ≤ R.cells ∧ slots + 0 ≤ R.slots) (hP : va_P D vwCl (wX q κ u) H) (hK : va_K D vwCl (tyX κ) s) (hD : va_D A (wX q κ u)) (hS : va_S A s.heap H locs) (hA : ∀ q, s.heap.size ≤ q → A q) (hdg : decode cc pc = .ok (.invokevirtual 58, 3)) (kk : ∀ (v : SX) (H1 : Heap) (locs1 : List Loc), (∃ w : SX, wf_st u w o (wf_V ah al / wf_V bh bl) ∧ wf_st w v t (wf_V ah al % wf_V bh bl)) → va_P D vwCl (wX q κ v) H1 → va_D A (wX q κ v) → va_S A s.heap H1 locs1 → W p l e R s m args below meth c H1 locs1 (cells) (slots) Q (F0 m (pc + 3) ls (rest))) : W p l e R s m args below meth c H locs cells slots Q (F0 m pc ls (.int (nI t) :: .int (nI o) :: .long bl :: .long bh :: .long al :: .long ah :: .ref (q 0) :: rest)) := by
  exact wf_cv (va_runV (As := [.long ah, .long al, .long bh, .long bl, .int (nI o), .int (nI t)]) (rest := rest) C (c_X_storeQuotient l D q κ u ah al bh bl o ho t ht hb0 H.size) (cwV 6 C.2.2.2.2 (wG_V (fun _ h => h) k_ml_X_58 k_im_X_storeQuotient k_se_X_storeQuotient k_in_X k_X_storeQuotient) rfl rfl rfl (by decide +kernel) ⟨hR.1, hR.2⟩) ⟨wf_blind, va_recv hK hP (ci := 0) (q0 := 0) rfl rfl, wf_pre hP hK hD⟩ rfl rfl hsz rfl (lv_room hw) hdg ⟨hc.1, hc.2⟩) (fun _ h => h) hS hD hA kk

set_option maxHeartbeats 4000000 in
set_option maxRecDepth 100000 in
/-- storeRoot -/
theorem c_X_storeRoot (l : Launch) (D : va_G) (q : Nat → Nat) (κ : Nat → ClassId) (u : SX) (ah al : Int64) (o : Nat) (ho : o < 8) (t : Nat) (ht : t < 8) (sz : Nat) : Met l y_X_storeRoot (.code y_X_storeRoot b_X_storeRoot 22 none :: wG) (wf_rm 3 90 0 0) (wf_Pc D vwCl (wX q κ u) (tyX κ) ([.ref (q 0), .long ah, .long al, .int (nI o), .int (nI t)]) sz) (va_Qv (fun v => (∃ (g r : Nat), (wf_V ah al = g * g + r ∧ r ≤ 2 * g ∧ g < 2 ^ 64) ∧ ∃ w : SX, wf_st u w o g ∧ wf_st w v t r)) (wf_B D vwCl (wX q κ) (tyX κ) (va_A (wX q κ u) sz)) (va_A (wX q κ u) sz)) 0 0 (va_A (wX q κ u) sz) := by
  refine wf_open (by decide) (Nat.le_of_ble_eq_true rfl) k_X_storeRoot ?_
  intro p e s m below meth c ls hsz C hr hlocks hnm hex hP hK hD hl
  subst hsz
  have hx := C.1
  have hb := C.2.1
  have hml := C.2.2.1
  have hown := C.2.2.2.1
  have hts := C.2.2.2.2
  have hA : ∀ j : Nat, s.heap.size ≤ j → va_A (wX q κ u) s.heap.size j := fun j h => Or.inr h
  have hS : va_S (va_A (wX q κ u) s.heap.size) s.heap s.heap [] := va_S.rf
  generalize hAe : va_A (wX q κ u) s.heap.size = A at hA hS hD ⊢
  have hl : lv_has ls 22 [(0, .ref (q 0)), (1, .long (ah)), (3, .long (al)), (5, .int (nI o)), (6, .int (nI t))] := hl
  refine lv_lload_n hx hb d_X_storeRoot_0 rfl (lv_at hl 1 rfl) ?_
  refine lv_lstore (lv' := [(7, .long (ah)), (0, .ref (q 0)), (1, .long (ah)), (3, .long (al)), (5, .int (nI o)), (6, .int (nI t))]) hx hb d_X_storeRoot_1 hl (by decide) rfl (fun ls hl => ?_)
  refine lv_lload_n hx hb d_X_storeRoot_3 rfl (lv_at hl 3 rfl) ?_
  refine lv_lstore (lv' := [(9, .long (al)), (7, .long (ah)), (0, .ref (q 0)), (1, .long (ah)), (3, .long (al)), (5, .int (nI o)), (6, .int (nI t))]) hx hb d_X_storeRoot_4 hl (by decide) rfl (fun ls hl => ?_)
  refine lv_lconst (v := 0) hx hb d_X_storeRoot_6 (by decide) ?_
  refine lv_lstore (lv' := [(11, .long (0)), (9, .long (al)), (7, .long (ah)), (0, .ref (q 0)), (1, .long (ah)), (3, .long (al)), (5, .int (nI o)), (6, .int (nI t))]) hx hb d_X_storeRoot_7 hl (by decide) rfl (fun ls hl => ?_)
  refine lv_lconst (v := 0) hx hb d_X_storeRoot_9 (by decide) ?_
  refine lv_lstore (lv' := [(13, .long (0)), (11, .long (0)), (9, .long (al)), (7, .long (ah)), (0, .ref (q 0)), (1, .long (ah)), (3, .long (al)), (5, .int (nI o)), (6, .int (nI t))]) hx hb d_X_storeRoot_10 hl (by decide) rfl (fun ls hl => ?_)
  refine lv_lconst (v := 0) hx hb d_X_storeRoot_12 (by decide) ?_
  refine lv_lstore (lv' := [(15, .long (0)), (13, .long (0)), (11, .long (0)), (9, .long (al)), (7, .long (ah)), (0, .ref (q 0)), (1, .long (ah)), (3, .long (al)), (5, .int (nI o)), (6, .int (nI t))]) hx hb d_X_storeRoot_13 hl (by decide) rfl (fun ls hl => ?_)
  refine lv_iconst (v := 0) hx hb d_X_storeRoot_15 (by decide) ?_
  refine lv_istore (lv' := [(17, .int (0)), (15, .long (0)), (13, .long (0)), (11, .long (0)), (9, .long (al)), (7, .long (ah)), (0, .ref (q 0)), (1, .long (ah)), (3, .long (al)), (5, .int (nI o)), (6, .int (nI t))]) hx hb d_X_storeRoot_16 hl (by decide) rfl (fun ls hl => ?_)
  refine wf_for (σ := Int64 × Int64 × Int64 × Int64 × Int64) 64 (fun i x => wf_RI (wf_V ah al) i (uN x.2.2.1) (wf_V x.2.2.2.1 x.2.2.2.2) (wf_V x.1 x.2.1)) (fun i x => [(17, .int (nI i)), (15, .long (x.2.2.2.2)), (13, .long (x.2.2.2.1)), (11, .long (x.2.2.1)), (9, .long (x.2.1)), (7, .long (x.1)), (0, .ref (q 0)), (1, .long (ah)), (3, .long (al)), (5, .int (nI o)), (6, .int (nI t))]) (fun i x ls hi hI hl ih => ?_) (fun x ls hI hl => ?_) (ah, al, 0, 0, 0) (by show wf_RI (wf_V ah al) 0 (uN 0) (wf_V 0 0) (wf_V ah al); rw [wf_V_0, show uN (0 : Int64) = 0 from by decide]; exact wf_RI_0 (by rw [wf_p128]; exact wf_V_lt _ _)) (lv_sub hl [0, 1, 2, 3, 4, 5, 6, 7, 8, 9, 10] rfl)
  · obtain ⟨hh, hlo, f, fh, fl⟩ := x
    have hl : lv_has ls 22 [(17, .int (nI i)), (15, .long (fl)), (13, .long (fh)), (11, .long (f)), (9, .long (hlo)), (7, .long (hh)), (0, .ref (q 0)), (1, .long (ah)), (3, .long (al)), (5, .int (nI o)), (6, .int (nI t))] := hl
    have hI : wf_RI (wf_V ah al) i (uN f) (wf_V fh fl) (wf_V hh hlo) := hI
    refine lv_iload hx hb d_X_storeRoot_18 (lv_at hl 0 rfl) ?_
    refine lv_bipush (v := 64) hx hb d_X_storeRoot_20 (by decide) ?_
    refine lv_icmp_ge (tgt := 136) hx hb d_X_storeRoot_22 (by decide) (fun c_1 => False.elim (by first | exact absurd c_1 (nI_ge hi (by decide)) | exact absurd (nI_ge hi (by decide)) c_1)) (fun c_1 => ?_)
    refine lv_lload hx hb d_X_storeRoot_25 (lv_at hl 2 rfl) ?_
    refine lv_iconst (v := 2) hx hb d_X_storeRoot_27 (by decide) ?_
    refine lv_lshl hx hb d_X_storeRoot_28 rfl ?_
    refine lv_lload hx hb d_X_storeRoot_29 (lv_at hl 1 rfl) ?_
    refine lv_bipush (v := 62) hx hb d_X_storeRoot_31 (by decide) ?_
    refine lv_lushr hx hb d_X_storeRoot_33 rfl ?_
    refine lv_lor hx hb d_X_storeRoot_34 ?_
    refine lv_topl (fun v_2 ev_2 => ?_)
    refine lv_lstore (lv' := [(13, .long (v_2)), (17, .int (nI i)), (15, .long (fl)), (11, .long (f)), (9, .long (hlo)), (7, .long (hh)), (0, .ref (q 0)), (1, .long (ah)), (3, .long (al)), (5, .int (nI o)), (6, .int (nI t))]) hx hb d_X_storeRoot_35 hl (by decide) rfl (fun ls hl => ?_)
    refine lv_lload hx hb d_X_storeRoot_37 (lv_at hl 2 rfl) ?_
    refine lv_iconst (v := 2) hx hb d_X_storeRoot_39 (by decide) ?_
    refine lv_lshl hx hb d_X_storeRoot_40 rfl ?_
    refine lv_lload hx hb d_X_storeRoot_41 (lv_at hl 5 rfl) ?_
    refine lv_bipush (v := 62) hx hb d_X_storeRoot_43 (by decide) ?_
    refine lv_lushr hx hb d_X_storeRoot_45 rfl ?_
    refine lv_lor hx hb d_X_storeRoot_46 ?_
    refine lv_topl (fun v_3 ev_3 => ?_)
    refine lv_lstore (lv' := [(15, .long (v_3)), (13, .long (v_2)), (17, .int (nI i)), (11, .long (f)), (9, .long (hlo)), (7, .long (hh)), (0, .ref (q 0)), (1, .long (ah)), (3, .long (al)), (5, .int (nI o)), (6, .int (nI t))]) hx hb d_X_storeRoot_47 hl (by decide) rfl (fun ls hl => ?_)
    refine lv_lload hx hb d_X_storeRoot_49 (lv_at hl 5 rfl) ?_
    refine lv_iconst (v := 2) hx hb d_X_storeRoot_51 (by decide) ?_
    refine lv_lshl hx hb d_X_storeRoot_52 rfl ?_
    refine lv_lload hx hb d_X_storeRoot_53 (lv_at hl 4 rfl) ?_
    refine lv_bipush (v := 62) hx hb d_X_storeRoot_55 (by decide) ?_
    refine lv_lushr hx hb d_X_storeRoot_57 rfl ?_
    refine lv_lor hx hb d_X_storeRoot_58 ?_
    refine lv_topl (fun v_4 ev_4 => ?_)
    refine lv_lstore (lv' := [(7, .long (v_4)), (15, .long (v_3)), (13, .long (v_2)), (17, .int (nI i)), (11, .long (f)), (9, .long (hlo)), (0, .ref (q 0)), (1, .long (ah)), (3, .long (al)), (5, .int (nI o)), (6, .int (nI t))]) hx hb d_X_storeRoot_59 hl (by decide) rfl (fun ls hl => ?_)
    refine lv_lload hx hb d_X_storeRoot_61 (lv_at hl 5 rfl) ?_
    refine lv_iconst (v := 2) hx hb d_X_storeRoot_63 (by decide) ?_
    refine lv_lshl hx hb d_X_storeRoot_64 rfl ?_
    refine lv_topl (fun v_5 ev_5 => ?_)
    refine lv_lstore (lv' := [(9, .long (v_5)), (7, .long (v_4)), (15, .long (v_3)), (13, .long (v_2)), (17, .int (nI i)), (11, .long (f)), (0, .ref (q 0)), (1, .long (ah)), (3, .long (al)), (5, .int (nI o)), (6, .int (nI t))]) hx hb d_X_storeRoot_65 hl (by decide) rfl (fun ls hl => ?_)
    refine lv_lload hx hb d_X_storeRoot_67 (lv_at hl 5 rfl) ?_
    refine lv_bipush (v := 62) hx hb d_X_storeRoot_69 (by decide) ?_
    refine lv_lushr hx hb d_X_storeRoot_71 rfl ?_
    refine lv_topl (fun v_6 ev_6 => ?_)
    refine lv_lstore (lv' := [(18, .long (v_6)), (9, .long (v_5)), (7, .long (v_4)), (15, .long (v_3)), (13, .long (v_2)), (17, .int (nI i)), (11, .long (f)), (0, .ref (q 0)), (1, .long (ah)), (3, .long (al)), (5, .int (nI o)), (6, .int (nI t))]) hx hb d_X_storeRoot_72 hl (by decide) rfl (fun ls hl => ?_)
    refine lv_lload hx hb d_X_storeRoot_74 (lv_at hl 6 rfl) ?_
    refine lv_iconst (v := 2) hx hb d_X_storeRoot_76 (by decide) ?_
    refine lv_lshl hx hb d_X_storeRoot_77 rfl ?_
    refine lv_lconst (v := 1) hx hb d_X_storeRoot_78 (by decide) ?_
    refine lv_lor hx hb d_X_storeRoot_79 ?_
    refine lv_topl (fun v_7 ev_7 => ?_)
    refine lv_lstore (lv' := [(20, .long (v_7)), (18, .long (v_6)), (9, .long (v_5)), (7, .long (v_4)), (15, .long (v_3)), (13, .long (v_2)), (17, .int (nI i)), (11, .long (f)), (0, .ref (q 0)), (1, .long (ah)), (3, .long (al)), (5, .int (nI o)), (6, .int (nI t))]) hx hb d_X_storeRoot_80 hl (by decide) rfl (fun ls hl => ?_)
    refine lv_lload hx hb d_X_storeRoot_82 (lv_at hl 7 rfl) ?_
    refine lv_iconst (v := 1) hx hb d_X_storeRoot_84 (by decide) ?_
    refine lv_lshl hx hb d_X_storeRoot_85 rfl ?_
    refine lv_topl (fun v_8 ev_8 => ?_)
    refine lv_lstore (lv' := [(11, .long (v_8)), (20, .long (v_7)), (18, .long (v_6)), (9, .long (v_5)), (7, .long (v_4)), (15, .long (v_3)), (13, .long (v_2)), (17, .int (nI i)), (0, .ref (q 0)), (1, .long (ah)), (3, .long (al)), (5, .int (nI o)), (6, .int (nI t))]) hx hb d_X_storeRoot_86 hl (by decide) rfl (fun ls hl => ?_)
    refine lv_lload hx hb d_X_storeRoot_88 (lv_at hl 6 rfl) ?_
    refine lv_lload hx hb d_X_storeRoot_90 (lv_at hl 5 rfl) ?_
    refine lv_lload hx hb d_X_storeRoot_92 (lv_at hl 2 rfl) ?_
    refine lv_lload hx hb d_X_storeRoot_94 (lv_at hl 1 rfl) ?_
    refine kX_below C hl.1 ⟨Nat.le_of_ble_eq_true rfl, Nat.le_of_ble_eq_true rfl⟩ (Nat.le_of_ble_eq_true rfl) ⟨Nat.le_of_ble_eq_true rfl, Nat.le_of_ble_eq_true rfl⟩ d_X_storeRoot_96 ?_
    refine lv_if_ne (tgt := 130) hx hb d_X_storeRoot_99 (by decide) (fun c_9 => ?_) (fun c_9 => ?_)
    · refine lv_iinc (v := nI (i + 1)) (lv' := [(17, .int (nI (i + 1))), (11, .long (v_8)), (20, .long (v_7)), (18, .long (v_6)), (9, .long (v_5)), (7, .long (v_4)), (15, .long (v_3)), (13, .long (v_2)), (0, .ref (q 0)), (1, .long (ah)), (3, .long (al)), (5, .int (nI o)), (6, .int (nI t))]) hx hb d_X_storeRoot_130 hl (k := 7) rfl (nI_1 _) (by decide) rfl (fun ls hl => ?_)
      refine lv_goto (tgt := 18) hx hb d_X_storeRoot_133 (by decide) ?_
      exact ih (v_4, v_5, v_8, v_2, v_3) ls (by
        show wf_RI (wf_V ah al) (i + 1) (uN v_8) (wf_V v_2 v_3) (wf_V v_4 v_5)
        exact wf_r_no hi hI (by rw [ev_2]; exact wf_s2 _ _) (by rw [ev_3]; exact wf_s2 _ _) (by rw [ev_4]; exact wf_s2 _ _) (by rw [ev_5]; exact wf_sh2 _) (by rw [ev_6]; exact wf_u62 _) (by rw [ev_7, wf_or1 _ (a := 2 * (uN f % 4611686018427387904)) (by rw [wf_sh2]; omega), wf_sh2]) (by rw [ev_8]; exact uN_shl _) (of_decide_eq_true ((wf_bi1 _).mp c_9))) (lv_sub hl [0, 6, 7, 1, 4, 5, 8, 9, 10, 11, 12] rfl)
    · refine lv_lload hx hb d_X_storeRoot_102 (lv_at hl 6 rfl) ?_
      refine lv_lload hx hb d_X_storeRoot_104 (lv_at hl 2 rfl) ?_
      refine lv_lsub hx hb d_X_storeRoot_106 ?_
      refine lv_lload hx hb d_X_storeRoot_107 (lv_at hl 5 rfl) ?_
      refine lv_lload hx hb d_X_storeRoot_109 (lv_at hl 1 rfl) ?_
      refine kX_one C hl.1 ⟨Nat.le_of_ble_eq_true rfl, Nat.le_of_ble_eq_true rfl⟩ (Nat.le_of_ble_eq_true rfl) ⟨Nat.le_of_ble_eq_true rfl, Nat.le_of_ble_eq_true rfl⟩ d_X_storeRoot_111 ?_
      refine lv_lsub hx hb d_X_storeRoot_114 ?_
      refine lv_topl (fun v_10 ev_10 => ?_)
      refine lv_lstore (lv' := [(13, .long (v_10)), (11, .long (v_8)), (20, .long (v_7)), (18, .long (v_6)), (9, .long (v_5)), (7, .long (v_4)), (15, .long (v_3)), (17, .int (nI i)), (0, .ref (q 0)), (1, .long (ah)), (3, .long (al)), (5, .int (nI o)), (6, .int (nI t))]) hx hb d_X_storeRoot_115 hl (by decide) rfl (fun ls hl => ?_)
      refine lv_lload hx hb d_X_storeRoot_117 (lv_at hl 6 rfl) ?_
      refine lv_lload hx hb d_X_storeRoot_119 (lv_at hl 2 rfl) ?_
      refine lv_lsub hx hb d_X_storeRoot_121 ?_
      refine lv_topl (fun v_11 ev_11 => ?_)
      refine lv_lstore (lv' := [(15, .long (v_11)), (13, .long (v_10)), (11, .long (v_8)), (20, .long (v_7)), (18, .long (v_6)), (9, .long (v_5)), (7, .long (v_4)), (17, .int (nI i)), (0, .ref (q 0)), (1, .long (ah)), (3, .long (al)), (5, .int (nI o)), (6, .int (nI t))]) hx hb d_X_storeRoot_122 hl (by decide) rfl (fun ls hl => ?_)
      refine lv_lload hx hb d_X_storeRoot_124 (lv_at hl 2 rfl) ?_
      refine lv_lconst (v := 1) hx hb d_X_storeRoot_126 (by decide) ?_
      refine lv_lor hx hb d_X_storeRoot_127 ?_
      refine lv_topl (fun v_12 ev_12 => ?_)
      refine lv_lstore (lv' := [(11, .long (v_12)), (15, .long (v_11)), (13, .long (v_10)), (20, .long (v_7)), (18, .long (v_6)), (9, .long (v_5)), (7, .long (v_4)), (17, .int (nI i)), (0, .ref (q 0)), (1, .long (ah)), (3, .long (al)), (5, .int (nI o)), (6, .int (nI t))]) hx hb d_X_storeRoot_128 hl (by decide) rfl (fun ls hl => ?_)
      refine lv_iinc (v := nI (i + 1)) (lv' := [(17, .int (nI (i + 1))), (11, .long (v_12)), (15, .long (v_11)), (13, .long (v_10)), (20, .long (v_7)), (18, .long (v_6)), (9, .long (v_5)), (7, .long (v_4)), (0, .ref (q 0)), (1, .long (ah)), (3, .long (al)), (5, .int (nI o)), (6, .int (nI t))]) hx hb d_X_storeRoot_130 hl (k := 7) rfl (nI_1 _) (by decide) rfl (fun ls hl => ?_)
      refine lv_goto (tgt := 18) hx hb d_X_storeRoot_133 (by decide) ?_
      exact ih (v_4, v_5, v_12, v_10, v_11) ls (by
        show wf_RI (wf_V ah al) (i + 1) (uN v_12) (wf_V v_10 v_11) (wf_V v_4 v_5)
        rw [ev_12, ev_10, ev_11]
        exact wf_r_yes hi hI (by rw [ev_2]; exact wf_s2 _ _) (by rw [ev_3]; exact wf_s2 _ _) (by rw [ev_4]; exact wf_s2 _ _) (by rw [ev_5]; exact wf_sh2 _) (by rw [ev_6]; exact wf_u62 _) (by rw [ev_7, wf_or1 _ (a := 2 * (uN f % 4611686018427387904)) (by rw [wf_sh2]; omega), wf_sh2]) (by rw [ev_8]; exact uN_shl _) (of_decide_eq_false ((wf_bi0 _).mp c_9))) (lv_sub hl [0, 2, 3, 1, 6, 7, 8, 9, 10, 11, 12] rfl)
  · obtain ⟨hh, hlo, f, fh, fl⟩ := x
    have hl : lv_has ls 22 [(17, .int (nI 64)), (15, .long (fl)), (13, .long (fh)), (11, .long (f)), (9, .long (hlo)), (7, .long (hh)), (0, .ref (q 0)), (1, .long (ah)), (3, .long (al)), (5, .int (nI o)), (6, .int (nI t))] := hl
    have hI : wf_RI (wf_V ah al) 64 (uN f) (wf_V fh fl) (wf_V hh hlo) := hI
    refine lv_iload hx hb d_X_storeRoot_18 (lv_at hl 0 rfl) ?_
    refine lv_bipush (v := 64) hx hb d_X_storeRoot_20 (by decide) ?_
    refine lv_icmp_ge (tgt := 136) hx hb d_X_storeRoot_22 (by decide) (fun c_13 => ?_) (fun c_13 => False.elim (by first | exact absurd (nI_le (Nat.le_refl 64) (by decide)) c_13 | exact absurd c_13 (nI_le (Nat.le_refl 64) (by decide))))
    refine lv_aload_n hx hb d_X_storeRoot_136 rfl (lv_at hl 6 rfl) ?_
    refine lv_iload hx hb d_X_storeRoot_137 (lv_at hl 9 rfl) ?_
    refine lv_lconst (v := 0) hx hb d_X_storeRoot_139 (by decide) ?_
    refine lv_lload hx hb d_X_storeRoot_140 (lv_at hl 3 rfl) ?_
    refine kX_store (r := o) ho C hl.1 ⟨Nat.le_of_ble_eq_true rfl, Nat.le_of_ble_eq_true rfl⟩ (Nat.le_of_ble_eq_true rfl) ⟨Nat.le_of_ble_eq_true rfl, Nat.le_of_ble_eq_true rfl⟩ hP hK hD hS hA d_X_storeRoot_142 (fun u_14 H locs eu_14 hP hD hS => ?_)
    refine lv_aload_n hx hb d_X_storeRoot_145 rfl (lv_at hl 6 rfl) ?_
    refine lv_iload hx hb d_X_storeRoot_146 (lv_at hl 10 rfl) ?_
    refine lv_lload hx hb d_X_storeRoot_148 (lv_at hl 2 rfl) ?_
    refine lv_lload hx hb d_X_storeRoot_150 (lv_at hl 1 rfl) ?_
    refine kX_store (r := t) ht C hl.1 ⟨Nat.le_of_ble_eq_true rfl, Nat.le_of_ble_eq_true rfl⟩ (Nat.le_of_ble_eq_true rfl) ⟨Nat.le_of_ble_eq_true rfl, Nat.le_of_ble_eq_true rfl⟩ hP hK hD hS hA d_X_storeRoot_152 (fun u_15 H locs eu_15 hP hD hS => ?_)
    exact wf_retv C hr hlocks u_15 (⟨uN f, wf_V fh fl, wf_RI_end hI, u_14, ⟨_, _, eu_14, by show uN (0 : Int64) * _ + uN f = uN f; rw [show uN (0 : Int64) = 0 from by decide, Nat.zero_mul, Nat.zero_add]⟩, ⟨_, _, eu_15, rfl⟩⟩) hP hK hD hS (fun _ h => h) d_X_storeRoot_155

set_option maxHeartbeats 4000000 in
set_option maxRecDepth 100000 in
theorem kX_root {p : Program} {l : Launch} {e : Env} {R : Room} {s : State} {m : MethodId} {args : Array Value} {below : List Frame} {meth : Method} {c : Code} {H : Heap} {locs : List Loc} {cells slots : Nat} {Q : State → Prop} {cc : ByteArray} {pc nL : Nat} {ls : Array Slot} {rest : List Value} {D : va_G} {q : Nat → Nat} {κ : Nat → ClassId} {A : Nat → Prop} {u : SX} {ah al : Int64} {o : Nat} (ho : o < 8) {t : Nat} (ht : t < 8) (C : CallFix p m c cc nL s args wG RX) (hsz : ls.size = nL) (hR : 4 ≤ R.frames ∧ 131 ≤ R.locals) (hw : (rest.map fun v => v.category).sum ≤ 8) (hc : cells + 0 ≤ R.cells ∧ slots + 0 ≤ R.slots) (hP : va_P D vwCl (wX q κ u) H) (hK : va_K D vwCl (tyX κ) s) (hD : va_D A (wX q κ u)) (hS : va_S A s.heap H locs) (hA : ∀ q, s.heap.size ≤ q → A q) (hdg : decode cc pc = .ok (.invokevirtual 61, 3)) (kk : ∀ (v : SX) (H1 : Heap) (locs1 : List Loc), (∃ (g r : Nat), (wf_V ah al = g * g + r ∧ r ≤ 2 * g ∧ g < 2 ^ 64) ∧ ∃ w : SX, wf_st u w o g ∧ wf_st w v t r) → va_P D vwCl (wX q κ v) H1 → va_D A (wX q κ v) → va_S A s.heap H1 locs1 → W p l e R s m args below meth c H1 locs1 (cells) (slots) Q (F0 m (pc + 3) ls (rest))) : W p l e R s m args below meth c H locs cells slots Q (F0 m pc ls (.int (nI t) :: .int (nI o) :: .long al :: .long ah :: .ref (q 0) :: rest)) := by
  exact wf_cv (va_runV (As := [.long ah, .long al, .int (nI o), .int (nI t)]) (rest := rest) C (c_X_storeRoot l D q κ u ah al o ho t ht H.size) (cwV 4 C.2.2.2.2 (wG_V (fun _ h => h) k_ml_X_61 k_im_X_storeRoot k_se_X_storeRoot k_in_X k_X_storeRoot) rfl rfl rfl (by decide +kernel) ⟨hR.1, hR.2⟩) ⟨wf_blind, va_recv hK hP (ci := 0) (q0 := 0) rfl rfl, wf_pre hP hK hD⟩ rfl rfl hsz rfl (lv_room hw) hdg ⟨hc.1, hc.2⟩) (fun _ h => h) hS hD hA kk
