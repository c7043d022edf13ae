/-! ===== the reference: move, shift, jam, next, digits ===== -/

set_option maxHeartbeats 4000000 in
set_option maxRecDepth 100000 in
/-- M_move -/
theorem c_M_move (l : Launch) (D : va_G) (q : Nat → Nat) (κ : Nat → ClassId) (u : SM) (ra : Nat) (hra : ra < 8) (N : Int64) (n : Int) (hN : N.toInt = n) (hn1 : -2147483648 ≤ n) (hn2 : n ≤ 2147483648) (rt : Nat) (hrt : rt < 8) (sz : Nat) : Met l y_M_move (.code y_M_move b_M_move 9 (some .boolean) :: wG) (wf_rm 1 60 0 0) (wf_Pc D vwCl (wM q κ u) (tyM κ) ([.ref (q 0), .int (nI ra), .long N, .int (nI rt)]) sz) (va_Qi (fun r v => ∃ (b : Bool) (A_ : Nat → Bool), r = wf_bi b ∧ wf_MV (fun k => u.2.1 (128 * ra + k)) n b A_ ∧ v = (u.1, va_cpy A_ u.2.1 0 (128 * rt) 128, u.2.2.1, A_, u.2.2.2.2)) (wf_B D vwCl (wM q κ) (tyM κ) (va_A (wM q κ u) sz)) (va_A (wM q κ u) sz)) 0 0 (va_A (wM q κ u) sz) := by
  refine wf_open (by decide) (Nat.le_of_ble_eq_true rfl) k_M_move ?_
  intro p e s m below meth c ls hsz C hr hlocks hnm hex hP hK hD hl
  subst hsz
  have hx := C.1
  have hb := C.2.1
  have hml := C.2.2.1
  have hown := C.2.2.2.1
  have hts := C.2.2.2.2
  have hA : ∀ j : Nat, s.heap.size ≤ j → va_A (wM q κ u) s.heap.size j := fun j h => Or.inr h
  have hS : va_S (va_A (wM q κ u) s.heap.size) s.heap s.heap [] := va_S.rf
  generalize hAe : va_A (wM q κ u) s.heap.size = A at hA hS hD ⊢
  have hl : lv_has ls 9 [(0, .ref (q 0)), (1, .int (nI ra)), (2, .long (N)), (4, .int (nI rt))] := hl
  refine lv_iconst (v := 0) hx hb d_M_move_0 (by decide) ?_
  refine lv_istore (lv' := [(5, .int (0)), (0, .ref (q 0)), (1, .int (nI ra)), (2, .long (N)), (4, .int (nI rt))]) hx hb d_M_move_1 hl (by decide) rfl (fun ls hl => ?_)
  refine lv_iconst (v := 0) hx hb d_M_move_3 (by decide) ?_
  refine lv_istore (lv' := [(6, .int (0)), (5, .int (0)), (0, .ref (q 0)), (1, .int (nI ra)), (2, .long (N)), (4, .int (nI rt))]) hx hb d_M_move_4 hl (by decide) rfl (fun ls hl => ?_)
  refine wf_forH (σ := SM × Bool) 128 (fun i x => x.1 = (u.1, u.2.1, u.2.2.1, va_cpy (fun _ => false) u.2.2.2.1 0 0 i, u.2.2.2.2) ∧ wf_LS (fun k => u.2.1 (128 * ra + k)) n i x.2) (fun x => wM q κ x.1) (fun i x => [(6, .int (nI i)), (5, .int (wf_bi x.2)), (0, .ref (q 0)), (1, .int (nI ra)), (2, .long (N)), (4, .int (nI rt))]) (fun i x H locs ls hi hI hP hD hS hl ih => ?_) (fun x H locs ls hI hP hD hS hl => ?_) (u, false) (⟨by rw [wf_cpy0], wf_LS_0 _ _⟩) hP hD hS (lv_sub hl [0, 1, 2, 3, 4, 5] rfl)
  · obtain ⟨w0, lo⟩ := x
    have hP : va_P D vwCl (wM q κ w0) H := hP
    have hD : va_D A (wM q κ w0) := hD
    have hl : lv_has ls 9 [(6, .int (nI i)), (5, .int (wf_bi lo)), (0, .ref (q 0)), (1, .int (nI ra)), (2, .long (N)), (4, .int (nI rt))] := hl
    have hI : w0 = (u.1, u.2.1, u.2.2.1, va_cpy (fun _ => false) u.2.2.2.1 0 0 i, u.2.2.2.2) ∧ wf_LS (fun k => u.2.1 (128 * ra + k)) n i lo := hI
    refine lv_iload hx hb d_M_move_6 (lv_at hl 0 rfl) ?_
    refine lv_sipush (v := 128) hx hb d_M_move_8 (by decide) ?_
    refine lv_icmp_ge (tgt := 79) hx hb d_M_move_11 (by decide) (fun c_1 => False.elim (by first | exact absurd c_1 (nI_ge hi (by decide)) | exact absurd (nI_ge hi (by decide)) c_1)) (fun c_1 => ?_)
    refine lv_iload hx hb d_M_move_14 (lv_at hl 0 rfl) ?_
    refine lv_i2l hx hb d_M_move_16 rfl ?_
    refine lv_lload_n hx hb d_M_move_17 rfl (lv_at hl 4 rfl) ?_
    refine lv_ladd hx hb d_M_move_18 ?_
    refine lv_topl (fun v_2 ev_2 => ?_)
    refine lv_lstore (lv' := [(7, .long (v_2)), (6, .int (nI i)), (5, .int (wf_bi lo)), (0, .ref (q 0)), (1, .int (nI ra)), (2, .long (N)), (4, .int (nI rt))]) hx hb d_M_move_19 hl (by decide) rfl (fun ls hl => ?_)
    have hat := wf_at hi hN hn1 hn2 ev_2
    refine lv_aload_n hx hb d_M_move_21 rfl (lv_at hl 3 rfl) ?_
    refine gM C hK hP 0 rfl 3 (by decide) k_fl_M_answer rfl d_M_move_22 ?_
    refine lv_iload hx hb d_M_move_25 (lv_at hl 1 rfl) ?_
    refine lv_iconst (v := 0) hx hb d_M_move_27 (by decide) ?_
    refine wf_zast C hK hP hD hS 3 2 rfl rfl (k := i) (b := false) rfl (by omega) (by decide) d_M_move_28 (fun H locs hP hD hS => ?_)
    have hP : va_P D vwCl (wM q κ (w0.1, w0.2.1, w0.2.2.1, va_up w0.2.2.2.1 i false, w0.2.2.2.2)) H := hP
    have hD : va_D A (wM q κ (w0.1, w0.2.1, w0.2.2.1, va_up w0.2.2.2.1 i false, w0.2.2.2.2)) := hD
    generalize eu_3 : ((w0.1, w0.2.1, w0.2.2.1, va_up w0.2.2.2.1 i false, w0.2.2.2.2) : SM) = u_3 at hP hD
    refine lv_iload hx hb d_M_move_29 (lv_at hl 2 rfl) ?_
    obtain ⟨y1, hy1⟩ : ∃ b : Bool, b = u_3.2.1 (128 * ra + i) := ⟨_, rfl⟩
    refine wf_cutI (pcj := 71) (ls := ls) (rest := []) (fun z => z = wf_bi (lo || (y1 && (decide ((i : Int) + n < 0) || !decide ((i : Int) + n < 128))))) (fun z_4 ez_4 => ?_) (fun jn => ?_)
    · subst ez_4
      refine lv_istore (lv' := [(5, .int (wf_bi (lo || (y1 && (decide ((i : Int) + n < 0) || !decide ((i : Int) + n < 128)))))), (7, .long (v_2)), (6, .int (nI i)), (0, .ref (q 0)), (1, .int (nI ra)), (2, .long (N)), (4, .int (nI rt))]) hx hb d_M_move_71 hl (by decide) rfl (fun ls hl => ?_)
      refine lv_iinc (v := nI (i + 1)) (lv' := [(6, .int (nI (i + 1))), (5, .int (wf_bi (lo || (y1 && (decide ((i : Int) + n < 0) || !decide ((i : Int) + n < 128)))))), (7, .long (v_2)), (0, .ref (q 0)), (1, .int (nI ra)), (2, .long (N)), (4, .int (nI rt))]) hx hb d_M_move_73 hl (k := 2) rfl (nI_1 _) (by decide) rfl (fun ls hl => ?_)
      refine lv_goto (tgt := 6) hx hb d_M_move_76 (by decide) ?_
      exact ih (u_3, _) H locs ls ⟨by rw [← eu_3, hI.1]; exact congrArg (fun z => (u.1, u.2.1, u.2.2.1, z, u.2.2.2.2)) (wf_cpyZ _ _), wf_LS_S hI.2 (hy1.trans (by rw [← eu_3, hI.1]))⟩ hP hD hS (lv_sub hl [0, 1, 3, 4, 5, 6] rfl)
    · refine lv_if_ne (tgt := 66) hx hb d_M_move_31 (by decide) (fun c_5 => ?_) (fun c_5 => ?_)
      · refine lv_iconst (v := 1) hx hb d_M_move_66 (by decide) ?_
        refine lv_goto (tgt := 71) hx hb d_M_move_67 (by decide) ?_
        exact jn _ (by revert c_5; cases lo <;> cases y1 <;> cases (decide ((i : Int) + n < 0)) <;> cases (decide ((i : Int) + n < 128)) <;> decide)
      · refine lv_aload_n hx hb d_M_move_34 rfl (lv_at hl 3 rfl) ?_
        refine gM C hK hP 0 rfl 1 (by decide) k_fl_M_bits rfl d_M_move_35 ?_
        refine lv_sipush (v := 128) hx hb d_M_move_38 (by decide) ?_
        refine lv_iload_n hx hb d_M_move_41 rfl (lv_at hl 4 rfl) ?_
        refine lv_imul hx hb d_M_move_42 ?_
        refine lv_iload hx hb d_M_move_43 (lv_at hl 1 rfl) ?_
        refine lv_iadd hx hb d_M_move_45 ?_
        refine wf_zald C hK hP 1 0 rfl rfl (k := 128 * ra + i) (wf_ia (x := 128 * ra) (y := i) (wf_im (x := 128) (y := ra) rfl rfl) rfl) (by omega) (by decide) d_M_move_46 ?_
        rw [← hy1]
        refine lv_if_eq (tgt := 70) hx hb d_M_move_47 (by decide) (fun c_6 => ?_) (fun c_6 => ?_)
        · refine lv_iconst (v := 0) hx hb d_M_move_70 (by decide) ?_
          exact jn _ (by revert c_5 c_6; cases lo <;> cases y1 <;> cases (decide ((i : Int) + n < 0)) <;> cases (decide ((i : Int) + n < 128)) <;> decide)
        · refine lv_lload hx hb d_M_move_50 (lv_at hl 0 rfl) ?_
          refine lv_lconst (v := 0) hx hb d_M_move_52 (by decide) ?_
          refine W.lcmp hx hb d_M_move_53 ?_
          refine lv_if_lt (tgt := 66) hx hb d_M_move_54 (by decide) (fun c_7 => ?_) (fun c_7 => ?_)
          · have d_8 : decide ((i : Int) + n < 0) = true := decide_eq_true ((wf_v0 hat).mp ((lg_cmp_lt _ _).mp c_7))
            refine lv_iconst (v := 1) hx hb d_M_move_66 (by decide) ?_
            refine lv_goto (tgt := 71) hx hb d_M_move_67 (by decide) ?_
            exact jn _ (by revert c_5 c_6 d_8; cases lo <;> cases y1 <;> cases (decide ((i : Int) + n < 0)) <;> cases (decide ((i : Int) + n < 128)) <;> decide)
          · have d_8 : decide ((i : Int) + n < 0) = false := decide_eq_false (fun h => c_7 ((lg_cmp_lt _ _).mpr ((wf_v0 hat).mpr h)))
            refine lv_lload hx hb d_M_move_57 (lv_at hl 0 rfl) ?_
            refine lv_ldc2 (v := 128) hx hb hown (hts _ (k_cl_M_65)) d_M_move_59 ?_
            refine W.lcmp hx hb d_M_move_62 ?_
            refine lv_if_lt (tgt := 70) hx hb d_M_move_63 (by decide) (fun c_9 => ?_) (fun c_9 => ?_)
            · have d_10 : decide ((i : Int) + n < 128) = true := decide_eq_true ((wf_v128 hat).mp ((lg_cmp_lt _ _).mp c_9))
              refine lv_iconst (v := 0) hx hb d_M_move_70 (by decide) ?_
              exact jn _ (by revert c_5 c_6 d_8 d_10; cases lo <;> cases y1 <;> cases (decide ((i : Int) + n < 0)) <;> cases (decide ((i : Int) + n < 128)) <;> decide)
            · have d_10 : decide ((i : Int) + n < 128) = false := decide_eq_false (fun h => c_9 ((lg_cmp_lt _ _).mpr ((wf_v128 hat).mpr h)))
              refine lv_iconst (v := 1) hx hb d_M_move_66 (by decide) ?_
              refine lv_goto (tgt := 71) hx hb d_M_move_67 (by decide) ?_
              exact jn _ (by revert c_5 c_6 d_8 d_10; cases lo <;> cases y1 <;> cases (decide ((i : Int) + n < 0)) <;> cases (decide ((i : Int) + n < 128)) <;> decide)
  · obtain ⟨w0, lo⟩ := x
    have hP : va_P D vwCl (wM q κ w0) H := hP
    have hD : va_D A (wM q κ w0) := hD
    have hl : lv_has ls 9 [(6, .int (nI 128)), (5, .int (wf_bi lo)), (0, .ref (q 0)), (1, .int (nI ra)), (2, .long (N)), (4, .int (nI rt))] := hl
    have hI : w0 = (u.1, u.2.1, u.2.2.1, va_cpy (fun _ => false) u.2.2.2.1 0 0 128, u.2.2.2.2) ∧ wf_LS (fun k => u.2.1 (128 * ra + k)) n 128 lo := hI
    refine lv_iload hx hb d_M_move_6 (lv_at hl 0 rfl) ?_
    refine lv_sipush (v := 128) hx hb d_M_move_8 (by decide) ?_
    refine lv_icmp_ge (tgt := 79) hx hb d_M_move_11 (by decide) (fun c_11 => ?_) (fun c_11 => False.elim (by first | exact absurd (nI_le (Nat.le_refl 128) (by decide)) c_11 | exact absurd c_11 (nI_le (Nat.le_refl 128) (by decide))))
    have hLo := hI.2
    refine lv_iconst (v := 0) hx hb d_M_move_79 (by decide) ?_
    refine lv_istore (lv' := [(6, .int (0)), (5, .int (wf_bi lo)), (0, .ref (q 0)), (1, .int (nI ra)), (2, .long (N)), (4, .int (nI rt))]) hx hb d_M_move_80 hl (by decide) rfl (fun ls hl => ?_)
    refine wf_forH (σ := SM) 128 (fun i x => x = (u.1, u.2.1, u.2.2.1, x.2.2.2.1, u.2.2.2.2) ∧ ∀ j, j < 128 → x.2.2.2.1 j = wf_mv (fun k => u.2.1 (128 * ra + k)) n i j) (fun x => wM q κ x) (fun i x => [(6, .int (nI i)), (5, .int (wf_bi lo)), (0, .ref (q 0)), (1, .int (nI ra)), (2, .long (N)), (4, .int (nI rt))]) (fun i x H locs ls hi hI hP hD hS hl ih => ?_) (fun x H locs ls hI hP hD hS hl => ?_) w0 (⟨by rw [hI.1], fun j hj => by rw [hI.1]; show va_cpy (fun _ => false) u.2.2.2.1 0 0 128 j = _; rw [wf_cpyZ_in hj]; unfold wf_mv; rw [decide_eq_false (by omega)]; rfl⟩) hP hD hS (lv_sub hl [0, 1, 2, 3, 4, 5] rfl)
    · have hP : va_P D vwCl (wM q κ x) H := hP
      have hD : va_D A (wM q κ x) := hD
      have hl : lv_has ls 9 [(6, .int (nI i)), (5, .int (wf_bi lo)), (0, .ref (q 0)), (1, .int (nI ra)), (2, .long (N)), (4, .int (nI rt))] := hl
      have hI : x = (u.1, u.2.1, u.2.2.1, x.2.2.2.1, u.2.2.2.2) ∧ ∀ j, j < 128 → x.2.2.2.1 j = wf_mv (fun k => u.2.1 (128 * ra + k)) n i j := hI
      refine lv_iload hx hb d_M_move_82 (lv_at hl 0 rfl) ?_
      refine lv_sipush (v := 128) hx hb d_M_move_84 (by decide) ?_
      refine lv_icmp_ge (tgt := 140) hx hb d_M_move_87 (by decide) (fun c_12 => False.elim (by first | exact absurd c_12 (nI_ge hi (by decide)) | exact absurd (nI_ge hi (by decide)) c_12)) (fun c_12 => ?_)
      refine lv_iload hx hb d_M_move_90 (lv_at hl 0 rfl) ?_
      refine lv_i2l hx hb d_M_move_92 rfl ?_
      refine lv_lload_n hx hb d_M_move_93 rfl (lv_at hl 4 rfl) ?_
      refine lv_ladd hx hb d_M_move_94 ?_
      refine lv_topl (fun v_13 ev_13 => ?_)
      refine lv_lstore (lv' := [(7, .long (v_13)), (6, .int (nI i)), (5, .int (wf_bi lo)), (0, .ref (q 0)), (1, .int (nI ra)), (2, .long (N)), (4, .int (nI rt))]) hx hb d_M_move_95 hl (by decide) rfl (fun ls hl => ?_)
      have hat := wf_at hi hN hn1 hn2 ev_13
      refine lv_lload hx hb d_M_move_97 (lv_at hl 0 rfl) ?_
      refine lv_lconst (v := 0) hx hb d_M_move_99 (by decide) ?_
      refine W.lcmp hx hb d_M_move_100 ?_
      refine lv_if_lt (tgt := 134) hx hb d_M_move_101 (by decide) (fun c_14 => ?_) (fun c_14 => ?_)
      · have h0 : (i : Int) + n < 0 ∨ ¬ (i : Int) + n < 128 := Or.inl ((wf_v0 hat).mp ((lg_cmp_lt _ _).mp c_14))
        refine lv_iinc (v := nI (i + 1)) (lv' := [(6, .int (nI (i + 1))), (7, .long (v_13)), (5, .int (wf_bi lo)), (0, .ref (q 0)), (1, .int (nI ra)), (2, .long (N)), (4, .int (nI rt))]) hx hb d_M_move_134 hl (k := 1) rfl (nI_1 _) (by decide) rfl (fun ls hl => ?_)
        refine lv_goto (tgt := 82) hx hb d_M_move_137 (by decide) ?_
        exact ih x H locs ls ⟨hI.1, wf_mv_N hI.2 h0⟩ hP hD hS (lv_sub hl [0, 2, 3, 4, 5, 6] rfl)
      · have h0 : 0 ≤ (i : Int) + n := Int.not_lt.mp (fun h => c_14 ((lg_cmp_lt _ _).mpr ((wf_v0 hat).mpr h)))
        refine lv_lload hx hb d_M_move_104 (lv_at hl 0 rfl) ?_
        refine lv_ldc2 (v := 128) hx hb hown (hts _ (k_cl_M_65)) d_M_move_106 ?_
        refine W.lcmp hx hb d_M_move_109 ?_
        refine lv_if_ge (tgt := 134) hx hb d_M_move_110 (by decide) (fun c_15 => ?_) (fun c_15 => ?_)
        · have h0 : (i : Int) + n < 0 ∨ ¬ (i : Int) + n < 128 := Or.inr (fun h => absurd ((wf_v128 hat).mpr h) (Int64.not_lt.mpr ((lg_cmp_ge _ _).mp c_15)))
          refine lv_iinc (v := nI (i + 1)) (lv' := [(6, .int (nI (i + 1))), (7, .long (v_13)), (5, .int (wf_bi lo)), (0, .ref (q 0)), (1, .int (nI ra)), (2, .long (N)), (4, .int (nI rt))]) hx hb d_M_move_134 hl (k := 1) rfl (nI_1 _) (by decide) rfl (fun ls hl => ?_)
          refine lv_goto (tgt := 82) hx hb d_M_move_137 (by decide) ?_
          exact ih x H locs ls ⟨hI.1, wf_mv_N hI.2 h0⟩ hP hD hS (lv_sub hl [0, 2, 3, 4, 5, 6] rfl)
        · have h8 : (i : Int) + n < 128 := (wf_v128 hat).mp (Int64.not_le.mp (fun h => c_15 ((lg_cmp_ge _ _).mpr h)))
          refine lv_aload_n hx hb d_M_move_113 rfl (lv_at hl 3 rfl) ?_
          refine gM C hK hP 0 rfl 3 (by decide) k_fl_M_answer rfl d_M_move_114 ?_
          refine lv_lload hx hb d_M_move_117 (lv_at hl 0 rfl) ?_
          refine lv_l2i hx hb d_M_move_119 (wf_l2i _) ?_
          refine lv_topi (fun k_16 ek_16 => ?_)
          have ek_16 : k_16 = nI ((i : Int) + n).toNat := ek_16.trans (wf_v_nat hat h0 h8)
          subst ek_16
          refine lv_aload_n hx hb d_M_move_120 rfl (lv_at hl 3 rfl) ?_
          refine gM C hK hP 0 rfl 1 (by decide) k_fl_M_bits rfl d_M_move_121 ?_
          refine lv_sipush (v := 128) hx hb d_M_move_124 (by decide) ?_
          refine lv_iload_n hx hb d_M_move_127 rfl (lv_at hl 4 rfl) ?_
          refine lv_imul hx hb d_M_move_128 ?_
          refine lv_iload hx hb d_M_move_129 (lv_at hl 1 rfl) ?_
          refine lv_iadd hx hb d_M_move_131 ?_
          refine wf_zald C hK hP 1 0 rfl rfl (k := 128 * ra + i) (wf_ia (x := 128 * ra) (y := i) (wf_im (x := 128) (y := ra) rfl rfl) rfl) (by omega) (by decide) d_M_move_132 ?_
          refine wf_zast C hK hP hD hS 3 2 rfl rfl (k := ((i : Int) + n).toNat) (b := ((x.2.1 (128 * ra + i)))) rfl (by omega) (by decide) d_M_move_133 (fun H locs hP hD hS => ?_)
          have hP : va_P D vwCl (wM q κ (x.1, x.2.1, x.2.2.1, va_up x.2.2.2.1 (((i : Int) + n).toNat) ((x.2.1 (128 * ra + i))), x.2.2.2.2)) H := hP
          have hD : va_D A (wM q κ (x.1, x.2.1, x.2.2.1, va_up x.2.2.2.1 (((i : Int) + n).toNat) ((x.2.1 (128 * ra + i))), x.2.2.2.2)) := hD
          generalize eu_17 : ((x.1, x.2.1, x.2.2.1, va_up x.2.2.2.1 (((i : Int) + n).toNat) ((x.2.1 (128 * ra + i))), x.2.2.2.2) : SM) = u_17 at hP hD
          refine lv_iinc (v := nI (i + 1)) (lv' := [(6, .int (nI (i + 1))), (7, .long (v_13)), (5, .int (wf_bi lo)), (0, .ref (q 0)), (1, .int (nI ra)), (2, .long (N)), (4, .int (nI rt))]) hx hb d_M_move_134 hl (k := 1) rfl (nI_1 _) (by decide) rfl (fun ls hl => ?_)
          refine lv_goto (tgt := 82) hx hb d_M_move_137 (by decide) ?_
          exact ih u_17 H locs ls ⟨by rw [← eu_17, hI.1], by rw [← eu_17]; exact wf_mv_S hI.2 (show x.2.1 (128 * ra + i) = u.2.1 (128 * ra + i) by rw [hI.1]) h0⟩ hP hD hS (lv_sub hl [0, 2, 3, 4, 5, 6] rfl)
    · have hP : va_P D vwCl (wM q κ x) H := hP
      have hD : va_D A (wM q κ x) := hD
      have hl : lv_has ls 9 [(6, .int (nI 128)), (5, .int (wf_bi lo)), (0, .ref (q 0)), (1, .int (nI ra)), (2, .long (N)), (4, .int (nI rt))] := hl
      have hI : x = (u.1, u.2.1, u.2.2.1, x.2.2.2.1, u.2.2.2.2) ∧ ∀ j, j < 128 → x.2.2.2.1 j = wf_mv (fun k => u.2.1 (128 * ra + k)) n 128 j := hI
      refine lv_iload hx hb d_M_move_82 (lv_at hl 0 rfl) ?_
      refine lv_sipush (v := 128) hx hb d_M_move_84 (by decide) ?_
      refine lv_icmp_ge (tgt := 140) hx hb d_M_move_87 (by decide) (fun c_18 => ?_) (fun c_18 => False.elim (by first | exact absurd (nI_le (Nat.le_refl 128) (by decide)) c_18 | exact absurd c_18 (nI_le (Nat.le_refl 128) (by decide))))
      refine lv_aload_n hx hb d_M_move_140 rfl (lv_at hl 2 rfl) ?_
      refine lv_aload_n hx hb d_M_move_141 rfl (lv_at hl 2 rfl) ?_
      refine gM C hK hP 0 rfl 3 (by decide) k_fl_M_answer rfl d_M_move_142 ?_
      refine lv_iconst (v := 0) hx hb d_M_move_145 (by decide) ?_
      refine lv_iload hx hb d_M_move_146 (lv_at hl 5 rfl) ?_
      refine kM_takeAnswer (b := 0) (rt := rt) (by decide) hrt C hl.1 ⟨Nat.le_of_ble_eq_true rfl, Nat.le_of_ble_eq_true rfl⟩ (Nat.le_of_ble_eq_true rfl) ⟨Nat.le_of_ble_eq_true rfl, Nat.le_of_ble_eq_true rfl⟩ hP hK hD hS hA d_M_move_148 (fun u_19 H locs eu_19 hP hD hS => ?_)
      refine lv_iload hx hb d_M_move_151 (lv_at hl 1 rfl) ?_
      exact wf_retz C hr (wf_bi_ret _) hlocks u_19 (⟨lo, _, rfl, ⟨hLo, hI.2⟩, by rw [eu_19, hI.1]⟩) hP hK hD hS (fun _ h => h) d_M_move_153

set_option maxHeartbeats 4000000 in
set_option maxRecDepth 100000 in
theorem kM_move {p : Program} {l : Launch} {e : Env} {R : Room} {s : State} {m : MethodId} {args : Array Value} {below : List Frame} {meth : Method} {c : Code} {H : Heap} {locs : List Loc} {cells slots : Nat} {Q : State → Prop} {cc : ByteArray} {pc nL : Nat} {ls : Array Slot} {rest : List Value} {D : va_G} {q : Nat → Nat} {κ : Nat → ClassId} {A : Nat → Prop} {u : SM} {ra rt : Nat} (hra : ra < 8) (hrt : rt < 8) {N : Int64} {n : Int} (hN : N.toInt = n) (hn1 : -2147483648 ≤ n) (hn2 : n ≤ 2147483648) (C : CallFix p m c cc nL s args wG RM) (hsz : ls.size = nL) (hR : 2 ≤ R.frames ∧ 88 ≤ R.locals) (hw : (rest.map fun v => v.category).sum ≤ 8) (hc : cells + 0 ≤ R.cells ∧ slots + 0 ≤ R.slots) (hP : va_P D vwCl (wM q κ u) H) (hK : va_K D vwCl (tyM κ) s) (hD : va_D A (wM q κ u)) (hS : va_S A s.heap H locs) (hA : ∀ q, s.heap.size ≤ q → A q) (hdg : decode cc pc = .ok (.invokevirtual 67, 3)) (kk : ∀ (r : Int32) (v : SM) (H1 : Heap) (locs1 : List Loc), (∃ (b : Bool) (A_ : Nat → Bool), r = wf_bi b ∧ wf_MV (fun k => u.2.1 (128 * ra + k)) n b A_ ∧ v = (u.1, va_cpy A_ u.2.1 0 (128 * rt) 128, u.2.2.1, A_, u.2.2.2.2)) → va_P D vwCl (wM q κ v) H1 → va_D A (wM q κ v) → va_S A s.heap H1 locs1 → W p l e R s m args below meth c H1 locs1 (cells) (slots) Q (F0 m (pc + 3) ls (.int r :: rest))) : W p l e R s m args below meth c H locs cells slots Q (F0 m pc ls (.int (nI rt) :: .long N :: .int (nI ra) :: .ref (q 0) :: rest)) := by
  exact wf_ci (va_runV (As := [.int (nI ra), .long N, .int (nI rt)]) (rest := rest) C (c_M_move l D q κ u ra hra N n hN hn1 hn2 rt hrt H.size) (cwV 3 C.2.2.2.2 (wG_V (fun _ h => h) k_ml_M_67 k_im_M_move k_se_M_move k_in_M k_M_move) rfl rfl rfl (by decide +kernel) ⟨hR.1, hR.2⟩) ⟨wf_blind, va_recv hK hP (ci := 1) (q0 := 0) rfl rfl, wf_pre hP hK hD⟩ rfl rfl hsz rfl (lv_room hw) hdg ⟨hc.1, hc.2⟩) (fun _ h => h) hS hD hA kk

theorem wf_fin_shift {u u1 u2 : SM} {rt N : Nat} {A_ : Nat → Bool} (e1 : (0, u.2) = u1) (e2 : u2 = (u1.1, va_cpy A_ u1.2.1 0 (128 * rt) 128, u1.2.2.1, A_, u1.2.2.2.2)) (h : wf_sm (fun k => A_ (0 + k)) 128 = N) : wf_mW u u2 0 (va_up (wf_R u.2.1) rt N) := by
  subst e1 e2
  exact wf_mW_put (B := u.2.1) (fun _ _ => rfl) rfl rfl rfl h
theorem wf_fin_jam {u u1 u2 u3 : SM} {ra rt m : Nat} {A_ : Nat → Bool} {lo : Bool} (e1 : (0, u.2) = u1) (e2 : u2 = (u1.1, va_cpy A_ u1.2.1 0 (128 * rt) 128, u1.2.2.1, A_, u1.2.2.2.2)) (h : wf_MV (fun k => u1.2.1 (128 * ra + k)) (-(m : Int)) lo A_)
    (e3 : (lo = false ∧ u3 = u2) ∨ (lo = true ∧ (u2.1, va_up u2.2.1 (128 * rt) true, u2.2.2) = u3)) : wf_mW u u3 0 (va_up (wf_R u.2.1) rt (wf_jam (wf_R u.2.1 ra) m)) := by
  subst e1
  obtain ⟨h1, h2⟩ := wf_MV_dn h
  have h1 : lo = decide (wf_R u.2.1 ra % 2 ^ m ≠ 0) := h1
  have h2 : wf_sm (fun k => A_ (0 + k)) 128 = wf_R u.2.1 ra / 2 ^ m := h2
  have hW := wf_fin_shift (u := u) rfl e2 h2
  rcases e3 with ⟨k1, k2⟩ | ⟨k1, k2⟩
  · rw [k2]
    unfold wf_jam
    rw [if_neg (of_decide_eq_false (h1.symm.trans k1))]
    exact hW
  · obtain ⟨w1, w2, w3⟩ := hW
    subst k2
    refine ⟨w1, fun j hj => ?_, w3⟩
    unfold wf_jam
    rw [if_pos (of_decide_eq_true (h1.symm.trans k1))]
    have w2j := w2 j hj
    by_cases hjr : j = rt
    · subst hjr
      show wf_R (va_up u2.2.1 (128 * j) true) j = _
      rw [va_up_self] at w2j ⊢
      rw [wf_R_low, w2j]
    · show wf_R (va_up u2.2.1 (128 * rt) true) j = _
      rw [va_up_ne _ _ hjr] at w2j ⊢
      rw [wf_R_low_ne _ hjr, w2j]

set_option maxHeartbeats 4000000 in
set_option maxRecDepth 100000 in
/-- M_shift -/
theorem c_M_shiftUp (l : Launch) (D : va_G) (q : Nat → Nat) (κ : Nat → ClassId) (u : SM) (ra : Nat) (hra : ra < 8) (n : Nat) (hn : n < 2 ^ 31) (rt : Nat) (hrt : rt < 8) (sz : Nat) : Met l y_M_shift (.code y_M_shift b_M_shift 4 (some .boolean) :: wG) (wf_rm 2 120 0 0) (wf_Pc D vwCl (wM q κ u) (tyM κ) ([.ref (q 0), .int (nI ra), .int (nI n), .int (nI rt)]) sz) (va_Qi (fun r v => r = wf_bi (decide (wf_NN ≤ wf_R u.2.1 ra * 2 ^ n)) ∧ wf_mW u v 0 (va_up (wf_R u.2.1) rt (wf_R u.2.1 ra * 2 ^ n % wf_NN))) (wf_B D vwCl (wM q κ) (tyM κ) (va_A (wM q κ u) sz)) (va_A (wM q κ u) sz)) 0 0 (va_A (wM q κ u) sz) := by
  refine wf_open (by decide) (Nat.le_of_ble_eq_true rfl) k_M_shift ?_
  intro p e s m below meth c ls hsz C hr hlocks hnm hex hP hK hD hl
  subst hsz
  have hx := C.1
  have hb := C.2.1
  have hml := C.2.2.1
  have hown := C.2.2.2.1
  have hts := C.2.2.2.2
  have hA : ∀ j : Nat, s.heap.size ≤ j → va_A (wM q κ u) s.heap.size j := fun j h => Or.inr h
  have hS : va_S (va_A (wM q κ u) s.heap.size) s.heap s.heap [] := va_S.rf
  generalize hAe : va_A (wM q κ u) s.heap.size = A at hA hS hD ⊢
  have hl : lv_has ls 4 [(0, .ref (q 0)), (1, .int (nI ra)), (2, .int (nI n)), (3, .int (nI rt))] := hl
  refine lv_aload_n hx hb d_M_shift_0 rfl (lv_at hl 0 rfl) ?_
  refine lv_iload_n hx hb d_M_shift_1 rfl (lv_at hl 1 rfl) ?_
  refine kM_ok (r := ra) hra C hl.1 ⟨Nat.le_of_ble_eq_true rfl, Nat.le_of_ble_eq_true rfl⟩ (Nat.le_of_ble_eq_true rfl) ⟨Nat.le_of_ble_eq_true rfl, Nat.le_of_ble_eq_true rfl⟩ d_M_shift_2 ?_
  refine lv_if_ne (tgt := 15) hx hb d_M_shift_5 (by decide) (fun c_1 => False.elim (absurd c_1 (by decide))) (fun _ => ?_)
  refine lv_iload_n hx hb d_M_shift_8 rfl (lv_at hl 3 rfl) ?_
  refine kM_ok (r := rt) hrt C hl.1 ⟨Nat.le_of_ble_eq_true rfl, Nat.le_of_ble_eq_true rfl⟩ (Nat.le_of_ble_eq_true rfl) ⟨Nat.le_of_ble_eq_true rfl, Nat.le_of_ble_eq_true rfl⟩ d_M_shift_9 ?_
  refine lv_if_eq (tgt := 19) hx hb d_M_shift_12 (by decide) (fun _ => ?_) (fun c_2 => False.elim (absurd c_2 (by decide)))
  refine lv_iconst (v := 0) hx hb d_M_shift_19 (by decide) ?_
  refine pM_code C hK hP hD hS 0 rfl (Nat.le_of_ble_eq_true rfl) d_M_shift_20 (fun H locs hP hD hS => ?_)
  have hP : va_P D vwCl (wM q κ (0, u.2)) H := hP
  have hD : va_D A (wM q κ (0, u.2)) := hD
  generalize eu_3 : ((0, u.2) : SM) = u_3 at hP hD
  refine lv_aload_n hx hb d_M_shift_23 rfl (lv_at hl 0 rfl) ?_
  refine gM C hK hP 0 rfl 0 (by decide) k_fl_M_code rfl d_M_shift_24 ?_
  refine lv_topi (fun k_4 ek_4 => ?_)
  have ek_4 : k_4 = 0 := ek_4.trans (by rw [← eu_3])
  subst ek_4
  refine lv_if_ne (tgt := 45) hx hb d_M_shift_27 (by decide) (fun c_5 => False.elim (absurd c_5 (by decide))) (fun _ => ?_)
  refine lv_aload_n hx hb d_M_shift_30 rfl (lv_at hl 0 rfl) ?_
  refine lv_iload_n hx hb d_M_shift_31 rfl (lv_at hl 1 rfl) ?_
  refine lv_iload_n hx hb d_M_shift_32 rfl (lv_at hl 2 rfl) ?_
  refine lv_i2l hx hb d_M_shift_33 rfl ?_
  refine lv_iload_n hx hb d_M_shift_34 rfl (lv_at hl 3 rfl) ?_
  refine kM_move (n := (n : Int)) hra hrt (by rw [nI_l hn]; exact lN_toInt hn) (by omega) (by omega) C hl.1 ⟨Nat.le_of_ble_eq_true rfl, Nat.le_of_ble_eq_true rfl⟩ (Nat.le_of_ble_eq_true rfl) ⟨Nat.le_of_ble_eq_true rfl, Nat.le_of_ble_eq_true rfl⟩ hP hK hD hS hA d_M_shift_35 (fun rr u_6 H locs eu_6 hP hD hS => ?_)
  obtain ⟨lo, A_, hrr, hMV, ev⟩ := eu_6
  subst hrr
  refine wf_cutI (pcj := 46) (ls := ls) (rest := []) (fun z => z = wf_bi (lo)) (fun z_7 ez_7 => ?_) (fun jn => ?_)
  · subst ez_7
    obtain ⟨g1, g2⟩ := wf_MV_up hMV
    rw [show (fun k => u_3.2.1 (128 * ra + k)) = fun k => u.2.1 (128 * ra + k) from by rw [← eu_3]] at g1 g2
    exact wf_retz C hr (wf_bi_ret _) hlocks u_6 (⟨congrArg wf_bi g1, wf_fin_shift eu_3 ev g2⟩) hP hK hD hS (fun _ h => h) d_M_shift_46
  · refine lv_if_eq (tgt := 45) hx hb d_M_shift_38 (by decide) (fun c_8 => ?_) (fun c_8 => ?_)
    · refine lv_iconst (v := 0) hx hb d_M_shift_45 (by decide) ?_
      exact jn _ (by revert c_8; cases lo <;> decide)
    · refine lv_iconst (v := 1) hx hb d_M_shift_41 (by decide) ?_
      refine lv_goto (tgt := 46) hx hb d_M_shift_42 (by decide) ?_
      exact jn _ (by revert c_8; cases lo <;> decide)

set_option maxHeartbeats 4000000 in
set_option maxRecDepth 100000 in
/-- M_shift -/
theorem c_M_shiftDown (l : Launch) (D : va_G) (q : Nat → Nat) (κ : Nat → ClassId) (u : SM) (ra : Nat) (hra : ra < 8) (n : Nat) (hn0 : 0 < n) (hn : n ≤ 2147483648) (rt : Nat) (hrt : rt < 8) (sz : Nat) : Met l y_M_shift (.code y_M_shift b_M_shift 4 (some .boolean) :: wG) (wf_rm 2 120 0 0) (wf_Pc D vwCl (wM q κ u) (tyM κ) ([.ref (q 0), .int (nI ra), .int (-nI n), .int (nI rt)]) sz) (va_Qi (fun r v => r = wf_bi (decide (wf_R u.2.1 ra % 2 ^ n ≠ 0)) ∧ wf_mW u v 0 (va_up (wf_R u.2.1) rt (wf_R u.2.1 ra / 2 ^ n))) (wf_B D vwCl (wM q κ) (tyM κ) (va_A (wM q κ u) sz)) (va_A (wM q κ u) sz)) 0 0 (va_A (wM q κ u) sz) := by
  refine wf_open (by decide) (Nat.le_of_ble_eq_true rfl) k_M_shift ?_
  intro p e s m below meth c ls hsz C hr hlocks hnm hex hP hK hD hl
  subst hsz
  have hx := C.1
  have hb := C.2.1
  have hml := C.2.2.1
  have hown := C.2.2.2.1
  have hts := C.2.2.2.2
  have hA : ∀ j : Nat, s.heap.size ≤ j → va_A (wM q κ u) s.heap.size j := fun j h => Or.inr h
  have hS : va_S (va_A (wM q κ u) s.heap.size) s.heap s.heap [] := va_S.rf
  generalize hAe : va_A (wM q κ u) s.heap.size = A at hA hS hD ⊢
  have hl : lv_has ls 4 [(0, .ref (q 0)), (1, .int (nI ra)), (2, .int (-nI n)), (3, .int (nI rt))] := hl
  refine lv_aload_n hx hb d_M_shift_0 rfl (lv_at hl 0 rfl) ?_
  refine lv_iload_n hx hb d_M_shift_1 rfl (lv_at hl 1 rfl) ?_
  refine kM_ok (r := ra) hra C hl.1 ⟨Nat.le_of_ble_eq_true rfl, Nat.le_of_ble_eq_true rfl⟩ (Nat.le_of_ble_eq_true rfl) ⟨Nat.le_of_ble_eq_true rfl, Nat.le_of_ble_eq_true rfl⟩ d_M_shift_2 ?_
  refine lv_if_ne (tgt := 15) hx hb d_M_shift_5 (by decide) (fun c_1 => False.elim (absurd c_1 (by decide))) (fun _ => ?_)
  refine lv_iload_n hx hb d_M_shift_8 rfl (lv_at hl 3 rfl) ?_
  refine kM_ok (r := rt) hrt C hl.1 ⟨Nat.le_of_ble_eq_true rfl, Nat.le_of_ble_eq_true rfl⟩ (Nat.le_of_ble_eq_true rfl) ⟨Nat.le_of_ble_eq_true rfl, Nat.le_of_ble_eq_true rfl⟩ d_M_shift_9 ?_
  refine lv_if_eq (tgt := 19) hx hb d_M_shift_12 (by decide) (fun _ => ?_) (fun c_2 => False.elim (absurd c_2 (by decide)))
  refine lv_iconst (v := 0) hx hb d_M_shift_19 (by decide) ?_
  refine pM_code C hK hP hD hS 0 rfl (Nat.le_of_ble_eq_true rfl) d_M_shift_20 (fun H locs hP hD hS => ?_)
  have hP : va_P D vwCl (wM q κ (0, u.2)) H := hP
  have hD : va_D A (wM q κ (0, u.2)) := hD
  generalize eu_3 : ((0, u.2) : SM) = u_3 at hP hD
  refine lv_aload_n hx hb d_M_shift_23 rfl (lv_at hl 0 rfl) ?_
  refine gM C hK hP 0 rfl 0 (by decide) k_fl_M_code rfl d_M_shift_24 ?_
  refine lv_topi (fun k_4 ek_4 => ?_)
  have ek_4 : k_4 = 0 := ek_4.trans (by rw [← eu_3])
  subst ek_4
  refine lv_if_ne (tgt := 45) hx hb d_M_shift_27 (by decide) (fun c_5 => False.elim (absurd c_5 (by decide))) (fun _ => ?_)
  refine lv_aload_n hx hb d_M_shift_30 rfl (lv_at hl 0 rfl) ?_
  refine lv_iload_n hx hb d_M_shift_31 rfl (lv_at hl 1 rfl) ?_
  refine lv_iload_n hx hb d_M_shift_32 rfl (lv_at hl 2 rfl) ?_
  refine lv_i2l hx hb d_M_shift_33 rfl ?_
  refine lv_iload_n hx hb d_M_shift_34 rfl (lv_at hl 3 rfl) ?_
  refine kM_move (n := (-(n : Int))) hra hrt (by rw [Int32.toInt_toInt64]; exact wf_neg_toInt hn) (by omega) (by omega) C hl.1 ⟨Nat.le_of_ble_eq_true rfl, Nat.le_of_ble_eq_true rfl⟩ (Nat.le_of_ble_eq_true rfl) ⟨Nat.le_of_ble_eq_true rfl, Nat.le_of_ble_eq_true rfl⟩ hP hK hD hS hA d_M_shift_35 (fun rr u_6 H locs eu_6 hP hD hS => ?_)
  obtain ⟨lo, A_, hrr, hMV, ev⟩ := eu_6
  subst hrr
  refine wf_cutI (pcj := 46) (ls := ls) (rest := []) (fun z => z = wf_bi (lo)) (fun z_7 ez_7 => ?_) (fun jn => ?_)
  · subst ez_7
    obtain ⟨g1, g2⟩ := wf_MV_dn hMV
    rw [show (fun k => u_3.2.1 (128 * ra + k)) = fun k => u.2.1 (128 * ra + k) from by rw [← eu_3]] at g1 g2
    exact wf_retz C hr (wf_bi_ret _) hlocks u_6 (⟨congrArg wf_bi g1, wf_fin_shift eu_3 ev g2⟩) hP hK hD hS (fun _ h => h) d_M_shift_46
  · refine lv_if_eq (tgt := 45) hx hb d_M_shift_38 (by decide) (fun c_8 => ?_) (fun c_8 => ?_)
    · refine lv_iconst (v := 0) hx hb d_M_shift_45 (by decide) ?_
      exact jn _ (by revert c_8; cases lo <;> decide)
    · refine lv_iconst (v := 1) hx hb d_M_shift_41 (by decide) ?_
      refine lv_goto (tgt := 46) hx hb d_M_shift_42 (by decide) ?_
      exact jn _ (by revert c_8; cases lo <;> decide)

set_option maxHeartbeats 4000000 in
set_option maxRecDepth 100000 in
/-- M_jam -/
theorem c_M_jam (l : Launch) (D : va_G) (q : Nat → Nat) (κ : Nat → ClassId) (u : SM) (ra : Nat) (hra : ra < 8) (n : Nat) (hn : n < 2 ^ 31) (rt : Nat) (hrt : rt < 8) (sz : Nat) : Met l y_M_jam (.code y_M_jam b_M_jam 4 none :: wG) (wf_rm 2 120 0 0) (wf_Pc D vwCl (wM q κ u) (tyM κ) ([.ref (q 0), .int (nI ra), .int (nI n), .int (nI rt)]) sz) (va_Qv (fun v => wf_mW u v 0 (va_up (wf_R u.2.1) rt (wf_jam (wf_R u.2.1 ra) n))) (wf_B D vwCl (wM q κ) (tyM κ) (va_A (wM q κ u) sz)) (va_A (wM q κ u) sz)) 0 0 (va_A (wM q κ u) sz) := by
  refine wf_open (by decide) (Nat.le_of_ble_eq_true rfl) k_M_jam ?_
  intro p e s m below meth c ls hsz C hr hlocks hnm hex hP hK hD hl
  subst hsz
  have hx := C.1
  have hb := C.2.1
  have hml := C.2.2.1
  have hown := C.2.2.2.1
  have hts := C.2.2.2.2
  have hA : ∀ j : Nat, s.heap.size ≤ j → va_A (wM q κ u) s.heap.size j := fun j h => Or.inr h
  have hS : va_S (va_A (wM q κ u) s.heap.size) s.heap s.heap [] := va_S.rf
  generalize hAe : va_A (wM q κ u) s.heap.size = A at hA hS hD ⊢
  have hl : lv_has ls 4 [(0, .ref (q 0)), (1, .int (nI ra)), (2, .int (nI n)), (3, .int (nI rt))] := hl
  refine lv_aload_n hx hb d_M_jam_0 rfl (lv_at hl 0 rfl) ?_
  refine lv_iload_n hx hb d_M_jam_1 rfl (lv_at hl 1 rfl) ?_
  refine kM_ok (r := ra) hra C hl.1 ⟨Nat.le_of_ble_eq_true rfl, Nat.le_of_ble_eq_true rfl⟩ (Nat.le_of_ble_eq_true rfl) ⟨Nat.le_of_ble_eq_true rfl, Nat.le_of_ble_eq_true rfl⟩ d_M_jam_2 ?_
  refine lv_if_ne (tgt := 15) hx hb d_M_jam_5 (by decide) (fun c_1 => False.elim (absurd c_1 (by decide))) (fun _ => ?_)
  refine lv_iload_n hx hb d_M_jam_8 rfl (lv_at hl 3 rfl) ?_
  refine kM_ok (r := rt) hrt C hl.1 ⟨Nat.le_of_ble_eq_true rfl, Nat.le_of_ble_eq_true rfl⟩ (Nat.le_of_ble_eq_true rfl) ⟨Nat.le_of_ble_eq_true rfl, Nat.le_of_ble_eq_true rfl⟩ d_M_jam_9 ?_
  refine lv_if_eq (tgt := 19) hx hb d_M_jam_12 (by decide) (fun _ => ?_) (fun c_2 => False.elim (absurd c_2 (by decide)))
  refine lv_iload_n hx hb d_M_jam_19 rfl (lv_at hl 2 rfl) ?_
  refine lv_if_ge (tgt := 27) hx hb d_M_jam_20 (by decide) (fun c_3 => ?_) (fun c_3 => False.elim (by first | exact absurd (nI_pos' hn) c_3 | exact absurd c_3 (nI_pos' hn)))
  refine lv_iconst (v := 0) hx hb d_M_jam_27 (by decide) ?_
  refine pM_code C hK hP hD hS 0 rfl (Nat.le_of_ble_eq_true rfl) d_M_jam_28 (fun H locs hP hD hS => ?_)
  have hP : va_P D vwCl (wM q κ (0, u.2)) H := hP
  have hD : va_D A (wM q κ (0, u.2)) := hD
  generalize eu_4 : ((0, u.2) : SM) = u_4 at hP hD
  refine lv_aload_n hx hb d_M_jam_31 rfl (lv_at hl 0 rfl) ?_
  refine gM C hK hP 0 rfl 0 (by decide) k_fl_M_code rfl d_M_jam_32 ?_
  refine lv_topi (fun k_5 ek_5 => ?_)
  have ek_5 : k_5 = 0 := ek_5.trans (by rw [← eu_4])
  subst ek_5
  refine lv_if_ne (tgt := 61) hx hb d_M_jam_35 (by decide) (fun c_6 => False.elim (absurd c_6 (by decide))) (fun _ => ?_)
  refine lv_aload_n hx hb d_M_jam_38 rfl (lv_at hl 0 rfl) ?_
  refine lv_iload_n hx hb d_M_jam_39 rfl (lv_at hl 1 rfl) ?_
  refine lv_iload_n hx hb d_M_jam_40 rfl (lv_at hl 2 rfl) ?_
  refine lv_i2l hx hb d_M_jam_41 rfl ?_
  refine lv_lneg hx hb d_M_jam_42 ?_
  refine lv_iload_n hx hb d_M_jam_43 rfl (lv_at hl 3 rfl) ?_
  refine kM_move (n := (-(n : Int))) hra hrt (wf_negN hn) (by omega) (by omega) C hl.1 ⟨Nat.le_of_ble_eq_true rfl, Nat.le_of_ble_eq_true rfl⟩ (Nat.le_of_ble_eq_true rfl) ⟨Nat.le_of_ble_eq_true rfl, Nat.le_of_ble_eq_true rfl⟩ hP hK hD hS hA d_M_jam_44 (fun rr u_7 H locs eu_7 hP hD hS => ?_)
  obtain ⟨lo, A_, hrr, hMV, ev⟩ := eu_7
  subst hrr
  refine lv_if_eq (tgt := 61) hx hb d_M_jam_47 (by decide) (fun c_8 => ?_) (fun c_8 => ?_)
  · have hlo := (wf_bi0 _).mp c_8
    exact wf_retv C hr hlocks u_7 (wf_fin_jam eu_4 ev hMV (Or.inl ⟨hlo, rfl⟩)) hP hK hD hS (fun _ h => h) d_M_jam_61
  · have hlo := (wf_bi1 _).mp c_8
    refine lv_aload_n hx hb d_M_jam_50 rfl (lv_at hl 0 rfl) ?_
    refine gM C hK hP 0 rfl 1 (by decide) k_fl_M_bits rfl d_M_jam_51 ?_
    refine lv_sipush (v := 128) hx hb d_M_jam_54 (by decide) ?_
    refine lv_iload_n hx hb d_M_jam_57 rfl (lv_at hl 3 rfl) ?_
    refine lv_imul hx hb d_M_jam_58 ?_
    refine lv_iconst (v := 1) hx hb d_M_jam_59 (by decide) ?_
    refine wf_zast C hK hP hD hS 1 0 rfl rfl (k := 128 * rt) (b := true) (wf_im (x := 128) (y := rt) rfl rfl) (by omega) (by decide) d_M_jam_60 (fun H locs hP hD hS => ?_)
    have hP : va_P D vwCl (wM q κ (u_7.1, va_up u_7.2.1 (128 * rt) true, u_7.2.2)) H := hP
    have hD : va_D A (wM q κ (u_7.1, va_up u_7.2.1 (128 * rt) true, u_7.2.2)) := hD
    generalize eu_9 : ((u_7.1, va_up u_7.2.1 (128 * rt) true, u_7.2.2) : SM) = u_9 at hP hD
    exact wf_retv C hr hlocks u_9 (wf_fin_jam eu_4 ev hMV (Or.inr ⟨hlo, eu_9⟩)) hP hK hD hS (fun _ h => h) d_M_jam_61

theorem wf_fin_next {u w v : SM} {rk N : Nat} (h1 : w = (0, u.2.1, u.2.2.1, w.2.2.2.1, u.2.2.2.2)) (e : v = (w.1, va_cpy w.2.2.2.1 w.2.1 0 (128 * rk) 128, w.2.2)) (h : wf_sm w.2.2.2.1 128 = N) : wf_mW u v 0 (va_up (wf_R u.2.1) rk N) := by
  generalize w.2.2.2.1 = A_ at h1 e h
  subst h1 e
  exact wf_mW_put (B := u.2.1) (S := A_) (s := 0) (fun _ _ => rfl) rfl rfl rfl (by rw [show (fun k => A_ (0 + k)) = A_ from funext fun k => by rw [Nat.zero_add]]; exact h)

set_option maxHeartbeats 4000000 in
set_option maxRecDepth 100000 in
/-- M_next -/
theorem c_M_next (l : Launch) (D : va_G) (q : Nat → Nat) (κ : Nat → ClassId) (u : SM) (rk : Nat) (hrk : rk < 8) (d : Nat) (hd : d < 10) (sz : Nat) : Met l y_M_next (.code y_M_next b_M_next 5 (some .boolean) :: wG) (wf_rm 1 60 0 0) (wf_Pc D vwCl (wM q κ u) (tyM κ) ([.ref (q 0), .int (nI rk), .int (nI d)]) sz) (va_Qi (fun r v => (r = 1 ∧ wf_R u.2.1 rk * 10 + d < wf_NN ∧ wf_mW u v 0 (va_up (wf_R u.2.1) rk (wf_R u.2.1 rk * 10 + d))) ∨ (r = 0 ∧ wf_NN ≤ wf_R u.2.1 rk * 10 + d ∧ wf_mW u v 0 (wf_R u.2.1))) (wf_B D vwCl (wM q κ) (tyM κ) (va_A (wM q κ u) sz)) (va_A (wM q κ u) sz)) 0 0 (va_A (wM q κ u) sz) := by
  refine wf_open (by decide) (Nat.le_of_ble_eq_true rfl) k_M_next ?_
  intro p e s m below meth c ls hsz C hr hlocks hnm hex hP hK hD hl
  subst hsz
  have hx := C.1
  have hb := C.2.1
  have hml := C.2.2.1
  have hown := C.2.2.2.1
  have hts := C.2.2.2.2
  have hA : ∀ j : Nat, s.heap.size ≤ j → va_A (wM q κ u) s.heap.size j := fun j h => Or.inr h
  have hS : va_S (va_A (wM q κ u) s.heap.size) s.heap s.heap [] := va_S.rf
  generalize hAe : va_A (wM q κ u) s.heap.size = A at hA hS hD ⊢
  have hl : lv_has ls 5 [(0, .ref (q 0)), (1, .int (nI rk)), (2, .int (nI d))] := hl
  refine lv_aload_n hx hb d_M_next_0 rfl (lv_at hl 0 rfl) ?_
  refine lv_iload_n hx hb d_M_next_1 rfl (lv_at hl 1 rfl) ?_
  refine kM_ok (r := rk) hrk C hl.1 ⟨Nat.le_of_ble_eq_true rfl, Nat.le_of_ble_eq_true rfl⟩ (Nat.le_of_ble_eq_true rfl) ⟨Nat.le_of_ble_eq_true rfl, Nat.le_of_ble_eq_true rfl⟩ d_M_next_2 ?_
  refine lv_if_eq (tgt := 12) hx hb d_M_next_5 (by decide) (fun _ => ?_) (fun c_1 => False.elim (absurd c_1 (by decide)))
  refine lv_iload_n hx hb d_M_next_12 rfl (lv_at hl 2 rfl) ?_
  refine lv_if_lt (tgt := 22) hx hb d_M_next_13 (by decide) (fun c_2 => False.elim (by first | exact absurd c_2 (nI_pos (by omega)) | exact absurd (nI_pos (by omega)) c_2)) (fun c_2 => ?_)
  refine lv_iload_n hx hb d_M_next_16 rfl (lv_at hl 2 rfl) ?_
  refine lv_bipush (v := 9) hx hb d_M_next_17 (by decide) ?_
  refine lv_icmp_le (tgt := 26) hx hb d_M_next_19 (by decide) (fun c_3 => ?_) (fun c_3 => False.elim (by first | exact absurd (nI_le (b := 9) (by omega) (by decide)) c_3 | exact absurd c_3 (nI_le (b := 9) (by omega) (by decide))))
  refine lv_iconst (v := 0) hx hb d_M_next_26 (by decide) ?_
  refine pM_code C hK hP hD hS 0 rfl (Nat.le_of_ble_eq_true rfl) d_M_next_27 (fun H locs hP hD hS => ?_)
  have hP : va_P D vwCl (wM q κ (0, u.2)) H := hP
  have hD : va_D A (wM q κ (0, u.2)) := hD
  generalize eu_4 : ((0, u.2) : SM) = u_4 at hP hD
  refine lv_aload_n hx hb d_M_next_30 rfl (lv_at hl 0 rfl) ?_
  refine gM C hK hP 0 rfl 0 (by decide) k_fl_M_code rfl d_M_next_31 ?_
  refine lv_topi (fun k_5 ek_5 => ?_)
  have ek_5 : k_5 = 0 := ek_5.trans (by rw [← eu_4])
  subst ek_5
  refine lv_if_le (tgt := 39) hx hb d_M_next_34 (by decide) (fun _ => ?_) (fun c_6 => False.elim (absurd c_6 (by decide)))
  refine lv_iload_n hx hb d_M_next_39 rfl (lv_at hl 2 rfl) ?_
  refine lv_istore_n (lv' := [(3, .int (nI d)), (0, .ref (q 0)), (1, .int (nI rk)), (2, .int (nI d))]) hx hb d_M_next_40 rfl hl (by decide) rfl (fun ls hl => ?_)
  refine lv_iconst (v := 0) hx hb d_M_next_41 (by decide) ?_
  refine lv_istore (lv' := [(4, .int (0)), (3, .int (nI d)), (0, .ref (q 0)), (1, .int (nI rk)), (2, .int (nI d))]) hx hb d_M_next_42 hl (by decide) rfl (fun ls hl => ?_)
  refine wf_forH (σ := SM × Nat) 128 (fun i x => x.1 = (0, u.2.1, u.2.2.1, x.1.2.2.2.1, u.2.2.2.2) ∧ wf_NI (fun k => u.2.1 (128 * rk + k)) x.1.2.2.2.1 d i x.2) (fun x => wM q κ x.1) (fun i x => [(4, .int (nI i)), (3, .int (nI x.2)), (0, .ref (q 0)), (1, .int (nI rk)), (2, .int (nI d))]) (fun i x H locs ls hi hI hP hD hS hl ih => ?_) (fun x H locs ls hI hP hD hS hl => ?_) (u_4, d) (⟨by rw [← eu_4], wf_NI_0 hd⟩) hP hD hS (lv_sub hl [0, 1, 2, 3, 4] rfl)
  · obtain ⟨w0, cc_⟩ := x
    have hP : va_P D vwCl (wM q κ w0) H := hP
    have hD : va_D A (wM q κ w0) := hD
    have hl : lv_has ls 5 [(4, .int (nI i)), (3, .int (nI cc_)), (0, .ref (q 0)), (1, .int (nI rk)), (2, .int (nI d))] := hl
    have hI : w0 = (0, u.2.1, u.2.2.1, w0.2.2.2.1, u.2.2.2.2) ∧ wf_NI (fun k => u.2.1 (128 * rk + k)) w0.2.2.2.1 d i cc_ := hI
    refine lv_iload hx hb d_M_next_44 (lv_at hl 0 rfl) ?_
    refine lv_sipush (v := 128) hx hb d_M_next_46 (by decide) ?_
    refine lv_icmp_ge (tgt := 106) hx hb d_M_next_49 (by decide) (fun c_7 => False.elim (by first | exact absurd c_7 (nI_ge hi (by decide)) | exact absurd (nI_ge hi (by decide)) c_7)) (fun c_7 => ?_)
    refine lv_iload_n hx hb d_M_next_52 rfl (lv_at hl 1 rfl) ?_
    refine lv_aload_n hx hb d_M_next_53 rfl (lv_at hl 2 rfl) ?_
    refine gM C hK hP 0 rfl 1 (by decide) k_fl_M_bits rfl d_M_next_54 ?_
    refine lv_sipush (v := 128) hx hb d_M_next_57 (by decide) ?_
    refine lv_iload_n hx hb d_M_next_60 rfl (lv_at hl 3 rfl) ?_
    refine lv_imul hx hb d_M_next_61 ?_
    refine lv_iload hx hb d_M_next_62 (lv_at hl 0 rfl) ?_
    refine lv_iadd hx hb d_M_next_64 ?_
    refine wf_zald C hK hP 1 0 rfl rfl (k := 128 * rk + i) (wf_ia (x := 128 * rk) (y := i) (wf_im (x := 128) (y := rk) rfl rfl) rfl) (by omega) (by decide) d_M_next_65 ?_
    have hc9 := hI.2.1
    refine lv_if_eq (tgt := 74) hx hb d_M_next_66 (by decide) (fun c_8 => ?_) (fun c_8 => ?_)
    · have hy0 : false = u.2.1 (128 * rk + i) := by rw [← (wf_bi0 _).mp c_8, hI.1]
      have hX : cc_ + 10 * false.toNat < 2 ^ 31 := by simp only [Bool.toNat_false, Bool.toNat_true]; omega
      refine lv_iconst (v := 0) hx hb d_M_next_74 (by decide) ?_
      refine lv_iadd hx hb d_M_next_75 ?_
      refine lv_topi (fun k_9 ek_9 => ?_)
      have ek_9 : k_9 = nI (cc_ + 10 * false.toNat) := ek_9.trans (nI_add cc_ _)
      subst ek_9
      refine lv_istore_n (lv' := [(3, .int (nI (cc_ + 10 * false.toNat))), (4, .int (nI i)), (0, .ref (q 0)), (1, .int (nI rk)), (2, .int (nI d))]) hx hb d_M_next_76 rfl hl (by decide) rfl (fun ls hl => ?_)
      refine lv_aload_n hx hb d_M_next_77 rfl (lv_at hl 2 rfl) ?_
      refine gM C hK hP 0 rfl 3 (by decide) k_fl_M_answer rfl d_M_next_78 ?_
      refine lv_iload hx hb d_M_next_81 (lv_at hl 1 rfl) ?_
      refine lv_iload_n hx hb d_M_next_83 rfl (lv_at hl 0 rfl) ?_
      refine lv_iconst (v := 2) hx hb d_M_next_84 (by decide) ?_
      refine lv_irem hx hb d_M_next_85 (by decide) ?_
      refine lv_topi (fun k_10 ek_10 => ?_)
      have ek_10 : k_10 = nI ((cc_ + 10 * false.toNat) % 2) := ek_10.trans (pk_rem hX (d := 2) (by decide) (by decide))
      subst ek_10
      refine lv_iconst (v := 1) hx hb d_M_next_86 (by decide) ?_
      refine wf_cutI (pcj := 95) (ls := ls) (rest := [.int (nI i), .ref (q 3)]) (fun z => z = wf_bi (decide ((cc_ + 10 * false.toNat) % 2 = 1))) (fun z_11 ez_11 => ?_) (fun jn => ?_)
      · subst ez_11
        refine wf_zast C hK hP hD hS 3 2 rfl rfl (k := i) (b := ((decide ((cc_ + 10 * false.toNat) % 2 = 1)))) rfl (by omega) (by decide) d_M_next_95 (fun H locs hP hD hS => ?_)
        have hP : va_P D vwCl (wM q κ (w0.1, w0.2.1, w0.2.2.1, va_up w0.2.2.2.1 i ((decide ((cc_ + 10 * false.toNat) % 2 = 1))), w0.2.2.2.2)) H := hP
        have hD : va_D A (wM q κ (w0.1, w0.2.1, w0.2.2.1, va_up w0.2.2.2.1 i ((decide ((cc_ + 10 * false.toNat) % 2 = 1))), w0.2.2.2.2)) := hD
        generalize eu_12 : ((w0.1, w0.2.1, w0.2.2.1, va_up w0.2.2.2.1 i ((decide ((cc_ + 10 * false.toNat) % 2 = 1))), w0.2.2.2.2) : SM) = u_12 at hP hD
        refine lv_iload_n hx hb d_M_next_96 rfl (lv_at hl 0 rfl) ?_
        refine lv_iconst (v := 2) hx hb d_M_next_97 (by decide) ?_
        refine lv_idiv hx hb d_M_next_98 (by decide) ?_
        refine lv_topi (fun k_13 ek_13 => ?_)
        have ek_13 : k_13 = nI ((cc_ + 10 * false.toNat) / 2) := ek_13.trans (pk_div hX (d := 2) (by decide) (by decide))
        subst ek_13
        refine lv_istore_n (lv' := [(3, .int (nI ((cc_ + 10 * false.toNat) / 2))), (4, .int (nI i)), (0, .ref (q 0)), (1, .int (nI rk)), (2, .int (nI d))]) hx hb d_M_next_99 rfl hl (by decide) rfl (fun ls hl => ?_)
        refine lv_iinc (v := nI (i + 1)) (lv' := [(4, .int (nI (i + 1))), (3, .int (nI ((cc_ + 10 * false.toNat) / 2))), (0, .ref (q 0)), (1, .int (nI rk)), (2, .int (nI d))]) hx hb d_M_next_100 hl (k := 1) rfl (nI_1 _) (by decide) rfl (fun ls hl => ?_)
        refine lv_goto (tgt := 44) hx hb d_M_next_103 (by decide) ?_
        exact ih (u_12, _) H locs ls ⟨by rw [← eu_12, hI.1], by rw [← eu_12]; exact wf_NI_S hI.2 hy0 rfl⟩ hP hD hS (lv_sub hl [0, 1, 2, 3, 4] rfl)
      · refine lv_icmp_ne (tgt := 94) hx hb d_M_next_87 (by decide) (fun c_14 => ?_) (fun c_14 => ?_)
        · refine lv_iconst (v := 0) hx hb d_M_next_94 (by decide) ?_
          exact jn _ (by rw [decide_eq_false (fun h => c_14 ((nI_eq (a := (cc_ + 10 * false.toNat) % 2) (b := 1) (by omega) (by decide)).mpr h))]; rfl)
        · refine lv_iconst (v := 1) hx hb d_M_next_90 (by decide) ?_
          refine lv_goto (tgt := 95) hx hb d_M_next_91 (by decide) ?_
          exact jn _ (by rw [decide_eq_true ((nI_eq (a := (cc_ + 10 * false.toNat) % 2) (b := 1) (by omega) (by decide)).mp c_14)]; rfl)
    · have hy0 : true = u.2.1 (128 * rk + i) := by rw [← (wf_bi1 _).mp c_8, hI.1]
      have hX : cc_ + 10 * true.toNat < 2 ^ 31 := by simp only [Bool.toNat_false, Bool.toNat_true]; omega
      refine lv_bipush (v := 10) hx hb d_M_next_69 (by decide) ?_
      refine lv_goto (tgt := 75) hx hb d_M_next_71 (by decide) ?_
      refine lv_iadd hx hb d_M_next_75 ?_
      refine lv_topi (fun k_15 ek_15 => ?_)
      have ek_15 : k_15 = nI (cc_ + 10 * true.toNat) := ek_15.trans (nI_add cc_ _)
      subst ek_15
      refine lv_istore_n (lv' := [(3, .int (nI (cc_ + 10 * true.toNat))), (4, .int (nI i)), (0, .ref (q 0)), (1, .int (nI rk)), (2, .int (nI d))]) hx hb d_M_next_76 rfl hl (by decide) rfl (fun ls hl => ?_)
      refine lv_aload_n hx hb d_M_next_77 rfl (lv_at hl 2 rfl) ?_
      refine gM C hK hP 0 rfl 3 (by decide) k_fl_M_answer rfl d_M_next_78 ?_
      refine lv_iload hx hb d_M_next_81 (lv_at hl 1 rfl) ?_
      refine lv_iload_n hx hb d_M_next_83 rfl (lv_at hl 0 rfl) ?_
      refine lv_iconst (v := 2) hx hb d_M_next_84 (by decide) ?_
      refine lv_irem hx hb d_M_next_85 (by decide) ?_
      refine lv_topi (fun k_16 ek_16 => ?_)
      have ek_16 : k_16 = nI ((cc_ + 10 * true.toNat) % 2) := ek_16.trans (pk_rem hX (d := 2) (by decide) (by decide))
      subst ek_16
      refine lv_iconst (v := 1) hx hb d_M_next_86 (by decide) ?_
      refine wf_cutI (pcj := 95) (ls := ls) (rest := [.int (nI i), .ref (q 3)]) (fun z => z = wf_bi (decide ((cc_ + 10 * true.toNat) % 2 = 1))) (fun z_17 ez_17 => ?_) (fun jn => ?_)
      · subst ez_17
        refine wf_zast C hK hP hD hS 3 2 rfl rfl (k := i) (b := ((decide ((cc_ + 10 * true.toNat) % 2 = 1)))) rfl (by omega) (by decide) d_M_next_95 (fun H locs hP hD hS => ?_)
        have hP : va_P D vwCl (wM q κ (w0.1, w0.2.1, w0.2.2.1, va_up w0.2.2.2.1 i ((decide ((cc_ + 10 * true.toNat) % 2 = 1))), w0.2.2.2.2)) H := hP
        have hD : va_D A (wM q κ (w0.1, w0.2.1, w0.2.2.1, va_up w0.2.2.2.1 i ((decide ((cc_ + 10 * true.toNat) % 2 = 1))), w0.2.2.2.2)) := hD
        generalize eu_18 : ((w0.1, w0.2.1, w0.2.2.1, va_up w0.2.2.2.1 i ((decide ((cc_ + 10 * true.toNat) % 2 = 1))), w0.2.2.2.2) : SM) = u_18 at hP hD
        refine lv_iload_n hx hb d_M_next_96 rfl (lv_at hl 0 rfl) ?_
        refine lv_iconst (v := 2) hx hb d_M_next_97 (by decide) ?_
        refine lv_idiv hx hb d_M_next_98 (by decide) ?_
        refine lv_topi (fun k_19 ek_19 => ?_)
        have ek_19 : k_19 = nI ((cc_ + 10 * true.toNat) / 2) := ek_19.trans (pk_div hX (d := 2) (by decide) (by decide))
        subst ek_19
        refine lv_istore_n (lv' := [(3, .int (nI ((cc_ + 10 * true.toNat) / 2))), (4, .int (nI i)), (0, .ref (q 0)), (1, .int (nI rk)), (2, .int (nI d))]) hx hb d_M_next_99 rfl hl (by decide) rfl (fun ls hl => ?_)
        refine lv_iinc (v := nI (i + 1)) (lv' := [(4, .int (nI (i + 1))), (3, .int (nI ((cc_ + 10 * true.toNat) / 2))), (0, .ref (q 0)), (1, .int (nI rk)), (2, .int (nI d))]) hx hb d_M_next_100 hl (k := 1) rfl (nI_1 _) (by decide) rfl (fun ls hl => ?_)
        refine lv_goto (tgt := 44) hx hb d_M_next_103 (by decide) ?_
        exact ih (u_18, _) H locs ls ⟨by rw [← eu_18, hI.1], by rw [← eu_18]; exact wf_NI_S hI.2 hy0 rfl⟩ hP hD hS (lv_sub hl [0, 1, 2, 3, 4] rfl)
      · refine lv_icmp_ne (tgt := 94) hx hb d_M_next_87 (by decide) (fun c_20 => ?_) (fun c_20 => ?_)
        · refine lv_iconst (v := 0) hx hb d_M_next_94 (by decide) ?_
          exact jn _ (by rw [decide_eq_false (fun h => c_20 ((nI_eq (a := (cc_ + 10 * true.toNat) % 2) (b := 1) (by omega) (by decide)).mpr h))]; rfl)
        · refine lv_iconst (v := 1) hx hb d_M_next_90 (by decide) ?_
          refine lv_goto (tgt := 95) hx hb d_M_next_91 (by decide) ?_
          exact jn _ (by rw [decide_eq_true ((nI_eq (a := (cc_ + 10 * true.toNat) % 2) (b := 1) (by omega) (by decide)).mp c_20)]; rfl)
  · obtain ⟨w0, cc_⟩ := x
    have hP : va_P D vwCl (wM q κ w0) H := hP
    have hD : va_D A (wM q κ w0) := hD
    have hl : lv_has ls 5 [(4, .int (nI 128)), (3, .int (nI cc_)), (0, .ref (q 0)), (1, .int (nI rk)), (2, .int (nI d))] := hl
    have hI : w0 = (0, u.2.1, u.2.2.1, w0.2.2.2.1, u.2.2.2.2) ∧ wf_NI (fun k => u.2.1 (128 * rk + k)) w0.2.2.2.1 d 128 cc_ := hI
    refine lv_iload hx hb d_M_next_44 (lv_at hl 0 rfl) ?_
    refine lv_sipush (v := 128) hx hb d_M_next_46 (by decide) ?_
    refine lv_icmp_ge (tgt := 106) hx hb d_M_next_49 (by decide) (fun c_21 => ?_) (fun c_21 => False.elim (by first | exact absurd (nI_le (Nat.le_refl 128) (by decide)) c_21 | exact absurd c_21 (nI_le (Nat.le_refl 128) (by decide))))
    refine lv_iload_n hx hb d_M_next_106 rfl (lv_at hl 1 rfl) ?_
    have hc9 := hI.2.1
    obtain ⟨k1, k2⟩ := wf_ni_ar (a := wf_sm w0.2.2.2.1 128) (v := wf_R u.2.1 rk) (N := wf_NN) (c := cc_) (d := d) (hI.2.2.trans (by rfl) |> fun h => by rw [show wf_NN = 2 ^ 128 from wf_p128.symm]; exact h) (by rw [show wf_NN = 2 ^ 128 from wf_p128.symm]; exact wf_sm_lt _ 128)
    refine lv_if_le (tgt := 112) hx hb d_M_next_107 (by decide) (fun c1 => ?_) (fun c1 => ?_)
    · have hc0 : cc_ = 0 := by rcases Nat.eq_zero_or_pos cc_ with h | h; exact h; exact absurd c1 (nI_nle h (by omega))
      refine lv_aload_n hx hb d_M_next_112 rfl (lv_at hl 2 rfl) ?_
      refine lv_aload_n hx hb d_M_next_113 rfl (lv_at hl 2 rfl) ?_
      refine gM C hK hP 0 rfl 3 (by decide) k_fl_M_answer rfl d_M_next_114 ?_
      refine lv_iconst (v := 0) hx hb d_M_next_117 (by decide) ?_
      refine lv_iload_n hx hb d_M_next_118 rfl (lv_at hl 3 rfl) ?_
      refine kM_takeAnswer (b := 0) (rt := rk) (by decide) hrk C hl.1 ⟨Nat.le_of_ble_eq_true rfl, Nat.le_of_ble_eq_true rfl⟩ (Nat.le_of_ble_eq_true rfl) ⟨Nat.le_of_ble_eq_true rfl, Nat.le_of_ble_eq_true rfl⟩ hP hK hD hS hA d_M_next_119 (fun u_22 H locs eu_22 hP hD hS => ?_)
      refine lv_iconst (v := 1) hx hb d_M_next_122 (by decide) ?_
      exact wf_retz C hr (rfl) hlocks u_22 (Or.inl ⟨rfl, (k1 hc0).1, wf_fin_next hI.1 eu_22 (k1 hc0).2⟩) hP hK hD hS (fun _ h => h) d_M_next_123
    · have hc0 : 0 < cc_ := by rcases Nat.eq_zero_or_pos cc_ with h | h; exact absurd (show nI cc_ ≤ 0 by rw [h]; decide) c1; exact h
      refine lv_iconst (v := 0) hx hb d_M_next_110 (by decide) ?_
      exact wf_retz C hr (rfl) hlocks w0 (Or.inr ⟨rfl, k2 hc0, by rw [hI.1], fun j _ => by rw [hI.1], by rw [hI.1]⟩) hP hK hD hS (fun _ h => h) d_M_next_111
