/-! ===== the law, case by case, the rest ===== -/
set_option maxHeartbeats 4000000 in
set_option maxRecDepth 100000 in
theorem law_6_bad {p : Program} {l : Launch} {e : Env} {s : State} {m : MethodId} {below : List Frame} {meth : Method} {c : Code} {D : va_G} {q r : Nat → Nat} {κ μ : Nat → ClassId} {o : Nat} {ko : ClassId} {b L : Nat} {xs : Nat → Int32} {t : Nat} {x : SX × (Nat → Int64)} {w : SM} {H : Heap} {locs : List Loc} {ls : Array Slot} (hst : l.stackTraces = false) (hL : L ≤ 3072) (C0 : lw_At p s m meth c b L xs) (hAll : wx_All s) (hK : va_K D vwCl (tyL ko κ μ) s) (ht : 6 * t + 6 ≤ L) (hbad : ((wf_no (xs (6 * t + 1)) || wf_no (xs (6 * t + 2)) || wf_no (xs (6 * t + 3))) || (decide ((xs (6 * t + 2)) = (xs (6 * t + 3))))) = true) (hIn : wf_In x.1 w) (hP : va_P D vwCl (wL o ko q κ r μ x w) H) (hD : va_D (lwA s) (wL o ko q κ r μ x w)) (hS : va_S (lwA s) s.heap H locs) (hl : lv_has ls 8 [(0, .ref (b)), (1, .ref (q 0)), (2, .ref (r 0)), (3, .ref (o)), (4, .int (nI (6 * t)))]) (back : ∀ (x' : SX × (Nat → Int64)) (w' : SM) (H' : Heap) (locs' : List Loc) (ls' : Array Slot), wf_In x'.1 w' → va_P D vwCl (wL o ko q κ r μ x' w') H' → va_D (lwA s) (wL o ko q κ r μ x' w') → va_S (lwA s) s.heap H' locs' → lv_has ls' 8 [(0, .ref (b)), (1, .ref (q 0)), (2, .ref (r 0)), (3, .ref (o)), (4, .int (nI (6 * t)))] → W p l e room_1 s m #[Value.ref b] below meth c H' locs' (12 + (t + 1)) (1905 + 6 * (t + 1)) (lw_Z below #[Value.ref b] s) (F0 m 1124 ls' [])) : W p l e room_1 s m #[Value.ref b] below meth c H locs (12 + t) (1905 + 6 * t) (lw_Z below #[Value.ref b] s) (F0 m 637 ls []) := by
  obtain ⟨hx, hb, hr, hml, hown, hts0, hX, hbl, hlocks, hgv⟩ := C0
  have hts := fun w h => hts0 w (wG_tbl h)
  have C : CallFix p m c code 8 s #[Value.ref b] wG RL := ⟨hx, hb, hml, hown, hts⟩
  have hA : ∀ z : Nat, s.heap.size ≤ z → lwA s z := fun _ h => h
  have hbA : ¬ lwA s b := Nat.not_le.mpr hbl
  refine lv_aload_n hx hb d_law_637 rfl (lv_at hl 1 rfl) ?_
  refine lv_aload_n hx hb d_law_638 rfl (lv_at hl 0 rfl) ?_
  refine lv_iload hx hb d_law_639 (lv_at hl 4 rfl) ?_
  refine lv_iconst (v := 1) hx hb d_law_641 (by decide) ?_
  refine lv_iadd hx hb d_law_642 ?_
  refine lw_ld hx hb hX hbl hbA hS (k := 6 * t + 1) (nI_add (6 * t) 1) (by omega) hL d_law_643 ?_
  refine lv_aload_n hx hb d_law_644 rfl (lv_at hl 0 rfl) ?_
  refine lv_iload hx hb d_law_645 (lv_at hl 4 rfl) ?_
  refine lv_iconst (v := 2) hx hb d_law_647 (by decide) ?_
  refine lv_iadd hx hb d_law_648 ?_
  refine lw_ld hx hb hX hbl hbA hS (k := 6 * t + 2) (nI_add (6 * t) 2) (by omega) hL d_law_649 ?_
  refine lv_aload_n hx hb d_law_650 rfl (lv_at hl 0 rfl) ?_
  refine lv_iload hx hb d_law_651 (lv_at hl 4 rfl) ?_
  refine lv_iconst (v := 3) hx hb d_law_653 (by decide) ?_
  refine lv_iadd hx hb d_law_654 ?_
  refine lw_ld hx hb hX hbl hbA hS (k := 6 * t + 3) (nI_add (6 * t) 3) (by omega) hL d_law_655 ?_
  have hPc := hP.sub (ws' := wXO o ko q κ x) [0, 1, 2, 3, 4, 5] rfl
  have hDc := hD.sub (ws' := wXO o ko q κ x) [0, 1, 2, 3, 4, 5] (by decide) rfl
  have hKc := hK.sub (tys' := tyXO ko κ) [0, 1, 2, 3, 4] rfl
  refine wj_i (ws := wL o ko q κ r μ x w) (wc := wXO o ko q κ x) (wr := wM r μ w) (mkAll := fun z => wL o ko q κ r μ z w) [0, 1, 2, 3, 4, 5] [6, 7, 8, 9, 10, 11] [6, 7, 8, 9, 10, 11, 0, 1, 2, 3, 4, 5] rfl rfl (by decide) (by decide) (by decide) (fun _ => rfl) (wx_runSH (n := 4) (As := [.ref (q 0), .int (xs (6 * t + 1)), .int (xs (6 * t + 2)), .int (xs (6 * t + 3))]) (rest := []) C (c_L_root_bad l hst D q κ o ko x (xs (6 * t + 1)) (xs (6 * t + 2)) (xs (6 * t + 3)) hbad H.size) (wG_SH (fun _ h => h) k_ml_L_96 k_st_L_root k_in_L k_L_root) rfl rfl rfl ⟨rfl, by decide, by decide, by decide +kernel⟩ ⟨Nat.le_of_ble_eq_true rfl, Nat.le_of_ble_eq_true rfl⟩ ⟨wf_blindO, wf_preO hPc hKc hDc hAll (fun z hz => hS.2.1 z hz (Nat.not_le.mpr hz))⟩ rfl hl.1 rfl (Nat.le_of_ble_eq_true rfl) d_law_656 ⟨by show _ ≤ 1041; omega, by show _ ≤ 10127; omega⟩) (fun _ h => h) hS hP hD hA (fun kr x1 H locs ew hP hD hS => ?_)
  obtain ⟨k0, ew⟩ := ew
  subst k0
  rw [ew] at hP hD
  have hP : va_P D vwCl (wL o ko q κ r μ x w) H := hP
  have hD : va_D (lwA s) (wL o ko q κ r μ x w) := hD
  refine lv_topi (fun v_1 ev_1 => ?_)
  refine lv_istore (lv' := [(5, .int (v_1)), (0, .ref (b)), (1, .ref (q 0)), (2, .ref (r 0)), (3, .ref (o)), (4, .int (nI (6 * t)))]) hx hb d_law_659 hl (by decide) rfl (fun ls hl => ?_)
  refine lv_aload_n hx hb d_law_661 rfl (lv_at hl 3 rfl) ?_
  refine lv_aload_n hx hb d_law_662 rfl (lv_at hl 1 rfl) ?_
  refine lv_iload hx hb d_law_663 (lv_at hl 5 rfl) ?_
  refine lv_iconst (v := 1) hx hb d_law_665 (by decide) ?_
  refine lv_iadd hx hb d_law_666 ?_
  refine lw_ld hx hb hX hbl hbA hS (k := 6 * t + 1) (nI_add (6 * t) 1) (by omega) hL d_law_667 ?_
  refine lv_aload_n hx hb d_law_668 rfl (lv_at hl 1 rfl) ?_
  refine lv_iload hx hb d_law_669 (lv_at hl 5 rfl) ?_
  refine lv_iconst (v := 2) hx hb d_law_671 (by decide) ?_
  refine lv_iadd hx hb d_law_672 ?_
  refine lw_ld hx hb hX hbl hbA hS (k := 6 * t + 2) (nI_add (6 * t) 2) (by omega) hL d_law_673 ?_
  refine lv_aload_n hx hb d_law_674 rfl (lv_at hl 1 rfl) ?_
  refine lv_iload hx hb d_law_675 (lv_at hl 5 rfl) ?_
  refine lv_iconst (v := 3) hx hb d_law_677 (by decide) ?_
  refine lv_iadd hx hb d_law_678 ?_
  refine lw_ld hx hb hX hbl hbA hS (k := 6 * t + 3) (nI_add (6 * t) 3) (by omega) hL d_law_679 ?_
  have hPc := hP.sub (ws' := wM r μ w) [6, 7, 8, 9, 10, 11] rfl
  have hDc := hD.sub (ws' := wM r μ w) [6, 7, 8, 9, 10, 11] (by decide) rfl
  have hKc := hK.sub (tys' := tyM μ) [5, 6, 7, 8, 9] rfl
  refine wj_v (ws := wL o ko q κ r μ x w) (wc := wM r μ w) (wr := wXO o ko q κ x) (mkAll := fun z => wL o ko q κ r μ x z) [6, 7, 8, 9, 10, 11] [0, 1, 2, 3, 4, 5] [0, 1, 2, 3, 4, 5, 6, 7, 8, 9, 10, 11] rfl rfl (by decide) (by decide) (by decide) (fun _ => rfl) (va_runV (As := [.int (xs (6 * t + 1)), .int (xs (6 * t + 2)), .int (xs (6 * t + 3))]) (rest := []) C (c_M_rootBad l D r μ w (xs (6 * t + 1)) (xs (6 * t + 2)) (xs (6 * t + 3)) hbad H.size) (cwV 3 C.2.2.2.2 (wG_V (fun _ h => h) k_ml_L_99 k_im_M_root k_se_M_root k_in_M k_M_root) rfl rfl rfl (by decide +kernel) ⟨Nat.le_of_ble_eq_true rfl, Nat.le_of_ble_eq_true rfl⟩) ⟨wf_blind, va_recv hKc hPc (ci := 1) (q0 := 0) rfl rfl, wf_pre hPc hKc hDc⟩ rfl rfl hl.1 rfl (lv_room (Nat.le_of_ble_eq_true rfl)) d_law_680 ⟨by show _ ≤ 1041; omega, by show _ ≤ 10127; omega⟩) (fun _ h => h) hS hP hD hA (fun w1 H locs em hP hD hS => ?_)
  refine lv_aload_n hx hb d_law_683 rfl (lv_at hl 3 rfl) ?_
  have hPc := hP.sub (ws' := wM r μ w1) [6, 7, 8, 9, 10, 11] rfl
  have hDc := hD.sub (ws' := wM r μ w1) [6, 7, 8, 9, 10, 11] (by decide) rfl
  have hKc := hK.sub (tys' := tyM μ) [5, 6, 7, 8, 9] rfl
  refine vp_callSi (W.runV (As := []) (rest := []) C (c_M_thrown l D r μ w1 H.size) (cwV 0 C.2.2.2.2 (wG_V (fun _ h => h) k_ml_L_74 k_im_M_thrown k_se_M_thrown k_in_M k_M_thrown) rfl rfl rfl (by decide +kernel) ⟨Nat.le_of_ble_eq_true rfl, Nat.le_of_ble_eq_true rfl⟩) ⟨wf_blind, va_recv hKc hPc (ci := 1) (q0 := 0) rfl rfl, wf_pre hPc hKc hDc⟩ rfl rfl hl.1 rfl (lv_room (Nat.le_of_ble_eq_true rfl)) d_law_684 ⟨by show _ ≤ 1041; omega, by show _ ≤ 10127; omega⟩) (fun tr htr => ?_)
  refine lv_iload hx hb d_law_687 (lv_at hl 0 rfl) ?_
  refine lv_icmp_eq (tgt := 694) hx hb d_law_689 (by decide) (fun c_2 => ?_) (fun c_2 => False.elim (by first | exact absurd (htr.trans (by rw [em, ev_1])) c_2 | exact absurd c_2 (htr.trans (by rw [em, ev_1]))))
  refine lv_goto (tgt := 1124) hx hb d_law_694 (by decide) ?_
  refine W.widen (k := 12 + (t + 1)) (n := 1905 + 6 * (t + 1)) (by omega) (by omega) ?_
  exact back x w1 H locs ls (In_code hIn em) hP hD hS (lv_sub hl [1, 2, 3, 4, 5] rfl)

set_option maxHeartbeats 4000000 in
set_option maxRecDepth 100000 in
theorem law_7_up {p : Program} {l : Launch} {e : Env} {s : State} {m : MethodId} {below : List Frame} {meth : Method} {c : Code} {D : va_G} {q r : Nat → Nat} {κ μ : Nat → ClassId} {o : Nat} {ko : ClassId} {b L : Nat} {xs : Nat → Int32} {t : Nat} {x : SX × (Nat → Int64)} {w : SM} {H : Heap} {locs : List Loc} {ls : Array Slot} (hst : l.stackTraces = false) (hL : L ≤ 3072) (C0 : lw_At p s m meth c b L xs) (hAll : wx_All s) (hK : va_K D vwCl (tyL ko κ μ) s) (ht : 6 * t + 6 ≤ L) {ra : Nat} (hra : ra < 8) (era : xs (6 * t + 1) = nI ra) {rt : Nat} (hrt : rt < 8) (ert : xs (6 * t + 3) = nI rt) {n : Nat} (hn : n < 2 ^ 31) (en : xs (6 * t + 2) = nI n) (hIn : wf_In x.1 w) (hP : va_P D vwCl (wL o ko q κ r μ x w) H) (hD : va_D (lwA s) (wL o ko q κ r μ x w)) (hS : va_S (lwA s) s.heap H locs) (hl : lv_has ls 8 [(0, .ref (b)), (1, .ref (q 0)), (2, .ref (r 0)), (3, .ref (o)), (4, .int (nI (6 * t)))]) (back : ∀ (x' : SX × (Nat → Int64)) (w' : SM) (H' : Heap) (locs' : List Loc) (ls' : Array Slot), wf_In x'.1 w' → va_P D vwCl (wL o ko q κ r μ x' w') H' → va_D (lwA s) (wL o ko q κ r μ x' w') → va_S (lwA s) s.heap H' locs' → lv_has ls' 8 [(0, .ref (b)), (1, .ref (q 0)), (2, .ref (r 0)), (3, .ref (o)), (4, .int (nI (6 * t)))] → W p l e room_1 s m #[Value.ref b] below meth c H' locs' (12 + (t + 1)) (1905 + 6 * (t + 1)) (lw_Z below #[Value.ref b] s) (F0 m 1124 ls' [])) : W p l e room_1 s m #[Value.ref b] below meth c H locs (12 + t) (1905 + 6 * t) (lw_Z below #[Value.ref b] s) (F0 m 697 ls []) := by
  obtain ⟨hx, hb, hr, hml, hown, hts0, hX, hbl, hlocks, hgv⟩ := C0
  have hts := fun w h => hts0 w (wG_tbl h)
  have C : CallFix p m c code 8 s #[Value.ref b] wG RL := ⟨hx, hb, hml, hown, hts⟩
  have hA : ∀ z : Nat, s.heap.size ≤ z → lwA s z := fun _ h => h
  have hbA : ¬ lwA s b := Nat.not_le.mpr hbl
  refine lv_aload_n hx hb d_law_697 rfl (lv_at hl 1 rfl) ?_
  refine lv_aload_n hx hb d_law_698 rfl (lv_at hl 0 rfl) ?_
  refine lv_iload hx hb d_law_699 (lv_at hl 4 rfl) ?_
  refine lv_iconst (v := 1) hx hb d_law_701 (by decide) ?_
  refine lv_iadd hx hb d_law_702 ?_
  refine lw_ld hx hb hX hbl hbA hS (k := 6 * t + 1) (nI_add (6 * t) 1) (by omega) hL d_law_703 ?_
  rw [era]
  refine lv_aload_n hx hb d_law_704 rfl (lv_at hl 0 rfl) ?_
  refine lv_iload hx hb d_law_705 (lv_at hl 4 rfl) ?_
  refine lv_iconst (v := 2) hx hb d_law_707 (by decide) ?_
  refine lv_iadd hx hb d_law_708 ?_
  refine lw_ld hx hb hX hbl hbA hS (k := 6 * t + 2) (nI_add (6 * t) 2) (by omega) hL d_law_709 ?_
  rw [en]
  refine lv_aload_n hx hb d_law_710 rfl (lv_at hl 0 rfl) ?_
  refine lv_iload hx hb d_law_711 (lv_at hl 4 rfl) ?_
  refine lv_iconst (v := 3) hx hb d_law_713 (by decide) ?_
  refine lv_iadd hx hb d_law_714 ?_
  refine lw_ld hx hb hX hbl hbA hS (k := 6 * t + 3) (nI_add (6 * t) 3) (by omega) hL d_law_715 ?_
  rw [ert]
  refine lv_aload_n hx hb d_law_716 rfl (lv_at hl 3 rfl) ?_
  have hPc := hP.sub (ws' := wXO o ko q κ x) [0, 1, 2, 3, 4, 5] rfl
  have hDc := hD.sub (ws' := wXO o ko q κ x) [0, 1, 2, 3, 4, 5] (by decide) rfl
  have hKc := hK.sub (tys' := tyXO ko κ) [0, 1, 2, 3, 4] rfl
  refine wj_i (ws := wL o ko q κ r μ x w) (wc := wXO o ko q κ x) (wr := wM r μ w) (mkAll := fun z => wL o ko q κ r μ z w) [0, 1, 2, 3, 4, 5] [6, 7, 8, 9, 10, 11] [6, 7, 8, 9, 10, 11, 0, 1, 2, 3, 4, 5] rfl rfl (by decide) (by decide) (by decide) (fun _ => rfl) (wx_runSH (n := 5) (As := [.ref (q 0), .int (nI ra), .int (nI n), .int (nI rt), .ref (o)]) (rest := []) C (c_L_shiftUp_ok l hst D q κ o ko x ra hra n hn rt hrt H.size) (wG_SH (fun _ h => h) k_ml_L_100 k_st_L_shift k_in_L k_L_shift) rfl rfl rfl ⟨rfl, by decide, by decide, by decide +kernel⟩ ⟨Nat.le_of_ble_eq_true rfl, Nat.le_of_ble_eq_true rfl⟩ ⟨wf_blindO, wf_preO hPc hKc hDc hAll (fun z hz => hS.2.1 z hz (Nat.not_le.mpr hz))⟩ rfl hl.1 rfl (Nat.le_of_ble_eq_true rfl) d_law_717 ⟨by show _ ≤ 1041; omega, by show _ ≤ 10127; omega⟩) (fun _ h => h) hS hP hD hA (fun kr x1 H locs ew hP hD hS => ?_)
  obtain ⟨k0, ew⟩ := ew
  subst k0
  refine lv_istore (lv' := [(5, .int (0)), (0, .ref (b)), (1, .ref (q 0)), (2, .ref (r 0)), (3, .ref (o)), (4, .int (nI (6 * t)))]) hx hb d_law_720 hl (by decide) rfl (fun ls hl => ?_)
  refine lv_aload_n hx hb d_law_722 rfl (lv_at hl 3 rfl) ?_
  refine lv_aload_n hx hb d_law_723 rfl (lv_at hl 1 rfl) ?_
  refine lv_iload hx hb d_law_724 (lv_at hl 5 rfl) ?_
  refine lv_iconst (v := 1) hx hb d_law_726 (by decide) ?_
  refine lv_iadd hx hb d_law_727 ?_
  refine lw_ld hx hb hX hbl hbA hS (k := 6 * t + 1) (nI_add (6 * t) 1) (by omega) hL d_law_728 ?_
  rw [era]
  refine lv_aload_n hx hb d_law_729 rfl (lv_at hl 1 rfl) ?_
  refine lv_iload hx hb d_law_730 (lv_at hl 5 rfl) ?_
  refine lv_iconst (v := 2) hx hb d_law_732 (by decide) ?_
  refine lv_iadd hx hb d_law_733 ?_
  refine lw_ld hx hb hX hbl hbA hS (k := 6 * t + 2) (nI_add (6 * t) 2) (by omega) hL d_law_734 ?_
  rw [en]
  refine lv_aload_n hx hb d_law_735 rfl (lv_at hl 1 rfl) ?_
  refine lv_iload hx hb d_law_736 (lv_at hl 5 rfl) ?_
  refine lv_iconst (v := 3) hx hb d_law_738 (by decide) ?_
  refine lv_iadd hx hb d_law_739 ?_
  refine lw_ld hx hb hX hbl hbA hS (k := 6 * t + 3) (nI_add (6 * t) 3) (by omega) hL d_law_740 ?_
  rw [ert]
  have hPc := hP.sub (ws' := wM r μ w) [6, 7, 8, 9, 10, 11] rfl
  have hDc := hD.sub (ws' := wM r μ w) [6, 7, 8, 9, 10, 11] (by decide) rfl
  have hKc := hK.sub (tys' := tyM μ) [5, 6, 7, 8, 9] rfl
  refine wj_i (ws := wL o ko q κ r μ x1 w) (wc := wM r μ w) (wr := wXO o ko q κ x1) (mkAll := fun z => wL o ko q κ r μ x1 z) [6, 7, 8, 9, 10, 11] [0, 1, 2, 3, 4, 5] [0, 1, 2, 3, 4, 5, 6, 7, 8, 9, 10, 11] rfl rfl (by decide) (by decide) (by decide) (fun _ => rfl) (va_runV (As := [.int (nI ra), .int (nI n), .int (nI rt)]) (rest := []) C (c_M_shiftUp l D r μ w ra hra n hn rt hrt H.size) (cwV 3 C.2.2.2.2 (wG_V (fun _ h => h) k_ml_L_102 k_im_M_shift k_se_M_shift k_in_M k_M_shift) rfl rfl rfl (by decide +kernel) ⟨Nat.le_of_ble_eq_true rfl, Nat.le_of_ble_eq_true rfl⟩) ⟨wf_blind, va_recv hKc hPc (ci := 1) (q0 := 0) rfl rfl, wf_pre hPc hKc hDc⟩ rfl rfl hl.1 rfl (lv_room (Nat.le_of_ble_eq_true rfl)) d_law_741 ⟨by show _ ≤ 1041; omega, by show _ ≤ 10127; omega⟩) (fun _ h => h) hS hP hD hA (fun mr w1 H locs em hP hD hS => ?_)
  obtain ⟨rv, ⟨ev, ex⟩, ez⟩ := ew
  obtain ⟨em0, em⟩ := em
  have hcode := em.1
  rw [hIn.1 ra hra] at ev ex
  have hIn1 : wf_In x1.1 w1 := In_st hIn ex em rfl
  have hz : x1.2 0 = wf_zl mr := by rw [ez, ev, em0]
  refine lv_istore (lv' := [(6, .int (mr)), (5, .int (0)), (0, .ref (b)), (1, .ref (q 0)), (2, .ref (r 0)), (3, .ref (o)), (4, .int (nI (6 * t)))]) hx hb d_law_744 hl (by decide) rfl (fun ls hl => ?_)
  refine lv_aload_n hx hb d_law_746 rfl (lv_at hl 4 rfl) ?_
  have hPc := hP.sub (ws' := wM r μ w1) [6, 7, 8, 9, 10, 11] rfl
  have hDc := hD.sub (ws' := wM r μ w1) [6, 7, 8, 9, 10, 11] (by decide) rfl
  have hKc := hK.sub (tys' := tyM μ) [5, 6, 7, 8, 9] rfl
  refine vp_callSi (W.runV (As := []) (rest := []) C (c_M_thrown l D r μ w1 H.size) (cwV 0 C.2.2.2.2 (wG_V (fun _ h => h) k_ml_L_74 k_im_M_thrown k_se_M_thrown k_in_M k_M_thrown) rfl rfl rfl (by decide +kernel) ⟨Nat.le_of_ble_eq_true rfl, Nat.le_of_ble_eq_true rfl⟩) ⟨wf_blind, va_recv hKc hPc (ci := 1) (q0 := 0) rfl rfl, wf_pre hPc hKc hDc⟩ rfl rfl hl.1 rfl (lv_room (Nat.le_of_ble_eq_true rfl)) d_law_747 ⟨by show _ ≤ 1041; omega, by show _ ≤ 10127; omega⟩) (fun tr htr => ?_)
  refine lv_iload hx hb d_law_750 (lv_at hl 1 rfl) ?_
  refine lv_icmp_eq (tgt := 757) hx hb d_law_752 (by decide) (fun c_1 => ?_) (fun c_1 => False.elim (by first | exact absurd (htr.trans hcode) c_1 | exact absurd c_1 (htr.trans hcode)))
  refine lv_iload hx hb d_law_757 (lv_at hl 1 rfl) ?_
  refine lv_if_ne (tgt := 781) hx hb d_law_759 (by decide) (fun c_2 => False.elim (absurd c_2 (by decide))) (fun _ => ?_)
  refine lv_aload_n hx hb d_law_762 rfl (lv_at hl 5 rfl) ?_
  refine lv_iconst (v := 0) hx hb d_law_763 (by decide) ?_
  refine wf_lald C hK hP 5 4 rfl rfl (k := 0) rfl (by decide) (by decide) d_law_764 ?_
  refine lv_iload hx hb d_law_765 (lv_at hl 0 rfl) ?_
  refine lv_if_eq (tgt := 774) hx hb d_law_767 (by decide) (fun c_3 => ?_) (fun c_3 => ?_)
  · have hz1 : x1.2 0 = 0 := hz.trans (by unfold wf_zl; rw [if_pos c_3])
    refine lv_lconst (v := 0) hx hb d_law_774 (by decide) ?_
    refine W.lcmp hx hb d_law_775 ?_
    refine lv_if_eq (tgt := 781) hx hb d_law_776 (by decide) (fun c_4 => ?_) (fun c_4 => False.elim (by first | exact absurd ((lg_cmp_eq _ _).mpr hz1) c_4 | exact absurd c_4 ((lg_cmp_eq _ _).mpr hz1)))
    refine lv_goto (tgt := 1124) hx hb d_law_781 (by decide) ?_
    refine W.widen (k := 12 + (t + 1)) (n := 1905 + 6 * (t + 1)) (by omega) (by omega) ?_
    exact back x1 w1 H locs ls hIn1 hP hD hS (lv_sub hl [2, 3, 4, 5, 6] rfl)
  · have hz1 : x1.2 0 = 1 := hz.trans (by unfold wf_zl; rw [if_neg c_3])
    refine lv_lconst (v := 1) hx hb d_law_770 (by decide) ?_
    refine lv_goto (tgt := 775) hx hb d_law_771 (by decide) ?_
    refine W.lcmp hx hb d_law_775 ?_
    refine lv_if_eq (tgt := 781) hx hb d_law_776 (by decide) (fun c_5 => ?_) (fun c_5 => False.elim (by first | exact absurd ((lg_cmp_eq _ _).mpr hz1) c_5 | exact absurd c_5 ((lg_cmp_eq _ _).mpr hz1)))
    refine lv_goto (tgt := 1124) hx hb d_law_781 (by decide) ?_
    refine W.widen (k := 12 + (t + 1)) (n := 1905 + 6 * (t + 1)) (by omega) (by omega) ?_
    exact back x1 w1 H locs ls hIn1 hP hD hS (lv_sub hl [2, 3, 4, 5, 6] rfl)

set_option maxHeartbeats 4000000 in
set_option maxRecDepth 100000 in
theorem law_7_down {p : Program} {l : Launch} {e : Env} {s : State} {m : MethodId} {below : List Frame} {meth : Method} {c : Code} {D : va_G} {q r : Nat → Nat} {κ μ : Nat → ClassId} {o : Nat} {ko : ClassId} {b L : Nat} {xs : Nat → Int32} {t : Nat} {x : SX × (Nat → Int64)} {w : SM} {H : Heap} {locs : List Loc} {ls : Array Slot} (hst : l.stackTraces = false) (hL : L ≤ 3072) (C0 : lw_At p s m meth c b L xs) (hAll : wx_All s) (hK : va_K D vwCl (tyL ko κ μ) s) (ht : 6 * t + 6 ≤ L) {ra : Nat} (hra : ra < 8) (era : xs (6 * t + 1) = nI ra) {rt : Nat} (hrt : rt < 8) (ert : xs (6 * t + 3) = nI rt) {n : Nat} (hn0 : 0 < n) (hn : n ≤ 2147483648) (en : xs (6 * t + 2) = -nI n) (hIn : wf_In x.1 w) (hP : va_P D vwCl (wL o ko q κ r μ x w) H) (hD : va_D (lwA s) (wL o ko q κ r μ x w)) (hS : va_S (lwA s) s.heap H locs) (hl : lv_has ls 8 [(0, .ref (b)), (1, .ref (q 0)), (2, .ref (r 0)), (3, .ref (o)), (4, .int (nI (6 * t)))]) (back : ∀ (x' : SX × (Nat → Int64)) (w' : SM) (H' : Heap) (locs' : List Loc) (ls' : Array Slot), wf_In x'.1 w' → va_P D vwCl (wL o ko q κ r μ x' w') H' → va_D (lwA s) (wL o ko q κ r μ x' w') → va_S (lwA s) s.heap H' locs' → lv_has ls' 8 [(0, .ref (b)), (1, .ref (q 0)), (2, .ref (r 0)), (3, .ref (o)), (4, .int (nI (6 * t)))] → W p l e room_1 s m #[Value.ref b] below meth c H' locs' (12 + (t + 1)) (1905 + 6 * (t + 1)) (lw_Z below #[Value.ref b] s) (F0 m 1124 ls' [])) : W p l e room_1 s m #[Value.ref b] below meth c H locs (12 + t) (1905 + 6 * t) (lw_Z below #[Value.ref b] s) (F0 m 697 ls []) := by
  obtain ⟨hx, hb, hr, hml, hown, hts0, hX, hbl, hlocks, hgv⟩ := C0
  have hts := fun w h => hts0 w (wG_tbl h)
  have C : CallFix p m c code 8 s #[Value.ref b] wG RL := ⟨hx, hb, hml, hown, hts⟩
  have hA : ∀ z : Nat, s.heap.size ≤ z → lwA s z := fun _ h => h
  have hbA : ¬ lwA s b := Nat.not_le.mpr hbl
  refine lv_aload_n hx hb d_law_697 rfl (lv_at hl 1 rfl) ?_
  refine lv_aload_n hx hb d_law_698 rfl (lv_at hl 0 rfl) ?_
  refine lv_iload hx hb d_law_699 (lv_at hl 4 rfl) ?_
  refine lv_iconst (v := 1) hx hb d_law_701 (by decide) ?_
  refine lv_iadd hx hb d_law_702 ?_
  refine lw_ld hx hb hX hbl hbA hS (k := 6 * t + 1) (nI_add (6 * t) 1) (by omega) hL d_law_703 ?_
  rw [era]
  refine lv_aload_n hx hb d_law_704 rfl (lv_at hl 0 rfl) ?_
  refine lv_iload hx hb d_law_705 (lv_at hl 4 rfl) ?_
  refine lv_iconst (v := 2) hx hb d_law_707 (by decide) ?_
  refine lv_iadd hx hb d_law_708 ?_
  refine lw_ld hx hb hX hbl hbA hS (k := 6 * t + 2) (nI_add (6 * t) 2) (by omega) hL d_law_709 ?_
  rw [en]
  refine lv_aload_n hx hb d_law_710 rfl (lv_at hl 0 rfl) ?_
  refine lv_iload hx hb d_law_711 (lv_at hl 4 rfl) ?_
  refine lv_iconst (v := 3) hx hb d_law_713 (by decide) ?_
  refine lv_iadd hx hb d_law_714 ?_
  refine lw_ld hx hb hX hbl hbA hS (k := 6 * t + 3) (nI_add (6 * t) 3) (by omega) hL d_law_715 ?_
  rw [ert]
  refine lv_aload_n hx hb d_law_716 rfl (lv_at hl 3 rfl) ?_
  have hPc := hP.sub (ws' := wXO o ko q κ x) [0, 1, 2, 3, 4, 5] rfl
  have hDc := hD.sub (ws' := wXO o ko q κ x) [0, 1, 2, 3, 4, 5] (by decide) rfl
  have hKc := hK.sub (tys' := tyXO ko κ) [0, 1, 2, 3, 4] rfl
  refine wj_i (ws := wL o ko q κ r μ x w) (wc := wXO o ko q κ x) (wr := wM r μ w) (mkAll := fun z => wL o ko q κ r μ z w) [0, 1, 2, 3, 4, 5] [6, 7, 8, 9, 10, 11] [6, 7, 8, 9, 10, 11, 0, 1, 2, 3, 4, 5] rfl rfl (by decide) (by decide) (by decide) (fun _ => rfl) (wx_runSH (n := 5) (As := [.ref (q 0), .int (nI ra), .int (-nI n), .int (nI rt), .ref (o)]) (rest := []) C (c_L_shiftDown_ok l hst D q κ o ko x ra hra n hn0 hn rt hrt H.size) (wG_SH (fun _ h => h) k_ml_L_100 k_st_L_shift k_in_L k_L_shift) rfl rfl rfl ⟨rfl, by decide, by decide, by decide +kernel⟩ ⟨Nat.le_of_ble_eq_true rfl, Nat.le_of_ble_eq_true rfl⟩ ⟨wf_blindO, wf_preO hPc hKc hDc hAll (fun z hz => hS.2.1 z hz (Nat.not_le.mpr hz))⟩ rfl hl.1 rfl (Nat.le_of_ble_eq_true rfl) d_law_717 ⟨by show _ ≤ 1041; omega, by show _ ≤ 10127; omega⟩) (fun _ h => h) hS hP hD hA (fun kr x1 H locs ew hP hD hS => ?_)
  obtain ⟨k0, ew⟩ := ew
  subst k0
  refine lv_istore (lv' := [(5, .int (0)), (0, .ref (b)), (1, .ref (q 0)), (2, .ref (r 0)), (3, .ref (o)), (4, .int (nI (6 * t)))]) hx hb d_law_720 hl (by decide) rfl (fun ls hl => ?_)
  refine lv_aload_n hx hb d_law_722 rfl (lv_at hl 3 rfl) ?_
  refine lv_aload_n hx hb d_law_723 rfl (lv_at hl 1 rfl) ?_
  refine lv_iload hx hb d_law_724 (lv_at hl 5 rfl) ?_
  refine lv_iconst (v := 1) hx hb d_law_726 (by decide) ?_
  refine lv_iadd hx hb d_law_727 ?_
  refine lw_ld hx hb hX hbl hbA hS (k := 6 * t + 1) (nI_add (6 * t) 1) (by omega) hL d_law_728 ?_
  rw [era]
  refine lv_aload_n hx hb d_law_729 rfl (lv_at hl 1 rfl) ?_
  refine lv_iload hx hb d_law_730 (lv_at hl 5 rfl) ?_
  refine lv_iconst (v := 2) hx hb d_law_732 (by decide) ?_
  refine lv_iadd hx hb d_law_733 ?_
  refine lw_ld hx hb hX hbl hbA hS (k := 6 * t + 2) (nI_add (6 * t) 2) (by omega) hL d_law_734 ?_
  rw [en]
  refine lv_aload_n hx hb d_law_735 rfl (lv_at hl 1 rfl) ?_
  refine lv_iload hx hb d_law_736 (lv_at hl 5 rfl) ?_
  refine lv_iconst (v := 3) hx hb d_law_738 (by decide) ?_
  refine lv_iadd hx hb d_law_739 ?_
  refine lw_ld hx hb hX hbl hbA hS (k := 6 * t + 3) (nI_add (6 * t) 3) (by omega) hL d_law_740 ?_
  rw [ert]
  have hPc := hP.sub (ws' := wM r μ w) [6, 7, 8, 9, 10, 11] rfl
  have hDc := hD.sub (ws' := wM r μ w) [6, 7, 8, 9, 10, 11] (by decide) rfl
  have hKc := hK.sub (tys' := tyM μ) [5, 6, 7, 8, 9] rfl
  refine wj_i (ws := wL o ko q κ r μ x1 w) (wc := wM r μ w) (wr := wXO o ko q κ x1) (mkAll := fun z => wL o ko q κ r μ x1 z) [6, 7, 8, 9, 10, 11] [0, 1, 2, 3, 4, 5] [0, 1, 2, 3, 4, 5, 6, 7, 8, 9, 10, 11] rfl rfl (by decide) (by decide) (by decide) (fun _ => rfl) (va_runV (As := [.int (nI ra), .int (-nI n), .int (nI rt)]) (rest := []) C (c_M_shiftDown l D r μ w ra hra n hn0 hn rt hrt H.size) (cwV 3 C.2.2.2.2 (wG_V (fun _ h => h) k_ml_L_102 k_im_M_shift k_se_M_shift k_in_M k_M_shift) rfl rfl rfl (by decide +kernel) ⟨Nat.le_of_ble_eq_true rfl, Nat.le_of_ble_eq_true rfl⟩) ⟨wf_blind, va_recv hKc hPc (ci := 1) (q0 := 0) rfl rfl, wf_pre hPc hKc hDc⟩ rfl rfl hl.1 rfl (lv_room (Nat.le_of_ble_eq_true rfl)) d_law_741 ⟨by show _ ≤ 1041; omega, by show _ ≤ 10127; omega⟩) (fun _ h => h) hS hP hD hA (fun mr w1 H locs em hP hD hS => ?_)
  obtain ⟨rv, ⟨ev, ex⟩, ez⟩ := ew
  obtain ⟨em0, em⟩ := em
  have hcode := em.1
  rw [hIn.1 ra hra] at ev ex
  have hIn1 : wf_In x1.1 w1 := In_st hIn ex em rfl
  have hz : x1.2 0 = wf_zl mr := by rw [ez, ev, em0]
  refine lv_istore (lv' := [(6, .int (mr)), (5, .int (0)), (0, .ref (b)), (1, .ref (q 0)), (2, .ref (r 0)), (3, .ref (o)), (4, .int (nI (6 * t)))]) hx hb d_law_744 hl (by decide) rfl (fun ls hl => ?_)
  refine lv_aload_n hx hb d_law_746 rfl (lv_at hl 4 rfl) ?_
  have hPc := hP.sub (ws' := wM r μ w1) [6, 7, 8, 9, 10, 11] rfl
  have hDc := hD.sub (ws' := wM r μ w1) [6, 7, 8, 9, 10, 11] (by decide) rfl
  have hKc := hK.sub (tys' := tyM μ) [5, 6, 7, 8, 9] rfl
  refine vp_callSi (W.runV (As := []) (rest := []) C (c_M_thrown l D r μ w1 H.size) (cwV 0 C.2.2.2.2 (wG_V (fun _ h => h) k_ml_L_74 k_im_M_thrown k_se_M_thrown k_in_M k_M_thrown) rfl rfl rfl (by decide +kernel) ⟨Nat.le_of_ble_eq_true rfl, Nat.le_of_ble_eq_true rfl⟩) ⟨wf_blind, va_recv hKc hPc (ci := 1) (q0 := 0) rfl rfl, wf_pre hPc hKc hDc⟩ rfl rfl hl.1 rfl (lv_room (Nat.le_of_ble_eq_true rfl)) d_law_747 ⟨by show _ ≤ 1041; omega, by show _ ≤ 10127; omega⟩) (fun tr htr => ?_)
  refine lv_iload hx hb d_law_750 (lv_at hl 1 rfl) ?_
  refine lv_icmp_eq (tgt := 757) hx hb d_law_752 (by decide) (fun c_1 => ?_) (fun c_1 => False.elim (by first | exact absurd (htr.trans hcode) c_1 | exact absurd c_1 (htr.trans hcode)))
  refine lv_iload hx hb d_law_757 (lv_at hl 1 rfl) ?_
  refine lv_if_ne (tgt := 781) hx hb d_law_759 (by decide) (fun c_2 => False.elim (absurd c_2 (by decide))) (fun _ => ?_)
  refine lv_aload_n hx hb d_law_762 rfl (lv_at hl 5 rfl) ?_
  refine lv_iconst (v := 0) hx hb d_law_763 (by decide) ?_
  refine wf_lald C hK hP 5 4 rfl rfl (k := 0) rfl (by decide) (by decide) d_law_764 ?_
  refine lv_iload hx hb d_law_765 (lv_at hl 0 rfl) ?_
  refine lv_if_eq (tgt := 774) hx hb d_law_767 (by decide) (fun c_3 => ?_) (fun c_3 => ?_)
  · have hz1 : x1.2 0 = 0 := hz.trans (by unfold wf_zl; rw [if_pos c_3])
    refine lv_lconst (v := 0) hx hb d_law_774 (by decide) ?_
    refine W.lcmp hx hb d_law_775 ?_
    refine lv_if_eq (tgt := 781) hx hb d_law_776 (by decide) (fun c_4 => ?_) (fun c_4 => False.elim (by first | exact absurd ((lg_cmp_eq _ _).mpr hz1) c_4 | exact absurd c_4 ((lg_cmp_eq _ _).mpr hz1)))
    refine lv_goto (tgt := 1124) hx hb d_law_781 (by decide) ?_
    refine W.widen (k := 12 + (t + 1)) (n := 1905 + 6 * (t + 1)) (by omega) (by omega) ?_
    exact back x1 w1 H locs ls hIn1 hP hD hS (lv_sub hl [2, 3, 4, 5, 6] rfl)
  · have hz1 : x1.2 0 = 1 := hz.trans (by unfold wf_zl; rw [if_neg c_3])
    refine lv_lconst (v := 1) hx hb d_law_770 (by decide) ?_
    refine lv_goto (tgt := 775) hx hb d_law_771 (by decide) ?_
    refine W.lcmp hx hb d_law_775 ?_
    refine lv_if_eq (tgt := 781) hx hb d_law_776 (by decide) (fun c_5 => ?_) (fun c_5 => False.elim (by first | exact absurd ((lg_cmp_eq _ _).mpr hz1) c_5 | exact absurd c_5 ((lg_cmp_eq _ _).mpr hz1)))
    refine lv_goto (tgt := 1124) hx hb d_law_781 (by decide) ?_
    refine W.widen (k := 12 + (t + 1)) (n := 1905 + 6 * (t + 1)) (by omega) (by omega) ?_
    exact back x1 w1 H locs ls hIn1 hP hD hS (lv_sub hl [2, 3, 4, 5, 6] rfl)

set_option maxHeartbeats 4000000 in
set_option maxRecDepth 100000 in
theorem law_7_bad {p : Program} {l : Launch} {e : Env} {s : State} {m : MethodId} {below : List Frame} {meth : Method} {c : Code} {D : va_G} {q r : Nat → Nat} {κ μ : Nat → ClassId} {o : Nat} {ko : ClassId} {b L : Nat} {xs : Nat → Int32} {t : Nat} {x : SX × (Nat → Int64)} {w : SM} {H : Heap} {locs : List Loc} {ls : Array Slot} (hst : l.stackTraces = false) (hL : L ≤ 3072) (C0 : lw_At p s m meth c b L xs) (hAll : wx_All s) (hK : va_K D vwCl (tyL ko κ μ) s) (ht : 6 * t + 6 ≤ L) (hbad : ((wf_no (xs (6 * t + 1)) || wf_no (xs (6 * t + 3))) || (false)) = true) (hIn : wf_In x.1 w) (hP : va_P D vwCl (wL o ko q κ r μ x w) H) (hD : va_D (lwA s) (wL o ko q κ r μ x w)) (hS : va_S (lwA s) s.heap H locs) (hl : lv_has ls 8 [(0, .ref (b)), (1, .ref (q 0)), (2, .ref (r 0)), (3, .ref (o)), (4, .int (nI (6 * t)))]) (back : ∀ (x' : SX × (Nat → Int64)) (w' : SM) (H' : Heap) (locs' : List Loc) (ls' : Array Slot), wf_In x'.1 w' → va_P D vwCl (wL o ko q κ r μ x' w') H' → va_D (lwA s) (wL o ko q κ r μ x' w') → va_S (lwA s) s.heap H' locs' → lv_has ls' 8 [(0, .ref (b)), (1, .ref (q 0)), (2, .ref (r 0)), (3, .ref (o)), (4, .int (nI (6 * t)))] → W p l e room_1 s m #[Value.ref b] below meth c H' locs' (12 + (t + 1)) (1905 + 6 * (t + 1)) (lw_Z below #[Value.ref b] s) (F0 m 1124 ls' [])) : W p l e room_1 s m #[Value.ref b] below meth c H locs (12 + t) (1905 + 6 * t) (lw_Z below #[Value.ref b] s) (F0 m 697 ls []) := by
  obtain ⟨hx, hb, hr, hml, hown, hts0, hX, hbl, hlocks, hgv⟩ := C0
  have hts := fun w h => hts0 w (wG_tbl h)
  have C : CallFix p m c code 8 s #[Value.ref b] wG RL := ⟨hx, hb, hml, hown, hts⟩
  have hA : ∀ z : Nat, s.heap.size ≤ z → lwA s z := fun _ h => h
  have hbA : ¬ lwA s b := Nat.not_le.mpr hbl
  refine lv_aload_n hx hb d_law_697 rfl (lv_at hl 1 rfl) ?_
  refine lv_aload_n hx hb d_law_698 rfl (lv_at hl 0 rfl) ?_
  refine lv_iload hx hb d_law_699 (lv_at hl 4 rfl) ?_
  refine lv_iconst (v := 1) hx hb d_law_701 (by decide) ?_
  refine lv_iadd hx hb d_law_702 ?_
  refine lw_ld hx hb hX hbl hbA hS (k := 6 * t + 1) (nI_add (6 * t) 1) (by omega) hL d_law_703 ?_
  refine lv_aload_n hx hb d_law_704 rfl (lv_at hl 0 rfl) ?_
  refine lv_iload hx hb d_law_705 (lv_at hl 4 rfl) ?_
  refine lv_iconst (v := 2) hx hb d_law_707 (by decide) ?_
  refine lv_iadd hx hb d_law_708 ?_
  refine lw_ld hx hb hX hbl hbA hS (k := 6 * t + 2) (nI_add (6 * t) 2) (by omega) hL d_law_709 ?_
  refine lv_aload_n hx hb d_law_710 rfl (lv_at hl 0 rfl) ?_
  refine lv_iload hx hb d_law_711 (lv_at hl 4 rfl) ?_
  refine lv_iconst (v := 3) hx hb d_law_713 (by decide) ?_
  refine lv_iadd hx hb d_law_714 ?_
  refine lw_ld hx hb hX hbl hbA hS (k := 6 * t + 3) (nI_add (6 * t) 3) (by omega) hL d_law_715 ?_
  refine lv_aload_n hx hb d_law_716 rfl (lv_at hl 3 rfl) ?_
  have hPc := hP.sub (ws' := wXO o ko q κ x) [0, 1, 2, 3, 4, 5] rfl
  have hDc := hD.sub (ws' := wXO o ko q κ x) [0, 1, 2, 3, 4, 5] (by decide) rfl
  have hKc := hK.sub (tys' := tyXO ko κ) [0, 1, 2, 3, 4] rfl
  refine wj_i (ws := wL o ko q κ r μ x w) (wc := wXO o ko q κ x) (wr := wM r μ w) (mkAll := fun z => wL o ko q κ r μ z w) [0, 1, 2, 3, 4, 5] [6, 7, 8, 9, 10, 11] [6, 7, 8, 9, 10, 11, 0, 1, 2, 3, 4, 5] rfl rfl (by decide) (by decide) (by decide) (fun _ => rfl) (wx_runSH (n := 5) (As := [.ref (q 0), .int (xs (6 * t + 1)), .int (xs (6 * t + 2)), .int (xs (6 * t + 3)), .ref (o)]) (rest := []) C (c_L_shift_bad l hst D q κ o ko x (xs (6 * t + 1)) (xs (6 * t + 2)) (xs (6 * t + 3)) hbad H.size) (wG_SH (fun _ h => h) k_ml_L_100 k_st_L_shift k_in_L k_L_shift) rfl rfl rfl ⟨rfl, by decide, by decide, by decide +kernel⟩ ⟨Nat.le_of_ble_eq_true rfl, Nat.le_of_ble_eq_true rfl⟩ ⟨wf_blindO, wf_preO hPc hKc hDc hAll (fun z hz => hS.2.1 z hz (Nat.not_le.mpr hz))⟩ rfl hl.1 rfl (Nat.le_of_ble_eq_true rfl) d_law_717 ⟨by show _ ≤ 1041; omega, by show _ ≤ 10127; omega⟩) (fun _ h => h) hS hP hD hA (fun kr x1 H locs ew hP hD hS => ?_)
  obtain ⟨k0, ew⟩ := ew
  subst k0
  rw [ew] at hP hD
  have hP : va_P D vwCl (wL o ko q κ r μ x w) H := hP
  have hD : va_D (lwA s) (wL o ko q κ r μ x w) := hD
  refine lv_topi (fun v_1 ev_1 => ?_)
  refine lv_istore (lv' := [(5, .int (v_1)), (0, .ref (b)), (1, .ref (q 0)), (2, .ref (r 0)), (3, .ref (o)), (4, .int (nI (6 * t)))]) hx hb d_law_720 hl (by decide) rfl (fun ls hl => ?_)
  refine lv_aload_n hx hb d_law_722 rfl (lv_at hl 3 rfl) ?_
  refine lv_aload_n hx hb d_law_723 rfl (lv_at hl 1 rfl) ?_
  refine lv_iload hx hb d_law_724 (lv_at hl 5 rfl) ?_
  refine lv_iconst (v := 1) hx hb d_law_726 (by decide) ?_
  refine lv_iadd hx hb d_law_727 ?_
  refine lw_ld hx hb hX hbl hbA hS (k := 6 * t + 1) (nI_add (6 * t) 1) (by omega) hL d_law_728 ?_
  refine lv_aload_n hx hb d_law_729 rfl (lv_at hl 1 rfl) ?_
  refine lv_iload hx hb d_law_730 (lv_at hl 5 rfl) ?_
  refine lv_iconst (v := 2) hx hb d_law_732 (by decide) ?_
  refine lv_iadd hx hb d_law_733 ?_
  refine lw_ld hx hb hX hbl hbA hS (k := 6 * t + 2) (nI_add (6 * t) 2) (by omega) hL d_law_734 ?_
  refine lv_aload_n hx hb d_law_735 rfl (lv_at hl 1 rfl) ?_
  refine lv_iload hx hb d_law_736 (lv_at hl 5 rfl) ?_
  refine lv_iconst (v := 3) hx hb d_law_738 (by decide) ?_
  refine lv_iadd hx hb d_law_739 ?_
  refine lw_ld hx hb hX hbl hbA hS (k := 6 * t + 3) (nI_add (6 * t) 3) (by omega) hL d_law_740 ?_
  have hPc := hP.sub (ws' := wM r μ w) [6, 7, 8, 9, 10, 11] rfl
  have hDc := hD.sub (ws' := wM r μ w) [6, 7, 8, 9, 10, 11] (by decide) rfl
  have hKc := hK.sub (tys' := tyM μ) [5, 6, 7, 8, 9] rfl
  refine wj_i (ws := wL o ko q κ r μ x w) (wc := wM r μ w) (wr := wXO o ko q κ x) (mkAll := fun z => wL o ko q κ r μ x z) [6, 7, 8, 9, 10, 11] [0, 1, 2, 3, 4, 5] [0, 1, 2, 3, 4, 5, 6, 7, 8, 9, 10, 11] rfl rfl (by decide) (by decide) (by decide) (fun _ => rfl) (va_runV (As := [.int (xs (6 * t + 1)), .int (xs (6 * t + 2)), .int (xs (6 * t + 3))]) (rest := []) C (c_M_shiftBad l D r μ w (xs (6 * t + 1)) (xs (6 * t + 2)) (xs (6 * t + 3)) hbad H.size) (cwV 3 C.2.2.2.2 (wG_V (fun _ h => h) k_ml_L_102 k_im_M_shift k_se_M_shift k_in_M k_M_shift) rfl rfl rfl (by decide +kernel) ⟨Nat.le_of_ble_eq_true rfl, Nat.le_of_ble_eq_true rfl⟩) ⟨wf_blind, va_recv hKc hPc (ci := 1) (q0 := 0) rfl rfl, wf_pre hPc hKc hDc⟩ rfl rfl hl.1 rfl (lv_room (Nat.le_of_ble_eq_true rfl)) d_law_741 ⟨by show _ ≤ 1041; omega, by show _ ≤ 10127; omega⟩) (fun _ h => h) hS hP hD hA (fun mr w1 H locs em hP hD hS => ?_)
  refine lv_istore (lv' := [(6, .int (mr)), (5, .int (v_1)), (0, .ref (b)), (1, .ref (q 0)), (2, .ref (r 0)), (3, .ref (o)), (4, .int (nI (6 * t)))]) hx hb d_law_744 hl (by decide) rfl (fun ls hl => ?_)
  refine lv_aload_n hx hb d_law_746 rfl (lv_at hl 4 rfl) ?_
  have hPc := hP.sub (ws' := wM r μ w1) [6, 7, 8, 9, 10, 11] rfl
  have hDc := hD.sub (ws' := wM r μ w1) [6, 7, 8, 9, 10, 11] (by decide) rfl
  have hKc := hK.sub (tys' := tyM μ) [5, 6, 7, 8, 9] rfl
  refine vp_callSi (W.runV (As := []) (rest := []) C (c_M_thrown l D r μ w1 H.size) (cwV 0 C.2.2.2.2 (wG_V (fun _ h => h) k_ml_L_74 k_im_M_thrown k_se_M_thrown k_in_M k_M_thrown) rfl rfl rfl (by decide +kernel) ⟨Nat.le_of_ble_eq_true rfl, Nat.le_of_ble_eq_true rfl⟩) ⟨wf_blind, va_recv hKc hPc (ci := 1) (q0 := 0) rfl rfl, wf_pre hPc hKc hDc⟩ rfl rfl hl.1 rfl (lv_room (Nat.le_of_ble_eq_true rfl)) d_law_747 ⟨by show _ ≤ 1041; omega, by show _ ≤ 10127; omega⟩) (fun tr htr => ?_)
  refine lv_iload hx hb d_law_750 (lv_at hl 1 rfl) ?_
  refine lv_icmp_eq (tgt := 757) hx hb d_law_752 (by decide) (fun c_2 => ?_) (fun c_2 => False.elim (by first | exact absurd (htr.trans (by rw [em, ev_1])) c_2 | exact absurd c_2 (htr.trans (by rw [em, ev_1]))))
  refine lv_iload hx hb d_law_757 (lv_at hl 1 rfl) ?_
  refine lv_if_ne (tgt := 781) hx hb d_law_759 (by decide) (fun c_3 => ?_) (fun c_3 => False.elim (by first | exact absurd (by rw [ev_1]; exact wf_c2_ne hbad) c_3 | exact absurd c_3 (by rw [ev_1]; exact wf_c2_ne hbad)))
  refine lv_goto (tgt := 1124) hx hb d_law_781 (by decide) ?_
  refine W.widen (k := 12 + (t + 1)) (n := 1905 + 6 * (t + 1)) (by omega) (by omega) ?_
  exact back x w1 H locs ls (In_code hIn em) hP hD hS (lv_sub hl [2, 3, 4, 5, 6] rfl)

set_option maxHeartbeats 4000000 in
set_option maxRecDepth 100000 in
theorem law_8_ok {p : Program} {l : Launch} {e : Env} {s : State} {m : MethodId} {below : List Frame} {meth : Method} {c : Code} {D : va_G} {q r : Nat → Nat} {κ μ : Nat → ClassId} {o : Nat} {ko : ClassId} {b L : Nat} {xs : Nat → Int32} {t : Nat} {x : SX × (Nat → Int64)} {w : SM} {H : Heap} {locs : List Loc} {ls : Array Slot} (hst : l.stackTraces = false) (hL : L ≤ 3072) (C0 : lw_At p s m meth c b L xs) (hAll : wx_All s) (hK : va_K D vwCl (tyL ko κ μ) s) (ht : 6 * t + 6 ≤ L) {ra : Nat} (hra : ra < 8) (era : xs (6 * t + 1) = nI ra) {rt : Nat} (hrt : rt < 8) (ert : xs (6 * t + 3) = nI rt) {n : Nat} (hn : n < 2 ^ 31) (en : xs (6 * t + 2) = nI n) (hIn : wf_In x.1 w) (hP : va_P D vwCl (wL o ko q κ r μ x w) H) (hD : va_D (lwA s) (wL o ko q κ r μ x w)) (hS : va_S (lwA s) s.heap H locs) (hl : lv_has ls 8 [(0, .ref (b)), (1, .ref (q 0)), (2, .ref (r 0)), (3, .ref (o)), (4, .int (nI (6 * t)))]) (back : ∀ (x' : SX × (Nat → Int64)) (w' : SM) (H' : Heap) (locs' : List Loc) (ls' : Array Slot), wf_In x'.1 w' → va_P D vwCl (wL o ko q κ r μ x' w') H' → va_D (lwA s) (wL o ko q κ r μ x' w') → va_S (lwA s) s.heap H' locs' → lv_has ls' 8 [(0, .ref (b)), (1, .ref (q 0)), (2, .ref (r 0)), (3, .ref (o)), (4, .int (nI (6 * t)))] → W p l e room_1 s m #[Value.ref b] below meth c H' locs' (12 + (t + 1)) (1905 + 6 * (t + 1)) (lw_Z below #[Value.ref b] s) (F0 m 1124 ls' [])) : W p l e room_1 s m #[Value.ref b] below meth c H locs (12 + t) (1905 + 6 * t) (lw_Z below #[Value.ref b] s) (F0 m 784 ls []) := by
  obtain ⟨hx, hb, hr, hml, hown, hts0, hX, hbl, hlocks, hgv⟩ := C0
  have hts := fun w h => hts0 w (wG_tbl h)
  have C : CallFix p m c code 8 s #[Value.ref b] wG RL := ⟨hx, hb, hml, hown, hts⟩
  have hA : ∀ z : Nat, s.heap.size ≤ z → lwA s z := fun _ h => h
  have hbA : ¬ lwA s b := Nat.not_le.mpr hbl
  refine lv_aload_n hx hb d_law_784 rfl (lv_at hl 1 rfl) ?_
  refine lv_aload_n hx hb d_law_785 rfl (lv_at hl 0 rfl) ?_
  refine lv_iload hx hb d_law_786 (lv_at hl 4 rfl) ?_
  refine lv_iconst (v := 1) hx hb d_law_788 (by decide) ?_
  refine lv_iadd hx hb d_law_789 ?_
  refine lw_ld hx hb hX hbl hbA hS (k := 6 * t + 1) (nI_add (6 * t) 1) (by omega) hL d_law_790 ?_
  rw [era]
  refine lv_aload_n hx hb d_law_791 rfl (lv_at hl 0 rfl) ?_
  refine lv_iload hx hb d_law_792 (lv_at hl 4 rfl) ?_
  refine lv_iconst (v := 2) hx hb d_law_794 (by decide) ?_
  refine lv_iadd hx hb d_law_795 ?_
  refine lw_ld hx hb hX hbl hbA hS (k := 6 * t + 2) (nI_add (6 * t) 2) (by omega) hL d_law_796 ?_
  rw [en]
  refine lv_aload_n hx hb d_law_797 rfl (lv_at hl 0 rfl) ?_
  refine lv_iload hx hb d_law_798 (lv_at hl 4 rfl) ?_
  refine lv_iconst (v := 3) hx hb d_law_800 (by decide) ?_
  refine lv_iadd hx hb d_law_801 ?_
  refine lw_ld hx hb hX hbl hbA hS (k := 6 * t + 3) (nI_add (6 * t) 3) (by omega) hL d_law_802 ?_
  rw [ert]
  have hPc := hP.sub (ws' := wXO o ko q κ x) [0, 1, 2, 3, 4, 5] rfl
  have hDc := hD.sub (ws' := wXO o ko q κ x) [0, 1, 2, 3, 4, 5] (by decide) rfl
  have hKc := hK.sub (tys' := tyXO ko κ) [0, 1, 2, 3, 4] rfl
  refine wj_i (ws := wL o ko q κ r μ x w) (wc := wXO o ko q κ x) (wr := wM r μ w) (mkAll := fun z => wL o ko q κ r μ z w) [0, 1, 2, 3, 4, 5] [6, 7, 8, 9, 10, 11] [6, 7, 8, 9, 10, 11, 0, 1, 2, 3, 4, 5] rfl rfl (by decide) (by decide) (by decide) (fun _ => rfl) (wx_runSH (n := 4) (As := [.ref (q 0), .int (nI ra), .int (nI n), .int (nI rt)]) (rest := []) C (c_L_jam_ok l hst D q κ o ko x ra hra n hn rt hrt H.size) (wG_SH (fun _ h => h) k_ml_L_103 k_st_L_jam k_in_L k_L_jam) rfl rfl rfl ⟨rfl, by decide, by decide, by decide +kernel⟩ ⟨Nat.le_of_ble_eq_true rfl, Nat.le_of_ble_eq_true rfl⟩ ⟨wf_blindO, wf_preO hPc hKc hDc hAll (fun z hz => hS.2.1 z hz (Nat.not_le.mpr hz))⟩ rfl hl.1 rfl (Nat.le_of_ble_eq_true rfl) d_law_803 ⟨by show _ ≤ 1041; omega, by show _ ≤ 10127; omega⟩) (fun _ h => h) hS hP hD hA (fun kr x1 H locs ew hP hD hS => ?_)
  obtain ⟨k0, ew⟩ := ew
  subst k0
  refine lv_istore (lv' := [(5, .int (0)), (0, .ref (b)), (1, .ref (q 0)), (2, .ref (r 0)), (3, .ref (o)), (4, .int (nI (6 * t)))]) hx hb d_law_806 hl (by decide) rfl (fun ls hl => ?_)
  refine lv_aload_n hx hb d_law_808 rfl (lv_at hl 3 rfl) ?_
  refine lv_aload_n hx hb d_law_809 rfl (lv_at hl 1 rfl) ?_
  refine lv_iload hx hb d_law_810 (lv_at hl 5 rfl) ?_
  refine lv_iconst (v := 1) hx hb d_law_812 (by decide) ?_
  refine lv_iadd hx hb d_law_813 ?_
  refine lw_ld hx hb hX hbl hbA hS (k := 6 * t + 1) (nI_add (6 * t) 1) (by omega) hL d_law_814 ?_
  rw [era]
  refine lv_aload_n hx hb d_law_815 rfl (lv_at hl 1 rfl) ?_
  refine lv_iload hx hb d_law_816 (lv_at hl 5 rfl) ?_
  refine lv_iconst (v := 2) hx hb d_law_818 (by decide) ?_
  refine lv_iadd hx hb d_law_819 ?_
  refine lw_ld hx hb hX hbl hbA hS (k := 6 * t + 2) (nI_add (6 * t) 2) (by omega) hL d_law_820 ?_
  rw [en]
  refine lv_aload_n hx hb d_law_821 rfl (lv_at hl 1 rfl) ?_
  refine lv_iload hx hb d_law_822 (lv_at hl 5 rfl) ?_
  refine lv_iconst (v := 3) hx hb d_law_824 (by decide) ?_
  refine lv_iadd hx hb d_law_825 ?_
  refine lw_ld hx hb hX hbl hbA hS (k := 6 * t + 3) (nI_add (6 * t) 3) (by omega) hL d_law_826 ?_
  rw [ert]
  have hPc := hP.sub (ws' := wM r μ w) [6, 7, 8, 9, 10, 11] rfl
  have hDc := hD.sub (ws' := wM r μ w) [6, 7, 8, 9, 10, 11] (by decide) rfl
  have hKc := hK.sub (tys' := tyM μ) [5, 6, 7, 8, 9] rfl
  refine wj_v (ws := wL o ko q κ r μ x1 w) (wc := wM r μ w) (wr := wXO o ko q κ x1) (mkAll := fun z => wL o ko q κ r μ x1 z) [6, 7, 8, 9, 10, 11] [0, 1, 2, 3, 4, 5] [0, 1, 2, 3, 4, 5, 6, 7, 8, 9, 10, 11] rfl rfl (by decide) (by decide) (by decide) (fun _ => rfl) (va_runV (As := [.int (nI ra), .int (nI n), .int (nI rt)]) (rest := []) C (c_M_jam l D r μ w ra hra n hn rt hrt H.size) (cwV 3 C.2.2.2.2 (wG_V (fun _ h => h) k_ml_L_105 k_im_M_jam k_se_M_jam k_in_M k_M_jam) rfl rfl rfl (by decide +kernel) ⟨Nat.le_of_ble_eq_true rfl, Nat.le_of_ble_eq_true rfl⟩) ⟨wf_blind, va_recv hKc hPc (ci := 1) (q0 := 0) rfl rfl, wf_pre hPc hKc hDc⟩ rfl rfl hl.1 rfl (lv_room (Nat.le_of_ble_eq_true rfl)) d_law_827 ⟨by show _ ≤ 1041; omega, by show _ ≤ 10127; omega⟩) (fun _ h => h) hS hP hD hA (fun w1 H locs em hP hD hS => ?_)
  have hcode := em.1
  obtain ⟨ex, ez⟩ := ew
  rw [hIn.1 ra hra] at ex
  have hIn1 : wf_In x1.1 w1 := In_st hIn ex em rfl
  refine lv_aload_n hx hb d_law_830 rfl (lv_at hl 3 rfl) ?_
  have hPc := hP.sub (ws' := wM r μ w1) [6, 7, 8, 9, 10, 11] rfl
  have hDc := hD.sub (ws' := wM r μ w1) [6, 7, 8, 9, 10, 11] (by decide) rfl
  have hKc := hK.sub (tys' := tyM μ) [5, 6, 7, 8, 9] rfl
  refine vp_callSi (W.runV (As := []) (rest := []) C (c_M_thrown l D r μ w1 H.size) (cwV 0 C.2.2.2.2 (wG_V (fun _ h => h) k_ml_L_74 k_im_M_thrown k_se_M_thrown k_in_M k_M_thrown) rfl rfl rfl (by decide +kernel) ⟨Nat.le_of_ble_eq_true rfl, Nat.le_of_ble_eq_true rfl⟩) ⟨wf_blind, va_recv hKc hPc (ci := 1) (q0 := 0) rfl rfl, wf_pre hPc hKc hDc⟩ rfl rfl hl.1 rfl (lv_room (Nat.le_of_ble_eq_true rfl)) d_law_831 ⟨by show _ ≤ 1041; omega, by show _ ≤ 10127; omega⟩) (fun tr htr => ?_)
  refine lv_iload hx hb d_law_834 (lv_at hl 0 rfl) ?_
  refine lv_icmp_eq (tgt := 841) hx hb d_law_836 (by decide) (fun c_1 => ?_) (fun c_1 => False.elim (by first | exact absurd (htr.trans hcode) c_1 | exact absurd c_1 (htr.trans hcode)))
  refine lv_goto (tgt := 1124) hx hb d_law_841 (by decide) ?_
  refine W.widen (k := 12 + (t + 1)) (n := 1905 + 6 * (t + 1)) (by omega) (by omega) ?_
  exact back x1 w1 H locs ls hIn1 hP hD hS (lv_sub hl [1, 2, 3, 4, 5] rfl)

set_option maxHeartbeats 4000000 in
set_option maxRecDepth 100000 in
theorem law_8_bad {p : Program} {l : Launch} {e : Env} {s : State} {m : MethodId} {below : List Frame} {meth : Method} {c : Code} {D : va_G} {q r : Nat → Nat} {κ μ : Nat → ClassId} {o : Nat} {ko : ClassId} {b L : Nat} {xs : Nat → Int32} {t : Nat} {x : SX × (Nat → Int64)} {w : SM} {H : Heap} {locs : List Loc} {ls : Array Slot} (hst : l.stackTraces = false) (hL : L ≤ 3072) (C0 : lw_At p s m meth c b L xs) (hAll : wx_All s) (hK : va_K D vwCl (tyL ko κ μ) s) (ht : 6 * t + 6 ≤ L) (hbad : ((wf_no (xs (6 * t + 1)) || wf_no (xs (6 * t + 3))) || (decide ((xs (6 * t + 2)) < 0))) = true) (hIn : wf_In x.1 w) (hP : va_P D vwCl (wL o ko q κ r μ x w) H) (hD : va_D (lwA s) (wL o ko q κ r μ x w)) (hS : va_S (lwA s) s.heap H locs) (hl : lv_has ls 8 [(0, .ref (b)), (1, .ref (q 0)), (2, .ref (r 0)), (3, .ref (o)), (4, .int (nI (6 * t)))]) (back : ∀ (x' : SX × (Nat → Int64)) (w' : SM) (H' : Heap) (locs' : List Loc) (ls' : Array Slot), wf_In x'.1 w' → va_P D vwCl (wL o ko q κ r μ x' w') H' → va_D (lwA s) (wL o ko q κ r μ x' w') → va_S (lwA s) s.heap H' locs' → lv_has ls' 8 [(0, .ref (b)), (1, .ref (q 0)), (2, .ref (r 0)), (3, .ref (o)), (4, .int (nI (6 * t)))] → W p l e room_1 s m #[Value.ref b] below meth c H' locs' (12 + (t + 1)) (1905 + 6 * (t + 1)) (lw_Z below #[Value.ref b] s) (F0 m 1124 ls' [])) : W p l e room_1 s m #[Value.ref b] below meth c H locs (12 + t) (1905 + 6 * t) (lw_Z below #[Value.ref b] s) (F0 m 784 ls []) := by
  obtain ⟨hx, hb, hr, hml, hown, hts0, hX, hbl, hlocks, hgv⟩ := C0
  have hts := fun w h => hts0 w (wG_tbl h)
  have C : CallFix p m c code 8 s #[Value.ref b] wG RL := ⟨hx, hb, hml, hown, hts⟩
  have hA : ∀ z : Nat, s.heap.size ≤ z → lwA s z := fun _ h => h
  have hbA : ¬ lwA s b := Nat.not_le.mpr hbl
  refine lv_aload_n hx hb d_law_784 rfl (lv_at hl 1 rfl) ?_
  refine lv_aload_n hx hb d_law_785 rfl (lv_at hl 0 rfl) ?_
  refine lv_iload hx hb d_law_786 (lv_at hl 4 rfl) ?_
  refine lv_iconst (v := 1) hx hb d_law_788 (by decide) ?_
  refine lv_iadd hx hb d_law_789 ?_
  refine lw_ld hx hb hX hbl hbA hS (k := 6 * t + 1) (nI_add (6 * t) 1) (by omega) hL d_law_790 ?_
  refine lv_aload_n hx hb d_law_791 rfl (lv_at hl 0 rfl) ?_
  refine lv_iload hx hb d_law_792 (lv_at hl 4 rfl) ?_
  refine lv_iconst (v := 2) hx hb d_law_794 (by decide) ?_
  refine lv_iadd hx hb d_law_795 ?_
  refine lw_ld hx hb hX hbl hbA hS (k := 6 * t + 2) (nI_add (6 * t) 2) (by omega) hL d_law_796 ?_
  refine lv_aload_n hx hb d_law_797 rfl (lv_at hl 0 rfl) ?_
  refine lv_iload hx hb d_law_798 (lv_at hl 4 rfl) ?_
  refine lv_iconst (v := 3) hx hb d_law_800 (by decide) ?_
  refine lv_iadd hx hb d_law_801 ?_
  refine lw_ld hx hb hX hbl hbA hS (k := 6 * t + 3) (nI_add (6 * t) 3) (by omega) hL d_law_802 ?_
  have hPc := hP.sub (ws' := wXO o ko q κ x) [0, 1, 2, 3, 4, 5] rfl
  have hDc := hD.sub (ws' := wXO o ko q κ x) [0, 1, 2, 3, 4, 5] (by decide) rfl
  have hKc := hK.sub (tys' := tyXO ko κ) [0, 1, 2, 3, 4] rfl
  refine wj_i (ws := wL o ko q κ r μ x w) (wc := wXO o ko q κ x) (wr := wM r μ w) (mkAll := fun z => wL o ko q κ r μ z w) [0, 1, 2, 3, 4, 5] [6, 7, 8, 9, 10, 11] [6, 7, 8, 9, 10, 11, 0, 1, 2, 3, 4, 5] rfl rfl (by decide) (by decide) (by decide) (fun _ => rfl) (wx_runSH (n := 4) (As := [.ref (q 0), .int (xs (6 * t + 1)), .int (xs (6 * t + 2)), .int (xs (6 * t + 3))]) (rest := []) C (c_L_jam_bad l hst D q κ o ko x (xs (6 * t + 1)) (xs (6 * t + 2)) (xs (6 * t + 3)) hbad H.size) (wG_SH (fun _ h => h) k_ml_L_103 k_st_L_jam k_in_L k_L_jam) rfl rfl rfl ⟨rfl, by decide, by decide, by decide +kernel⟩ ⟨Nat.le_of_ble_eq_true rfl, Nat.le_of_ble_eq_true rfl⟩ ⟨wf_blindO, wf_preO hPc hKc hDc hAll (fun z hz => hS.2.1 z hz (Nat.not_le.mpr hz))⟩ rfl hl.1 rfl (Nat.le_of_ble_eq_true rfl) d_law_803 ⟨by show _ ≤ 1041; omega, by show _ ≤ 10127; omega⟩) (fun _ h => h) hS hP hD hA (fun kr x1 H locs ew hP hD hS => ?_)
  obtain ⟨k0, ew⟩ := ew
  subst k0
  rw [ew] at hP hD
  have hP : va_P D vwCl (wL o ko q κ r μ x w) H := hP
  have hD : va_D (lwA s) (wL o ko q κ r μ x w) := hD
  refine lv_topi (fun v_1 ev_1 => ?_)
  refine lv_istore (lv' := [(5, .int (v_1)), (0, .ref (b)), (1, .ref (q 0)), (2, .ref (r 0)), (3, .ref (o)), (4, .int (nI (6 * t)))]) hx hb d_law_806 hl (by decide) rfl (fun ls hl => ?_)
  refine lv_aload_n hx hb d_law_808 rfl (lv_at hl 3 rfl) ?_
  refine lv_aload_n hx hb d_law_809 rfl (lv_at hl 1 rfl) ?_
  refine lv_iload hx hb d_law_810 (lv_at hl 5 rfl) ?_
  refine lv_iconst (v := 1) hx hb d_law_812 (by decide) ?_
  refine lv_iadd hx hb d_law_813 ?_
  refine lw_ld hx hb hX hbl hbA hS (k := 6 * t + 1) (nI_add (6 * t) 1) (by omega) hL d_law_814 ?_
  refine lv_aload_n hx hb d_law_815 rfl (lv_at hl 1 rfl) ?_
  refine lv_iload hx hb d_law_816 (lv_at hl 5 rfl) ?_
  refine lv_iconst (v := 2) hx hb d_law_818 (by decide) ?_
  refine lv_iadd hx hb d_law_819 ?_
  refine lw_ld hx hb hX hbl hbA hS (k := 6 * t + 2) (nI_add (6 * t) 2) (by omega) hL d_law_820 ?_
  refine lv_aload_n hx hb d_law_821 rfl (lv_at hl 1 rfl) ?_
  refine lv_iload hx hb d_law_822 (lv_at hl 5 rfl) ?_
  refine lv_iconst (v := 3) hx hb d_law_824 (by decide) ?_
  refine lv_iadd hx hb d_law_825 ?_
  refine lw_ld hx hb hX hbl hbA hS (k := 6 * t + 3) (nI_add (6 * t) 3) (by omega) hL d_law_826 ?_
  have hPc := hP.sub (ws' := wM r μ w) [6, 7, 8, 9, 10, 11] rfl
  have hDc := hD.sub (ws' := wM r μ w) [6, 7, 8, 9, 10, 11] (by decide) rfl
  have hKc := hK.sub (tys' := tyM μ) [5, 6, 7, 8, 9] rfl
  refine wj_v (ws := wL o ko q κ r μ x w) (wc := wM r μ w) (wr := wXO o ko q κ x) (mkAll := fun z => wL o ko q κ r μ x z) [6, 7, 8, 9, 10, 11] [0, 1, 2, 3, 4, 5] [0, 1, 2, 3, 4, 5, 6, 7, 8, 9, 10, 11] rfl rfl (by decide) (by decide) (by decide) (fun _ => rfl) (va_runV (As := [.int (xs (6 * t + 1)), .int (xs (6 * t + 2)), .int (xs (6 * t + 3))]) (rest := []) C (c_M_jamBad l D r μ w (xs (6 * t + 1)) (xs (6 * t + 2)) (xs (6 * t + 3)) hbad H.size) (cwV 3 C.2.2.2.2 (wG_V (fun _ h => h) k_ml_L_105 k_im_M_jam k_se_M_jam k_in_M k_M_jam) rfl rfl rfl (by decide +kernel) ⟨Nat.le_of_ble_eq_true rfl, Nat.le_of_ble_eq_true rfl⟩) ⟨wf_blind, va_recv hKc hPc (ci := 1) (q0 := 0) rfl rfl, wf_pre hPc hKc hDc⟩ rfl rfl hl.1 rfl (lv_room (Nat.le_of_ble_eq_true rfl)) d_law_827 ⟨by show _ ≤ 1041; omega, by show _ ≤ 10127; omega⟩) (fun _ h => h) hS hP hD hA (fun w1 H locs em hP hD hS => ?_)
  refine lv_aload_n hx hb d_law_830 rfl (lv_at hl 3 rfl) ?_
  have hPc := hP.sub (ws' := wM r μ w1) [6, 7, 8, 9, 10, 11] rfl
  have hDc := hD.sub (ws' := wM r μ w1) [6, 7, 8, 9, 10, 11] (by decide) rfl
  have hKc := hK.sub (tys' := tyM μ) [5, 6, 7, 8, 9] rfl
  refine vp_callSi (W.runV (As := []) (rest := []) C (c_M_thrown l D r μ w1 H.size) (cwV 0 C.2.2.2.2 (wG_V (fun _ h => h) k_ml_L_74 k_im_M_thrown k_se_M_thrown k_in_M k_M_thrown) rfl rfl rfl (by decide +kernel) ⟨Nat.le_of_ble_eq_true rfl, Nat.le_of_ble_eq_true rfl⟩) ⟨wf_blind, va_recv hKc hPc (ci := 1) (q0 := 0) rfl rfl, wf_pre hPc hKc hDc⟩ rfl rfl hl.1 rfl (lv_room (Nat.le_of_ble_eq_true rfl)) d_law_831 ⟨by show _ ≤ 1041; omega, by show _ ≤ 10127; omega⟩) (fun tr htr => ?_)
  refine lv_iload hx hb d_law_834 (lv_at hl 0 rfl) ?_
  refine lv_icmp_eq (tgt := 841) hx hb d_law_836 (by decide) (fun c_2 => ?_) (fun c_2 => False.elim (by first | exact absurd (htr.trans (by rw [em, ev_1])) c_2 | exact absurd c_2 (htr.trans (by rw [em, ev_1]))))
  refine lv_goto (tgt := 1124) hx hb d_law_841 (by decide) ?_
  refine W.widen (k := 12 + (t + 1)) (n := 1905 + 6 * (t + 1)) (by omega) (by omega) ?_
  exact back x w1 H locs ls (In_code hIn em) hP hD hS (lv_sub hl [1, 2, 3, 4, 5] rfl)

set_option maxHeartbeats 4000000 in
set_option maxRecDepth 100000 in
theorem law_9_ok {p : Program} {l : Launch} {e : Env} {s : State} {m : MethodId} {below : List Frame} {meth : Method} {c : Code} {D : va_G} {q r : Nat → Nat} {κ μ : Nat → ClassId} {o : Nat} {ko : ClassId} {b L : Nat} {xs : Nat → Int32} {t : Nat} {x : SX × (Nat → Int64)} {w : SM} {H : Heap} {locs : List Loc} {ls : Array Slot} (hst : l.stackTraces = false) (hL : L ≤ 3072) (C0 : lw_At p s m meth c b L xs) (hAll : wx_All s) (hK : va_K D vwCl (tyL ko κ μ) s) (ht : 6 * t + 6 ≤ L) {ra : Nat} (hra : ra < 8) (era : xs (6 * t + 1) = nI ra) (hIn : wf_In x.1 w) (hP : va_P D vwCl (wL o ko q κ r μ x w) H) (hD : va_D (lwA s) (wL o ko q κ r μ x w)) (hS : va_S (lwA s) s.heap H locs) (hl : lv_has ls 8 [(0, .ref (b)), (1, .ref (q 0)), (2, .ref (r 0)), (3, .ref (o)), (4, .int (nI (6 * t)))]) (back : ∀ (x' : SX × (Nat → Int64)) (w' : SM) (H' : Heap) (locs' : List Loc) (ls' : Array Slot), wf_In x'.1 w' → va_P D vwCl (wL o ko q κ r μ x' w') H' → va_D (lwA s) (wL o ko q κ r μ x' w') → va_S (lwA s) s.heap H' locs' → lv_has ls' 8 [(0, .ref (b)), (1, .ref (q 0)), (2, .ref (r 0)), (3, .ref (o)), (4, .int (nI (6 * t)))] → W p l e room_1 s m #[Value.ref b] below meth c H' locs' (12 + (t + 1)) (1905 + 6 * (t + 1)) (lw_Z below #[Value.ref b] s) (F0 m 1124 ls' [])) : W p l e room_1 s m #[Value.ref b] below meth c H locs (12 + t) (1905 + 6 * t) (lw_Z below #[Value.ref b] s) (F0 m 844 ls []) := by
  obtain ⟨hx, hb, hr, hml, hown, hts0, hX, hbl, hlocks, hgv⟩ := C0
  have hts := fun w h => hts0 w (wG_tbl h)
  have C : CallFix p m c code 8 s #[Value.ref b] wG RL := ⟨hx, hb, hml, hown, hts⟩
  have hA : ∀ z : Nat, s.heap.size ≤ z → lwA s z := fun _ h => h
  have hbA : ¬ lwA s b := Nat.not_le.mpr hbl
  refine lv_aload_n hx hb d_law_844 rfl (lv_at hl 1 rfl) ?_
  refine lv_aload_n hx hb d_law_845 rfl (lv_at hl 0 rfl) ?_
  refine lv_iload hx hb d_law_846 (lv_at hl 4 rfl) ?_
  refine lv_iconst (v := 1) hx hb d_law_848 (by decide) ?_
  refine lv_iadd hx hb d_law_849 ?_
  refine lw_ld hx hb hX hbl hbA hS (k := 6 * t + 1) (nI_add (6 * t) 1) (by omega) hL d_law_850 ?_
  rw [era]
  refine lv_aload_n hx hb d_law_851 rfl (lv_at hl 3 rfl) ?_
  have hPc := hP.sub (ws' := wXO o ko q κ x) [0, 1, 2, 3, 4, 5] rfl
  have hDc := hD.sub (ws' := wXO o ko q κ x) [0, 1, 2, 3, 4, 5] (by decide) rfl
  have hKc := hK.sub (tys' := tyXO ko κ) [0, 1, 2, 3, 4] rfl
  refine wj_i (ws := wL o ko q κ r μ x w) (wc := wXO o ko q κ x) (wr := wM r μ w) (mkAll := fun z => wL o ko q κ r μ z w) [0, 1, 2, 3, 4, 5] [6, 7, 8, 9, 10, 11] [6, 7, 8, 9, 10, 11, 0, 1, 2, 3, 4, 5] rfl rfl (by decide) (by decide) (by decide) (fun _ => rfl) (wx_runSH (n := 3) (As := [.ref (q 0), .int (nI ra), .ref (o)]) (rest := []) C (c_L_zeros_ok l hst D q κ o ko x ra hra H.size) (wG_SH (fun _ h => h) k_ml_L_106 k_st_L_zeros k_in_L k_L_zeros) rfl rfl rfl ⟨rfl, by decide, by decide, by decide +kernel⟩ ⟨Nat.le_of_ble_eq_true rfl, Nat.le_of_ble_eq_true rfl⟩ ⟨wf_blindO, wf_preO hPc hKc hDc hAll (fun z hz => hS.2.1 z hz (Nat.not_le.mpr hz))⟩ rfl hl.1 rfl (Nat.le_of_ble_eq_true rfl) d_law_852 ⟨by show _ ≤ 1041; omega, by show _ ≤ 10127; omega⟩) (fun _ h => h) hS hP hD hA (fun kr x1 H locs ew hP hD hS => ?_)
  obtain ⟨k0, ew⟩ := ew
  subst k0
  refine lv_istore (lv' := [(5, .int (0)), (0, .ref (b)), (1, .ref (q 0)), (2, .ref (r 0)), (3, .ref (o)), (4, .int (nI (6 * t)))]) hx hb d_law_855 hl (by decide) rfl (fun ls hl => ?_)
  refine lv_aload_n hx hb d_law_857 rfl (lv_at hl 3 rfl) ?_
  refine lv_aload_n hx hb d_law_858 rfl (lv_at hl 1 rfl) ?_
  refine lv_iload hx hb d_law_859 (lv_at hl 5 rfl) ?_
  refine lv_iconst (v := 1) hx hb d_law_861 (by decide) ?_
  refine lv_iadd hx hb d_law_862 ?_
  refine lw_ld hx hb hX hbl hbA hS (k := 6 * t + 1) (nI_add (6 * t) 1) (by omega) hL d_law_863 ?_
  rw [era]
  have hPc := hP.sub (ws' := wM r μ w) [6, 7, 8, 9, 10, 11] rfl
  have hDc := hD.sub (ws' := wM r μ w) [6, 7, 8, 9, 10, 11] (by decide) rfl
  have hKc := hK.sub (tys' := tyM μ) [5, 6, 7, 8, 9] rfl
  refine wj_i (ws := wL o ko q κ r μ x1 w) (wc := wM r μ w) (wr := wXO o ko q κ x1) (mkAll := fun z => wL o ko q κ r μ x1 z) [6, 7, 8, 9, 10, 11] [0, 1, 2, 3, 4, 5] [0, 1, 2, 3, 4, 5, 6, 7, 8, 9, 10, 11] rfl rfl (by decide) (by decide) (by decide) (fun _ => rfl) (va_runV (As := [.int (nI ra)]) (rest := []) C (c_M_zeros l D r μ w ra hra H.size) (cwV 1 C.2.2.2.2 (wG_V (fun _ h => h) k_ml_L_109 k_im_M_zeros k_se_M_zeros k_in_M k_M_zeros) rfl rfl rfl (by decide +kernel) ⟨Nat.le_of_ble_eq_true rfl, Nat.le_of_ble_eq_true rfl⟩) ⟨wf_blind, va_recv hKc hPc (ci := 1) (q0 := 0) rfl rfl, wf_pre hPc hKc hDc⟩ rfl rfl hl.1 rfl (lv_room (Nat.le_of_ble_eq_true rfl)) d_law_864 ⟨by show _ ≤ 1041; omega, by show _ ≤ 10127; omega⟩) (fun _ h => h) hS hP hD hA (fun mr w1 H locs em hP hD hS => ?_)
  have hcode : w1.1 = 0 := by rw [em.1]
  obtain ⟨rv, ⟨⟨z1, e1, k1⟩, ex⟩, ez⟩ := ew
  obtain ⟨em0, z2, e2, k2⟩ := em
  rw [hIn.1 ra hra] at k1
  have ezz := wf_LZ_one k1 k2
  have hIn1 : wf_In x1.1 w1 := by rw [ex]; exact In_code hIn em0
  have hz : x1.2 0 = Int32.toInt64 mr := by rw [ez, e1, e2, ezz]
  refine lv_istore (lv' := [(6, .int (mr)), (5, .int (0)), (0, .ref (b)), (1, .ref (q 0)), (2, .ref (r 0)), (3, .ref (o)), (4, .int (nI (6 * t)))]) hx hb d_law_867 hl (by decide) rfl (fun ls hl => ?_)
  refine lv_aload_n hx hb d_law_869 rfl (lv_at hl 4 rfl) ?_
  have hPc := hP.sub (ws' := wM r μ w1) [6, 7, 8, 9, 10, 11] rfl
  have hDc := hD.sub (ws' := wM r μ w1) [6, 7, 8, 9, 10, 11] (by decide) rfl
  have hKc := hK.sub (tys' := tyM μ) [5, 6, 7, 8, 9] rfl
  refine vp_callSi (W.runV (As := []) (rest := []) C (c_M_thrown l D r μ w1 H.size) (cwV 0 C.2.2.2.2 (wG_V (fun _ h => h) k_ml_L_74 k_im_M_thrown k_se_M_thrown k_in_M k_M_thrown) rfl rfl rfl (by decide +kernel) ⟨Nat.le_of_ble_eq_true rfl, Nat.le_of_ble_eq_true rfl⟩) ⟨wf_blind, va_recv hKc hPc (ci := 1) (q0 := 0) rfl rfl, wf_pre hPc hKc hDc⟩ rfl rfl hl.1 rfl (lv_room (Nat.le_of_ble_eq_true rfl)) d_law_870 ⟨by show _ ≤ 1041; omega, by show _ ≤ 10127; omega⟩) (fun tr htr => ?_)
  refine lv_iload hx hb d_law_873 (lv_at hl 1 rfl) ?_
  refine lv_icmp_eq (tgt := 880) hx hb d_law_875 (by decide) (fun c_1 => ?_) (fun c_1 => False.elim (by first | exact absurd (htr.trans hcode) c_1 | exact absurd c_1 (htr.trans hcode)))
  refine lv_iload hx hb d_law_880 (lv_at hl 1 rfl) ?_
  refine lv_if_ne (tgt := 897) hx hb d_law_882 (by decide) (fun c_2 => False.elim (absurd c_2 (by decide))) (fun _ => ?_)
  refine lv_aload_n hx hb d_law_885 rfl (lv_at hl 5 rfl) ?_
  refine lv_iconst (v := 0) hx hb d_law_886 (by decide) ?_
  refine wf_lald C hK hP 5 4 rfl rfl (k := 0) rfl (by decide) (by decide) d_law_887 ?_
  refine lv_iload hx hb d_law_888 (lv_at hl 0 rfl) ?_
  refine lv_i2l hx hb d_law_890 rfl ?_
  refine W.lcmp hx hb d_law_891 ?_
  refine lv_if_eq (tgt := 897) hx hb d_law_892 (by decide) (fun c_3 => ?_) (fun c_3 => False.elim (by first | exact absurd ((lg_cmp_eq _ _).mpr hz) c_3 | exact absurd c_3 ((lg_cmp_eq _ _).mpr hz)))
  refine lv_goto (tgt := 1124) hx hb d_law_897 (by decide) ?_
  refine W.widen (k := 12 + (t + 1)) (n := 1905 + 6 * (t + 1)) (by omega) (by omega) ?_
  exact back x1 w1 H locs ls hIn1 hP hD hS (lv_sub hl [2, 3, 4, 5, 6] rfl)

set_option maxHeartbeats 4000000 in
set_option maxRecDepth 100000 in
theorem law_9_bad {p : Program} {l : Launch} {e : Env} {s : State} {m : MethodId} {below : List Frame} {meth : Method} {c : Code} {D : va_G} {q r : Nat → Nat} {κ μ : Nat → ClassId} {o : Nat} {ko : ClassId} {b L : Nat} {xs : Nat → Int32} {t : Nat} {x : SX × (Nat → Int64)} {w : SM} {H : Heap} {locs : List Loc} {ls : Array Slot} (hst : l.stackTraces = false) (hL : L ≤ 3072) (C0 : lw_At p s m meth c b L xs) (hAll : wx_All s) (hK : va_K D vwCl (tyL ko κ μ) s) (ht : 6 * t + 6 ≤ L) (hbad : ((wf_no (xs (6 * t + 1))) || (false)) = true) (hIn : wf_In x.1 w) (hP : va_P D vwCl (wL o ko q κ r μ x w) H) (hD : va_D (lwA s) (wL o ko q κ r μ x w)) (hS : va_S (lwA s) s.heap H locs) (hl : lv_has ls 8 [(0, .ref (b)), (1, .ref (q 0)), (2, .ref (r 0)), (3, .ref (o)), (4, .int (nI (6 * t)))]) (back : ∀ (x' : SX × (Nat → Int64)) (w' : SM) (H' : Heap) (locs' : List Loc) (ls' : Array Slot), wf_In x'.1 w' → va_P D vwCl (wL o ko q κ r μ x' w') H' → va_D (lwA s) (wL o ko q κ r μ x' w') → va_S (lwA s) s.heap H' locs' → lv_has ls' 8 [(0, .ref (b)), (1, .ref (q 0)), (2, .ref (r 0)), (3, .ref (o)), (4, .int (nI (6 * t)))] → W p l e room_1 s m #[Value.ref b] below meth c H' locs' (12 + (t + 1)) (1905 + 6 * (t + 1)) (lw_Z below #[Value.ref b] s) (F0 m 1124 ls' [])) : W p l e room_1 s m #[Value.ref b] below meth c H locs (12 + t) (1905 + 6 * t) (lw_Z below #[Value.ref b] s) (F0 m 844 ls []) := by
  obtain ⟨hx, hb, hr, hml, hown, hts0, hX, hbl, hlocks, hgv⟩ := C0
  have hts := fun w h => hts0 w (wG_tbl h)
  have C : CallFix p m c code 8 s #[Value.ref b] wG RL := ⟨hx, hb, hml, hown, hts⟩
  have hA : ∀ z : Nat, s.heap.size ≤ z → lwA s z := fun _ h => h
  have hbA : ¬ lwA s b := Nat.not_le.mpr hbl
  refine lv_aload_n hx hb d_law_844 rfl (lv_at hl 1 rfl) ?_
  refine lv_aload_n hx hb d_law_845 rfl (lv_at hl 0 rfl) ?_
  refine lv_iload hx hb d_law_846 (lv_at hl 4 rfl) ?_
  refine lv_iconst (v := 1) hx hb d_law_848 (by decide) ?_
  refine lv_iadd hx hb d_law_849 ?_
  refine lw_ld hx hb hX hbl hbA hS (k := 6 * t + 1) (nI_add (6 * t) 1) (by omega) hL d_law_850 ?_
  refine lv_aload_n hx hb d_law_851 rfl (lv_at hl 3 rfl) ?_
  have hPc := hP.sub (ws' := wXO o ko q κ x) [0, 1, 2, 3, 4, 5] rfl
  have hDc := hD.sub (ws' := wXO o ko q κ x) [0, 1, 2, 3, 4, 5] (by decide) rfl
  have hKc := hK.sub (tys' := tyXO ko κ) [0, 1, 2, 3, 4] rfl
  refine wj_i (ws := wL o ko q κ r μ x w) (wc := wXO o ko q κ x) (wr := wM r μ w) (mkAll := fun z => wL o ko q κ r μ z w) [0, 1, 2, 3, 4, 5] [6, 7, 8, 9, 10, 11] [6, 7, 8, 9, 10, 11, 0, 1, 2, 3, 4, 5] rfl rfl (by decide) (by decide) (by decide) (fun _ => rfl) (wx_runSH (n := 3) (As := [.ref (q 0), .int (xs (6 * t + 1)), .ref (o)]) (rest := []) C (c_L_zeros_bad l hst D q κ o ko x (xs (6 * t + 1)) hbad H.size) (wG_SH (fun _ h => h) k_ml_L_106 k_st_L_zeros k_in_L k_L_zeros) rfl rfl rfl ⟨rfl, by decide, by decide, by decide +kernel⟩ ⟨Nat.le_of_ble_eq_true rfl, Nat.le_of_ble_eq_true rfl⟩ ⟨wf_blindO, wf_preO hPc hKc hDc hAll (fun z hz => hS.2.1 z hz (Nat.not_le.mpr hz))⟩ rfl hl.1 rfl (Nat.le_of_ble_eq_true rfl) d_law_852 ⟨by show _ ≤ 1041; omega, by show _ ≤ 10127; omega⟩) (fun _ h => h) hS hP hD hA (fun kr x1 H locs ew hP hD hS => ?_)
  obtain ⟨k0, ew⟩ := ew
  subst k0
  rw [ew] at hP hD
  have hP : va_P D vwCl (wL o ko q κ r μ x w) H := hP
  have hD : va_D (lwA s) (wL o ko q κ r μ x w) := hD
  refine lv_topi (fun v_1 ev_1 => ?_)
  refine lv_istore (lv' := [(5, .int (v_1)), (0, .ref (b)), (1, .ref (q 0)), (2, .ref (r 0)), (3, .ref (o)), (4, .int (nI (6 * t)))]) hx hb d_law_855 hl (by decide) rfl (fun ls hl => ?_)
  refine lv_aload_n hx hb d_law_857 rfl (lv_at hl 3 rfl) ?_
  refine lv_aload_n hx hb d_law_858 rfl (lv_at hl 1 rfl) ?_
  refine lv_iload hx hb d_law_859 (lv_at hl 5 rfl) ?_
  refine lv_iconst (v := 1) hx hb d_law_861 (by decide) ?_
  refine lv_iadd hx hb d_law_862 ?_
  refine lw_ld hx hb hX hbl hbA hS (k := 6 * t + 1) (nI_add (6 * t) 1) (by omega) hL d_law_863 ?_
  have hPc := hP.sub (ws' := wM r μ w) [6, 7, 8, 9, 10, 11] rfl
  have hDc := hD.sub (ws' := wM r μ w) [6, 7, 8, 9, 10, 11] (by decide) rfl
  have hKc := hK.sub (tys' := tyM μ) [5, 6, 7, 8, 9] rfl
  refine wj_i (ws := wL o ko q κ r μ x w) (wc := wM r μ w) (wr := wXO o ko q κ x) (mkAll := fun z => wL o ko q κ r μ x z) [6, 7, 8, 9, 10, 11] [0, 1, 2, 3, 4, 5] [0, 1, 2, 3, 4, 5, 6, 7, 8, 9, 10, 11] rfl rfl (by decide) (by decide) (by decide) (fun _ => rfl) (va_runV (As := [.int (xs (6 * t + 1))]) (rest := []) C (c_M_zerosBad l D r μ w (xs (6 * t + 1)) hbad H.size) (cwV 1 C.2.2.2.2 (wG_V (fun _ h => h) k_ml_L_109 k_im_M_zeros k_se_M_zeros k_in_M k_M_zeros) rfl rfl rfl (by decide +kernel) ⟨Nat.le_of_ble_eq_true rfl, Nat.le_of_ble_eq_true rfl⟩) ⟨wf_blind, va_recv hKc hPc (ci := 1) (q0 := 0) rfl rfl, wf_pre hPc hKc hDc⟩ rfl rfl hl.1 rfl (lv_room (Nat.le_of_ble_eq_true rfl)) d_law_864 ⟨by show _ ≤ 1041; omega, by show _ ≤ 10127; omega⟩) (fun _ h => h) hS hP hD hA (fun mr w1 H locs em hP hD hS => ?_)
  refine lv_istore (lv' := [(6, .int (mr)), (5, .int (v_1)), (0, .ref (b)), (1, .ref (q 0)), (2, .ref (r 0)), (3, .ref (o)), (4, .int (nI (6 * t)))]) hx hb d_law_867 hl (by decide) rfl (fun ls hl => ?_)
  refine lv_aload_n hx hb d_law_869 rfl (lv_at hl 4 rfl) ?_
  have hPc := hP.sub (ws' := wM r μ w1) [6, 7, 8, 9, 10, 11] rfl
  have hDc := hD.sub (ws' := wM r μ w1) [6, 7, 8, 9, 10, 11] (by decide) rfl
  have hKc := hK.sub (tys' := tyM μ) [5, 6, 7, 8, 9] rfl
  refine vp_callSi (W.runV (As := []) (rest := []) C (c_M_thrown l D r μ w1 H.size) (cwV 0 C.2.2.2.2 (wG_V (fun _ h => h) k_ml_L_74 k_im_M_thrown k_se_M_thrown k_in_M k_M_thrown) rfl rfl rfl (by decide +kernel) ⟨Nat.le_of_ble_eq_true rfl, Nat.le_of_ble_eq_true rfl⟩) ⟨wf_blind, va_recv hKc hPc (ci := 1) (q0 := 0) rfl rfl, wf_pre hPc hKc hDc⟩ rfl rfl hl.1 rfl (lv_room (Nat.le_of_ble_eq_true rfl)) d_law_870 ⟨by show _ ≤ 1041; omega, by show _ ≤ 10127; omega⟩) (fun tr htr => ?_)
  refine lv_iload hx hb d_law_873 (lv_at hl 1 rfl) ?_
  refine lv_icmp_eq (tgt := 880) hx hb d_law_875 (by decide) (fun c_2 => ?_) (fun c_2 => False.elim (by first | exact absurd (htr.trans (by rw [em, ev_1])) c_2 | exact absurd c_2 (htr.trans (by rw [em, ev_1]))))
  refine lv_iload hx hb d_law_880 (lv_at hl 1 rfl) ?_
  refine lv_if_ne (tgt := 897) hx hb d_law_882 (by decide) (fun c_3 => ?_) (fun c_3 => False.elim (by first | exact absurd (by rw [ev_1]; exact wf_c2_ne hbad) c_3 | exact absurd c_3 (by rw [ev_1]; exact wf_c2_ne hbad)))
  refine lv_goto (tgt := 1124) hx hb d_law_897 (by decide) ?_
  refine W.widen (k := 12 + (t + 1)) (n := 1905 + 6 * (t + 1)) (by omega) (by omega) ?_
  exact back x w1 H locs ls (In_code hIn em) hP hD hS (lv_sub hl [2, 3, 4, 5, 6] rfl)

set_option maxHeartbeats 4000000 in
set_option maxRecDepth 100000 in
theorem law_10_ok {p : Program} {l : Launch} {e : Env} {s : State} {m : MethodId} {below : List Frame} {meth : Method} {c : Code} {D : va_G} {q r : Nat → Nat} {κ μ : Nat → ClassId} {o : Nat} {ko : ClassId} {b L : Nat} {xs : Nat → Int32} {t : Nat} {x : SX × (Nat → Int64)} {w : SM} {H : Heap} {locs : List Loc} {ls : Array Slot} (hst : l.stackTraces = false) (hL : L ≤ 3072) (C0 : lw_At p s m meth c b L xs) (hAll : wx_All s) (hK : va_K D vwCl (tyL ko κ μ) s) (ht : 6 * t + 6 ≤ L) {ra : Nat} (hra : ra < 8) (era : xs (6 * t + 1) = nI ra) {rb : Nat} (hrb : rb < 8) (erb : xs (6 * t + 2) = nI rb) (hIn : wf_In x.1 w) (hP : va_P D vwCl (wL o ko q κ r μ x w) H) (hD : va_D (lwA s) (wL o ko q κ r μ x w)) (hS : va_S (lwA s) s.heap H locs) (hl : lv_has ls 8 [(0, .ref (b)), (1, .ref (q 0)), (2, .ref (r 0)), (3, .ref (o)), (4, .int (nI (6 * t)))]) (back : ∀ (x' : SX × (Nat → Int64)) (w' : SM) (H' : Heap) (locs' : List Loc) (ls' : Array Slot), wf_In x'.1 w' → va_P D vwCl (wL o ko q κ r μ x' w') H' → va_D (lwA s) (wL o ko q κ r μ x' w') → va_S (lwA s) s.heap H' locs' → lv_has ls' 8 [(0, .ref (b)), (1, .ref (q 0)), (2, .ref (r 0)), (3, .ref (o)), (4, .int (nI (6 * t)))] → W p l e room_1 s m #[Value.ref b] below meth c H' locs' (12 + (t + 1)) (1905 + 6 * (t + 1)) (lw_Z below #[Value.ref b] s) (F0 m 1124 ls' [])) : W p l e room_1 s m #[Value.ref b] below meth c H locs (12 + t) (1905 + 6 * t) (lw_Z below #[Value.ref b] s) (F0 m 900 ls []) := by
  obtain ⟨hx, hb, hr, hml, hown, hts0, hX, hbl, hlocks, hgv⟩ := C0
  have hts := fun w h => hts0 w (wG_tbl h)
  have C : CallFix p m c code 8 s #[Value.ref b] wG RL := ⟨hx, hb, hml, hown, hts⟩
  have hA : ∀ z : Nat, s.heap.size ≤ z → lwA s z := fun _ h => h
  have hbA : ¬ lwA s b := Nat.not_le.mpr hbl
  refine lv_aload_n hx hb d_law_900 rfl (lv_at hl 1 rfl) ?_
  refine lv_aload_n hx hb d_law_901 rfl (lv_at hl 0 rfl) ?_
  refine lv_iload hx hb d_law_902 (lv_at hl 4 rfl) ?_
  refine lv_iconst (v := 1) hx hb d_law_904 (by decide) ?_
  refine lv_iadd hx hb d_law_905 ?_
  refine lw_ld hx hb hX hbl hbA hS (k := 6 * t + 1) (nI_add (6 * t) 1) (by omega) hL d_law_906 ?_
  rw [era]
  refine lv_aload_n hx hb d_law_907 rfl (lv_at hl 0 rfl) ?_
  refine lv_iload hx hb d_law_908 (lv_at hl 4 rfl) ?_
  refine lv_iconst (v := 2) hx hb d_law_910 (by decide) ?_
  refine lv_iadd hx hb d_law_911 ?_
  refine lw_ld hx hb hX hbl hbA hS (k := 6 * t + 2) (nI_add (6 * t) 2) (by omega) hL d_law_912 ?_
  rw [erb]
  refine lv_aload_n hx hb d_law_913 rfl (lv_at hl 3 rfl) ?_
  have hPc := hP.sub (ws' := wXO o ko q κ x) [0, 1, 2, 3, 4, 5] rfl
  have hDc := hD.sub (ws' := wXO o ko q κ x) [0, 1, 2, 3, 4, 5] (by decide) rfl
  have hKc := hK.sub (tys' := tyXO ko κ) [0, 1, 2, 3, 4] rfl
  refine wj_i (ws := wL o ko q κ r μ x w) (wc := wXO o ko q κ x) (wr := wM r μ w) (mkAll := fun z => wL o ko q κ r μ z w) [0, 1, 2, 3, 4, 5] [6, 7, 8, 9, 10, 11] [6, 7, 8, 9, 10, 11, 0, 1, 2, 3, 4, 5] rfl rfl (by decide) (by decide) (by decide) (fun _ => rfl) (wx_runSH (n := 4) (As := [.ref (q 0), .int (nI ra), .int (nI rb), .ref (o)]) (rest := []) C (c_L_compare_ok l hst D q κ o ko x ra hra rb hrb H.size) (wG_SH (fun _ h => h) k_ml_L_110 k_st_L_compare k_in_L k_L_compare) rfl rfl rfl ⟨rfl, by decide, by decide, by decide +kernel⟩ ⟨Nat.le_of_ble_eq_true rfl, Nat.le_of_ble_eq_true rfl⟩ ⟨wf_blindO, wf_preO hPc hKc hDc hAll (fun z hz => hS.2.1 z hz (Nat.not_le.mpr hz))⟩ rfl hl.1 rfl (Nat.le_of_ble_eq_true rfl) d_law_914 ⟨by show _ ≤ 1041; omega, by show _ ≤ 10127; omega⟩) (fun _ h => h) hS hP hD hA (fun kr x1 H locs ew hP hD hS => ?_)
  obtain ⟨k0, ew⟩ := ew
  subst k0
  refine lv_istore (lv' := [(5, .int (0)), (0, .ref (b)), (1, .ref (q 0)), (2, .ref (r 0)), (3, .ref (o)), (4, .int (nI (6 * t)))]) hx hb d_law_917 hl (by decide) rfl (fun ls hl => ?_)
  refine lv_aload_n hx hb d_law_919 rfl (lv_at hl 3 rfl) ?_
  refine lv_aload_n hx hb d_law_920 rfl (lv_at hl 1 rfl) ?_
  refine lv_iload hx hb d_law_921 (lv_at hl 5 rfl) ?_
  refine lv_iconst (v := 1) hx hb d_law_923 (by decide) ?_
  refine lv_iadd hx hb d_law_924 ?_
  refine lw_ld hx hb hX hbl hbA hS (k := 6 * t + 1) (nI_add (6 * t) 1) (by omega) hL d_law_925 ?_
  rw [era]
  refine lv_aload_n hx hb d_law_926 rfl (lv_at hl 1 rfl) ?_
  refine lv_iload hx hb d_law_927 (lv_at hl 5 rfl) ?_
  refine lv_iconst (v := 2) hx hb d_law_929 (by decide) ?_
  refine lv_iadd hx hb d_law_930 ?_
  refine lw_ld hx hb hX hbl hbA hS (k := 6 * t + 2) (nI_add (6 * t) 2) (by omega) hL d_law_931 ?_
  rw [erb]
  have hPc := hP.sub (ws' := wM r μ w) [6, 7, 8, 9, 10, 11] rfl
  have hDc := hD.sub (ws' := wM r μ w) [6, 7, 8, 9, 10, 11] (by decide) rfl
  have hKc := hK.sub (tys' := tyM μ) [5, 6, 7, 8, 9] rfl
  refine wj_i (ws := wL o ko q κ r μ x1 w) (wc := wM r μ w) (wr := wXO o ko q κ x1) (mkAll := fun z => wL o ko q κ r μ x1 z) [6, 7, 8, 9, 10, 11] [0, 1, 2, 3, 4, 5] [0, 1, 2, 3, 4, 5, 6, 7, 8, 9, 10, 11] rfl rfl (by decide) (by decide) (by decide) (fun _ => rfl) (va_runV (As := [.int (nI ra), .int (nI rb)]) (rest := []) C (c_M_compare l D r μ w ra hra rb hrb H.size) (cwV 2 C.2.2.2.2 (wG_V (fun _ h => h) k_ml_L_113 k_im_M_compare k_se_M_compare k_in_M k_M_compare) rfl rfl rfl (by decide +kernel) ⟨Nat.le_of_ble_eq_true rfl, Nat.le_of_ble_eq_true rfl⟩) ⟨wf_blind, va_recv hKc hPc (ci := 1) (q0 := 0) rfl rfl, wf_pre hPc hKc hDc⟩ rfl rfl hl.1 rfl (lv_room (Nat.le_of_ble_eq_true rfl)) d_law_932 ⟨by show _ ≤ 1041; omega, by show _ ≤ 10127; omega⟩) (fun _ h => h) hS hP hD hA (fun mr w1 H locs em hP hD hS => ?_)
  have hcode : w1.1 = 0 := by rw [em.1]
  obtain ⟨rv, ⟨e1, ex⟩, ez⟩ := ew
  rw [hIn.1 ra hra, hIn.1 rb hrb] at e1
  have hIn1 : wf_In x1.1 w1 := by rw [ex]; exact In_code hIn em.1
  have hz : x1.2 0 = Int32.toInt64 mr := by rw [ez, e1, em.2]; rfl
  refine lv_istore (lv' := [(6, .int (mr)), (5, .int (0)), (0, .ref (b)), (1, .ref (q 0)), (2, .ref (r 0)), (3, .ref (o)), (4, .int (nI (6 * t)))]) hx hb d_law_935 hl (by decide) rfl (fun ls hl => ?_)
  refine lv_aload_n hx hb d_law_937 rfl (lv_at hl 4 rfl) ?_
  have hPc := hP.sub (ws' := wM r μ w1) [6, 7, 8, 9, 10, 11] rfl
  have hDc := hD.sub (ws' := wM r μ w1) [6, 7, 8, 9, 10, 11] (by decide) rfl
  have hKc := hK.sub (tys' := tyM μ) [5, 6, 7, 8, 9] rfl
  refine vp_callSi (W.runV (As := []) (rest := []) C (c_M_thrown l D r μ w1 H.size) (cwV 0 C.2.2.2.2 (wG_V (fun _ h => h) k_ml_L_74 k_im_M_thrown k_se_M_thrown k_in_M k_M_thrown) rfl rfl rfl (by decide +kernel) ⟨Nat.le_of_ble_eq_true rfl, Nat.le_of_ble_eq_true rfl⟩) ⟨wf_blind, va_recv hKc hPc (ci := 1) (q0 := 0) rfl rfl, wf_pre hPc hKc hDc⟩ rfl rfl hl.1 rfl (lv_room (Nat.le_of_ble_eq_true rfl)) d_law_938 ⟨by show _ ≤ 1041; omega, by show _ ≤ 10127; omega⟩) (fun tr htr => ?_)
  refine lv_iload hx hb d_law_941 (lv_at hl 1 rfl) ?_
  refine lv_icmp_eq (tgt := 948) hx hb d_law_943 (by decide) (fun c_1 => ?_) (fun c_1 => False.elim (by first | exact absurd (htr.trans hcode) c_1 | exact absurd c_1 (htr.trans hcode)))
  refine lv_iload hx hb d_law_948 (lv_at hl 1 rfl) ?_
  refine lv_if_ne (tgt := 965) hx hb d_law_950 (by decide) (fun c_2 => False.elim (absurd c_2 (by decide))) (fun _ => ?_)
  refine lv_aload_n hx hb d_law_953 rfl (lv_at hl 5 rfl) ?_
  refine lv_iconst (v := 0) hx hb d_law_954 (by decide) ?_
  refine wf_lald C hK hP 5 4 rfl rfl (k := 0) rfl (by decide) (by decide) d_law_955 ?_
  refine lv_iload hx hb d_law_956 (lv_at hl 0 rfl) ?_
  refine lv_i2l hx hb d_law_958 rfl ?_
  refine W.lcmp hx hb d_law_959 ?_
  refine lv_if_eq (tgt := 965) hx hb d_law_960 (by decide) (fun c_3 => ?_) (fun c_3 => False.elim (by first | exact absurd ((lg_cmp_eq _ _).mpr hz) c_3 | exact absurd c_3 ((lg_cmp_eq _ _).mpr hz)))
  refine lv_goto (tgt := 1124) hx hb d_law_965 (by decide) ?_
  refine W.widen (k := 12 + (t + 1)) (n := 1905 + 6 * (t + 1)) (by omega) (by omega) ?_
  exact back x1 w1 H locs ls hIn1 hP hD hS (lv_sub hl [2, 3, 4, 5, 6] rfl)

set_option maxHeartbeats 4000000 in
set_option maxRecDepth 100000 in
theorem law_10_bad {p : Program} {l : Launch} {e : Env} {s : State} {m : MethodId} {below : List Frame} {meth : Method} {c : Code} {D : va_G} {q r : Nat → Nat} {κ μ : Nat → ClassId} {o : Nat} {ko : ClassId} {b L : Nat} {xs : Nat → Int32} {t : Nat} {x : SX × (Nat → Int64)} {w : SM} {H : Heap} {locs : List Loc} {ls : Array Slot} (hst : l.stackTraces = false) (hL : L ≤ 3072) (C0 : lw_At p s m meth c b L xs) (hAll : wx_All s) (hK : va_K D vwCl (tyL ko κ μ) s) (ht : 6 * t + 6 ≤ L) (hbad : ((wf_no (xs (6 * t + 1)) || wf_no (xs (6 * t + 2))) || (false)) = true) (hIn : wf_In x.1 w) (hP : va_P D vwCl (wL o ko q κ r μ x w) H) (hD : va_D (lwA s) (wL o ko q κ r μ x w)) (hS : va_S (lwA s) s.heap H locs) (hl : lv_has ls 8 [(0, .ref (b)), (1, .ref (q 0)), (2, .ref (r 0)), (3, .ref (o)), (4, .int (nI (6 * t)))]) (back : ∀ (x' : SX × (Nat → Int64)) (w' : SM) (H' : Heap) (locs' : List Loc) (ls' : Array Slot), wf_In x'.1 w' → va_P D vwCl (wL o ko q κ r μ x' w') H' → va_D (lwA s) (wL o ko q κ r μ x' w') → va_S (lwA s) s.heap H' locs' → lv_has ls' 8 [(0, .ref (b)), (1, .ref (q 0)), (2, .ref (r 0)), (3, .ref (o)), (4, .int (nI (6 * t)))] → W p l e room_1 s m #[Value.ref b] below meth c H' locs' (12 + (t + 1)) (1905 + 6 * (t + 1)) (lw_Z below #[Value.ref b] s) (F0 m 1124 ls' [])) : W p l e room_1 s m #[Value.ref b] below meth c H locs (12 + t) (1905 + 6 * t) (lw_Z below #[Value.ref b] s) (F0 m 900 ls []) := by
  obtain ⟨hx, hb, hr, hml, hown, hts0, hX, hbl, hlocks, hgv⟩ := C0
  have hts := fun w h => hts0 w (wG_tbl h)
  have C : CallFix p m c code 8 s #[Value.ref b] wG RL := ⟨hx, hb, hml, hown, hts⟩
  have hA : ∀ z : Nat, s.heap.size ≤ z → lwA s z := fun _ h => h
  have hbA : ¬ lwA s b := Nat.not_le.mpr hbl
  refine lv_aload_n hx hb d_law_900 rfl (lv_at hl 1 rfl) ?_
  refine lv_aload_n hx hb d_law_901 rfl (lv_at hl 0 rfl) ?_
  refine lv_iload hx hb d_law_902 (lv_at hl 4 rfl) ?_
  refine lv_iconst (v := 1) hx hb d_law_904 (by decide) ?_
  refine lv_iadd hx hb d_law_905 ?_
  refine lw_ld hx hb hX hbl hbA hS (k := 6 * t + 1) (nI_add (6 * t) 1) (by omega) hL d_law_906 ?_
  refine lv_aload_n hx hb d_law_907 rfl (lv_at hl 0 rfl) ?_
  refine lv_iload hx hb d_law_908 (lv_at hl 4 rfl) ?_
  refine lv_iconst (v := 2) hx hb d_law_910 (by decide) ?_
  refine lv_iadd hx hb d_law_911 ?_
  refine lw_ld hx hb hX hbl hbA hS (k := 6 * t + 2) (nI_add (6 * t) 2) (by omega) hL d_law_912 ?_
  refine lv_aload_n hx hb d_law_913 rfl (lv_at hl 3 rfl) ?_
  have hPc := hP.sub (ws' := wXO o ko q κ x) [0, 1, 2, 3, 4, 5] rfl
  have hDc := hD.sub (ws' := wXO o ko q κ x) [0, 1, 2, 3, 4, 5] (by decide) rfl
  have hKc := hK.sub (tys' := tyXO ko κ) [0, 1, 2, 3, 4] rfl
  refine wj_i (ws := wL o ko q κ r μ x w) (wc := wXO o ko q κ x) (wr := wM r μ w) (mkAll := fun z => wL o ko q κ r μ z w) [0, 1, 2, 3, 4, 5] [6, 7, 8, 9, 10, 11] [6, 7, 8, 9, 10, 11, 0, 1, 2, 3, 4, 5] rfl rfl (by decide) (by decide) (by decide) (fun _ => rfl) (wx_runSH (n := 4) (As := [.ref (q 0), .int (xs (6 * t + 1)), .int (xs (6 * t + 2)), .ref (o)]) (rest := []) C (c_L_compare_bad l hst D q κ o ko x (xs (6 * t + 1)) (xs (6 * t + 2)) hbad H.size) (wG_SH (fun _ h => h) k_ml_L_110 k_st_L_compare k_in_L k_L_compare) rfl rfl rfl ⟨rfl, by decide, by decide, by decide +kernel⟩ ⟨Nat.le_of_ble_eq_true rfl, Nat.le_of_ble_eq_true rfl⟩ ⟨wf_blindO, wf_preO hPc hKc hDc hAll (fun z hz => hS.2.1 z hz (Nat.not_le.mpr hz))⟩ rfl hl.1 rfl (Nat.le_of_ble_eq_true rfl) d_law_914 ⟨by show _ ≤ 1041; omega, by show _ ≤ 10127; omega⟩) (fun _ h => h) hS hP hD hA (fun kr x1 H locs ew hP hD hS => ?_)
  obtain ⟨k0, ew⟩ := ew
  subst k0
  rw [ew] at hP hD
  have hP : va_P D vwCl (wL o ko q κ r μ x w) H := hP
  have hD : va_D (lwA s) (wL o ko q κ r μ x w) := hD
  refine lv_topi (fun v_1 ev_1 => ?_)
  refine lv_istore (lv' := [(5, .int (v_1)), (0, .ref (b)), (1, .ref (q 0)), (2, .ref (r 0)), (3, .ref (o)), (4, .int (nI (6 * t)))]) hx hb d_law_917 hl (by decide) rfl (fun ls hl => ?_)
  refine lv_aload_n hx hb d_law_919 rfl (lv_at hl 3 rfl) ?_
  refine lv_aload_n hx hb d_law_920 rfl (lv_at hl 1 rfl) ?_
  refine lv_iload hx hb d_law_921 (lv_at hl 5 rfl) ?_
  refine lv_iconst (v := 1) hx hb d_law_923 (by decide) ?_
  refine lv_iadd hx hb d_law_924 ?_
  refine lw_ld hx hb hX hbl hbA hS (k := 6 * t + 1) (nI_add (6 * t) 1) (by omega) hL d_law_925 ?_
  refine lv_aload_n hx hb d_law_926 rfl (lv_at hl 1 rfl) ?_
  refine lv_iload hx hb d_law_927 (lv_at hl 5 rfl) ?_
  refine lv_iconst (v := 2) hx hb d_law_929 (by decide) ?_
  refine lv_iadd hx hb d_law_930 ?_
  refine lw_ld hx hb hX hbl hbA hS (k := 6 * t + 2) (nI_add (6 * t) 2) (by omega) hL d_law_931 ?_
  have hPc := hP.sub (ws' := wM r μ w) [6, 7, 8, 9, 10, 11] rfl
  have hDc := hD.sub (ws' := wM r μ w) [6, 7, 8, 9, 10, 11] (by decide) rfl
  have hKc := hK.sub (tys' := tyM μ) [5, 6, 7, 8, 9] rfl
  refine wj_i (ws := wL o ko q κ r μ x w) (wc := wM r μ w) (wr := wXO o ko q κ x) (mkAll := fun z => wL o ko q κ r μ x z) [6, 7, 8, 9, 10, 11] [0, 1, 2, 3, 4, 5] [0, 1, 2, 3, 4, 5, 6, 7, 8, 9, 10, 11] rfl rfl (by decide) (by decide) (by decide) (fun _ => rfl) (va_runV (As := [.int (xs (6 * t + 1)), .int (xs (6 * t + 2))]) (rest := []) C (c_M_compareBad l D r μ w (xs (6 * t + 1)) (xs (6 * t + 2)) hbad H.size) (cwV 2 C.2.2.2.2 (wG_V (fun _ h => h) k_ml_L_113 k_im_M_compare k_se_M_compare k_in_M k_M_compare) rfl rfl rfl (by decide +kernel) ⟨Nat.le_of_ble_eq_true rfl, Nat.le_of_ble_eq_true rfl⟩) ⟨wf_blind, va_recv hKc hPc (ci := 1) (q0 := 0) rfl rfl, wf_pre hPc hKc hDc⟩ rfl rfl hl.1 rfl (lv_room (Nat.le_of_ble_eq_true rfl)) d_law_932 ⟨by show _ ≤ 1041; omega, by show _ ≤ 10127; omega⟩) (fun _ h => h) hS hP hD hA (fun mr w1 H locs em hP hD hS => ?_)
  refine lv_istore (lv' := [(6, .int (mr)), (5, .int (v_1)), (0, .ref (b)), (1, .ref (q 0)), (2, .ref (r 0)), (3, .ref (o)), (4, .int (nI (6 * t)))]) hx hb d_law_935 hl (by decide) rfl (fun ls hl => ?_)
  refine lv_aload_n hx hb d_law_937 rfl (lv_at hl 4 rfl) ?_
  have hPc := hP.sub (ws' := wM r μ w1) [6, 7, 8, 9, 10, 11] rfl
  have hDc := hD.sub (ws' := wM r μ w1) [6, 7, 8, 9, 10, 11] (by decide) rfl
  have hKc := hK.sub (tys' := tyM μ) [5, 6, 7, 8, 9] rfl
  refine vp_callSi (W.runV (As := []) (rest := []) C (c_M_thrown l D r μ w1 H.size) (cwV 0 C.2.2.2.2 (wG_V (fun _ h => h) k_ml_L_74 k_im_M_thrown k_se_M_thrown k_in_M k_M_thrown) rfl rfl rfl (by decide +kernel) ⟨Nat.le_of_ble_eq_true rfl, Nat.le_of_ble_eq_true rfl⟩) ⟨wf_blind, va_recv hKc hPc (ci := 1) (q0 := 0) rfl rfl, wf_pre hPc hKc hDc⟩ rfl rfl hl.1 rfl (lv_room (Nat.le_of_ble_eq_true rfl)) d_law_938 ⟨by show _ ≤ 1041; omega, by show _ ≤ 10127; omega⟩) (fun tr htr => ?_)
  refine lv_iload hx hb d_law_941 (lv_at hl 1 rfl) ?_
  refine lv_icmp_eq (tgt := 948) hx hb d_law_943 (by decide) (fun c_2 => ?_) (fun c_2 => False.elim (by first | exact absurd (htr.trans (by rw [em, ev_1])) c_2 | exact absurd c_2 (htr.trans (by rw [em, ev_1]))))
  refine lv_iload hx hb d_law_948 (lv_at hl 1 rfl) ?_
  refine lv_if_ne (tgt := 965) hx hb d_law_950 (by decide) (fun c_3 => ?_) (fun c_3 => False.elim (by first | exact absurd (by rw [ev_1]; exact wf_c2_ne hbad) c_3 | exact absurd c_3 (by rw [ev_1]; exact wf_c2_ne hbad)))
  refine lv_goto (tgt := 1124) hx hb d_law_965 (by decide) ?_
  refine W.widen (k := 12 + (t + 1)) (n := 1905 + 6 * (t + 1)) (by omega) (by omega) ?_
  exact back x w1 H locs ls (In_code hIn em) hP hD hS (lv_sub hl [2, 3, 4, 5, 6] rfl)

set_option maxHeartbeats 4000000 in
set_option maxRecDepth 100000 in
theorem law_11_ok {p : Program} {l : Launch} {e : Env} {s : State} {m : MethodId} {below : List Frame} {meth : Method} {c : Code} {D : va_G} {q r : Nat → Nat} {κ μ : Nat → ClassId} {o : Nat} {ko : ClassId} {b L : Nat} {xs : Nat → Int32} {t : Nat} {x : SX × (Nat → Int64)} {w : SM} {H : Heap} {locs : List Loc} {ls : Array Slot} (hst : l.stackTraces = false) (hL : L ≤ 3072) (C0 : lw_At p s m meth c b L xs) (hAll : wx_All s) (hK : va_K D vwCl (tyL ko κ μ) s) (ht : 6 * t + 6 ≤ L) {ra : Nat} (hra : ra < 8) (era : xs (6 * t + 1) = nI ra) (hIn : wf_In x.1 w) (hP : va_P D vwCl (wL o ko q κ r μ x w) H) (hD : va_D (lwA s) (wL o ko q κ r μ x w)) (hS : va_S (lwA s) s.heap H locs) (hl : lv_has ls 8 [(0, .ref (b)), (1, .ref (q 0)), (2, .ref (r 0)), (3, .ref (o)), (4, .int (nI (6 * t)))]) (back : ∀ (x' : SX × (Nat → Int64)) (w' : SM) (H' : Heap) (locs' : List Loc) (ls' : Array Slot), wf_In x'.1 w' → va_P D vwCl (wL o ko q κ r μ x' w') H' → va_D (lwA s) (wL o ko q κ r μ x' w') → va_S (lwA s) s.heap H' locs' → lv_has ls' 8 [(0, .ref (b)), (1, .ref (q 0)), (2, .ref (r 0)), (3, .ref (o)), (4, .int (nI (6 * t)))] → W p l e room_1 s m #[Value.ref b] below meth c H' locs' (12 + (t + 1)) (1905 + 6 * (t + 1)) (lw_Z below #[Value.ref b] s) (F0 m 1124 ls' [])) : W p l e room_1 s m #[Value.ref b] below meth c H locs (12 + t) (1905 + 6 * t) (lw_Z below #[Value.ref b] s) (F0 m 968 ls []) := by
  obtain ⟨hx, hb, hr, hml, hown, hts0, hX, hbl, hlocks, hgv⟩ := C0
  have hts := fun w h => hts0 w (wG_tbl h)
  have C : CallFix p m c code 8 s #[Value.ref b] wG RL := ⟨hx, hb, hml, hown, hts⟩
  have hA : ∀ z : Nat, s.heap.size ≤ z → lwA s z := fun _ h => h
  have hbA : ¬ lwA s b := Nat.not_le.mpr hbl
  refine lv_aload_n hx hb d_law_968 rfl (lv_at hl 1 rfl) ?_
  refine lv_aload_n hx hb d_law_969 rfl (lv_at hl 0 rfl) ?_
  refine lv_iload hx hb d_law_970 (lv_at hl 4 rfl) ?_
  refine lv_iconst (v := 1) hx hb d_law_972 (by decide) ?_
  refine lv_iadd hx hb d_law_973 ?_
  refine lw_ld hx hb hX hbl hbA hS (k := 6 * t + 1) (nI_add (6 * t) 1) (by omega) hL d_law_974 ?_
  rw [era]
  refine lv_aload_n hx hb d_law_975 rfl (lv_at hl 3 rfl) ?_
  have hPc := hP.sub (ws' := wXO o ko q κ x) [0, 1, 2, 3, 4, 5] rfl
  have hDc := hD.sub (ws' := wXO o ko q κ x) [0, 1, 2, 3, 4, 5] (by decide) rfl
  have hKc := hK.sub (tys' := tyXO ko κ) [0, 1, 2, 3, 4] rfl
  refine wj_i (ws := wL o ko q κ r μ x w) (wc := wXO o ko q κ x) (wr := wM r μ w) (mkAll := fun z => wL o ko q κ r μ z w) [0, 1, 2, 3, 4, 5] [6, 7, 8, 9, 10, 11] [6, 7, 8, 9, 10, 11, 0, 1, 2, 3, 4, 5] rfl rfl (by decide) (by decide) (by decide) (fun _ => rfl) (wx_runSH (n := 3) (As := [.ref (q 0), .int (nI ra), .ref (o)]) (rest := []) C (c_L_digits_ok l hst D q κ o ko x ra hra H.size) (wG_SH (fun _ h => h) k_ml_L_114 k_st_L_digits k_in_L k_L_digits) rfl rfl rfl ⟨rfl, by decide, by decide, by decide +kernel⟩ ⟨Nat.le_of_ble_eq_true rfl, Nat.le_of_ble_eq_true rfl⟩ ⟨wf_blindO, wf_preO hPc hKc hDc hAll (fun z hz => hS.2.1 z hz (Nat.not_le.mpr hz))⟩ rfl hl.1 rfl (Nat.le_of_ble_eq_true rfl) d_law_976 ⟨by show _ ≤ 1041; omega, by show _ ≤ 10127; omega⟩) (fun _ h => h) hS hP hD hA (fun kr x1 H locs ew hP hD hS => ?_)
  obtain ⟨k0, ew⟩ := ew
  subst k0
  refine lv_istore (lv' := [(5, .int (0)), (0, .ref (b)), (1, .ref (q 0)), (2, .ref (r 0)), (3, .ref (o)), (4, .int (nI (6 * t)))]) hx hb d_law_979 hl (by decide) rfl (fun ls hl => ?_)
  refine lv_aload_n hx hb d_law_981 rfl (lv_at hl 3 rfl) ?_
  refine lv_aload_n hx hb d_law_982 rfl (lv_at hl 1 rfl) ?_
  refine lv_iload hx hb d_law_983 (lv_at hl 5 rfl) ?_
  refine lv_iconst (v := 1) hx hb d_law_985 (by decide) ?_
  refine lv_iadd hx hb d_law_986 ?_
  refine lw_ld hx hb hX hbl hbA hS (k := 6 * t + 1) (nI_add (6 * t) 1) (by omega) hL d_law_987 ?_
  rw [era]
  have hPc := hP.sub (ws' := wM r μ w) [6, 7, 8, 9, 10, 11] rfl
  have hDc := hD.sub (ws' := wM r μ w) [6, 7, 8, 9, 10, 11] (by decide) rfl
  have hKc := hK.sub (tys' := tyM μ) [5, 6, 7, 8, 9] rfl
  refine wj_i (ws := wL o ko q κ r μ x1 w) (wc := wM r μ w) (wr := wXO o ko q κ x1) (mkAll := fun z => wL o ko q κ r μ x1 z) [6, 7, 8, 9, 10, 11] [0, 1, 2, 3, 4, 5] [0, 1, 2, 3, 4, 5, 6, 7, 8, 9, 10, 11] rfl rfl (by decide) (by decide) (by decide) (fun _ => rfl) (va_runV (As := [.int (nI ra)]) (rest := []) C (c_M_digits l D r μ w ra hra H.size) (cwV 1 C.2.2.2.2 (wG_V (fun _ h => h) k_ml_L_116 k_im_M_digits k_se_M_digits k_in_M k_M_digits) rfl rfl rfl (by decide +kernel) ⟨Nat.le_of_ble_eq_true rfl, Nat.le_of_ble_eq_true rfl⟩) ⟨wf_blind, va_recv hKc hPc (ci := 1) (q0 := 0) rfl rfl, wf_pre hPc hKc hDc⟩ rfl rfl hl.1 rfl (lv_room (Nat.le_of_ble_eq_true rfl)) d_law_988 ⟨by show _ ≤ 1041; omega, by show _ ≤ 10127; omega⟩) (fun _ h => h) hS hP hD hA (fun mr w1 H locs em hP hD hS => ?_)
  obtain ⟨rv, ⟨cx, Gx, a0, a1, a2, a3, a4, a5, a6⟩, ez⟩ := ew
  obtain ⟨b00, cm, Gm, b0, b1, b2, hcode, b3, b6⟩ := em
  obtain ⟨ec, hIn1⟩ := In_dig hIn hra a1 a2 a3 a4 a5 a6 b0 b2 b3 b6
  have hz : x1.2 0 = Int32.toInt64 mr := by rw [ez, a0, b00, b0, ec]
  refine lv_istore (lv' := [(6, .int (mr)), (5, .int (0)), (0, .ref (b)), (1, .ref (q 0)), (2, .ref (r 0)), (3, .ref (o)), (4, .int (nI (6 * t)))]) hx hb d_law_991 hl (by decide) rfl (fun ls hl => ?_)
  refine lv_aload_n hx hb d_law_993 rfl (lv_at hl 4 rfl) ?_
  have hPc := hP.sub (ws' := wM r μ w1) [6, 7, 8, 9, 10, 11] rfl
  have hDc := hD.sub (ws' := wM r μ w1) [6, 7, 8, 9, 10, 11] (by decide) rfl
  have hKc := hK.sub (tys' := tyM μ) [5, 6, 7, 8, 9] rfl
  refine vp_callSi (W.runV (As := []) (rest := []) C (c_M_thrown l D r μ w1 H.size) (cwV 0 C.2.2.2.2 (wG_V (fun _ h => h) k_ml_L_74 k_im_M_thrown k_se_M_thrown k_in_M k_M_thrown) rfl rfl rfl (by decide +kernel) ⟨Nat.le_of_ble_eq_true rfl, Nat.le_of_ble_eq_true rfl⟩) ⟨wf_blind, va_recv hKc hPc (ci := 1) (q0 := 0) rfl rfl, wf_pre hPc hKc hDc⟩ rfl rfl hl.1 rfl (lv_room (Nat.le_of_ble_eq_true rfl)) d_law_994 ⟨by show _ ≤ 1041; omega, by show _ ≤ 10127; omega⟩) (fun tr htr => ?_)
  refine lv_iload hx hb d_law_997 (lv_at hl 1 rfl) ?_
  refine lv_icmp_eq (tgt := 1004) hx hb d_law_999 (by decide) (fun c_1 => ?_) (fun c_1 => False.elim (by first | exact absurd (htr.trans hcode) c_1 | exact absurd c_1 (htr.trans hcode)))
  refine lv_iload hx hb d_law_1004 (lv_at hl 1 rfl) ?_
  refine lv_if_ne (tgt := 1021) hx hb d_law_1006 (by decide) (fun c_2 => False.elim (absurd c_2 (by decide))) (fun _ => ?_)
  refine lv_aload_n hx hb d_law_1009 rfl (lv_at hl 5 rfl) ?_
  refine lv_iconst (v := 0) hx hb d_law_1010 (by decide) ?_
  refine wf_lald C hK hP 5 4 rfl rfl (k := 0) rfl (by decide) (by decide) d_law_1011 ?_
  refine lv_iload hx hb d_law_1012 (lv_at hl 0 rfl) ?_
  refine lv_i2l hx hb d_law_1014 rfl ?_
  refine W.lcmp hx hb d_law_1015 ?_
  refine lv_if_eq (tgt := 1021) hx hb d_law_1016 (by decide) (fun c_3 => ?_) (fun c_3 => False.elim (by first | exact absurd ((lg_cmp_eq _ _).mpr hz) c_3 | exact absurd c_3 ((lg_cmp_eq _ _).mpr hz)))
  refine lv_goto (tgt := 1124) hx hb d_law_1021 (by decide) ?_
  refine W.widen (k := 12 + (t + 1)) (n := 1905 + 6 * (t + 1)) (by omega) (by omega) ?_
  exact back x1 w1 H locs ls hIn1 hP hD hS (lv_sub hl [2, 3, 4, 5, 6] rfl)

set_option maxHeartbeats 4000000 in
set_option maxRecDepth 100000 in
theorem law_11_bad {p : Program} {l : Launch} {e : Env} {s : State} {m : MethodId} {below : List Frame} {meth : Method} {c : Code} {D : va_G} {q r : Nat → Nat} {κ μ : Nat → ClassId} {o : Nat} {ko : ClassId} {b L : Nat} {xs : Nat → Int32} {t : Nat} {x : SX × (Nat → Int64)} {w : SM} {H : Heap} {locs : List Loc} {ls : Array Slot} (hst : l.stackTraces = false) (hL : L ≤ 3072) (C0 : lw_At p s m meth c b L xs) (hAll : wx_All s) (hK : va_K D vwCl (tyL ko κ μ) s) (ht : 6 * t + 6 ≤ L) (hbad : ((wf_no (xs (6 * t + 1))) || (false)) = true) (hIn : wf_In x.1 w) (hP : va_P D vwCl (wL o ko q κ r μ x w) H) (hD : va_D (lwA s) (wL o ko q κ r μ x w)) (hS : va_S (lwA s) s.heap H locs) (hl : lv_has ls 8 [(0, .ref (b)), (1, .ref (q 0)), (2, .ref (r 0)), (3, .ref (o)), (4, .int (nI (6 * t)))]) (back : ∀ (x' : SX × (Nat → Int64)) (w' : SM) (H' : Heap) (locs' : List Loc) (ls' : Array Slot), wf_In x'.1 w' → va_P D vwCl (wL o ko q κ r μ x' w') H' → va_D (lwA s) (wL o ko q κ r μ x' w') → va_S (lwA s) s.heap H' locs' → lv_has ls' 8 [(0, .ref (b)), (1, .ref (q 0)), (2, .ref (r 0)), (3, .ref (o)), (4, .int (nI (6 * t)))] → W p l e room_1 s m #[Value.ref b] below meth c H' locs' (12 + (t + 1)) (1905 + 6 * (t + 1)) (lw_Z below #[Value.ref b] s) (F0 m 1124 ls' [])) : W p l e room_1 s m #[Value.ref b] below meth c H locs (12 + t) (1905 + 6 * t) (lw_Z below #[Value.ref b] s) (F0 m 968 ls []) := by
  obtain ⟨hx, hb, hr, hml, hown, hts0, hX, hbl, hlocks, hgv⟩ := C0
  have hts := fun w h => hts0 w (wG_tbl h)
  have C : CallFix p m c code 8 s #[Value.ref b] wG RL := ⟨hx, hb, hml, hown, hts⟩
  have hA : ∀ z : Nat, s.heap.size ≤ z → lwA s z := fun _ h => h
  have hbA : ¬ lwA s b := Nat.not_le.mpr hbl
  refine lv_aload_n hx hb d_law_968 rfl (lv_at hl 1 rfl) ?_
  refine lv_aload_n hx hb d_law_969 rfl (lv_at hl 0 rfl) ?_
  refine lv_iload hx hb d_law_970 (lv_at hl 4 rfl) ?_
  refine lv_iconst (v := 1) hx hb d_law_972 (by decide) ?_
  refine lv_iadd hx hb d_law_973 ?_
  refine lw_ld hx hb hX hbl hbA hS (k := 6 * t + 1) (nI_add (6 * t) 1) (by omega) hL d_law_974 ?_
  refine lv_aload_n hx hb d_law_975 rfl (lv_at hl 3 rfl) ?_
  have hPc := hP.sub (ws' := wXO o ko q κ x) [0, 1, 2, 3, 4, 5] rfl
  have hDc := hD.sub (ws' := wXO o ko q κ x) [0, 1, 2, 3, 4, 5] (by decide) rfl
  have hKc := hK.sub (tys' := tyXO ko κ) [0, 1, 2, 3, 4] rfl
  refine wj_i (ws := wL o ko q κ r μ x w) (wc := wXO o ko q κ x) (wr := wM r μ w) (mkAll := fun z => wL o ko q κ r μ z w) [0, 1, 2, 3, 4, 5] [6, 7, 8, 9, 10, 11] [6, 7, 8, 9, 10, 11, 0, 1, 2, 3, 4, 5] rfl rfl (by decide) (by decide) (by decide) (fun _ => rfl) (wx_runSH (n := 3) (As := [.ref (q 0), .int (xs (6 * t + 1)), .ref (o)]) (rest := []) C (c_L_digits_bad l hst D q κ o ko x (xs (6 * t + 1)) hbad H.size) (wG_SH (fun _ h => h) k_ml_L_114 k_st_L_digits k_in_L k_L_digits) rfl rfl rfl ⟨rfl, by decide, by decide, by decide +kernel⟩ ⟨Nat.le_of_ble_eq_true rfl, Nat.le_of_ble_eq_true rfl⟩ ⟨wf_blindO, wf_preO hPc hKc hDc hAll (fun z hz => hS.2.1 z hz (Nat.not_le.mpr hz))⟩ rfl hl.1 rfl (Nat.le_of_ble_eq_true rfl) d_law_976 ⟨by show _ ≤ 1041; omega, by show _ ≤ 10127; omega⟩) (fun _ h => h) hS hP hD hA (fun kr x1 H locs ew hP hD hS => ?_)
  obtain ⟨k0, ew⟩ := ew
  subst k0
  rw [ew] at hP hD
  have hP : va_P D vwCl (wL o ko q κ r μ x w) H := hP
  have hD : va_D (lwA s) (wL o ko q κ r μ x w) := hD
  refine lv_topi (fun v_1 ev_1 => ?_)
  refine lv_istore (lv' := [(5, .int (v_1)), (0, .ref (b)), (1, .ref (q 0)), (2, .ref (r 0)), (3, .ref (o)), (4, .int (nI (6 * t)))]) hx hb d_law_979 hl (by decide) rfl (fun ls hl => ?_)
  refine lv_aload_n hx hb d_law_981 rfl (lv_at hl 3 rfl) ?_
  refine lv_aload_n hx hb d_law_982 rfl (lv_at hl 1 rfl) ?_
  refine lv_iload hx hb d_law_983 (lv_at hl 5 rfl) ?_
  refine lv_iconst (v := 1) hx hb d_law_985 (by decide) ?_
  refine lv_iadd hx hb d_law_986 ?_
  refine lw_ld hx hb hX hbl hbA hS (k := 6 * t + 1) (nI_add (6 * t) 1) (by omega) hL d_law_987 ?_
  have hPc := hP.sub (ws' := wM r μ w) [6, 7, 8, 9, 10, 11] rfl
  have hDc := hD.sub (ws' := wM r μ w) [6, 7, 8, 9, 10, 11] (by decide) rfl
  have hKc := hK.sub (tys' := tyM μ) [5, 6, 7, 8, 9] rfl
  refine wj_i (ws := wL o ko q κ r μ x w) (wc := wM r μ w) (wr := wXO o ko q κ x) (mkAll := fun z => wL o ko q κ r μ x z) [6, 7, 8, 9, 10, 11] [0, 1, 2, 3, 4, 5] [0, 1, 2, 3, 4, 5, 6, 7, 8, 9, 10, 11] rfl rfl (by decide) (by decide) (by decide) (fun _ => rfl) (va_runV (As := [.int (xs (6 * t + 1))]) (rest := []) C (c_M_digitsBad l D r μ w (xs (6 * t + 1)) hbad H.size) (cwV 1 C.2.2.2.2 (wG_V (fun _ h => h) k_ml_L_116 k_im_M_digits k_se_M_digits k_in_M k_M_digits) rfl rfl rfl (by decide +kernel) ⟨Nat.le_of_ble_eq_true rfl, Nat.le_of_ble_eq_true rfl⟩) ⟨wf_blind, va_recv hKc hPc (ci := 1) (q0 := 0) rfl rfl, wf_pre hPc hKc hDc⟩ rfl rfl hl.1 rfl (lv_room (Nat.le_of_ble_eq_true rfl)) d_law_988 ⟨by show _ ≤ 1041; omega, by show _ ≤ 10127; omega⟩) (fun _ h => h) hS hP hD hA (fun mr w1 H locs em hP hD hS => ?_)
  refine lv_istore (lv' := [(6, .int (mr)), (5, .int (v_1)), (0, .ref (b)), (1, .ref (q 0)), (2, .ref (r 0)), (3, .ref (o)), (4, .int (nI (6 * t)))]) hx hb d_law_991 hl (by decide) rfl (fun ls hl => ?_)
  refine lv_aload_n hx hb d_law_993 rfl (lv_at hl 4 rfl) ?_
  have hPc := hP.sub (ws' := wM r μ w1) [6, 7, 8, 9, 10, 11] rfl
  have hDc := hD.sub (ws' := wM r μ w1) [6, 7, 8, 9, 10, 11] (by decide) rfl
  have hKc := hK.sub (tys' := tyM μ) [5, 6, 7, 8, 9] rfl
  refine vp_callSi (W.runV (As := []) (rest := []) C (c_M_thrown l D r μ w1 H.size) (cwV 0 C.2.2.2.2 (wG_V (fun _ h => h) k_ml_L_74 k_im_M_thrown k_se_M_thrown k_in_M k_M_thrown) rfl rfl rfl (by decide +kernel) ⟨Nat.le_of_ble_eq_true rfl, Nat.le_of_ble_eq_true rfl⟩) ⟨wf_blind, va_recv hKc hPc (ci := 1) (q0 := 0) rfl rfl, wf_pre hPc hKc hDc⟩ rfl rfl hl.1 rfl (lv_room (Nat.le_of_ble_eq_true rfl)) d_law_994 ⟨by show _ ≤ 1041; omega, by show _ ≤ 10127; omega⟩) (fun tr htr => ?_)
  refine lv_iload hx hb d_law_997 (lv_at hl 1 rfl) ?_
  refine lv_icmp_eq (tgt := 1004) hx hb d_law_999 (by decide) (fun c_2 => ?_) (fun c_2 => False.elim (by first | exact absurd (htr.trans (by rw [em, ev_1])) c_2 | exact absurd c_2 (htr.trans (by rw [em, ev_1]))))
  refine lv_iload hx hb d_law_1004 (lv_at hl 1 rfl) ?_
  refine lv_if_ne (tgt := 1021) hx hb d_law_1006 (by decide) (fun c_3 => ?_) (fun c_3 => False.elim (by first | exact absurd (by rw [ev_1]; exact wf_c2_ne hbad) c_3 | exact absurd c_3 (by rw [ev_1]; exact wf_c2_ne hbad)))
  refine lv_goto (tgt := 1124) hx hb d_law_1021 (by decide) ?_
  refine W.widen (k := 12 + (t + 1)) (n := 1905 + 6 * (t + 1)) (by omega) (by omega) ?_
  exact back x w1 H locs ls (In_code hIn em) hP hD hS (lv_sub hl [2, 3, 4, 5, 6] rfl)

set_option maxHeartbeats 4000000 in
set_option maxRecDepth 100000 in
theorem law_13_ok {p : Program} {l : Launch} {e : Env} {s : State} {m : MethodId} {below : List Frame} {meth : Method} {c : Code} {D : va_G} {q r : Nat → Nat} {κ μ : Nat → ClassId} {o : Nat} {ko : ClassId} {b L : Nat} {xs : Nat → Int32} {t : Nat} {x : SX × (Nat → Int64)} {w : SM} {H : Heap} {locs : List Loc} {ls : Array Slot} (hst : l.stackTraces = false) (hL : L ≤ 3072) (C0 : lw_At p s m meth c b L xs) (hAll : wx_All s) (hK : va_K D vwCl (tyL ko κ μ) s) (ht : 6 * t + 6 ≤ L) {ra : Nat} (hra : ra < 8) (era : xs (6 * t + 1) = nI ra) {d : Nat} (hd : d < 10) (ed : xs (6 * t + 2) = nI d) (hIn : wf_In x.1 w) (hP : va_P D vwCl (wL o ko q κ r μ x w) H) (hD : va_D (lwA s) (wL o ko q κ r μ x w)) (hS : va_S (lwA s) s.heap H locs) (hl : lv_has ls 8 [(0, .ref (b)), (1, .ref (q 0)), (2, .ref (r 0)), (3, .ref (o)), (4, .int (nI (6 * t)))]) (back : ∀ (x' : SX × (Nat → Int64)) (w' : SM) (H' : Heap) (locs' : List Loc) (ls' : Array Slot), wf_In x'.1 w' → va_P D vwCl (wL o ko q κ r μ x' w') H' → va_D (lwA s) (wL o ko q κ r μ x' w') → va_S (lwA s) s.heap H' locs' → lv_has ls' 8 [(0, .ref (b)), (1, .ref (q 0)), (2, .ref (r 0)), (3, .ref (o)), (4, .int (nI (6 * t)))] → W p l e room_1 s m #[Value.ref b] below meth c H' locs' (12 + (t + 1)) (1905 + 6 * (t + 1)) (lw_Z below #[Value.ref b] s) (F0 m 1124 ls' [])) : W p l e room_1 s m #[Value.ref b] below meth c H locs (12 + t) (1905 + 6 * t) (lw_Z below #[Value.ref b] s) (F0 m 1049 ls []) := by
  obtain ⟨hx, hb, hr, hml, hown, hts0, hX, hbl, hlocks, hgv⟩ := C0
  have hts := fun w h => hts0 w (wG_tbl h)
  have C : CallFix p m c code 8 s #[Value.ref b] wG RL := ⟨hx, hb, hml, hown, hts⟩
  have hA : ∀ z : Nat, s.heap.size ≤ z → lwA s z := fun _ h => h
  have hbA : ¬ lwA s b := Nat.not_le.mpr hbl
  refine lv_aload_n hx hb d_law_1049 rfl (lv_at hl 1 rfl) ?_
  refine lv_aload_n hx hb d_law_1050 rfl (lv_at hl 0 rfl) ?_
  refine lv_iload hx hb d_law_1051 (lv_at hl 4 rfl) ?_
  refine lv_iconst (v := 1) hx hb d_law_1053 (by decide) ?_
  refine lv_iadd hx hb d_law_1054 ?_
  refine lw_ld hx hb hX hbl hbA hS (k := 6 * t + 1) (nI_add (6 * t) 1) (by omega) hL d_law_1055 ?_
  rw [era]
  refine lv_aload_n hx hb d_law_1056 rfl (lv_at hl 0 rfl) ?_
  refine lv_iload hx hb d_law_1057 (lv_at hl 4 rfl) ?_
  refine lv_iconst (v := 2) hx hb d_law_1059 (by decide) ?_
  refine lv_iadd hx hb d_law_1060 ?_
  refine lw_ld hx hb hX hbl hbA hS (k := 6 * t + 2) (nI_add (6 * t) 2) (by omega) hL d_law_1061 ?_
  rw [ed]
  refine lv_aload_n hx hb d_law_1062 rfl (lv_at hl 3 rfl) ?_
  have hPc := hP.sub (ws' := wXO o ko q κ x) [0, 1, 2, 3, 4, 5] rfl
  have hDc := hD.sub (ws' := wXO o ko q κ x) [0, 1, 2, 3, 4, 5] (by decide) rfl
  have hKc := hK.sub (tys' := tyXO ko κ) [0, 1, 2, 3, 4] rfl
  refine wj_i (ws := wL o ko q κ r μ x w) (wc := wXO o ko q κ x) (wr := wM r μ w) (mkAll := fun z => wL o ko q κ r μ z w) [0, 1, 2, 3, 4, 5] [6, 7, 8, 9, 10, 11] [6, 7, 8, 9, 10, 11, 0, 1, 2, 3, 4, 5] rfl rfl (by decide) (by decide) (by decide) (fun _ => rfl) (wx_runSH (n := 4) (As := [.ref (q 0), .int (nI ra), .int (nI d), .ref (o)]) (rest := []) C (c_L_next_ok l hst D q κ o ko x ra hra d hd H.size) (wG_SH (fun _ h => h) k_ml_L_121 k_st_L_next k_in_L k_L_next) rfl rfl rfl ⟨rfl, by decide, by decide, by decide +kernel⟩ ⟨Nat.le_of_ble_eq_true rfl, Nat.le_of_ble_eq_true rfl⟩ ⟨wf_blindO, wf_preO hPc hKc hDc hAll (fun z hz => hS.2.1 z hz (Nat.not_le.mpr hz))⟩ rfl hl.1 rfl (Nat.le_of_ble_eq_true rfl) d_law_1063 ⟨by show _ ≤ 1041; omega, by show _ ≤ 10127; omega⟩) (fun _ h => h) hS hP hD hA (fun kr x1 H locs ew hP hD hS => ?_)
  obtain ⟨k0, ew⟩ := ew
  subst k0
  refine lv_istore (lv' := [(5, .int (0)), (0, .ref (b)), (1, .ref (q 0)), (2, .ref (r 0)), (3, .ref (o)), (4, .int (nI (6 * t)))]) hx hb d_law_1066 hl (by decide) rfl (fun ls hl => ?_)
  refine lv_aload_n hx hb d_law_1068 rfl (lv_at hl 3 rfl) ?_
  refine lv_aload_n hx hb d_law_1069 rfl (lv_at hl 1 rfl) ?_
  refine lv_iload hx hb d_law_1070 (lv_at hl 5 rfl) ?_
  refine lv_iconst (v := 1) hx hb d_law_1072 (by decide) ?_
  refine lv_iadd hx hb d_law_1073 ?_
  refine lw_ld hx hb hX hbl hbA hS (k := 6 * t + 1) (nI_add (6 * t) 1) (by omega) hL d_law_1074 ?_
  rw [era]
  refine lv_aload_n hx hb d_law_1075 rfl (lv_at hl 1 rfl) ?_
  refine lv_iload hx hb d_law_1076 (lv_at hl 5 rfl) ?_
  refine lv_iconst (v := 2) hx hb d_law_1078 (by decide) ?_
  refine lv_iadd hx hb d_law_1079 ?_
  refine lw_ld hx hb hX hbl hbA hS (k := 6 * t + 2) (nI_add (6 * t) 2) (by omega) hL d_law_1080 ?_
  rw [ed]
  have hPc := hP.sub (ws' := wM r μ w) [6, 7, 8, 9, 10, 11] rfl
  have hDc := hD.sub (ws' := wM r μ w) [6, 7, 8, 9, 10, 11] (by decide) rfl
  have hKc := hK.sub (tys' := tyM μ) [5, 6, 7, 8, 9] rfl
  refine wj_i (ws := wL o ko q κ r μ x1 w) (wc := wM r μ w) (wr := wXO o ko q κ x1) (mkAll := fun z => wL o ko q κ r μ x1 z) [6, 7, 8, 9, 10, 11] [0, 1, 2, 3, 4, 5] [0, 1, 2, 3, 4, 5, 6, 7, 8, 9, 10, 11] rfl rfl (by decide) (by decide) (by decide) (fun _ => rfl) (va_runV (As := [.int (nI ra), .int (nI d)]) (rest := []) C (c_M_next l D r μ w ra hra d hd H.size) (cwV 2 C.2.2.2.2 (wG_V (fun _ h => h) k_ml_L_123 k_im_M_next k_se_M_next k_in_M k_M_next) rfl rfl rfl (by decide +kernel) ⟨Nat.le_of_ble_eq_true rfl, Nat.le_of_ble_eq_true rfl⟩) ⟨wf_blind, va_recv hKc hPc (ci := 1) (q0 := 0) rfl rfl, wf_pre hPc hKc hDc⟩ rfl rfl hl.1 rfl (lv_room (Nat.le_of_ble_eq_true rfl)) d_law_1081 ⟨by show _ ≤ 1041; omega, by show _ ≤ 10127; omega⟩) (fun _ h => h) hS hP hD hA (fun mr w1 H locs em hP hD hS => ?_)
  obtain ⟨rv, ev, ez⟩ := ew
  have key : w1.1 = 0 ∧ wf_In x1.1 w1 ∧ rv = mr := by
    rw [hIn.1 ra hra] at ev
    rcases ev with ⟨v1, v2, v3⟩ | ⟨v1, v2, v3⟩ <;> rcases em with ⟨u1, u2, u3⟩ | ⟨u1, u2, u3⟩
    · exact ⟨u3.1, In_st hIn v3 u3 rfl, v1.trans u1.symm⟩
    · exact absurd v2 (Nat.not_lt.mpr u2)
    · exact absurd u2 (Nat.not_lt.mpr v2)
    · exact ⟨u3.1, by rw [v3]; exact In_same hIn u3, v1.trans u1.symm⟩
  obtain ⟨hcode, hIn1, erv⟩ := key
  have hz : x1.2 0 = wf_zl mr := by rw [ez, erv]
  refine lv_istore (lv' := [(6, .int (mr)), (5, .int (0)), (0, .ref (b)), (1, .ref (q 0)), (2, .ref (r 0)), (3, .ref (o)), (4, .int (nI (6 * t)))]) hx hb d_law_1084 hl (by decide) rfl (fun ls hl => ?_)
  refine lv_aload_n hx hb d_law_1086 rfl (lv_at hl 4 rfl) ?_
  have hPc := hP.sub (ws' := wM r μ w1) [6, 7, 8, 9, 10, 11] rfl
  have hDc := hD.sub (ws' := wM r μ w1) [6, 7, 8, 9, 10, 11] (by decide) rfl
  have hKc := hK.sub (tys' := tyM μ) [5, 6, 7, 8, 9] rfl
  refine vp_callSi (W.runV (As := []) (rest := []) C (c_M_thrown l D r μ w1 H.size) (cwV 0 C.2.2.2.2 (wG_V (fun _ h => h) k_ml_L_74 k_im_M_thrown k_se_M_thrown k_in_M k_M_thrown) rfl rfl rfl (by decide +kernel) ⟨Nat.le_of_ble_eq_true rfl, Nat.le_of_ble_eq_true rfl⟩) ⟨wf_blind, va_recv hKc hPc (ci := 1) (q0 := 0) rfl rfl, wf_pre hPc hKc hDc⟩ rfl rfl hl.1 rfl (lv_room (Nat.le_of_ble_eq_true rfl)) d_law_1087 ⟨by show _ ≤ 1041; omega, by show _ ≤ 10127; omega⟩) (fun tr htr => ?_)
  refine lv_iload hx hb d_law_1090 (lv_at hl 1 rfl) ?_
  refine lv_icmp_eq (tgt := 1097) hx hb d_law_1092 (by decide) (fun c_1 => ?_) (fun c_1 => False.elim (by first | exact absurd (htr.trans hcode) c_1 | exact absurd c_1 (htr.trans hcode)))
  refine lv_iload hx hb d_law_1097 (lv_at hl 1 rfl) ?_
  refine lv_if_ne (tgt := 1121) hx hb d_law_1099 (by decide) (fun c_2 => False.elim (absurd c_2 (by decide))) (fun _ => ?_)
  refine lv_aload_n hx hb d_law_1102 rfl (lv_at hl 5 rfl) ?_
  refine lv_iconst (v := 0) hx hb d_law_1103 (by decide) ?_
  refine wf_lald C hK hP 5 4 rfl rfl (k := 0) rfl (by decide) (by decide) d_law_1104 ?_
  refine lv_iload hx hb d_law_1105 (lv_at hl 0 rfl) ?_
  refine lv_if_eq (tgt := 1114) hx hb d_law_1107 (by decide) (fun c_3 => ?_) (fun c_3 => ?_)
  · have hz1 : x1.2 0 = 0 := hz.trans (by unfold wf_zl; rw [if_pos c_3])
    refine lv_lconst (v := 0) hx hb d_law_1114 (by decide) ?_
    refine W.lcmp hx hb d_law_1115 ?_
    refine lv_if_eq (tgt := 1121) hx hb d_law_1116 (by decide) (fun c_4 => ?_) (fun c_4 => False.elim (by first | exact absurd ((lg_cmp_eq _ _).mpr hz1) c_4 | exact absurd c_4 ((lg_cmp_eq _ _).mpr hz1)))
    refine lv_goto (tgt := 1124) hx hb d_law_1121 (by decide) ?_
    refine W.widen (k := 12 + (t + 1)) (n := 1905 + 6 * (t + 1)) (by omega) (by omega) ?_
    exact back x1 w1 H locs ls hIn1 hP hD hS (lv_sub hl [2, 3, 4, 5, 6] rfl)
  · have hz1 : x1.2 0 = 1 := hz.trans (by unfold wf_zl; rw [if_neg c_3])
    refine lv_lconst (v := 1) hx hb d_law_1110 (by decide) ?_
    refine lv_goto (tgt := 1115) hx hb d_law_1111 (by decide) ?_
    refine W.lcmp hx hb d_law_1115 ?_
    refine lv_if_eq (tgt := 1121) hx hb d_law_1116 (by decide) (fun c_5 => ?_) (fun c_5 => False.elim (by first | exact absurd ((lg_cmp_eq _ _).mpr hz1) c_5 | exact absurd c_5 ((lg_cmp_eq _ _).mpr hz1)))
    refine lv_goto (tgt := 1124) hx hb d_law_1121 (by decide) ?_
    refine W.widen (k := 12 + (t + 1)) (n := 1905 + 6 * (t + 1)) (by omega) (by omega) ?_
    exact back x1 w1 H locs ls hIn1 hP hD hS (lv_sub hl [2, 3, 4, 5, 6] rfl)

set_option maxHeartbeats 4000000 in
set_option maxRecDepth 100000 in
theorem law_13_bad {p : Program} {l : Launch} {e : Env} {s : State} {m : MethodId} {below : List Frame} {meth : Method} {c : Code} {D : va_G} {q r : Nat → Nat} {κ μ : Nat → ClassId} {o : Nat} {ko : ClassId} {b L : Nat} {xs : Nat → Int32} {t : Nat} {x : SX × (Nat → Int64)} {w : SM} {H : Heap} {locs : List Loc} {ls : Array Slot} (hst : l.stackTraces = false) (hL : L ≤ 3072) (C0 : lw_At p s m meth c b L xs) (hAll : wx_All s) (hK : va_K D vwCl (tyL ko κ μ) s) (ht : 6 * t + 6 ≤ L) (hbad : ((wf_no (xs (6 * t + 1))) || (decide ((xs (6 * t + 2)) < 0) || decide (9 < (xs (6 * t + 2))))) = true) (hIn : wf_In x.1 w) (hP : va_P D vwCl (wL o ko q κ r μ x w) H) (hD : va_D (lwA s) (wL o ko q κ r μ x w)) (hS : va_S (lwA s) s.heap H locs) (hl : lv_has ls 8 [(0, .ref (b)), (1, .ref (q 0)), (2, .ref (r 0)), (3, .ref (o)), (4, .int (nI (6 * t)))]) (back : ∀ (x' : SX × (Nat → Int64)) (w' : SM) (H' : Heap) (locs' : List Loc) (ls' : Array Slot), wf_In x'.1 w' → va_P D vwCl (wL o ko q κ r μ x' w') H' → va_D (lwA s) (wL o ko q κ r μ x' w') → va_S (lwA s) s.heap H' locs' → lv_has ls' 8 [(0, .ref (b)), (1, .ref (q 0)), (2, .ref (r 0)), (3, .ref (o)), (4, .int (nI (6 * t)))] → W p l e room_1 s m #[Value.ref b] below meth c H' locs' (12 + (t + 1)) (1905 + 6 * (t + 1)) (lw_Z below #[Value.ref b] s) (F0 m 1124 ls' [])) : W p l e room_1 s m #[Value.ref b] below meth c H locs (12 + t) (1905 + 6 * t) (lw_Z below #[Value.ref b] s) (F0 m 1049 ls []) := by
  obtain ⟨hx, hb, hr, hml, hown, hts0, hX, hbl, hlocks, hgv⟩ := C0
  have hts := fun w h => hts0 w (wG_tbl h)
  have C : CallFix p m c code 8 s #[Value.ref b] wG RL := ⟨hx, hb, hml, hown, hts⟩
  have hA : ∀ z : Nat, s.heap.size ≤ z → lwA s z := fun _ h => h
  have hbA : ¬ lwA s b := Nat.not_le.mpr hbl
  refine lv_aload_n hx hb d_law_1049 rfl (lv_at hl 1 rfl) ?_
  refine lv_aload_n hx hb d_law_1050 rfl (lv_at hl 0 rfl) ?_
  refine lv_iload hx hb d_law_1051 (lv_at hl 4 rfl) ?_
  refine lv_iconst (v := 1) hx hb d_law_1053 (by decide) ?_
  refine lv_iadd hx hb d_law_1054 ?_
  refine lw_ld hx hb hX hbl hbA hS (k := 6 * t + 1) (nI_add (6 * t) 1) (by omega) hL d_law_1055 ?_
  refine lv_aload_n hx hb d_law_1056 rfl (lv_at hl 0 rfl) ?_
  refine lv_iload hx hb d_law_1057 (lv_at hl 4 rfl) ?_
  refine lv_iconst (v := 2) hx hb d_law_1059 (by decide) ?_
  refine lv_iadd hx hb d_law_1060 ?_
  refine lw_ld hx hb hX hbl hbA hS (k := 6 * t + 2) (nI_add (6 * t) 2) (by omega) hL d_law_1061 ?_
  refine lv_aload_n hx hb d_law_1062 rfl (lv_at hl 3 rfl) ?_
  have hPc := hP.sub (ws' := wXO o ko q κ x) [0, 1, 2, 3, 4, 5] rfl
  have hDc := hD.sub (ws' := wXO o ko q κ x) [0, 1, 2, 3, 4, 5] (by decide) rfl
  have hKc := hK.sub (tys' := tyXO ko κ) [0, 1, 2, 3, 4] rfl
  refine wj_i (ws := wL o ko q κ r μ x w) (wc := wXO o ko q κ x) (wr := wM r μ w) (mkAll := fun z => wL o ko q κ r μ z w) [0, 1, 2, 3, 4, 5] [6, 7, 8, 9, 10, 11] [6, 7, 8, 9, 10, 11, 0, 1, 2, 3, 4, 5] rfl rfl (by decide) (by decide) (by decide) (fun _ => rfl) (wx_runSH (n := 4) (As := [.ref (q 0), .int (xs (6 * t + 1)), .int (xs (6 * t + 2)), .ref (o)]) (rest := []) C (c_L_next_bad l hst D q κ o ko x (xs (6 * t + 1)) (xs (6 * t + 2)) hbad H.size) (wG_SH (fun _ h => h) k_ml_L_121 k_st_L_next k_in_L k_L_next) rfl rfl rfl ⟨rfl, by decide, by decide, by decide +kernel⟩ ⟨Nat.le_of_ble_eq_true rfl, Nat.le_of_ble_eq_true rfl⟩ ⟨wf_blindO, wf_preO hPc hKc hDc hAll (fun z hz => hS.2.1 z hz (Nat.not_le.mpr hz))⟩ rfl hl.1 rfl (Nat.le_of_ble_eq_true rfl) d_law_1063 ⟨by show _ ≤ 1041; omega, by show _ ≤ 10127; omega⟩) (fun _ h => h) hS hP hD hA (fun kr x1 H locs ew hP hD hS => ?_)
  obtain ⟨k0, ew⟩ := ew
  subst k0
  rw [ew] at hP hD
  have hP : va_P D vwCl (wL o ko q κ r μ x w) H := hP
  have hD : va_D (lwA s) (wL o ko q κ r μ x w) := hD
  refine lv_topi (fun v_1 ev_1 => ?_)
  refine lv_istore (lv' := [(5, .int (v_1)), (0, .ref (b)), (1, .ref (q 0)), (2, .ref (r 0)), (3, .ref (o)), (4, .int (nI (6 * t)))]) hx hb d_law_1066 hl (by decide) rfl (fun ls hl => ?_)
  refine lv_aload_n hx hb d_law_1068 rfl (lv_at hl 3 rfl) ?_
  refine lv_aload_n hx hb d_law_1069 rfl (lv_at hl 1 rfl) ?_
  refine lv_iload hx hb d_law_1070 (lv_at hl 5 rfl) ?_
  refine lv_iconst (v := 1) hx hb d_law_1072 (by decide) ?_
  refine lv_iadd hx hb d_law_1073 ?_
  refine lw_ld hx hb hX hbl hbA hS (k := 6 * t + 1) (nI_add (6 * t) 1) (by omega) hL d_law_1074 ?_
  refine lv_aload_n hx hb d_law_1075 rfl (lv_at hl 1 rfl) ?_
  refine lv_iload hx hb d_law_1076 (lv_at hl 5 rfl) ?_
  refine lv_iconst (v := 2) hx hb d_law_1078 (by decide) ?_
  refine lv_iadd hx hb d_law_1079 ?_
  refine lw_ld hx hb hX hbl hbA hS (k := 6 * t + 2) (nI_add (6 * t) 2) (by omega) hL d_law_1080 ?_
  have hPc := hP.sub (ws' := wM r μ w) [6, 7, 8, 9, 10, 11] rfl
  have hDc := hD.sub (ws' := wM r μ w) [6, 7, 8, 9, 10, 11] (by decide) rfl
  have hKc := hK.sub (tys' := tyM μ) [5, 6, 7, 8, 9] rfl
  refine wj_i (ws := wL o ko q κ r μ x w) (wc := wM r μ w) (wr := wXO o ko q κ x) (mkAll := fun z => wL o ko q κ r μ x z) [6, 7, 8, 9, 10, 11] [0, 1, 2, 3, 4, 5] [0, 1, 2, 3, 4, 5, 6, 7, 8, 9, 10, 11] rfl rfl (by decide) (by decide) (by decide) (fun _ => rfl) (va_runV (As := [.int (xs (6 * t + 1)), .int (xs (6 * t + 2))]) (rest := []) C (c_M_nextBad l D r μ w (xs (6 * t + 1)) (xs (6 * t + 2)) hbad H.size) (cwV 2 C.2.2.2.2 (wG_V (fun _ h => h) k_ml_L_123 k_im_M_next k_se_M_next k_in_M k_M_next) rfl rfl rfl (by decide +kernel) ⟨Nat.le_of_ble_eq_true rfl, Nat.le_of_ble_eq_true rfl⟩) ⟨wf_blind, va_recv hKc hPc (ci := 1) (q0 := 0) rfl rfl, wf_pre hPc hKc hDc⟩ rfl rfl hl.1 rfl (lv_room (Nat.le_of_ble_eq_true rfl)) d_law_1081 ⟨by show _ ≤ 1041; omega, by show _ ≤ 10127; omega⟩) (fun _ h => h) hS hP hD hA (fun mr w1 H locs em hP hD hS => ?_)
  refine lv_istore (lv' := [(6, .int (mr)), (5, .int (v_1)), (0, .ref (b)), (1, .ref (q 0)), (2, .ref (r 0)), (3, .ref (o)), (4, .int (nI (6 * t)))]) hx hb d_law_1084 hl (by decide) rfl (fun ls hl => ?_)
  refine lv_aload_n hx hb d_law_1086 rfl (lv_at hl 4 rfl) ?_
  have hPc := hP.sub (ws' := wM r μ w1) [6, 7, 8, 9, 10, 11] rfl
  have hDc := hD.sub (ws' := wM r μ w1) [6, 7, 8, 9, 10, 11] (by decide) rfl
  have hKc := hK.sub (tys' := tyM μ) [5, 6, 7, 8, 9] rfl
  refine vp_callSi (W.runV (As := []) (rest := []) C (c_M_thrown l D r μ w1 H.size) (cwV 0 C.2.2.2.2 (wG_V (fun _ h => h) k_ml_L_74 k_im_M_thrown k_se_M_thrown k_in_M k_M_thrown) rfl rfl rfl (by decide +kernel) ⟨Nat.le_of_ble_eq_true rfl, Nat.le_of_ble_eq_true rfl⟩) ⟨wf_blind, va_recv hKc hPc (ci := 1) (q0 := 0) rfl rfl, wf_pre hPc hKc hDc⟩ rfl rfl hl.1 rfl (lv_room (Nat.le_of_ble_eq_true rfl)) d_law_1087 ⟨by show _ ≤ 1041; omega, by show _ ≤ 10127; omega⟩) (fun tr htr => ?_)
  refine lv_iload hx hb d_law_1090 (lv_at hl 1 rfl) ?_
  refine lv_icmp_eq (tgt := 1097) hx hb d_law_1092 (by decide) (fun c_2 => ?_) (fun c_2 => False.elim (by first | exact absurd (htr.trans (by rw [em, ev_1])) c_2 | exact absurd c_2 (htr.trans (by rw [em, ev_1]))))
  refine lv_iload hx hb d_law_1097 (lv_at hl 1 rfl) ?_
  refine lv_if_ne (tgt := 1121) hx hb d_law_1099 (by decide) (fun c_3 => ?_) (fun c_3 => False.elim (by first | exact absurd (by rw [ev_1]; exact wf_c2_ne hbad) c_3 | exact absurd c_3 (by rw [ev_1]; exact wf_c2_ne hbad)))
  refine lv_goto (tgt := 1124) hx hb d_law_1121 (by decide) ?_
  refine W.widen (k := 12 + (t + 1)) (n := 1905 + 6 * (t + 1)) (by omega) (by omega) ?_
  exact back x w1 H locs ls (In_code hIn em) hP hD hS (lv_sub hl [2, 3, 4, 5, 6] rfl)

set_option maxHeartbeats 4000000 in
set_option maxRecDepth 100000 in
theorem law_12_neg {p : Program} {l : Launch} {e : Env} {s : State} {m : MethodId} {below : List Frame} {meth : Method} {c : Code} {D : va_G} {q r : Nat → Nat} {κ μ : Nat → ClassId} {o : Nat} {ko : ClassId} {b L : Nat} {xs : Nat → Int32} {t : Nat} {x : SX × (Nat → Int64)} {w : SM} {H : Heap} {locs : List Loc} {ls : Array Slot} (hst : l.stackTraces = false) (hL : L ≤ 3072) (C0 : lw_At p s m meth c b L xs) (hAll : wx_All s) (hK : va_K D vwCl (tyL ko κ μ) s) (ht : 6 * t + 6 ≤ L) (h0 : (xs (6 * t + 1)) < 0) (hIn : wf_In x.1 w) (hP : va_P D vwCl (wL o ko q κ r μ x w) H) (hD : va_D (lwA s) (wL o ko q κ r μ x w)) (hS : va_S (lwA s) s.heap H locs) (hl : lv_has ls 8 [(0, .ref (b)), (1, .ref (q 0)), (2, .ref (r 0)), (3, .ref (o)), (4, .int (nI (6 * t)))]) (back : ∀ (x' : SX × (Nat → Int64)) (w' : SM) (H' : Heap) (locs' : List Loc) (ls' : Array Slot), wf_In x'.1 w' → va_P D vwCl (wL o ko q κ r μ x' w') H' → va_D (lwA s) (wL o ko q κ r μ x' w') → va_S (lwA s) s.heap H' locs' → lv_has ls' 8 [(0, .ref (b)), (1, .ref (q 0)), (2, .ref (r 0)), (3, .ref (o)), (4, .int (nI (6 * t)))] → W p l e room_1 s m #[Value.ref b] below meth c H' locs' (12 + (t + 1)) (1905 + 6 * (t + 1)) (lw_Z below #[Value.ref b] s) (F0 m 1124 ls' [])) : W p l e room_1 s m #[Value.ref b] below meth c H locs (12 + t) (1905 + 6 * t) (lw_Z below #[Value.ref b] s) (F0 m 1024 ls []) := by
  obtain ⟨hx, hb, hr, hml, hown, hts0, hX, hbl, hlocks, hgv⟩ := C0
  have hts := fun w h => hts0 w (wG_tbl h)
  have C : CallFix p m c code 8 s #[Value.ref b] wG RL := ⟨hx, hb, hml, hown, hts⟩
  have hA : ∀ z : Nat, s.heap.size ≤ z → lwA s z := fun _ h => h
  have hbA : ¬ lwA s b := Nat.not_le.mpr hbl
  refine lv_aload_n hx hb d_law_1024 rfl (lv_at hl 1 rfl) ?_
  refine lv_aload_n hx hb d_law_1025 rfl (lv_at hl 0 rfl) ?_
  refine lv_iload hx hb d_law_1026 (lv_at hl 4 rfl) ?_
  refine lv_iconst (v := 1) hx hb d_law_1028 (by decide) ?_
  refine lv_iadd hx hb d_law_1029 ?_
  refine lw_ld hx hb hX hbl hbA hS (k := 6 * t + 1) (nI_add (6 * t) 1) (by omega) hL d_law_1030 ?_
  have hPc := hP.sub (ws' := wX q κ x.1) [0, 1, 2, 3, 4] rfl
  have hDc := hD.sub (ws' := wX q κ x.1) [0, 1, 2, 3, 4] (by decide) rfl
  have hKc := hK.sub (tys' := tyX κ) [0, 1, 2, 3] rfl
  refine vp_callSi (W.runV (As := [.int (xs (6 * t + 1))]) (rest := []) C (c_X_digitNeg l D q κ x.1 (xs (6 * t + 1)) h0 H.size) (cwV 1 C.2.2.2.2 (wG_V (fun _ h => h) k_ml_L_117 k_im_X_digit k_se_X_digit k_in_X k_X_digit) rfl rfl rfl (by decide +kernel) ⟨Nat.le_of_ble_eq_true rfl, Nat.le_of_ble_eq_true rfl⟩) ⟨wf_blind, va_recv hKc hPc (ci := 0) (q0 := 0) rfl rfl, wf_pre hPc hKc hDc⟩ rfl rfl hl.1 rfl (lv_room (Nat.le_of_ble_eq_true rfl)) d_law_1031 ⟨by show _ ≤ 1041; omega, by show _ ≤ 10127; omega⟩) (fun xr hxr => ?_)
  refine lv_aload_n hx hb d_law_1034 rfl (lv_at hl 2 rfl) ?_
  refine lv_aload_n hx hb d_law_1035 rfl (lv_at hl 0 rfl) ?_
  refine lv_iload hx hb d_law_1036 (lv_at hl 4 rfl) ?_
  refine lv_iconst (v := 1) hx hb d_law_1038 (by decide) ?_
  refine lv_iadd hx hb d_law_1039 ?_
  refine lw_ld hx hb hX hbl hbA hS (k := 6 * t + 1) (nI_add (6 * t) 1) (by omega) hL d_law_1040 ?_
  have hPc := hP.sub (ws' := wM r μ w) [6, 7, 8, 9, 10, 11] rfl
  have hDc := hD.sub (ws' := wM r μ w) [6, 7, 8, 9, 10, 11] (by decide) rfl
  have hKc := hK.sub (tys' := tyM μ) [5, 6, 7, 8, 9] rfl
  refine wj_i (ws := wL o ko q κ r μ x w) (wc := wM r μ w) (wr := wXO o ko q κ x) (mkAll := fun z => wL o ko q κ r μ x z) [6, 7, 8, 9, 10, 11] [0, 1, 2, 3, 4, 5] [0, 1, 2, 3, 4, 5, 6, 7, 8, 9, 10, 11] rfl rfl (by decide) (by decide) (by decide) (fun _ => rfl) (va_runV (As := [.int (xs (6 * t + 1))]) (rest := [.int (xr)]) C (c_M_digitNeg l D r μ w (xs (6 * t + 1)) h0 H.size) (cwV 1 C.2.2.2.2 (wG_V (fun _ h => h) k_ml_L_120 k_im_M_digit k_se_M_digit k_in_M k_M_digit) rfl rfl rfl (by decide +kernel) ⟨Nat.le_of_ble_eq_true rfl, Nat.le_of_ble_eq_true rfl⟩) ⟨wf_blind, va_recv hKc hPc (ci := 1) (q0 := 0) rfl rfl, wf_pre hPc hKc hDc⟩ rfl rfl hl.1 rfl (lv_room (Nat.le_of_ble_eq_true rfl)) d_law_1041 ⟨by show _ ≤ 1041; omega, by show _ ≤ 10127; omega⟩) (fun _ h => h) hS hP hD hA (fun mr w1 H locs em hP hD hS => ?_)
  have hIn1 : wf_In x.1 w1 := In_code hIn em.1
  refine lv_icmp_eq (tgt := 1124) hx hb d_law_1044 (by decide) (fun c_1 => ?_) (fun c_1 => False.elim (by first | exact absurd (hxr.trans em.2.symm) c_1 | exact absurd c_1 (hxr.trans em.2.symm)))
  refine W.widen (k := 12 + (t + 1)) (n := 1905 + 6 * (t + 1)) (by omega) (by omega) ?_
  exact back x w1 H locs ls hIn1 hP hD hS (lv_sub hl [0, 1, 2, 3, 4] rfl)

set_option maxHeartbeats 4000000 in
set_option maxRecDepth 100000 in
theorem law_12_in {p : Program} {l : Launch} {e : Env} {s : State} {m : MethodId} {below : List Frame} {meth : Method} {c : Code} {D : va_G} {q r : Nat → Nat} {κ μ : Nat → ClassId} {o : Nat} {ko : ClassId} {b L : Nat} {xs : Nat → Int32} {t : Nat} {x : SX × (Nat → Int64)} {w : SM} {H : Heap} {locs : List Loc} {ls : Array Slot} (hst : l.stackTraces = false) (hL : L ≤ 3072) (C0 : lw_At p s m meth c b L xs) (hAll : wx_All s) (hK : va_K D vwCl (tyL ko κ μ) s) (ht : 6 * t + 6 ≤ L) {c_ : Nat} (d1 : c_ ≤ 39) (d2 : x.1.2.2.2.2 = nI (39 - c_)) (d3 : w.2.2.2.2.2.2 = nI c_) (d4 : ∀ i, i < c_ → x.1.2.2.2.1 (39 - c_ + i) = w.2.2.2.2.2.1 i) {j : Nat} (hj : j < c_) (ej : xs (6 * t + 1) = nI j) (hIn : wf_In x.1 w) (hP : va_P D vwCl (wL o ko q κ r μ x w) H) (hD : va_D (lwA s) (wL o ko q κ r μ x w)) (hS : va_S (lwA s) s.heap H locs) (hl : lv_has ls 8 [(0, .ref (b)), (1, .ref (q 0)), (2, .ref (r 0)), (3, .ref (o)), (4, .int (nI (6 * t)))]) (back : ∀ (x' : SX × (Nat → Int64)) (w' : SM) (H' : Heap) (locs' : List Loc) (ls' : Array Slot), wf_In x'.1 w' → va_P D vwCl (wL o ko q κ r μ x' w') H' → va_D (lwA s) (wL o ko q κ r μ x' w') → va_S (lwA s) s.heap H' locs' → lv_has ls' 8 [(0, .ref (b)), (1, .ref (q 0)), (2, .ref (r 0)), (3, .ref (o)), (4, .int (nI (6 * t)))] → W p l e room_1 s m #[Value.ref b] below meth c H' locs' (12 + (t + 1)) (1905 + 6 * (t + 1)) (lw_Z below #[Value.ref b] s) (F0 m 1124 ls' [])) : W p l e room_1 s m #[Value.ref b] below meth c H locs (12 + t) (1905 + 6 * t) (lw_Z below #[Value.ref b] s) (F0 m 1024 ls []) := by
  obtain ⟨hx, hb, hr, hml, hown, hts0, hX, hbl, hlocks, hgv⟩ := C0
  have hts := fun w h => hts0 w (wG_tbl h)
  have C : CallFix p m c code 8 s #[Value.ref b] wG RL := ⟨hx, hb, hml, hown, hts⟩
  have hA : ∀ z : Nat, s.heap.size ≤ z → lwA s z := fun _ h => h
  have hbA : ¬ lwA s b := Nat.not_le.mpr hbl
  refine lv_aload_n hx hb d_law_1024 rfl (lv_at hl 1 rfl) ?_
  refine lv_aload_n hx hb d_law_1025 rfl (lv_at hl 0 rfl) ?_
  refine lv_iload hx hb d_law_1026 (lv_at hl 4 rfl) ?_
  refine lv_iconst (v := 1) hx hb d_law_1028 (by decide) ?_
  refine lv_iadd hx hb d_law_1029 ?_
  refine lw_ld hx hb hX hbl hbA hS (k := 6 * t + 1) (nI_add (6 * t) 1) (by omega) hL d_law_1030 ?_
  rw [ej]
  have hPc := hP.sub (ws' := wX q κ x.1) [0, 1, 2, 3, 4] rfl
  have hDc := hD.sub (ws' := wX q κ x.1) [0, 1, 2, 3, 4] (by decide) rfl
  have hKc := hK.sub (tys' := tyX κ) [0, 1, 2, 3] rfl
  refine vp_callSi (W.runV (As := [.int (nI j)]) (rest := []) C (c_X_digitIn l D q κ x.1 (39 - c_) (by omega) d2 j (by omega) H.size) (cwV 1 C.2.2.2.2 (wG_V (fun _ h => h) k_ml_L_117 k_im_X_digit k_se_X_digit k_in_X k_X_digit) rfl rfl rfl (by decide +kernel) ⟨Nat.le_of_ble_eq_true rfl, Nat.le_of_ble_eq_true rfl⟩) ⟨wf_blind, va_recv hKc hPc (ci := 0) (q0 := 0) rfl rfl, wf_pre hPc hKc hDc⟩ rfl rfl hl.1 rfl (lv_room (Nat.le_of_ble_eq_true rfl)) d_law_1031 ⟨by show _ ≤ 1041; omega, by show _ ≤ 10127; omega⟩) (fun xr hxr => ?_)
  refine lv_aload_n hx hb d_law_1034 rfl (lv_at hl 2 rfl) ?_
  refine lv_aload_n hx hb d_law_1035 rfl (lv_at hl 0 rfl) ?_
  refine lv_iload hx hb d_law_1036 (lv_at hl 4 rfl) ?_
  refine lv_iconst (v := 1) hx hb d_law_1038 (by decide) ?_
  refine lv_iadd hx hb d_law_1039 ?_
  refine lw_ld hx hb hX hbl hbA hS (k := 6 * t + 1) (nI_add (6 * t) 1) (by omega) hL d_law_1040 ?_
  rw [ej]
  have hPc := hP.sub (ws' := wM r μ w) [6, 7, 8, 9, 10, 11] rfl
  have hDc := hD.sub (ws' := wM r μ w) [6, 7, 8, 9, 10, 11] (by decide) rfl
  have hKc := hK.sub (tys' := tyM μ) [5, 6, 7, 8, 9] rfl
  refine wj_i (ws := wL o ko q κ r μ x w) (wc := wM r μ w) (wr := wXO o ko q κ x) (mkAll := fun z => wL o ko q κ r μ x z) [6, 7, 8, 9, 10, 11] [0, 1, 2, 3, 4, 5] [0, 1, 2, 3, 4, 5, 6, 7, 8, 9, 10, 11] rfl rfl (by decide) (by decide) (by decide) (fun _ => rfl) (va_runV (As := [.int (nI j)]) (rest := [.int (xr)]) C (c_M_digitIn l D r μ w c_ d1 d3 j hj H.size) (cwV 1 C.2.2.2.2 (wG_V (fun _ h => h) k_ml_L_120 k_im_M_digit k_se_M_digit k_in_M k_M_digit) rfl rfl rfl (by decide +kernel) ⟨Nat.le_of_ble_eq_true rfl, Nat.le_of_ble_eq_true rfl⟩) ⟨wf_blind, va_recv hKc hPc (ci := 1) (q0 := 0) rfl rfl, wf_pre hPc hKc hDc⟩ rfl rfl hl.1 rfl (lv_room (Nat.le_of_ble_eq_true rfl)) d_law_1041 ⟨by show _ ≤ 1041; omega, by show _ ≤ 10127; omega⟩) (fun _ h => h) hS hP hD hA (fun mr w1 H locs em hP hD hS => ?_)
  have hIn1 : wf_In x.1 w1 := In_code hIn em.1
  refine lv_icmp_eq (tgt := 1124) hx hb d_law_1044 (by decide) (fun c_1 => ?_) (fun c_1 => False.elim (by first | exact absurd ((hxr.trans (d4 j hj)).trans em.2.symm) c_1 | exact absurd c_1 ((hxr.trans (d4 j hj)).trans em.2.symm)))
  refine W.widen (k := 12 + (t + 1)) (n := 1905 + 6 * (t + 1)) (by omega) (by omega) ?_
  exact back x w1 H locs ls hIn1 hP hD hS (lv_sub hl [0, 1, 2, 3, 4] rfl)

set_option maxHeartbeats 4000000 in
set_option maxRecDepth 100000 in
theorem law_12_big {p : Program} {l : Launch} {e : Env} {s : State} {m : MethodId} {below : List Frame} {meth : Method} {c : Code} {D : va_G} {q r : Nat → Nat} {κ μ : Nat → ClassId} {o : Nat} {ko : ClassId} {b L : Nat} {xs : Nat → Int32} {t : Nat} {x : SX × (Nat → Int64)} {w : SM} {H : Heap} {locs : List Loc} {ls : Array Slot} (hst : l.stackTraces = false) (hL : L ≤ 3072) (C0 : lw_At p s m meth c b L xs) (hAll : wx_All s) (hK : va_K D vwCl (tyL ko κ μ) s) (ht : 6 * t + 6 ≤ L) {c_ : Nat} (d1 : c_ ≤ 39) (d2 : x.1.2.2.2.2 = nI (39 - c_)) (d3 : w.2.2.2.2.2.2 = nI c_) (d4 : ∀ i, i < c_ → x.1.2.2.2.1 (39 - c_ + i) = w.2.2.2.2.2.1 i) {j : Nat} (hj31 : j < 2 ^ 31) (hj : c_ ≤ j) (ej : xs (6 * t + 1) = nI j) (hIn : wf_In x.1 w) (hP : va_P D vwCl (wL o ko q κ r μ x w) H) (hD : va_D (lwA s) (wL o ko q κ r μ x w)) (hS : va_S (lwA s) s.heap H locs) (hl : lv_has ls 8 [(0, .ref (b)), (1, .ref (q 0)), (2, .ref (r 0)), (3, .ref (o)), (4, .int (nI (6 * t)))]) (back : ∀ (x' : SX × (Nat → Int64)) (w' : SM) (H' : Heap) (locs' : List Loc) (ls' : Array Slot), wf_In x'.1 w' → va_P D vwCl (wL o ko q κ r μ x' w') H' → va_D (lwA s) (wL o ko q κ r μ x' w') → va_S (lwA s) s.heap H' locs' → lv_has ls' 8 [(0, .ref (b)), (1, .ref (q 0)), (2, .ref (r 0)), (3, .ref (o)), (4, .int (nI (6 * t)))] → W p l e room_1 s m #[Value.ref b] below meth c H' locs' (12 + (t + 1)) (1905 + 6 * (t + 1)) (lw_Z below #[Value.ref b] s) (F0 m 1124 ls' [])) : W p l e room_1 s m #[Value.ref b] below meth c H locs (12 + t) (1905 + 6 * t) (lw_Z below #[Value.ref b] s) (F0 m 1024 ls []) := by
  obtain ⟨hx, hb, hr, hml, hown, hts0, hX, hbl, hlocks, hgv⟩ := C0
  have hts := fun w h => hts0 w (wG_tbl h)
  have C : CallFix p m c code 8 s #[Value.ref b] wG RL := ⟨hx, hb, hml, hown, hts⟩
  have hA : ∀ z : Nat, s.heap.size ≤ z → lwA s z := fun _ h => h
  have hbA : ¬ lwA s b := Nat.not_le.mpr hbl
  refine lv_aload_n hx hb d_law_1024 rfl (lv_at hl 1 rfl) ?_
  refine lv_aload_n hx hb d_law_1025 rfl (lv_at hl 0 rfl) ?_
  refine lv_iload hx hb d_law_1026 (lv_at hl 4 rfl) ?_
  refine lv_iconst (v := 1) hx hb d_law_1028 (by decide) ?_
  refine lv_iadd hx hb d_law_1029 ?_
  refine lw_ld hx hb hX hbl hbA hS (k := 6 * t + 1) (nI_add (6 * t) 1) (by omega) hL d_law_1030 ?_
  rw [ej]
  have hPc := hP.sub (ws' := wX q κ x.1) [0, 1, 2, 3, 4] rfl
  have hDc := hD.sub (ws' := wX q κ x.1) [0, 1, 2, 3, 4] (by decide) rfl
  have hKc := hK.sub (tys' := tyX κ) [0, 1, 2, 3] rfl
  refine vp_callSi (W.runV (As := [.int (nI j)]) (rest := []) C (c_X_digitBig l D q κ x.1 (39 - c_) (by omega) d2 j hj31 (by omega) H.size) (cwV 1 C.2.2.2.2 (wG_V (fun _ h => h) k_ml_L_117 k_im_X_digit k_se_X_digit k_in_X k_X_digit) rfl rfl rfl (by decide +kernel) ⟨Nat.le_of_ble_eq_true rfl, Nat.le_of_ble_eq_true rfl⟩) ⟨wf_blind, va_recv hKc hPc (ci := 0) (q0 := 0) rfl rfl, wf_pre hPc hKc hDc⟩ rfl rfl hl.1 rfl (lv_room (Nat.le_of_ble_eq_true rfl)) d_law_1031 ⟨by show _ ≤ 1041; omega, by show _ ≤ 10127; omega⟩) (fun xr hxr => ?_)
  refine lv_aload_n hx hb d_law_1034 rfl (lv_at hl 2 rfl) ?_
  refine lv_aload_n hx hb d_law_1035 rfl (lv_at hl 0 rfl) ?_
  refine lv_iload hx hb d_law_1036 (lv_at hl 4 rfl) ?_
  refine lv_iconst (v := 1) hx hb d_law_1038 (by decide) ?_
  refine lv_iadd hx hb d_law_1039 ?_
  refine lw_ld hx hb hX hbl hbA hS (k := 6 * t + 1) (nI_add (6 * t) 1) (by omega) hL d_law_1040 ?_
  rw [ej]
  have hPc := hP.sub (ws' := wM r μ w) [6, 7, 8, 9, 10, 11] rfl
  have hDc := hD.sub (ws' := wM r μ w) [6, 7, 8, 9, 10, 11] (by decide) rfl
  have hKc := hK.sub (tys' := tyM μ) [5, 6, 7, 8, 9] rfl
  refine wj_i (ws := wL o ko q κ r μ x w) (wc := wM r μ w) (wr := wXO o ko q κ x) (mkAll := fun z => wL o ko q κ r μ x z) [6, 7, 8, 9, 10, 11] [0, 1, 2, 3, 4, 5] [0, 1, 2, 3, 4, 5, 6, 7, 8, 9, 10, 11] rfl rfl (by decide) (by decide) (by decide) (fun _ => rfl) (va_runV (As := [.int (nI j)]) (rest := [.int (xr)]) C (c_M_digitBig l D r μ w c_ d1 d3 j hj31 hj H.size) (cwV 1 C.2.2.2.2 (wG_V (fun _ h => h) k_ml_L_120 k_im_M_digit k_se_M_digit k_in_M k_M_digit) rfl rfl rfl (by decide +kernel) ⟨Nat.le_of_ble_eq_true rfl, Nat.le_of_ble_eq_true rfl⟩) ⟨wf_blind, va_recv hKc hPc (ci := 1) (q0 := 0) rfl rfl, wf_pre hPc hKc hDc⟩ rfl rfl hl.1 rfl (lv_room (Nat.le_of_ble_eq_true rfl)) d_law_1041 ⟨by show _ ≤ 1041; omega, by show _ ≤ 10127; omega⟩) (fun _ h => h) hS hP hD hA (fun mr w1 H locs em hP hD hS => ?_)
  have hIn1 : wf_In x.1 w1 := In_code hIn em.1
  refine lv_icmp_eq (tgt := 1124) hx hb d_law_1044 (by decide) (fun c_1 => ?_) (fun c_1 => False.elim (by first | exact absurd (hxr.trans em.2.symm) c_1 | exact absurd c_1 (hxr.trans em.2.symm)))
  refine W.widen (k := 12 + (t + 1)) (n := 1905 + 6 * (t + 1)) (by omega) (by omega) ?_
  exact back x w1 H locs ls hIn1 hP hD hS (lv_sub hl [0, 1, 2, 3, 4] rfl)
