/-! ===== the reference: none, thrown, copy, take ===== -/

set_option maxHeartbeats 4000000 in
set_option maxRecDepth 100000 in
/-- none -/
theorem c_M_none (l : Launch) (i : Int32) : Met l y_M_none (.code y_M_none b_M_none 1 (some .boolean) :: wG) (wf_rm 0 0 0 0) (fun v _ => v = ([.int i] : List Value).toArray) (vp_Si (fun r => r = wf_bi (wf_no i))) 0 0 (fun _ => False) := by
  refine wf_openS (by decide) (Nat.le_of_ble_eq_true rfl) ?_
  intro p e s m below meth c ls C hr hlocks hl
  have hx := C.1
  have hb := C.2.1
  have hml := C.2.2.1
  have hown := C.2.2.2.1
  have hts := C.2.2.2.2
  have hl : lv_has ls 1 [(0, .int (i))] := hl
  refine lv_iload_n hx hb d_M_none_0 rfl (lv_at hl 0 rfl) ?_
  refine lv_if_lt (tgt := 10) hx hb d_M_none_1 (by decide) (fun c_1 => ?_) (fun c_1 => ?_)
  · refine lv_iconst (v := 1) hx hb d_M_none_10 (by decide) ?_
    refine lv_goto (tgt := 15) hx hb d_M_none_11 (by decide) ?_
    exact W.zret hx hb hr (rfl) (fun t ht hW => ⟨_, rfl, by unfold wf_no; rw [decide_eq_true c_1]; rfl, ht⟩) (fun q h => by cases h) d_M_none_15 hlocks
  · refine lv_iload_n hx hb d_M_none_4 rfl (lv_at hl 0 rfl) ?_
    refine lv_bipush (v := 7) hx hb d_M_none_5 (by decide) ?_
    refine lv_icmp_le (tgt := 14) hx hb d_M_none_7 (by decide) (fun c_2 => ?_) (fun c_2 => ?_)
    · refine lv_iconst (v := 0) hx hb d_M_none_14 (by decide) ?_
      exact W.zret hx hb hr (rfl) (fun t ht hW => ⟨_, rfl, by unfold wf_no; rw [decide_eq_false c_1, decide_eq_false (Int32.not_lt.mpr c_2)]; rfl, ht⟩) (fun q h => by cases h) d_M_none_15 hlocks
    · refine lv_iconst (v := 1) hx hb d_M_none_10 (by decide) ?_
      refine lv_goto (tgt := 15) hx hb d_M_none_11 (by decide) ?_
      exact W.zret hx hb hr (rfl) (fun t ht hW => ⟨_, rfl, by unfold wf_no; rw [decide_eq_false c_1, decide_eq_true (Int32.not_le.mp c_2)]; rfl, ht⟩) (fun q h => by cases h) d_M_none_15 hlocks

set_option maxHeartbeats 4000000 in
set_option maxRecDepth 100000 in
theorem kM_none {p : Program} {l : Launch} {e : Env} {R : Room} {s : State} {m : MethodId} {args : Array Value} {below : List Frame} {meth : Method} {c : Code} {H : Heap} {locs : List Loc} {cells slots : Nat} {Q : State → Prop} {cc : ByteArray} {pc nL : Nat} {ls : Array Slot} {rest : List Value} {i : Int32} (C : CallFix p m c cc nL s args wG RM) (hsz : ls.size = nL) (hR : 1 ≤ R.frames ∧ 20 ≤ R.locals) (hw : (rest.map fun v => v.category).sum ≤ 8) (hc : cells ≤ R.cells ∧ slots ≤ R.slots) (hdg : decode cc pc = .ok (.invokestatic 30, 3)) (kk : W p l e R s m args below meth c H locs cells slots Q (F0 m (pc + 3) ls (.int (wf_bi (wf_no i)) :: rest))) : W p l e R s m args below meth c H locs cells slots Q (F0 m pc ls (.int i :: rest)) := by
  refine vp_callSi (W.runS (As := [.int i]) (rest := rest) C (c_M_none l i) (va_cwS 1 C.2.2.2.2 (wG_S (fun _ h => h) k_ml_M_30 k_st_M_none k_in_M k_M_none) rfl rfl rfl (by decide +kernel) ⟨hR.1, hR.2⟩) preEq rfl rfl hsz rfl (lv_room hw) hdg ⟨hc.1, hc.2⟩) (fun r hr => ?_)
  rw [hr]
  exact kk

set_option maxHeartbeats 4000000 in
set_option maxRecDepth 100000 in
theorem kM_ok {p : Program} {l : Launch} {e : Env} {R : Room} {s : State} {m : MethodId} {args : Array Value} {below : List Frame} {meth : Method} {c : Code} {H : Heap} {locs : List Loc} {cells slots : Nat} {Q : State → Prop} {cc : ByteArray} {pc nL : Nat} {ls : Array Slot} {rest : List Value} {r : Nat} (hr8 : r < 8) (C : CallFix p m c cc nL s args wG RM) (hsz : ls.size = nL) (hR : 1 ≤ R.frames ∧ 20 ≤ R.locals) (hw : (rest.map fun v => v.category).sum ≤ 8) (hc : cells ≤ R.cells ∧ slots ≤ R.slots) (hdg : decode cc pc = .ok (.invokestatic 30, 3)) (kk : W p l e R s m args below meth c H locs cells slots Q (F0 m (pc + 3) ls (.int 0 :: rest))) : W p l e R s m args below meth c H locs cells slots Q (F0 m pc ls (.int (nI r) :: rest)) :=
  kM_none C hsz hR hw hc hdg (by rw [wf_no_ok hr8]; exact kk)

set_option maxHeartbeats 4000000 in
set_option maxRecDepth 100000 in
/-- M_thrown -/
theorem c_M_thrown (l : Launch) (D : va_G) (q : Nat → Nat) (κ : Nat → ClassId) (u : SM)  (sz : Nat) : Met l y_M_thrown (.code y_M_thrown b_M_thrown 1 (some .int) :: wG) (wf_rm 0 0 0 0) (wf_Pc D vwCl (wM q κ u) (tyM κ) ([.ref (q 0)]) sz) (vp_Si (fun r => r = u.1)) 0 0 (fun _ => False) := by
  refine wf_open (by decide) (Nat.le_of_ble_eq_true rfl) k_M_thrown ?_
  intro p e s m below meth c ls hsz C hr hlocks hnm hex hP hK hD hl
  subst hsz
  have hx := C.1
  have hb := C.2.1
  have hml := C.2.2.1
  have hown := C.2.2.2.1
  have hts := C.2.2.2.2
  have hA : ∀ j : Nat, s.heap.size ≤ j → va_A (wM q κ u) s.heap.size j := fun j h => Or.inr h
  have hS : va_S (va_A (wM q κ u) s.heap.size) s.heap s.heap [] := va_S.rf
  generalize hAe : va_A (wM q κ u) s.heap.size = A at hA hS hD ⊢
  have hl : lv_has ls 1 [(0, .ref (q 0))] := hl
  refine lv_aload_n hx hb d_M_thrown_0 rfl (lv_at hl 0 rfl) ?_
  refine gM C hK hP 0 rfl 0 (by decide) k_fl_M_code rfl d_M_thrown_1 ?_
  exact W.iret hx hb hr (fun t ht hW => ⟨_, rfl, rfl, ht⟩) (fun q h => by cases h) d_M_thrown_4 hlocks

set_option maxHeartbeats 4000000 in
set_option maxRecDepth 100000 in
/-- M_copy -/
theorem c_M_copy (l : Launch) (D : va_G) (q : Nat → Nat) (κ : Nat → ClassId) (u : SM) (ra rb : Nat) (hra : ra < 10) (hrb : rb < 10) (sz : Nat) : Met l y_M_copy (.code y_M_copy b_M_copy 4 none :: wG) (wf_rm 0 0 0 0) (wf_Pc D vwCl (wM q κ u) (tyM κ) ([.ref (q 0), .int (nI ra), .int (nI rb)]) sz) (va_Qv (fun v => v = (u.1, va_cpy u.2.1 u.2.1 (128 * ra) (128 * rb) 128, u.2.2)) (wf_B D vwCl (wM q κ) (tyM κ) (va_A (wM q κ u) sz)) (va_A (wM q κ u) sz)) 0 0 (va_A (wM q κ u) sz) := by
  refine wf_open (by decide) (Nat.le_of_ble_eq_true rfl) k_M_copy ?_
  intro p e s m below meth c ls hsz C hr hlocks hnm hex hP hK hD hl
  subst hsz
  have hx := C.1
  have hb := C.2.1
  have hml := C.2.2.1
  have hown := C.2.2.2.1
  have hts := C.2.2.2.2
  have hA : ∀ j : Nat, s.heap.size ≤ j → va_A (wM q κ u) s.heap.size j := fun j h => Or.inr h
  have hS : va_S (va_A (wM q κ u) s.heap.size) s.heap s.heap [] := va_S.rf
  generalize hAe : va_A (wM q κ u) s.heap.size = A at hA hS hD ⊢
  have hl : lv_has ls 4 [(0, .ref (q 0)), (1, .int (nI ra)), (2, .int (nI rb))] := hl
  refine lv_iconst (v := 0) hx hb d_M_copy_0 (by decide) ?_
  refine lv_istore_n (lv' := [(3, .int (0)), (0, .ref (q 0)), (1, .int (nI ra)), (2, .int (nI rb))]) hx hb d_M_copy_1 rfl hl (by decide) rfl (fun ls hl => ?_)
  refine wf_forH (σ := SM) 128 (fun i x => x = (u.1, va_cpy u.2.1 u.2.1 (128 * ra) (128 * rb) i, u.2.2)) (fun x => wM q κ x) (fun i x => [(3, .int (nI i)), (0, .ref (q 0)), (1, .int (nI ra)), (2, .int (nI rb))]) (fun i x H locs ls hi hI hP hD hS hl ih => ?_) (fun x H locs ls hI hP hD hS hl => ?_) u (by rw [wf_cpy0]) hP hD hS (lv_sub hl [0, 1, 2, 3] rfl)
  · have hP : va_P D vwCl (wM q κ x) H := hP
    have hD : va_D A (wM q κ x) := hD
    have hl : lv_has ls 4 [(3, .int (nI i)), (0, .ref (q 0)), (1, .int (nI ra)), (2, .int (nI rb))] := hl
    have hI : x = (u.1, va_cpy u.2.1 u.2.1 (128 * ra) (128 * rb) i, u.2.2) := hI
    refine lv_iload_n hx hb d_M_copy_2 rfl (lv_at hl 0 rfl) ?_
    refine lv_sipush (v := 128) hx hb d_M_copy_3 (by decide) ?_
    refine lv_icmp_ge (tgt := 39) hx hb d_M_copy_6 (by decide) (fun c_1 => False.elim (by first | exact absurd c_1 (nI_ge hi (by decide)) | exact absurd (nI_ge hi (by decide)) c_1)) (fun c_1 => ?_)
    refine lv_aload_n hx hb d_M_copy_9 rfl (lv_at hl 1 rfl) ?_
    refine gM C hK hP 0 rfl 1 (by decide) k_fl_M_bits rfl d_M_copy_10 ?_
    refine lv_sipush (v := 128) hx hb d_M_copy_13 (by decide) ?_
    refine lv_iload_n hx hb d_M_copy_16 rfl (lv_at hl 3 rfl) ?_
    refine lv_imul hx hb d_M_copy_17 ?_
    refine lv_iload_n hx hb d_M_copy_18 rfl (lv_at hl 0 rfl) ?_
    refine lv_iadd hx hb d_M_copy_19 ?_
    refine lv_aload_n hx hb d_M_copy_20 rfl (lv_at hl 1 rfl) ?_
    refine gM C hK hP 0 rfl 1 (by decide) k_fl_M_bits rfl d_M_copy_21 ?_
    refine lv_sipush (v := 128) hx hb d_M_copy_24 (by decide) ?_
    refine lv_iload_n hx hb d_M_copy_27 rfl (lv_at hl 2 rfl) ?_
    refine lv_imul hx hb d_M_copy_28 ?_
    refine lv_iload_n hx hb d_M_copy_29 rfl (lv_at hl 0 rfl) ?_
    refine lv_iadd hx hb d_M_copy_30 ?_
    refine wf_zald C hK hP 1 0 rfl rfl (k := 128 * ra + i) (wf_ia (wf_im rfl rfl) rfl) (by omega) (by decide) d_M_copy_31 ?_
    refine wf_zast C hK hP hD hS 1 0 rfl rfl (k := 128 * rb + i) (b := ((x.2.1 (128 * ra + i)))) (wf_ia (wf_im rfl rfl) rfl) (by omega) (by decide) d_M_copy_32 (fun H locs hP hD hS => ?_)
    have hP : va_P D vwCl (wM q κ (x.1, va_up x.2.1 (128 * rb + i) ((x.2.1 (128 * ra + i))), x.2.2)) H := hP
    have hD : va_D A (wM q κ (x.1, va_up x.2.1 (128 * rb + i) ((x.2.1 (128 * ra + i))), x.2.2)) := hD
    generalize eu_2 : ((x.1, va_up x.2.1 (128 * rb + i) ((x.2.1 (128 * ra + i))), x.2.2) : SM) = u_2 at hP hD
    refine lv_iinc (v := nI (i + 1)) (lv' := [(3, .int (nI (i + 1))), (0, .ref (q 0)), (1, .int (nI ra)), (2, .int (nI rb))]) hx hb d_M_copy_33 hl (k := 0) rfl (nI_1 _) (by decide) rfl (fun ls hl => ?_)
    refine lv_goto (tgt := 2) hx hb d_M_copy_36 (by decide) ?_
    exact ih u_2 H locs ls (eu_2.symm.trans (wf_copy_S hi hI)) hP hD hS (lv_sub hl [0, 1, 2, 3] rfl)
  · have hP : va_P D vwCl (wM q κ x) H := hP
    have hD : va_D A (wM q κ x) := hD
    have hl : lv_has ls 4 [(3, .int (nI 128)), (0, .ref (q 0)), (1, .int (nI ra)), (2, .int (nI rb))] := hl
    have hI : x = (u.1, va_cpy u.2.1 u.2.1 (128 * ra) (128 * rb) 128, u.2.2) := hI
    refine lv_iload_n hx hb d_M_copy_2 rfl (lv_at hl 0 rfl) ?_
    refine lv_sipush (v := 128) hx hb d_M_copy_3 (by decide) ?_
    refine lv_icmp_ge (tgt := 39) hx hb d_M_copy_6 (by decide) (fun c_3 => ?_) (fun c_3 => False.elim (by first | exact absurd (nI_le (Nat.le_refl 128) (by decide)) c_3 | exact absurd c_3 (nI_le (Nat.le_refl 128) (by decide))))
    exact wf_retv C hr hlocks x (hI) hP hK hD hS (fun _ h => h) d_M_copy_39

set_option maxHeartbeats 4000000 in
set_option maxRecDepth 100000 in
theorem kM_copy {p : Program} {l : Launch} {e : Env} {R : Room} {s : State} {m : MethodId} {args : Array Value} {below : List Frame} {meth : Method} {c : Code} {H : Heap} {locs : List Loc} {cells slots : Nat} {Q : State → Prop} {cc : ByteArray} {pc nL : Nat} {ls : Array Slot} {rest : List Value} {D : va_G} {q : Nat → Nat} {κ : Nat → ClassId} {A : Nat → Prop} {u : SM} {ra rb : Nat} (hra : ra < 10) (hrb : rb < 10) (C : CallFix p m c cc nL s args wG RM) (hsz : ls.size = nL) (hR : 1 ≤ R.frames ∧ 23 ≤ R.locals) (hw : (rest.map fun v => v.category).sum ≤ 8) (hc : cells + 0 ≤ R.cells ∧ slots + 0 ≤ R.slots) (hP : va_P D vwCl (wM q κ u) H) (hK : va_K D vwCl (tyM κ) s) (hD : va_D A (wM q κ u)) (hS : va_S A s.heap H locs) (hA : ∀ q, s.heap.size ≤ q → A q) (hdg : decode cc pc = .ok (.invokevirtual 36, 3)) (kk : ∀ (v : SM) (H1 : Heap) (locs1 : List Loc), v = (u.1, va_cpy u.2.1 u.2.1 (128 * ra) (128 * rb) 128, u.2.2) → va_P D vwCl (wM q κ v) H1 → va_D A (wM q κ v) → va_S A s.heap H1 locs1 → W p l e R s m args below meth c H1 locs1 (cells) (slots) Q (F0 m (pc + 3) ls (rest))) : W p l e R s m args below meth c H locs cells slots Q (F0 m pc ls (.int (nI rb) :: .int (nI ra) :: .ref (q 0) :: rest)) := by
  exact wf_cv (va_runV (As := [.int (nI ra), .int (nI rb)]) (rest := rest) C (c_M_copy l D q κ u ra rb hra hrb H.size) (cwV 2 C.2.2.2.2 (wG_V (fun _ h => h) k_ml_M_36 k_im_M_copy k_se_M_copy k_in_M k_M_copy) rfl rfl rfl (by decide +kernel) ⟨hR.1, hR.2⟩) ⟨wf_blind, va_recv hK hP (ci := 1) (q0 := 0) rfl rfl, wf_pre hP hK hD⟩ rfl rfl hsz rfl (lv_room hw) hdg ⟨hc.1, hc.2⟩) (fun _ h => h) hS hD hA kk

set_option maxHeartbeats 4000000 in
set_option maxRecDepth 100000 in
/-- M_take -/
theorem c_M_takeProduct (l : Launch) (D : va_G) (q : Nat → Nat) (κ : Nat → ClassId) (u : SM) (b rt : Nat) (hb : b + 128 ≤ 256) (hrt : rt < 8) (sz : Nat) : Met l y_M_take (.code y_M_take b_M_take 5 none :: wG) (wf_rm 0 0 0 0) (wf_Pc D vwCl (wM q κ u) (tyM κ) ([.ref (q 0), .ref (q 2), .int (nI b), .int (nI rt)]) sz) (va_Qv (fun v => v = (u.1, va_cpy u.2.2.1 u.2.1 b (128 * rt) 128, u.2.2)) (wf_B D vwCl (wM q κ) (tyM κ) (va_A (wM q κ u) sz)) (va_A (wM q κ u) sz)) 0 0 (va_A (wM q κ u) sz) := by
  refine wf_open (by decide) (Nat.le_of_ble_eq_true rfl) k_M_take ?_
  intro p e s m below meth c ls hsz C hr hlocks hnm hex hP hK hD hl
  subst hsz
  have hx := C.1
  have hbb := hb
  have hb := C.2.1
  have hml := C.2.2.1
  have hown := C.2.2.2.1
  have hts := C.2.2.2.2
  have hA : ∀ j : Nat, s.heap.size ≤ j → va_A (wM q κ u) s.heap.size j := fun j h => Or.inr h
  have hS : va_S (va_A (wM q κ u) s.heap.size) s.heap s.heap [] := va_S.rf
  generalize hAe : va_A (wM q κ u) s.heap.size = A at hA hS hD ⊢
  have hl : lv_has ls 5 [(0, .ref (q 0)), (1, .ref (q 2)), (2, .int (nI b)), (3, .int (nI rt))] := hl
  refine lv_iconst (v := 0) hx hb d_M_take_0 (by decide) ?_
  refine lv_istore (lv' := [(4, .int (0)), (0, .ref (q 0)), (1, .ref (q 2)), (2, .int (nI b)), (3, .int (nI rt))]) hx hb d_M_take_1 hl (by decide) rfl (fun ls hl => ?_)
  refine wf_forH (σ := SM) 128 (fun i x => x = (u.1, va_cpy u.2.2.1 u.2.1 b (128 * rt) i, u.2.2)) (fun x => wM q κ x) (fun i x => [(4, .int (nI i)), (0, .ref (q 0)), (1, .ref (q 2)), (2, .int (nI b)), (3, .int (nI rt))]) (fun i x H locs ls hi hI hP hD hS hl ih => ?_) (fun x H locs ls hI hP hD hS hl => ?_) u (by rw [wf_cpy0]) hP hD hS (lv_sub hl [0, 1, 2, 3, 4] rfl)
  · have hP : va_P D vwCl (wM q κ x) H := hP
    have hD : va_D A (wM q κ x) := hD
    have hl : lv_has ls 5 [(4, .int (nI i)), (0, .ref (q 0)), (1, .ref (q 2)), (2, .int (nI b)), (3, .int (nI rt))] := hl
    have hI : x = (u.1, va_cpy u.2.2.1 u.2.1 b (128 * rt) i, u.2.2) := hI
    refine lv_iload hx hb d_M_take_3 (lv_at hl 0 rfl) ?_
    refine lv_sipush (v := 128) hx hb d_M_take_5 (by decide) ?_
    refine lv_icmp_ge (tgt := 36) hx hb d_M_take_8 (by decide) (fun c_1 => False.elim (by first | exact absurd c_1 (nI_ge hi (by decide)) | exact absurd (nI_ge hi (by decide)) c_1)) (fun c_1 => ?_)
    refine lv_aload_n hx hb d_M_take_11 rfl (lv_at hl 1 rfl) ?_
    refine gM C hK hP 0 rfl 1 (by decide) k_fl_M_bits rfl d_M_take_12 ?_
    refine lv_sipush (v := 128) hx hb d_M_take_15 (by decide) ?_
    refine lv_iload_n hx hb d_M_take_18 rfl (lv_at hl 4 rfl) ?_
    refine lv_imul hx hb d_M_take_19 ?_
    refine lv_iload hx hb d_M_take_20 (lv_at hl 0 rfl) ?_
    refine lv_iadd hx hb d_M_take_22 ?_
    refine lv_aload_n hx hb d_M_take_23 rfl (lv_at hl 2 rfl) ?_
    refine lv_iload_n hx hb d_M_take_24 rfl (lv_at hl 3 rfl) ?_
    refine lv_iload hx hb d_M_take_25 (lv_at hl 0 rfl) ?_
    refine lv_iadd hx hb d_M_take_27 ?_
    refine wf_zald C hK hP 2 1 rfl rfl (k := b + i) (wf_ia rfl rfl) (by omega) (by decide) d_M_take_28 ?_
    refine wf_zast C hK hP hD hS 1 0 rfl rfl (k := 128 * rt + i) (b := ((x.2.2.1 (b + i)))) (wf_ia (wf_im rfl rfl) rfl) (by omega) (by decide) d_M_take_29 (fun H locs hP hD hS => ?_)
    have hP : va_P D vwCl (wM q κ (x.1, va_up x.2.1 (128 * rt + i) ((x.2.2.1 (b + i))), x.2.2)) H := hP
    have hD : va_D A (wM q κ (x.1, va_up x.2.1 (128 * rt + i) ((x.2.2.1 (b + i))), x.2.2)) := hD
    generalize eu_2 : ((x.1, va_up x.2.1 (128 * rt + i) ((x.2.2.1 (b + i))), x.2.2) : SM) = u_2 at hP hD
    refine lv_iinc (v := nI (i + 1)) (lv' := [(4, .int (nI (i + 1))), (0, .ref (q 0)), (1, .ref (q 2)), (2, .int (nI b)), (3, .int (nI rt))]) hx hb d_M_take_30 hl (k := 0) rfl (nI_1 _) (by decide) rfl (fun ls hl => ?_)
    refine lv_goto (tgt := 3) hx hb d_M_take_33 (by decide) ?_
    exact ih u_2 H locs ls (by rw [← eu_2, hI]; exact congrArg (fun z => (u.1, z, u.2.2)) (wf_cpyS _ _ _ _ _)) hP hD hS (lv_sub hl [0, 1, 2, 3, 4] rfl)
  · have hP : va_P D vwCl (wM q κ x) H := hP
    have hD : va_D A (wM q κ x) := hD
    have hl : lv_has ls 5 [(4, .int (nI 128)), (0, .ref (q 0)), (1, .ref (q 2)), (2, .int (nI b)), (3, .int (nI rt))] := hl
    have hI : x = (u.1, va_cpy u.2.2.1 u.2.1 b (128 * rt) 128, u.2.2) := hI
    refine lv_iload hx hb d_M_take_3 (lv_at hl 0 rfl) ?_
    refine lv_sipush (v := 128) hx hb d_M_take_5 (by decide) ?_
    refine lv_icmp_ge (tgt := 36) hx hb d_M_take_8 (by decide) (fun c_3 => ?_) (fun c_3 => False.elim (by first | exact absurd (nI_le (Nat.le_refl 128) (by decide)) c_3 | exact absurd c_3 (nI_le (Nat.le_refl 128) (by decide))))
    exact wf_retv C hr hlocks x (hI) hP hK hD hS (fun _ h => h) d_M_take_36

set_option maxHeartbeats 4000000 in
set_option maxRecDepth 100000 in
theorem kM_takeProduct {p : Program} {l : Launch} {e : Env} {R : Room} {s : State} {m : MethodId} {args : Array Value} {below : List Frame} {meth : Method} {c : Code} {H : Heap} {locs : List Loc} {cells slots : Nat} {Q : State → Prop} {cc : ByteArray} {pc nL : Nat} {ls : Array Slot} {rest : List Value} {D : va_G} {q : Nat → Nat} {κ : Nat → ClassId} {A : Nat → Prop} {u : SM} {b rt : Nat} (hb : b + 128 ≤ 256) (hrt : rt < 8) (C : CallFix p m c cc nL s args wG RM) (hsz : ls.size = nL) (hR : 1 ≤ R.frames ∧ 24 ≤ R.locals) (hw : (rest.map fun v => v.category).sum ≤ 8) (hc : cells + 0 ≤ R.cells ∧ slots + 0 ≤ R.slots) (hP : va_P D vwCl (wM q κ u) H) (hK : va_K D vwCl (tyM κ) s) (hD : va_D A (wM q κ u)) (hS : va_S A s.heap H locs) (hA : ∀ q, s.heap.size ≤ q → A q) (hdg : decode cc pc = .ok (.invokevirtual 47, 3)) (kk : ∀ (v : SM) (H1 : Heap) (locs1 : List Loc), v = (u.1, va_cpy u.2.2.1 u.2.1 b (128 * rt) 128, u.2.2) → va_P D vwCl (wM q κ v) H1 → va_D A (wM q κ v) → va_S A s.heap H1 locs1 → W p l e R s m args below meth c H1 locs1 (cells) (slots) Q (F0 m (pc + 3) ls (rest))) : W p l e R s m args below meth c H locs cells slots Q (F0 m pc ls (.int (nI rt) :: .int (nI b) :: .ref (q 2) :: .ref (q 0) :: rest)) := by
  exact wf_cv (va_runV (As := [.ref (q 2), .int (nI b), .int (nI rt)]) (rest := rest) C (c_M_takeProduct l D q κ u b rt hb hrt H.size) (cwV 3 C.2.2.2.2 (wG_V (fun _ h => h) k_ml_M_47 k_im_M_take k_se_M_take k_in_M k_M_take) rfl rfl rfl (by decide +kernel) ⟨hR.1, hR.2⟩) ⟨wf_blind, va_recv hK hP (ci := 1) (q0 := 0) rfl rfl, wf_pre hP hK hD⟩ rfl rfl hsz rfl (lv_room hw) hdg ⟨hc.1, hc.2⟩) (fun _ h => h) hS hD hA kk

set_option maxHeartbeats 4000000 in
set_option maxRecDepth 100000 in
/-- M_take -/
theorem c_M_takeAnswer (l : Launch) (D : va_G) (q : Nat → Nat) (κ : Nat → ClassId) (u : SM) (b rt : Nat) (hb : b + 128 ≤ 128) (hrt : rt < 8) (sz : Nat) : Met l y_M_take (.code y_M_take b_M_take 5 none :: wG) (wf_rm 0 0 0 0) (wf_Pc D vwCl (wM q κ u) (tyM κ) ([.ref (q 0), .ref (q 3), .int (nI b), .int (nI rt)]) sz) (va_Qv (fun v => v = (u.1, va_cpy u.2.2.2.1 u.2.1 b (128 * rt) 128, u.2.2)) (wf_B D vwCl (wM q κ) (tyM κ) (va_A (wM q κ u) sz)) (va_A (wM q κ u) sz)) 0 0 (va_A (wM q κ u) sz) := by
  refine wf_open (by decide) (Nat.le_of_ble_eq_true rfl) k_M_take ?_
  intro p e s m below meth c ls hsz C hr hlocks hnm hex hP hK hD hl
  subst hsz
  have hx := C.1
  have hbb := hb
  have hb := C.2.1
  have hml := C.2.2.1
  have hown := C.2.2.2.1
  have hts := C.2.2.2.2
  have hA : ∀ j : Nat, s.heap.size ≤ j → va_A (wM q κ u) s.heap.size j := fun j h => Or.inr h
  have hS : va_S (va_A (wM q κ u) s.heap.size) s.heap s.heap [] := va_S.rf
  generalize hAe : va_A (wM q κ u) s.heap.size = A at hA hS hD ⊢
  have hl : lv_has ls 5 [(0, .ref (q 0)), (1, .ref (q 3)), (2, .int (nI b)), (3, .int (nI rt))] := hl
  refine lv_iconst (v := 0) hx hb d_M_take_0 (by decide) ?_
  refine lv_istore (lv' := [(4, .int (0)), (0, .ref (q 0)), (1, .ref (q 3)), (2, .int (nI b)), (3, .int (nI rt))]) hx hb d_M_take_1 hl (by decide) rfl (fun ls hl => ?_)
  refine wf_forH (σ := SM) 128 (fun i x => x = (u.1, va_cpy u.2.2.2.1 u.2.1 b (128 * rt) i, u.2.2)) (fun x => wM q κ x) (fun i x => [(4, .int (nI i)), (0, .ref (q 0)), (1, .ref (q 3)), (2, .int (nI b)), (3, .int (nI rt))]) (fun i x H locs ls hi hI hP hD hS hl ih => ?_) (fun x H locs ls hI hP hD hS hl => ?_) u (by rw [wf_cpy0]) hP hD hS (lv_sub hl [0, 1, 2, 3, 4] rfl)
  · have hP : va_P D vwCl (wM q κ x) H := hP
    have hD : va_D A (wM q κ x) := hD
    have hl : lv_has ls 5 [(4, .int (nI i)), (0, .ref (q 0)), (1, .ref (q 3)), (2, .int (nI b)), (3, .int (nI rt))] := hl
    have hI : x = (u.1, va_cpy u.2.2.2.1 u.2.1 b (128 * rt) i, u.2.2) := hI
    refine lv_iload hx hb d_M_take_3 (lv_at hl 0 rfl) ?_
    refine lv_sipush (v := 128) hx hb d_M_take_5 (by decide) ?_
    refine lv_icmp_ge (tgt := 36) hx hb d_M_take_8 (by decide) (fun c_1 => False.elim (by first | exact absurd c_1 (nI_ge hi (by decide)) | exact absurd (nI_ge hi (by decide)) c_1)) (fun c_1 => ?_)
    refine lv_aload_n hx hb d_M_take_11 rfl (lv_at hl 1 rfl) ?_
    refine gM C hK hP 0 rfl 1 (by decide) k_fl_M_bits rfl d_M_take_12 ?_
    refine lv_sipush (v := 128) hx hb d_M_take_15 (by decide) ?_
    refine lv_iload_n hx hb d_M_take_18 rfl (lv_at hl 4 rfl) ?_
    refine lv_imul hx hb d_M_take_19 ?_
    refine lv_iload hx hb d_M_take_20 (lv_at hl 0 rfl) ?_
    refine lv_iadd hx hb d_M_take_22 ?_
    refine lv_aload_n hx hb d_M_take_23 rfl (lv_at hl 2 rfl) ?_
    refine lv_iload_n hx hb d_M_take_24 rfl (lv_at hl 3 rfl) ?_
    refine lv_iload hx hb d_M_take_25 (lv_at hl 0 rfl) ?_
    refine lv_iadd hx hb d_M_take_27 ?_
    refine wf_zald C hK hP 3 2 rfl rfl (k := b + i) (wf_ia rfl rfl) (by omega) (by decide) d_M_take_28 ?_
    refine wf_zast C hK hP hD hS 1 0 rfl rfl (k := 128 * rt + i) (b := ((x.2.2.2.1 (b + i)))) (wf_ia (wf_im rfl rfl) rfl) (by omega) (by decide) d_M_take_29 (fun H locs hP hD hS => ?_)
    have hP : va_P D vwCl (wM q κ (x.1, va_up x.2.1 (128 * rt + i) ((x.2.2.2.1 (b + i))), x.2.2)) H := hP
    have hD : va_D A (wM q κ (x.1, va_up x.2.1 (128 * rt + i) ((x.2.2.2.1 (b + i))), x.2.2)) := hD
    generalize eu_2 : ((x.1, va_up x.2.1 (128 * rt + i) ((x.2.2.2.1 (b + i))), x.2.2) : SM) = u_2 at hP hD
    refine lv_iinc (v := nI (i + 1)) (lv' := [(4, .int (nI (i + 1))), (0, .ref (q 0)), (1, .ref (q 3)), (2, .int (nI b)), (3, .int (nI rt))]) hx hb d_M_take_30 hl (k := 0) rfl (nI_1 _) (by decide) rfl (fun ls hl => ?_)
    refine lv_goto (tgt := 3) hx hb d_M_take_33 (by decide) ?_
    exact ih u_2 H locs ls (by rw [← eu_2, hI]; exact congrArg (fun z => (u.1, z, u.2.2)) (wf_cpyS _ _ _ _ _)) hP hD hS (lv_sub hl [0, 1, 2, 3, 4] rfl)
  · have hP : va_P D vwCl (wM q κ x) H := hP
    have hD : va_D A (wM q κ x) := hD
    have hl : lv_has ls 5 [(4, .int (nI 128)), (0, .ref (q 0)), (1, .ref (q 3)), (2, .int (nI b)), (3, .int (nI rt))] := hl
    have hI : x = (u.1, va_cpy u.2.2.2.1 u.2.1 b (128 * rt) 128, u.2.2) := hI
    refine lv_iload hx hb d_M_take_3 (lv_at hl 0 rfl) ?_
    refine lv_sipush (v := 128) hx hb d_M_take_5 (by decide) ?_
    refine lv_icmp_ge (tgt := 36) hx hb d_M_take_8 (by decide) (fun c_3 => ?_) (fun c_3 => False.elim (by first | exact absurd (nI_le (Nat.le_refl 128) (by decide)) c_3 | exact absurd c_3 (nI_le (Nat.le_refl 128) (by decide))))
    exact wf_retv C hr hlocks x (hI) hP hK hD hS (fun _ h => h) d_M_take_36

set_option maxHeartbeats 4000000 in
set_option maxRecDepth 100000 in
theorem kM_takeAnswer {p : Program} {l : Launch} {e : Env} {R : Room} {s : State} {m : MethodId} {args : Array Value} {below : List Frame} {meth : Method} {c : Code} {H : Heap} {locs : List Loc} {cells slots : Nat} {Q : State → Prop} {cc : ByteArray} {pc nL : Nat} {ls : Array Slot} {rest : List Value} {D : va_G} {q : Nat → Nat} {κ : Nat → ClassId} {A : Nat → Prop} {u : SM} {b rt : Nat} (hb : b + 128 ≤ 128) (hrt : rt < 8) (C : CallFix p m c cc nL s args wG RM) (hsz : ls.size = nL) (hR : 1 ≤ R.frames ∧ 24 ≤ R.locals) (hw : (rest.map fun v => v.category).sum ≤ 8) (hc : cells + 0 ≤ R.cells ∧ slots + 0 ≤ R.slots) (hP : va_P D vwCl (wM q κ u) H) (hK : va_K D vwCl (tyM κ) s) (hD : va_D A (wM q κ u)) (hS : va_S A s.heap H locs) (hA : ∀ q, s.heap.size ≤ q → A q) (hdg : decode cc pc = .ok (.invokevirtual 47, 3)) (kk : ∀ (v : SM) (H1 : Heap) (locs1 : List Loc), v = (u.1, va_cpy u.2.2.2.1 u.2.1 b (128 * rt) 128, u.2.2) → va_P D vwCl (wM q κ v) H1 → va_D A (wM q κ v) → va_S A s.heap H1 locs1 → W p l e R s m args below meth c H1 locs1 (cells) (slots) Q (F0 m (pc + 3) ls (rest))) : W p l e R s m args below meth c H locs cells slots Q (F0 m pc ls (.int (nI rt) :: .int (nI b) :: .ref (q 3) :: .ref (q 0) :: rest)) := by
  exact wf_cv (va_runV (As := [.ref (q 3), .int (nI b), .int (nI rt)]) (rest := rest) C (c_M_takeAnswer l D q κ u b rt hb hrt H.size) (cwV 3 C.2.2.2.2 (wG_V (fun _ h => h) k_ml_M_47 k_im_M_take k_se_M_take k_in_M k_M_take) rfl rfl rfl (by decide +kernel) ⟨hR.1, hR.2⟩) ⟨wf_blind, va_recv hK hP (ci := 1) (q0 := 0) rfl rfl, wf_pre hP hK hD⟩ rfl rfl hsz rfl (lv_room hw) hdg ⟨hc.1, hc.2⟩) (fun _ h => h) hS hD hA kk

set_option maxHeartbeats 4000000 in
set_option maxRecDepth 100000 in
/-- M_take -/
theorem c_M_takeRest (l : Launch) (D : va_G) (q : Nat → Nat) (κ : Nat → ClassId) (u : SM) (b rt : Nat) (hb : b + 128 ≤ 130) (hrt : rt < 8) (sz : Nat) : Met l y_M_take (.code y_M_take b_M_take 5 none :: wG) (wf_rm 0 0 0 0) (wf_Pc D vwCl (wM q κ u) (tyM κ) ([.ref (q 0), .ref (q 4), .int (nI b), .int (nI rt)]) sz) (va_Qv (fun v => v = (u.1, va_cpy u.2.2.2.2.1 u.2.1 b (128 * rt) 128, u.2.2)) (wf_B D vwCl (wM q κ) (tyM κ) (va_A (wM q κ u) sz)) (va_A (wM q κ u) sz)) 0 0 (va_A (wM q κ u) sz) := by
  refine wf_open (by decide) (Nat.le_of_ble_eq_true rfl) k_M_take ?_
  intro p e s m below meth c ls hsz C hr hlocks hnm hex hP hK hD hl
  subst hsz
  have hx := C.1
  have hbb := hb
  have hb := C.2.1
  have hml := C.2.2.1
  have hown := C.2.2.2.1
  have hts := C.2.2.2.2
  have hA : ∀ j : Nat, s.heap.size ≤ j → va_A (wM q κ u) s.heap.size j := fun j h => Or.inr h
  have hS : va_S (va_A (wM q κ u) s.heap.size) s.heap s.heap [] := va_S.rf
  generalize hAe : va_A (wM q κ u) s.heap.size = A at hA hS hD ⊢
  have hl : lv_has ls 5 [(0, .ref (q 0)), (1, .ref (q 4)), (2, .int (nI b)), (3, .int (nI rt))] := hl
  refine lv_iconst (v := 0) hx hb d_M_take_0 (by decide) ?_
  refine lv_istore (lv' := [(4, .int (0)), (0, .ref (q 0)), (1, .ref (q 4)), (2, .int (nI b)), (3, .int (nI rt))]) hx hb d_M_take_1 hl (by decide) rfl (fun ls hl => ?_)
  refine wf_forH (σ := SM) 128 (fun i x => x = (u.1, va_cpy u.2.2.2.2.1 u.2.1 b (128 * rt) i, u.2.2)) (fun x => wM q κ x) (fun i x => [(4, .int (nI i)), (0, .ref (q 0)), (1, .ref (q 4)), (2, .int (nI b)), (3, .int (nI rt))]) (fun i x H locs ls hi hI hP hD hS hl ih => ?_) (fun x H locs ls hI hP hD hS hl => ?_) u (by rw [wf_cpy0]) hP hD hS (lv_sub hl [0, 1, 2, 3, 4] rfl)
  · have hP : va_P D vwCl (wM q κ x) H := hP
    have hD : va_D A (wM q κ x) := hD
    have hl : lv_has ls 5 [(4, .int (nI i)), (0, .ref (q 0)), (1, .ref (q 4)), (2, .int (nI b)), (3, .int (nI rt))] := hl
    have hI : x = (u.1, va_cpy u.2.2.2.2.1 u.2.1 b (128 * rt) i, u.2.2) := hI
    refine lv_iload hx hb d_M_take_3 (lv_at hl 0 rfl) ?_
    refine lv_sipush (v := 128) hx hb d_M_take_5 (by decide) ?_
    refine lv_icmp_ge (tgt := 36) hx hb d_M_take_8 (by decide) (fun c_1 => False.elim (by first | exact absurd c_1 (nI_ge hi (by decide)) | exact absurd (nI_ge hi (by decide)) c_1)) (fun c_1 => ?_)
    refine lv_aload_n hx hb d_M_take_11 rfl (lv_at hl 1 rfl) ?_
    refine gM C hK hP 0 rfl 1 (by decide) k_fl_M_bits rfl d_M_take_12 ?_
    refine lv_sipush (v := 128) hx hb d_M_take_15 (by decide) ?_
    refine lv_iload_n hx hb d_M_take_18 rfl (lv_at hl 4 rfl) ?_
    refine lv_imul hx hb d_M_take_19 ?_
    refine lv_iload hx hb d_M_take_20 (lv_at hl 0 rfl) ?_
    refine lv_iadd hx hb d_M_take_22 ?_
    refine lv_aload_n hx hb d_M_take_23 rfl (lv_at hl 2 rfl) ?_
    refine lv_iload_n hx hb d_M_take_24 rfl (lv_at hl 3 rfl) ?_
    refine lv_iload hx hb d_M_take_25 (lv_at hl 0 rfl) ?_
    refine lv_iadd hx hb d_M_take_27 ?_
    refine wf_zald C hK hP 4 3 rfl rfl (k := b + i) (wf_ia rfl rfl) (by omega) (by decide) d_M_take_28 ?_
    refine wf_zast C hK hP hD hS 1 0 rfl rfl (k := 128 * rt + i) (b := ((x.2.2.2.2.1 (b + i)))) (wf_ia (wf_im rfl rfl) rfl) (by omega) (by decide) d_M_take_29 (fun H locs hP hD hS => ?_)
    have hP : va_P D vwCl (wM q κ (x.1, va_up x.2.1 (128 * rt + i) ((x.2.2.2.2.1 (b + i))), x.2.2)) H := hP
    have hD : va_D A (wM q κ (x.1, va_up x.2.1 (128 * rt + i) ((x.2.2.2.2.1 (b + i))), x.2.2)) := hD
    generalize eu_2 : ((x.1, va_up x.2.1 (128 * rt + i) ((x.2.2.2.2.1 (b + i))), x.2.2) : SM) = u_2 at hP hD
    refine lv_iinc (v := nI (i + 1)) (lv' := [(4, .int (nI (i + 1))), (0, .ref (q 0)), (1, .ref (q 4)), (2, .int (nI b)), (3, .int (nI rt))]) hx hb d_M_take_30 hl (k := 0) rfl (nI_1 _) (by decide) rfl (fun ls hl => ?_)
    refine lv_goto (tgt := 3) hx hb d_M_take_33 (by decide) ?_
    exact ih u_2 H locs ls (by rw [← eu_2, hI]; exact congrArg (fun z => (u.1, z, u.2.2)) (wf_cpyS _ _ _ _ _)) hP hD hS (lv_sub hl [0, 1, 2, 3, 4] rfl)
  · have hP : va_P D vwCl (wM q κ x) H := hP
    have hD : va_D A (wM q κ x) := hD
    have hl : lv_has ls 5 [(4, .int (nI 128)), (0, .ref (q 0)), (1, .ref (q 4)), (2, .int (nI b)), (3, .int (nI rt))] := hl
    have hI : x = (u.1, va_cpy u.2.2.2.2.1 u.2.1 b (128 * rt) 128, u.2.2) := hI
    refine lv_iload hx hb d_M_take_3 (lv_at hl 0 rfl) ?_
    refine lv_sipush (v := 128) hx hb d_M_take_5 (by decide) ?_
    refine lv_icmp_ge (tgt := 36) hx hb d_M_take_8 (by decide) (fun c_3 => ?_) (fun c_3 => False.elim (by first | exact absurd (nI_le (Nat.le_refl 128) (by decide)) c_3 | exact absurd c_3 (nI_le (Nat.le_refl 128) (by decide))))
    exact wf_retv C hr hlocks x (hI) hP hK hD hS (fun _ h => h) d_M_take_36

set_option maxHeartbeats 4000000 in
set_option maxRecDepth 100000 in
theorem kM_takeRest {p : Program} {l : Launch} {e : Env} {R : Room} {s : State} {m : MethodId} {args : Array Value} {below : List Frame} {meth : Method} {c : Code} {H : Heap} {locs : List Loc} {cells slots : Nat} {Q : State → Prop} {cc : ByteArray} {pc nL : Nat} {ls : Array Slot} {rest : List Value} {D : va_G} {q : Nat → Nat} {κ : Nat → ClassId} {A : Nat → Prop} {u : SM} {b rt : Nat} (hb : b + 128 ≤ 130) (hrt : rt < 8) (C : CallFix p m c cc nL s args wG RM) (hsz : ls.size = nL) (hR : 1 ≤ R.frames ∧ 24 ≤ R.locals) (hw : (rest.map fun v => v.category).sum ≤ 8) (hc : cells + 0 ≤ R.cells ∧ slots + 0 ≤ R.slots) (hP : va_P D vwCl (wM q κ u) H) (hK : va_K D vwCl (tyM κ) s) (hD : va_D A (wM q κ u)) (hS : va_S A s.heap H locs) (hA : ∀ q, s.heap.size ≤ q → A q) (hdg : decode cc pc = .ok (.invokevirtual 47, 3)) (kk : ∀ (v : SM) (H1 : Heap) (locs1 : List Loc), v = (u.1, va_cpy u.2.2.2.2.1 u.2.1 b (128 * rt) 128, u.2.2) → va_P D vwCl (wM q κ v) H1 → va_D A (wM q κ v) → va_S A s.heap H1 locs1 → W p l e R s m args below meth c H1 locs1 (cells) (slots) Q (F0 m (pc + 3) ls (rest))) : W p l e R s m args below meth c H locs cells slots Q (F0 m pc ls (.int (nI rt) :: .int (nI b) :: .ref (q 4) :: .ref (q 0) :: rest)) := by
  exact wf_cv (va_runV (As := [.ref (q 4), .int (nI b), .int (nI rt)]) (rest := rest) C (c_M_takeRest l D q κ u b rt hb hrt H.size) (cwV 3 C.2.2.2.2 (wG_V (fun _ h => h) k_ml_M_47 k_im_M_take k_se_M_take k_in_M k_M_take) rfl rfl rfl (by decide +kernel) ⟨hR.1, hR.2⟩) ⟨wf_blind, va_recv hK hP (ci := 1) (q0 := 0) rfl rfl, wf_pre hP hK hD⟩ rfl rfl hsz rfl (lv_room hw) hdg ⟨hc.1, hc.2⟩) (fun _ h => h) hS hD hA kk
