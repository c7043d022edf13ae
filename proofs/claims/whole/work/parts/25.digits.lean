/-! ===== takeLowestDigit, partsAreZero, digits, digit ===== -/
def wf_TI (u : SX) (i : Nat) (x : SX × Int64) : Prop := x.1 = (u.1, u.2.1, x.1.2.2.1, u.2.2.2) ∧ wf_PB x.1.2.2.1 ∧ (∀ k, i ≤ k → k < 4 → x.1.2.2.1 k = u.2.2.1 k) ∧ uN x.2 < 10 ∧ wf_T u.2.2.1 i = 10 * wf_T x.1.2.2.1 i + uN x.2
theorem wf_TI_S {u w v : SX} {lf now lf' : Int64} {i : Nat} (hi : i < 4) (h : wf_TI u i (w, lf)) (e1 : now = (lf <<< ((32 : Int32).toInt64 &&& 63)) ||| w.2.2.1 i) (e2 : (w.1, w.2.1, va_up w.2.2.1 i (now / 10), w.2.2.2) = v) (e3 : lf' = now - now / 10 * 10) : wf_TI u (i + 1) (v, lf') := by
  obtain ⟨i1, i2, i3, i4, i5⟩ := h
  have i1 : w = (u.1, u.2.1, w.2.2.1, u.2.2.2) := i1
  have i2 : wf_PB w.2.2.1 := i2
  have i3 : ∀ k, i ≤ k → k < 4 → w.2.2.1 k = u.2.2.1 k := i3
  have i4 : uN lf < 10 := i4
  have i5 : wf_T u.2.2.1 i = 10 * wf_T w.2.2.1 i + uN lf := i5
  have hb := i2 i hi
  have hn : uN now = uN lf * 4294967296 + uN (w.2.2.1 i) := by rw [e1]; exact wf_now i4 hb
  obtain ⟨d1, d2⟩ := wf_div10 (x := now) (by omega)
  subst e2 e3
  refine ⟨?_, fun k hk => ?_, fun k h1 h2 => ?_, ?_, ?_⟩
  · show (w.1, w.2.1, va_up w.2.2.1 i (now / 10), w.2.2.2) = (u.1, u.2.1, va_up w.2.2.1 i (now / 10), u.2.2.2)
    rw [i1]
  · show uN (va_up w.2.2.1 i (now / 10) k) < _
    by_cases hki : k = i
    · subst hki; rw [va_up_self, d1]; omega
    · rw [va_up_ne _ _ hki]; exact i2 k hk
  · show va_up w.2.2.1 i (now / 10) k = _
    rw [va_up_ne _ _ (show k ≠ i by omega)]
    exact i3 k (by omega) h2
  · show uN (now - now / 10 * 10) < 10
    rw [d2]; omega
  · show wf_T u.2.2.1 i * 4294967296 + uN (u.2.2.1 i) = 10 * wf_T (va_up w.2.2.1 i (now / 10)) (i + 1) + uN (now - now / 10 * 10)
    rw [wf_T_up, d1, d2, hn, ← i3 i (Nat.le_refl i) hi]
    exact wf_tl_step i5
theorem wf_TI_end {u w : SX} {lf : Int64} (h : wf_TI u 4 (w, lf)) : nI (uN lf % 4294967296) = nI (wf_T u.2.2.1 4 % 10) ∧ ∃ f : Nat → Int64, w = (u.1, u.2.1, f, u.2.2.2) ∧ wf_PB f ∧ wf_T f 4 = wf_T u.2.2.1 4 / 10 := by
  obtain ⟨i1, i2, i3, i4, i5⟩ := h
  have i4 : uN lf < 10 := i4
  have i5 : wf_T u.2.2.1 4 = 10 * wf_T w.2.2.1 4 + uN lf := i5
  refine ⟨by congr 1; omega, w.2.2.1, i1, i2, by omega⟩

set_option maxHeartbeats 4000000 in
set_option maxRecDepth 100000 in
/-- X_takeLowestDigit -/
theorem c_X_takeLowestDigit (l : Launch) (D : va_G) (q : Nat → Nat) (κ : Nat → ClassId) (u : SX) (hB : wf_PB u.2.2.1) (sz : Nat) : Met l y_X_takeLowestDigit (.code y_X_takeLowestDigit b_X_takeLowestDigit 6 (some .int) :: wG) (wf_rm 0 0 0 0) (wf_Pc D vwCl (wX q κ u) (tyX κ) ([.ref (q 0)]) sz) (va_Qi (fun r v => r = nI (wf_T u.2.2.1 4 % 10) ∧ ∃ f : Nat → Int64, v = (u.1, u.2.1, f, u.2.2.2) ∧ wf_PB f ∧ wf_T f 4 = wf_T u.2.2.1 4 / 10) (wf_B D vwCl (wX q κ) (tyX κ) (va_A (wX q κ u) sz)) (va_A (wX q κ u) sz)) 0 0 (va_A (wX q κ u) sz) := by
  refine wf_open (by decide) (Nat.le_of_ble_eq_true rfl) k_X_takeLowestDigit ?_
  intro p e s m below meth c ls hsz C hr hlocks hnm hex hP hK hD hl
  subst hsz
  have hx := C.1
  have hb := C.2.1
  have hml := C.2.2.1
  have hown := C.2.2.2.1
  have hts := C.2.2.2.2
  have hA : ∀ j : Nat, s.heap.size ≤ j → va_A (wX q κ u) s.heap.size j := fun j h => Or.inr h
  have hS : va_S (va_A (wX q κ u) s.heap.size) s.heap s.heap [] := va_S.rf
  generalize hAe : va_A (wX q κ u) s.heap.size = A at hA hS hD ⊢
  have hl : lv_has ls 6 [(0, .ref (q 0))] := hl
  refine lv_lconst (v := 0) hx hb d_X_takeLowestDigit_0 (by decide) ?_
  refine lv_lstore_n (lv' := [(1, .long (0)), (0, .ref (q 0))]) hx hb d_X_takeLowestDigit_1 rfl hl (by decide) rfl (fun ls hl => ?_)
  refine lv_iconst (v := 0) hx hb d_X_takeLowestDigit_2 (by decide) ?_
  refine lv_istore_n (lv' := [(3, .int (0)), (1, .long (0)), (0, .ref (q 0))]) hx hb d_X_takeLowestDigit_3 rfl hl (by decide) rfl (fun ls hl => ?_)
  refine wf_forH (σ := SX × Int64) 4 (fun i x => wf_TI u i x) (fun x => wX q κ x.1) (fun i x => [(3, .int (nI i)), (1, .long (x.2)), (0, .ref (q 0))]) (fun i x H locs ls hi hI hP hD hS hl ih => ?_) (fun x H locs ls hI hP hD hS hl => ?_) (u, 0) (⟨rfl, hB, fun _ _ _ => rfl, (show uN (0 : Int64) < 10 by decide), rfl⟩) hP hD hS (lv_sub hl [0, 1, 2] rfl)
  · obtain ⟨w0, lf⟩ := x
    have hP : va_P D vwCl (wX q κ w0) H := hP
    have hD : va_D A (wX q κ w0) := hD
    have hl : lv_has ls 6 [(3, .int (nI i)), (1, .long (lf)), (0, .ref (q 0))] := hl
    have hI : wf_TI u i (w0, lf) := hI
    refine lv_iload_n hx hb d_X_takeLowestDigit_4 rfl (lv_at hl 0 rfl) ?_
    refine lv_iconst (v := 4) hx hb d_X_takeLowestDigit_5 (by decide) ?_
    refine lv_icmp_ge (tgt := 47) hx hb d_X_takeLowestDigit_6 (by decide) (fun c_1 => False.elim (by first | exact absurd c_1 (nI_ge hi (by decide)) | exact absurd (nI_ge hi (by decide)) c_1)) (fun c_1 => ?_)
    refine lv_lload_n hx hb d_X_takeLowestDigit_9 rfl (lv_at hl 1 rfl) ?_
    refine lv_bipush (v := 32) hx hb d_X_takeLowestDigit_10 (by decide) ?_
    refine lv_lshl hx hb d_X_takeLowestDigit_12 rfl ?_
    refine lv_aload_n hx hb d_X_takeLowestDigit_13 rfl (lv_at hl 2 rfl) ?_
    refine gX C hK hP 0 rfl 2 (by decide) k_fl_X_parts rfl d_X_takeLowestDigit_14 ?_
    refine lv_iload_n hx hb d_X_takeLowestDigit_17 rfl (lv_at hl 0 rfl) ?_
    refine wf_lald C hK hP 3 2 rfl rfl (k := i) rfl hi (by decide) d_X_takeLowestDigit_18 ?_
    refine lv_lor hx hb d_X_takeLowestDigit_19 ?_
    refine lv_topl (fun v_2 ev_2 => ?_)
    refine lv_lstore (lv' := [(4, .long (v_2)), (3, .int (nI i)), (1, .long (lf)), (0, .ref (q 0))]) hx hb d_X_takeLowestDigit_20 hl (by decide) rfl (fun ls hl => ?_)
    refine lv_aload_n hx hb d_X_takeLowestDigit_22 rfl (lv_at hl 3 rfl) ?_
    refine gX C hK hP 0 rfl 2 (by decide) k_fl_X_parts rfl d_X_takeLowestDigit_23 ?_
    refine lv_iload_n hx hb d_X_takeLowestDigit_26 rfl (lv_at hl 1 rfl) ?_
    refine lv_lload hx hb d_X_takeLowestDigit_27 (lv_at hl 0 rfl) ?_
    refine lv_ldc2 (v := 10) hx hb hown (hts _ (k_cl_X_93)) d_X_takeLowestDigit_29 ?_
    refine lv_ldiv hx hb d_X_takeLowestDigit_32 (by decide) ?_
    refine wf_last C hK hP hD hS 3 2 rfl rfl (k := i) rfl hi (by decide) d_X_takeLowestDigit_33 (fun H locs hP hD hS => ?_)
    have hP : va_P D vwCl (wX q κ (w0.1, w0.2.1, va_up w0.2.2.1 i (v_2 / 10), w0.2.2.2)) H := hP
    have hD : va_D A (wX q κ (w0.1, w0.2.1, va_up w0.2.2.1 i (v_2 / 10), w0.2.2.2)) := hD
    generalize eu_3 : ((w0.1, w0.2.1, va_up w0.2.2.1 i (v_2 / 10), w0.2.2.2) : SX) = u_3 at hP hD
    refine lv_lload hx hb d_X_takeLowestDigit_34 (lv_at hl 0 rfl) ?_
    refine lv_ldc2 (v := 10) hx hb hown (hts _ (k_cl_X_93)) d_X_takeLowestDigit_36 ?_
    refine lv_lrem hx hb d_X_takeLowestDigit_39 (by decide) ?_
    refine lv_topl (fun v_4 ev_4 => ?_)
    refine lv_lstore_n (lv' := [(1, .long (v_4)), (4, .long (v_2)), (3, .int (nI i)), (0, .ref (q 0))]) hx hb d_X_takeLowestDigit_40 rfl hl (by decide) rfl (fun ls hl => ?_)
    refine lv_iinc (v := nI (i + 1)) (lv' := [(3, .int (nI (i + 1))), (1, .long (v_4)), (4, .long (v_2)), (0, .ref (q 0))]) hx hb d_X_takeLowestDigit_41 hl (k := 2) rfl (nI_1 _) (by decide) rfl (fun ls hl => ?_)
    refine lv_goto (tgt := 4) hx hb d_X_takeLowestDigit_44 (by decide) ?_
    exact ih (u_3, v_4) H locs ls (wf_TI_S hi hI ev_2 eu_3 ev_4) hP hD hS (lv_sub hl [0, 1, 3] rfl)
  · obtain ⟨w0, lf⟩ := x
    have hP : va_P D vwCl (wX q κ w0) H := hP
    have hD : va_D A (wX q κ w0) := hD
    have hl : lv_has ls 6 [(3, .int (nI 4)), (1, .long (lf)), (0, .ref (q 0))] := hl
    have hI : wf_TI u 4 (w0, lf) := hI
    refine lv_iload_n hx hb d_X_takeLowestDigit_4 rfl (lv_at hl 0 rfl) ?_
    refine lv_iconst (v := 4) hx hb d_X_takeLowestDigit_5 (by decide) ?_
    refine lv_icmp_ge (tgt := 47) hx hb d_X_takeLowestDigit_6 (by decide) (fun c_5 => ?_) (fun c_5 => False.elim (by first | exact absurd (nI_le (Nat.le_refl 4) (by decide)) c_5 | exact absurd c_5 (nI_le (Nat.le_refl 4) (by decide))))
    refine lv_lload_n hx hb d_X_takeLowestDigit_47 rfl (lv_at hl 1 rfl) ?_
    refine lv_l2i hx hb d_X_takeLowestDigit_48 (wf_l2i _) ?_
    exact wf_reti C hr hlocks w0 (wf_TI_end hI) hP hK hD hS (fun _ h => h) d_X_takeLowestDigit_49

set_option maxHeartbeats 4000000 in
set_option maxRecDepth 100000 in
theorem kX_take {p : Program} {l : Launch} {e : Env} {R : Room} {s : State} {m : MethodId} {args : Array Value} {below : List Frame} {meth : Method} {c : Code} {H : Heap} {locs : List Loc} {cells slots : Nat} {Q : State → Prop} {cc : ByteArray} {pc nL : Nat} {ls : Array Slot} {rest : List Value} {D : va_G} {q : Nat → Nat} {κ : Nat → ClassId} {A : Nat → Prop} {u : SX} (hB : wf_PB u.2.2.1) (C : CallFix p m c cc nL s args wG RX) (hsz : ls.size = nL) (hR : 1 ≤ R.frames ∧ 25 ≤ R.locals) (hw : (rest.map fun v => v.category).sum ≤ 8) (hc : cells + 0 ≤ R.cells ∧ slots + 0 ≤ R.slots) (hP : va_P D vwCl (wX q κ u) H) (hK : va_K D vwCl (tyX κ) s) (hD : va_D A (wX q κ u)) (hS : va_S A s.heap H locs) (hA : ∀ q, s.heap.size ≤ q → A q) (hdg : decode cc pc = .ok (.invokevirtual 85, 3)) (kk : ∀ (r : Int32) (v : SX) (H1 : Heap) (locs1 : List Loc), (r = nI (wf_T u.2.2.1 4 % 10) ∧ ∃ f : Nat → Int64, v = (u.1, u.2.1, f, u.2.2.2) ∧ wf_PB f ∧ wf_T f 4 = wf_T u.2.2.1 4 / 10) → va_P D vwCl (wX q κ v) H1 → va_D A (wX q κ v) → va_S A s.heap H1 locs1 → W p l e R s m args below meth c H1 locs1 (cells) (slots) Q (F0 m (pc + 3) ls (.int r :: rest))) : W p l e R s m args below meth c H locs cells slots Q (F0 m pc ls (.ref (q 0) :: rest)) := by
  exact wf_ci (va_runV (As := []) (rest := rest) C (c_X_takeLowestDigit l D q κ u hB H.size) (cwV 0 C.2.2.2.2 (wG_V (fun _ h => h) k_ml_X_85 k_im_X_takeLowestDigit k_se_X_takeLowestDigit k_in_X k_X_takeLowestDigit) rfl rfl rfl (by decide +kernel) ⟨hR.1, hR.2⟩) ⟨wf_blind, va_recv hK hP (ci := 0) (q0 := 0) rfl rfl, wf_pre hP hK hD⟩ rfl rfl hsz rfl (lv_room hw) hdg ⟨hc.1, hc.2⟩) (fun _ h => h) hS hD hA kk

set_option maxHeartbeats 4000000 in
set_option maxRecDepth 100000 in
/-- X_partsAreZero -/
theorem c_X_partsAreZero (l : Launch) (D : va_G) (q : Nat → Nat) (κ : Nat → ClassId) (u : SX)  (sz : Nat) : Met l y_X_partsAreZero (.code y_X_partsAreZero b_X_partsAreZero 1 (some .boolean) :: wG) (wf_rm 0 0 0 0) (wf_Pc D vwCl (wX q κ u) (tyX κ) ([.ref (q 0)]) sz) (vp_Si (fun r => r = wf_bi (decide (wf_T u.2.2.1 4 = 0)))) 0 0 (fun _ => False) := by
  refine wf_open (by decide) (Nat.le_of_ble_eq_true rfl) k_X_partsAreZero ?_
  intro p e s m below meth c ls hsz C hr hlocks hnm hex hP hK hD hl
  subst hsz
  have hx := C.1
  have hb := C.2.1
  have hml := C.2.2.1
  have hown := C.2.2.2.1
  have hts := C.2.2.2.2
  have hA : ∀ j : Nat, s.heap.size ≤ j → va_A (wX q κ u) s.heap.size j := fun j h => Or.inr h
  have hS : va_S (va_A (wX q κ u) s.heap.size) s.heap s.heap [] := va_S.rf
  generalize hAe : va_A (wX q κ u) s.heap.size = A at hA hS hD ⊢
  have hl : lv_has ls 1 [(0, .ref (q 0))] := hl
  refine lv_aload_n hx hb d_X_partsAreZero_0 rfl (lv_at hl 0 rfl) ?_
  refine gX C hK hP 0 rfl 2 (by decide) k_fl_X_parts rfl d_X_partsAreZero_1 ?_
  refine lv_iconst (v := 0) hx hb d_X_partsAreZero_4 (by decide) ?_
  refine wf_lald C hK hP 3 2 rfl rfl (k := 0) rfl (by decide) (by decide) d_X_partsAreZero_5 ?_
  refine lv_aload_n hx hb d_X_partsAreZero_6 rfl (lv_at hl 0 rfl) ?_
  refine gX C hK hP 0 rfl 2 (by decide) k_fl_X_parts rfl d_X_partsAreZero_7 ?_
  refine lv_iconst (v := 1) hx hb d_X_partsAreZero_10 (by decide) ?_
  refine wf_lald C hK hP 3 2 rfl rfl (k := 1) rfl (by decide) (by decide) d_X_partsAreZero_11 ?_
  refine lv_lor hx hb d_X_partsAreZero_12 ?_
  refine lv_aload_n hx hb d_X_partsAreZero_13 rfl (lv_at hl 0 rfl) ?_
  refine gX C hK hP 0 rfl 2 (by decide) k_fl_X_parts rfl d_X_partsAreZero_14 ?_
  refine lv_iconst (v := 2) hx hb d_X_partsAreZero_17 (by decide) ?_
  refine wf_lald C hK hP 3 2 rfl rfl (k := 2) rfl (by decide) (by decide) d_X_partsAreZero_18 ?_
  refine lv_lor hx hb d_X_partsAreZero_19 ?_
  refine lv_aload_n hx hb d_X_partsAreZero_20 rfl (lv_at hl 0 rfl) ?_
  refine gX C hK hP 0 rfl 2 (by decide) k_fl_X_parts rfl d_X_partsAreZero_21 ?_
  refine lv_iconst (v := 3) hx hb d_X_partsAreZero_24 (by decide) ?_
  refine wf_lald C hK hP 3 2 rfl rfl (k := 3) rfl (by decide) (by decide) d_X_partsAreZero_25 ?_
  refine lv_lor hx hb d_X_partsAreZero_26 ?_
  refine lv_lconst (v := 0) hx hb d_X_partsAreZero_27 (by decide) ?_
  refine W.lcmp hx hb d_X_partsAreZero_28 ?_
  refine lv_if_ne (tgt := 36) hx hb d_X_partsAreZero_29 (by decide) (fun c_1 => ?_) (fun c_1 => ?_)
  · refine lv_iconst (v := 0) hx hb d_X_partsAreZero_36 (by decide) ?_
    exact W.zret hx hb hr (rfl) (fun t ht hW => ⟨_, rfl, by rw [decide_eq_false (by rw [wf_T4]; exact fun h => c_1 ((wf_or4 _ _ _ _).mpr h))]; rfl, ht⟩) (fun q h => by cases h) d_X_partsAreZero_37 hlocks
  · refine lv_iconst (v := 1) hx hb d_X_partsAreZero_32 (by decide) ?_
    refine lv_goto (tgt := 37) hx hb d_X_partsAreZero_33 (by decide) ?_
    exact W.zret hx hb hr (rfl) (fun t ht hW => ⟨_, rfl, by rw [decide_eq_true (by rw [wf_T4]; exact (wf_or4 _ _ _ _).mp c_1)]; rfl, ht⟩) (fun q h => by cases h) d_X_partsAreZero_37 hlocks

set_option maxHeartbeats 4000000 in
set_option maxRecDepth 100000 in
theorem kX_pz {p : Program} {l : Launch} {e : Env} {R : Room} {s : State} {m : MethodId} {args : Array Value} {below : List Frame} {meth : Method} {c : Code} {H : Heap} {locs : List Loc} {cells slots : Nat} {Q : State → Prop} {cc : ByteArray} {pc nL : Nat} {ls : Array Slot} {rest : List Value} {D : va_G} {q : Nat → Nat} {κ : Nat → ClassId} {A : Nat → Prop} {u : SX}  (C : CallFix p m c cc nL s args wG RX) (hsz : ls.size = nL) (hR : 1 ≤ R.frames ∧ 20 ≤ R.locals) (hw : (rest.map fun v => v.category).sum ≤ 8) (hc : cells ≤ R.cells ∧ slots ≤ R.slots) (hP : va_P D vwCl (wX q κ u) H) (hK : va_K D vwCl (tyX κ) s) (hD : va_D A (wX q κ u)) (hdg : decode cc pc = .ok (.invokevirtual 89, 3)) (kk : ∀ r : Int32, r = wf_bi (decide (wf_T u.2.2.1 4 = 0)) → W p l e R s m args below meth c H locs cells slots Q (F0 m (pc + 3) ls (.int r :: rest))) : W p l e R s m args below meth c H locs cells slots Q (F0 m pc ls (.ref (q 0) :: rest)) := by
  exact vp_callSi (W.runV (As := []) (rest := rest) C (c_X_partsAreZero l D q κ u H.size) (cwV 0 C.2.2.2.2 (wG_V (fun _ h => h) k_ml_X_89 k_im_X_partsAreZero k_se_X_partsAreZero k_in_X k_X_partsAreZero) rfl rfl rfl (by decide +kernel) ⟨hR.1, hR.2⟩) ⟨wf_blind, va_recv hK hP (ci := 0) (q0 := 0) rfl rfl, wf_pre hP hK hD⟩ rfl rfl hsz rfl (lv_room hw) hdg ⟨hc.1, hc.2⟩) kk

/-- behind c digits written -/
def wf_GI (u : SX) (n : Nat) (x : SX × Nat) : Prop := x.2 ≤ 38 ∧ (x.2 = 0 ∨ n / 10 ^ x.2 ≠ 0) ∧ x.1.1 = u.1 ∧ x.1.2.1 = u.2.1 ∧ wf_PB x.1.2.2.1 ∧ wf_T x.1.2.2.1 4 = n / 10 ^ x.2 ∧ ∀ i, i < x.2 → x.1.2.2.2.1 (39 - x.2 + i) = nI (n / 10 ^ (x.2 - 1 - i) % 10)
/-- the digits of n in the row from its end -/
def wf_GE (u v : SX) (n c : Nat) : Prop := 1 ≤ c ∧ c ≤ 39 ∧ v.1 = u.1 ∧ v.2.1 = u.2.1 ∧ wf_PB v.2.2.1 ∧ wf_T v.2.2.1 4 = n / 10 ^ c ∧ (c = 1 ∨ 10 ^ (c - 1) ≤ n) ∧ ∀ i, i < c → v.2.2.2.1 (39 - c + i) = nI (n / 10 ^ (c - 1 - i) % 10)
theorem wf_GI_S {u w v z : SX} {n c : Nat} {f : Nat → Int64} (h : wf_GI u n (w, c)) (e1 : v = (w.1, w.2.1, f, w.2.2.2)) (hf : wf_PB f) (hT : wf_T f 4 = wf_T w.2.2.1 4 / 10) (e2 : (v.1, v.2.1, v.2.2.1, va_up v.2.2.2.1 (39 - c - 1) (nI (wf_T w.2.2.1 4 % 10)), v.2.2.2.2) = z) : wf_GE u z n (c + 1) := by
  obtain ⟨i1, i2, i3, i4, i5, i6, i7⟩ := h
  have i1 : c ≤ 38 := i1
  have i2 : c = 0 ∨ n / 10 ^ c ≠ 0 := i2
  have i3 : w.1 = u.1 := i3
  have i4 : w.2.1 = u.2.1 := i4
  have i6 : wf_T w.2.2.1 4 = n / 10 ^ c := i6
  have i7 : ∀ i, i < c → w.2.2.2.1 (39 - c + i) = nI (n / 10 ^ (c - 1 - i) % 10) := i7
  subst e1 e2
  refine ⟨by omega, by omega, i3, i4, hf, ?_, ?_, fun i hi => ?_⟩
  · show wf_T f 4 = _
    rw [hT, i6, Nat.div_div_eq_div_mul, ← Nat.pow_succ]
  · rcases i2 with h | h
    · left; omega
    · right
      rw [Nat.add_sub_cancel]
      rcases Nat.lt_or_ge n (10 ^ c) with h1 | h1
      · exact absurd (Nat.div_eq_of_lt h1) h
      · exact h1
  · show va_up w.2.2.2.1 (39 - c - 1) (nI (wf_T w.2.2.1 4 % 10)) (39 - (c + 1) + i) = _
    rcases Nat.eq_zero_or_pos i with h0 | h0
    · subst h0
      rw [show 39 - (c + 1) + 0 = 39 - c - 1 by omega, va_up_self, i6, show c + 1 - 1 - 0 = c by omega]
    · rw [va_up_ne _ _ (by omega), show 39 - (c + 1) + i = 39 - c + (i - 1) by omega, i7 (i - 1) (by omega), show c - 1 - (i - 1) = c + 1 - 1 - i by omega]
theorem wf_GE_I {u v : SX} {n c : Nat} (h : wf_GE u v n c) (hc : c ≤ 38) (h0 : n / 10 ^ c ≠ 0) : wf_GI u n (v, c) := ⟨hc, Or.inr h0, h.2.2.1, h.2.2.2.1, h.2.2.2.2.1, h.2.2.2.2.2.1, h.2.2.2.2.2.2.2⟩
theorem wf_GE_D {u v : SX} {n c : Nat} (hn : n < wf_NN) (h : wf_GE u v n c) (he : c = 39 ∨ n / 10 ^ c = 0) : wf_DG n c (fun i => n / 10 ^ (c - 1 - i) % 10) := by
  refine ⟨h.1, ?_, h.2.2.2.2.2.2.1, fun i _ => rfl⟩
  rcases he with h | h
  · subst h
    exact Nat.lt_of_lt_of_le hn (by decide +kernel)
  · rcases Nat.lt_or_ge n (10 ^ c) with h1 | h1
    · exact h1
    · exact absurd h (Nat.ne_of_gt (Nat.div_pos h1 (Nat.pow_pos (by decide))))

set_option maxHeartbeats 4000000 in
set_option maxRecDepth 100000 in
/-- X_digits -/
theorem c_X_digits (l : Launch) (D : va_G) (q : Nat → Nat) (κ : Nat → ClassId) (u : SX) (k : Nat) (hk : k < 8) (sz : Nat) : Met l y_X_digits (.code y_X_digits b_X_digits 3 (some .int) :: wG) (wf_rm 4 150 0 0) (wf_Pc D vwCl (wX q κ u) (tyX κ) ([.ref (q 0), .int (nI k)]) sz) (va_Qi (fun r v => ∃ (c : Nat) (G : Nat → Nat), r = nI c ∧ c ≤ 39 ∧ wf_DG (wf_Rx u k) c G ∧ v.1 = u.1 ∧ v.2.1 = u.2.1 ∧ v.2.2.2.2 = nI (39 - c) ∧ ∀ i, i < c → v.2.2.2.1 (39 - c + i) = nI (G i)) (wf_B D vwCl (wX q κ) (tyX κ) (va_A (wX q κ u) sz)) (va_A (wX q κ u) sz)) 0 0 (va_A (wX q κ u) sz) := by
  refine wf_open (by decide) (Nat.le_of_ble_eq_true rfl) k_X_digits ?_
  intro p e s m below meth c ls hsz C hr hlocks hnm hex hP hK hD hl
  subst hsz
  have hx := C.1
  have hb := C.2.1
  have hml := C.2.2.1
  have hown := C.2.2.2.1
  have hts := C.2.2.2.2
  have hA : ∀ j : Nat, s.heap.size ≤ j → va_A (wX q κ u) s.heap.size j := fun j h => Or.inr h
  have hS : va_S (va_A (wX q κ u) s.heap.size) s.heap s.heap [] := va_S.rf
  generalize hAe : va_A (wX q κ u) s.heap.size = A at hA hS hD ⊢
  have hl : lv_has ls 3 [(0, .ref (q 0)), (1, .int (nI k))] := hl
  refine lv_iload_n hx hb d_X_digits_0 rfl (lv_at hl 1 rfl) ?_
  refine kX_chk (r := k) hk C hl.1 ⟨Nat.le_of_ble_eq_true rfl, Nat.le_of_ble_eq_true rfl⟩ (Nat.le_of_ble_eq_true rfl) ⟨Nat.le_of_ble_eq_true rfl, Nat.le_of_ble_eq_true rfl⟩ d_X_digits_1 ?_
  refine lv_aload_n hx hb d_X_digits_4 rfl (lv_at hl 0 rfl) ?_
  refine lv_aload_n hx hb d_X_digits_5 rfl (lv_at hl 0 rfl) ?_
  refine gX C hK hP 0 rfl 0 (by decide) k_fl_X_highs rfl d_X_digits_6 ?_
  refine lv_iload_n hx hb d_X_digits_9 rfl (lv_at hl 1 rfl) ?_
  refine wf_lald C hK hP 1 0 rfl rfl (k := k) rfl hk (by decide) d_X_digits_10 ?_
  refine lv_aload_n hx hb d_X_digits_11 rfl (lv_at hl 0 rfl) ?_
  refine gX C hK hP 0 rfl 1 (by decide) k_fl_X_lows rfl d_X_digits_12 ?_
  refine lv_iload_n hx hb d_X_digits_15 rfl (lv_at hl 1 rfl) ?_
  refine wf_lald C hK hP 2 1 rfl rfl (k := k) rfl hk (by decide) d_X_digits_16 ?_
  refine kX_split C hl.1 ⟨Nat.le_of_ble_eq_true rfl, Nat.le_of_ble_eq_true rfl⟩ (Nat.le_of_ble_eq_true rfl) ⟨Nat.le_of_ble_eq_true rfl, Nat.le_of_ble_eq_true rfl⟩ hP hK hD hS hA d_X_digits_17 (fun u_1 H locs eu_1 hP hD hS => ?_)
  obtain ⟨f0, e0, hf0, hT0⟩ := eu_1
  refine lv_bipush (v := 39) hx hb d_X_digits_20 (by decide) ?_
  refine lv_istore_n (lv' := [(2, .int (39)), (0, .ref (q 0)), (1, .int (nI k))]) hx hb d_X_digits_22 rfl hl (by decide) rfl (fun ls hl => ?_)
  refine wf_whileH (σ := SX × Nat) (fun x => wf_GI u (wf_Rx u k) x) (fun x => 39 - x.2) (fun x => wX q κ x.1) (fun x => [(2, .int (nI (39 - x.2))), (0, .ref (q 0)), (1, .int (nI k))]) (fun x H locs ls hI hP hD hS hl ih => ?_) (u_1, 0) ?_ hP hD hS (lv_sub hl [0, 1, 2] rfl)
  · obtain ⟨w0, c⟩ := x
    have hI : wf_GI u (wf_Rx u k) (w0, c) := hI
    have hc38 : c ≤ 38 := hI.1
    have hP : va_P D vwCl (wX q κ w0) H := hP
    have hD : va_D A (wX q κ w0) := hD
    have hl : lv_has ls 3 [(2, .int (nI (39 - c))), (0, .ref (q 0)), (1, .int (nI k))] := hl
    refine lv_iinc (v := nI (39 - c - 1)) (lv' := [(2, .int (nI (39 - c - 1))), (0, .ref (q 0)), (1, .int (nI k))]) hx hb d_X_digits_23 hl (k := 0) rfl (wf_dec (k := 1) (by decide) (by omega)) (by decide) rfl (fun ls hl => ?_)
    refine lv_aload_n hx hb d_X_digits_26 rfl (lv_at hl 1 rfl) ?_
    refine gX C hK hP 0 rfl 3 (by decide) k_fl_X_digitRow rfl d_X_digits_27 ?_
    refine lv_iload_n hx hb d_X_digits_30 rfl (lv_at hl 0 rfl) ?_
    refine lv_aload_n hx hb d_X_digits_31 rfl (lv_at hl 1 rfl) ?_
    refine kX_take hI.2.2.2.2.1 C hl.1 ⟨Nat.le_of_ble_eq_true rfl, Nat.le_of_ble_eq_true rfl⟩ (Nat.le_of_ble_eq_true rfl) ⟨Nat.le_of_ble_eq_true rfl, Nat.le_of_ble_eq_true rfl⟩ hP hK hD hS hA d_X_digits_32 (fun ru_2 u_2 H locs eu_2 hP hD hS => ?_)
    obtain ⟨er, f1, e1, hf1, hT1⟩ := eu_2
    subst er
    refine wf_iast C hK hP hD hS 4 3 rfl rfl (k := (39 - c - 1)) rfl (by omega) (by decide) d_X_digits_35 (fun H locs hP hD hS => ?_)
    have hP : va_P D vwCl (wX q κ (u_2.1, u_2.2.1, u_2.2.2.1, va_up u_2.2.2.2.1 (39 - c - 1) (nI (wf_T w0.2.2.1 4 % 10)), u_2.2.2.2.2)) H := hP
    have hD : va_D A (wX q κ (u_2.1, u_2.2.1, u_2.2.2.1, va_up u_2.2.2.2.1 (39 - c - 1) (nI (wf_T w0.2.2.1 4 % 10)), u_2.2.2.2.2)) := hD
    generalize eu_3 : ((u_2.1, u_2.2.1, u_2.2.2.1, va_up u_2.2.2.2.1 (39 - c - 1) (nI (wf_T w0.2.2.1 4 % 10)), u_2.2.2.2.2) : SX) = u_3 at hP hD
    have hE := wf_GI_S hI e1 hf1 hT1 eu_3
    refine lv_iload_n hx hb d_X_digits_36 rfl (lv_at hl 0 rfl) ?_
    refine lv_if_le (tgt := 47) hx hb d_X_digits_37 (by decide) (fun c1 => ?_) (fun c1 => ?_)
    · have he : c + 1 = 39 ∨ wf_Rx u k / 10 ^ (c + 1) = 0 := Or.inl (by have := (nI_leI (a := 39 - c - 1) (b := 0) (by omega) (by decide)).mp c1; omega)
      refine lv_aload_n hx hb d_X_digits_47 rfl (lv_at hl 1 rfl) ?_
      refine lv_iload_n hx hb d_X_digits_48 rfl (lv_at hl 0 rfl) ?_
      refine pX_first C hK hP hD hS 0 rfl (Nat.le_of_ble_eq_true rfl) d_X_digits_49 (fun H locs hP hD hS => ?_)
      have hP : va_P D vwCl (wX q κ (u_3.1, u_3.2.1, u_3.2.2.1, u_3.2.2.2.1, nI (39 - c - 1))) H := hP
      have hD : va_D A (wX q κ (u_3.1, u_3.2.1, u_3.2.2.1, u_3.2.2.2.1, nI (39 - c - 1))) := hD
      generalize eu_4 : ((u_3.1, u_3.2.1, u_3.2.2.1, u_3.2.2.2.1, nI (39 - c - 1)) : SX) = u_4 at hP hD
      refine lv_bipush (v := 39) hx hb d_X_digits_52 (by decide) ?_
      refine lv_iload_n hx hb d_X_digits_54 rfl (lv_at hl 0 rfl) ?_
      refine lv_isub hx hb d_X_digits_55 ?_
      have hG := wf_GE_D (wf_Rx_lt u k) hE he
      exact wf_reti C hr hlocks u_4 (⟨c + 1, _, (pk_sub (a := 39) (by omega)).trans (congrArg nI (by omega)), hE.2.1, hG, by rw [← eu_4]; exact hE.2.2.1, by rw [← eu_4]; exact hE.2.2.2.1, by rw [← eu_4]; exact congrArg nI (by omega), by rw [← eu_4]; exact hE.2.2.2.2.2.2.2⟩) hP hK hD hS (fun _ h => h) d_X_digits_56
    · refine lv_aload_n hx hb d_X_digits_40 rfl (lv_at hl 1 rfl) ?_
      refine kX_pz  C hl.1 ⟨Nat.le_of_ble_eq_true rfl, Nat.le_of_ble_eq_true rfl⟩ (Nat.le_of_ble_eq_true rfl) ⟨Nat.le_of_ble_eq_true rfl, Nat.le_of_ble_eq_true rfl⟩ hP hK hD d_X_digits_41 (fun r_5 hr_5 => ?_)
      refine lv_if_eq (tgt := 23) hx hb d_X_digits_44 (by decide) (fun c2 => ?_) (fun c2 => ?_)
      · refine ih (u_3, c + 1) H locs ls (wf_GE_I hE ?_ ?_) (show 39 - (c + 1) < 39 - c by omega) hP hD hS (lv_sub hl [0, 1, 2] rfl)
        · have : ¬ (39 - c - 1 ≤ 0) := fun h => c1 ((nI_leI (by omega) (by decide)).mpr h)
          omega
        · rw [hr_5, wf_bi0, decide_eq_false_iff_not, hE.2.2.2.2.2.1] at c2
          exact c2
      · have he : c + 1 = 39 ∨ wf_Rx u k / 10 ^ (c + 1) = 0 := Or.inr (by rw [hr_5, wf_bi1, decide_eq_true_iff, hE.2.2.2.2.2.1] at c2; exact c2)
        refine lv_aload_n hx hb d_X_digits_47 rfl (lv_at hl 1 rfl) ?_
        refine lv_iload_n hx hb d_X_digits_48 rfl (lv_at hl 0 rfl) ?_
        refine pX_first C hK hP hD hS 0 rfl (Nat.le_of_ble_eq_true rfl) d_X_digits_49 (fun H locs hP hD hS => ?_)
        have hP : va_P D vwCl (wX q κ (u_3.1, u_3.2.1, u_3.2.2.1, u_3.2.2.2.1, nI (39 - c - 1))) H := hP
        have hD : va_D A (wX q κ (u_3.1, u_3.2.1, u_3.2.2.1, u_3.2.2.2.1, nI (39 - c - 1))) := hD
        generalize eu_6 : ((u_3.1, u_3.2.1, u_3.2.2.1, u_3.2.2.2.1, nI (39 - c - 1)) : SX) = u_6 at hP hD
        refine lv_bipush (v := 39) hx hb d_X_digits_52 (by decide) ?_
        refine lv_iload_n hx hb d_X_digits_54 rfl (lv_at hl 0 rfl) ?_
        refine lv_isub hx hb d_X_digits_55 ?_
        have hG := wf_GE_D (wf_Rx_lt u k) hE he
        exact wf_reti C hr hlocks u_6 (⟨c + 1, _, (pk_sub (a := 39) (by omega)).trans (congrArg nI (by omega)), hE.2.1, hG, by rw [← eu_6]; exact hE.2.2.1, by rw [← eu_6]; exact hE.2.2.2.1, by rw [← eu_6]; exact congrArg nI (by omega), by rw [← eu_6]; exact hE.2.2.2.2.2.2.2⟩) hP hK hD hS (fun _ h => h) d_X_digits_56
  · subst e0
    exact ⟨by show (0 : Nat) ≤ 38; omega, Or.inl rfl, rfl, rfl, hf0, by show wf_T f0 4 = _ / 10 ^ 0; rw [hT0, Nat.pow_zero, Nat.div_one]; rfl, fun i hi => absurd hi (Nat.not_lt_zero i)⟩
