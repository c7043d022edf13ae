/-! ===== the reference: clearRest, bring, lower, takeAway, join ===== -/

theorem wf_bi_inj {a b : Bool} (h : wf_bi a = wf_bi b) : a = b := by revert h; cases a <;> cases b <;> decide

theorem wf_cpyZ (g : Nat → Bool) (n : Nat) : va_up (va_cpy (fun _ => false) g 0 0 n) n false = va_cpy (fun _ => false) g 0 0 (n + 1) := by
  have h := wf_cpyS (fun _ => false) g 0 0 n
  rw [Nat.zero_add] at h
  exact h

set_option maxHeartbeats 4000000 in
set_option maxRecDepth 100000 in
/-- M_clearRest -/
theorem c_M_clearRest (l : Launch) (D : va_G) (q : Nat → Nat) (κ : Nat → ClassId) (u : SM)  (sz : Nat) : Met l y_M_clearRest (.code y_M_clearRest b_M_clearRest 2 none :: wG) (wf_rm 0 0 0 0) (wf_Pc D vwCl (wM q κ u) (tyM κ) ([.ref (q 0)]) sz) (va_Qv (fun v => v = (u.1, u.2.1, u.2.2.1, va_cpy (fun _ => false) u.2.2.2.1 0 0 128, va_cpy (fun _ => false) u.2.2.2.2.1 0 0 130, u.2.2.2.2.2)) (wf_B D vwCl (wM q κ) (tyM κ) (va_A (wM q κ u) sz)) (va_A (wM q κ u) sz)) 0 0 (va_A (wM q κ u) sz) := by
  refine wf_open (by decide) (Nat.le_of_ble_eq_true rfl) k_M_clearRest ?_
  intro p e s m below meth c ls hsz C hr hlocks hnm hex hP hK hD hl
  subst hsz
  have hx := C.1
  have hb := C.2.1
  have hml := C.2.2.1
  have hown := C.2.2.2.1
  have hts := C.2.2.2.2
  have hA : ∀ j : Nat, s.heap.size ≤ j → va_A (wM q κ u) s.heap.size j := fun j h => Or.inr h
  have hS : va_S (va_A (wM q κ u) s.heap.size) s.heap s.heap [] := va_S.rf
  generalize hAe : va_A (wM q κ u) s.heap.size = A at hA hS hD ⊢
  have hl : lv_has ls 2 [(0, .ref (q 0))] := hl
  refine lv_iconst (v := 0) hx hb d_M_clearRest_0 (by decide) ?_
  refine lv_istore_n (lv' := [(1, .int (0)), (0, .ref (q 0))]) hx hb d_M_clearRest_1 rfl hl (by decide) rfl (fun ls hl => ?_)
  refine wf_forH (σ := SM) 130 (fun i x => x = (u.1, u.2.1, u.2.2.1, u.2.2.2.1, va_cpy (fun _ => false) u.2.2.2.2.1 0 0 i, u.2.2.2.2.2)) (fun x => wM q κ x) (fun i x => [(1, .int (nI i)), (0, .ref (q 0))]) (fun i x H locs ls hi hI hP hD hS hl ih => ?_) (fun x H locs ls hI hP hD hS hl => ?_) u (by rw [wf_cpy0]) hP hD hS (lv_sub hl [0, 1] rfl)
  · have hP : va_P D vwCl (wM q κ x) H := hP
    have hD : va_D A (wM q κ x) := hD
    have hl : lv_has ls 2 [(1, .int (nI i)), (0, .ref (q 0))] := hl
    have hI : x = (u.1, u.2.1, u.2.2.1, u.2.2.2.1, va_cpy (fun _ => false) u.2.2.2.2.1 0 0 i, u.2.2.2.2.2) := hI
    refine lv_iload_n hx hb d_M_clearRest_2 rfl (lv_at hl 0 rfl) ?_
    refine lv_sipush (v := 130) hx hb d_M_clearRest_3 (by decide) ?_
    refine lv_icmp_ge (tgt := 22) hx hb d_M_clearRest_6 (by decide) (fun c_1 => False.elim (by first | exact absurd c_1 (nI_ge hi (by decide)) | exact absurd (nI_ge hi (by decide)) c_1)) (fun c_1 => ?_)
    refine lv_aload_n hx hb d_M_clearRest_9 rfl (lv_at hl 1 rfl) ?_
    refine gM C hK hP 0 rfl 4 (by decide) k_fl_M_rest rfl d_M_clearRest_10 ?_
    refine lv_iload_n hx hb d_M_clearRest_13 rfl (lv_at hl 0 rfl) ?_
    refine lv_iconst (v := 0) hx hb d_M_clearRest_14 (by decide) ?_
    refine wf_zast C hK hP hD hS 4 3 rfl rfl (k := i) (b := false) rfl (by omega) (by decide) d_M_clearRest_15 (fun H locs hP hD hS => ?_)
    have hP : va_P D vwCl (wM q κ (x.1, x.2.1, x.2.2.1, x.2.2.2.1, va_up x.2.2.2.2.1 i false, x.2.2.2.2.2)) H := hP
    have hD : va_D A (wM q κ (x.1, x.2.1, x.2.2.1, x.2.2.2.1, va_up x.2.2.2.2.1 i false, x.2.2.2.2.2)) := hD
    generalize eu_2 : ((x.1, x.2.1, x.2.2.1, x.2.2.2.1, va_up x.2.2.2.2.1 i false, x.2.2.2.2.2) : SM) = u_2 at hP hD
    refine lv_iinc (v := nI (i + 1)) (lv' := [(1, .int (nI (i + 1))), (0, .ref (q 0))]) hx hb d_M_clearRest_16 hl (k := 0) rfl (nI_1 _) (by decide) rfl (fun ls hl => ?_)
    refine lv_goto (tgt := 2) hx hb d_M_clearRest_19 (by decide) ?_
    exact ih u_2 H locs ls (by rw [← eu_2, hI]; exact congrArg (fun z => (u.1, u.2.1, u.2.2.1, u.2.2.2.1, z, u.2.2.2.2.2)) (wf_cpyZ _ _)) hP hD hS (lv_sub hl [0, 1] rfl)
  · have hP : va_P D vwCl (wM q κ x) H := hP
    have hD : va_D A (wM q κ x) := hD
    have hl : lv_has ls 2 [(1, .int (nI 130)), (0, .ref (q 0))] := hl
    have hI : x = (u.1, u.2.1, u.2.2.1, u.2.2.2.1, va_cpy (fun _ => false) u.2.2.2.2.1 0 0 130, u.2.2.2.2.2) := hI
    refine lv_iload_n hx hb d_M_clearRest_2 rfl (lv_at hl 0 rfl) ?_
    refine lv_sipush (v := 130) hx hb d_M_clearRest_3 (by decide) ?_
    refine lv_icmp_ge (tgt := 22) hx hb d_M_clearRest_6 (by decide) (fun c_3 => ?_) (fun c_3 => False.elim (by first | exact absurd (nI_le (Nat.le_refl 130) (by decide)) c_3 | exact absurd c_3 (nI_le (Nat.le_refl 130) (by decide))))
    refine lv_iconst (v := 0) hx hb d_M_clearRest_22 (by decide) ?_
    refine lv_istore_n (lv' := [(1, .int (0)), (0, .ref (q 0))]) hx hb d_M_clearRest_23 rfl hl (by decide) rfl (fun ls hl => ?_)
    refine wf_forH (σ := SM) 128 (fun i x => x = (u.1, u.2.1, u.2.2.1, va_cpy (fun _ => false) u.2.2.2.1 0 0 i, va_cpy (fun _ => false) u.2.2.2.2.1 0 0 130, u.2.2.2.2.2)) (fun x => wM q κ x) (fun i x => [(1, .int (nI i)), (0, .ref (q 0))]) (fun i x H locs ls hi hI hP hD hS hl ih => ?_) (fun x H locs ls hI hP hD hS hl => ?_) x (by rw [wf_cpy0]; exact hI) hP hD hS (lv_sub hl [0, 1] rfl)
    · have hP : va_P D vwCl (wM q κ x) H := hP
      have hD : va_D A (wM q κ x) := hD
      have hl : lv_has ls 2 [(1, .int (nI i)), (0, .ref (q 0))] := hl
      have hI : x = (u.1, u.2.1, u.2.2.1, va_cpy (fun _ => false) u.2.2.2.1 0 0 i, va_cpy (fun _ => false) u.2.2.2.2.1 0 0 130, u.2.2.2.2.2) := hI
      refine lv_iload_n hx hb d_M_clearRest_24 rfl (lv_at hl 0 rfl) ?_
      refine lv_sipush (v := 128) hx hb d_M_clearRest_25 (by decide) ?_
      refine lv_icmp_ge (tgt := 44) hx hb d_M_clearRest_28 (by decide) (fun c_4 => False.elim (by first | exact absurd c_4 (nI_ge hi (by decide)) | exact absurd (nI_ge hi (by decide)) c_4)) (fun c_4 => ?_)
      refine lv_aload_n hx hb d_M_clearRest_31 rfl (lv_at hl 1 rfl) ?_
      refine gM C hK hP 0 rfl 3 (by decide) k_fl_M_answer rfl d_M_clearRest_32 ?_
      refine lv_iload_n hx hb d_M_clearRest_35 rfl (lv_at hl 0 rfl) ?_
      refine lv_iconst (v := 0) hx hb d_M_clearRest_36 (by decide) ?_
      refine wf_zast C hK hP hD hS 3 2 rfl rfl (k := i) (b := false) rfl (by omega) (by decide) d_M_clearRest_37 (fun H locs hP hD hS => ?_)
      have hP : va_P D vwCl (wM q κ (x.1, x.2.1, x.2.2.1, va_up x.2.2.2.1 i false, x.2.2.2.2)) H := hP
      have hD : va_D A (wM q κ (x.1, x.2.1, x.2.2.1, va_up x.2.2.2.1 i false, x.2.2.2.2)) := hD
      generalize eu_5 : ((x.1, x.2.1, x.2.2.1, va_up x.2.2.2.1 i false, x.2.2.2.2) : SM) = u_5 at hP hD
      refine lv_iinc (v := nI (i + 1)) (lv' := [(1, .int (nI (i + 1))), (0, .ref (q 0))]) hx hb d_M_clearRest_38 hl (k := 0) rfl (nI_1 _) (by decide) rfl (fun ls hl => ?_)
      refine lv_goto (tgt := 24) hx hb d_M_clearRest_41 (by decide) ?_
      exact ih u_5 H locs ls (by rw [← eu_5, hI]; exact congrArg (fun z => (u.1, u.2.1, u.2.2.1, z, va_cpy (fun _ => false) u.2.2.2.2.1 0 0 130, u.2.2.2.2.2)) (wf_cpyZ _ _)) hP hD hS (lv_sub hl [0, 1] rfl)
    · have hP : va_P D vwCl (wM q κ x) H := hP
      have hD : va_D A (wM q κ x) := hD
      have hl : lv_has ls 2 [(1, .int (nI 128)), (0, .ref (q 0))] := hl
      have hI : x = (u.1, u.2.1, u.2.2.1, va_cpy (fun _ => false) u.2.2.2.1 0 0 128, va_cpy (fun _ => false) u.2.2.2.2.1 0 0 130, u.2.2.2.2.2) := hI
      refine lv_iload_n hx hb d_M_clearRest_24 rfl (lv_at hl 0 rfl) ?_
      refine lv_sipush (v := 128) hx hb d_M_clearRest_25 (by decide) ?_
      refine lv_icmp_ge (tgt := 44) hx hb d_M_clearRest_28 (by decide) (fun c_6 => ?_) (fun c_6 => False.elim (by first | exact absurd (nI_le (Nat.le_refl 128) (by decide)) c_6 | exact absurd c_6 (nI_le (Nat.le_refl 128) (by decide))))
      exact wf_retv C hr hlocks x (hI) hP hK hD hS (fun _ h => h) d_M_clearRest_44

set_option maxHeartbeats 4000000 in
set_option maxRecDepth 100000 in
theorem kM_clear {p : Program} {l : Launch} {e : Env} {R : Room} {s : State} {m : MethodId} {args : Array Value} {below : List Frame} {meth : Method} {c : Code} {H : Heap} {locs : List Loc} {cells slots : Nat} {Q : State → Prop} {cc : ByteArray} {pc nL : Nat} {ls : Array Slot} {rest : List Value} {D : va_G} {q : Nat → Nat} {κ : Nat → ClassId} {A : Nat → Prop} {u : SM}  (C : CallFix p m c cc nL s args wG RM) (hsz : ls.size = nL) (hR : 1 ≤ R.frames ∧ 21 ≤ R.locals) (hw : (rest.map fun v => v.category).sum ≤ 8) (hc : cells + 0 ≤ R.cells ∧ slots + 0 ≤ R.slots) (hP : va_P D vwCl (wM q κ u) H) (hK : va_K D vwCl (tyM κ) s) (hD : va_D A (wM q κ u)) (hS : va_S A s.heap H locs) (hA : ∀ q, s.heap.size ≤ q → A q) (hdg : decode cc pc = .ok (.invokevirtual 55, 3)) (kk : ∀ (v : SM) (H1 : Heap) (locs1 : List Loc), v = (u.1, u.2.1, u.2.2.1, va_cpy (fun _ => false) u.2.2.2.1 0 0 128, va_cpy (fun _ => false) u.2.2.2.2.1 0 0 130, u.2.2.2.2.2) → va_P D vwCl (wM q κ v) H1 → va_D A (wM q κ v) → va_S A s.heap H1 locs1 → W p l e R s m args below meth c H1 locs1 (cells) (slots) Q (F0 m (pc + 3) ls (rest))) : W p l e R s m args below meth c H locs cells slots Q (F0 m pc ls (.ref (q 0) :: rest)) := by
  exact wf_cv (va_runV (As := []) (rest := rest) C (c_M_clearRest l D q κ u H.size) (cwV 0 C.2.2.2.2 (wG_V (fun _ h => h) k_ml_M_55 k_im_M_clearRest k_se_M_clearRest k_in_M k_M_clearRest) rfl rfl rfl (by decide +kernel) ⟨hR.1, hR.2⟩) ⟨wf_blind, va_recv hK hP (ci := 1) (q0 := 0) rfl rfl, wf_pre hP hK hD⟩ rfl rfl hsz rfl (lv_room hw) hdg ⟨hc.1, hc.2⟩) (fun _ h => h) hS hD hA kk

set_option maxHeartbeats 4000000 in
set_option maxRecDepth 100000 in
/-- M_bring -/
theorem c_M_bring (l : Launch) (D : va_G) (q : Nat → Nat) (κ : Nat → ClassId) (u : SM) (y : Bool) (sz : Nat) : Met l y_M_bring (.code y_M_bring b_M_bring 3 none :: wG) (wf_rm 0 0 0 0) (wf_Pc D vwCl (wM q κ u) (tyM κ) ([.ref (q 0), .int (wf_bi y)]) sz) (va_Qv (fun v => v = (u.1, u.2.1, u.2.2.1, u.2.2.2.1, va_up (wf_sh u.2.2.2.2.1 129 129) 0 y, u.2.2.2.2.2)) (wf_B D vwCl (wM q κ) (tyM κ) (va_A (wM q κ u) sz)) (va_A (wM q κ u) sz)) 0 0 (va_A (wM q κ u) sz) := by
  refine wf_open (by decide) (Nat.le_of_ble_eq_true rfl) k_M_bring ?_
  intro p e s m below meth c ls hsz C hr hlocks hnm hex hP hK hD hl
  subst hsz
  have hx := C.1
  have hb := C.2.1
  have hml := C.2.2.1
  have hown := C.2.2.2.1
  have hts := C.2.2.2.2
  have hA : ∀ j : Nat, s.heap.size ≤ j → va_A (wM q κ u) s.heap.size j := fun j h => Or.inr h
  have hS : va_S (va_A (wM q κ u) s.heap.size) s.heap s.heap [] := va_S.rf
  generalize hAe : va_A (wM q κ u) s.heap.size = A at hA hS hD ⊢
  have hl : lv_has ls 3 [(0, .ref (q 0)), (1, .int (wf_bi y))] := hl
  refine lv_sipush (v := nI 129) hx hb d_M_bring_0 (by decide) ?_
  refine lv_istore_n (lv' := [(2, .int (nI 129)), (0, .ref (q 0)), (1, .int (wf_bi y))]) hx hb d_M_bring_3 rfl hl (by decide) rfl (fun ls hl => ?_)
  refine wf_forH (σ := SM) 129 (fun i x => x = (u.1, u.2.1, u.2.2.1, u.2.2.2.1, wf_sh u.2.2.2.2.1 129 i, u.2.2.2.2.2)) (fun x => wM q κ x) (fun i x => [(2, .int (nI (129 - i))), (0, .ref (q 0)), (1, .int (wf_bi y))]) (fun i x H locs ls hi hI hP hD hS hl ih => ?_) (fun x H locs ls hI hP hD hS hl => ?_) u (by rw [wf_sh0]) hP hD hS (lv_sub hl [0, 1, 2] rfl)
  · have hP : va_P D vwCl (wM q κ x) H := hP
    have hD : va_D A (wM q κ x) := hD
    have hl : lv_has ls 3 [(2, .int (nI (129 - i))), (0, .ref (q 0)), (1, .int (wf_bi y))] := hl
    have hI : x = (u.1, u.2.1, u.2.2.1, u.2.2.2.1, wf_sh u.2.2.2.2.1 129 i, u.2.2.2.2.2) := hI
    refine lv_iload_n hx hb d_M_bring_4 rfl (lv_at hl 0 rfl) ?_
    refine lv_if_le (tgt := 28) hx hb d_M_bring_5 (by decide) (fun c_1 => False.elim (by first | exact absurd c_1 (nI_nle (n := 129 - i) (by omega) (by omega)) | exact absurd (nI_nle (n := 129 - i) (by omega) (by omega)) c_1)) (fun c_1 => ?_)
    refine lv_aload_n hx hb d_M_bring_8 rfl (lv_at hl 1 rfl) ?_
    refine gM C hK hP 0 rfl 4 (by decide) k_fl_M_rest rfl d_M_bring_9 ?_
    refine lv_iload_n hx hb d_M_bring_12 rfl (lv_at hl 0 rfl) ?_
    refine lv_aload_n hx hb d_M_bring_13 rfl (lv_at hl 1 rfl) ?_
    refine gM C hK hP 0 rfl 4 (by decide) k_fl_M_rest rfl d_M_bring_14 ?_
    refine lv_iload_n hx hb d_M_bring_17 rfl (lv_at hl 0 rfl) ?_
    refine lv_iconst (v := 1) hx hb d_M_bring_18 (by decide) ?_
    refine lv_isub hx hb d_M_bring_19 ?_
    refine wf_zald C hK hP 4 3 rfl rfl (k := 129 - i - 1) (wf_is rfl rfl (by omega)) (by omega) (by decide) d_M_bring_20 ?_
    refine wf_zast C hK hP hD hS 4 3 rfl rfl (k := 129 - i) (b := ((x.2.2.2.2.1 (129 - i - 1)))) rfl (by omega) (by decide) d_M_bring_21 (fun H locs hP hD hS => ?_)
    have hP : va_P D vwCl (wM q κ (x.1, x.2.1, x.2.2.1, x.2.2.2.1, va_up x.2.2.2.2.1 (129 - i) ((x.2.2.2.2.1 (129 - i - 1))), x.2.2.2.2.2)) H := hP
    have hD : va_D A (wM q κ (x.1, x.2.1, x.2.2.1, x.2.2.2.1, va_up x.2.2.2.2.1 (129 - i) ((x.2.2.2.2.1 (129 - i - 1))), x.2.2.2.2.2)) := hD
    generalize eu_2 : ((x.1, x.2.1, x.2.2.1, x.2.2.2.1, va_up x.2.2.2.2.1 (129 - i) ((x.2.2.2.2.1 (129 - i - 1))), x.2.2.2.2.2) : SM) = u_2 at hP hD
    refine lv_iinc (v := nI (129 - (i + 1))) (lv' := [(2, .int (nI (129 - (i + 1)))), (0, .ref (q 0)), (1, .int (wf_bi y))]) hx hb d_M_bring_22 hl (k := 0) rfl ((wf_deI (k := 129 - i) (by omega)).trans (by rw [Nat.sub_sub])) (by decide) rfl (fun ls hl => ?_)
    refine lv_goto (tgt := 4) hx hb d_M_bring_25 (by decide) ?_
    exact ih u_2 H locs ls (by rw [← eu_2, hI]; exact congrArg (fun z => (u.1, u.2.1, u.2.2.1, u.2.2.2.1, z, u.2.2.2.2.2)) (wf_shS _ hi)) hP hD hS (lv_sub hl [0, 1, 2] rfl)
  · have hP : va_P D vwCl (wM q κ x) H := hP
    have hD : va_D A (wM q κ x) := hD
    have hl : lv_has ls 3 [(2, .int (nI (129 - 129))), (0, .ref (q 0)), (1, .int (wf_bi y))] := hl
    have hI : x = (u.1, u.2.1, u.2.2.1, u.2.2.2.1, wf_sh u.2.2.2.2.1 129 129, u.2.2.2.2.2) := hI
    refine lv_iload_n hx hb d_M_bring_4 rfl (lv_at hl 0 rfl) ?_
    refine lv_if_le (tgt := 28) hx hb d_M_bring_5 (by decide) (fun c_3 => ?_) (fun c_3 => False.elim (by first | exact absurd (by decide) c_3 | exact absurd c_3 (by decide)))
    refine lv_aload_n hx hb d_M_bring_28 rfl (lv_at hl 1 rfl) ?_
    refine gM C hK hP 0 rfl 4 (by decide) k_fl_M_rest rfl d_M_bring_29 ?_
    refine lv_iconst (v := 0) hx hb d_M_bring_32 (by decide) ?_
    refine lv_iload_n hx hb d_M_bring_33 rfl (lv_at hl 2 rfl) ?_
    refine wf_zast C hK hP hD hS 4 3 rfl rfl (k := 0) (b := y) rfl (by omega) (by decide) d_M_bring_34 (fun H locs hP hD hS => ?_)
    have hP : va_P D vwCl (wM q κ (x.1, x.2.1, x.2.2.1, x.2.2.2.1, va_up x.2.2.2.2.1 0 y, x.2.2.2.2.2)) H := hP
    have hD : va_D A (wM q κ (x.1, x.2.1, x.2.2.1, x.2.2.2.1, va_up x.2.2.2.2.1 0 y, x.2.2.2.2.2)) := hD
    generalize eu_4 : ((x.1, x.2.1, x.2.2.1, x.2.2.2.1, va_up x.2.2.2.2.1 0 y, x.2.2.2.2.2) : SM) = u_4 at hP hD
    exact wf_retv C hr hlocks u_4 (by rw [← eu_4, hI]) hP hK hD hS (fun _ h => h) d_M_bring_35

set_option maxHeartbeats 4000000 in
set_option maxRecDepth 100000 in
theorem kM_bring {p : Program} {l : Launch} {e : Env} {R : Room} {s : State} {m : MethodId} {args : Array Value} {below : List Frame} {meth : Method} {c : Code} {H : Heap} {locs : List Loc} {cells slots : Nat} {Q : State → Prop} {cc : ByteArray} {pc nL : Nat} {ls : Array Slot} {rest : List Value} {D : va_G} {q : Nat → Nat} {κ : Nat → ClassId} {A : Nat → Prop} {u : SM} {y : Bool} (C : CallFix p m c cc nL s args wG RM) (hsz : ls.size = nL) (hR : 1 ≤ R.frames ∧ 22 ≤ R.locals) (hw : (rest.map fun v => v.category).sum ≤ 8) (hc : cells + 0 ≤ R.cells ∧ slots + 0 ≤ R.slots) (hP : va_P D vwCl (wM q κ u) H) (hK : va_K D vwCl (tyM κ) s) (hD : va_D A (wM q κ u)) (hS : va_S A s.heap H locs) (hA : ∀ q, s.heap.size ≤ q → A q) (hdg : decode cc pc = .ok (.invokevirtual 58, 3)) (kk : ∀ (v : SM) (H1 : Heap) (locs1 : List Loc), v = (u.1, u.2.1, u.2.2.1, u.2.2.2.1, va_up (wf_sh u.2.2.2.2.1 129 129) 0 y, u.2.2.2.2.2) → va_P D vwCl (wM q κ v) H1 → va_D A (wM q κ v) → va_S A s.heap H1 locs1 → W p l e R s m args below meth c H1 locs1 (cells) (slots) Q (F0 m (pc + 3) ls (rest))) : W p l e R s m args below meth c H locs cells slots Q (F0 m pc ls (.int (wf_bi y) :: .ref (q 0) :: rest)) := by
  exact wf_cv (va_runV (As := [.int (wf_bi y)]) (rest := rest) C (c_M_bring l D q κ u y H.size) (cwV 1 C.2.2.2.2 (wG_V (fun _ h => h) k_ml_M_58 k_im_M_bring k_se_M_bring k_in_M k_M_bring) rfl rfl rfl (by decide +kernel) ⟨hR.1, hR.2⟩) ⟨wf_blind, va_recv hK hP (ci := 1) (q0 := 0) rfl rfl, wf_pre hP hK hD⟩ rfl rfl hsz rfl (lv_room hw) hdg ⟨hc.1, hc.2⟩) (fun _ h => h) hS hD hA kk

set_option maxHeartbeats 4000000 in
set_option maxRecDepth 100000 in
/-- M_lower -/
theorem c_M_lowerR (l : Launch) (D : va_G) (q : Nat → Nat) (κ : Nat → ClassId) (u : SM) (r k : Nat) (hr8 : r < 8) (hk : k < 130) (sz : Nat) : Met l y_M_lower (.code y_M_lower b_M_lower 3 (some .boolean) :: wG) (wf_rm 0 0 0 0) (wf_Pc D vwCl (wM q κ u) (tyM κ) ([.ref (q 0), .int (nI r), .int (nI k)]) sz) (vp_Si (fun r_ => r_ = wf_bi (wf_lw u.2.1 r k))) 0 0 (fun _ => False) := by
  refine wf_open (by decide) (Nat.le_of_ble_eq_true rfl) k_M_lower ?_
  intro p e s m below meth c ls hsz C hr hlocks hnm hex hP hK hD hl
  subst hsz
  have hx := C.1
  have hb := C.2.1
  have hml := C.2.2.1
  have hown := C.2.2.2.1
  have hts := C.2.2.2.2
  have hA : ∀ j : Nat, s.heap.size ≤ j → va_A (wM q κ u) s.heap.size j := fun j h => Or.inr h
  have hS : va_S (va_A (wM q κ u) s.heap.size) s.heap s.heap [] := va_S.rf
  generalize hAe : va_A (wM q κ u) s.heap.size = A at hA hS hD ⊢
  have hl : lv_has ls 3 [(0, .ref (q 0)), (1, .int (nI r)), (2, .int (nI k))] := hl
  refine lv_iload_n hx hb d_M_lower_0 rfl (lv_at hl 1 rfl) ?_
  refine lv_if_lt (tgt := 32) hx hb d_M_lower_1 (by decide) (fun c_1 => False.elim (by first | exact absurd c_1 (nI_pos (by omega)) | exact absurd (nI_pos (by omega)) c_1)) (fun c_1 => ?_)
  refine lv_iload_n hx hb d_M_lower_4 rfl (lv_at hl 2 rfl) ?_
  refine lv_sipush (v := 128) hx hb d_M_lower_5 (by decide) ?_
  refine lv_icmp_ge (tgt := 30) hx hb d_M_lower_8 (by decide) (fun c_2 => ?_) (fun c_2 => ?_)
  · refine lv_iconst (v := 0) hx hb d_M_lower_30 (by decide) ?_
    exact W.zret hx hb hr (rfl) (fun t ht hW => ⟨_, rfl, by unfold wf_lw; rw [decide_eq_false (show ¬ k < 128 from fun h => absurd c_2 (nI_ge h (by decide)))]; rfl, ht⟩) (fun q h => by cases h) d_M_lower_31 hlocks
  · refine lv_aload_n hx hb d_M_lower_11 rfl (lv_at hl 0 rfl) ?_
    refine gM C hK hP 0 rfl 1 (by decide) k_fl_M_bits rfl d_M_lower_12 ?_
    refine lv_sipush (v := 128) hx hb d_M_lower_15 (by decide) ?_
    refine lv_iload_n hx hb d_M_lower_18 rfl (lv_at hl 1 rfl) ?_
    refine lv_imul hx hb d_M_lower_19 ?_
    refine lv_iload_n hx hb d_M_lower_20 rfl (lv_at hl 2 rfl) ?_
    refine lv_iadd hx hb d_M_lower_21 ?_
    have hk8 : k < 128 := Nat.not_le.mp (fun h => c_2 (nI_le h (by omega)))
    refine wf_zald C hK hP 1 0 rfl rfl (k := 128 * r + k) (wf_ia (wf_im rfl rfl) rfl) (by omega) (by decide) d_M_lower_22 ?_
    refine lv_if_eq (tgt := 30) hx hb d_M_lower_23 (by decide) (fun c_3 => ?_) (fun c_3 => ?_)
    · refine lv_iconst (v := 0) hx hb d_M_lower_30 (by decide) ?_
      exact W.zret hx hb hr (rfl) (fun t ht hW => ⟨_, rfl, by unfold wf_lw; rw [(wf_bi0 _).mp c_3, Bool.and_false]; rfl, ht⟩) (fun q h => by cases h) d_M_lower_31 hlocks
    · refine lv_iconst (v := 1) hx hb d_M_lower_26 (by decide) ?_
      refine lv_goto (tgt := 31) hx hb d_M_lower_27 (by decide) ?_
      exact W.zret hx hb hr (rfl) (fun t ht hW => ⟨_, rfl, by unfold wf_lw; rw [decide_eq_true (show k < 128 from Nat.not_le.mp (fun h => c_2 (nI_le h (by omega)))), (wf_bi1 _).mp c_3]; rfl, ht⟩) (fun q h => by cases h) d_M_lower_31 hlocks

set_option maxHeartbeats 4000000 in
set_option maxRecDepth 100000 in
theorem kM_lowerR {p : Program} {l : Launch} {e : Env} {R : Room} {s : State} {m : MethodId} {args : Array Value} {below : List Frame} {meth : Method} {c : Code} {H : Heap} {locs : List Loc} {cells slots : Nat} {Q : State → Prop} {cc : ByteArray} {pc nL : Nat} {ls : Array Slot} {rest : List Value} {D : va_G} {q : Nat → Nat} {κ : Nat → ClassId} {A : Nat → Prop} {u : SM} {r k : Nat} (hr8 : r < 8) (hk : k < 130) (C : CallFix p m c cc nL s args wG RM) (hsz : ls.size = nL) (hR : 1 ≤ R.frames ∧ 22 ≤ R.locals) (hw : (rest.map fun v => v.category).sum ≤ 8) (hc : cells ≤ R.cells ∧ slots ≤ R.slots) (hP : va_P D vwCl (wM q κ u) H) (hK : va_K D vwCl (tyM κ) s) (hD : va_D A (wM q κ u)) (hdg : decode cc pc = .ok (.invokevirtual 51, 3)) (kk : ∀ r_ : Int32, r_ = wf_bi (wf_lw u.2.1 r k) → W p l e R s m args below meth c H locs cells slots Q (F0 m (pc + 3) ls (.int r_ :: rest))) : W p l e R s m args below meth c H locs cells slots Q (F0 m pc ls (.int (nI k) :: .int (nI r) :: .ref (q 0) :: rest)) := by
  exact vp_callSi (W.runV (As := [.int (nI r), .int (nI k)]) (rest := rest) C (c_M_lowerR l D q κ u r k hr8 hk H.size) (cwV 2 C.2.2.2.2 (wG_V (fun _ h => h) k_ml_M_51 k_im_M_lower k_se_M_lower k_in_M k_M_lower) rfl rfl rfl (by decide +kernel) ⟨hR.1, hR.2⟩) ⟨wf_blind, va_recv hK hP (ci := 1) (q0 := 0) rfl rfl, wf_pre hP hK hD⟩ rfl rfl hsz rfl (lv_room hw) hdg ⟨hc.1, hc.2⟩) kk

set_option maxHeartbeats 4000000 in
set_option maxRecDepth 100000 in
/-- M_lower -/
theorem c_M_lowerA (l : Launch) (D : va_G) (q : Nat → Nat) (κ : Nat → ClassId) (u : SM) (k : Nat) (hk : k < 130) (sz : Nat) : Met l y_M_lower (.code y_M_lower b_M_lower 3 (some .boolean) :: wG) (wf_rm 0 0 0 0) (wf_Pc D vwCl (wM q κ u) (tyM κ) ([.ref (q 0), .int (-1), .int (nI k)]) sz) (vp_Si (fun r => r = wf_bi (wf_lr u.2.2.2.1 k))) 0 0 (fun _ => False) := by
  refine wf_open (by decide) (Nat.le_of_ble_eq_true rfl) k_M_lower ?_
  intro p e s m below meth c ls hsz C hr hlocks hnm hex hP hK hD hl
  subst hsz
  have hx := C.1
  have hb := C.2.1
  have hml := C.2.2.1
  have hown := C.2.2.2.1
  have hts := C.2.2.2.2
  have hA : ∀ j : Nat, s.heap.size ≤ j → va_A (wM q κ u) s.heap.size j := fun j h => Or.inr h
  have hS : va_S (va_A (wM q κ u) s.heap.size) s.heap s.heap [] := va_S.rf
  generalize hAe : va_A (wM q κ u) s.heap.size = A at hA hS hD ⊢
  have hl : lv_has ls 3 [(0, .ref (q 0)), (1, .int ((-1))), (2, .int (nI k))] := hl
  refine lv_iload_n hx hb d_M_lower_0 rfl (lv_at hl 1 rfl) ?_
  refine lv_if_lt (tgt := 32) hx hb d_M_lower_1 (by decide) (fun _ => ?_) (fun c_1 => False.elim (absurd c_1 (by decide)))
  refine lv_iload_n hx hb d_M_lower_32 rfl (lv_at hl 2 rfl) ?_
  refine lv_if_eq (tgt := 52) hx hb d_M_lower_33 (by decide) (fun c_2 => ?_) (fun c_2 => ?_)
  · refine lv_iconst (v := 1) hx hb d_M_lower_52 (by decide) ?_
    refine lv_goto (tgt := 57) hx hb d_M_lower_53 (by decide) ?_
    exact W.zret hx hb hr (rfl) (fun t ht hW => ⟨_, rfl, by unfold wf_lr; rw [decide_eq_true (show k = 0 from (nI_eq (a := k) (b := 0) (by omega) (by decide)).mp c_2)]; rfl, ht⟩) (fun q h => by cases h) d_M_lower_57 hlocks
  · refine lv_iload_n hx hb d_M_lower_36 rfl (lv_at hl 2 rfl) ?_
    refine lv_iconst (v := 1) hx hb d_M_lower_37 (by decide) ?_
    refine lv_icmp_le (tgt := 56) hx hb d_M_lower_38 (by decide) (fun c_3 => ?_) (fun c_3 => ?_)
    · refine lv_iconst (v := 0) hx hb d_M_lower_56 (by decide) ?_
      exact W.zret hx hb hr (rfl) (fun t ht hW => ⟨_, rfl, by unfold wf_lr; rw [decide_eq_false (show ¬ k = 0 from fun h => c_2 (congrArg nI h)), decide_eq_false (show ¬ 1 < k from fun h => absurd c_3 (nI_ge (a := 1) h (by omega)))]; rfl, ht⟩) (fun q h => by cases h) d_M_lower_57 hlocks
    · have hk8 : 1 < k := Nat.not_le.mp (fun h => c_3 (nI_le h (by decide)))
      refine lv_aload_n hx hb d_M_lower_41 rfl (lv_at hl 0 rfl) ?_
      refine gM C hK hP 0 rfl 3 (by decide) k_fl_M_answer rfl d_M_lower_42 ?_
      refine lv_iload_n hx hb d_M_lower_45 rfl (lv_at hl 2 rfl) ?_
      refine lv_iconst (v := 2) hx hb d_M_lower_46 (by decide) ?_
      refine lv_isub hx hb d_M_lower_47 ?_
      refine wf_zald C hK hP 3 2 rfl rfl (k := k - 2) (wf_is rfl rfl (by omega)) (by omega) (by decide) d_M_lower_48 ?_
      refine lv_if_eq (tgt := 56) hx hb d_M_lower_49 (by decide) (fun c_4 => ?_) (fun c_4 => ?_)
      · refine lv_iconst (v := 0) hx hb d_M_lower_56 (by decide) ?_
        exact W.zret hx hb hr (rfl) (fun t ht hW => ⟨_, rfl, by unfold wf_lr; rw [decide_eq_false (show ¬ k = 0 from fun h => c_2 (congrArg nI h)), (wf_bi0 _).mp c_4, Bool.and_false]; rfl, ht⟩) (fun q h => by cases h) d_M_lower_57 hlocks
      · refine lv_iconst (v := 1) hx hb d_M_lower_52 (by decide) ?_
        refine lv_goto (tgt := 57) hx hb d_M_lower_53 (by decide) ?_
        exact W.zret hx hb hr (rfl) (fun t ht hW => ⟨_, rfl, by unfold wf_lr; rw [decide_eq_true (show 1 < k from Nat.not_le.mp (fun h => c_3 (nI_le h (by decide)))), (wf_bi1 _).mp c_4, Bool.and_true, Bool.or_true]; rfl, ht⟩) (fun q h => by cases h) d_M_lower_57 hlocks

set_option maxHeartbeats 4000000 in
set_option maxRecDepth 100000 in
theorem kM_lowerA {p : Program} {l : Launch} {e : Env} {R : Room} {s : State} {m : MethodId} {args : Array Value} {below : List Frame} {meth : Method} {c : Code} {H : Heap} {locs : List Loc} {cells slots : Nat} {Q : State → Prop} {cc : ByteArray} {pc nL : Nat} {ls : Array Slot} {rest : List Value} {D : va_G} {q : Nat → Nat} {κ : Nat → ClassId} {A : Nat → Prop} {u : SM} {k : Nat} (hk : k < 130) (C : CallFix p m c cc nL s args wG RM) (hsz : ls.size = nL) (hR : 1 ≤ R.frames ∧ 22 ≤ R.locals) (hw : (rest.map fun v => v.category).sum ≤ 8) (hc : cells ≤ R.cells ∧ slots ≤ R.slots) (hP : va_P D vwCl (wM q κ u) H) (hK : va_K D vwCl (tyM κ) s) (hD : va_D A (wM q κ u)) (hdg : decode cc pc = .ok (.invokevirtual 51, 3)) (kk : ∀ r : Int32, r = wf_bi (wf_lr u.2.2.2.1 k) → W p l e R s m args below meth c H locs cells slots Q (F0 m (pc + 3) ls (.int r :: rest))) : W p l e R s m args below meth c H locs cells slots Q (F0 m pc ls (.int (nI k) :: .int (-1) :: .ref (q 0) :: rest)) := by
  exact vp_callSi (W.runV (As := [.int (-1), .int (nI k)]) (rest := rest) C (c_M_lowerA l D q κ u k hk H.size) (cwV 2 C.2.2.2.2 (wG_V (fun _ h => h) k_ml_M_51 k_im_M_lower k_se_M_lower k_in_M k_M_lower) rfl rfl rfl (by decide +kernel) ⟨hR.1, hR.2⟩) ⟨wf_blind, va_recv hK hP (ci := 1) (q0 := 0) rfl rfl, wf_pre hP hK hD⟩ rfl rfl hsz rfl (lv_room hw) hdg ⟨hc.1, hc.2⟩) kk

set_option maxHeartbeats 4000000 in
set_option maxRecDepth 100000 in
/-- M_takeAway -/
theorem c_M_takeAwayR (l : Launch) (D : va_G) (q : Nat → Nat) (κ : Nat → ClassId) (u : SM) (r : Nat) (hr8 : r < 8) (sz : Nat) : Met l y_M_takeAway (.code y_M_takeAway b_M_takeAway 7 (some .boolean) :: wG) (wf_rm 1 60 0 0) (wf_Pc D vwCl (wM q κ u) (tyM κ) ([.ref (q 0), .int (nI r)]) sz) (va_Qi (fun r_ v => (r_ = 1 ∧ wf_sm (wf_lw u.2.1 r) 130 ≤ wf_sm u.2.2.2.2.1 130 ∧ ∃ f : Nat → Bool, v = (u.1, u.2.1, u.2.2.1, u.2.2.2.1, f, u.2.2.2.2.2) ∧ wf_sm f 130 = wf_sm u.2.2.2.2.1 130 - wf_sm (wf_lw u.2.1 r) 130) ∨ (r_ = 0 ∧ ¬ wf_sm (wf_lw u.2.1 r) 130 ≤ wf_sm u.2.2.2.2.1 130 ∧ v = u)) (wf_B D vwCl (wM q κ) (tyM κ) (va_A (wM q κ u) sz)) (va_A (wM q κ u) sz)) 0 0 (va_A (wM q κ u) sz) := by
  refine wf_open (by decide) (Nat.le_of_ble_eq_true rfl) k_M_takeAway ?_
  intro p e s m below meth c ls hsz C hr hlocks hnm hex hP hK hD hl
  subst hsz
  have hx := C.1
  have hb := C.2.1
  have hml := C.2.2.1
  have hown := C.2.2.2.1
  have hts := C.2.2.2.2
  have hA : ∀ j : Nat, s.heap.size ≤ j → va_A (wM q κ u) s.heap.size j := fun j h => Or.inr h
  have hS : va_S (va_A (wM q κ u) s.heap.size) s.heap s.heap [] := va_S.rf
  generalize hAe : va_A (wM q κ u) s.heap.size = A at hA hS hD ⊢
  have hl : lv_has ls 7 [(0, .ref (q 0)), (1, .int (nI r))] := hl
  refine lv_iconst (v := 1) hx hb d_M_takeAway_0 (by decide) ?_
  refine lv_istore_n (lv' := [(2, .int (1)), (0, .ref (q 0)), (1, .int (nI r))]) hx hb d_M_takeAway_1 rfl hl (by decide) rfl (fun ls hl => ?_)
  refine lv_iconst (v := 0) hx hb d_M_takeAway_2 (by decide) ?_
  refine lv_istore_n (lv' := [(3, .int (0)), (2, .int (1)), (0, .ref (q 0)), (1, .int (nI r))]) hx hb d_M_takeAway_3 rfl hl (by decide) rfl (fun ls hl => ?_)
  refine wf_for (σ := Bool) 130 (fun i x => wf_FI (wf_lw u.2.1 r) u.2.2.2.2.1 i x) (fun i x => [(3, .int (nI i)), (2, .int (wf_bi x)), (0, .ref (q 0)), (1, .int (nI r))]) (fun i x ls hi hI hl ih => ?_) (fun x ls hI hl => ?_) true (wf_FI_0 _ _) (lv_sub hl [0, 1, 2, 3] rfl)
  · have hl : lv_has ls 7 [(3, .int (nI i)), (2, .int (wf_bi x)), (0, .ref (q 0)), (1, .int (nI r))] := hl
    have hI : wf_FI (wf_lw u.2.1 r) u.2.2.2.2.1 i x := hI
    refine lv_iload_n hx hb d_M_takeAway_4 rfl (lv_at hl 0 rfl) ?_
    refine lv_sipush (v := 130) hx hb d_M_takeAway_5 (by decide) ?_
    refine lv_icmp_ge (tgt := 43) hx hb d_M_takeAway_8 (by decide) (fun c_1 => False.elim (by first | exact absurd c_1 (nI_ge hi (by decide)) | exact absurd (nI_ge hi (by decide)) c_1)) (fun c_1 => ?_)
    refine lv_aload_n hx hb d_M_takeAway_11 rfl (lv_at hl 2 rfl) ?_
    refine gM C hK hP 0 rfl 4 (by decide) k_fl_M_rest rfl d_M_takeAway_12 ?_
    refine lv_iload_n hx hb d_M_takeAway_15 rfl (lv_at hl 0 rfl) ?_
    refine wf_zald C hK hP 4 3 rfl rfl (k := i) rfl (by omega) (by decide) d_M_takeAway_16 ?_
    refine lv_aload_n hx hb d_M_takeAway_17 rfl (lv_at hl 2 rfl) ?_
    refine lv_iload_n hx hb d_M_takeAway_18 rfl (lv_at hl 3 rfl) ?_
    refine lv_iload_n hx hb d_M_takeAway_19 rfl (lv_at hl 0 rfl) ?_
    refine kM_lowerR hr8 (k := i) (by omega) C hl.1 ⟨Nat.le_of_ble_eq_true rfl, Nat.le_of_ble_eq_true rfl⟩ (Nat.le_of_ble_eq_true rfl) ⟨Nat.le_of_ble_eq_true rfl, Nat.le_of_ble_eq_true rfl⟩ hP hK hD d_M_takeAway_20 (fun r_2 hr_2 => ?_)
    subst hr_2
    refine wf_cutI (pcj := 36) (ls := ls) (rest := []) (fun z => z = wf_bi (if u.2.2.2.2.1 i = wf_lw u.2.1 r i then x else u.2.2.2.2.1 i)) (fun z_3 ez_3 => ?_) (fun jn => ?_)
    · subst ez_3
      refine lv_istore_n (lv' := [(2, .int (wf_bi (if u.2.2.2.2.1 i = wf_lw u.2.1 r i then x else u.2.2.2.2.1 i))), (3, .int (nI i)), (0, .ref (q 0)), (1, .int (nI r))]) hx hb d_M_takeAway_36 rfl hl (by decide) rfl (fun ls hl => ?_)
      refine lv_iinc (v := nI (i + 1)) (lv' := [(3, .int (nI (i + 1))), (2, .int (wf_bi (if u.2.2.2.2.1 i = wf_lw u.2.1 r i then x else u.2.2.2.2.1 i))), (0, .ref (q 0)), (1, .int (nI r))]) hx hb d_M_takeAway_37 hl (k := 1) rfl (nI_1 _) (by decide) rfl (fun ls hl => ?_)
      refine lv_goto (tgt := 4) hx hb d_M_takeAway_40 (by decide) ?_
      exact ih _ ls (wf_FI_S hI) (lv_sub hl [0, 1, 2, 3] rfl)
    · refine lv_icmp_ne (tgt := 30) hx hb d_M_takeAway_23 (by decide) (fun c_4 => ?_) (fun c_4 => ?_)
      · refine lv_aload_n hx hb d_M_takeAway_30 rfl (lv_at hl 2 rfl) ?_
        refine gM C hK hP 0 rfl 4 (by decide) k_fl_M_rest rfl d_M_takeAway_31 ?_
        refine lv_iload_n hx hb d_M_takeAway_34 rfl (lv_at hl 0 rfl) ?_
        refine wf_zald C hK hP 4 3 rfl rfl (k := i) rfl (by omega) (by decide) d_M_takeAway_35 ?_
        exact jn _ (by rw [if_neg (fun h => c_4 (congrArg wf_bi h))])
      · refine lv_iload_n hx hb d_M_takeAway_26 rfl (lv_at hl 1 rfl) ?_
        refine lv_goto (tgt := 36) hx hb d_M_takeAway_27 (by decide) ?_
        exact jn _ (by rw [if_pos (wf_bi_inj c_4)])
  · have hl : lv_has ls 7 [(3, .int (nI 130)), (2, .int (wf_bi x)), (0, .ref (q 0)), (1, .int (nI r))] := hl
    have hI : wf_FI (wf_lw u.2.1 r) u.2.2.2.2.1 130 x := hI
    refine lv_iload_n hx hb d_M_takeAway_4 rfl (lv_at hl 0 rfl) ?_
    refine lv_sipush (v := 130) hx hb d_M_takeAway_5 (by decide) ?_
    refine lv_icmp_ge (tgt := 43) hx hb d_M_takeAway_8 (by decide) (fun c_5 => ?_) (fun c_5 => False.elim (by first | exact absurd (nI_le (Nat.le_refl 130) (by decide)) c_5 | exact absurd c_5 (nI_le (Nat.le_refl 130) (by decide))))
    refine lv_iload_n hx hb d_M_takeAway_43 rfl (lv_at hl 1 rfl) ?_
    refine lv_if_ne (tgt := 49) hx hb d_M_takeAway_44 (by decide) (fun c1 => ?_) (fun c1 => ?_)
    · have h1 : wf_sm (wf_lw u.2.1 r) 130 ≤ wf_sm u.2.2.2.2.1 130 := of_decide_eq_true (hI.symm.trans ((wf_bi1 _).mp c1))
      refine lv_iconst (v := 0) hx hb d_M_takeAway_49 (by decide) ?_
      refine lv_istore_n (lv' := [(3, .int (0)), (2, .int (wf_bi x)), (0, .ref (q 0)), (1, .int (nI r))]) hx hb d_M_takeAway_50 rfl hl (by decide) rfl (fun ls hl => ?_)
      refine lv_iconst (v := 0) hx hb d_M_takeAway_51 (by decide) ?_
      refine lv_istore (lv' := [(4, .int (0)), (3, .int (0)), (2, .int (wf_bi x)), (0, .ref (q 0)), (1, .int (nI r))]) hx hb d_M_takeAway_52 hl (by decide) rfl (fun ls hl => ?_)
      refine wf_forH (σ := SM × Bool) 130 (fun i x => x.1 = (u.1, u.2.1, u.2.2.1, u.2.2.2.1, x.1.2.2.2.2.1, u.2.2.2.2.2) ∧ wf_TI2 (wf_lw u.2.1 r) u.2.2.2.2.1 x.1.2.2.2.2.1 i x.2) (fun x => wM q κ x.1) (fun i x => [(4, .int (nI i)), (3, .int (wf_bi x.2)), (0, .ref (q 0)), (1, .int (nI r))]) (fun i x H locs ls hi hI hP hD hS hl ih => ?_) (fun x H locs ls hI hP hD hS hl => ?_) (u, false) (⟨rfl, wf_TI2_0 _ _⟩) hP hD hS (lv_sub hl [0, 1, 3, 4] rfl)
      · obtain ⟨w0, cy⟩ := x
        have hP : va_P D vwCl (wM q κ w0) H := hP
        have hD : va_D A (wM q κ w0) := hD
        have hl : lv_has ls 7 [(4, .int (nI i)), (3, .int (wf_bi cy)), (0, .ref (q 0)), (1, .int (nI r))] := hl
        have hI : w0 = (u.1, u.2.1, u.2.2.1, u.2.2.2.1, w0.2.2.2.2.1, u.2.2.2.2.2) ∧ wf_TI2 (wf_lw u.2.1 r) u.2.2.2.2.1 w0.2.2.2.2.1 i cy := hI
        refine lv_iload hx hb d_M_takeAway_54 (lv_at hl 0 rfl) ?_
        refine lv_sipush (v := 130) hx hb d_M_takeAway_56 (by decide) ?_
        refine lv_icmp_ge (tgt := 143) hx hb d_M_takeAway_59 (by decide) (fun c_6 => False.elim (by first | exact absurd c_6 (nI_ge hi (by decide)) | exact absurd (nI_ge hi (by decide)) c_6)) (fun c_6 => ?_)
        refine lv_aload_n hx hb d_M_takeAway_62 rfl (lv_at hl 2 rfl) ?_
        refine gM C hK hP 0 rfl 4 (by decide) k_fl_M_rest rfl d_M_takeAway_63 ?_
        refine lv_iload hx hb d_M_takeAway_66 (lv_at hl 0 rfl) ?_
        refine wf_zald C hK hP 4 3 rfl rfl (k := i) rfl (by omega) (by decide) d_M_takeAway_68 ?_
        obtain ⟨x1, hx1⟩ : ∃ b : Bool, b = w0.2.2.2.2.1 i := ⟨_, rfl⟩
        rw [← hx1]
        refine lv_istore (lv' := [(5, .int (wf_bi x1)), (4, .int (nI i)), (3, .int (wf_bi cy)), (0, .ref (q 0)), (1, .int (nI r))]) hx hb d_M_takeAway_69 hl (by decide) rfl (fun ls hl => ?_)
        refine lv_aload_n hx hb d_M_takeAway_71 rfl (lv_at hl 3 rfl) ?_
        refine lv_iload_n hx hb d_M_takeAway_72 rfl (lv_at hl 4 rfl) ?_
        refine lv_iload hx hb d_M_takeAway_73 (lv_at hl 1 rfl) ?_
        refine kM_lowerR hr8 (k := i) (by omega) C hl.1 ⟨Nat.le_of_ble_eq_true rfl, Nat.le_of_ble_eq_true rfl⟩ (Nat.le_of_ble_eq_true rfl) ⟨Nat.le_of_ble_eq_true rfl, Nat.le_of_ble_eq_true rfl⟩ hP hK hD d_M_takeAway_75 (fun r_7 hr_7 => ?_)
        subst hr_7
        obtain ⟨y1, hy1⟩ : ∃ b : Bool, b = wf_lw w0.2.1 r i := ⟨_, rfl⟩
        rw [← hy1]
        refine lv_istore (lv' := [(6, .int (wf_bi y1)), (5, .int (wf_bi x1)), (4, .int (nI i)), (3, .int (wf_bi cy)), (0, .ref (q 0)), (1, .int (nI r))]) hx hb d_M_takeAway_78 hl (by decide) rfl (fun ls hl => ?_)
        refine lv_aload_n hx hb d_M_takeAway_80 rfl (lv_at hl 4 rfl) ?_
        refine gM C hK hP 0 rfl 4 (by decide) k_fl_M_rest rfl d_M_takeAway_81 ?_
        refine lv_iload hx hb d_M_takeAway_84 (lv_at hl 2 rfl) ?_
        refine lv_iload hx hb d_M_takeAway_86 (lv_at hl 1 rfl) ?_
        refine lv_iload hx hb d_M_takeAway_88 (lv_at hl 0 rfl) ?_
        refine wf_cutI (pcj := 98) (ls := ls) (rest := [.int (nI i), .ref (q 4)]) (fun z => z = wf_bi (x1 != y1)) (fun z_8 ez_8 => ?_) (fun jn => ?_)
        · subst ez_8
          refine lv_iload_n hx hb d_M_takeAway_98 rfl (lv_at hl 3 rfl) ?_
          refine wf_cutI (pcj := 107) (ls := ls) (rest := [.int (nI i), .ref (q 4)]) (fun z => z = wf_bi ((x1 != y1) != cy)) (fun z_9 ez_9 => ?_) (fun jn => ?_)
          · subst ez_9
            refine wf_zast C hK hP hD hS 4 3 rfl rfl (k := i) (b := (((x1 != y1) != cy))) rfl (by omega) (by decide) d_M_takeAway_107 (fun H locs hP hD hS => ?_)
            have hP : va_P D vwCl (wM q κ (w0.1, w0.2.1, w0.2.2.1, w0.2.2.2.1, va_up w0.2.2.2.2.1 i (((x1 != y1) != cy)), w0.2.2.2.2.2)) H := hP
            have hD : va_D A (wM q κ (w0.1, w0.2.1, w0.2.2.1, w0.2.2.2.1, va_up w0.2.2.2.2.1 i (((x1 != y1) != cy)), w0.2.2.2.2.2)) := hD
            generalize eu_10 : ((w0.1, w0.2.1, w0.2.2.1, w0.2.2.2.1, va_up w0.2.2.2.2.1 i (((x1 != y1) != cy)), w0.2.2.2.2.2) : SM) = u_10 at hP hD
            refine lv_iload hx hb d_M_takeAway_108 (lv_at hl 1 rfl) ?_
            refine wf_cutI (pcj := 136) (ls := ls) (rest := []) (fun z => z = wf_bi (!x1 && (y1 || cy) || y1 && cy)) (fun z_11 ez_11 => ?_) (fun jn => ?_)
            · subst ez_11
              refine lv_istore_n (lv' := [(3, .int (wf_bi (!x1 && (y1 || cy) || y1 && cy))), (6, .int (wf_bi y1)), (5, .int (wf_bi x1)), (4, .int (nI i)), (0, .ref (q 0)), (1, .int (nI r))]) hx hb d_M_takeAway_136 rfl hl (by decide) rfl (fun ls hl => ?_)
              refine lv_iinc (v := nI (i + 1)) (lv' := [(4, .int (nI (i + 1))), (3, .int (wf_bi (!x1 && (y1 || cy) || y1 && cy))), (6, .int (wf_bi y1)), (5, .int (wf_bi x1)), (0, .ref (q 0)), (1, .int (nI r))]) hx hb d_M_takeAway_137 hl (k := 3) rfl (nI_1 _) (by decide) rfl (fun ls hl => ?_)
              refine lv_goto (tgt := 54) hx hb d_M_takeAway_140 (by decide) ?_
              exact ih (u_10, _) H locs ls ⟨by rw [← eu_10, hI.1], by rw [← eu_10]; exact wf_TI2_S hI.2 hx1 (hy1.trans (by rw [hI.1]))⟩ hP hD hS (lv_sub hl [0, 1, 4, 5] rfl)
            · refine lv_if_ne (tgt := 122) hx hb d_M_takeAway_110 (by decide) (fun c_12 => ?_) (fun c_12 => ?_)
              · refine lv_iload hx hb d_M_takeAway_122 (lv_at hl 0 rfl) ?_
                refine lv_if_eq (tgt := 135) hx hb d_M_takeAway_124 (by decide) (fun c_13 => ?_) (fun c_13 => ?_)
                · refine lv_iconst (v := 0) hx hb d_M_takeAway_135 (by decide) ?_
                  exact jn _ (by revert c_12 c_13; cases x1 <;> cases y1 <;> cases cy <;> decide)
                · refine lv_iload_n hx hb d_M_takeAway_127 rfl (lv_at hl 3 rfl) ?_
                  refine lv_if_eq (tgt := 135) hx hb d_M_takeAway_128 (by decide) (fun c_14 => ?_) (fun c_14 => ?_)
                  · refine lv_iconst (v := 0) hx hb d_M_takeAway_135 (by decide) ?_
                    exact jn _ (by revert c_12 c_13 c_14; cases x1 <;> cases y1 <;> cases cy <;> decide)
                  · refine lv_iconst (v := 1) hx hb d_M_takeAway_131 (by decide) ?_
                    refine lv_goto (tgt := 136) hx hb d_M_takeAway_132 (by decide) ?_
                    exact jn _ (by revert c_12 c_13 c_14; cases x1 <;> cases y1 <;> cases cy <;> decide)
              · refine lv_iload hx hb d_M_takeAway_113 (lv_at hl 0 rfl) ?_
                refine lv_if_ne (tgt := 131) hx hb d_M_takeAway_115 (by decide) (fun c_15 => ?_) (fun c_15 => ?_)
                · refine lv_iconst (v := 1) hx hb d_M_takeAway_131 (by decide) ?_
                  refine lv_goto (tgt := 136) hx hb d_M_takeAway_132 (by decide) ?_
                  exact jn _ (by revert c_12 c_15; cases x1 <;> cases y1 <;> cases cy <;> decide)
                · refine lv_iload_n hx hb d_M_takeAway_118 rfl (lv_at hl 3 rfl) ?_
                  refine lv_if_ne (tgt := 131) hx hb d_M_takeAway_119 (by decide) (fun c_16 => ?_) (fun c_16 => ?_)
                  · refine lv_iconst (v := 1) hx hb d_M_takeAway_131 (by decide) ?_
                    refine lv_goto (tgt := 136) hx hb d_M_takeAway_132 (by decide) ?_
                    exact jn _ (by revert c_12 c_15 c_16; cases x1 <;> cases y1 <;> cases cy <;> decide)
                  · refine lv_iload hx hb d_M_takeAway_122 (lv_at hl 0 rfl) ?_
                    refine lv_if_eq (tgt := 135) hx hb d_M_takeAway_124 (by decide) (fun c_17 => ?_) (fun c_17 => ?_)
                    · refine lv_iconst (v := 0) hx hb d_M_takeAway_135 (by decide) ?_
                      exact jn _ (by revert c_12 c_15 c_16 c_17; cases x1 <;> cases y1 <;> cases cy <;> decide)
                    · refine lv_iload_n hx hb d_M_takeAway_127 rfl (lv_at hl 3 rfl) ?_
                      refine lv_if_eq (tgt := 135) hx hb d_M_takeAway_128 (by decide) (fun c_18 => ?_) (fun c_18 => ?_)
                      · refine lv_iconst (v := 0) hx hb d_M_takeAway_135 (by decide) ?_
                        exact jn _ (by revert c_12 c_15 c_16 c_17 c_18; cases x1 <;> cases y1 <;> cases cy <;> decide)
                      · refine lv_iconst (v := 1) hx hb d_M_takeAway_131 (by decide) ?_
                        refine lv_goto (tgt := 136) hx hb d_M_takeAway_132 (by decide) ?_
                        exact jn _ (by revert c_12 c_15 c_16 c_17 c_18; cases x1 <;> cases y1 <;> cases cy <;> decide)
          · refine lv_icmp_eq (tgt := 106) hx hb d_M_takeAway_99 (by decide) (fun c_19 => ?_) (fun c_19 => ?_)
            · refine lv_iconst (v := 0) hx hb d_M_takeAway_106 (by decide) ?_
              exact jn _ (by revert c_19; cases x1 <;> cases y1 <;> cases cy <;> decide)
            · refine lv_iconst (v := 1) hx hb d_M_takeAway_102 (by decide) ?_
              refine lv_goto (tgt := 107) hx hb d_M_takeAway_103 (by decide) ?_
              exact jn _ (by revert c_19; cases x1 <;> cases y1 <;> cases cy <;> decide)
        · refine lv_icmp_eq (tgt := 97) hx hb d_M_takeAway_90 (by decide) (fun c_20 => ?_) (fun c_20 => ?_)
          · refine lv_iconst (v := 0) hx hb d_M_takeAway_97 (by decide) ?_
            exact jn _ (by revert c_20; cases x1 <;> cases y1 <;> decide)
          · refine lv_iconst (v := 1) hx hb d_M_takeAway_93 (by decide) ?_
            refine lv_goto (tgt := 98) hx hb d_M_takeAway_94 (by decide) ?_
            exact jn _ (by revert c_20; cases x1 <;> cases y1 <;> decide)
      · obtain ⟨w0, cy⟩ := x
        have hP : va_P D vwCl (wM q κ w0) H := hP
        have hD : va_D A (wM q κ w0) := hD
        have hl : lv_has ls 7 [(4, .int (nI 130)), (3, .int (wf_bi cy)), (0, .ref (q 0)), (1, .int (nI r))] := hl
        have hI : w0 = (u.1, u.2.1, u.2.2.1, u.2.2.2.1, w0.2.2.2.2.1, u.2.2.2.2.2) ∧ wf_TI2 (wf_lw u.2.1 r) u.2.2.2.2.1 w0.2.2.2.2.1 130 cy := hI
        refine lv_iload hx hb d_M_takeAway_54 (lv_at hl 0 rfl) ?_
        refine lv_sipush (v := 130) hx hb d_M_takeAway_56 (by decide) ?_
        refine lv_icmp_ge (tgt := 143) hx hb d_M_takeAway_59 (by decide) (fun c_21 => ?_) (fun c_21 => False.elim (by first | exact absurd (nI_le (Nat.le_refl 130) (by decide)) c_21 | exact absurd c_21 (nI_le (Nat.le_refl 130) (by decide))))
        refine lv_iconst (v := 1) hx hb d_M_takeAway_143 (by decide) ?_
        exact wf_retz C hr (rfl) hlocks w0 (Or.inl ⟨rfl, h1, _, hI.1, wf_TI2_end (by decide) hI.2 h1⟩) hP hK hD hS (fun _ h => h) d_M_takeAway_144
    · have h1 : ¬ wf_sm (wf_lw u.2.1 r) 130 ≤ wf_sm u.2.2.2.2.1 130 := of_decide_eq_false (hI.symm.trans ((wf_bi0 _).mp c1))
      refine lv_iconst (v := 0) hx hb d_M_takeAway_47 (by decide) ?_
      exact wf_retz C hr (rfl) hlocks u (Or.inr ⟨rfl, h1, rfl⟩) hP hK hD hS (fun _ h => h) d_M_takeAway_48

set_option maxHeartbeats 4000000 in
set_option maxRecDepth 100000 in
theorem kM_awayR {p : Program} {l : Launch} {e : Env} {R : Room} {s : State} {m : MethodId} {args : Array Value} {below : List Frame} {meth : Method} {c : Code} {H : Heap} {locs : List Loc} {cells slots : Nat} {Q : State → Prop} {cc : ByteArray} {pc nL : Nat} {ls : Array Slot} {rest : List Value} {D : va_G} {q : Nat → Nat} {κ : Nat → ClassId} {A : Nat → Prop} {u : SM} {r : Nat} (hr8 : r < 8) (C : CallFix p m c cc nL s args wG RM) (hsz : ls.size = nL) (hR : 2 ≤ R.frames ∧ 86 ≤ R.locals) (hw : (rest.map fun v => v.category).sum ≤ 8) (hc : cells + 0 ≤ R.cells ∧ slots + 0 ≤ R.slots) (hP : va_P D vwCl (wM q κ u) H) (hK : va_K D vwCl (tyM κ) s) (hD : va_D A (wM q κ u)) (hS : va_S A s.heap H locs) (hA : ∀ q, s.heap.size ≤ q → A q) (hdg : decode cc pc = .ok (.invokevirtual 62, 3)) (kk : ∀ (r_ : Int32) (v : SM) (H1 : Heap) (locs1 : List Loc), (r_ = 1 ∧ wf_sm (wf_lw u.2.1 r) 130 ≤ wf_sm u.2.2.2.2.1 130 ∧ ∃ f : Nat → Bool, v = (u.1, u.2.1, u.2.2.1, u.2.2.2.1, f, u.2.2.2.2.2) ∧ wf_sm f 130 = wf_sm u.2.2.2.2.1 130 - wf_sm (wf_lw u.2.1 r) 130) ∨ (r_ = 0 ∧ ¬ wf_sm (wf_lw u.2.1 r) 130 ≤ wf_sm u.2.2.2.2.1 130 ∧ v = u) → va_P D vwCl (wM q κ v) H1 → va_D A (wM q κ v) → va_S A s.heap H1 locs1 → W p l e R s m args below meth c H1 locs1 (cells) (slots) Q (F0 m (pc + 3) ls (.int r_ :: rest))) : W p l e R s m args below meth c H locs cells slots Q (F0 m pc ls (.int (nI r) :: .ref (q 0) :: rest)) := by
  exact wf_ci (va_runV (As := [.int (nI r)]) (rest := rest) C (c_M_takeAwayR l D q κ u r hr8 H.size) (cwV 1 C.2.2.2.2 (wG_V (fun _ h => h) k_ml_M_62 k_im_M_takeAway k_se_M_takeAway k_in_M k_M_takeAway) rfl rfl rfl (by decide +kernel) ⟨hR.1, hR.2⟩) ⟨wf_blind, va_recv hK hP (ci := 1) (q0 := 0) rfl rfl, wf_pre hP hK hD⟩ rfl rfl hsz rfl (lv_room hw) hdg ⟨hc.1, hc.2⟩) (fun _ h => h) hS hD hA kk

set_option maxHeartbeats 4000000 in
set_option maxRecDepth 100000 in
/-- M_takeAway -/
theorem c_M_takeAwayA (l : Launch) (D : va_G) (q : Nat → Nat) (κ : Nat → ClassId) (u : SM)  (sz : Nat) : Met l y_M_takeAway (.code y_M_takeAway b_M_takeAway 7 (some .boolean) :: wG) (wf_rm 1 60 0 0) (wf_Pc D vwCl (wM q κ u) (tyM κ) ([.ref (q 0), .int ((-1))]) sz) (va_Qi (fun r_ v => (r_ = 1 ∧ wf_sm (wf_lr u.2.2.2.1) 130 ≤ wf_sm u.2.2.2.2.1 130 ∧ ∃ f : Nat → Bool, v = (u.1, u.2.1, u.2.2.1, u.2.2.2.1, f, u.2.2.2.2.2) ∧ wf_sm f 130 = wf_sm u.2.2.2.2.1 130 - wf_sm (wf_lr u.2.2.2.1) 130) ∨ (r_ = 0 ∧ ¬ wf_sm (wf_lr u.2.2.2.1) 130 ≤ wf_sm u.2.2.2.2.1 130 ∧ v = u)) (wf_B D vwCl (wM q κ) (tyM κ) (va_A (wM q κ u) sz)) (va_A (wM q κ u) sz)) 0 0 (va_A (wM q κ u) sz) := by
  refine wf_open (by decide) (Nat.le_of_ble_eq_true rfl) k_M_takeAway ?_
  intro p e s m below meth c ls hsz C hr hlocks hnm hex hP hK hD hl
  subst hsz
  have hx := C.1
  have hb := C.2.1
  have hml := C.2.2.1
  have hown := C.2.2.2.1
  have hts := C.2.2.2.2
  have hA : ∀ j : Nat, s.heap.size ≤ j → va_A (wM q κ u) s.heap.size j := fun j h => Or.inr h
  have hS : va_S (va_A (wM q κ u) s.heap.size) s.heap s.heap [] := va_S.rf
  generalize hAe : va_A (wM q κ u) s.heap.size = A at hA hS hD ⊢
  have hl : lv_has ls 7 [(0, .ref (q 0)), (1, .int ((-1)))] := hl
  refine lv_iconst (v := 1) hx hb d_M_takeAway_0 (by decide) ?_
  refine lv_istore_n (lv' := [(2, .int (1)), (0, .ref (q 0)), (1, .int ((-1)))]) hx hb d_M_takeAway_1 rfl hl (by decide) rfl (fun ls hl => ?_)
  refine lv_iconst (v := 0) hx hb d_M_takeAway_2 (by decide) ?_
  refine lv_istore_n (lv' := [(3, .int (0)), (2, .int (1)), (0, .ref (q 0)), (1, .int ((-1)))]) hx hb d_M_takeAway_3 rfl hl (by decide) rfl (fun ls hl => ?_)
  refine wf_for (σ := Bool) 130 (fun i x => wf_FI (wf_lr u.2.2.2.1) u.2.2.2.2.1 i x) (fun i x => [(3, .int (nI i)), (2, .int (wf_bi x)), (0, .ref (q 0)), (1, .int ((-1)))]) (fun i x ls hi hI hl ih => ?_) (fun x ls hI hl => ?_) true (wf_FI_0 _ _) (lv_sub hl [0, 1, 2, 3] rfl)
  · have hl : lv_has ls 7 [(3, .int (nI i)), (2, .int (wf_bi x)), (0, .ref (q 0)), (1, .int ((-1)))] := hl
    have hI : wf_FI (wf_lr u.2.2.2.1) u.2.2.2.2.1 i x := hI
    refine lv_iload_n hx hb d_M_takeAway_4 rfl (lv_at hl 0 rfl) ?_
    refine lv_sipush (v := 130) hx hb d_M_takeAway_5 (by decide) ?_
    refine lv_icmp_ge (tgt := 43) hx hb d_M_takeAway_8 (by decide) (fun c_1 => False.elim (by first | exact absurd c_1 (nI_ge hi (by decide)) | exact absurd (nI_ge hi (by decide)) c_1)) (fun c_1 => ?_)
    refine lv_aload_n hx hb d_M_takeAway_11 rfl (lv_at hl 2 rfl) ?_
    refine gM C hK hP 0 rfl 4 (by decide) k_fl_M_rest rfl d_M_takeAway_12 ?_
    refine lv_iload_n hx hb d_M_takeAway_15 rfl (lv_at hl 0 rfl) ?_
    refine wf_zald C hK hP 4 3 rfl rfl (k := i) rfl (by omega) (by decide) d_M_takeAway_16 ?_
    refine lv_aload_n hx hb d_M_takeAway_17 rfl (lv_at hl 2 rfl) ?_
    refine lv_iload_n hx hb d_M_takeAway_18 rfl (lv_at hl 3 rfl) ?_
    refine lv_iload_n hx hb d_M_takeAway_19 rfl (lv_at hl 0 rfl) ?_
    refine kM_lowerA (k := i) (by omega) C hl.1 ⟨Nat.le_of_ble_eq_true rfl, Nat.le_of_ble_eq_true rfl⟩ (Nat.le_of_ble_eq_true rfl) ⟨Nat.le_of_ble_eq_true rfl, Nat.le_of_ble_eq_true rfl⟩ hP hK hD d_M_takeAway_20 (fun r_2 hr_2 => ?_)
    subst hr_2
    refine wf_cutI (pcj := 36) (ls := ls) (rest := []) (fun z => z = wf_bi (if u.2.2.2.2.1 i = wf_lr u.2.2.2.1 i then x else u.2.2.2.2.1 i)) (fun z_3 ez_3 => ?_) (fun jn => ?_)
    · subst ez_3
      refine lv_istore_n (lv' := [(2, .int (wf_bi (if u.2.2.2.2.1 i = wf_lr u.2.2.2.1 i then x else u.2.2.2.2.1 i))), (3, .int (nI i)), (0, .ref (q 0)), (1, .int ((-1)))]) hx hb d_M_takeAway_36 rfl hl (by decide) rfl (fun ls hl => ?_)
      refine lv_iinc (v := nI (i + 1)) (lv' := [(3, .int (nI (i + 1))), (2, .int (wf_bi (if u.2.2.2.2.1 i = wf_lr u.2.2.2.1 i then x else u.2.2.2.2.1 i))), (0, .ref (q 0)), (1, .int ((-1)))]) hx hb d_M_takeAway_37 hl (k := 1) rfl (nI_1 _) (by decide) rfl (fun ls hl => ?_)
      refine lv_goto (tgt := 4) hx hb d_M_takeAway_40 (by decide) ?_
      exact ih _ ls (wf_FI_S hI) (lv_sub hl [0, 1, 2, 3] rfl)
    · refine lv_icmp_ne (tgt := 30) hx hb d_M_takeAway_23 (by decide) (fun c_4 => ?_) (fun c_4 => ?_)
      · refine lv_aload_n hx hb d_M_takeAway_30 rfl (lv_at hl 2 rfl) ?_
        refine gM C hK hP 0 rfl 4 (by decide) k_fl_M_rest rfl d_M_takeAway_31 ?_
        refine lv_iload_n hx hb d_M_takeAway_34 rfl (lv_at hl 0 rfl) ?_
        refine wf_zald C hK hP 4 3 rfl rfl (k := i) rfl (by omega) (by decide) d_M_takeAway_35 ?_
        exact jn _ (by rw [if_neg (fun h => c_4 (congrArg wf_bi h))])
      · refine lv_iload_n hx hb d_M_takeAway_26 rfl (lv_at hl 1 rfl) ?_
        refine lv_goto (tgt := 36) hx hb d_M_takeAway_27 (by decide) ?_
        exact jn _ (by rw [if_pos (wf_bi_inj c_4)])
  · have hl : lv_has ls 7 [(3, .int (nI 130)), (2, .int (wf_bi x)), (0, .ref (q 0)), (1, .int ((-1)))] := hl
    have hI : wf_FI (wf_lr u.2.2.2.1) u.2.2.2.2.1 130 x := hI
    refine lv_iload_n hx hb d_M_takeAway_4 rfl (lv_at hl 0 rfl) ?_
    refine lv_sipush (v := 130) hx hb d_M_takeAway_5 (by decide) ?_
    refine lv_icmp_ge (tgt := 43) hx hb d_M_takeAway_8 (by decide) (fun c_5 => ?_) (fun c_5 => False.elim (by first | exact absurd (nI_le (Nat.le_refl 130) (by decide)) c_5 | exact absurd c_5 (nI_le (Nat.le_refl 130) (by decide))))
    refine lv_iload_n hx hb d_M_takeAway_43 rfl (lv_at hl 1 rfl) ?_
    refine lv_if_ne (tgt := 49) hx hb d_M_takeAway_44 (by decide) (fun c1 => ?_) (fun c1 => ?_)
    · have h1 : wf_sm (wf_lr u.2.2.2.1) 130 ≤ wf_sm u.2.2.2.2.1 130 := of_decide_eq_true (hI.symm.trans ((wf_bi1 _).mp c1))
      refine lv_iconst (v := 0) hx hb d_M_takeAway_49 (by decide) ?_
      refine lv_istore_n (lv' := [(3, .int (0)), (2, .int (wf_bi x)), (0, .ref (q 0)), (1, .int ((-1)))]) hx hb d_M_takeAway_50 rfl hl (by decide) rfl (fun ls hl => ?_)
      refine lv_iconst (v := 0) hx hb d_M_takeAway_51 (by decide) ?_
      refine lv_istore (lv' := [(4, .int (0)), (3, .int (0)), (2, .int (wf_bi x)), (0, .ref (q 0)), (1, .int ((-1)))]) hx hb d_M_takeAway_52 hl (by decide) rfl (fun ls hl => ?_)
      refine wf_forH (σ := SM × Bool) 130 (fun i x => x.1 = (u.1, u.2.1, u.2.2.1, u.2.2.2.1, x.1.2.2.2.2.1, u.2.2.2.2.2) ∧ wf_TI2 (wf_lr u.2.2.2.1) u.2.2.2.2.1 x.1.2.2.2.2.1 i x.2) (fun x => wM q κ x.1) (fun i x => [(4, .int (nI i)), (3, .int (wf_bi x.2)), (0, .ref (q 0)), (1, .int ((-1)))]) (fun i x H locs ls hi hI hP hD hS hl ih => ?_) (fun x H locs ls hI hP hD hS hl => ?_) (u, false) (⟨rfl, wf_TI2_0 _ _⟩) hP hD hS (lv_sub hl [0, 1, 3, 4] rfl)
      · obtain ⟨w0, cy⟩ := x
        have hP : va_P D vwCl (wM q κ w0) H := hP
        have hD : va_D A (wM q κ w0) := hD
        have hl : lv_has ls 7 [(4, .int (nI i)), (3, .int (wf_bi cy)), (0, .ref (q 0)), (1, .int ((-1)))] := hl
        have hI : w0 = (u.1, u.2.1, u.2.2.1, u.2.2.2.1, w0.2.2.2.2.1, u.2.2.2.2.2) ∧ wf_TI2 (wf_lr u.2.2.2.1) u.2.2.2.2.1 w0.2.2.2.2.1 i cy := hI
        refine lv_iload hx hb d_M_takeAway_54 (lv_at hl 0 rfl) ?_
        refine lv_sipush (v := 130) hx hb d_M_takeAway_56 (by decide) ?_
        refine lv_icmp_ge (tgt := 143) hx hb d_M_takeAway_59 (by decide) (fun c_6 => False.elim (by first | exact absurd c_6 (nI_ge hi (by decide)) | exact absurd (nI_ge hi (by decide)) c_6)) (fun c_6 => ?_)
        refine lv_aload_n hx hb d_M_takeAway_62 rfl (lv_at hl 2 rfl) ?_
        refine gM C hK hP 0 rfl 4 (by decide) k_fl_M_rest rfl d_M_takeAway_63 ?_
        refine lv_iload hx hb d_M_takeAway_66 (lv_at hl 0 rfl) ?_
        refine wf_zald C hK hP 4 3 rfl rfl (k := i) rfl (by omega) (by decide) d_M_takeAway_68 ?_
        obtain ⟨x1, hx1⟩ : ∃ b : Bool, b = w0.2.2.2.2.1 i := ⟨_, rfl⟩
        rw [← hx1]
        refine lv_istore (lv' := [(5, .int (wf_bi x1)), (4, .int (nI i)), (3, .int (wf_bi cy)), (0, .ref (q 0)), (1, .int ((-1)))]) hx hb d_M_takeAway_69 hl (by decide) rfl (fun ls hl => ?_)
        refine lv_aload_n hx hb d_M_takeAway_71 rfl (lv_at hl 3 rfl) ?_
        refine lv_iload_n hx hb d_M_takeAway_72 rfl (lv_at hl 4 rfl) ?_
        refine lv_iload hx hb d_M_takeAway_73 (lv_at hl 1 rfl) ?_
        refine kM_lowerA (k := i) (by omega) C hl.1 ⟨Nat.le_of_ble_eq_true rfl, Nat.le_of_ble_eq_true rfl⟩ (Nat.le_of_ble_eq_true rfl) ⟨Nat.le_of_ble_eq_true rfl, Nat.le_of_ble_eq_true rfl⟩ hP hK hD d_M_takeAway_75 (fun r_7 hr_7 => ?_)
        subst hr_7
        obtain ⟨y1, hy1⟩ : ∃ b : Bool, b = wf_lr w0.2.2.2.1 i := ⟨_, rfl⟩
        rw [← hy1]
        refine lv_istore (lv' := [(6, .int (wf_bi y1)), (5, .int (wf_bi x1)), (4, .int (nI i)), (3, .int (wf_bi cy)), (0, .ref (q 0)), (1, .int ((-1)))]) hx hb d_M_takeAway_78 hl (by decide) rfl (fun ls hl => ?_)
        refine lv_aload_n hx hb d_M_takeAway_80 rfl (lv_at hl 4 rfl) ?_
        refine gM C hK hP 0 rfl 4 (by decide) k_fl_M_rest rfl d_M_takeAway_81 ?_
        refine lv_iload hx hb d_M_takeAway_84 (lv_at hl 2 rfl) ?_
        refine lv_iload hx hb d_M_takeAway_86 (lv_at hl 1 rfl) ?_
        refine lv_iload hx hb d_M_takeAway_88 (lv_at hl 0 rfl) ?_
        refine wf_cutI (pcj := 98) (ls := ls) (rest := [.int (nI i), .ref (q 4)]) (fun z => z = wf_bi (x1 != y1)) (fun z_8 ez_8 => ?_) (fun jn => ?_)
        · subst ez_8
          refine lv_iload_n hx hb d_M_takeAway_98 rfl (lv_at hl 3 rfl) ?_
          refine wf_cutI (pcj := 107) (ls := ls) (rest := [.int (nI i), .ref (q 4)]) (fun z => z = wf_bi ((x1 != y1) != cy)) (fun z_9 ez_9 => ?_) (fun jn => ?_)
          · subst ez_9
            refine wf_zast C hK hP hD hS 4 3 rfl rfl (k := i) (b := (((x1 != y1) != cy))) rfl (by omega) (by decide) d_M_takeAway_107 (fun H locs hP hD hS => ?_)
            have hP : va_P D vwCl (wM q κ (w0.1, w0.2.1, w0.2.2.1, w0.2.2.2.1, va_up w0.2.2.2.2.1 i (((x1 != y1) != cy)), w0.2.2.2.2.2)) H := hP
            have hD : va_D A (wM q κ (w0.1, w0.2.1, w0.2.2.1, w0.2.2.2.1, va_up w0.2.2.2.2.1 i (((x1 != y1) != cy)), w0.2.2.2.2.2)) := hD
            generalize eu_10 : ((w0.1, w0.2.1, w0.2.2.1, w0.2.2.2.1, va_up w0.2.2.2.2.1 i (((x1 != y1) != cy)), w0.2.2.2.2.2) : SM) = u_10 at hP hD
            refine lv_iload hx hb d_M_takeAway_108 (lv_at hl 1 rfl) ?_
            refine wf_cutI (pcj := 136) (ls := ls) (rest := []) (fun z => z = wf_bi (!x1 && (y1 || cy) || y1 && cy)) (fun z_11 ez_11 => ?_) (fun jn => ?_)
            · subst ez_11
              refine lv_istore_n (lv' := [(3, .int (wf_bi (!x1 && (y1 || cy) || y1 && cy))), (6, .int (wf_bi y1)), (5, .int (wf_bi x1)), (4, .int (nI i)), (0, .ref (q 0)), (1, .int ((-1)))]) hx hb d_M_takeAway_136 rfl hl (by decide) rfl (fun ls hl => ?_)
              refine lv_iinc (v := nI (i + 1)) (lv' := [(4, .int (nI (i + 1))), (3, .int (wf_bi (!x1 && (y1 || cy) || y1 && cy))), (6, .int (wf_bi y1)), (5, .int (wf_bi x1)), (0, .ref (q 0)), (1, .int ((-1)))]) hx hb d_M_takeAway_137 hl (k := 3) rfl (nI_1 _) (by decide) rfl (fun ls hl => ?_)
              refine lv_goto (tgt := 54) hx hb d_M_takeAway_140 (by decide) ?_
              exact ih (u_10, _) H locs ls ⟨by rw [← eu_10, hI.1], by rw [← eu_10]; exact wf_TI2_S hI.2 hx1 (hy1.trans (by rw [hI.1]))⟩ hP hD hS (lv_sub hl [0, 1, 4, 5] rfl)
            · refine lv_if_ne (tgt := 122) hx hb d_M_takeAway_110 (by decide) (fun c_12 => ?_) (fun c_12 => ?_)
              · refine lv_iload hx hb d_M_takeAway_122 (lv_at hl 0 rfl) ?_
                refine lv_if_eq (tgt := 135) hx hb d_M_takeAway_124 (by decide) (fun c_13 => ?_) (fun c_13 => ?_)
                · refine lv_iconst (v := 0) hx hb d_M_takeAway_135 (by decide) ?_
                  exact jn _ (by revert c_12 c_13; cases x1 <;> cases y1 <;> cases cy <;> decide)
                · refine lv_iload_n hx hb d_M_takeAway_127 rfl (lv_at hl 3 rfl) ?_
                  refine lv_if_eq (tgt := 135) hx hb d_M_takeAway_128 (by decide) (fun c_14 => ?_) (fun c_14 => ?_)
                  · refine lv_iconst (v := 0) hx hb d_M_takeAway_135 (by decide) ?_
                    exact jn _ (by revert c_12 c_13 c_14; cases x1 <;> cases y1 <;> cases cy <;> decide)
                  · refine lv_iconst (v := 1) hx hb d_M_takeAway_131 (by decide) ?_
                    refine lv_goto (tgt := 136) hx hb d_M_takeAway_132 (by decide) ?_
                    exact jn _ (by revert c_12 c_13 c_14; cases x1 <;> cases y1 <;> cases cy <;> decide)
              · refine lv_iload hx hb d_M_takeAway_113 (lv_at hl 0 rfl) ?_
                refine lv_if_ne (tgt := 131) hx hb d_M_takeAway_115 (by decide) (fun c_15 => ?_) (fun c_15 => ?_)
                · refine lv_iconst (v := 1) hx hb d_M_takeAway_131 (by decide) ?_
                  refine lv_goto (tgt := 136) hx hb d_M_takeAway_132 (by decide) ?_
                  exact jn _ (by revert c_12 c_15; cases x1 <;> cases y1 <;> cases cy <;> decide)
                · refine lv_iload_n hx hb d_M_takeAway_118 rfl (lv_at hl 3 rfl) ?_
                  refine lv_if_ne (tgt := 131) hx hb d_M_takeAway_119 (by decide) (fun c_16 => ?_) (fun c_16 => ?_)
                  · refine lv_iconst (v := 1) hx hb d_M_takeAway_131 (by decide) ?_
                    refine lv_goto (tgt := 136) hx hb d_M_takeAway_132 (by decide) ?_
                    exact jn _ (by revert c_12 c_15 c_16; cases x1 <;> cases y1 <;> cases cy <;> decide)
                  · refine lv_iload hx hb d_M_takeAway_122 (lv_at hl 0 rfl) ?_
                    refine lv_if_eq (tgt := 135) hx hb d_M_takeAway_124 (by decide) (fun c_17 => ?_) (fun c_17 => ?_)
                    · refine lv_iconst (v := 0) hx hb d_M_takeAway_135 (by decide) ?_
                      exact jn _ (by revert c_12 c_15 c_16 c_17; cases x1 <;> cases y1 <;> cases cy <;> decide)
                    · refine lv_iload_n hx hb d_M_takeAway_127 rfl (lv_at hl 3 rfl) ?_
                      refine lv_if_eq (tgt := 135) hx hb d_M_takeAway_128 (by decide) (fun c_18 => ?_) (fun c_18 => ?_)
                      · refine lv_iconst (v := 0) hx hb d_M_takeAway_135 (by decide) ?_
                        exact jn _ (by revert c_12 c_15 c_16 c_17 c_18; cases x1 <;> cases y1 <;> cases cy <;> decide)
                      · refine lv_iconst (v := 1) hx hb d_M_takeAway_131 (by decide) ?_
                        refine lv_goto (tgt := 136) hx hb d_M_takeAway_132 (by decide) ?_
                        exact jn _ (by revert c_12 c_15 c_16 c_17 c_18; cases x1 <;> cases y1 <;> cases cy <;> decide)
          · refine lv_icmp_eq (tgt := 106) hx hb d_M_takeAway_99 (by decide) (fun c_19 => ?_) (fun c_19 => ?_)
            · refine lv_iconst (v := 0) hx hb d_M_takeAway_106 (by decide) ?_
              exact jn _ (by revert c_19; cases x1 <;> cases y1 <;> cases cy <;> decide)
            · refine lv_iconst (v := 1) hx hb d_M_takeAway_102 (by decide) ?_
              refine lv_goto (tgt := 107) hx hb d_M_takeAway_103 (by decide) ?_
              exact jn _ (by revert c_19; cases x1 <;> cases y1 <;> cases cy <;> decide)
        · refine lv_icmp_eq (tgt := 97) hx hb d_M_takeAway_90 (by decide) (fun c_20 => ?_) (fun c_20 => ?_)
          · refine lv_iconst (v := 0) hx hb d_M_takeAway_97 (by decide) ?_
            exact jn _ (by revert c_20; cases x1 <;> cases y1 <;> decide)
          · refine lv_iconst (v := 1) hx hb d_M_takeAway_93 (by decide) ?_
            refine lv_goto (tgt := 98) hx hb d_M_takeAway_94 (by decide) ?_
            exact jn _ (by revert c_20; cases x1 <;> cases y1 <;> decide)
      · obtain ⟨w0, cy⟩ := x
        have hP : va_P D vwCl (wM q κ w0) H := hP
        have hD : va_D A (wM q κ w0) := hD
        have hl : lv_has ls 7 [(4, .int (nI 130)), (3, .int (wf_bi cy)), (0, .ref (q 0)), (1, .int ((-1)))] := hl
        have hI : w0 = (u.1, u.2.1, u.2.2.1, u.2.2.2.1, w0.2.2.2.2.1, u.2.2.2.2.2) ∧ wf_TI2 (wf_lr u.2.2.2.1) u.2.2.2.2.1 w0.2.2.2.2.1 130 cy := hI
        refine lv_iload hx hb d_M_takeAway_54 (lv_at hl 0 rfl) ?_
        refine lv_sipush (v := 130) hx hb d_M_takeAway_56 (by decide) ?_
        refine lv_icmp_ge (tgt := 143) hx hb d_M_takeAway_59 (by decide) (fun c_21 => ?_) (fun c_21 => False.elim (by first | exact absurd (nI_le (Nat.le_refl 130) (by decide)) c_21 | exact absurd c_21 (nI_le (Nat.le_refl 130) (by decide))))
        refine lv_iconst (v := 1) hx hb d_M_takeAway_143 (by decide) ?_
        exact wf_retz C hr (rfl) hlocks w0 (Or.inl ⟨rfl, h1, _, hI.1, wf_TI2_end (by decide) hI.2 h1⟩) hP hK hD hS (fun _ h => h) d_M_takeAway_144
    · have h1 : ¬ wf_sm (wf_lr u.2.2.2.1) 130 ≤ wf_sm u.2.2.2.2.1 130 := of_decide_eq_false (hI.symm.trans ((wf_bi0 _).mp c1))
      refine lv_iconst (v := 0) hx hb d_M_takeAway_47 (by decide) ?_
      exact wf_retz C hr (rfl) hlocks u (Or.inr ⟨rfl, h1, rfl⟩) hP hK hD hS (fun _ h => h) d_M_takeAway_48

set_option maxHeartbeats 4000000 in
set_option maxRecDepth 100000 in
theorem kM_awayA {p : Program} {l : Launch} {e : Env} {R : Room} {s : State} {m : MethodId} {args : Array Value} {below : List Frame} {meth : Method} {c : Code} {H : Heap} {locs : List Loc} {cells slots : Nat} {Q : State → Prop} {cc : ByteArray} {pc nL : Nat} {ls : Array Slot} {rest : List Value} {D : va_G} {q : Nat → Nat} {κ : Nat → ClassId} {A : Nat → Prop} {u : SM}  (C : CallFix p m c cc nL s args wG RM) (hsz : ls.size = nL) (hR : 2 ≤ R.frames ∧ 86 ≤ R.locals) (hw : (rest.map fun v => v.category).sum ≤ 8) (hc : cells + 0 ≤ R.cells ∧ slots + 0 ≤ R.slots) (hP : va_P D vwCl (wM q κ u) H) (hK : va_K D vwCl (tyM κ) s) (hD : va_D A (wM q κ u)) (hS : va_S A s.heap H locs) (hA : ∀ q, s.heap.size ≤ q → A q) (hdg : decode cc pc = .ok (.invokevirtual 62, 3)) (kk : ∀ (r_ : Int32) (v : SM) (H1 : Heap) (locs1 : List Loc), (r_ = 1 ∧ wf_sm (wf_lr u.2.2.2.1) 130 ≤ wf_sm u.2.2.2.2.1 130 ∧ ∃ f : Nat → Bool, v = (u.1, u.2.1, u.2.2.1, u.2.2.2.1, f, u.2.2.2.2.2) ∧ wf_sm f 130 = wf_sm u.2.2.2.2.1 130 - wf_sm (wf_lr u.2.2.2.1) 130) ∨ (r_ = 0 ∧ ¬ wf_sm (wf_lr u.2.2.2.1) 130 ≤ wf_sm u.2.2.2.2.1 130 ∧ v = u) → va_P D vwCl (wM q κ v) H1 → va_D A (wM q κ v) → va_S A s.heap H1 locs1 → W p l e R s m args below meth c H1 locs1 (cells) (slots) Q (F0 m (pc + 3) ls (.int r_ :: rest))) : W p l e R s m args below meth c H locs cells slots Q (F0 m pc ls (.int ((-1)) :: .ref (q 0) :: rest)) := by
  exact wf_ci (va_runV (As := [.int ((-1))]) (rest := rest) C (c_M_takeAwayA l D q κ u  H.size) (cwV 1 C.2.2.2.2 (wG_V (fun _ h => h) k_ml_M_62 k_im_M_takeAway k_se_M_takeAway k_in_M k_M_takeAway) rfl rfl rfl (by decide +kernel) ⟨hR.1, hR.2⟩) ⟨wf_blind, va_recv hK hP (ci := 1) (q0 := 0) rfl rfl, wf_pre hP hK hD⟩ rfl rfl hsz rfl (lv_room hw) hdg ⟨hc.1, hc.2⟩) (fun _ h => h) hS hD hA kk

set_option maxHeartbeats 4000000 in
set_option maxRecDepth 100000 in
/-- M_join -/
theorem c_M_joinAdd (l : Launch) (D : va_G) (q : Nat → Nat) (κ : Nat → ClassId) (u : SM)  (sz : Nat) : Met l y_M_join (.code y_M_join b_M_join 7 (some .boolean) :: wG) (wf_rm 0 0 0 0) (wf_Pc D vwCl (wM q κ u) (tyM κ) ([.ref (q 0), .int 0]) sz) (va_Qi (fun r v => ∃ c_ : Bool, r = wf_bi c_ ∧ v = (u.1, v.2.1, u.2.2) ∧ wf_JA u.2.1 v.2.1 128 c_) (wf_B D vwCl (wM q κ) (tyM κ) (va_A (wM q κ u) sz)) (va_A (wM q κ u) sz)) 0 0 (va_A (wM q κ u) sz) := by
  refine wf_open (by decide) (Nat.le_of_ble_eq_true rfl) k_M_join ?_
  intro p e s m below meth c ls hsz C hr hlocks hnm hex hP hK hD hl
  subst hsz
  have hx := C.1
  have hb := C.2.1
  have hml := C.2.2.1
  have hown := C.2.2.2.1
  have hts := C.2.2.2.2
  have hA : ∀ j : Nat, s.heap.size ≤ j → va_A (wM q κ u) s.heap.size j := fun j h => Or.inr h
  have hS : va_S (va_A (wM q κ u) s.heap.size) s.heap s.heap [] := va_S.rf
  generalize hAe : va_A (wM q κ u) s.heap.size = A at hA hS hD ⊢
  have hl : lv_has ls 7 [(0, .ref (q 0)), (1, .int (0))] := hl
  refine lv_iconst (v := 0) hx hb d_M_join_0 (by decide) ?_
  refine lv_istore_n (lv' := [(2, .int (0)), (0, .ref (q 0)), (1, .int (0))]) hx hb d_M_join_1 rfl hl (by decide) rfl (fun ls hl => ?_)
  refine lv_iconst (v := 0) hx hb d_M_join_2 (by decide) ?_
  refine lv_istore_n (lv' := [(3, .int (0)), (2, .int (0)), (0, .ref (q 0)), (1, .int (0))]) hx hb d_M_join_3 rfl hl (by decide) rfl (fun ls hl => ?_)
  refine wf_forH (σ := SM × Bool) 128 (fun i x => x.1 = (u.1, x.1.2.1, u.2.2) ∧ wf_JA u.2.1 x.1.2.1 i x.2) (fun x => wM q κ x.1) (fun i x => [(3, .int (nI i)), (2, .int (wf_bi x.2)), (0, .ref (q 0)), (1, .int (0))]) (fun i x H locs ls hi hI hP hD hS hl ih => ?_) (fun x H locs ls hI hP hD hS hl => ?_) (u, false) (⟨rfl, fun _ _ => rfl, rfl⟩) hP hD hS (lv_sub hl [0, 1, 2, 3] rfl)
  · obtain ⟨w0, cy⟩ := x
    have hP : va_P D vwCl (wM q κ w0) H := hP
    have hD : va_D A (wM q κ w0) := hD
    have hl : lv_has ls 7 [(3, .int (nI i)), (2, .int (wf_bi cy)), (0, .ref (q 0)), (1, .int (0))] := hl
    have hI : w0 = (u.1, w0.2.1, u.2.2) ∧ wf_JA u.2.1 w0.2.1 i cy := hI
    refine lv_iload_n hx hb d_M_join_4 rfl (lv_at hl 0 rfl) ?_
    refine lv_sipush (v := 128) hx hb d_M_join_5 (by decide) ?_
    refine lv_icmp_ge (tgt := 145) hx hb d_M_join_8 (by decide) (fun c_1 => False.elim (by first | exact absurd c_1 (nI_ge hi (by decide)) | exact absurd (nI_ge hi (by decide)) c_1)) (fun c_1 => ?_)
    refine lv_aload_n hx hb d_M_join_11 rfl (lv_at hl 2 rfl) ?_
    refine gM C hK hP 0 rfl 1 (by decide) k_fl_M_bits rfl d_M_join_12 ?_
    refine lv_sipush (v := 1024) hx hb d_M_join_15 (by decide) ?_
    refine lv_iload_n hx hb d_M_join_18 rfl (lv_at hl 0 rfl) ?_
    refine lv_iadd hx hb d_M_join_19 ?_
    refine wf_zald C hK hP 1 0 rfl rfl (k := 1024 + i) (wf_ia rfl rfl) (by omega) (by decide) d_M_join_20 ?_
    obtain ⟨a1, ha1⟩ : ∃ b : Bool, b = w0.2.1 (1024 + i) := ⟨_, rfl⟩
    rw [← ha1]
    refine lv_istore (lv' := [(4, .int (wf_bi a1)), (3, .int (nI i)), (2, .int (wf_bi cy)), (0, .ref (q 0)), (1, .int (0))]) hx hb d_M_join_21 hl (by decide) rfl (fun ls hl => ?_)
    refine lv_aload_n hx hb d_M_join_23 rfl (lv_at hl 3 rfl) ?_
    refine gM C hK hP 0 rfl 1 (by decide) k_fl_M_bits rfl d_M_join_24 ?_
    refine lv_sipush (v := 1152) hx hb d_M_join_27 (by decide) ?_
    refine lv_iload_n hx hb d_M_join_30 rfl (lv_at hl 1 rfl) ?_
    refine lv_iadd hx hb d_M_join_31 ?_
    refine wf_zald C hK hP 1 0 rfl rfl (k := 1152 + i) (wf_ia rfl rfl) (by omega) (by decide) d_M_join_32 ?_
    obtain ⟨b1, hb1⟩ : ∃ b : Bool, b = w0.2.1 (1152 + i) := ⟨_, rfl⟩
    rw [← hb1]
    refine lv_istore (lv' := [(5, .int (wf_bi b1)), (4, .int (wf_bi a1)), (3, .int (nI i)), (2, .int (wf_bi cy)), (0, .ref (q 0)), (1, .int (0))]) hx hb d_M_join_33 hl (by decide) rfl (fun ls hl => ?_)
    refine lv_iload hx hb d_M_join_35 (lv_at hl 1 rfl) ?_
    refine lv_iload hx hb d_M_join_37 (lv_at hl 0 rfl) ?_
    refine wf_cutI (pcj := 47) (ls := ls) (rest := []) (fun z => z = wf_bi (a1 != b1)) (fun z_2 ez_2 => ?_) (fun jn => ?_)
    · subst ez_2
      refine lv_iload_n hx hb d_M_join_47 rfl (lv_at hl 3 rfl) ?_
      refine wf_cutI (pcj := 56) (ls := ls) (rest := []) (fun z => z = wf_bi ((a1 != b1) != cy)) (fun z_3 ez_3 => ?_) (fun jn => ?_)
      · subst ez_3
        refine lv_istore (lv' := [(6, .int (wf_bi ((a1 != b1) != cy))), (5, .int (wf_bi b1)), (4, .int (wf_bi a1)), (3, .int (nI i)), (2, .int (wf_bi cy)), (0, .ref (q 0)), (1, .int (0))]) hx hb d_M_join_56 hl (by decide) rfl (fun ls hl => ?_)
        refine lv_iload_n hx hb d_M_join_58 rfl (lv_at hl 6 rfl) ?_
        refine lv_if_eq (tgt := 93) hx hb d_M_join_59 (by decide) (fun _ => ?_) (fun c_4 => False.elim (absurd c_4 (by decide)))
        refine lv_iload hx hb d_M_join_93 (lv_at hl 2 rfl) ?_
        refine wf_cutI (pcj := 126) (ls := ls) (rest := []) (fun z => z = wf_bi (a1 && b1 || a1 && cy || b1 && cy)) (fun z_5 ez_5 => ?_) (fun jn => ?_)
        · subst ez_5
          refine lv_istore_n (lv' := [(2, .int (wf_bi (a1 && b1 || a1 && cy || b1 && cy))), (6, .int (wf_bi ((a1 != b1) != cy))), (5, .int (wf_bi b1)), (4, .int (wf_bi a1)), (3, .int (nI i)), (0, .ref (q 0)), (1, .int (0))]) hx hb d_M_join_126 rfl hl (by decide) rfl (fun ls hl => ?_)
          refine lv_aload_n hx hb d_M_join_127 rfl (lv_at hl 5 rfl) ?_
          refine gM C hK hP 0 rfl 1 (by decide) k_fl_M_bits rfl d_M_join_128 ?_
          refine lv_sipush (v := 1024) hx hb d_M_join_131 (by decide) ?_
          refine lv_iload_n hx hb d_M_join_134 rfl (lv_at hl 4 rfl) ?_
          refine lv_iadd hx hb d_M_join_135 ?_
          refine lv_iload hx hb d_M_join_136 (lv_at hl 1 rfl) ?_
          refine wf_zast C hK hP hD hS 1 0 rfl rfl (k := 1024 + i) (b := (((a1 != b1) != cy))) (wf_ia rfl rfl) (by omega) (by decide) d_M_join_138 (fun H locs hP hD hS => ?_)
          have hP : va_P D vwCl (wM q κ (w0.1, va_up w0.2.1 (1024 + i) (((a1 != b1) != cy)), w0.2.2)) H := hP
          have hD : va_D A (wM q κ (w0.1, va_up w0.2.1 (1024 + i) (((a1 != b1) != cy)), w0.2.2)) := hD
          generalize eu_6 : ((w0.1, va_up w0.2.1 (1024 + i) (((a1 != b1) != cy)), w0.2.2) : SM) = u_6 at hP hD
          refine lv_iinc (v := nI (i + 1)) (lv' := [(3, .int (nI (i + 1))), (2, .int (wf_bi (a1 && b1 || a1 && cy || b1 && cy))), (6, .int (wf_bi ((a1 != b1) != cy))), (5, .int (wf_bi b1)), (4, .int (wf_bi a1)), (0, .ref (q 0)), (1, .int (0))]) hx hb d_M_join_139 hl (k := 4) rfl (nI_1 _) (by decide) rfl (fun ls hl => ?_)
          refine lv_goto (tgt := 4) hx hb d_M_join_142 (by decide) ?_
          exact ih (u_6, _) H locs ls ⟨by rw [← eu_6, hI.1], by rw [← eu_6]; exact wf_JA_S hi hI.2 ha1 hb1⟩ hP hD hS (lv_sub hl [0, 1, 5, 6] rfl)
        · refine lv_if_eq (tgt := 103) hx hb d_M_join_95 (by decide) (fun c_7 => ?_) (fun c_7 => ?_)
          · refine lv_iload hx hb d_M_join_103 (lv_at hl 2 rfl) ?_
            refine lv_if_eq (tgt := 112) hx hb d_M_join_105 (by decide) (fun c_8 => ?_) (fun c_8 => ?_)
            · refine lv_iload hx hb d_M_join_112 (lv_at hl 1 rfl) ?_
              refine lv_if_eq (tgt := 125) hx hb d_M_join_114 (by decide) (fun c_9 => ?_) (fun c_9 => ?_)
              · refine lv_iconst (v := 0) hx hb d_M_join_125 (by decide) ?_
                exact jn _ (by revert c_7 c_8 c_9; cases a1 <;> cases b1 <;> cases cy <;> decide)
              · refine lv_iload_n hx hb d_M_join_117 rfl (lv_at hl 4 rfl) ?_
                refine lv_if_eq (tgt := 125) hx hb d_M_join_118 (by decide) (fun c_10 => ?_) (fun c_10 => ?_)
                · refine lv_iconst (v := 0) hx hb d_M_join_125 (by decide) ?_
                  exact jn _ (by revert c_7 c_8 c_9 c_10; cases a1 <;> cases b1 <;> cases cy <;> decide)
                · refine lv_iconst (v := 1) hx hb d_M_join_121 (by decide) ?_
                  refine lv_goto (tgt := 126) hx hb d_M_join_122 (by decide) ?_
                  exact jn _ (by revert c_7 c_8 c_9 c_10; cases a1 <;> cases b1 <;> cases cy <;> decide)
            · refine lv_iload_n hx hb d_M_join_108 rfl (lv_at hl 4 rfl) ?_
              refine lv_if_ne (tgt := 121) hx hb d_M_join_109 (by decide) (fun c_11 => ?_) (fun c_11 => ?_)
              · refine lv_iconst (v := 1) hx hb d_M_join_121 (by decide) ?_
                refine lv_goto (tgt := 126) hx hb d_M_join_122 (by decide) ?_
                exact jn _ (by revert c_7 c_8 c_11; cases a1 <;> cases b1 <;> cases cy <;> decide)
              · refine lv_iload hx hb d_M_join_112 (lv_at hl 1 rfl) ?_
                refine lv_if_eq (tgt := 125) hx hb d_M_join_114 (by decide) (fun c_12 => ?_) (fun c_12 => ?_)
                · refine lv_iconst (v := 0) hx hb d_M_join_125 (by decide) ?_
                  exact jn _ (by revert c_7 c_8 c_11 c_12; cases a1 <;> cases b1 <;> cases cy <;> decide)
                · refine lv_iload_n hx hb d_M_join_117 rfl (lv_at hl 4 rfl) ?_
                  refine lv_if_eq (tgt := 125) hx hb d_M_join_118 (by decide) (fun c_13 => ?_) (fun c_13 => ?_)
                  · refine lv_iconst (v := 0) hx hb d_M_join_125 (by decide) ?_
                    exact jn _ (by revert c_7 c_8 c_11 c_12 c_13; cases a1 <;> cases b1 <;> cases cy <;> decide)
                  · refine lv_iconst (v := 1) hx hb d_M_join_121 (by decide) ?_
                    refine lv_goto (tgt := 126) hx hb d_M_join_122 (by decide) ?_
                    exact jn _ (by revert c_7 c_8 c_11 c_12 c_13; cases a1 <;> cases b1 <;> cases cy <;> decide)
          · refine lv_iload hx hb d_M_join_98 (lv_at hl 1 rfl) ?_
            refine lv_if_ne (tgt := 121) hx hb d_M_join_100 (by decide) (fun c_14 => ?_) (fun c_14 => ?_)
            · refine lv_iconst (v := 1) hx hb d_M_join_121 (by decide) ?_
              refine lv_goto (tgt := 126) hx hb d_M_join_122 (by decide) ?_
              exact jn _ (by revert c_7 c_14; cases a1 <;> cases b1 <;> cases cy <;> decide)
            · refine lv_iload hx hb d_M_join_103 (lv_at hl 2 rfl) ?_
              refine lv_if_eq (tgt := 112) hx hb d_M_join_105 (by decide) (fun c_15 => ?_) (fun c_15 => ?_)
              · refine lv_iload hx hb d_M_join_112 (lv_at hl 1 rfl) ?_
                refine lv_if_eq (tgt := 125) hx hb d_M_join_114 (by decide) (fun c_16 => ?_) (fun c_16 => ?_)
                · refine lv_iconst (v := 0) hx hb d_M_join_125 (by decide) ?_
                  exact jn _ (by revert c_7 c_14 c_15 c_16; cases a1 <;> cases b1 <;> cases cy <;> decide)
                · refine lv_iload_n hx hb d_M_join_117 rfl (lv_at hl 4 rfl) ?_
                  refine lv_if_eq (tgt := 125) hx hb d_M_join_118 (by decide) (fun c_17 => ?_) (fun c_17 => ?_)
                  · refine lv_iconst (v := 0) hx hb d_M_join_125 (by decide) ?_
                    exact jn _ (by revert c_7 c_14 c_15 c_16 c_17; cases a1 <;> cases b1 <;> cases cy <;> decide)
                  · refine lv_iconst (v := 1) hx hb d_M_join_121 (by decide) ?_
                    refine lv_goto (tgt := 126) hx hb d_M_join_122 (by decide) ?_
                    exact jn _ (by revert c_7 c_14 c_15 c_16 c_17; cases a1 <;> cases b1 <;> cases cy <;> decide)
              · refine lv_iload_n hx hb d_M_join_108 rfl (lv_at hl 4 rfl) ?_
                refine lv_if_ne (tgt := 121) hx hb d_M_join_109 (by decide) (fun c_18 => ?_) (fun c_18 => ?_)
                · refine lv_iconst (v := 1) hx hb d_M_join_121 (by decide) ?_
                  refine lv_goto (tgt := 126) hx hb d_M_join_122 (by decide) ?_
                  exact jn _ (by revert c_7 c_14 c_15 c_18; cases a1 <;> cases b1 <;> cases cy <;> decide)
                · refine lv_iload hx hb d_M_join_112 (lv_at hl 1 rfl) ?_
                  refine lv_if_eq (tgt := 125) hx hb d_M_join_114 (by decide) (fun c_19 => ?_) (fun c_19 => ?_)
                  · refine lv_iconst (v := 0) hx hb d_M_join_125 (by decide) ?_
                    exact jn _ (by revert c_7 c_14 c_15 c_18 c_19; cases a1 <;> cases b1 <;> cases cy <;> decide)
                  · refine lv_iload_n hx hb d_M_join_117 rfl (lv_at hl 4 rfl) ?_
                    refine lv_if_eq (tgt := 125) hx hb d_M_join_118 (by decide) (fun c_20 => ?_) (fun c_20 => ?_)
                    · refine lv_iconst (v := 0) hx hb d_M_join_125 (by decide) ?_
                      exact jn _ (by revert c_7 c_14 c_15 c_18 c_19 c_20; cases a1 <;> cases b1 <;> cases cy <;> decide)
                    · refine lv_iconst (v := 1) hx hb d_M_join_121 (by decide) ?_
                      refine lv_goto (tgt := 126) hx hb d_M_join_122 (by decide) ?_
                      exact jn _ (by revert c_7 c_14 c_15 c_18 c_19 c_20; cases a1 <;> cases b1 <;> cases cy <;> decide)
      · refine lv_icmp_eq (tgt := 55) hx hb d_M_join_48 (by decide) (fun c_21 => ?_) (fun c_21 => ?_)
        · refine lv_iconst (v := 0) hx hb d_M_join_55 (by decide) ?_
          exact jn _ (by revert c_21; cases a1 <;> cases b1 <;> cases cy <;> decide)
        · refine lv_iconst (v := 1) hx hb d_M_join_51 (by decide) ?_
          refine lv_goto (tgt := 56) hx hb d_M_join_52 (by decide) ?_
          exact jn _ (by revert c_21; cases a1 <;> cases b1 <;> cases cy <;> decide)
    · refine lv_icmp_eq (tgt := 46) hx hb d_M_join_39 (by decide) (fun c_22 => ?_) (fun c_22 => ?_)
      · refine lv_iconst (v := 0) hx hb d_M_join_46 (by decide) ?_
        exact jn _ (by revert c_22; cases a1 <;> cases b1 <;> decide)
      · refine lv_iconst (v := 1) hx hb d_M_join_42 (by decide) ?_
        refine lv_goto (tgt := 47) hx hb d_M_join_43 (by decide) ?_
        exact jn _ (by revert c_22; cases a1 <;> cases b1 <;> decide)
  · obtain ⟨w0, cy⟩ := x
    have hP : va_P D vwCl (wM q κ w0) H := hP
    have hD : va_D A (wM q κ w0) := hD
    have hl : lv_has ls 7 [(3, .int (nI 128)), (2, .int (wf_bi cy)), (0, .ref (q 0)), (1, .int (0))] := hl
    have hI : w0 = (u.1, w0.2.1, u.2.2) ∧ wf_JA u.2.1 w0.2.1 128 cy := hI
    refine lv_iload_n hx hb d_M_join_4 rfl (lv_at hl 0 rfl) ?_
    refine lv_sipush (v := 128) hx hb d_M_join_5 (by decide) ?_
    refine lv_icmp_ge (tgt := 145) hx hb d_M_join_8 (by decide) (fun c_23 => ?_) (fun c_23 => False.elim (by first | exact absurd (nI_le (Nat.le_refl 128) (by decide)) c_23 | exact absurd c_23 (nI_le (Nat.le_refl 128) (by decide))))
    refine lv_iload_n hx hb d_M_join_145 rfl (lv_at hl 1 rfl) ?_
    exact wf_retz C hr (wf_bi_ret _) hlocks w0 (⟨cy, rfl, hI.1, hI.2⟩) hP hK hD hS (fun _ h => h) d_M_join_146

set_option maxHeartbeats 4000000 in
set_option maxRecDepth 100000 in
theorem kM_joinAdd {p : Program} {l : Launch} {e : Env} {R : Room} {s : State} {m : MethodId} {args : Array Value} {below : List Frame} {meth : Method} {c : Code} {H : Heap} {locs : List Loc} {cells slots : Nat} {Q : State → Prop} {cc : ByteArray} {pc nL : Nat} {ls : Array Slot} {rest : List Value} {D : va_G} {q : Nat → Nat} {κ : Nat → ClassId} {A : Nat → Prop} {u : SM}  (C : CallFix p m c cc nL s args wG RM) (hsz : ls.size = nL) (hR : 1 ≤ R.frames ∧ 26 ≤ R.locals) (hw : (rest.map fun v => v.category).sum ≤ 8) (hc : cells + 0 ≤ R.cells ∧ slots + 0 ≤ R.slots) (hP : va_P D vwCl (wM q κ u) H) (hK : va_K D vwCl (tyM κ) s) (hD : va_D A (wM q κ u)) (hS : va_S A s.heap H locs) (hA : ∀ q, s.heap.size ≤ q → A q) (hdg : decode cc pc = .ok (.invokevirtual 40, 3)) (kk : ∀ (r : Int32) (v : SM) (H1 : Heap) (locs1 : List Loc), (∃ c_ : Bool, r = wf_bi c_ ∧ v = (u.1, v.2.1, u.2.2) ∧ wf_JA u.2.1 v.2.1 128 c_) → va_P D vwCl (wM q κ v) H1 → va_D A (wM q κ v) → va_S A s.heap H1 locs1 → W p l e R s m args below meth c H1 locs1 (cells) (slots) Q (F0 m (pc + 3) ls (.int r :: rest))) : W p l e R s m args below meth c H locs cells slots Q (F0 m pc ls (.int 0 :: .ref (q 0) :: rest)) := by
  exact wf_ci (va_runV (As := [.int 0]) (rest := rest) C (c_M_joinAdd l D q κ u H.size) (cwV 1 C.2.2.2.2 (wG_V (fun _ h => h) k_ml_M_40 k_im_M_join k_se_M_join k_in_M k_M_join) rfl rfl rfl (by decide +kernel) ⟨hR.1, hR.2⟩) ⟨wf_blind, va_recv hK hP (ci := 1) (q0 := 0) rfl rfl, wf_pre hP hK hD⟩ rfl rfl hsz rfl (lv_room hw) hdg ⟨hc.1, hc.2⟩) (fun _ h => h) hS hD hA kk

set_option maxHeartbeats 4000000 in
set_option maxRecDepth 100000 in
/-- M_join -/
theorem c_M_joinSub (l : Launch) (D : va_G) (q : Nat → Nat) (κ : Nat → ClassId) (u : SM)  (sz : Nat) : Met l y_M_join (.code y_M_join b_M_join 7 (some .boolean) :: wG) (wf_rm 0 0 0 0) (wf_Pc D vwCl (wM q κ u) (tyM κ) ([.ref (q 0), .int 1]) sz) (va_Qi (fun r v => ∃ c_ : Bool, r = wf_bi c_ ∧ v = (u.1, v.2.1, u.2.2) ∧ wf_JS u.2.1 v.2.1 128 c_) (wf_B D vwCl (wM q κ) (tyM κ) (va_A (wM q κ u) sz)) (va_A (wM q κ u) sz)) 0 0 (va_A (wM q κ u) sz) := by
  refine wf_open (by decide) (Nat.le_of_ble_eq_true rfl) k_M_join ?_
  intro p e s m below meth c ls hsz C hr hlocks hnm hex hP hK hD hl
  subst hsz
  have hx := C.1
  have hb := C.2.1
  have hml := C.2.2.1
  have hown := C.2.2.2.1
  have hts := C.2.2.2.2
  have hA : ∀ j : Nat, s.heap.size ≤ j → va_A (wM q κ u) s.heap.size j := fun j h => Or.inr h
  have hS : va_S (va_A (wM q κ u) s.heap.size) s.heap s.heap [] := va_S.rf
  generalize hAe : va_A (wM q κ u) s.heap.size = A at hA hS hD ⊢
  have hl : lv_has ls 7 [(0, .ref (q 0)), (1, .int (1))] := hl
  refine lv_iconst (v := 0) hx hb d_M_join_0 (by decide) ?_
  refine lv_istore_n (lv' := [(2, .int (0)), (0, .ref (q 0)), (1, .int (1))]) hx hb d_M_join_1 rfl hl (by decide) rfl (fun ls hl => ?_)
  refine lv_iconst (v := 0) hx hb d_M_join_2 (by decide) ?_
  refine lv_istore_n (lv' := [(3, .int (0)), (2, .int (0)), (0, .ref (q 0)), (1, .int (1))]) hx hb d_M_join_3 rfl hl (by decide) rfl (fun ls hl => ?_)
  refine wf_forH (σ := SM × Bool) 128 (fun i x => x.1 = (u.1, x.1.2.1, u.2.2) ∧ wf_JS u.2.1 x.1.2.1 i x.2) (fun x => wM q κ x.1) (fun i x => [(3, .int (nI i)), (2, .int (wf_bi x.2)), (0, .ref (q 0)), (1, .int (1))]) (fun i x H locs ls hi hI hP hD hS hl ih => ?_) (fun x H locs ls hI hP hD hS hl => ?_) (u, false) (⟨rfl, fun _ _ => rfl, rfl⟩) hP hD hS (lv_sub hl [0, 1, 2, 3] rfl)
  · obtain ⟨w0, cy⟩ := x
    have hP : va_P D vwCl (wM q κ w0) H := hP
    have hD : va_D A (wM q κ w0) := hD
    have hl : lv_has ls 7 [(3, .int (nI i)), (2, .int (wf_bi cy)), (0, .ref (q 0)), (1, .int (1))] := hl
    have hI : w0 = (u.1, w0.2.1, u.2.2) ∧ wf_JS u.2.1 w0.2.1 i cy := hI
    refine lv_iload_n hx hb d_M_join_4 rfl (lv_at hl 0 rfl) ?_
    refine lv_sipush (v := 128) hx hb d_M_join_5 (by decide) ?_
    refine lv_icmp_ge (tgt := 145) hx hb d_M_join_8 (by decide) (fun c_1 => False.elim (by first | exact absurd c_1 (nI_ge hi (by decide)) | exact absurd (nI_ge hi (by decide)) c_1)) (fun c_1 => ?_)
    refine lv_aload_n hx hb d_M_join_11 rfl (lv_at hl 2 rfl) ?_
    refine gM C hK hP 0 rfl 1 (by decide) k_fl_M_bits rfl d_M_join_12 ?_
    refine lv_sipush (v := 1024) hx hb d_M_join_15 (by decide) ?_
    refine lv_iload_n hx hb d_M_join_18 rfl (lv_at hl 0 rfl) ?_
    refine lv_iadd hx hb d_M_join_19 ?_
    refine wf_zald C hK hP 1 0 rfl rfl (k := 1024 + i) (wf_ia rfl rfl) (by omega) (by decide) d_M_join_20 ?_
    obtain ⟨a1, ha1⟩ : ∃ b : Bool, b = w0.2.1 (1024 + i) := ⟨_, rfl⟩
    rw [← ha1]
    refine lv_istore (lv' := [(4, .int (wf_bi a1)), (3, .int (nI i)), (2, .int (wf_bi cy)), (0, .ref (q 0)), (1, .int (1))]) hx hb d_M_join_21 hl (by decide) rfl (fun ls hl => ?_)
    refine lv_aload_n hx hb d_M_join_23 rfl (lv_at hl 3 rfl) ?_
    refine gM C hK hP 0 rfl 1 (by decide) k_fl_M_bits rfl d_M_join_24 ?_
    refine lv_sipush (v := 1152) hx hb d_M_join_27 (by decide) ?_
    refine lv_iload_n hx hb d_M_join_30 rfl (lv_at hl 1 rfl) ?_
    refine lv_iadd hx hb d_M_join_31 ?_
    refine wf_zald C hK hP 1 0 rfl rfl (k := 1152 + i) (wf_ia rfl rfl) (by omega) (by decide) d_M_join_32 ?_
    obtain ⟨b1, hb1⟩ : ∃ b : Bool, b = w0.2.1 (1152 + i) := ⟨_, rfl⟩
    rw [← hb1]
    refine lv_istore (lv' := [(5, .int (wf_bi b1)), (4, .int (wf_bi a1)), (3, .int (nI i)), (2, .int (wf_bi cy)), (0, .ref (q 0)), (1, .int (1))]) hx hb d_M_join_33 hl (by decide) rfl (fun ls hl => ?_)
    refine lv_iload hx hb d_M_join_35 (lv_at hl 1 rfl) ?_
    refine lv_iload hx hb d_M_join_37 (lv_at hl 0 rfl) ?_
    refine wf_cutI (pcj := 47) (ls := ls) (rest := []) (fun z => z = wf_bi (a1 != b1)) (fun z_2 ez_2 => ?_) (fun jn => ?_)
    · subst ez_2
      refine lv_iload_n hx hb d_M_join_47 rfl (lv_at hl 3 rfl) ?_
      refine wf_cutI (pcj := 56) (ls := ls) (rest := []) (fun z => z = wf_bi ((a1 != b1) != cy)) (fun z_3 ez_3 => ?_) (fun jn => ?_)
      · subst ez_3
        refine lv_istore (lv' := [(6, .int (wf_bi ((a1 != b1) != cy))), (5, .int (wf_bi b1)), (4, .int (wf_bi a1)), (3, .int (nI i)), (2, .int (wf_bi cy)), (0, .ref (q 0)), (1, .int (1))]) hx hb d_M_join_56 hl (by decide) rfl (fun ls hl => ?_)
        refine lv_iload_n hx hb d_M_join_58 rfl (lv_at hl 6 rfl) ?_
        refine lv_if_eq (tgt := 93) hx hb d_M_join_59 (by decide) (fun c_4 => False.elim (absurd c_4 (by decide))) (fun _ => ?_)
        refine lv_iload hx hb d_M_join_62 (lv_at hl 2 rfl) ?_
        refine wf_cutI (pcj := 126) (ls := ls) (rest := []) (fun z => z = wf_bi (!a1 && (b1 || cy) || b1 && cy)) (fun z_5 ez_5 => ?_) (fun jn => ?_)
        · subst ez_5
          refine lv_istore_n (lv' := [(2, .int (wf_bi (!a1 && (b1 || cy) || b1 && cy))), (6, .int (wf_bi ((a1 != b1) != cy))), (5, .int (wf_bi b1)), (4, .int (wf_bi a1)), (3, .int (nI i)), (0, .ref (q 0)), (1, .int (1))]) hx hb d_M_join_126 rfl hl (by decide) rfl (fun ls hl => ?_)
          refine lv_aload_n hx hb d_M_join_127 rfl (lv_at hl 5 rfl) ?_
          refine gM C hK hP 0 rfl 1 (by decide) k_fl_M_bits rfl d_M_join_128 ?_
          refine lv_sipush (v := 1024) hx hb d_M_join_131 (by decide) ?_
          refine lv_iload_n hx hb d_M_join_134 rfl (lv_at hl 4 rfl) ?_
          refine lv_iadd hx hb d_M_join_135 ?_
          refine lv_iload hx hb d_M_join_136 (lv_at hl 1 rfl) ?_
          refine wf_zast C hK hP hD hS 1 0 rfl rfl (k := 1024 + i) (b := (((a1 != b1) != cy))) (wf_ia rfl rfl) (by omega) (by decide) d_M_join_138 (fun H locs hP hD hS => ?_)
          have hP : va_P D vwCl (wM q κ (w0.1, va_up w0.2.1 (1024 + i) (((a1 != b1) != cy)), w0.2.2)) H := hP
          have hD : va_D A (wM q κ (w0.1, va_up w0.2.1 (1024 + i) (((a1 != b1) != cy)), w0.2.2)) := hD
          generalize eu_6 : ((w0.1, va_up w0.2.1 (1024 + i) (((a1 != b1) != cy)), w0.2.2) : SM) = u_6 at hP hD
          refine lv_iinc (v := nI (i + 1)) (lv' := [(3, .int (nI (i + 1))), (2, .int (wf_bi (!a1 && (b1 || cy) || b1 && cy))), (6, .int (wf_bi ((a1 != b1) != cy))), (5, .int (wf_bi b1)), (4, .int (wf_bi a1)), (0, .ref (q 0)), (1, .int (1))]) hx hb d_M_join_139 hl (k := 4) rfl (nI_1 _) (by decide) rfl (fun ls hl => ?_)
          refine lv_goto (tgt := 4) hx hb d_M_join_142 (by decide) ?_
          exact ih (u_6, _) H locs ls ⟨by rw [← eu_6, hI.1], by rw [← eu_6]; exact wf_JS_S hi hI.2 ha1 hb1⟩ hP hD hS (lv_sub hl [0, 1, 5, 6] rfl)
        · refine lv_if_ne (tgt := 76) hx hb d_M_join_64 (by decide) (fun c_7 => ?_) (fun c_7 => ?_)
          · refine lv_iload hx hb d_M_join_76 (lv_at hl 1 rfl) ?_
            refine lv_if_eq (tgt := 89) hx hb d_M_join_78 (by decide) (fun c_8 => ?_) (fun c_8 => ?_)
            · refine lv_iconst (v := 0) hx hb d_M_join_89 (by decide) ?_
              refine lv_goto (tgt := 126) hx hb d_M_join_90 (by decide) ?_
              exact jn _ (by revert c_7 c_8; cases a1 <;> cases b1 <;> cases cy <;> decide)
            · refine lv_iload_n hx hb d_M_join_81 rfl (lv_at hl 4 rfl) ?_
              refine lv_if_eq (tgt := 89) hx hb d_M_join_82 (by decide) (fun c_9 => ?_) (fun c_9 => ?_)
              · refine lv_iconst (v := 0) hx hb d_M_join_89 (by decide) ?_
                refine lv_goto (tgt := 126) hx hb d_M_join_90 (by decide) ?_
                exact jn _ (by revert c_7 c_8 c_9; cases a1 <;> cases b1 <;> cases cy <;> decide)
              · refine lv_iconst (v := 1) hx hb d_M_join_85 (by decide) ?_
                refine lv_goto (tgt := 126) hx hb d_M_join_86 (by decide) ?_
                exact jn _ (by revert c_7 c_8 c_9; cases a1 <;> cases b1 <;> cases cy <;> decide)
          · refine lv_iload hx hb d_M_join_67 (lv_at hl 1 rfl) ?_
            refine lv_if_ne (tgt := 85) hx hb d_M_join_69 (by decide) (fun c_10 => ?_) (fun c_10 => ?_)
            · refine lv_iconst (v := 1) hx hb d_M_join_85 (by decide) ?_
              refine lv_goto (tgt := 126) hx hb d_M_join_86 (by decide) ?_
              exact jn _ (by revert c_7 c_10; cases a1 <;> cases b1 <;> cases cy <;> decide)
            · refine lv_iload_n hx hb d_M_join_72 rfl (lv_at hl 4 rfl) ?_
              refine lv_if_ne (tgt := 85) hx hb d_M_join_73 (by decide) (fun c_11 => ?_) (fun c_11 => ?_)
              · refine lv_iconst (v := 1) hx hb d_M_join_85 (by decide) ?_
                refine lv_goto (tgt := 126) hx hb d_M_join_86 (by decide) ?_
                exact jn _ (by revert c_7 c_10 c_11; cases a1 <;> cases b1 <;> cases cy <;> decide)
              · refine lv_iload hx hb d_M_join_76 (lv_at hl 1 rfl) ?_
                refine lv_if_eq (tgt := 89) hx hb d_M_join_78 (by decide) (fun c_12 => ?_) (fun c_12 => ?_)
                · refine lv_iconst (v := 0) hx hb d_M_join_89 (by decide) ?_
                  refine lv_goto (tgt := 126) hx hb d_M_join_90 (by decide) ?_
                  exact jn _ (by revert c_7 c_10 c_11 c_12; cases a1 <;> cases b1 <;> cases cy <;> decide)
                · refine lv_iload_n hx hb d_M_join_81 rfl (lv_at hl 4 rfl) ?_
                  refine lv_if_eq (tgt := 89) hx hb d_M_join_82 (by decide) (fun c_13 => ?_) (fun c_13 => ?_)
                  · refine lv_iconst (v := 0) hx hb d_M_join_89 (by decide) ?_
                    refine lv_goto (tgt := 126) hx hb d_M_join_90 (by decide) ?_
                    exact jn _ (by revert c_7 c_10 c_11 c_12 c_13; cases a1 <;> cases b1 <;> cases cy <;> decide)
                  · refine lv_iconst (v := 1) hx hb d_M_join_85 (by decide) ?_
                    refine lv_goto (tgt := 126) hx hb d_M_join_86 (by decide) ?_
                    exact jn _ (by revert c_7 c_10 c_11 c_12 c_13; cases a1 <;> cases b1 <;> cases cy <;> decide)
      · refine lv_icmp_eq (tgt := 55) hx hb d_M_join_48 (by decide) (fun c_14 => ?_) (fun c_14 => ?_)
        · refine lv_iconst (v := 0) hx hb d_M_join_55 (by decide) ?_
          exact jn _ (by revert c_14; cases a1 <;> cases b1 <;> cases cy <;> decide)
        · refine lv_iconst (v := 1) hx hb d_M_join_51 (by decide) ?_
          refine lv_goto (tgt := 56) hx hb d_M_join_52 (by decide) ?_
          exact jn _ (by revert c_14; cases a1 <;> cases b1 <;> cases cy <;> decide)
    · refine lv_icmp_eq (tgt := 46) hx hb d_M_join_39 (by decide) (fun c_15 => ?_) (fun c_15 => ?_)
      · refine lv_iconst (v := 0) hx hb d_M_join_46 (by decide) ?_
        exact jn _ (by revert c_15; cases a1 <;> cases b1 <;> decide)
      · refine lv_iconst (v := 1) hx hb d_M_join_42 (by decide) ?_
        refine lv_goto (tgt := 47) hx hb d_M_join_43 (by decide) ?_
        exact jn _ (by revert c_15; cases a1 <;> cases b1 <;> decide)
  · obtain ⟨w0, cy⟩ := x
    have hP : va_P D vwCl (wM q κ w0) H := hP
    have hD : va_D A (wM q κ w0) := hD
    have hl : lv_has ls 7 [(3, .int (nI 128)), (2, .int (wf_bi cy)), (0, .ref (q 0)), (1, .int (1))] := hl
    have hI : w0 = (u.1, w0.2.1, u.2.2) ∧ wf_JS u.2.1 w0.2.1 128 cy := hI
    refine lv_iload_n hx hb d_M_join_4 rfl (lv_at hl 0 rfl) ?_
    refine lv_sipush (v := 128) hx hb d_M_join_5 (by decide) ?_
    refine lv_icmp_ge (tgt := 145) hx hb d_M_join_8 (by decide) (fun c_16 => ?_) (fun c_16 => False.elim (by first | exact absurd (nI_le (Nat.le_refl 128) (by decide)) c_16 | exact absurd c_16 (nI_le (Nat.le_refl 128) (by decide))))
    refine lv_iload_n hx hb d_M_join_145 rfl (lv_at hl 1 rfl) ?_
    exact wf_retz C hr (wf_bi_ret _) hlocks w0 (⟨cy, rfl, hI.1, hI.2⟩) hP hK hD hS (fun _ h => h) d_M_join_146

set_option maxHeartbeats 4000000 in
set_option maxRecDepth 100000 in
theorem kM_joinSub {p : Program} {l : Launch} {e : Env} {R : Room} {s : State} {m : MethodId} {args : Array Value} {below : List Frame} {meth : Method} {c : Code} {H : Heap} {locs : List Loc} {cells slots : Nat} {Q : State → Prop} {cc : ByteArray} {pc nL : Nat} {ls : Array Slot} {rest : List Value} {D : va_G} {q : Nat → Nat} {κ : Nat → ClassId} {A : Nat → Prop} {u : SM}  (C : CallFix p m c cc nL s args wG RM) (hsz : ls.size = nL) (hR : 1 ≤ R.frames ∧ 26 ≤ R.locals) (hw : (rest.map fun v => v.category).sum ≤ 8) (hc : cells + 0 ≤ R.cells ∧ slots + 0 ≤ R.slots) (hP : va_P D vwCl (wM q κ u) H) (hK : va_K D vwCl (tyM κ) s) (hD : va_D A (wM q κ u)) (hS : va_S A s.heap H locs) (hA : ∀ q, s.heap.size ≤ q → A q) (hdg : decode cc pc = .ok (.invokevirtual 40, 3)) (kk : ∀ (r : Int32) (v : SM) (H1 : Heap) (locs1 : List Loc), (∃ c_ : Bool, r = wf_bi c_ ∧ v = (u.1, v.2.1, u.2.2) ∧ wf_JS u.2.1 v.2.1 128 c_) → va_P D vwCl (wM q κ v) H1 → va_D A (wM q κ v) → va_S A s.heap H1 locs1 → W p l e R s m args below meth c H1 locs1 (cells) (slots) Q (F0 m (pc + 3) ls (.int r :: rest))) : W p l e R s m args below meth c H locs cells slots Q (F0 m pc ls (.int 1 :: .ref (q 0) :: rest)) := by
  exact wf_ci (va_runV (As := [.int 1]) (rest := rest) C (c_M_joinSub l D q κ u H.size) (cwV 1 C.2.2.2.2 (wG_V (fun _ h => h) k_ml_M_40 k_im_M_join k_se_M_join k_in_M k_M_join) rfl rfl rfl (by decide +kernel) ⟨hR.1, hR.2⟩) ⟨wf_blind, va_recv hK hP (ci := 1) (q0 := 0) rfl rfl, wf_pre hP hK hD⟩ rfl rfl hsz rfl (lv_room hw) hdg ⟨hc.1, hc.2⟩) (fun _ h => h) hS hD hA kk
