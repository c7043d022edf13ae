/-! ===== productOver, checkRegister, checkApart, store, storeProduct ===== -/
theorem wf_pover {x y v1 v2 v3 v4 v5 v6 : Int64} (e1 : uN v1 = uN x / 4294967296) (e2 : uN v2 = uN x % 4294967296) (e3 : uN v3 = uN y / 4294967296) (e4 : uN v4 = uN y % 4294967296)
    (e5 : uN v5 = (uN v1 * uN v4 % 18446744073709551616 + uN v2 * uN v4 % 18446744073709551616 / 4294967296) % 18446744073709551616) (e6 : uN v6 = (uN v2 * uN v3 % 18446744073709551616 + uN v5 % 4294967296) % 18446744073709551616) :
    ((uN v1 * uN v3 % 18446744073709551616 + uN v5 / 4294967296) % 18446744073709551616 + uN v6 / 4294967296) % 18446744073709551616 = uN x * uN y / wf_N := by
  have hx := uN_lt x
  have hy := uN_lt y
  obtain ⟨h1, h2, h3⟩ := wf_over (a := uN v1) (b := uN v2) (c := uN v3) (d := uN v4) (by omega) (by omega) (by omega) (by omega)
  have hxx : uN x = uN v1 * 4294967296 + uN v2 := by omega
  have hyy : uN y = uN v3 * 4294967296 + uN v4 := by omega
  have m1 : uN v1 * uN v3 ≤ 4294967295 * 4294967295 := wf_le_mul (by omega) (by omega)
  have m2 : uN v1 * uN v4 ≤ 4294967295 * 4294967295 := wf_le_mul (by omega) (by omega)
  have m3 : uN v2 * uN v3 ≤ 4294967295 * 4294967295 := wf_le_mul (by omega) (by omega)
  have m4 : uN v2 * uN v4 ≤ 4294967295 * 4294967295 := wf_le_mul (by omega) (by omega)
  rw [hxx, hyy]
  unfold wf_N
  rw [← h3]
  generalize uN v1 * uN v3 = p1 at *
  generalize uN v1 * uN v4 = p2 at *
  generalize uN v2 * uN v3 = p3 at *
  generalize uN v2 * uN v4 = p4 at *
  rw [Nat.mod_eq_of_lt (show p2 < 18446744073709551616 by omega), Nat.mod_eq_of_lt (show p4 < 18446744073709551616 by omega), Nat.mod_eq_of_lt h1] at e5
  rw [Nat.mod_eq_of_lt (show p3 < 18446744073709551616 by omega), e5, Nat.mod_eq_of_lt h2] at e6
  rw [e6, e5]
  omega

set_option maxHeartbeats 4000000 in
set_option maxRecDepth 100000 in
/-- productOver -/
theorem c_X_productOver (l : Launch) (x y : Int64) : Met l y_X_productOver (.code y_X_productOver b_X_productOver 16 (some .long) :: wG) (wf_rm 0 0 0 0) (fun v _ => v = ([.long x, .long y] : List Value).toArray) (vp_Sl (fun r => uN r = uN x * uN y / wf_N)) 0 0 (fun _ => False) := by
  refine wf_openS (by decide) (Nat.le_of_ble_eq_true rfl) ?_
  intro p e s m below meth c ls C hr hlocks hl
  have hx := C.1
  have hb := C.2.1
  have hml := C.2.2.1
  have hown := C.2.2.2.1
  have hts := C.2.2.2.2
  have hl : lv_has ls 16 [(0, .long (x)), (2, .long (y))] := hl
  refine lv_lload_n hx hb d_X_productOver_0 rfl (lv_at hl 0 rfl) ?_
  refine lv_bipush (v := 32) hx hb d_X_productOver_1 (by decide) ?_
  refine lv_lushr hx hb d_X_productOver_3 rfl ?_
  refine lv_topl (fun v_1 ev_1 => ?_)
  refine lv_lstore (lv' := [(4, .long (v_1)), (0, .long (x)), (2, .long (y))]) hx hb d_X_productOver_4 hl (by decide) rfl (fun ls hl => ?_)
  refine lv_lload_n hx hb d_X_productOver_6 rfl (lv_at hl 1 rfl) ?_
  refine lv_ldc2 (v := 4294967295) hx hb hown (hts _ (k_cl_X_112)) d_X_productOver_7 ?_
  refine lv_land hx hb d_X_productOver_10 ?_
  refine lv_topl (fun v_2 ev_2 => ?_)
  refine lv_lstore (lv' := [(6, .long (v_2)), (4, .long (v_1)), (0, .long (x)), (2, .long (y))]) hx hb d_X_productOver_11 hl (by decide) rfl (fun ls hl => ?_)
  refine lv_lload_n hx hb d_X_productOver_13 rfl (lv_at hl 3 rfl) ?_
  refine lv_bipush (v := 32) hx hb d_X_productOver_14 (by decide) ?_
  refine lv_lushr hx hb d_X_productOver_16 rfl ?_
  refine lv_topl (fun v_3 ev_3 => ?_)
  refine lv_lstore (lv' := [(8, .long (v_3)), (6, .long (v_2)), (4, .long (v_1)), (0, .long (x)), (2, .long (y))]) hx hb d_X_productOver_17 hl (by decide) rfl (fun ls hl => ?_)
  refine lv_lload_n hx hb d_X_productOver_19 rfl (lv_at hl 4 rfl) ?_
  refine lv_ldc2 (v := 4294967295) hx hb hown (hts _ (k_cl_X_112)) d_X_productOver_20 ?_
  refine lv_land hx hb d_X_productOver_23 ?_
  refine lv_topl (fun v_4 ev_4 => ?_)
  refine lv_lstore (lv' := [(10, .long (v_4)), (8, .long (v_3)), (6, .long (v_2)), (4, .long (v_1)), (0, .long (x)), (2, .long (y))]) hx hb d_X_productOver_24 hl (by decide) rfl (fun ls hl => ?_)
  refine lv_lload hx hb d_X_productOver_26 (lv_at hl 3 rfl) ?_
  refine lv_lload hx hb d_X_productOver_28 (lv_at hl 0 rfl) ?_
  refine lv_lmul hx hb d_X_productOver_30 ?_
  refine lv_lload hx hb d_X_productOver_31 (lv_at hl 2 rfl) ?_
  refine lv_lload hx hb d_X_productOver_33 (lv_at hl 0 rfl) ?_
  refine lv_lmul hx hb d_X_productOver_35 ?_
  refine lv_bipush (v := 32) hx hb d_X_productOver_36 (by decide) ?_
  refine lv_lushr hx hb d_X_productOver_38 rfl ?_
  refine lv_ladd hx hb d_X_productOver_39 ?_
  refine lv_topl (fun v_5 ev_5 => ?_)
  refine lv_lstore (lv' := [(12, .long (v_5)), (10, .long (v_4)), (8, .long (v_3)), (6, .long (v_2)), (4, .long (v_1)), (0, .long (x)), (2, .long (y))]) hx hb d_X_productOver_40 hl (by decide) rfl (fun ls hl => ?_)
  refine lv_lload hx hb d_X_productOver_42 (lv_at hl 3 rfl) ?_
  refine lv_lload hx hb d_X_productOver_44 (lv_at hl 2 rfl) ?_
  refine lv_lmul hx hb d_X_productOver_46 ?_
  refine lv_lload hx hb d_X_productOver_47 (lv_at hl 0 rfl) ?_
  refine lv_ldc2 (v := 4294967295) hx hb hown (hts _ (k_cl_X_112)) d_X_productOver_49 ?_
  refine lv_land hx hb d_X_productOver_52 ?_
  refine lv_ladd hx hb d_X_productOver_53 ?_
  refine lv_topl (fun v_6 ev_6 => ?_)
  refine lv_lstore (lv' := [(14, .long (v_6)), (12, .long (v_5)), (10, .long (v_4)), (8, .long (v_3)), (6, .long (v_2)), (4, .long (v_1)), (0, .long (x)), (2, .long (y))]) hx hb d_X_productOver_54 hl (by decide) rfl (fun ls hl => ?_)
  refine lv_lload hx hb d_X_productOver_56 (lv_at hl 5 rfl) ?_
  refine lv_lload hx hb d_X_productOver_58 (lv_at hl 3 rfl) ?_
  refine lv_lmul hx hb d_X_productOver_60 ?_
  refine lv_lload hx hb d_X_productOver_61 (lv_at hl 1 rfl) ?_
  refine lv_bipush (v := 32) hx hb d_X_productOver_63 (by decide) ?_
  refine lv_lushr hx hb d_X_productOver_65 rfl ?_
  refine lv_ladd hx hb d_X_productOver_66 ?_
  refine lv_lload hx hb d_X_productOver_67 (lv_at hl 0 rfl) ?_
  refine lv_bipush (v := 32) hx hb d_X_productOver_69 (by decide) ?_
  refine lv_lushr hx hb d_X_productOver_71 rfl ?_
  refine lv_ladd hx hb d_X_productOver_72 ?_
  exact W.lret hx hb hr (fun t ht hW => ⟨_, rfl, by show uN _ = uN x * uN y / wf_N; rw [uN_add, uN_add, uN_mul, uN_s32, uN_s32]; exact wf_pover (x := x) (y := y) (v1 := v_1) (v2 := v_2) (v3 := v_3) (v4 := v_4) (v5 := v_5) (v6 := v_6) (by rw [ev_1, uN_s32]) (by rw [ev_2, uN_lo]) (by rw [ev_3, uN_s32]) (by rw [ev_4, uN_lo]) (by rw [ev_5, uN_add, uN_mul, uN_s32, uN_mul]) (by rw [ev_6, uN_add, uN_mul, uN_lo]), ht⟩) (fun q h => by cases h) d_X_productOver_73 hlocks

set_option maxHeartbeats 4000000 in
set_option maxRecDepth 100000 in
theorem kX_over {p : Program} {l : Launch} {e : Env} {R : Room} {s : State} {m : MethodId} {args : Array Value} {below : List Frame} {meth : Method} {c : Code} {H : Heap} {locs : List Loc} {cells slots : Nat} {Q : State → Prop} {cc : ByteArray} {pc nL : Nat} {ls : Array Slot} {rest : List Value} {x y : Int64} (C : CallFix p m c cc nL s args wG RX) (hsz : ls.size = nL) (hR : 1 ≤ R.frames ∧ 35 ≤ R.locals) (hw : (rest.map fun v => v.category).sum ≤ 8) (hc : cells ≤ R.cells ∧ slots ≤ R.slots) (hdg : decode cc pc = .ok (.invokestatic 97, 3)) (kk : ∀ r : Int64, uN r = uN x * uN y / wf_N → W p l e R s m args below meth c H locs cells slots Q (F0 m (pc + 3) ls (.long r :: rest))) : W p l e R s m args below meth c H locs cells slots Q (F0 m pc ls (.long y :: .long x :: rest)) := by
  exact vp_callSl (W.runS (As := [.long x, .long y]) (rest := rest) C (c_X_productOver l x y) (va_cwS 2 C.2.2.2.2 (wG_S (fun _ h => h) k_ml_X_97 k_st_X_productOver k_in_X k_X_productOver) rfl rfl rfl (by decide +kernel) ⟨hR.1, hR.2⟩) preEq rfl rfl hsz rfl (lv_room hw) hdg ⟨hc.1, hc.2⟩) (fun r hr => kk r hr)

set_option maxHeartbeats 4000000 in
set_option maxRecDepth 100000 in
/-- checkRegister of a register -/
theorem c_X_checkRegister (l : Launch) (r : Nat) (hr8 : r < 8) : Met l y_X_checkRegister (.code y_X_checkRegister b_X_checkRegister 1 none :: wG) (wf_rm 0 0 0 0) (fun v _ => v = ([.int (nI r)] : List Value).toArray) (va_Sv (fun _ => True)) 0 0 (fun _ => False) := by
  refine wf_openS (by decide) (Nat.le_of_ble_eq_true rfl) ?_
  intro p e s m below meth c ls C hr hlocks hl
  have hx := C.1
  have hb := C.2.1
  have hml := C.2.2.1
  have hown := C.2.2.2.1
  have hts := C.2.2.2.2
  have hl : lv_has ls 1 [(0, .int (nI r))] := hl
  refine lv_iload_n hx hb d_X_checkRegister_0 rfl (lv_at hl 0 rfl) ?_
  refine lv_if_lt (tgt := 10) hx hb d_X_checkRegister_1 (by decide) (fun c_1 => False.elim (by first | exact absurd c_1 (nI_pos (by omega)) | exact absurd (nI_pos (by omega)) c_1)) (fun c_1 => ?_)
  refine lv_iload_n hx hb d_X_checkRegister_4 rfl (lv_at hl 0 rfl) ?_
  refine lv_bipush (v := 8) hx hb d_X_checkRegister_5 (by decide) ?_
  refine lv_icmp_lt (tgt := 20) hx hb d_X_checkRegister_7 (by decide) (fun c_2 => ?_) (fun c_2 => False.elim (by first | exact absurd (nI_lt hr8 (by decide)) c_2 | exact absurd c_2 (nI_lt hr8 (by decide))))
  exact W.vret hx hb hr (fun t ht hW => ⟨rfl, trivial, ht⟩) (fun q h => by cases h) d_X_checkRegister_20 hlocks

set_option maxHeartbeats 4000000 in
set_option maxRecDepth 100000 in
theorem kX_chk {p : Program} {l : Launch} {e : Env} {R : Room} {s : State} {m : MethodId} {args : Array Value} {below : List Frame} {meth : Method} {c : Code} {H : Heap} {locs : List Loc} {cells slots : Nat} {Q : State → Prop} {cc : ByteArray} {pc nL : Nat} {ls : Array Slot} {rest : List Value} {r : Nat} (hr8 : r < 8) (C : CallFix p m c cc nL s args wG RX) (hsz : ls.size = nL) (hR : 1 ≤ R.frames ∧ 20 ≤ R.locals) (hw : (rest.map fun v => v.category).sum ≤ 8) (hc : cells ≤ R.cells ∧ slots ≤ R.slots) (hdg : decode cc pc = .ok (.invokestatic 27, 3)) (kk : W p l e R s m args below meth c H locs cells slots Q (F0 m (pc + 3) ls rest)) : W p l e R s m args below meth c H locs cells slots Q (F0 m pc ls (.int (nI r) :: rest)) := by
  exact va_csv (W.runS (As := [.int (nI r)]) (rest := rest) C (c_X_checkRegister l r hr8) (va_cwS 1 C.2.2.2.2 (wG_S (fun _ h => h) k_ml_X_27 k_st_X_checkRegister k_in_X k_X_checkRegister) rfl rfl rfl (by decide +kernel) ⟨hR.1, hR.2⟩) preEq rfl rfl hsz rfl (lv_room hw) hdg ⟨hc.1, hc.2⟩) (fun _ => kk)

set_option maxHeartbeats 4000000 in
set_option maxRecDepth 100000 in
/-- checkApart of two registers -/
theorem c_X_checkApart (l : Launch) (x y : Int32) (hne : ¬ x = y) : Met l y_X_checkApart (.code y_X_checkApart b_X_checkApart 2 none :: wG) (wf_rm 0 0 0 0) (fun v _ => v = ([.int x, .int y] : List Value).toArray) (va_Sv (fun _ => True)) 0 0 (fun _ => False) := by
  refine wf_openS (by decide) (Nat.le_of_ble_eq_true rfl) ?_
  intro p e s m below meth c ls C hr hlocks hl
  have hx := C.1
  have hb := C.2.1
  have hml := C.2.2.1
  have hown := C.2.2.2.1
  have hts := C.2.2.2.2
  have hl : lv_has ls 2 [(0, .int (x)), (1, .int (y))] := hl
  refine lv_iload_n hx hb d_X_checkApart_0 rfl (lv_at hl 0 rfl) ?_
  refine lv_iload_n hx hb d_X_checkApart_1 rfl (lv_at hl 1 rfl) ?_
  refine lv_icmp_ne (tgt := 15) hx hb d_X_checkApart_2 (by decide) (fun c_1 => ?_) (fun c_1 => False.elim (by first | exact absurd (hne) c_1 | exact absurd c_1 (hne)))
  exact W.vret hx hb hr (fun t ht hW => ⟨rfl, trivial, ht⟩) (fun q h => by cases h) d_X_checkApart_15 hlocks

set_option maxHeartbeats 4000000 in
set_option maxRecDepth 100000 in
theorem kX_apart {p : Program} {l : Launch} {e : Env} {R : Room} {s : State} {m : MethodId} {args : Array Value} {below : List Frame} {meth : Method} {c : Code} {H : Heap} {locs : List Loc} {cells slots : Nat} {Q : State → Prop} {cc : ByteArray} {pc nL : Nat} {ls : Array Slot} {rest : List Value} {x y : Int32} (hne : ¬ x = y) (C : CallFix p m c cc nL s args wG RX) (hsz : ls.size = nL) (hR : 1 ≤ R.frames ∧ 21 ≤ R.locals) (hw : (rest.map fun v => v.category).sum ≤ 8) (hc : cells ≤ R.cells ∧ slots ≤ R.slots) (hdg : decode cc pc = .ok (.invokestatic 43, 3)) (kk : W p l e R s m args below meth c H locs cells slots Q (F0 m (pc + 3) ls rest)) : W p l e R s m args below meth c H locs cells slots Q (F0 m pc ls (.int y :: .int x :: rest)) := by
  exact va_csv (W.runS (As := [.int x, .int y]) (rest := rest) C (c_X_checkApart l x y hne) (va_cwS 2 C.2.2.2.2 (wG_S (fun _ h => h) k_ml_X_43 k_st_X_checkApart k_in_X k_X_checkApart) rfl rfl rfl (by decide +kernel) ⟨hR.1, hR.2⟩) preEq rfl rfl hsz rfl (lv_room hw) hdg ⟨hc.1, hc.2⟩) (fun _ => kk)

set_option maxHeartbeats 4000000 in
set_option maxRecDepth 100000 in
/-- store -/
theorem c_X_store (l : Launch) (D : va_G) (q : Nat → Nat) (κ : Nat → ClassId) (u : SX) (r : Nat) (hr8 : r < 8) (h lo : Int64) (sz : Nat) : Met l y_X_store (.code y_X_store b_X_store 6 none :: wG) (wf_rm 0 0 0 0) (wf_Pc D vwCl (wX q κ u) (tyX κ) ([.ref (q 0), .int (nI r), .long h, .long lo]) sz) (va_Qv (fun v => v = (va_up u.1 r h, va_up u.2.1 r lo, u.2.2)) (wf_B D vwCl (wX q κ) (tyX κ) (va_A (wX q κ u) sz)) (va_A (wX q κ u) sz)) 0 0 (va_A (wX q κ u) sz) := by
  refine wf_open (by decide) (Nat.le_of_ble_eq_true rfl) k_X_store ?_
  intro p e s m below meth c ls hsz C hr hlocks hnm hex hP hK hD hl
  subst hsz
  have hx := C.1
  have hb := C.2.1
  have hml := C.2.2.1
  have hown := C.2.2.2.1
  have hts := C.2.2.2.2
  have hA : ∀ j : Nat, s.heap.size ≤ j → va_A (wX q κ u) s.heap.size j := fun j h => Or.inr h
  have hS : va_S (va_A (wX q κ u) s.heap.size) s.heap s.heap [] := va_S.rf
  generalize hAe : va_A (wX q κ u) s.heap.size = A at hA hS hD ⊢
  have hl : lv_has ls 6 [(0, .ref (q 0)), (1, .int (nI r)), (2, .long (h)), (4, .long (lo))] := hl
  refine lv_aload_n hx hb d_X_store_0 rfl (lv_at hl 0 rfl) ?_
  refine gX C hK hP 0 rfl 0 (by decide) k_fl_X_highs rfl d_X_store_1 ?_
  refine lv_iload_n hx hb d_X_store_4 rfl (lv_at hl 1 rfl) ?_
  refine lv_lload_n hx hb d_X_store_5 rfl (lv_at hl 2 rfl) ?_
  refine wf_last C hK hP hD hS 1 0 rfl rfl (k := r) rfl hr8 (by decide) d_X_store_6 (fun H locs hP hD hS => ?_)
  have hP : va_P D vwCl (wX q κ (va_up u.1 r h, u.2)) H := hP
  have hD : va_D A (wX q κ (va_up u.1 r h, u.2)) := hD
  generalize eu_1 : ((va_up u.1 r h, u.2) : SX) = u_1 at hP hD
  refine lv_aload_n hx hb d_X_store_7 rfl (lv_at hl 0 rfl) ?_
  refine gX C hK hP 0 rfl 1 (by decide) k_fl_X_lows rfl d_X_store_8 ?_
  refine lv_iload_n hx hb d_X_store_11 rfl (lv_at hl 1 rfl) ?_
  refine lv_lload hx hb d_X_store_12 (lv_at hl 3 rfl) ?_
  refine wf_last C hK hP hD hS 2 1 rfl rfl (k := r) rfl hr8 (by decide) d_X_store_14 (fun H locs hP hD hS => ?_)
  have hP : va_P D vwCl (wX q κ (u_1.1, va_up u_1.2.1 r lo, u_1.2.2)) H := hP
  have hD : va_D A (wX q κ (u_1.1, va_up u_1.2.1 r lo, u_1.2.2)) := hD
  generalize eu_2 : ((u_1.1, va_up u_1.2.1 r lo, u_1.2.2) : SX) = u_2 at hP hD
  exact wf_retv C hr hlocks u_2 (by subst eu_1; exact eu_2.symm) hP hK hD hS (fun _ h => h) d_X_store_15

set_option maxHeartbeats 4000000 in
set_option maxRecDepth 100000 in
theorem kX_store {p : Program} {l : Launch} {e : Env} {R : Room} {s : State} {m : MethodId} {args : Array Value} {below : List Frame} {meth : Method} {c : Code} {H : Heap} {locs : List Loc} {cells slots : Nat} {Q : State → Prop} {cc : ByteArray} {pc nL : Nat} {ls : Array Slot} {rest : List Value} {D : va_G} {q : Nat → Nat} {κ : Nat → ClassId} {A : Nat → Prop} {u : SX} {r : Nat} (hr8 : r < 8) {h lo : Int64} (C : CallFix p m c cc nL s args wG RX) (hsz : ls.size = nL) (hR : 1 ≤ R.frames ∧ 25 ≤ R.locals) (hw : (rest.map fun v => v.category).sum ≤ 8) (hc : cells + 0 ≤ R.cells ∧ slots + 0 ≤ R.slots) (hP : va_P D vwCl (wX q κ u) H) (hK : va_K D vwCl (tyX κ) s) (hD : va_D A (wX q κ u)) (hS : va_S A s.heap H locs) (hA : ∀ q, s.heap.size ≤ q → A q) (hdg : decode cc pc = .ok (.invokevirtual 31, 3)) (kk : ∀ (v : SX) (H1 : Heap) (locs1 : List Loc), v = (va_up u.1 r h, va_up u.2.1 r lo, u.2.2) → va_P D vwCl (wX q κ v) H1 → va_D A (wX q κ v) → va_S A s.heap H1 locs1 → W p l e R s m args below meth c H1 locs1 (cells) (slots) Q (F0 m (pc + 3) ls (rest))) : W p l e R s m args below meth c H locs cells slots Q (F0 m pc ls (.long lo :: .long h :: .int (nI r) :: .ref (q 0) :: rest)) := by
  exact wf_cv (va_runV (As := [.int (nI r), .long h, .long lo]) (rest := rest) C (c_X_store l D q κ u r hr8 h lo H.size) (cwV 3 C.2.2.2.2 (wG_V (fun _ h => h) k_ml_X_31 k_im_X_store k_se_X_store k_in_X k_X_store) rfl rfl rfl (by decide +kernel) ⟨hR.1, hR.2⟩) ⟨wf_blind, va_recv hK hP (ci := 0) (q0 := 0) rfl rfl, wf_pre hP hK hD⟩ rfl rfl hsz rfl (lv_room hw) hdg ⟨hc.1, hc.2⟩) (fun _ h => h) hS hD hA kk
