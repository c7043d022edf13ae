/-! ===== Long's zeros, zerosAbove, zerosBelow, storeShiftedUp, storeShiftedDown ===== -/
theorem wf_lo0 (x : Int64) : lg_cmp x 0 = 0 ↔ uN x = 0 := by rw [lg_cmp_eq, uN_eq0]
theorem wf_or0 (h l : Int64) : lg_cmp (h ||| l) 0 = 0 ↔ wf_V h l = 0 := by
  rw [wf_lo0, uN_or', Nat.or_eq_zero_iff]
  unfold wf_V
  omega
theorem wf_z0 : uN (0 : Int64) = 0 := by decide
theorem wf_Vl (x : Int64) : wf_V 0 x = uN x := wf_V_z wf_z0
theorem wf_upA {ah al : Int64} {n : Nat} (h : 128 ≤ n) : wf_V 0 0 = wf_V ah al * 2 ^ n % wf_NN := by rw [wf_up_far h, wf_V_0]
theorem wf_upB {ah al : Int64} {n : Nat} (h : 64 ≤ n) (h2 : n < 128) : wf_V (al <<< ((nI (n - 64)).toInt64 &&& 63)) 0 = wf_V ah al * 2 ^ n % wf_NN := by
  show uN _ * wf_N + uN (0 : Int64) = (uN ah * wf_N + uN al) * 2 ^ n % wf_NN
  rw [wf_z0, Nat.add_zero, wf_shl al (show n - 64 < 64 by omega)]
  have e := wf_up_mid (h := uN ah) (l := uN al) (k := n - 64)
  rw [Nat.sub_add_cancel h] at e
  exact e.symm
theorem wf_upC {ah al : Int64} {n : Nat} (h : 0 < n) (h2 : n < 64) : wf_V (ah <<< ((nI n).toInt64 &&& 63) ||| (al.toUInt64 >>> ((nI (64 - n)).toInt64.toUInt64 &&& Int64.toUInt64 63)).toInt64) (al <<< ((nI n).toInt64 &&& 63)) = wf_V ah al * 2 ^ n % wf_NN := by
  show uN _ * wf_N + uN (al <<< ((nI n).toInt64 &&& 63)) = (uN ah * wf_N + uN al) * 2 ^ n % wf_NN
  rw [uN_or', wf_shl ah h2, wf_shl al h2, uN_sk al (show 64 - n < 64 by omega), wf_shlor (uN_lt al) (show n ≤ 64 by omega)]
  exact (wf_up_low (show n ≤ 64 by omega) (uN_lt al)).symm
theorem wf_upD {ah al : Int64} : wf_V ah al = wf_V ah al * 2 ^ 0 % wf_NN := by rw [Nat.pow_zero, Nat.mul_one, Nat.mod_eq_of_lt (wf_V_lt ah al)]
theorem wf_dnA {ah al : Int64} {n : Nat} (h : 128 ≤ n) : wf_V 0 0 = wf_V ah al / 2 ^ n := by rw [wf_down_far (wf_V_lt ah al) h, wf_V_0]
theorem wf_dnB {ah al : Int64} {n : Nat} (h : 64 ≤ n) (h2 : n < 128) : wf_V 0 (ah.toUInt64 >>> ((nI (n - 64)).toInt64.toUInt64 &&& Int64.toUInt64 63)).toInt64 = wf_V ah al / 2 ^ n := by
  rw [wf_Vl, uN_sk ah (show n - 64 < 64 by omega)]
  have e := wf_down_mid (h := uN ah) (l := uN al) (k := n - 64) (uN_lt al)
  rw [Nat.sub_add_cancel h] at e
  exact e.symm
theorem wf_dnC {ah al : Int64} {n : Nat} (h : 0 < n) (h2 : n < 64) : wf_V (ah.toUInt64 >>> ((nI n).toInt64.toUInt64 &&& Int64.toUInt64 63)).toInt64 ((al.toUInt64 >>> ((nI n).toInt64.toUInt64 &&& Int64.toUInt64 63)).toInt64 ||| ah <<< ((nI (64 - n)).toInt64 &&& 63)) = wf_V ah al / 2 ^ n := by
  show uN _ * wf_N + uN _ = (uN ah * wf_N + uN al) / 2 ^ n
  have e := wf_shlor (x := uN ah) (uN_lt al) (k := 64 - n) (by omega)
  rw [show 64 - (64 - n) = n by omega] at e
  rw [uN_or', wf_shl ah (show 64 - n < 64 by omega), uN_sk ah h2, uN_sk al h2, Nat.or_comm, e]
  exact (wf_down_low (show n ≤ 64 by omega)).symm
theorem wf_dnD {ah al : Int64} : wf_V ah al = wf_V ah al / 2 ^ 0 := by rw [Nat.pow_zero, Nat.div_one]

set_option maxHeartbeats 4000000 in
set_option maxRecDepth 100000 in
/-- Jl_numberOfLeadingZeros -/
theorem c_Jl_numberOfLeadingZeros (l : Launch) (x : Int64) : Met l y_Jl_numberOfLeadingZeros (.code y_Jl_numberOfLeadingZeros b_Jl_numberOfLeadingZeros 3 (some .int) :: wG) (wf_rm 1 30 0 0) (fun v _ => v = ([.long x] : List Value).toArray) (vp_Si (fun r => ∃ z, r = nI z ∧ wf_LZ 64 (uN x) z)) 0 0 (fun _ => False) := by
  refine wf_openS (by decide) (Nat.le_of_ble_eq_true rfl) ?_
  intro p e s m below meth c ls C hr hlocks hl
  have hx := C.1
  have hb := C.2.1
  have hml := C.2.2.1
  have hown := C.2.2.2.1
  have hts := C.2.2.2.2
  have hl : lv_has ls 3 [(0, .long (x))] := hl
  refine lv_lload_n hx hb d_Jl_numberOfLeadingZeros_0 rfl (lv_at hl 0 rfl) ?_
  refine lv_bipush (v := 32) hx hb d_Jl_numberOfLeadingZeros_1 (by decide) ?_
  refine lv_lushr hx hb d_Jl_numberOfLeadingZeros_3 rfl ?_
  refine lv_l2i hx hb d_Jl_numberOfLeadingZeros_4 (wf_l2i _) ?_
  refine lv_topi (fun k_1 ek_1 => ?_)
  have ek_1 : k_1 = nI (uN x / 4294967296) := ek_1.trans (by rw [uN_s32, Nat.mod_eq_of_lt (by have := uN_lt x; omega)])
  subst ek_1
  refine lv_istore_n (lv' := [(2, .int (nI (uN x / 4294967296))), (0, .long (x))]) hx hb d_Jl_numberOfLeadingZeros_5 rfl hl (by decide) rfl (fun ls hl => ?_)
  refine lv_iload_n hx hb d_Jl_numberOfLeadingZeros_6 rfl (lv_at hl 0 rfl) ?_
  refine lv_if_ne (tgt := 21) hx hb d_Jl_numberOfLeadingZeros_7 (by decide) (fun c_2 => ?_) (fun c_2 => ?_)
  · refine lv_iload_n hx hb d_Jl_numberOfLeadingZeros_21 rfl (lv_at hl 0 rfl) ?_
    refine kJ_nlz (N := uN x / 4294967296) (by have := uN_lt x; omega) C hl.1 ⟨Nat.le_of_ble_eq_true rfl, Nat.le_of_ble_eq_true rfl⟩ (Nat.le_of_ble_eq_true rfl) ⟨Nat.le_of_ble_eq_true rfl, Nat.le_of_ble_eq_true rfl⟩ d_Jl_numberOfLeadingZeros_22 (fun r_3 hr_3 => ?_)
    obtain ⟨z, er_3, hz⟩ := hr_3
    subst er_3
    exact W.iret hx hb hr (fun t ht hW => ⟨_, rfl, ⟨z, rfl, wf_LZ64_hi c_2 hz⟩, ht⟩) (fun q h => by cases h) d_Jl_numberOfLeadingZeros_25 hlocks
  · refine lv_bipush (v := 32) hx hb d_Jl_numberOfLeadingZeros_10 (by decide) ?_
    refine lv_lload_n hx hb d_Jl_numberOfLeadingZeros_12 rfl (lv_at hl 1 rfl) ?_
    refine lv_l2i hx hb d_Jl_numberOfLeadingZeros_13 (wf_l2i _) ?_
    refine kJ_nlz (N := uN x % 4294967296) (by omega) C hl.1 ⟨Nat.le_of_ble_eq_true rfl, Nat.le_of_ble_eq_true rfl⟩ (Nat.le_of_ble_eq_true rfl) ⟨Nat.le_of_ble_eq_true rfl, Nat.le_of_ble_eq_true rfl⟩ d_Jl_numberOfLeadingZeros_14 (fun r_4 hr_4 => ?_)
    obtain ⟨z, er_4, hz⟩ := hr_4
    subst er_4
    refine lv_iadd hx hb d_Jl_numberOfLeadingZeros_17 ?_
    refine lv_goto (tgt := 25) hx hb d_Jl_numberOfLeadingZeros_18 (by decide) ?_
    exact W.iret hx hb hr (fun t ht hW => ⟨_, rfl, ⟨32 + z, nI_add 32 z, wf_LZ64_lo c_2 hz⟩, ht⟩) (fun q h => by cases h) d_Jl_numberOfLeadingZeros_25 hlocks

set_option maxHeartbeats 4000000 in
set_option maxRecDepth 100000 in
theorem kX_nlz {p : Program} {l : Launch} {e : Env} {R : Room} {s : State} {m : MethodId} {args : Array Value} {below : List Frame} {meth : Method} {c : Code} {H : Heap} {locs : List Loc} {cells slots : Nat} {Q : State → Prop} {cc : ByteArray} {pc nL : Nat} {ls : Array Slot} {rest : List Value} {x : Int64} (C : CallFix p m c cc nL s args wG RX) (hsz : ls.size = nL) (hR : 2 ≤ R.frames ∧ 52 ≤ R.locals) (hw : (rest.map fun v => v.category).sum ≤ 8) (hc : cells ≤ R.cells ∧ slots ≤ R.slots) (hdg : decode cc pc = .ok (.invokestatic 117, 3)) (kk : ∀ r : Int32, (∃ z, r = nI z ∧ wf_LZ 64 (uN x) z) → W p l e R s m args below meth c H locs cells slots Q (F0 m (pc + 3) ls (.int r :: rest))) : W p l e R s m args below meth c H locs cells slots Q (F0 m pc ls (.long x :: rest)) := by
  exact vp_callSi (W.runS (As := [.long x]) (rest := rest) C (c_Jl_numberOfLeadingZeros l x) (va_cwS 1 C.2.2.2.2 (wG_S (fun _ h => h) k_ml_X_117 k_st_Jl_numberOfLeadingZeros k_in_Jl k_Jl_numberOfLeadingZeros) rfl rfl rfl (by decide +kernel) ⟨hR.1, hR.2⟩) preEq rfl rfl hsz rfl (lv_room hw) hdg ⟨hc.1, hc.2⟩) (fun r hr => kk r hr)

set_option maxHeartbeats 4000000 in
set_option maxRecDepth 100000 in
/-- Jl_numberOfTrailingZeros -/
theorem c_Jl_numberOfTrailingZeros (l : Launch) (x : Int64) : Met l y_Jl_numberOfTrailingZeros (.code y_Jl_numberOfTrailingZeros b_Jl_numberOfTrailingZeros 3 (some .int) :: wG) (wf_rm 1 30 0 0) (fun v _ => v = ([.long x] : List Value).toArray) (vp_Si (fun r => ∃ z, r = nI z ∧ wf_TZ 64 (uN x) z)) 0 0 (fun _ => False) := by
  refine wf_openS (by decide) (Nat.le_of_ble_eq_true rfl) ?_
  intro p e s m below meth c ls C hr hlocks hl
  have hx := C.1
  have hb := C.2.1
  have hml := C.2.2.1
  have hown := C.2.2.2.1
  have hts := C.2.2.2.2
  have hl : lv_has ls 3 [(0, .long (x))] := hl
  refine lv_lload_n hx hb d_Jl_numberOfTrailingZeros_0 rfl (lv_at hl 0 rfl) ?_
  refine lv_l2i hx hb d_Jl_numberOfTrailingZeros_1 (wf_l2i _) ?_
  refine lv_istore_n (lv' := [(2, .int (nI (uN x % 4294967296))), (0, .long (x))]) hx hb d_Jl_numberOfTrailingZeros_2 rfl hl (by decide) rfl (fun ls hl => ?_)
  refine lv_iload_n hx hb d_Jl_numberOfTrailingZeros_3 rfl (lv_at hl 0 rfl) ?_
  refine lv_if_ne (tgt := 21) hx hb d_Jl_numberOfTrailingZeros_4 (by decide) (fun c_1 => ?_) (fun c_1 => ?_)
  · refine lv_iload_n hx hb d_Jl_numberOfTrailingZeros_21 rfl (lv_at hl 0 rfl) ?_
    refine kJ_ntz (N := uN x % 4294967296) (by omega) C hl.1 ⟨Nat.le_of_ble_eq_true rfl, Nat.le_of_ble_eq_true rfl⟩ (Nat.le_of_ble_eq_true rfl) ⟨Nat.le_of_ble_eq_true rfl, Nat.le_of_ble_eq_true rfl⟩ d_Jl_numberOfTrailingZeros_22 (fun r_2 hr_2 => ?_)
    obtain ⟨z, er_2, hz⟩ := hr_2
    subst er_2
    exact W.iret hx hb hr (fun t ht hW => ⟨_, rfl, ⟨z, rfl, wf_TZ64_lo c_1 hz⟩, ht⟩) (fun q h => by cases h) d_Jl_numberOfTrailingZeros_25 hlocks
  · refine lv_bipush (v := 32) hx hb d_Jl_numberOfTrailingZeros_7 (by decide) ?_
    refine lv_lload_n hx hb d_Jl_numberOfTrailingZeros_9 rfl (lv_at hl 1 rfl) ?_
    refine lv_bipush (v := 32) hx hb d_Jl_numberOfTrailingZeros_10 (by decide) ?_
    refine lv_lushr hx hb d_Jl_numberOfTrailingZeros_12 rfl ?_
    refine lv_l2i hx hb d_Jl_numberOfTrailingZeros_13 (wf_l2i _) ?_
    refine lv_topi (fun k_3 ek_3 => ?_)
    have ek_3 : k_3 = nI (uN x / 4294967296) := ek_3.trans (by rw [uN_s32, Nat.mod_eq_of_lt (by have := uN_lt x; omega)])
    subst ek_3
    refine kJ_ntz (N := uN x / 4294967296) (by have := uN_lt x; omega) C hl.1 ⟨Nat.le_of_ble_eq_true rfl, Nat.le_of_ble_eq_true rfl⟩ (Nat.le_of_ble_eq_true rfl) ⟨Nat.le_of_ble_eq_true rfl, Nat.le_of_ble_eq_true rfl⟩ d_Jl_numberOfTrailingZeros_14 (fun r_4 hr_4 => ?_)
    obtain ⟨z, er_4, hz⟩ := hr_4
    subst er_4
    refine lv_iadd hx hb d_Jl_numberOfTrailingZeros_17 ?_
    refine lv_goto (tgt := 25) hx hb d_Jl_numberOfTrailingZeros_18 (by decide) ?_
    exact W.iret hx hb hr (fun t ht hW => ⟨_, rfl, ⟨32 + z, nI_add 32 z, wf_TZ64_hi c_1 hz⟩, ht⟩) (fun q h => by cases h) d_Jl_numberOfTrailingZeros_25 hlocks

set_option maxHeartbeats 4000000 in
set_option maxRecDepth 100000 in
theorem kX_ntz {p : Program} {l : Launch} {e : Env} {R : Room} {s : State} {m : MethodId} {args : Array Value} {below : List Frame} {meth : Method} {c : Code} {H : Heap} {locs : List Loc} {cells slots : Nat} {Q : State → Prop} {cc : ByteArray} {pc nL : Nat} {ls : Array Slot} {rest : List Value} {x : Int64} (C : CallFix p m c cc nL s args wG RX) (hsz : ls.size = nL) (hR : 2 ≤ R.frames ∧ 52 ≤ R.locals) (hw : (rest.map fun v => v.category).sum ≤ 8) (hc : cells ≤ R.cells ∧ slots ≤ R.slots) (hdg : decode cc pc = .ok (.invokestatic 121, 3)) (kk : ∀ r : Int32, (∃ z, r = nI z ∧ wf_TZ 64 (uN x) z) → W p l e R s m args below meth c H locs cells slots Q (F0 m (pc + 3) ls (.int r :: rest))) : W p l e R s m args below meth c H locs cells slots Q (F0 m pc ls (.long x :: rest)) := by
  exact vp_callSi (W.runS (As := [.long x]) (rest := rest) C (c_Jl_numberOfTrailingZeros l x) (va_cwS 1 C.2.2.2.2 (wG_S (fun _ h => h) k_ml_X_121 k_st_Jl_numberOfTrailingZeros k_in_Jl k_Jl_numberOfTrailingZeros) rfl rfl rfl (by decide +kernel) ⟨hR.1, hR.2⟩) preEq rfl rfl hsz rfl (lv_room hw) hdg ⟨hc.1, hc.2⟩) (fun r hr => kk r hr)

set_option maxHeartbeats 4000000 in
set_option maxRecDepth 100000 in
/-- X_zerosAbove -/
theorem c_X_zerosAbove (l : Launch) (h lo : Int64) : Met l y_X_zerosAbove (.code y_X_zerosAbove b_X_zerosAbove 4 (some .int) :: wG) (wf_rm 2 60 0 0) (fun v _ => v = ([.long h, .long lo] : List Value).toArray) (vp_Si (fun r => ∃ z, r = nI z ∧ wf_LZ 128 (wf_V h lo) z)) 0 0 (fun _ => False) := by
  refine wf_openS (by decide) (Nat.le_of_ble_eq_true rfl) ?_
  intro p e s m below meth c ls C hr hlocks hl
  have hx := C.1
  have hb := C.2.1
  have hml := C.2.2.1
  have hown := C.2.2.2.1
  have hts := C.2.2.2.2
  have hl : lv_has ls 4 [(0, .long (h)), (2, .long (lo))] := hl
  refine lv_lload_n hx hb d_X_zerosAbove_0 rfl (lv_at hl 0 rfl) ?_
  refine lv_lconst (v := 0) hx hb d_X_zerosAbove_1 (by decide) ?_
  refine W.lcmp hx hb d_X_zerosAbove_2 ?_
  refine lv_if_eq (tgt := 13) hx hb d_X_zerosAbove_3 (by decide) (fun c_1 => ?_) (fun c_1 => ?_)
  · refine lv_bipush (v := 64) hx hb d_X_zerosAbove_13 (by decide) ?_
    refine lv_lload_n hx hb d_X_zerosAbove_15 rfl (lv_at hl 1 rfl) ?_
    refine kX_nlz C hl.1 ⟨Nat.le_of_ble_eq_true rfl, Nat.le_of_ble_eq_true rfl⟩ (Nat.le_of_ble_eq_true rfl) ⟨Nat.le_of_ble_eq_true rfl, Nat.le_of_ble_eq_true rfl⟩ d_X_zerosAbove_16 (fun r_2 hr_2 => ?_)
    obtain ⟨z, er_2, hz⟩ := hr_2
    subst er_2
    refine lv_iadd hx hb d_X_zerosAbove_19 ?_
    exact W.iret hx hb hr (fun t ht hW => ⟨_, rfl, ⟨64 + z, nI_add 64 z, wf_LZ128_lo ((wf_lo0 _).mp c_1) hz⟩, ht⟩) (fun q h => by cases h) d_X_zerosAbove_20 hlocks
  · refine lv_lload_n hx hb d_X_zerosAbove_6 rfl (lv_at hl 0 rfl) ?_
    refine kX_nlz C hl.1 ⟨Nat.le_of_ble_eq_true rfl, Nat.le_of_ble_eq_true rfl⟩ (Nat.le_of_ble_eq_true rfl) ⟨Nat.le_of_ble_eq_true rfl, Nat.le_of_ble_eq_true rfl⟩ d_X_zerosAbove_7 (fun r_3 hr_3 => ?_)
    obtain ⟨z, er_3, hz⟩ := hr_3
    subst er_3
    refine lv_goto (tgt := 20) hx hb d_X_zerosAbove_10 (by decide) ?_
    exact W.iret hx hb hr (fun t ht hW => ⟨_, rfl, ⟨z, rfl, wf_LZ128_hi (fun h => c_1 ((wf_lo0 _).mpr h)) hz⟩, ht⟩) (fun q h => by cases h) d_X_zerosAbove_20 hlocks

set_option maxHeartbeats 4000000 in
set_option maxRecDepth 100000 in
theorem kX_above {p : Program} {l : Launch} {e : Env} {R : Room} {s : State} {m : MethodId} {args : Array Value} {below : List Frame} {meth : Method} {c : Code} {H : Heap} {locs : List Loc} {cells slots : Nat} {Q : State → Prop} {cc : ByteArray} {pc nL : Nat} {ls : Array Slot} {rest : List Value} {h lo : Int64} (C : CallFix p m c cc nL s args wG RX) (hsz : ls.size = nL) (hR : 3 ≤ R.frames ∧ 83 ≤ R.locals) (hw : (rest.map fun v => v.category).sum ≤ 8) (hc : cells ≤ R.cells ∧ slots ≤ R.slots) (hdg : decode cc pc = .ok (.invokestatic 77, 3)) (kk : ∀ r : Int32, (∃ z, r = nI z ∧ wf_LZ 128 (wf_V h lo) z) → W p l e R s m args below meth c H locs cells slots Q (F0 m (pc + 3) ls (.int r :: rest))) : W p l e R s m args below meth c H locs cells slots Q (F0 m pc ls (.long lo :: .long h :: rest)) := by
  exact vp_callSi (W.runS (As := [.long h, .long lo]) (rest := rest) C (c_X_zerosAbove l h lo) (va_cwS 2 C.2.2.2.2 (wG_S (fun _ h => h) k_ml_X_77 k_st_X_zerosAbove k_in_X k_X_zerosAbove) rfl rfl rfl (by decide +kernel) ⟨hR.1, hR.2⟩) preEq rfl rfl hsz rfl (lv_room hw) hdg ⟨hc.1, hc.2⟩) (fun r hr => kk r hr)

set_option maxHeartbeats 4000000 in
set_option maxRecDepth 100000 in
/-- X_zerosBelow -/
theorem c_X_zerosBelow (l : Launch) (h lo : Int64) : Met l y_X_zerosBelow (.code y_X_zerosBelow b_X_zerosBelow 4 (some .int) :: wG) (wf_rm 2 60 0 0) (fun v _ => v = ([.long h, .long lo] : List Value).toArray) (vp_Si (fun r => ∃ z, r = nI z ∧ wf_TZ 128 (wf_V h lo) z)) 0 0 (fun _ => False) := by
  refine wf_openS (by decide) (Nat.le_of_ble_eq_true rfl) ?_
  intro p e s m below meth c ls C hr hlocks hl
  have hx := C.1
  have hb := C.2.1
  have hml := C.2.2.1
  have hown := C.2.2.2.1
  have hts := C.2.2.2.2
  have hl : lv_has ls 4 [(0, .long (h)), (2, .long (lo))] := hl
  refine lv_lload_n hx hb d_X_zerosBelow_0 rfl (lv_at hl 1 rfl) ?_
  refine lv_lconst (v := 0) hx hb d_X_zerosBelow_1 (by decide) ?_
  refine W.lcmp hx hb d_X_zerosBelow_2 ?_
  refine lv_if_eq (tgt := 13) hx hb d_X_zerosBelow_3 (by decide) (fun c_1 => ?_) (fun c_1 => ?_)
  · refine lv_bipush (v := 64) hx hb d_X_zerosBelow_13 (by decide) ?_
    refine lv_lload_n hx hb d_X_zerosBelow_15 rfl (lv_at hl 0 rfl) ?_
    refine kX_ntz C hl.1 ⟨Nat.le_of_ble_eq_true rfl, Nat.le_of_ble_eq_true rfl⟩ (Nat.le_of_ble_eq_true rfl) ⟨Nat.le_of_ble_eq_true rfl, Nat.le_of_ble_eq_true rfl⟩ d_X_zerosBelow_16 (fun r_2 hr_2 => ?_)
    obtain ⟨z, er_2, hz⟩ := hr_2
    subst er_2
    refine lv_iadd hx hb d_X_zerosBelow_19 ?_
    exact W.iret hx hb hr (fun t ht hW => ⟨_, rfl, ⟨64 + z, nI_add 64 z, wf_TZ128_hi ((wf_lo0 _).mp c_1) hz⟩, ht⟩) (fun q h => by cases h) d_X_zerosBelow_20 hlocks
  · refine lv_lload_n hx hb d_X_zerosBelow_6 rfl (lv_at hl 1 rfl) ?_
    refine kX_ntz C hl.1 ⟨Nat.le_of_ble_eq_true rfl, Nat.le_of_ble_eq_true rfl⟩ (Nat.le_of_ble_eq_true rfl) ⟨Nat.le_of_ble_eq_true rfl, Nat.le_of_ble_eq_true rfl⟩ d_X_zerosBelow_7 (fun r_3 hr_3 => ?_)
    obtain ⟨z, er_3, hz⟩ := hr_3
    subst er_3
    refine lv_goto (tgt := 20) hx hb d_X_zerosBelow_10 (by decide) ?_
    exact W.iret hx hb hr (fun t ht hW => ⟨_, rfl, ⟨z, rfl, wf_TZ128_lo (fun h => c_1 ((wf_lo0 _).mpr h)) hz⟩, ht⟩) (fun q h => by cases h) d_X_zerosBelow_20 hlocks

set_option maxHeartbeats 4000000 in
set_option maxRecDepth 100000 in
theorem kX_zbelow {p : Program} {l : Launch} {e : Env} {R : Room} {s : State} {m : MethodId} {args : Array Value} {below : List Frame} {meth : Method} {c : Code} {H : Heap} {locs : List Loc} {cells slots : Nat} {Q : State → Prop} {cc : ByteArray} {pc nL : Nat} {ls : Array Slot} {rest : List Value} {h lo : Int64} (C : CallFix p m c cc nL s args wG RX) (hsz : ls.size = nL) (hR : 3 ≤ R.frames ∧ 83 ≤ R.locals) (hw : (rest.map fun v => v.category).sum ≤ 8) (hc : cells ≤ R.cells ∧ slots ≤ R.slots) (hdg : decode cc pc = .ok (.invokestatic 114, 3)) (kk : ∀ r : Int32, (∃ z, r = nI z ∧ wf_TZ 128 (wf_V h lo) z) → W p l e R s m args below meth c H locs cells slots Q (F0 m (pc + 3) ls (.int r :: rest))) : W p l e R s m args below meth c H locs cells slots Q (F0 m pc ls (.long lo :: .long h :: rest)) := by
  exact vp_callSi (W.runS (As := [.long h, .long lo]) (rest := rest) C (c_X_zerosBelow l h lo) (va_cwS 2 C.2.2.2.2 (wG_S (fun _ h => h) k_ml_X_114 k_st_X_zerosBelow k_in_X k_X_zerosBelow) rfl rfl rfl (by decide +kernel) ⟨hR.1, hR.2⟩) preEq rfl rfl hsz rfl (lv_room hw) hdg ⟨hc.1, hc.2⟩) (fun r hr => kk r hr)

set_option maxHeartbeats 4000000 in
set_option maxRecDepth 100000 in
/-- X_storeShiftedUp -/
theorem c_X_storeShiftedUp (l : Launch) (D : va_G) (q : Nat → Nat) (κ : Nat → ClassId) (u : SX) (ah al : Int64) (n : Nat) (hn : n < 2 ^ 31) (t : Nat) (ht : t < 8) (sz : Nat) : Met l y_X_storeShiftedUp (.code y_X_storeShiftedUp b_X_storeShiftedUp 7 (some .boolean) :: wG) (wf_rm 3 90 0 0) (wf_Pc D vwCl (wX q κ u) (tyX κ) ([.ref (q 0), .long ah, .long al, .int (nI n), .int (nI t)]) sz) (va_Qi (fun r v => r = wf_bi (decide (wf_NN ≤ wf_V ah al * 2 ^ n)) ∧ wf_st u v t (wf_V ah al * 2 ^ n % wf_NN)) (wf_B D vwCl (wX q κ) (tyX κ) (va_A (wX q κ u) sz)) (va_A (wX q κ u) sz)) 0 0 (va_A (wX q κ u) sz) := by
  refine wf_open (by decide) (Nat.le_of_ble_eq_true rfl) k_X_storeShiftedUp ?_
  intro p e s m below meth c ls hsz C hr hlocks hnm hex hP hK hD hl
  subst hsz
  have hx := C.1
  have hb := C.2.1
  have hml := C.2.2.1
  have hown := C.2.2.2.1
  have hts := C.2.2.2.2
  have hA : ∀ j : Nat, s.heap.size ≤ j → va_A (wX q κ u) s.heap.size j := fun j h => Or.inr h
  have hS : va_S (va_A (wX q κ u) s.heap.size) s.heap s.heap [] := va_S.rf
  generalize hAe : va_A (wX q κ u) s.heap.size = A at hA hS hD ⊢
  have hl : lv_has ls 7 [(0, .ref (q 0)), (1, .long (ah)), (3, .long (al)), (5, .int (nI n)), (6, .int (nI t))] := hl
  refine wf_cutW (D := D) (cl := vwCl) (A := A) (H0 := s.heap) (pcj := 81) (ls := ls) (fun v => wf_st u v t (wf_V ah al * 2 ^ n % wf_NN)) (wX q κ) (fun v H locs hst hP hD hS => ?_) (fun jn => ?_)
  · refine lv_lload_n hx hb d_X_storeShiftedUp_81 rfl (lv_at hl 1 rfl) ?_
    refine lv_lload_n hx hb d_X_storeShiftedUp_82 rfl (lv_at hl 2 rfl) ?_
    refine lv_lor hx hb d_X_storeShiftedUp_83 ?_
    refine lv_lconst (v := 0) hx hb d_X_storeShiftedUp_84 (by decide) ?_
    refine W.lcmp hx hb d_X_storeShiftedUp_85 ?_
    refine lv_if_eq (tgt := 103) hx hb d_X_storeShiftedUp_86 (by decide) (fun c1 => ?_) (fun c1 => ?_)
    · refine lv_iconst (v := 0) hx hb d_X_storeShiftedUp_103 (by decide) ?_
      exact wf_retz C hr (rfl) hlocks v (⟨by rw [decide_eq_false (show ¬ (wf_NN ≤ wf_V ah al * 2 ^ n) by rw [(wf_or0 _ _).mp c1, Nat.zero_mul]; decide)]; rfl, hst⟩) hP hK hD hS (fun _ h => h) d_X_storeShiftedUp_104
    · refine lv_iload hx hb d_X_storeShiftedUp_89 (lv_at hl 3 rfl) ?_
      refine lv_lload_n hx hb d_X_storeShiftedUp_91 rfl (lv_at hl 1 rfl) ?_
      refine lv_lload_n hx hb d_X_storeShiftedUp_92 rfl (lv_at hl 2 rfl) ?_
      refine kX_above C hl.1 ⟨Nat.le_of_ble_eq_true rfl, Nat.le_of_ble_eq_true rfl⟩ (Nat.le_of_ble_eq_true rfl) ⟨Nat.le_of_ble_eq_true rfl, Nat.le_of_ble_eq_true rfl⟩ d_X_storeShiftedUp_93 (fun r_1 hr_1 => ?_)
      obtain ⟨z, er_1, hz⟩ := hr_1
      subst er_1
      have hz9 : z ≤ 128 := by rcases hz with h | h <;> omega
      have hlost := wf_up_lost (n := n) hz
      refine lv_icmp_le (tgt := 103) hx hb d_X_storeShiftedUp_96 (by decide) (fun c2 => ?_) (fun c2 => ?_)
      · refine lv_iconst (v := 0) hx hb d_X_storeShiftedUp_103 (by decide) ?_
        exact wf_retz C hr (rfl) hlocks v (⟨by rw [decide_eq_false (fun h => Nat.not_lt.mpr ((nI_leI hn (by omega)).mp c2) (hlost.mpr h).2)]; rfl, hst⟩) hP hK hD hS (fun _ h => h) d_X_storeShiftedUp_104
      · refine lv_iconst (v := 1) hx hb d_X_storeShiftedUp_99 (by decide) ?_
        refine lv_goto (tgt := 104) hx hb d_X_storeShiftedUp_100 (by decide) ?_
        exact wf_retz C hr (rfl) hlocks v (⟨by rw [decide_eq_true (hlost.mp ⟨fun h => c1 ((wf_or0 _ _).mpr h), Nat.not_le.mp (fun h => c2 (nI_le h (by omega)))⟩)]; rfl, hst⟩) hP hK hD hS (fun _ h => h) d_X_storeShiftedUp_104
  · refine lv_iload hx hb d_X_storeShiftedUp_0 (lv_at hl 3 rfl) ?_
    refine lv_sipush (v := 128) hx hb d_X_storeShiftedUp_2 (by decide) ?_
    refine lv_icmp_lt (tgt := 19) hx hb d_X_storeShiftedUp_5 (by decide) (fun c1 => ?_) (fun c1 => ?_)
    · have h1 : n < 128 := (nI_ltI hn (by decide)).mp c1
      refine lv_iload hx hb d_X_storeShiftedUp_19 (lv_at hl 3 rfl) ?_
      refine lv_bipush (v := 64) hx hb d_X_storeShiftedUp_21 (by decide) ?_
      refine lv_icmp_lt (tgt := 43) hx hb d_X_storeShiftedUp_23 (by decide) (fun c1 => ?_) (fun c1 => ?_)
      · have h2 : n < 64 := (nI_ltI hn (by decide)).mp c1
        refine lv_iload hx hb d_X_storeShiftedUp_43 (lv_at hl 3 rfl) ?_
        refine lv_if_le (tgt := 73) hx hb d_X_storeShiftedUp_45 (by decide) (fun c1 => ?_) (fun c1 => ?_)
        · have h3 : n = 0 := Nat.le_zero.mp ((nI_leI hn (by decide)).mp c1)
          subst h3
          refine lv_aload_n hx hb d_X_storeShiftedUp_73 rfl (lv_at hl 0 rfl) ?_
          refine lv_iload hx hb d_X_storeShiftedUp_74 (lv_at hl 4 rfl) ?_
          refine lv_lload_n hx hb d_X_storeShiftedUp_76 rfl (lv_at hl 1 rfl) ?_
          refine lv_lload_n hx hb d_X_storeShiftedUp_77 rfl (lv_at hl 2 rfl) ?_
          refine kX_store (r := t) ht C hl.1 ⟨Nat.le_of_ble_eq_true rfl, Nat.le_of_ble_eq_true rfl⟩ (Nat.le_of_ble_eq_true rfl) ⟨Nat.le_of_ble_eq_true rfl, Nat.le_of_ble_eq_true rfl⟩ hP hK hD hS hA d_X_storeShiftedUp_78 (fun u_2 H locs eu_2 hP hD hS => ?_)
          exact jn u_2 H locs ⟨_, _, eu_2, wf_upD ⟩ hP hD hS
        · have h3 : 0 < n := Nat.pos_of_ne_zero (fun h => c1 (by rw [h]; decide))
          refine lv_aload_n hx hb d_X_storeShiftedUp_48 rfl (lv_at hl 0 rfl) ?_
          refine lv_iload hx hb d_X_storeShiftedUp_49 (lv_at hl 4 rfl) ?_
          refine lv_lload_n hx hb d_X_storeShiftedUp_51 rfl (lv_at hl 1 rfl) ?_
          refine lv_iload hx hb d_X_storeShiftedUp_52 (lv_at hl 3 rfl) ?_
          refine lv_lshl hx hb d_X_storeShiftedUp_54 rfl ?_
          refine lv_lload_n hx hb d_X_storeShiftedUp_55 rfl (lv_at hl 2 rfl) ?_
          refine lv_bipush (v := 64) hx hb d_X_storeShiftedUp_56 (by decide) ?_
          refine lv_iload hx hb d_X_storeShiftedUp_58 (lv_at hl 3 rfl) ?_
          refine lv_isub hx hb d_X_storeShiftedUp_60 ?_
          refine lv_topi (fun k_3 ek_3 => ?_)
          have ek_3 : k_3 = nI (64 - n) := ek_3.trans (pk_sub (a := 64) (by omega))
          subst ek_3
          refine lv_lushr hx hb d_X_storeShiftedUp_61 rfl ?_
          refine lv_lor hx hb d_X_storeShiftedUp_62 ?_
          refine lv_lload_n hx hb d_X_storeShiftedUp_63 rfl (lv_at hl 2 rfl) ?_
          refine lv_iload hx hb d_X_storeShiftedUp_64 (lv_at hl 3 rfl) ?_
          refine lv_lshl hx hb d_X_storeShiftedUp_66 rfl ?_
          refine kX_store (r := t) ht C hl.1 ⟨Nat.le_of_ble_eq_true rfl, Nat.le_of_ble_eq_true rfl⟩ (Nat.le_of_ble_eq_true rfl) ⟨Nat.le_of_ble_eq_true rfl, Nat.le_of_ble_eq_true rfl⟩ hP hK hD hS hA d_X_storeShiftedUp_67 (fun u_4 H locs eu_4 hP hD hS => ?_)
          refine lv_goto (tgt := 81) hx hb d_X_storeShiftedUp_70 (by decide) ?_
          exact jn u_4 H locs ⟨_, _, eu_4, wf_upC h3 h2⟩ hP hD hS
      · have h2 : 64 ≤ n := Nat.not_lt.mp (fun h => c1 (nI_lt h (by decide)))
        refine lv_aload_n hx hb d_X_storeShiftedUp_26 rfl (lv_at hl 0 rfl) ?_
        refine lv_iload hx hb d_X_storeShiftedUp_27 (lv_at hl 4 rfl) ?_
        refine lv_lload_n hx hb d_X_storeShiftedUp_29 rfl (lv_at hl 2 rfl) ?_
        refine lv_iload hx hb d_X_storeShiftedUp_30 (lv_at hl 3 rfl) ?_
        refine lv_bipush (v := 64) hx hb d_X_storeShiftedUp_32 (by decide) ?_
        refine lv_isub hx hb d_X_storeShiftedUp_34 ?_
        refine lv_topi (fun k_5 ek_5 => ?_)
        have ek_5 : k_5 = nI (n - 64) := ek_5.trans (pk_sub h2)
        subst ek_5
        refine lv_lshl hx hb d_X_storeShiftedUp_35 rfl ?_
        refine lv_lconst (v := 0) hx hb d_X_storeShiftedUp_36 (by decide) ?_
        refine kX_store (r := t) ht C hl.1 ⟨Nat.le_of_ble_eq_true rfl, Nat.le_of_ble_eq_true rfl⟩ (Nat.le_of_ble_eq_true rfl) ⟨Nat.le_of_ble_eq_true rfl, Nat.le_of_ble_eq_true rfl⟩ hP hK hD hS hA d_X_storeShiftedUp_37 (fun u_6 H locs eu_6 hP hD hS => ?_)
        refine lv_goto (tgt := 81) hx hb d_X_storeShiftedUp_40 (by decide) ?_
        exact jn u_6 H locs ⟨_, _, eu_6, wf_upB h2 h1⟩ hP hD hS
    · have h1 : 128 ≤ n := Nat.not_lt.mp (fun h => c1 (nI_lt h (by decide)))
      refine lv_aload_n hx hb d_X_storeShiftedUp_8 rfl (lv_at hl 0 rfl) ?_
      refine lv_iload hx hb d_X_storeShiftedUp_9 (lv_at hl 4 rfl) ?_
      refine lv_lconst (v := 0) hx hb d_X_storeShiftedUp_11 (by decide) ?_
      refine lv_lconst (v := 0) hx hb d_X_storeShiftedUp_12 (by decide) ?_
      refine kX_store (r := t) ht C hl.1 ⟨Nat.le_of_ble_eq_true rfl, Nat.le_of_ble_eq_true rfl⟩ (Nat.le_of_ble_eq_true rfl) ⟨Nat.le_of_ble_eq_true rfl, Nat.le_of_ble_eq_true rfl⟩ hP hK hD hS hA d_X_storeShiftedUp_13 (fun u_7 H locs eu_7 hP hD hS => ?_)
      refine lv_goto (tgt := 81) hx hb d_X_storeShiftedUp_16 (by decide) ?_
      exact jn u_7 H locs ⟨_, _, eu_7, wf_upA h1⟩ hP hD hS

set_option maxHeartbeats 4000000 in
set_option maxRecDepth 100000 in
theorem kX_up {p : Program} {l : Launch} {e : Env} {R : Room} {s : State} {m : MethodId} {args : Array Value} {below : List Frame} {meth : Method} {c : Code} {H : Heap} {locs : List Loc} {cells slots : Nat} {Q : State → Prop} {cc : ByteArray} {pc nL : Nat} {ls : Array Slot} {rest : List Value} {D : va_G} {q : Nat → Nat} {κ : Nat → ClassId} {A : Nat → Prop} {u : SX} {ah al : Int64} {n : Nat} (hn : n < 2 ^ 31) {t : Nat} (ht : t < 8) (C : CallFix p m c cc nL s args wG RX) (hsz : ls.size = nL) (hR : 4 ≤ R.frames ∧ 116 ≤ R.locals) (hw : (rest.map fun v => v.category).sum ≤ 8) (hc : cells + 0 ≤ R.cells ∧ slots + 0 ≤ R.slots) (hP : va_P D vwCl (wX q κ u) H) (hK : va_K D vwCl (tyX κ) s) (hD : va_D A (wX q κ u)) (hS : va_S A s.heap H locs) (hA : ∀ q, s.heap.size ≤ q → A q) (hdg : decode cc pc = .ok (.invokevirtual 65, 3)) (kk : ∀ (r : Int32) (v : SX) (H1 : Heap) (locs1 : List Loc), (r = wf_bi (decide (wf_NN ≤ wf_V ah al * 2 ^ n)) ∧ wf_st u v t (wf_V ah al * 2 ^ n % wf_NN)) → va_P D vwCl (wX q κ v) H1 → va_D A (wX q κ v) → va_S A s.heap H1 locs1 → W p l e R s m args below meth c H1 locs1 (cells) (slots) Q (F0 m (pc + 3) ls (.int r :: rest))) : W p l e R s m args below meth c H locs cells slots Q (F0 m pc ls (.int (nI t) :: .int (nI n) :: .long al :: .long ah :: .ref (q 0) :: rest)) := by
  exact wf_ci (va_runV (As := [.long ah, .long al, .int (nI n), .int (nI t)]) (rest := rest) C (c_X_storeShiftedUp l D q κ u ah al n hn t ht H.size) (cwV 4 C.2.2.2.2 (wG_V (fun _ h => h) k_ml_X_65 k_im_X_storeShiftedUp k_se_X_storeShiftedUp k_in_X k_X_storeShiftedUp) rfl rfl rfl (by decide +kernel) ⟨hR.1, hR.2⟩) ⟨wf_blind, va_recv hK hP (ci := 0) (q0 := 0) rfl rfl, wf_pre hP hK hD⟩ rfl rfl hsz rfl (lv_room hw) hdg ⟨hc.1, hc.2⟩) (fun _ h => h) hS hD hA kk

set_option maxHeartbeats 4000000 in
set_option maxRecDepth 100000 in
/-- X_storeShiftedDown -/
theorem c_X_storeShiftedDown (l : Launch) (D : va_G) (q : Nat → Nat) (κ : Nat → ClassId) (u : SX) (ah al : Int64) (n : Nat) (hn : n < 2 ^ 31) (t : Nat) (ht : t < 8) (sz : Nat) : Met l y_X_storeShiftedDown (.code y_X_storeShiftedDown b_X_storeShiftedDown 7 (some .boolean) :: wG) (wf_rm 3 90 0 0) (wf_Pc D vwCl (wX q κ u) (tyX κ) ([.ref (q 0), .long ah, .long al, .int (nI n), .int (nI t)]) sz) (va_Qi (fun r v => r = wf_bi (decide (wf_V ah al % 2 ^ n ≠ 0)) ∧ wf_st u v t (wf_V ah al / 2 ^ n)) (wf_B D vwCl (wX q κ) (tyX κ) (va_A (wX q κ u) sz)) (va_A (wX q κ u) sz)) 0 0 (va_A (wX q κ u) sz) := by
  refine wf_open (by decide) (Nat.le_of_ble_eq_true rfl) k_X_storeShiftedDown ?_
  intro p e s m below meth c ls hsz C hr hlocks hnm hex hP hK hD hl
  subst hsz
  have hx := C.1
  have hb := C.2.1
  have hml := C.2.2.1
  have hown := C.2.2.2.1
  have hts := C.2.2.2.2
  have hA : ∀ j : Nat, s.heap.size ≤ j → va_A (wX q κ u) s.heap.size j := fun j h => Or.inr h
  have hS : va_S (va_A (wX q κ u) s.heap.size) s.heap s.heap [] := va_S.rf
  generalize hAe : va_A (wX q κ u) s.heap.size = A at hA hS hD ⊢
  have hl : lv_has ls 7 [(0, .ref (q 0)), (1, .long (ah)), (3, .long (al)), (5, .int (nI n)), (6, .int (nI t))] := hl
  refine wf_cutW (D := D) (cl := vwCl) (A := A) (H0 := s.heap) (pcj := 81) (ls := ls) (fun v => wf_st u v t (wf_V ah al / 2 ^ n)) (wX q κ) (fun v H locs hst hP hD hS => ?_) (fun jn => ?_)
  · refine lv_lload_n hx hb d_X_storeShiftedDown_81 rfl (lv_at hl 1 rfl) ?_
    refine lv_lload_n hx hb d_X_storeShiftedDown_82 rfl (lv_at hl 2 rfl) ?_
    refine lv_lor hx hb d_X_storeShiftedDown_83 ?_
    refine lv_lconst (v := 0) hx hb d_X_storeShiftedDown_84 (by decide) ?_
    refine W.lcmp hx hb d_X_storeShiftedDown_85 ?_
    refine lv_if_eq (tgt := 103) hx hb d_X_storeShiftedDown_86 (by decide) (fun c1 => ?_) (fun c1 => ?_)
    · refine lv_iconst (v := 0) hx hb d_X_storeShiftedDown_103 (by decide) ?_
      exact wf_retz C hr (rfl) hlocks v (⟨by rw [decide_eq_false (show ¬ (wf_V ah al % 2 ^ n ≠ 0) by rw [(wf_or0 _ _).mp c1, Nat.zero_mod]; exact fun h => h rfl)]; rfl, hst⟩) hP hK hD hS (fun _ h => h) d_X_storeShiftedDown_104
    · refine lv_iload hx hb d_X_storeShiftedDown_89 (lv_at hl 3 rfl) ?_
      refine lv_lload_n hx hb d_X_storeShiftedDown_91 rfl (lv_at hl 1 rfl) ?_
      refine lv_lload_n hx hb d_X_storeShiftedDown_92 rfl (lv_at hl 2 rfl) ?_
      refine kX_zbelow C hl.1 ⟨Nat.le_of_ble_eq_true rfl, Nat.le_of_ble_eq_true rfl⟩ (Nat.le_of_ble_eq_true rfl) ⟨Nat.le_of_ble_eq_true rfl, Nat.le_of_ble_eq_true rfl⟩ d_X_storeShiftedDown_93 (fun r_1 hr_1 => ?_)
      obtain ⟨z, er_1, hz⟩ := hr_1
      subst er_1
      have hz9 : z ≤ 128 := by rcases hz with h | h <;> omega
      have hlost := wf_dn_lost (n := n) (wf_V_lt ah al) hz
      refine lv_icmp_le (tgt := 103) hx hb d_X_storeShiftedDown_96 (by decide) (fun c2 => ?_) (fun c2 => ?_)
      · refine lv_iconst (v := 0) hx hb d_X_storeShiftedDown_103 (by decide) ?_
        exact wf_retz C hr (rfl) hlocks v (⟨by rw [decide_eq_false (fun h => Nat.not_lt.mpr ((nI_leI hn (by omega)).mp c2) (hlost.mpr h).2)]; rfl, hst⟩) hP hK hD hS (fun _ h => h) d_X_storeShiftedDown_104
      · refine lv_iconst (v := 1) hx hb d_X_storeShiftedDown_99 (by decide) ?_
        refine lv_goto (tgt := 104) hx hb d_X_storeShiftedDown_100 (by decide) ?_
        exact wf_retz C hr (rfl) hlocks v (⟨by rw [decide_eq_true (hlost.mp ⟨fun h => c1 ((wf_or0 _ _).mpr h), Nat.not_le.mp (fun h => c2 (nI_le h (by omega)))⟩)]; rfl, hst⟩) hP hK hD hS (fun _ h => h) d_X_storeShiftedDown_104
  · refine lv_iload hx hb d_X_storeShiftedDown_0 (lv_at hl 3 rfl) ?_
    refine lv_sipush (v := 128) hx hb d_X_storeShiftedDown_2 (by decide) ?_
    refine lv_icmp_lt (tgt := 19) hx hb d_X_storeShiftedDown_5 (by decide) (fun c1 => ?_) (fun c1 => ?_)
    · have h1 : n < 128 := (nI_ltI hn (by decide)).mp c1
      refine lv_iload hx hb d_X_storeShiftedDown_19 (lv_at hl 3 rfl) ?_
      refine lv_bipush (v := 64) hx hb d_X_storeShiftedDown_21 (by decide) ?_
      refine lv_icmp_lt (tgt := 43) hx hb d_X_storeShiftedDown_23 (by decide) (fun c1 => ?_) (fun c1 => ?_)
      · have h2 : n < 64 := (nI_ltI hn (by decide)).mp c1
        refine lv_iload hx hb d_X_storeShiftedDown_43 (lv_at hl 3 rfl) ?_
        refine lv_if_le (tgt := 73) hx hb d_X_storeShiftedDown_45 (by decide) (fun c1 => ?_) (fun c1 => ?_)
        · have h3 : n = 0 := Nat.le_zero.mp ((nI_leI hn (by decide)).mp c1)
          subst h3
          refine lv_aload_n hx hb d_X_storeShiftedDown_73 rfl (lv_at hl 0 rfl) ?_
          refine lv_iload hx hb d_X_storeShiftedDown_74 (lv_at hl 4 rfl) ?_
          refine lv_lload_n hx hb d_X_storeShiftedDown_76 rfl (lv_at hl 1 rfl) ?_
          refine lv_lload_n hx hb d_X_storeShiftedDown_77 rfl (lv_at hl 2 rfl) ?_
          refine kX_store (r := t) ht C hl.1 ⟨Nat.le_of_ble_eq_true rfl, Nat.le_of_ble_eq_true rfl⟩ (Nat.le_of_ble_eq_true rfl) ⟨Nat.le_of_ble_eq_true rfl, Nat.le_of_ble_eq_true rfl⟩ hP hK hD hS hA d_X_storeShiftedDown_78 (fun u_2 H locs eu_2 hP hD hS => ?_)
          exact jn u_2 H locs ⟨_, _, eu_2, wf_dnD ⟩ hP hD hS
        · have h3 : 0 < n := Nat.pos_of_ne_zero (fun h => c1 (by rw [h]; decide))
          refine lv_aload_n hx hb d_X_storeShiftedDown_48 rfl (lv_at hl 0 rfl) ?_
          refine lv_iload hx hb d_X_storeShiftedDown_49 (lv_at hl 4 rfl) ?_
          refine lv_lload_n hx hb d_X_storeShiftedDown_51 rfl (lv_at hl 1 rfl) ?_
          refine lv_iload hx hb d_X_storeShiftedDown_52 (lv_at hl 3 rfl) ?_
          refine lv_lushr hx hb d_X_storeShiftedDown_54 rfl ?_
          refine lv_lload_n hx hb d_X_storeShiftedDown_55 rfl (lv_at hl 2 rfl) ?_
          refine lv_iload hx hb d_X_storeShiftedDown_56 (lv_at hl 3 rfl) ?_
          refine lv_lushr hx hb d_X_storeShiftedDown_58 rfl ?_
          refine lv_lload_n hx hb d_X_storeShiftedDown_59 rfl (lv_at hl 1 rfl) ?_
          refine lv_bipush (v := 64) hx hb d_X_storeShiftedDown_60 (by decide) ?_
          refine lv_iload hx hb d_X_storeShiftedDown_62 (lv_at hl 3 rfl) ?_
          refine lv_isub hx hb d_X_storeShiftedDown_64 ?_
          refine lv_topi (fun k_3 ek_3 => ?_)
          have ek_3 : k_3 = nI (64 - n) := ek_3.trans (pk_sub (a := 64) (by omega))
          subst ek_3
          refine lv_lshl hx hb d_X_storeShiftedDown_65 rfl ?_
          refine lv_lor hx hb d_X_storeShiftedDown_66 ?_
          refine kX_store (r := t) ht C hl.1 ⟨Nat.le_of_ble_eq_true rfl, Nat.le_of_ble_eq_true rfl⟩ (Nat.le_of_ble_eq_true rfl) ⟨Nat.le_of_ble_eq_true rfl, Nat.le_of_ble_eq_true rfl⟩ hP hK hD hS hA d_X_storeShiftedDown_67 (fun u_4 H locs eu_4 hP hD hS => ?_)
          refine lv_goto (tgt := 81) hx hb d_X_storeShiftedDown_70 (by decide) ?_
          exact jn u_4 H locs ⟨_, _, eu_4, wf_dnC h3 h2⟩ hP hD hS
      · have h2 : 64 ≤ n := Nat.not_lt.mp (fun h => c1 (nI_lt h (by decide)))
        refine lv_aload_n hx hb d_X_storeShiftedDown_26 rfl (lv_at hl 0 rfl) ?_
        refine lv_iload hx hb d_X_storeShiftedDown_27 (lv_at hl 4 rfl) ?_
        refine lv_lconst (v := 0) hx hb d_X_storeShiftedDown_29 (by decide) ?_
        refine lv_lload_n hx hb d_X_storeShiftedDown_30 rfl (lv_at hl 1 rfl) ?_
        refine lv_iload hx hb d_X_storeShiftedDown_31 (lv_at hl 3 rfl) ?_
        refine lv_bipush (v := 64) hx hb d_X_storeShiftedDown_33 (by decide) ?_
        refine lv_isub hx hb d_X_storeShiftedDown_35 ?_
        refine lv_topi (fun k_5 ek_5 => ?_)
        have ek_5 : k_5 = nI (n - 64) := ek_5.trans (pk_sub h2)
        subst ek_5
        refine lv_lushr hx hb d_X_storeShiftedDown_36 rfl ?_
        refine kX_store (r := t) ht C hl.1 ⟨Nat.le_of_ble_eq_true rfl, Nat.le_of_ble_eq_true rfl⟩ (Nat.le_of_ble_eq_true rfl) ⟨Nat.le_of_ble_eq_true rfl, Nat.le_of_ble_eq_true rfl⟩ hP hK hD hS hA d_X_storeShiftedDown_37 (fun u_6 H locs eu_6 hP hD hS => ?_)
        refine lv_goto (tgt := 81) hx hb d_X_storeShiftedDown_40 (by decide) ?_
        exact jn u_6 H locs ⟨_, _, eu_6, wf_dnB h2 h1⟩ hP hD hS
    · have h1 : 128 ≤ n := Nat.not_lt.mp (fun h => c1 (nI_lt h (by decide)))
      refine lv_aload_n hx hb d_X_storeShiftedDown_8 rfl (lv_at hl 0 rfl) ?_
      refine lv_iload hx hb d_X_storeShiftedDown_9 (lv_at hl 4 rfl) ?_
      refine lv_lconst (v := 0) hx hb d_X_storeShiftedDown_11 (by decide) ?_
      refine lv_lconst (v := 0) hx hb d_X_storeShiftedDown_12 (by decide) ?_
      refine kX_store (r := t) ht C hl.1 ⟨Nat.le_of_ble_eq_true rfl, Nat.le_of_ble_eq_true rfl⟩ (Nat.le_of_ble_eq_true rfl) ⟨Nat.le_of_ble_eq_true rfl, Nat.le_of_ble_eq_true rfl⟩ hP hK hD hS hA d_X_storeShiftedDown_13 (fun u_7 H locs eu_7 hP hD hS => ?_)
      refine lv_goto (tgt := 81) hx hb d_X_storeShiftedDown_16 (by decide) ?_
      exact jn u_7 H locs ⟨_, _, eu_7, wf_dnA h1⟩ hP hD hS

set_option maxHeartbeats 4000000 in
set_option maxRecDepth 100000 in
theorem kX_down {p : Program} {l : Launch} {e : Env} {R : Room} {s : State} {m : MethodId} {args : Array Value} {below : List Frame} {meth : Method} {c : Code} {H : Heap} {locs : List Loc} {cells slots : Nat} {Q : State → Prop} {cc : ByteArray} {pc nL : Nat} {ls : Array Slot} {rest : List Value} {D : va_G} {q : Nat → Nat} {κ : Nat → ClassId} {A : Nat → Prop} {u : SX} {ah al : Int64} {n : Nat} (hn : n < 2 ^ 31) {t : Nat} (ht : t < 8) (C : CallFix p m c cc nL s args wG RX) (hsz : ls.size = nL) (hR : 4 ≤ R.frames ∧ 116 ≤ R.locals) (hw : (rest.map fun v => v.category).sum ≤ 8) (hc : cells + 0 ≤ R.cells ∧ slots + 0 ≤ R.slots) (hP : va_P D vwCl (wX q κ u) H) (hK : va_K D vwCl (tyX κ) s) (hD : va_D A (wX q κ u)) (hS : va_S A s.heap H locs) (hA : ∀ q, s.heap.size ≤ q → A q) (hdg : decode cc pc = .ok (.invokevirtual 69, 3)) (kk : ∀ (r : Int32) (v : SX) (H1 : Heap) (locs1 : List Loc), (r = wf_bi (decide (wf_V ah al % 2 ^ n ≠ 0)) ∧ wf_st u v t (wf_V ah al / 2 ^ n)) → va_P D vwCl (wX q κ v) H1 → va_D A (wX q κ v) → va_S A s.heap H1 locs1 → W p l e R s m args below meth c H1 locs1 (cells) (slots) Q (F0 m (pc + 3) ls (.int r :: rest))) : W p l e R s m args below meth c H locs cells slots Q (F0 m pc ls (.int (nI t) :: .int (nI n) :: .long al :: .long ah :: .ref (q 0) :: rest)) := by
  exact wf_ci (va_runV (As := [.long ah, .long al, .int (nI n), .int (nI t)]) (rest := rest) C (c_X_storeShiftedDown l D q κ u ah al n hn t ht H.size) (cwV 4 C.2.2.2.2 (wG_V (fun _ h => h) k_ml_X_69 k_im_X_storeShiftedDown k_se_X_storeShiftedDown k_in_X k_X_storeShiftedDown) rfl rfl rfl (by decide +kernel) ⟨hR.1, hR.2⟩) ⟨wf_blind, va_recv hK hP (ci := 0) (q0 := 0) rfl rfl, wf_pre hP hK hD⟩ rfl rfl hsz rfl (lv_room hw) hdg ⟨hc.1, hc.2⟩) (fun _ h => h) hS hD hA kk
