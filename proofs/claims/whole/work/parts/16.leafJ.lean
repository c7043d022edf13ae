/-! ===== Long.compare, compareUnsigned; oneIfBelow, isBelow ===== -/
set_option maxHeartbeats 4000000 in
set_option maxRecDepth 100000 in
/-- Long.compare -/
theorem c_Jl_compare (l : Launch) (x y : Int64) : Met l y_Jl_compare (.code y_Jl_compare b_Jl_compare 4 (some .int) :: wG) (wf_rm 0 0 0 0) (fun v _ => v = ([.long x, .long y] : List Value).toArray) (vp_Si (fun r => r = if x < y then -1 else if x = y then 0 else 1)) 0 0 (fun _ => False) := by
  refine wf_openS (by decide) (Nat.le_of_ble_eq_true rfl) ?_
  intro p e s m below meth c ls C hr hlocks hl
  have hx := C.1
  have hb := C.2.1
  have hml := C.2.2.1
  have hown := C.2.2.2.1
  have hts := C.2.2.2.2
  have hl : lv_has ls 4 [(0, .long (x)), (2, .long (y))] := hl
  refine lv_lload_n hx hb d_Jl_compare_0 rfl (lv_at hl 0 rfl) ?_
  refine lv_lload_n hx hb d_Jl_compare_1 rfl (lv_at hl 1 rfl) ?_
  refine W.lcmp hx hb d_Jl_compare_2 ?_
  refine lv_if_ge (tgt := 10) hx hb d_Jl_compare_3 (by decide) (fun c_1 => ?_) (fun c_1 => ?_)
  · refine lv_lload_n hx hb d_Jl_compare_10 rfl (lv_at hl 0 rfl) ?_
    refine lv_lload_n hx hb d_Jl_compare_11 rfl (lv_at hl 1 rfl) ?_
    refine W.lcmp hx hb d_Jl_compare_12 ?_
    refine lv_if_ne (tgt := 20) hx hb d_Jl_compare_13 (by decide) (fun c_2 => ?_) (fun c_2 => ?_)
    · refine lv_iconst (v := 1) hx hb d_Jl_compare_20 (by decide) ?_
      exact W.iret hx hb hr (fun t ht hW => ⟨_, rfl, by rw [lg_cmp_ge] at c_1; rw [lg_cmp_eq] at c_2; rw [if_neg (Int64.not_lt.mpr c_1), if_neg c_2], ht⟩) (fun q h => by cases h) d_Jl_compare_21 hlocks
    · refine lv_iconst (v := 0) hx hb d_Jl_compare_16 (by decide) ?_
      refine lv_goto (tgt := 21) hx hb d_Jl_compare_17 (by decide) ?_
      exact W.iret hx hb hr (fun t ht hW => ⟨_, rfl, by rw [lg_cmp_ge] at c_1; rw [lg_cmp_eq] at c_2; rw [if_neg (Int64.not_lt.mpr c_1), if_pos c_2], ht⟩) (fun q h => by cases h) d_Jl_compare_21 hlocks
  · refine lv_iconst (v := (-1)) hx hb d_Jl_compare_6 (by decide) ?_
    refine lv_goto (tgt := 21) hx hb d_Jl_compare_7 (by decide) ?_
    exact W.iret hx hb hr (fun t ht hW => ⟨_, rfl, by rw [lg_cmp_ge] at c_1; rw [if_pos (Int64.not_le.mp c_1)], ht⟩) (fun q h => by cases h) d_Jl_compare_21 hlocks

set_option maxHeartbeats 4000000 in
set_option maxRecDepth 100000 in
theorem kJ_compare {p : Program} {l : Launch} {e : Env} {R : Room} {s : State} {m : MethodId} {args : Array Value} {below : List Frame} {meth : Method} {c : Code} {H : Heap} {locs : List Loc} {cells slots : Nat} {Q : State → Prop} {cc : ByteArray} {pc nL : Nat} {ls : Array Slot} {rest : List Value} {x y : Int64} (C : CallFix p m c cc nL s args wG RJl) (hsz : ls.size = nL) (hR : 1 ≤ R.frames ∧ 23 ≤ R.locals) (hw : (rest.map fun v => v.category).sum ≤ 8) (hc : cells ≤ R.cells ∧ slots ≤ R.slots) (hdg : decode cc pc = .ok (.invokestatic 302, 3)) (kk : W p l e R s m args below meth c H locs cells slots Q (F0 m (pc + 3) ls (.int (if x < y then -1 else if x = y then 0 else 1) :: rest))) : W p l e R s m args below meth c H locs cells slots Q (F0 m pc ls (.long y :: .long x :: rest)) := by
  refine vp_callSi (W.runS (As := [.long x, .long y]) (rest := rest) C (c_Jl_compare l x y) (va_cwS 2 C.2.2.2.2 (wG_S (fun _ h => h) k_ml_Jl_302 k_st_Jl_compare k_in_Jl k_Jl_compare) rfl rfl rfl (by decide +kernel) ⟨hR.1, hR.2⟩) preEq rfl rfl hsz rfl (lv_room hw) hdg ⟨hc.1, hc.2⟩) (fun r hr => ?_)
  rw [hr]
  exact kk

set_option maxHeartbeats 4000000 in
set_option maxRecDepth 100000 in
/-- Long.compareUnsigned -/
theorem c_Jl_compareUnsigned (l : Launch) (x y : Int64) : Met l y_Jl_compareUnsigned (.code y_Jl_compareUnsigned b_Jl_compareUnsigned 4 (some .int) :: wG) (wf_rm 1 30 0 0) (fun v _ => v = ([.long x, .long y] : List Value).toArray) (vp_Si (fun r => r = if uN x < uN y then -1 else if uN x = uN y then 0 else 1)) 0 0 (fun _ => False) := by
  refine wf_openS (by decide) (Nat.le_of_ble_eq_true rfl) ?_
  intro p e s m below meth c ls C hr hlocks hl
  have hx := C.1
  have hb := C.2.1
  have hml := C.2.2.1
  have hown := C.2.2.2.1
  have hts := C.2.2.2.2
  have hl : lv_has ls 4 [(0, .long (x)), (2, .long (y))] := hl
  refine lv_lload_n hx hb d_Jl_compareUnsigned_0 rfl (lv_at hl 0 rfl) ?_
  refine lv_ldc2 (v := (-9223372036854775808)) hx hb hown (hts _ (k_cl_Jl_168)) d_Jl_compareUnsigned_1 ?_
  refine lv_ladd hx hb d_Jl_compareUnsigned_4 ?_
  refine lv_lload_n hx hb d_Jl_compareUnsigned_5 rfl (lv_at hl 1 rfl) ?_
  refine lv_ldc2 (v := (-9223372036854775808)) hx hb hown (hts _ (k_cl_Jl_168)) d_Jl_compareUnsigned_6 ?_
  refine lv_ladd hx hb d_Jl_compareUnsigned_9 ?_
  refine kJ_compare C hl.1 ⟨Nat.le_of_ble_eq_true rfl, Nat.le_of_ble_eq_true rfl⟩ (Nat.le_of_ble_eq_true rfl) ⟨Nat.le_of_ble_eq_true rfl, Nat.le_of_ble_eq_true rfl⟩ d_Jl_compareUnsigned_10 ?_
  exact W.iret hx hb hr (fun t ht hW => ⟨_, rfl, by simp only [wf_ult, wf_ueq], ht⟩) (fun q h => by cases h) d_Jl_compareUnsigned_13 hlocks

set_option maxHeartbeats 4000000 in
set_option maxRecDepth 100000 in
theorem kX_cu {p : Program} {l : Launch} {e : Env} {R : Room} {s : State} {m : MethodId} {args : Array Value} {below : List Frame} {meth : Method} {c : Code} {H : Heap} {locs : List Loc} {cells slots : Nat} {Q : State → Prop} {cc : ByteArray} {pc nL : Nat} {ls : Array Slot} {rest : List Value} {x y : Int64} (C : CallFix p m c cc nL s args wG RX) (hsz : ls.size = nL) (hR : 2 ≤ R.frames ∧ 53 ≤ R.locals) (hw : (rest.map fun v => v.category).sum ≤ 8) (hc : cells ≤ R.cells ∧ slots ≤ R.slots) (hdg : decode cc pc = .ok (.invokestatic 107, 3)) (kk : W p l e R s m args below meth c H locs cells slots Q (F0 m (pc + 3) ls (.int (if uN x < uN y then -1 else if uN x = uN y then 0 else 1) :: rest))) : W p l e R s m args below meth c H locs cells slots Q (F0 m pc ls (.long y :: .long x :: rest)) := by
  refine vp_callSi (W.runS (As := [.long x, .long y]) (rest := rest) C (c_Jl_compareUnsigned l x y) (va_cwS 2 C.2.2.2.2 (wG_S (fun _ h => h) k_ml_X_107 k_st_Jl_compareUnsigned k_in_Jl k_Jl_compareUnsigned) rfl rfl rfl (by decide +kernel) ⟨hR.1, hR.2⟩) preEq rfl rfl hsz rfl (lv_room hw) hdg ⟨hc.1, hc.2⟩) (fun r hr => ?_)
  rw [hr]
  exact kk

theorem wf_cu_ge (x y : Int64) : (0 : Int32) ≤ (if uN x < uN y then -1 else if uN x = uN y then 0 else 1) ↔ ¬ uN x < uN y := by
  by_cases h : uN x < uN y
  · rw [if_pos h]; exact ⟨fun z => absurd z (by decide), fun z => absurd h z⟩
  · rw [if_neg h]; refine ⟨fun _ => h, fun _ => ?_⟩; split <;> decide
theorem wf_cu_lt (x y : Int64) : (if uN x < uN y then -1 else if uN x = uN y then 0 else 1 : Int32) < 0 ↔ uN x < uN y := by
  by_cases h : uN x < uN y
  · rw [if_pos h]; exact ⟨fun _ => h, fun _ => by decide⟩
  · rw [if_neg h]; refine ⟨fun z => ?_, fun z => absurd z h⟩; split at z <;> exact absurd z (by decide)
theorem wf_cu_eq (x y : Int64) : (if uN x < uN y then -1 else if uN x = uN y then 0 else 1 : Int32) = 0 ↔ uN x = uN y := by
  by_cases h : uN x < uN y
  · rw [if_pos h]; exact ⟨fun z => absurd z (by decide), fun z => by omega⟩
  · rw [if_neg h]
    by_cases h2 : uN x = uN y
    · rw [if_pos h2]; exact ⟨fun _ => h2, fun _ => rfl⟩
    · rw [if_neg h2]; exact ⟨fun z => absurd z (by decide), fun z => absurd z h2⟩

set_option maxHeartbeats 4000000 in
set_option maxRecDepth 100000 in
/-- oneIfBelow -/
theorem c_X_oneIfBelow (l : Launch) (x y : Int64) : Met l y_X_oneIfBelow (.code y_X_oneIfBelow b_X_oneIfBelow 4 (some .long) :: wG) (wf_rm 2 60 0 0) (fun v _ => v = ([.long x, .long y] : List Value).toArray) (vp_Sl (fun r => r = wf_ob x y)) 0 0 (fun _ => False) := by
  refine wf_openS (by decide) (Nat.le_of_ble_eq_true rfl) ?_
  intro p e s m below meth c ls C hr hlocks hl
  have hx := C.1
  have hb := C.2.1
  have hml := C.2.2.1
  have hown := C.2.2.2.1
  have hts := C.2.2.2.2
  have hl : lv_has ls 4 [(0, .long (x)), (2, .long (y))] := hl
  refine lv_lload_n hx hb d_X_oneIfBelow_0 rfl (lv_at hl 0 rfl) ?_
  refine lv_lload_n hx hb d_X_oneIfBelow_1 rfl (lv_at hl 1 rfl) ?_
  refine kX_cu C hl.1 ⟨Nat.le_of_ble_eq_true rfl, Nat.le_of_ble_eq_true rfl⟩ (Nat.le_of_ble_eq_true rfl) ⟨Nat.le_of_ble_eq_true rfl, Nat.le_of_ble_eq_true rfl⟩ d_X_oneIfBelow_2 ?_
  refine lv_if_ge (tgt := 12) hx hb d_X_oneIfBelow_5 (by decide) (fun c_1 => ?_) (fun c_1 => ?_)
  · refine lv_lconst (v := 0) hx hb d_X_oneIfBelow_12 (by decide) ?_
    exact W.lret hx hb hr (fun t ht hW => ⟨_, rfl, by rw [wf_cu_ge] at c_1; unfold wf_ob; rw [if_neg c_1], ht⟩) (fun q h => by cases h) d_X_oneIfBelow_13 hlocks
  · refine lv_lconst (v := 1) hx hb d_X_oneIfBelow_8 (by decide) ?_
    refine lv_goto (tgt := 13) hx hb d_X_oneIfBelow_9 (by decide) ?_
    exact W.lret hx hb hr (fun t ht hW => ⟨_, rfl, by rw [wf_cu_ge] at c_1; unfold wf_ob; rw [if_pos (Decidable.not_not.mp c_1)], ht⟩) (fun q h => by cases h) d_X_oneIfBelow_13 hlocks

set_option maxHeartbeats 4000000 in
set_option maxRecDepth 100000 in
theorem kX_one {p : Program} {l : Launch} {e : Env} {R : Room} {s : State} {m : MethodId} {args : Array Value} {below : List Frame} {meth : Method} {c : Code} {H : Heap} {locs : List Loc} {cells slots : Nat} {Q : State → Prop} {cc : ByteArray} {pc nL : Nat} {ls : Array Slot} {rest : List Value} {x y : Int64} (C : CallFix p m c cc nL s args wG RX) (hsz : ls.size = nL) (hR : 3 ≤ R.frames ∧ 83 ≤ R.locals) (hw : (rest.map fun v => v.category).sum ≤ 8) (hc : cells ≤ R.cells ∧ slots ≤ R.slots) (hdg : decode cc pc = .ok (.invokestatic 35, 3)) (kk : W p l e R s m args below meth c H locs cells slots Q (F0 m (pc + 3) ls (.long (wf_ob x y) :: rest))) : W p l e R s m args below meth c H locs cells slots Q (F0 m pc ls (.long y :: .long x :: rest)) := by
  refine vp_callSl (W.runS (As := [.long x, .long y]) (rest := rest) C (c_X_oneIfBelow l x y) (va_cwS 2 C.2.2.2.2 (wG_S (fun _ h => h) k_ml_X_35 k_st_X_oneIfBelow k_in_X k_X_oneIfBelow) rfl rfl rfl (by decide +kernel) ⟨hR.1, hR.2⟩) preEq rfl rfl hsz rfl (lv_room hw) hdg ⟨hc.1, hc.2⟩) (fun r hr => ?_)
  rw [hr]
  exact kk

set_option maxHeartbeats 4000000 in
set_option maxRecDepth 100000 in
/-- isBelow -/
theorem c_X_isBelow (l : Launch) (xh xl yh yl : Int64) : Met l y_X_isBelow (.code y_X_isBelow b_X_isBelow 9 (some .boolean) :: wG) (wf_rm 2 60 0 0) (fun v _ => v = ([.long xh, .long xl, .long yh, .long yl] : List Value).toArray) (vp_Si (fun r => r = wf_bi (decide (wf_V xh xl < wf_V yh yl)))) 0 0 (fun _ => False) := by
  refine wf_openS (by decide) (Nat.le_of_ble_eq_true rfl) ?_
  intro p e s m below meth c ls C hr hlocks hl
  have hx := C.1
  have hb := C.2.1
  have hml := C.2.2.1
  have hown := C.2.2.2.1
  have hts := C.2.2.2.2
  have hl : lv_has ls 9 [(0, .long (xh)), (2, .long (xl)), (4, .long (yh)), (6, .long (yl))] := hl
  refine lv_lload_n hx hb d_X_isBelow_0 rfl (lv_at hl 0 rfl) ?_
  refine lv_lload hx hb d_X_isBelow_1 (lv_at hl 2 rfl) ?_
  refine kX_cu C hl.1 ⟨Nat.le_of_ble_eq_true rfl, Nat.le_of_ble_eq_true rfl⟩ (Nat.le_of_ble_eq_true rfl) ⟨Nat.le_of_ble_eq_true rfl, Nat.le_of_ble_eq_true rfl⟩ d_X_isBelow_3 ?_
  refine lv_topi (fun o1 eo1 => ?_)
  refine lv_istore (lv' := [(8, .int (o1)), (0, .long (xh)), (2, .long (xl)), (4, .long (yh)), (6, .long (yl))]) hx hb d_X_isBelow_6 hl (by decide) rfl (fun ls hl => ?_)
  refine lv_iload hx hb d_X_isBelow_8 (lv_at hl 0 rfl) ?_
  refine lv_if_lt (tgt := 27) hx hb d_X_isBelow_10 (by decide) (fun c_1 => ?_) (fun c_1 => ?_)
  · refine lv_iconst (v := 1) hx hb d_X_isBelow_27 (by decide) ?_
    refine lv_goto (tgt := 32) hx hb d_X_isBelow_28 (by decide) ?_
    exact W.zret hx hb hr rfl (fun t ht hW => ⟨_, rfl, by
      simp only [eo1, wf_cu_lt, wf_cu_eq, wf_cu_ge] at *
      have h1 := uN_lt xl
      have h2 := uN_lt yl
      have h3 :  wf_V xh xl < wf_V yh yl := by unfold wf_V; omega
      rw [decide_eq_true h3]; rfl, ht⟩) (fun q h => by cases h) d_X_isBelow_32 hlocks
  · refine lv_iload hx hb d_X_isBelow_13 (lv_at hl 0 rfl) ?_
    refine lv_if_ne (tgt := 31) hx hb d_X_isBelow_15 (by decide) (fun c_2 => ?_) (fun c_2 => ?_)
    · refine lv_iconst (v := 0) hx hb d_X_isBelow_31 (by decide) ?_
      exact W.zret hx hb hr rfl (fun t ht hW => ⟨_, rfl, by
        simp only [eo1, wf_cu_lt, wf_cu_eq, wf_cu_ge] at *
        have h1 := uN_lt xl
        have h2 := uN_lt yl
        have h3 : ¬ wf_V xh xl < wf_V yh yl := by unfold wf_V; omega
        rw [decide_eq_false h3]; rfl, ht⟩) (fun q h => by cases h) d_X_isBelow_32 hlocks
    · refine lv_lload_n hx hb d_X_isBelow_18 rfl (lv_at hl 2 rfl) ?_
      refine lv_lload hx hb d_X_isBelow_19 (lv_at hl 4 rfl) ?_
      refine kX_cu C hl.1 ⟨Nat.le_of_ble_eq_true rfl, Nat.le_of_ble_eq_true rfl⟩ (Nat.le_of_ble_eq_true rfl) ⟨Nat.le_of_ble_eq_true rfl, Nat.le_of_ble_eq_true rfl⟩ d_X_isBelow_21 ?_
      refine lv_if_ge (tgt := 31) hx hb d_X_isBelow_24 (by decide) (fun c_3 => ?_) (fun c_3 => ?_)
      · refine lv_iconst (v := 0) hx hb d_X_isBelow_31 (by decide) ?_
        exact W.zret hx hb hr rfl (fun t ht hW => ⟨_, rfl, by
          simp only [eo1, wf_cu_lt, wf_cu_eq, wf_cu_ge] at *
          have h1 := uN_lt xl
          have h2 := uN_lt yl
          have h3 : ¬ wf_V xh xl < wf_V yh yl := by unfold wf_V; omega
          rw [decide_eq_false h3]; rfl, ht⟩) (fun q h => by cases h) d_X_isBelow_32 hlocks
      · refine lv_iconst (v := 1) hx hb d_X_isBelow_27 (by decide) ?_
        refine lv_goto (tgt := 32) hx hb d_X_isBelow_28 (by decide) ?_
        exact W.zret hx hb hr rfl (fun t ht hW => ⟨_, rfl, by
          simp only [eo1, wf_cu_lt, wf_cu_eq, wf_cu_ge] at *
          have h1 := uN_lt xl
          have h2 := uN_lt yl
          have h3 :  wf_V xh xl < wf_V yh yl := by unfold wf_V; omega
          rw [decide_eq_true h3]; rfl, ht⟩) (fun q h => by cases h) d_X_isBelow_32 hlocks

set_option maxHeartbeats 4000000 in
set_option maxRecDepth 100000 in
theorem kX_below {p : Program} {l : Launch} {e : Env} {R : Room} {s : State} {m : MethodId} {args : Array Value} {below : List Frame} {meth : Method} {c : Code} {H : Heap} {locs : List Loc} {cells slots : Nat} {Q : State → Prop} {cc : ByteArray} {pc nL : Nat} {ls : Array Slot} {rest : List Value} {xh xl yh yl : Int64} (C : CallFix p m c cc nL s args wG RX) (hsz : ls.size = nL) (hR : 3 ≤ R.frames ∧ 88 ≤ R.locals) (hw : (rest.map fun v => v.category).sum ≤ 8) (hc : cells ≤ R.cells ∧ slots ≤ R.slots) (hdg : decode cc pc = .ok (.invokestatic 39, 3)) (kk : W p l e R s m args below meth c H locs cells slots Q (F0 m (pc + 3) ls (.int (wf_bi (decide (wf_V xh xl < wf_V yh yl))) :: rest))) : W p l e R s m args below meth c H locs cells slots Q (F0 m pc ls (.long yl :: .long yh :: .long xl :: .long xh :: rest)) := by
  refine vp_callSi (W.runS (As := [.long xh, .long xl, .long yh, .long yl]) (rest := rest) C (c_X_isBelow l xh xl yh yl) (va_cwS 4 C.2.2.2.2 (wG_S (fun _ h => h) k_ml_X_39 k_st_X_isBelow k_in_X k_X_isBelow) rfl rfl rfl (by decide +kernel) ⟨hR.1, hR.2⟩) preEq rfl rfl hsz rfl (lv_room hw) hdg ⟨hc.1, hc.2⟩) (fun r hr => ?_)
  rw [hr]
  exact kk
