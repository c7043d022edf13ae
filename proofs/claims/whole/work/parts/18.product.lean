/-! ===== storeProduct, storeQuotient, storeRoot ===== -/
/-- register r becomes n, all else stays -/
def wf_st (u v : SX) (r n : Nat) : Prop := ∃ h lo : Int64, v = (va_up u.1 r h, va_up u.2.1 r lo, u.2.2) ∧ wf_V h lo = n
def wf_Rx (u : SX) (r : Nat) : Nat := wf_V (u.1 r) (u.2.1 r)
theorem wf_st_R {u v : SX} {r n : Nat} (h : wf_st u v r n) (k : Nat) : wf_Rx v k = if k = r then n else wf_Rx u k := by
  obtain ⟨a, b, rfl, e⟩ := h
  unfold wf_Rx
  by_cases hk : k = r
  · subst hk
    rw [if_pos rfl]
    show wf_V (va_up u.1 k a k) (va_up u.2.1 k b k) = n
    rw [va_up_self, va_up_self]
    exact e
  · rw [if_neg hk]
    show wf_V (va_up u.1 r a k) (va_up u.2.1 r b k) = _
    rw [va_up_ne _ _ hk, va_up_ne _ _ hk]
theorem wf_st_r {u v : SX} {r n : Nat} (h : wf_st u v r n) : v.2.2 = u.2.2 := by
  obtain ⟨a, b, rfl, e⟩ := h
  rfl
theorem wf_Rx_lt (u : SX) (r : Nat) : wf_Rx u r < wf_NN := wf_V_lt _ _

set_option maxHeartbeats 4000000 in
set_option maxRecDepth 100000 in
/-- storeProduct -/
theorem c_X_storeProduct (l : Launch) (D : va_G) (q : Nat → Nat) (κ : Nat → ClassId) (u : SX) (ah al bh bl : Int64) (o : Nat) (ho : o < 8) (t : Nat) (ht : t < 8) (sz : Nat) : Met l y_X_storeProduct (.code y_X_storeProduct b_X_storeProduct 31 none :: wG) (wf_rm 3 90 0 0) (wf_Pc D vwCl (wX q κ u) (tyX κ) ([.ref (q 0), .long ah, .long al, .long bh, .long bl, .int (nI o), .int (nI t)]) sz) (va_Qv (fun v => ∃ w : SX, wf_st u w o (wf_V ah al * wf_V bh bl / wf_NN) ∧ wf_st w v t (wf_V ah al * wf_V bh bl % wf_NN)) (wf_B D vwCl (wX q κ) (tyX κ) (va_A (wX q κ u) sz)) (va_A (wX q κ u) sz)) 0 0 (va_A (wX q κ u) sz) := by
  refine wf_open (by decide) (Nat.le_of_ble_eq_true rfl) k_X_storeProduct ?_
  intro p e s m below meth c ls hsz C hr hlocks hnm hex hP hK hD hl
  subst hsz
  have hx := C.1
  have hb := C.2.1
  have hml := C.2.2.1
  have hown := C.2.2.2.1
  have hts := C.2.2.2.2
  have hA : ∀ j : Nat, s.heap.size ≤ j → va_A (wX q κ u) s.heap.size j := fun j h => Or.inr h
  have hS : va_S (va_A (wX q κ u) s.heap.size) s.heap s.heap [] := va_S.rf
  generalize hAe : va_A (wX q κ u) s.heap.size = A at hA hS hD ⊢
  have hl : lv_has ls 31 [(0, .ref (q 0)), (1, .long (ah)), (3, .long (al)), (5, .long (bh)), (7, .long (bl)), (9, .int (nI o)), (10, .int (nI t))] := hl
  refine lv_lload_n hx hb d_X_storeProduct_0 rfl (lv_at hl 1 rfl) ?_
  refine lv_lload hx hb d_X_storeProduct_1 (lv_at hl 4 rfl) ?_
  refine lv_lmul hx hb d_X_storeProduct_3 ?_
  refine lv_topl (fun v_1 ev_1 => ?_)
  refine lv_lstore (lv' := [(11, .long (v_1)), (0, .ref (q 0)), (1, .long (ah)), (3, .long (al)), (5, .long (bh)), (7, .long (bl)), (9, .int (nI o)), (10, .int (nI t))]) hx hb d_X_storeProduct_4 hl (by decide) rfl (fun ls hl => ?_)
  refine lv_lload_n hx hb d_X_storeProduct_6 rfl (lv_at hl 3 rfl) ?_
  refine lv_lload hx hb d_X_storeProduct_7 (lv_at hl 4 rfl) ?_
  refine lv_lmul hx hb d_X_storeProduct_9 ?_
  refine lv_topl (fun v_2 ev_2 => ?_)
  refine lv_lstore (lv' := [(13, .long (v_2)), (11, .long (v_1)), (0, .ref (q 0)), (1, .long (ah)), (3, .long (al)), (5, .long (bh)), (7, .long (bl)), (9, .int (nI o)), (10, .int (nI t))]) hx hb d_X_storeProduct_10 hl (by decide) rfl (fun ls hl => ?_)
  refine lv_lload hx hb d_X_storeProduct_12 (lv_at hl 1 rfl) ?_
  refine lv_lload hx hb d_X_storeProduct_14 (lv_at hl 0 rfl) ?_
  refine lv_ladd hx hb d_X_storeProduct_16 ?_
  refine lv_topl (fun v_3 ev_3 => ?_)
  refine lv_lstore (lv' := [(15, .long (v_3)), (13, .long (v_2)), (11, .long (v_1)), (0, .ref (q 0)), (1, .long (ah)), (3, .long (al)), (5, .long (bh)), (7, .long (bl)), (9, .int (nI o)), (10, .int (nI t))]) hx hb d_X_storeProduct_17 hl (by decide) rfl (fun ls hl => ?_)
  refine lv_lload hx hb d_X_storeProduct_19 (lv_at hl 0 rfl) ?_
  refine lv_lload_n hx hb d_X_storeProduct_21 rfl (lv_at hl 5 rfl) ?_
  refine lv_lload hx hb d_X_storeProduct_22 (lv_at hl 7 rfl) ?_
  refine kX_over C hl.1 ⟨Nat.le_of_ble_eq_true rfl, Nat.le_of_ble_eq_true rfl⟩ (Nat.le_of_ble_eq_true rfl) ⟨Nat.le_of_ble_eq_true rfl, Nat.le_of_ble_eq_true rfl⟩ d_X_storeProduct_24 (fun r_4 hr_4 => ?_)
  refine lv_ladd hx hb d_X_storeProduct_27 ?_
  refine lv_topl (fun v_5 ev_5 => ?_)
  refine lv_lstore (lv' := [(17, .long (v_5)), (15, .long (v_3)), (13, .long (v_2)), (11, .long (v_1)), (0, .ref (q 0)), (1, .long (ah)), (3, .long (al)), (5, .long (bh)), (7, .long (bl)), (9, .int (nI o)), (10, .int (nI t))]) hx hb d_X_storeProduct_28 hl (by decide) rfl (fun ls hl => ?_)
  refine lv_lload hx hb d_X_storeProduct_30 (lv_at hl 1 rfl) ?_
  refine lv_lload hx hb d_X_storeProduct_32 (lv_at hl 3 rfl) ?_
  refine kX_one C hl.1 ⟨Nat.le_of_ble_eq_true rfl, Nat.le_of_ble_eq_true rfl⟩ (Nat.le_of_ble_eq_true rfl) ⟨Nat.le_of_ble_eq_true rfl, Nat.le_of_ble_eq_true rfl⟩ d_X_storeProduct_34 ?_
  refine lv_lload hx hb d_X_storeProduct_37 (lv_at hl 0 rfl) ?_
  refine lv_lload hx hb d_X_storeProduct_39 (lv_at hl 1 rfl) ?_
  refine kX_one C hl.1 ⟨Nat.le_of_ble_eq_true rfl, Nat.le_of_ble_eq_true rfl⟩ (Nat.le_of_ble_eq_true rfl) ⟨Nat.le_of_ble_eq_true rfl, Nat.le_of_ble_eq_true rfl⟩ d_X_storeProduct_41 ?_
  refine lv_ladd hx hb d_X_storeProduct_44 ?_
  refine lv_topl (fun v_6 ev_6 => ?_)
  refine lv_lstore (lv' := [(19, .long (v_6)), (17, .long (v_5)), (15, .long (v_3)), (13, .long (v_2)), (11, .long (v_1)), (0, .ref (q 0)), (1, .long (ah)), (3, .long (al)), (5, .long (bh)), (7, .long (bl)), (9, .int (nI o)), (10, .int (nI t))]) hx hb d_X_storeProduct_45 hl (by decide) rfl (fun ls hl => ?_)
  refine lv_lload_n hx hb d_X_storeProduct_47 rfl (lv_at hl 6 rfl) ?_
  refine lv_lload hx hb d_X_storeProduct_48 (lv_at hl 9 rfl) ?_
  refine kX_over C hl.1 ⟨Nat.le_of_ble_eq_true rfl, Nat.le_of_ble_eq_true rfl⟩ (Nat.le_of_ble_eq_true rfl) ⟨Nat.le_of_ble_eq_true rfl, Nat.le_of_ble_eq_true rfl⟩ d_X_storeProduct_50 (fun r_7 hr_7 => ?_)
  refine lv_lstore (lv' := [(21, .long (r_7)), (19, .long (v_6)), (17, .long (v_5)), (15, .long (v_3)), (13, .long (v_2)), (11, .long (v_1)), (0, .ref (q 0)), (1, .long (ah)), (3, .long (al)), (5, .long (bh)), (7, .long (bl)), (9, .int (nI o)), (10, .int (nI t))]) hx hb d_X_storeProduct_53 hl (by decide) rfl (fun ls hl => ?_)
  refine lv_lload hx hb d_X_storeProduct_55 (lv_at hl 0 rfl) ?_
  refine lv_lload_n hx hb d_X_storeProduct_57 rfl (lv_at hl 8 rfl) ?_
  refine lv_lload hx hb d_X_storeProduct_58 (lv_at hl 9 rfl) ?_
  refine kX_over C hl.1 ⟨Nat.le_of_ble_eq_true rfl, Nat.le_of_ble_eq_true rfl⟩ (Nat.le_of_ble_eq_true rfl) ⟨Nat.le_of_ble_eq_true rfl, Nat.le_of_ble_eq_true rfl⟩ d_X_storeProduct_60 (fun r_8 hr_8 => ?_)
  refine lv_ladd hx hb d_X_storeProduct_63 ?_
  refine lv_topl (fun v_9 ev_9 => ?_)
  refine lv_lstore (lv' := [(23, .long (v_9)), (21, .long (r_7)), (19, .long (v_6)), (17, .long (v_5)), (15, .long (v_3)), (13, .long (v_2)), (11, .long (v_1)), (0, .ref (q 0)), (1, .long (ah)), (3, .long (al)), (5, .long (bh)), (7, .long (bl)), (9, .int (nI o)), (10, .int (nI t))]) hx hb d_X_storeProduct_64 hl (by decide) rfl (fun ls hl => ?_)
  refine lv_lload hx hb d_X_storeProduct_66 (lv_at hl 0 rfl) ?_
  refine lv_lload hx hb d_X_storeProduct_68 (lv_at hl 2 rfl) ?_
  refine lv_ladd hx hb d_X_storeProduct_70 ?_
  refine lv_topl (fun v_10 ev_10 => ?_)
  refine lv_lstore (lv' := [(25, .long (v_10)), (23, .long (v_9)), (21, .long (r_7)), (19, .long (v_6)), (17, .long (v_5)), (15, .long (v_3)), (13, .long (v_2)), (11, .long (v_1)), (0, .ref (q 0)), (1, .long (ah)), (3, .long (al)), (5, .long (bh)), (7, .long (bl)), (9, .int (nI o)), (10, .int (nI t))]) hx hb d_X_storeProduct_71 hl (by decide) rfl (fun ls hl => ?_)
  refine lv_lload hx hb d_X_storeProduct_73 (lv_at hl 0 rfl) ?_
  refine lv_lload_n hx hb d_X_storeProduct_75 rfl (lv_at hl 9 rfl) ?_
  refine lv_lload hx hb d_X_storeProduct_76 (lv_at hl 11 rfl) ?_
  refine lv_lmul hx hb d_X_storeProduct_78 ?_
  refine lv_ladd hx hb d_X_storeProduct_79 ?_
  refine lv_topl (fun v_11 ev_11 => ?_)
  refine lv_lstore (lv' := [(27, .long (v_11)), (25, .long (v_10)), (23, .long (v_9)), (21, .long (r_7)), (19, .long (v_6)), (17, .long (v_5)), (15, .long (v_3)), (13, .long (v_2)), (11, .long (v_1)), (0, .ref (q 0)), (1, .long (ah)), (3, .long (al)), (5, .long (bh)), (7, .long (bl)), (9, .int (nI o)), (10, .int (nI t))]) hx hb d_X_storeProduct_80 hl (by decide) rfl (fun ls hl => ?_)
  refine lv_lload hx hb d_X_storeProduct_82 (lv_at hl 2 rfl) ?_
  refine lv_lload hx hb d_X_storeProduct_84 (lv_at hl 3 rfl) ?_
  refine kX_one C hl.1 ⟨Nat.le_of_ble_eq_true rfl, Nat.le_of_ble_eq_true rfl⟩ (Nat.le_of_ble_eq_true rfl) ⟨Nat.le_of_ble_eq_true rfl, Nat.le_of_ble_eq_true rfl⟩ d_X_storeProduct_86 ?_
  refine lv_lload hx hb d_X_storeProduct_89 (lv_at hl 1 rfl) ?_
  refine lv_lload hx hb d_X_storeProduct_91 (lv_at hl 4 rfl) ?_
  refine kX_one C hl.1 ⟨Nat.le_of_ble_eq_true rfl, Nat.le_of_ble_eq_true rfl⟩ (Nat.le_of_ble_eq_true rfl) ⟨Nat.le_of_ble_eq_true rfl, Nat.le_of_ble_eq_true rfl⟩ d_X_storeProduct_93 ?_
  refine lv_ladd hx hb d_X_storeProduct_96 ?_
  refine lv_lload hx hb d_X_storeProduct_97 (lv_at hl 0 rfl) ?_
  refine lv_lload hx hb d_X_storeProduct_99 (lv_at hl 1 rfl) ?_
  refine kX_one C hl.1 ⟨Nat.le_of_ble_eq_true rfl, Nat.le_of_ble_eq_true rfl⟩ (Nat.le_of_ble_eq_true rfl) ⟨Nat.le_of_ble_eq_true rfl, Nat.le_of_ble_eq_true rfl⟩ d_X_storeProduct_101 ?_
  refine lv_ladd hx hb d_X_storeProduct_104 ?_
  refine lv_topl (fun v_12 ev_12 => ?_)
  refine lv_lstore (lv' := [(29, .long (v_12)), (27, .long (v_11)), (25, .long (v_10)), (23, .long (v_9)), (21, .long (r_7)), (19, .long (v_6)), (17, .long (v_5)), (15, .long (v_3)), (13, .long (v_2)), (11, .long (v_1)), (0, .ref (q 0)), (1, .long (ah)), (3, .long (al)), (5, .long (bh)), (7, .long (bl)), (9, .int (nI o)), (10, .int (nI t))]) hx hb d_X_storeProduct_105 hl (by decide) rfl (fun ls hl => ?_)
  refine lv_aload_n hx hb d_X_storeProduct_107 rfl (lv_at hl 10 rfl) ?_
  refine lv_iload hx hb d_X_storeProduct_108 (lv_at hl 15 rfl) ?_
  refine lv_lload_n hx hb d_X_storeProduct_110 rfl (lv_at hl 11 rfl) ?_
  refine lv_lload hx hb d_X_storeProduct_111 (lv_at hl 13 rfl) ?_
  refine kX_over C hl.1 ⟨Nat.le_of_ble_eq_true rfl, Nat.le_of_ble_eq_true rfl⟩ (Nat.le_of_ble_eq_true rfl) ⟨Nat.le_of_ble_eq_true rfl, Nat.le_of_ble_eq_true rfl⟩ d_X_storeProduct_113 (fun r_13 hr_13 => ?_)
  refine lv_lload hx hb d_X_storeProduct_116 (lv_at hl 0 rfl) ?_
  refine lv_ladd hx hb d_X_storeProduct_118 ?_
  refine lv_lload hx hb d_X_storeProduct_119 (lv_at hl 1 rfl) ?_
  refine kX_store (r := o) ho C hl.1 ⟨Nat.le_of_ble_eq_true rfl, Nat.le_of_ble_eq_true rfl⟩ (Nat.le_of_ble_eq_true rfl) ⟨Nat.le_of_ble_eq_true rfl, Nat.le_of_ble_eq_true rfl⟩ hP hK hD hS hA d_X_storeProduct_121 (fun u_14 H locs eu_14 hP hD hS => ?_)
  refine lv_aload_n hx hb d_X_storeProduct_124 rfl (lv_at hl 10 rfl) ?_
  refine lv_iload hx hb d_X_storeProduct_125 (lv_at hl 16 rfl) ?_
  refine lv_lload hx hb d_X_storeProduct_127 (lv_at hl 6 rfl) ?_
  refine lv_lload_n hx hb d_X_storeProduct_129 rfl (lv_at hl 12 rfl) ?_
  refine lv_lload hx hb d_X_storeProduct_130 (lv_at hl 14 rfl) ?_
  refine lv_lmul hx hb d_X_storeProduct_132 ?_
  refine kX_store (r := t) ht C hl.1 ⟨Nat.le_of_ble_eq_true rfl, Nat.le_of_ble_eq_true rfl⟩ (Nat.le_of_ble_eq_true rfl) ⟨Nat.le_of_ble_eq_true rfl, Nat.le_of_ble_eq_true rfl⟩ hP hK hD hS hA d_X_storeProduct_133 (fun u_15 H locs eu_15 hP hD hS => ?_)
  exact wf_retv C hr hlocks u_15 (⟨u_14, ⟨_, _, eu_14, (wf_prod (P := r_13) (Q := r_7) (U := r_8) (V := r_4) hr_13 hr_7 hr_8 hr_4 (by rw [ev_3, ev_1, ev_2]) ev_5 (by rw [ev_6, ev_1]) ev_9 ev_10 ev_11 ev_12).1⟩, ⟨_, _, eu_15, (wf_prod (P := r_13) (Q := r_7) (U := r_8) (V := r_4) hr_13 hr_7 hr_8 hr_4 (by rw [ev_3, ev_1, ev_2]) ev_5 (by rw [ev_6, ev_1]) ev_9 ev_10 ev_11 ev_12).2⟩⟩) hP hK hD hS (fun _ h => h) d_X_storeProduct_136

set_option maxHeartbeats 4000000 in
set_option maxRecDepth 100000 in
theorem kX_product {p : Program} {l : Launch} {e : Env} {R : Room} {s : State} {m : MethodId} {args : Array Value} {below : List Frame} {meth : Method} {c : Code} {H : Heap} {locs : List Loc} {cells slots : Nat} {Q : State → Prop} {cc : ByteArray} {pc nL : Nat} {ls : Array Slot} {rest : List Value} {D : va_G} {q : Nat → Nat} {κ : Nat → ClassId} {A : Nat → Prop} {u : SX} {ah al bh bl : Int64} {o : Nat} (ho : o < 8) {t : Nat} (ht : t < 8) (C : CallFix p m c cc nL s args wG RX) (hsz : ls.size = nL) (hR : 4 ≤ R.frames ∧ 140 ≤ R.locals) (hw : (rest.map fun v => v.category).sum ≤ 8) (hc : cells + 0 ≤ R.cells ∧ slots + 0 ≤ R.slots) (hP : va_P D vwCl (wX q κ u) H) (hK : va_K D vwCl (tyX κ) s) (hD : va_D A (wX q κ u)) (hS : va_S A s.heap H locs) (hA : ∀ q, s.heap.size ≤ q → A q) (hdg : decode cc pc = .ok (.invokevirtual 47, 3)) (kk : ∀ (v : SX) (H1 : Heap) (locs1 : List Loc), (∃ w : SX, wf_st u w o (wf_V ah al * wf_V bh bl / wf_NN) ∧ wf_st w v t (wf_V ah al * wf_V bh bl % wf_NN)) → va_P D vwCl (wX q κ v) H1 → va_D A (wX q κ v) → va_S A s.heap H1 locs1 → W p l e R s m args below meth c H1 locs1 (cells) (slots) Q (F0 m (pc + 3) ls (rest))) : W p l e R s m args below meth c H locs cells slots Q (F0 m pc ls (.int (nI t) :: .int (nI o) :: .long bl :: .long bh :: .long al :: .long ah :: .ref (q 0) :: rest)) := by
  exact wf_cv (va_runV (As := [.long ah, .long al, .long bh, .long bl, .int (nI o), .int (nI t)]) (rest := rest) C (c_X_storeProduct l D q κ u ah al bh bl o ho t ht H.size) (cwV 6 C.2.2.2.2 (wG_V (fun _ h => h) k_ml_X_47 k_im_X_storeProduct k_se_X_storeProduct k_in_X k_X_storeProduct) rfl rfl rfl (by decide +kernel) ⟨hR.1, hR.2⟩) ⟨wf_blind, va_recv hK hP (ci := 0) (q0 := 0) rfl rfl, wf_pre hP hK hD⟩ rfl rfl hsz rfl (lv_room hw) hdg ⟨hc.1, hc.2⟩) (fun _ h => h) hS hD hA kk
