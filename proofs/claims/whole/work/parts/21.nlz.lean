/-! ===== numberOfLeadingZeros, numberOfTrailingZeros, zerosAbove, zerosBelow ===== -/
theorem wf_dec {a k : Nat} {n : Int} (hn : n = -(k : Int)) (h : k ≤ a) : nI a + Int32.ofInt n = nI (a - k) := by
  subst hn
  have e : nI a = nI (a - k) + nI k := by rw [nI_add, Nat.sub_add_cancel h]
  have e2 : nI k = Int32.ofInt (k : Int) := rfl
  rw [e, Int32.add_assoc, e2, ← Int32.ofInt_add, Int.add_right_neg]
  exact Int32.add_zero _
theorem wf_nI_big1 {n : Nat} (h1 : 2147483648 ≤ n) (h2 : n < 4294967296) : ¬ (0 : Int32) < nI n := by
  rw [Int32.lt_iff_toInt_lt, wf_nI_big h1 h2]
  show ¬ (0 : Int) < _
  omega
theorem wf_tz_le {a k : Nat} (ha : a ≤ 31) (hk : k ≤ 16) (hk1 : 1 ≤ k) : nI (2 ^ a - 1) ≤ nI (2 ^ k) ↔ a ≤ k := by
  have p1 := wf_pw ha
  have p2 := wf_pw hk
  rw [show (2 : Nat) ^ 31 = 2147483648 from by decide] at p1
  rw [show (2 : Nat) ^ 16 = 65536 from by decide] at p2
  rw [nI_leI (by omega) (by omega)]
  constructor
  · intro h
    rcases Nat.lt_or_ge k a with h2 | h2
    · exfalso
      have p3 := wf_pw (show k + 1 ≤ a by omega)
      have p4 := wf_pw hk1
      rw [Nat.pow_succ] at p3
      omega
    · exact h2
  · intro h
    exact Nat.le_trans (Nat.sub_le _ _) (wf_pw h)
theorem wf_tz_div {a k : Nat} (h : k ≤ a) : (2 ^ a - 1) / 2 ^ k = 2 ^ (a - k) - 1 := by
  have hp : 0 < (2 : Nat) ^ k := Nat.two_pow_pos k
  have hq : 0 < (2 : Nat) ^ (a - k) := Nat.two_pow_pos _
  have e : (2 : Nat) ^ a = 2 ^ k * 2 ^ (a - k) := by rw [← Nat.pow_add, Nat.add_sub_cancel' h]
  obtain ⟨m, hm⟩ : ∃ m, (2 : Nat) ^ (a - k) = m + 1 := ⟨2 ^ (a - k) - 1, by omega⟩
  have e2 : 2 ^ a - 1 = 2 ^ k * m + (2 ^ k - 1) := by rw [e, hm, Nat.mul_add, Nat.mul_one]; omega
  rw [e2, hm, Nat.mul_add_div hp, Nat.div_eq_of_lt (show 2 ^ k - 1 < 2 ^ k by omega)]
  omega

set_option maxHeartbeats 4000000 in
set_option maxRecDepth 100000 in
/-- Integer.numberOfLeadingZeros -/
theorem c_Ji_numberOfLeadingZeros (l : Launch) (N : Nat) (hN : N < 4294967296) : Met l y_Ji_numberOfLeadingZeros (.code y_Ji_numberOfLeadingZeros b_Ji_numberOfLeadingZeros 2 (some .int) :: wG) (wf_rm 0 0 0 0) (fun v _ => v = ([.int (nI N)] : List Value).toArray) (vp_Si (fun r => ∃ z, r = nI z ∧ wf_LZ 32 N z)) 0 0 (fun _ => False) := by
  refine wf_openS (by decide) (Nat.le_of_ble_eq_true rfl) ?_
  intro p e s m below meth c ls C hr hlocks hl
  have hx := C.1
  have hb := C.2.1
  have hml := C.2.2.1
  have hown := C.2.2.2.1
  have hts := C.2.2.2.2
  have hl : lv_has ls 2 [(0, .int (nI N))] := hl
  rcases (show N = 0 ∨ (0 < N ∧ N < 2147483648) ∨ 2147483648 ≤ N by omega) with h0 | h1 | h1
  · subst h0
    refine lv_iload_n hx hb d_Ji_numberOfLeadingZeros_0 rfl (lv_at hl 0 rfl) ?_
    refine lv_if_gt (tgt := 15) hx hb d_Ji_numberOfLeadingZeros_1 (by decide) (fun c_1 => False.elim (by first | exact absurd c_1 ((by decide : ¬ (0 : Int32) < nI 0)) | exact absurd ((by decide : ¬ (0 : Int32) < nI 0)) c_1)) (fun c_1 => ?_)
    refine lv_iload_n hx hb d_Ji_numberOfLeadingZeros_4 rfl (lv_at hl 0 rfl) ?_
    refine lv_if_ne (tgt := 13) hx hb d_Ji_numberOfLeadingZeros_5 (by decide) (fun c_2 => False.elim (by first | exact absurd c_2 ((rfl : nI 0 = 0)) | exact absurd ((rfl : nI 0 = 0)) c_2)) (fun c_2 => ?_)
    refine lv_bipush (v := 32) hx hb d_Ji_numberOfLeadingZeros_8 (by decide) ?_
    refine lv_goto (tgt := 14) hx hb d_Ji_numberOfLeadingZeros_10 (by decide) ?_
    exact W.iret hx hb hr (fun t ht hW => ⟨_, rfl, ⟨32, rfl, Or.inl ⟨rfl, rfl⟩⟩, ht⟩) (fun q h => by cases h) d_Ji_numberOfLeadingZeros_14 hlocks
  · refine lv_iload_n hx hb d_Ji_numberOfLeadingZeros_0 rfl (lv_at hl 0 rfl) ?_
    refine lv_if_gt (tgt := 15) hx hb d_Ji_numberOfLeadingZeros_1 (by decide) (fun c_3 => ?_) (fun c_3 => False.elim (by first | exact absurd (nI_lt h1.1 h1.2) c_3 | exact absurd c_3 (nI_lt h1.1 h1.2)))
    refine lv_bipush (v := 31) hx hb d_Ji_numberOfLeadingZeros_15 (by decide) ?_
    refine lv_istore_n (lv' := [(1, .int (31)), (0, .int (nI N))]) hx hb d_Ji_numberOfLeadingZeros_17 rfl hl (by decide) rfl (fun ls hl => ?_)
    refine wf_cutF (σ := Nat × Nat) (pcj := 73) (nL := 2) (fun x => x.1 ≤ 31 ∧ x.2 = N / 2 ^ (31 - x.1) ∧ 0 < x.2 ∧ x.2 < 4) (fun x => [(1, .int (nI x.1)), (0, .int (nI x.2))]) (fun x ls hI hl => ?_) (fun j73 => ?_)
    · obtain ⟨z0, M⟩ := x
      have hl : lv_has ls 2 [(1, .int (nI z0)), (0, .int (nI M))] := hl
      obtain ⟨i1, i2, i3, i4⟩ : z0 ≤ 31 ∧ M = N / 2 ^ (31 - z0) ∧ 0 < M ∧ M < 4 := hI
      refine lv_iload_n hx hb d_Ji_numberOfLeadingZeros_73 rfl (lv_at hl 0 rfl) ?_
      refine lv_iload_n hx hb d_Ji_numberOfLeadingZeros_74 rfl (lv_at hl 1 rfl) ?_
      refine lv_iconst (v := 1) hx hb d_Ji_numberOfLeadingZeros_75 (by decide) ?_
      refine lv_iushr hx hb d_Ji_numberOfLeadingZeros_76 (pk_ushrN (n := M) (by omega) 1 1 (by decide)) ?_
      refine lv_isub hx hb d_Ji_numberOfLeadingZeros_77 ?_
      exact W.iret hx hb hr (fun t ht hW => ⟨_, rfl, by have h := wf_lz_fin h1.2 i1 i2 i3 i4; rw [Nat.pow_one]; exact ⟨_, pk_sub h.1, h.2⟩, ht⟩) (fun q h => by cases h) d_Ji_numberOfLeadingZeros_78 hlocks
    · refine wf_cutF (σ := Nat × Nat) (pcj := 61) (nL := 2) (fun x => x.1 ≤ 31 ∧ x.2 = N / 2 ^ (31 - x.1) ∧ 0 < x.2 ∧ x.2 < 16) (fun x => [(1, .int (nI x.1)), (0, .int (nI x.2))]) (fun x ls hI hl => ?_) (fun j61 => ?_)
      · obtain ⟨z0, M⟩ := x
        have hl : lv_has ls 2 [(1, .int (nI z0)), (0, .int (nI M))] := hl
        obtain ⟨i1, i2, i3, i4⟩ : z0 ≤ 31 ∧ M = N / 2 ^ (31 - z0) ∧ 0 < M ∧ M < 16 := hI
        refine lv_iload_n hx hb d_Ji_numberOfLeadingZeros_61 rfl (lv_at hl 1 rfl) ?_
        refine lv_iconst (v := 4) hx hb d_Ji_numberOfLeadingZeros_62 (by decide) ?_
        refine lv_icmp_lt (tgt := 73) hx hb d_Ji_numberOfLeadingZeros_63 (by decide) (fun c_4 => ?_) (fun c_4 => ?_)
        · exact j73 (z0, M) ls ⟨i1, i2, i3, (nI_ltI (a := M) (b := 4) (by omega) (by decide)).mp c_4⟩ (lv_sub hl [0, 1] rfl)
        · have hc : 4 ≤ M := Nat.not_lt.mp (fun h => c_4 (nI_lt h (by decide)))
          obtain ⟨k1, k2, k3⟩ := wf_lz_st (k := 2) h1.2 i1 i2 hc
          refine lv_iinc (v := nI (z0 - 2)) (lv' := [(1, .int (nI (z0 - 2))), (0, .int (nI M))]) hx hb d_Ji_numberOfLeadingZeros_66 hl (k := 0) rfl (wf_dec (k := 2) (by decide) k1) (by decide) rfl (fun ls hl => ?_)
          refine lv_iload_n hx hb d_Ji_numberOfLeadingZeros_69 rfl (lv_at hl 1 rfl) ?_
          refine lv_iconst (v := 2) hx hb d_Ji_numberOfLeadingZeros_70 (by decide) ?_
          refine lv_iushr hx hb d_Ji_numberOfLeadingZeros_71 (pk_ushrN (n := M) (by omega) 2 2 (by decide)) ?_
          refine lv_istore_n (lv' := [(0, .int (nI (M / 2 ^ 2))), (1, .int (nI (z0 - 2)))]) hx hb d_Ji_numberOfLeadingZeros_72 rfl hl (by decide) rfl (fun ls hl => ?_)
          exact j73 (z0 - 2, M / 2 ^ 2) ls ⟨by omega, k2, k3, by have h := i4; show M / 2 ^ 2 < 4; omega⟩ (lv_sub hl [1, 0] rfl)
      · refine wf_cutF (σ := Nat × Nat) (pcj := 48) (nL := 2) (fun x => x.1 ≤ 31 ∧ x.2 = N / 2 ^ (31 - x.1) ∧ 0 < x.2 ∧ x.2 < 256) (fun x => [(1, .int (nI x.1)), (0, .int (nI x.2))]) (fun x ls hI hl => ?_) (fun j48 => ?_)
        · obtain ⟨z0, M⟩ := x
          have hl : lv_has ls 2 [(1, .int (nI z0)), (0, .int (nI M))] := hl
          obtain ⟨i1, i2, i3, i4⟩ : z0 ≤ 31 ∧ M = N / 2 ^ (31 - z0) ∧ 0 < M ∧ M < 256 := hI
          refine lv_iload_n hx hb d_Ji_numberOfLeadingZeros_48 rfl (lv_at hl 1 rfl) ?_
          refine lv_bipush (v := 16) hx hb d_Ji_numberOfLeadingZeros_49 (by decide) ?_
          refine lv_icmp_lt (tgt := 61) hx hb d_Ji_numberOfLeadingZeros_51 (by decide) (fun c_5 => ?_) (fun c_5 => ?_)
          · exact j61 (z0, M) ls ⟨i1, i2, i3, (nI_ltI (a := M) (b := 16) (by omega) (by decide)).mp c_5⟩ (lv_sub hl [0, 1] rfl)
          · have hc : 16 ≤ M := Nat.not_lt.mp (fun h => c_5 (nI_lt h (by decide)))
            obtain ⟨k1, k2, k3⟩ := wf_lz_st (k := 4) h1.2 i1 i2 hc
            refine lv_iinc (v := nI (z0 - 4)) (lv' := [(1, .int (nI (z0 - 4))), (0, .int (nI M))]) hx hb d_Ji_numberOfLeadingZeros_54 hl (k := 0) rfl (wf_dec (k := 4) (by decide) k1) (by decide) rfl (fun ls hl => ?_)
            refine lv_iload_n hx hb d_Ji_numberOfLeadingZeros_57 rfl (lv_at hl 1 rfl) ?_
            refine lv_iconst (v := 4) hx hb d_Ji_numberOfLeadingZeros_58 (by decide) ?_
            refine lv_iushr hx hb d_Ji_numberOfLeadingZeros_59 (pk_ushrN (n := M) (by omega) 4 4 (by decide)) ?_
            refine lv_istore_n (lv' := [(0, .int (nI (M / 2 ^ 4))), (1, .int (nI (z0 - 4)))]) hx hb d_Ji_numberOfLeadingZeros_60 rfl hl (by decide) rfl (fun ls hl => ?_)
            exact j61 (z0 - 4, M / 2 ^ 4) ls ⟨by omega, k2, k3, by have h := i4; show M / 2 ^ 4 < 16; omega⟩ (lv_sub hl [1, 0] rfl)
        · refine wf_cutF (σ := Nat × Nat) (pcj := 33) (nL := 2) (fun x => x.1 ≤ 31 ∧ x.2 = N / 2 ^ (31 - x.1) ∧ 0 < x.2 ∧ x.2 < 65536) (fun x => [(1, .int (nI x.1)), (0, .int (nI x.2))]) (fun x ls hI hl => ?_) (fun j33 => ?_)
          · obtain ⟨z0, M⟩ := x
            have hl : lv_has ls 2 [(1, .int (nI z0)), (0, .int (nI M))] := hl
            obtain ⟨i1, i2, i3, i4⟩ : z0 ≤ 31 ∧ M = N / 2 ^ (31 - z0) ∧ 0 < M ∧ M < 65536 := hI
            refine lv_iload_n hx hb d_Ji_numberOfLeadingZeros_33 rfl (lv_at hl 1 rfl) ?_
            refine lv_sipush (v := 256) hx hb d_Ji_numberOfLeadingZeros_34 (by decide) ?_
            refine lv_icmp_lt (tgt := 48) hx hb d_Ji_numberOfLeadingZeros_37 (by decide) (fun c_6 => ?_) (fun c_6 => ?_)
            · exact j48 (z0, M) ls ⟨i1, i2, i3, (nI_ltI (a := M) (b := 256) (by omega) (by decide)).mp c_6⟩ (lv_sub hl [0, 1] rfl)
            · have hc : 256 ≤ M := Nat.not_lt.mp (fun h => c_6 (nI_lt h (by decide)))
              obtain ⟨k1, k2, k3⟩ := wf_lz_st (k := 8) h1.2 i1 i2 hc
              refine lv_iinc (v := nI (z0 - 8)) (lv' := [(1, .int (nI (z0 - 8))), (0, .int (nI M))]) hx hb d_Ji_numberOfLeadingZeros_40 hl (k := 0) rfl (wf_dec (k := 8) (by decide) k1) (by decide) rfl (fun ls hl => ?_)
              refine lv_iload_n hx hb d_Ji_numberOfLeadingZeros_43 rfl (lv_at hl 1 rfl) ?_
              refine lv_bipush (v := 8) hx hb d_Ji_numberOfLeadingZeros_44 (by decide) ?_
              refine lv_iushr hx hb d_Ji_numberOfLeadingZeros_46 (pk_ushrN (n := M) (by omega) 8 8 (by decide)) ?_
              refine lv_istore_n (lv' := [(0, .int (nI (M / 2 ^ 8))), (1, .int (nI (z0 - 8)))]) hx hb d_Ji_numberOfLeadingZeros_47 rfl hl (by decide) rfl (fun ls hl => ?_)
              exact j48 (z0 - 8, M / 2 ^ 8) ls ⟨by omega, k2, k3, by have h := i4; show M / 2 ^ 8 < 256; omega⟩ (lv_sub hl [1, 0] rfl)
          · refine lv_iload_n hx hb d_Ji_numberOfLeadingZeros_18 rfl (lv_at hl 1 rfl) ?_
            refine lv_ldcw (v := 65536) hx hb hown (hts _ k_ci_Ji_264) d_Ji_numberOfLeadingZeros_19 ?_
            refine lv_icmp_lt (tgt := 33) hx hb d_Ji_numberOfLeadingZeros_22 (by decide) (fun c_7 => ?_) (fun c_7 => ?_)
            · exact j33 (31, N) ls ⟨Nat.le_refl 31, by show N = N / 2 ^ (31 - 31); rw [Nat.sub_self, Nat.pow_zero, Nat.div_one], h1.1, (nI_ltI (a := N) (b := 65536) (by omega) (by decide)).mp c_7⟩ (lv_sub hl [0, 1] rfl)
            · have hc : 65536 ≤ N := Nat.not_lt.mp (fun h => c_7 (nI_lt h (by decide)))
              obtain ⟨k1, k2, k3⟩ := wf_lz_st (k := 16) h1.2 (by decide) (show N = N / 2 ^ (31 - 31) by rw [Nat.sub_self, Nat.pow_zero, Nat.div_one]) hc
              refine lv_iinc (v := nI (31 - 16)) (lv' := [(1, .int (nI (31 - 16))), (0, .int (nI N))]) hx hb d_Ji_numberOfLeadingZeros_25 hl (k := 0) rfl (wf_dec (k := 16) (by decide) k1) (by decide) rfl (fun ls hl => ?_)
              refine lv_iload_n hx hb d_Ji_numberOfLeadingZeros_28 rfl (lv_at hl 1 rfl) ?_
              refine lv_bipush (v := 16) hx hb d_Ji_numberOfLeadingZeros_29 (by decide) ?_
              refine lv_iushr hx hb d_Ji_numberOfLeadingZeros_31 (pk_ushrN (n := N) (by omega) 16 16 (by decide)) ?_
              refine lv_istore_n (lv' := [(0, .int (nI (N / 2 ^ 16))), (1, .int (nI (31 - 16)))]) hx hb d_Ji_numberOfLeadingZeros_32 rfl hl (by decide) rfl (fun ls hl => ?_)
              exact j33 (31 - 16, N / 2 ^ 16) ls ⟨by omega, k2, k3, by have h := h1.2; show N / 2 ^ 16 < 65536; omega⟩ (lv_sub hl [1, 0] rfl)
  · refine lv_iload_n hx hb d_Ji_numberOfLeadingZeros_0 rfl (lv_at hl 0 rfl) ?_
    refine lv_if_gt (tgt := 15) hx hb d_Ji_numberOfLeadingZeros_1 (by decide) (fun c_8 => False.elim (by first | exact absurd c_8 (wf_nI_big1 h1 hN) | exact absurd (wf_nI_big1 h1 hN) c_8)) (fun c_8 => ?_)
    refine lv_iload_n hx hb d_Ji_numberOfLeadingZeros_4 rfl (lv_at hl 0 rfl) ?_
    refine lv_if_ne (tgt := 13) hx hb d_Ji_numberOfLeadingZeros_5 (by decide) (fun c_9 => ?_) (fun c_9 => False.elim (by first | exact absurd (wf_nI_n0 (by omega) hN) c_9 | exact absurd c_9 (wf_nI_n0 (by omega) hN)))
    refine lv_iconst (v := 0) hx hb d_Ji_numberOfLeadingZeros_13 (by decide) ?_
    exact W.iret hx hb hr (fun t ht hW => ⟨_, rfl, ⟨0, rfl, Or.inr ⟨by decide, h1, hN⟩⟩, ht⟩) (fun q h => by cases h) d_Ji_numberOfLeadingZeros_14 hlocks

set_option maxHeartbeats 4000000 in
set_option maxRecDepth 100000 in
theorem kJ_nlz {p : Program} {l : Launch} {e : Env} {R : Room} {s : State} {m : MethodId} {args : Array Value} {below : List Frame} {meth : Method} {c : Code} {H : Heap} {locs : List Loc} {cells slots : Nat} {Q : State → Prop} {cc : ByteArray} {pc nL : Nat} {ls : Array Slot} {rest : List Value} {N : Nat} (hN : N < 4294967296) (C : CallFix p m c cc nL s args wG RJl) (hsz : ls.size = nL) (hR : 1 ≤ R.frames ∧ 21 ≤ R.locals) (hw : (rest.map fun v => v.category).sum ≤ 8) (hc : cells ≤ R.cells ∧ slots ≤ R.slots) (hdg : decode cc pc = .ok (.invokestatic 308, 3)) (kk : ∀ r : Int32, (∃ z, r = nI z ∧ wf_LZ 32 N z) → W p l e R s m args below meth c H locs cells slots Q (F0 m (pc + 3) ls (.int r :: rest))) : W p l e R s m args below meth c H locs cells slots Q (F0 m pc ls (.int (nI N) :: rest)) := by
  exact vp_callSi (W.runS (As := [.int (nI N)]) (rest := rest) C (c_Ji_numberOfLeadingZeros l N hN) (va_cwS 1 C.2.2.2.2 (wG_S (fun _ h => h) k_ml_Jl_308 k_st_Ji_numberOfLeadingZeros k_in_Ji k_Ji_numberOfLeadingZeros) rfl rfl rfl (by decide +kernel) ⟨hR.1, hR.2⟩) preEq rfl rfl hsz rfl (lv_room hw) hdg ⟨hc.1, hc.2⟩) (fun r hr => kk r hr)

set_option maxHeartbeats 4000000 in
set_option maxRecDepth 100000 in
/-- Integer.numberOfTrailingZeros -/
theorem c_Ji_numberOfTrailingZeros (l : Launch) (N : Nat) (hN : N < 4294967296) : Met l y_Ji_numberOfTrailingZeros (.code y_Ji_numberOfTrailingZeros b_Ji_numberOfTrailingZeros 2 (some .int) :: wG) (wf_rm 0 0 0 0) (fun v _ => v = ([.int (nI N)] : List Value).toArray) (vp_Si (fun r => ∃ z, r = nI z ∧ wf_TZ 32 N z)) 0 0 (fun _ => False) := by
  refine wf_openS (by decide) (Nat.le_of_ble_eq_true rfl) ?_
  intro p e s m below meth c ls C hr hlocks hl
  have hx := C.1
  have hb := C.2.1
  have hml := C.2.2.1
  have hown := C.2.2.2.1
  have hts := C.2.2.2.2
  have hl : lv_has ls 2 [(0, .int (nI N))] := hl
  rcases Nat.eq_zero_or_pos N with h0 | h0
  · subst h0
    refine lv_iload_n hx hb d_Ji_numberOfTrailingZeros_0 rfl (lv_at hl 0 rfl) ?_
    refine lv_iconst (v := (-1)) hx hb d_Ji_numberOfTrailingZeros_1 (by decide) ?_
    refine lv_ixor hx hb d_Ji_numberOfTrailingZeros_2 ?_
    refine lv_iload_n hx hb d_Ji_numberOfTrailingZeros_3 rfl (lv_at hl 0 rfl) ?_
    refine lv_iconst (v := 1) hx hb d_Ji_numberOfTrailingZeros_4 (by decide) ?_
    refine lv_isub hx hb d_Ji_numberOfTrailingZeros_5 ?_
    refine lv_iand hx hb d_Ji_numberOfTrailingZeros_6 ?_
    refine lv_topi (fun v_1 ev_1 => ?_)
    refine lv_istore_n (lv' := [(0, .int (v_1))]) hx hb d_Ji_numberOfTrailingZeros_7 rfl hl (by decide) rfl (fun ls hl => ?_)
    have hv : v_1 = -1 := ev_1.trans (by decide)
    subst hv
    refine lv_iload_n hx hb d_Ji_numberOfTrailingZeros_8 rfl (lv_at hl 0 rfl) ?_
    refine lv_if_gt (tgt := 17) hx hb d_Ji_numberOfTrailingZeros_9 (by decide) (fun c_2 => False.elim (by first | exact absurd c_2 ((by decide : ¬ (0 : Int32) < -1)) | exact absurd ((by decide : ¬ (0 : Int32) < -1)) c_2)) (fun c_2 => ?_)
    refine lv_iload_n hx hb d_Ji_numberOfTrailingZeros_12 rfl (lv_at hl 0 rfl) ?_
    refine lv_bipush (v := 32) hx hb d_Ji_numberOfTrailingZeros_13 (by decide) ?_
    refine lv_iand hx hb d_Ji_numberOfTrailingZeros_15 ?_
    exact W.iret hx hb hr (fun t ht hW => ⟨_, rfl, ⟨32, by decide, Or.inl ⟨rfl, rfl⟩⟩, ht⟩) (fun q h => by cases h) d_Ji_numberOfTrailingZeros_16 hlocks
  · obtain ⟨t, ht32, hmod, hm⟩ := wf_mask h0 hN
    refine lv_iload_n hx hb d_Ji_numberOfTrailingZeros_0 rfl (lv_at hl 0 rfl) ?_
    refine lv_iconst (v := (-1)) hx hb d_Ji_numberOfTrailingZeros_1 (by decide) ?_
    refine lv_ixor hx hb d_Ji_numberOfTrailingZeros_2 ?_
    refine lv_iload_n hx hb d_Ji_numberOfTrailingZeros_3 rfl (lv_at hl 0 rfl) ?_
    refine lv_iconst (v := 1) hx hb d_Ji_numberOfTrailingZeros_4 (by decide) ?_
    refine lv_isub hx hb d_Ji_numberOfTrailingZeros_5 ?_
    refine lv_iand hx hb d_Ji_numberOfTrailingZeros_6 ?_
    refine lv_topi (fun v_3 ev_3 => ?_)
    refine lv_istore_n (lv' := [(0, .int (v_3))]) hx hb d_Ji_numberOfTrailingZeros_7 rfl hl (by decide) rfl (fun ls hl => ?_)
    have hv : v_3 = nI (2 ^ t - 1) := ev_3.trans hm
    subst hv
    have p31 := wf_pw (show t ≤ 31 by omega)
    rw [show (2 : Nat) ^ 31 = 2147483648 from by decide] at p31
    rcases Nat.eq_zero_or_pos t with t0 | t0
    · subst t0
      refine lv_iload_n hx hb d_Ji_numberOfTrailingZeros_8 rfl (lv_at hl 0 rfl) ?_
      refine lv_if_gt (tgt := 17) hx hb d_Ji_numberOfTrailingZeros_9 (by decide) (fun c_4 => False.elim (by first | exact absurd c_4 ((by decide : ¬ (0 : Int32) < nI (2 ^ 0 - 1))) | exact absurd ((by decide : ¬ (0 : Int32) < nI (2 ^ 0 - 1))) c_4)) (fun c_4 => ?_)
      refine lv_iload_n hx hb d_Ji_numberOfTrailingZeros_12 rfl (lv_at hl 0 rfl) ?_
      refine lv_bipush (v := 32) hx hb d_Ji_numberOfTrailingZeros_13 (by decide) ?_
      refine lv_iand hx hb d_Ji_numberOfTrailingZeros_15 ?_
      exact W.iret hx hb hr (fun t ht hW => ⟨_, rfl, ⟨0, by decide, Or.inr ⟨by decide, hmod⟩⟩, ht⟩) (fun q h => by cases h) d_Ji_numberOfTrailingZeros_16 hlocks
    · have p1 := wf_pw (show 1 ≤ t by omega)
      refine lv_iload_n hx hb d_Ji_numberOfTrailingZeros_8 rfl (lv_at hl 0 rfl) ?_
      refine lv_if_gt (tgt := 17) hx hb d_Ji_numberOfTrailingZeros_9 (by decide) (fun c_5 => ?_) (fun c_5 => False.elim (by first | exact absurd (nI_lt (a := 0) (b := 2 ^ t - 1) (by omega) (by omega)) c_5 | exact absurd c_5 (nI_lt (a := 0) (b := 2 ^ t - 1) (by omega) (by omega))))
      refine lv_iconst (v := 1) hx hb d_Ji_numberOfTrailingZeros_17 (by decide) ?_
      refine lv_istore_n (lv' := [(1, .int (1)), (0, .int (nI (2 ^ t - 1)))]) hx hb d_Ji_numberOfTrailingZeros_18 rfl hl (by decide) rfl (fun ls hl => ?_)
      refine wf_cutF (σ := Nat) (pcj := 74) (nL := 2) (fun a => 1 ≤ a ∧ a ≤ t ∧ a ≤ 2) (fun a => [(1, .int (nI (1 + t - a))), (0, .int (nI (2 ^ a - 1)))]) (fun a ls hI hl => ?_) (fun j74 => ?_)
      · obtain ⟨i1, i2, i3⟩ := hI
        have pa := wf_pw (show a ≤ 31 by omega)
        rw [show (2 : Nat) ^ 31 = 2147483648 from by decide] at pa
        refine lv_iload_n hx hb d_Ji_numberOfTrailingZeros_74 rfl (lv_at hl 0 rfl) ?_
        refine lv_iload_n hx hb d_Ji_numberOfTrailingZeros_75 rfl (lv_at hl 1 rfl) ?_
        refine lv_iconst (v := 1) hx hb d_Ji_numberOfTrailingZeros_76 (by decide) ?_
        refine lv_iushr hx hb d_Ji_numberOfTrailingZeros_77 (pk_ushrN (n := (2 ^ a - 1)) (by omega) 1 1 (by decide)) ?_
        refine lv_iadd hx hb d_Ji_numberOfTrailingZeros_78 ?_
        exact W.iret hx hb hr (fun u hu hW => ⟨_, rfl, ⟨t, by rw [wf_tz_div i1, nI_add]; rcases (show a = 1 ∨ a = 2 by omega) with rfl | rfl <;> congr 1 <;> omega, Or.inr ⟨ht32, hmod⟩⟩, hu⟩) (fun q h => by cases h) d_Ji_numberOfTrailingZeros_79 hlocks
      · refine wf_cutF (σ := Nat) (pcj := 62) (nL := 2) (fun a => 1 ≤ a ∧ a ≤ t ∧ a ≤ 4) (fun a => [(1, .int (nI (1 + t - a))), (0, .int (nI (2 ^ a - 1)))]) (fun a ls hI hl => ?_) (fun j62 => ?_)
        · obtain ⟨i1, i2, i3⟩ := hI
          have pa := wf_pw (show a ≤ 31 by omega)
          rw [show (2 : Nat) ^ 31 = 2147483648 from by decide] at pa
          refine lv_iload_n hx hb d_Ji_numberOfTrailingZeros_62 rfl (lv_at hl 1 rfl) ?_
          refine lv_iconst (v := 4) hx hb d_Ji_numberOfTrailingZeros_63 (by decide) ?_
          refine lv_icmp_le (tgt := 74) hx hb d_Ji_numberOfTrailingZeros_64 (by decide) (fun c_6 => ?_) (fun c_6 => ?_)
          · exact j74 a ls ⟨i1, i2, (wf_tz_le (a := a) (k := 2) (by omega) (by decide) (by decide)).mp c_6⟩ (lv_sub hl [0, 1] rfl)
          · have hc : 2 < a := Nat.not_le.mp (fun h => c_6 ((wf_tz_le (a := a) (k := 2) (by omega) (by decide) (by decide)).mpr h))
            refine lv_iinc (v := nI (1 + t - (a - 2))) (lv' := [(1, .int (nI (1 + t - (a - 2)))), (0, .int (nI (2 ^ a - 1)))]) hx hb d_Ji_numberOfTrailingZeros_67 hl (k := 0) rfl (show nI _ + nI 2 = _ by rw [nI_add]; congr 1; omega) (by decide) rfl (fun ls hl => ?_)
            refine lv_iload_n hx hb d_Ji_numberOfTrailingZeros_70 rfl (lv_at hl 1 rfl) ?_
            refine lv_iconst (v := 2) hx hb d_Ji_numberOfTrailingZeros_71 (by decide) ?_
            refine lv_iushr hx hb d_Ji_numberOfTrailingZeros_72 (pk_ushrN (n := (2 ^ a - 1)) (by omega) 2 2 (by decide)) ?_
            refine lv_istore_n (lv' := [(0, .int (nI ((2 ^ a - 1) / 2 ^ 2))), (1, .int (nI (1 + t - (a - 2))))]) hx hb d_Ji_numberOfTrailingZeros_73 rfl hl (by decide) rfl (fun ls hl => ?_)
            rw [wf_tz_div (show 2 ≤ a by omega)] at hl
            exact j74 (a - 2) ls ⟨by omega, by omega, by omega⟩ (lv_sub hl [1, 0] rfl)
        · refine wf_cutF (σ := Nat) (pcj := 49) (nL := 2) (fun a => 1 ≤ a ∧ a ≤ t ∧ a ≤ 8) (fun a => [(1, .int (nI (1 + t - a))), (0, .int (nI (2 ^ a - 1)))]) (fun a ls hI hl => ?_) (fun j49 => ?_)
          · obtain ⟨i1, i2, i3⟩ := hI
            have pa := wf_pw (show a ≤ 31 by omega)
            rw [show (2 : Nat) ^ 31 = 2147483648 from by decide] at pa
            refine lv_iload_n hx hb d_Ji_numberOfTrailingZeros_49 rfl (lv_at hl 1 rfl) ?_
            refine lv_bipush (v := 16) hx hb d_Ji_numberOfTrailingZeros_50 (by decide) ?_
            refine lv_icmp_le (tgt := 62) hx hb d_Ji_numberOfTrailingZeros_52 (by decide) (fun c_7 => ?_) (fun c_7 => ?_)
            · exact j62 a ls ⟨i1, i2, (wf_tz_le (a := a) (k := 4) (by omega) (by decide) (by decide)).mp c_7⟩ (lv_sub hl [0, 1] rfl)
            · have hc : 4 < a := Nat.not_le.mp (fun h => c_7 ((wf_tz_le (a := a) (k := 4) (by omega) (by decide) (by decide)).mpr h))
              refine lv_iinc (v := nI (1 + t - (a - 4))) (lv' := [(1, .int (nI (1 + t - (a - 4)))), (0, .int (nI (2 ^ a - 1)))]) hx hb d_Ji_numberOfTrailingZeros_55 hl (k := 0) rfl (show nI _ + nI 4 = _ by rw [nI_add]; congr 1; omega) (by decide) rfl (fun ls hl => ?_)
              refine lv_iload_n hx hb d_Ji_numberOfTrailingZeros_58 rfl (lv_at hl 1 rfl) ?_
              refine lv_iconst (v := 4) hx hb d_Ji_numberOfTrailingZeros_59 (by decide) ?_
              refine lv_iushr hx hb d_Ji_numberOfTrailingZeros_60 (pk_ushrN (n := (2 ^ a - 1)) (by omega) 4 4 (by decide)) ?_
              refine lv_istore_n (lv' := [(0, .int (nI ((2 ^ a - 1) / 2 ^ 4))), (1, .int (nI (1 + t - (a - 4))))]) hx hb d_Ji_numberOfTrailingZeros_61 rfl hl (by decide) rfl (fun ls hl => ?_)
              rw [wf_tz_div (show 4 ≤ a by omega)] at hl
              exact j62 (a - 4) ls ⟨by omega, by omega, by omega⟩ (lv_sub hl [1, 0] rfl)
          · refine wf_cutF (σ := Nat) (pcj := 34) (nL := 2) (fun a => 1 ≤ a ∧ a ≤ t ∧ a ≤ 16) (fun a => [(1, .int (nI (1 + t - a))), (0, .int (nI (2 ^ a - 1)))]) (fun a ls hI hl => ?_) (fun j34 => ?_)
            · obtain ⟨i1, i2, i3⟩ := hI
              have pa := wf_pw (show a ≤ 31 by omega)
              rw [show (2 : Nat) ^ 31 = 2147483648 from by decide] at pa
              refine lv_iload_n hx hb d_Ji_numberOfTrailingZeros_34 rfl (lv_at hl 1 rfl) ?_
              refine lv_sipush (v := 256) hx hb d_Ji_numberOfTrailingZeros_35 (by decide) ?_
              refine lv_icmp_le (tgt := 49) hx hb d_Ji_numberOfTrailingZeros_38 (by decide) (fun c_8 => ?_) (fun c_8 => ?_)
              · exact j49 a ls ⟨i1, i2, (wf_tz_le (a := a) (k := 8) (by omega) (by decide) (by decide)).mp c_8⟩ (lv_sub hl [0, 1] rfl)
              · have hc : 8 < a := Nat.not_le.mp (fun h => c_8 ((wf_tz_le (a := a) (k := 8) (by omega) (by decide) (by decide)).mpr h))
                refine lv_iinc (v := nI (1 + t - (a - 8))) (lv' := [(1, .int (nI (1 + t - (a - 8)))), (0, .int (nI (2 ^ a - 1)))]) hx hb d_Ji_numberOfTrailingZeros_41 hl (k := 0) rfl (show nI _ + nI 8 = _ by rw [nI_add]; congr 1; omega) (by decide) rfl (fun ls hl => ?_)
                refine lv_iload_n hx hb d_Ji_numberOfTrailingZeros_44 rfl (lv_at hl 1 rfl) ?_
                refine lv_bipush (v := 8) hx hb d_Ji_numberOfTrailingZeros_45 (by decide) ?_
                refine lv_iushr hx hb d_Ji_numberOfTrailingZeros_47 (pk_ushrN (n := (2 ^ a - 1)) (by omega) 8 8 (by decide)) ?_
                refine lv_istore_n (lv' := [(0, .int (nI ((2 ^ a - 1) / 2 ^ 8))), (1, .int (nI (1 + t - (a - 8))))]) hx hb d_Ji_numberOfTrailingZeros_48 rfl hl (by decide) rfl (fun ls hl => ?_)
                rw [wf_tz_div (show 8 ≤ a by omega)] at hl
                exact j49 (a - 8) ls ⟨by omega, by omega, by omega⟩ (lv_sub hl [1, 0] rfl)
            · have hl : lv_has ls 2 [(1, .int (nI (1 + t - t))), (0, .int (nI (2 ^ t - 1)))] := by rw [show 1 + t - t = 1 by omega]; exact hl
              refine lv_iload_n hx hb d_Ji_numberOfTrailingZeros_19 rfl (lv_at hl 1 rfl) ?_
              refine lv_ldcw (v := 65536) hx hb hown (hts _ k_ci_Ji_264) d_Ji_numberOfTrailingZeros_20 ?_
              refine lv_icmp_le (tgt := 34) hx hb d_Ji_numberOfTrailingZeros_23 (by decide) (fun c_9 => ?_) (fun c_9 => ?_)
              · exact j34 t ls ⟨t0, Nat.le_refl t, (wf_tz_le (a := t) (k := 16) (by omega) (by decide) (by decide)).mp c_9⟩ (lv_sub hl [0, 1] rfl)
              · have hc : 16 < t := Nat.not_le.mp (fun h => c_9 ((wf_tz_le (a := t) (k := 16) (by omega) (by decide) (by decide)).mpr h))
                refine lv_iinc (v := nI (1 + t - (t - 16))) (lv' := [(1, .int (nI (1 + t - (t - 16)))), (0, .int (nI (2 ^ t - 1)))]) hx hb d_Ji_numberOfTrailingZeros_26 hl (k := 0) rfl (show nI _ + nI 16 = _ by rw [nI_add]; congr 1; omega) (by decide) rfl (fun ls hl => ?_)
                refine lv_iload_n hx hb d_Ji_numberOfTrailingZeros_29 rfl (lv_at hl 1 rfl) ?_
                refine lv_bipush (v := 16) hx hb d_Ji_numberOfTrailingZeros_30 (by decide) ?_
                refine lv_iushr hx hb d_Ji_numberOfTrailingZeros_32 (pk_ushrN (n := (2 ^ t - 1)) (by omega) 16 16 (by decide)) ?_
                refine lv_istore_n (lv' := [(0, .int (nI ((2 ^ t - 1) / 2 ^ 16))), (1, .int (nI (1 + t - (t - 16))))]) hx hb d_Ji_numberOfTrailingZeros_33 rfl hl (by decide) rfl (fun ls hl => ?_)
                rw [wf_tz_div (show 16 ≤ t by omega)] at hl
                exact j34 (t - 16) ls ⟨by omega, by omega, by omega⟩ (lv_sub hl [1, 0] rfl)

set_option maxHeartbeats 4000000 in
set_option maxRecDepth 100000 in
theorem kJ_ntz {p : Program} {l : Launch} {e : Env} {R : Room} {s : State} {m : MethodId} {args : Array Value} {below : List Frame} {meth : Method} {c : Code} {H : Heap} {locs : List Loc} {cells slots : Nat} {Q : State → Prop} {cc : ByteArray} {pc nL : Nat} {ls : Array Slot} {rest : List Value} {N : Nat} (hN : N < 4294967296) (C : CallFix p m c cc nL s args wG RJl) (hsz : ls.size = nL) (hR : 1 ≤ R.frames ∧ 21 ≤ R.locals) (hw : (rest.map fun v => v.category).sum ≤ 8) (hc : cells ≤ R.cells ∧ slots ≤ R.slots) (hdg : decode cc pc = .ok (.invokestatic 311, 3)) (kk : ∀ r : Int32, (∃ z, r = nI z ∧ wf_TZ 32 N z) → W p l e R s m args below meth c H locs cells slots Q (F0 m (pc + 3) ls (.int r :: rest))) : W p l e R s m args below meth c H locs cells slots Q (F0 m pc ls (.int (nI N) :: rest)) := by
  exact vp_callSi (W.runS (As := [.int (nI N)]) (rest := rest) C (c_Ji_numberOfTrailingZeros l N hN) (va_cwS 1 C.2.2.2.2 (wG_S (fun _ h => h) k_ml_Jl_311 k_st_Ji_numberOfTrailingZeros k_in_Ji k_Ji_numberOfTrailingZeros) rfl rfl rfl (by decide +kernel) ⟨hR.1, hR.2⟩) preEq rfl rfl hsz rfl (lv_room hw) hdg ⟨hc.1, hc.2⟩) (fun r hr => kk r hr)
