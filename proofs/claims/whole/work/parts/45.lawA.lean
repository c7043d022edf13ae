/-! ===== the law, case by case ===== -/
set_option maxHeartbeats 4000000 in
set_option maxRecDepth 100000 in
theorem law_0_ok {p : Program} {l : Launch} {e : Env} {s : State} {m : MethodId} {below : List Frame} {meth : Method} {c : Code} {D : va_G} {q r : Nat → Nat} {κ μ : Nat → ClassId} {o : Nat} {ko : ClassId} {b L : Nat} {xs : Nat → Int32} {t : Nat} {x : SX × (Nat → Int64)} {w : SM} {H : Heap} {locs : List Loc} {ls : Array Slot} (hst : l.stackTraces = false) (hL : L ≤ 3072) (C0 : lw_At p s m meth c b L xs) (hAll : wx_All s) (hK : va_K D vwCl (tyL ko κ μ) s) (ht : 6 * t + 6 ≤ L) {ra : Nat} (hra : ra < 8) (era : xs (6 * t + 1) = nI ra) (hIn : wf_In x.1 w) (hP : va_P D vwCl (wL o ko q κ r μ x w) H) (hD : va_D (lwA s) (wL o ko q κ r μ x w)) (hS : va_S (lwA s) s.heap H locs) (hl : lv_has ls 8 [(0, .ref (b)), (1, .ref (q 0)), (2, .ref (r 0)), (3, .ref (o)), (4, .int (nI (6 * t)))]) (back : ∀ (x' : SX × (Nat → Int64)) (w' : SM) (H' : Heap) (locs' : List Loc) (ls' : Array Slot), wf_In x'.1 w' → va_P D vwCl (wL o ko q κ r μ x' w') H' → va_D (lwA s) (wL o ko q κ r μ x' w') → va_S (lwA s) s.heap H' locs' → lv_has ls' 8 [(0, .ref (b)), (1, .ref (q 0)), (2, .ref (r 0)), (3, .ref (o)), (4, .int (nI (6 * t)))] → W p l e room_1 s m #[Value.ref b] below meth c H' locs' (12 + (t + 1)) (1905 + 6 * (t + 1)) (lw_Z below #[Value.ref b] s) (F0 m 1124 ls' [])) : W p l e room_1 s m #[Value.ref b] below meth c H locs (12 + t) (1905 + 6 * t) (lw_Z below #[Value.ref b] s) (F0 m 112 ls []) := by
  obtain ⟨hx, hb, hr, hml, hown, hts0, hX, hbl, hlocks, hgv⟩ := C0
  have hts := fun w h => hts0 w (wG_tbl h)
  have C : CallFix p m c code 8 s #[Value.ref b] wG RL := ⟨hx, hb, hml, hown, hts⟩
  have hA : ∀ z : Nat, s.heap.size ≤ z → lwA s z := fun _ h => h
  have hbA : ¬ lwA s b := Nat.not_le.mpr hbl
  refine lv_aload_n hx hb d_law_112 rfl (lv_at hl 1 rfl) ?_
  refine lv_aload_n hx hb d_law_113 rfl (lv_at hl 0 rfl) ?_
  refine lv_iload hx hb d_law_114 (lv_at hl 4 rfl) ?_
  refine lv_iconst (v := 1) hx hb d_law_116 (by decide) ?_
  refine lv_iadd hx hb d_law_117 ?_
  refine lw_ld hx hb hX hbl hbA hS (k := 6 * t + 1) (nI_add (6 * t) 1) (by omega) hL d_law_118 ?_
  rw [era]
  refine lv_aload_n hx hb d_law_119 rfl (lv_at hl 0 rfl) ?_
  refine lv_iload hx hb d_law_120 (lv_at hl 4 rfl) ?_
  refine lv_iconst (v := 2) hx hb d_law_122 (by decide) ?_
  refine lv_iadd hx hb d_law_123 ?_
  refine lw_ld hx hb hX hbl hbA hS (k := 6 * t + 2) (nI_add (6 * t) 2) (by omega) hL d_law_124 ?_
  refine lv_i2l hx hb d_law_125 rfl ?_
  refine lv_bipush (v := 32) hx hb d_law_126 (by decide) ?_
  refine lv_lshl hx hb d_law_128 rfl ?_
  refine lv_aload_n hx hb d_law_129 rfl (lv_at hl 0 rfl) ?_
  refine lv_iload hx hb d_law_130 (lv_at hl 4 rfl) ?_
  refine lv_iconst (v := 3) hx hb d_law_132 (by decide) ?_
  refine lv_iadd hx hb d_law_133 ?_
  refine lw_ld hx hb hX hbl hbA hS (k := 6 * t + 3) (nI_add (6 * t) 3) (by omega) hL d_law_134 ?_
  refine lv_i2l hx hb d_law_135 rfl ?_
  refine lv_ldc2 (v := 4294967295) hx hb hown (hts _ (k_cl_L_66)) d_law_136 ?_
  refine lv_land hx hb d_law_139 ?_
  refine lv_lor hx hb d_law_140 ?_
  obtain ⟨hh, ehh⟩ : ∃ z : Int64, z = ((Int32.toInt64 (xs (6 * t + 2))) <<< (Int32.toInt64 32 &&& 63)) ||| ((Int32.toInt64 (xs (6 * t + 3))) &&& 4294967295) := ⟨_, rfl⟩
  rw [← ehh]
  refine lv_aload_n hx hb d_law_141 rfl (lv_at hl 0 rfl) ?_
  refine lv_iload hx hb d_law_142 (lv_at hl 4 rfl) ?_
  refine lv_iconst (v := 4) hx hb d_law_144 (by decide) ?_
  refine lv_iadd hx hb d_law_145 ?_
  refine lw_ld hx hb hX hbl hbA hS (k := 6 * t + 4) (nI_add (6 * t) 4) (by omega) hL d_law_146 ?_
  refine lv_i2l hx hb d_law_147 rfl ?_
  refine lv_bipush (v := 32) hx hb d_law_148 (by decide) ?_
  refine lv_lshl hx hb d_law_150 rfl ?_
  refine lv_aload_n hx hb d_law_151 rfl (lv_at hl 0 rfl) ?_
  refine lv_iload hx hb d_law_152 (lv_at hl 4 rfl) ?_
  refine lv_iconst (v := 5) hx hb d_law_154 (by decide) ?_
  refine lv_iadd hx hb d_law_155 ?_
  refine lw_ld hx hb hX hbl hbA hS (k := 6 * t + 5) (nI_add (6 * t) 5) (by omega) hL d_law_156 ?_
  refine lv_i2l hx hb d_law_157 rfl ?_
  refine lv_ldc2 (v := 4294967295) hx hb hown (hts _ (k_cl_L_66)) d_law_158 ?_
  refine lv_land hx hb d_law_161 ?_
  refine lv_lor hx hb d_law_162 ?_
  obtain ⟨ll, ell⟩ : ∃ z : Int64, z = ((Int32.toInt64 (xs (6 * t + 4))) <<< (Int32.toInt64 32 &&& 63)) ||| ((Int32.toInt64 (xs (6 * t + 5))) &&& 4294967295) := ⟨_, rfl⟩
  rw [← ell]
  have hPc := hP.sub (ws' := wXO o ko q κ x) [0, 1, 2, 3, 4, 5] rfl
  have hDc := hD.sub (ws' := wXO o ko q κ x) [0, 1, 2, 3, 4, 5] (by decide) rfl
  have hKc := hK.sub (tys' := tyXO ko κ) [0, 1, 2, 3, 4] rfl
  refine wj_i (ws := wL o ko q κ r μ x w) (wc := wXO o ko q κ x) (wr := wM r μ w) (mkAll := fun z => wL o ko q κ r μ z w) [0, 1, 2, 3, 4, 5] [6, 7, 8, 9, 10, 11] [6, 7, 8, 9, 10, 11, 0, 1, 2, 3, 4, 5] rfl rfl (by decide) (by decide) (by decide) (fun _ => rfl) (wx_runSH (n := 4) (As := [.ref (q 0), .int (nI ra), .long (hh), .long (ll)]) (rest := []) C (c_L_set_ok l hst D q κ o ko x ra hra hh ll H.size) (wG_SH (fun _ h => h) k_ml_L_68 k_st_L_set k_in_L k_L_set) rfl rfl rfl ⟨rfl, by decide, by decide, by decide +kernel⟩ ⟨Nat.le_of_ble_eq_true rfl, Nat.le_of_ble_eq_true rfl⟩ ⟨wf_blindO, wf_preO hPc hKc hDc hAll (fun z hz => hS.2.1 z hz (Nat.not_le.mpr hz))⟩ rfl hl.1 rfl (Nat.le_of_ble_eq_true rfl) d_law_163 ⟨by show _ ≤ 1041; omega, by show _ ≤ 10127; omega⟩) (fun _ h => h) hS hP hD hA (fun kr x1 H locs ew hP hD hS => ?_)
  obtain ⟨k0, ew⟩ := ew
  subst k0
  refine lv_istore (lv' := [(5, .int (0)), (0, .ref (b)), (1, .ref (q 0)), (2, .ref (r 0)), (3, .ref (o)), (4, .int (nI (6 * t)))]) hx hb d_law_166 hl (by decide) rfl (fun ls hl => ?_)
  refine lv_aload_n hx hb d_law_168 rfl (lv_at hl 3 rfl) ?_
  refine lv_aload_n hx hb d_law_169 rfl (lv_at hl 1 rfl) ?_
  refine lv_iload hx hb d_law_170 (lv_at hl 5 rfl) ?_
  refine lv_iconst (v := 1) hx hb d_law_172 (by decide) ?_
  refine lv_iadd hx hb d_law_173 ?_
  refine lw_ld hx hb hX hbl hbA hS (k := 6 * t + 1) (nI_add (6 * t) 1) (by omega) hL d_law_174 ?_
  rw [era]
  refine lv_aload_n hx hb d_law_175 rfl (lv_at hl 1 rfl) ?_
  refine lv_iload hx hb d_law_176 (lv_at hl 5 rfl) ?_
  refine lv_iconst (v := 2) hx hb d_law_178 (by decide) ?_
  refine lv_iadd hx hb d_law_179 ?_
  refine lw_ld hx hb hX hbl hbA hS (k := 6 * t + 2) (nI_add (6 * t) 2) (by omega) hL d_law_180 ?_
  refine lv_i2l hx hb d_law_181 rfl ?_
  refine lv_bipush (v := 32) hx hb d_law_182 (by decide) ?_
  refine lv_lshl hx hb d_law_184 rfl ?_
  refine lv_aload_n hx hb d_law_185 rfl (lv_at hl 1 rfl) ?_
  refine lv_iload hx hb d_law_186 (lv_at hl 5 rfl) ?_
  refine lv_iconst (v := 3) hx hb d_law_188 (by decide) ?_
  refine lv_iadd hx hb d_law_189 ?_
  refine lw_ld hx hb hX hbl hbA hS (k := 6 * t + 3) (nI_add (6 * t) 3) (by omega) hL d_law_190 ?_
  refine lv_i2l hx hb d_law_191 rfl ?_
  refine lv_ldc2 (v := 4294967295) hx hb hown (hts _ (k_cl_L_66)) d_law_192 ?_
  refine lv_land hx hb d_law_195 ?_
  refine lv_lor hx hb d_law_196 ?_
  rw [← ehh]
  refine lv_aload_n hx hb d_law_197 rfl (lv_at hl 1 rfl) ?_
  refine lv_iload hx hb d_law_198 (lv_at hl 5 rfl) ?_
  refine lv_iconst (v := 4) hx hb d_law_200 (by decide) ?_
  refine lv_iadd hx hb d_law_201 ?_
  refine lw_ld hx hb hX hbl hbA hS (k := 6 * t + 4) (nI_add (6 * t) 4) (by omega) hL d_law_202 ?_
  refine lv_i2l hx hb d_law_203 rfl ?_
  refine lv_bipush (v := 32) hx hb d_law_204 (by decide) ?_
  refine lv_lshl hx hb d_law_206 rfl ?_
  refine lv_aload_n hx hb d_law_207 rfl (lv_at hl 1 rfl) ?_
  refine lv_iload hx hb d_law_208 (lv_at hl 5 rfl) ?_
  refine lv_iconst (v := 5) hx hb d_law_210 (by decide) ?_
  refine lv_iadd hx hb d_law_211 ?_
  refine lw_ld hx hb hX hbl hbA hS (k := 6 * t + 5) (nI_add (6 * t) 5) (by omega) hL d_law_212 ?_
  refine lv_i2l hx hb d_law_213 rfl ?_
  refine lv_ldc2 (v := 4294967295) hx hb hown (hts _ (k_cl_L_66)) d_law_214 ?_
  refine lv_land hx hb d_law_217 ?_
  refine lv_lor hx hb d_law_218 ?_
  rw [← ell]
  have hPc := hP.sub (ws' := wM r μ w) [6, 7, 8, 9, 10, 11] rfl
  have hDc := hD.sub (ws' := wM r μ w) [6, 7, 8, 9, 10, 11] (by decide) rfl
  have hKc := hK.sub (tys' := tyM μ) [5, 6, 7, 8, 9] rfl
  refine wj_v (ws := wL o ko q κ r μ x1 w) (wc := wM r μ w) (wr := wXO o ko q κ x1) (mkAll := fun z => wL o ko q κ r μ x1 z) [6, 7, 8, 9, 10, 11] [0, 1, 2, 3, 4, 5] [0, 1, 2, 3, 4, 5, 6, 7, 8, 9, 10, 11] rfl rfl (by decide) (by decide) (by decide) (fun _ => rfl) (va_runV (As := [.int (nI ra), .long (hh), .long (ll)]) (rest := []) C (c_M_set l D r μ w ra hra hh ll H.size) (cwV 3 C.2.2.2.2 (wG_V (fun _ h => h) k_ml_L_73 k_im_M_set k_se_M_set k_in_M k_M_set) rfl rfl rfl (by decide +kernel) ⟨Nat.le_of_ble_eq_true rfl, Nat.le_of_ble_eq_true rfl⟩) ⟨wf_blind, va_recv hKc hPc (ci := 1) (q0 := 0) rfl rfl, wf_pre hPc hKc hDc⟩ rfl rfl hl.1 rfl (lv_room (Nat.le_of_ble_eq_true rfl)) d_law_219 ⟨by show _ ≤ 1041; omega, by show _ ≤ 10127; omega⟩) (fun _ h => h) hS hP hD hA (fun w1 H locs em hP hD hS => ?_)
  have hcode := em.1
  have hIn1 : wf_In x1.1 w1 := In_st hIn ew.1 em rfl
  refine lv_aload_n hx hb d_law_222 rfl (lv_at hl 3 rfl) ?_
  have hPc := hP.sub (ws' := wM r μ w1) [6, 7, 8, 9, 10, 11] rfl
  have hDc := hD.sub (ws' := wM r μ w1) [6, 7, 8, 9, 10, 11] (by decide) rfl
  have hKc := hK.sub (tys' := tyM μ) [5, 6, 7, 8, 9] rfl
  refine vp_callSi (W.runV (As := []) (rest := []) C (c_M_thrown l D r μ w1 H.size) (cwV 0 C.2.2.2.2 (wG_V (fun _ h => h) k_ml_L_74 k_im_M_thrown k_se_M_thrown k_in_M k_M_thrown) rfl rfl rfl (by decide +kernel) ⟨Nat.le_of_ble_eq_true rfl, Nat.le_of_ble_eq_true rfl⟩) ⟨wf_blind, va_recv hKc hPc (ci := 1) (q0 := 0) rfl rfl, wf_pre hPc hKc hDc⟩ rfl rfl hl.1 rfl (lv_room (Nat.le_of_ble_eq_true rfl)) d_law_223 ⟨by show _ ≤ 1041; omega, by show _ ≤ 10127; omega⟩) (fun tr htr => ?_)
  refine lv_iload hx hb d_law_226 (lv_at hl 0 rfl) ?_
  refine lv_icmp_eq (tgt := 233) hx hb d_law_228 (by decide) (fun c_1 => ?_) (fun c_1 => False.elim (by first | exact absurd (htr.trans hcode) c_1 | exact absurd c_1 (htr.trans hcode)))
  refine lv_goto (tgt := 1124) hx hb d_law_233 (by decide) ?_
  refine W.widen (k := 12 + (t + 1)) (n := 1905 + 6 * (t + 1)) (by omega) (by omega) ?_
  exact back x1 w1 H locs ls hIn1 hP hD hS (lv_sub hl [1, 2, 3, 4, 5] rfl)

set_option maxHeartbeats 4000000 in
set_option maxRecDepth 100000 in
theorem law_0_bad {p : Program} {l : Launch} {e : Env} {s : State} {m : MethodId} {below : List Frame} {meth : Method} {c : Code} {D : va_G} {q r : Nat → Nat} {κ μ : Nat → ClassId} {o : Nat} {ko : ClassId} {b L : Nat} {xs : Nat → Int32} {t : Nat} {x : SX × (Nat → Int64)} {w : SM} {H : Heap} {locs : List Loc} {ls : Array Slot} (hst : l.stackTraces = false) (hL : L ≤ 3072) (C0 : lw_At p s m meth c b L xs) (hAll : wx_All s) (hK : va_K D vwCl (tyL ko κ μ) s) (ht : 6 * t + 6 ≤ L) (hbad : ((wf_no (xs (6 * t + 1))) || (false)) = true) (hIn : wf_In x.1 w) (hP : va_P D vwCl (wL o ko q κ r μ x w) H) (hD : va_D (lwA s) (wL o ko q κ r μ x w)) (hS : va_S (lwA s) s.heap H locs) (hl : lv_has ls 8 [(0, .ref (b)), (1, .ref (q 0)), (2, .ref (r 0)), (3, .ref (o)), (4, .int (nI (6 * t)))]) (back : ∀ (x' : SX × (Nat → Int64)) (w' : SM) (H' : Heap) (locs' : List Loc) (ls' : Array Slot), wf_In x'.1 w' → va_P D vwCl (wL o ko q κ r μ x' w') H' → va_D (lwA s) (wL o ko q κ r μ x' w') → va_S (lwA s) s.heap H' locs' → lv_has ls' 8 [(0, .ref (b)), (1, .ref (q 0)), (2, .ref (r 0)), (3, .ref (o)), (4, .int (nI (6 * t)))] → W p l e room_1 s m #[Value.ref b] below meth c H' locs' (12 + (t + 1)) (1905 + 6 * (t + 1)) (lw_Z below #[Value.ref b] s) (F0 m 1124 ls' [])) : W p l e room_1 s m #[Value.ref b] below meth c H locs (12 + t) (1905 + 6 * t) (lw_Z below #[Value.ref b] s) (F0 m 112 ls []) := by
  obtain ⟨hx, hb, hr, hml, hown, hts0, hX, hbl, hlocks, hgv⟩ := C0
  have hts := fun w h => hts0 w (wG_tbl h)
  have C : CallFix p m c code 8 s #[Value.ref b] wG RL := ⟨hx, hb, hml, hown, hts⟩
  have hA : ∀ z : Nat, s.heap.size ≤ z → lwA s z := fun _ h => h
  have hbA : ¬ lwA s b := Nat.not_le.mpr hbl
  refine lv_aload_n hx hb d_law_112 rfl (lv_at hl 1 rfl) ?_
  refine lv_aload_n hx hb d_law_113 rfl (lv_at hl 0 rfl) ?_
  refine lv_iload hx hb d_law_114 (lv_at hl 4 rfl) ?_
  refine lv_iconst (v := 1) hx hb d_law_116 (by decide) ?_
  refine lv_iadd hx hb d_law_117 ?_
  refine lw_ld hx hb hX hbl hbA hS (k := 6 * t + 1) (nI_add (6 * t) 1) (by omega) hL d_law_118 ?_
  refine lv_aload_n hx hb d_law_119 rfl (lv_at hl 0 rfl) ?_
  refine lv_iload hx hb d_law_120 (lv_at hl 4 rfl) ?_
  refine lv_iconst (v := 2) hx hb d_law_122 (by decide) ?_
  refine lv_iadd hx hb d_law_123 ?_
  refine lw_ld hx hb hX hbl hbA hS (k := 6 * t + 2) (nI_add (6 * t) 2) (by omega) hL d_law_124 ?_
  refine lv_i2l hx hb d_law_125 rfl ?_
  refine lv_bipush (v := 32) hx hb d_law_126 (by decide) ?_
  refine lv_lshl hx hb d_law_128 rfl ?_
  refine lv_aload_n hx hb d_law_129 rfl (lv_at hl 0 rfl) ?_
  refine lv_iload hx hb d_law_130 (lv_at hl 4 rfl) ?_
  refine lv_iconst (v := 3) hx hb d_law_132 (by decide) ?_
  refine lv_iadd hx hb d_law_133 ?_
  refine lw_ld hx hb hX hbl hbA hS (k := 6 * t + 3) (nI_add (6 * t) 3) (by omega) hL d_law_134 ?_
  refine lv_i2l hx hb d_law_135 rfl ?_
  refine lv_ldc2 (v := 4294967295) hx hb hown (hts _ (k_cl_L_66)) d_law_136 ?_
  refine lv_land hx hb d_law_139 ?_
  refine lv_lor hx hb d_law_140 ?_
  obtain ⟨hh, ehh⟩ : ∃ z : Int64, z = ((Int32.toInt64 (xs (6 * t + 2))) <<< (Int32.toInt64 32 &&& 63)) ||| ((Int32.toInt64 (xs (6 * t + 3))) &&& 4294967295) := ⟨_, rfl⟩
  rw [← ehh]
  refine lv_aload_n hx hb d_law_141 rfl (lv_at hl 0 rfl) ?_
  refine lv_iload hx hb d_law_142 (lv_at hl 4 rfl) ?_
  refine lv_iconst (v := 4) hx hb d_law_144 (by decide) ?_
  refine lv_iadd hx hb d_law_145 ?_
  refine lw_ld hx hb hX hbl hbA hS (k := 6 * t + 4) (nI_add (6 * t) 4) (by omega) hL d_law_146 ?_
  refine lv_i2l hx hb d_law_147 rfl ?_
  refine lv_bipush (v := 32) hx hb d_law_148 (by decide) ?_
  refine lv_lshl hx hb d_law_150 rfl ?_
  refine lv_aload_n hx hb d_law_151 rfl (lv_at hl 0 rfl) ?_
  refine lv_iload hx hb d_law_152 (lv_at hl 4 rfl) ?_
  refine lv_iconst (v := 5) hx hb d_law_154 (by decide) ?_
  refine lv_iadd hx hb d_law_155 ?_
  refine lw_ld hx hb hX hbl hbA hS (k := 6 * t + 5) (nI_add (6 * t) 5) (by omega) hL d_law_156 ?_
  refine lv_i2l hx hb d_law_157 rfl ?_
  refine lv_ldc2 (v := 4294967295) hx hb hown (hts _ (k_cl_L_66)) d_law_158 ?_
  refine lv_land hx hb d_law_161 ?_
  refine lv_lor hx hb d_law_162 ?_
  obtain ⟨ll, ell⟩ : ∃ z : Int64, z = ((Int32.toInt64 (xs (6 * t + 4))) <<< (Int32.toInt64 32 &&& 63)) ||| ((Int32.toInt64 (xs (6 * t + 5))) &&& 4294967295) := ⟨_, rfl⟩
  rw [← ell]
  have hPc := hP.sub (ws' := wXO o ko q κ x) [0, 1, 2, 3, 4, 5] rfl
  have hDc := hD.sub (ws' := wXO o ko q κ x) [0, 1, 2, 3, 4, 5] (by decide) rfl
  have hKc := hK.sub (tys' := tyXO ko κ) [0, 1, 2, 3, 4] rfl
  refine wj_i (ws := wL o ko q κ r μ x w) (wc := wXO o ko q κ x) (wr := wM r μ w) (mkAll := fun z => wL o ko q κ r μ z w) [0, 1, 2, 3, 4, 5] [6, 7, 8, 9, 10, 11] [6, 7, 8, 9, 10, 11, 0, 1, 2, 3, 4, 5] rfl rfl (by decide) (by decide) (by decide) (fun _ => rfl) (wx_runSH (n := 4) (As := [.ref (q 0), .int (xs (6 * t + 1)), .long (hh), .long (ll)]) (rest := []) C (c_L_set_bad l hst D q κ o ko x (xs (6 * t + 1)) hh ll hbad H.size) (wG_SH (fun _ h => h) k_ml_L_68 k_st_L_set k_in_L k_L_set) rfl rfl rfl ⟨rfl, by decide, by decide, by decide +kernel⟩ ⟨Nat.le_of_ble_eq_true rfl, Nat.le_of_ble_eq_true rfl⟩ ⟨wf_blindO, wf_preO hPc hKc hDc hAll (fun z hz => hS.2.1 z hz (Nat.not_le.mpr hz))⟩ rfl hl.1 rfl (Nat.le_of_ble_eq_true rfl) d_law_163 ⟨by show _ ≤ 1041; omega, by show _ ≤ 10127; omega⟩) (fun _ h => h) hS hP hD hA (fun kr x1 H locs ew hP hD hS => ?_)
  obtain ⟨k0, ew⟩ := ew
  subst k0
  rw [ew] at hP hD
  have hP : va_P D vwCl (wL o ko q κ r μ x w) H := hP
  have hD : va_D (lwA s) (wL o ko q κ r μ x w) := hD
  refine lv_topi (fun v_1 ev_1 => ?_)
  refine lv_istore (lv' := [(5, .int (v_1)), (0, .ref (b)), (1, .ref (q 0)), (2, .ref (r 0)), (3, .ref (o)), (4, .int (nI (6 * t)))]) hx hb d_law_166 hl (by decide) rfl (fun ls hl => ?_)
  refine lv_aload_n hx hb d_law_168 rfl (lv_at hl 3 rfl) ?_
  refine lv_aload_n hx hb d_law_169 rfl (lv_at hl 1 rfl) ?_
  refine lv_iload hx hb d_law_170 (lv_at hl 5 rfl) ?_
  refine lv_iconst (v := 1) hx hb d_law_172 (by decide) ?_
  refine lv_iadd hx hb d_law_173 ?_
  refine lw_ld hx hb hX hbl hbA hS (k := 6 * t + 1) (nI_add (6 * t) 1) (by omega) hL d_law_174 ?_
  refine lv_aload_n hx hb d_law_175 rfl (lv_at hl 1 rfl) ?_
  refine lv_iload hx hb d_law_176 (lv_at hl 5 rfl) ?_
  refine lv_iconst (v := 2) hx hb d_law_178 (by decide) ?_
  refine lv_iadd hx hb d_law_179 ?_
  refine lw_ld hx hb hX hbl hbA hS (k := 6 * t + 2) (nI_add (6 * t) 2) (by omega) hL d_law_180 ?_
  refine lv_i2l hx hb d_law_181 rfl ?_
  refine lv_bipush (v := 32) hx hb d_law_182 (by decide) ?_
  refine lv_lshl hx hb d_law_184 rfl ?_
  refine lv_aload_n hx hb d_law_185 rfl (lv_at hl 1 rfl) ?_
  refine lv_iload hx hb d_law_186 (lv_at hl 5 rfl) ?_
  refine lv_iconst (v := 3) hx hb d_law_188 (by decide) ?_
  refine lv_iadd hx hb d_law_189 ?_
  refine lw_ld hx hb hX hbl hbA hS (k := 6 * t + 3) (nI_add (6 * t) 3) (by omega) hL d_law_190 ?_
  refine lv_i2l hx hb d_law_191 rfl ?_
  refine lv_ldc2 (v := 4294967295) hx hb hown (hts _ (k_cl_L_66)) d_law_192 ?_
  refine lv_land hx hb d_law_195 ?_
  refine lv_lor hx hb d_law_196 ?_
  rw [← ehh]
  refine lv_aload_n hx hb d_law_197 rfl (lv_at hl 1 rfl) ?_
  refine lv_iload hx hb d_law_198 (lv_at hl 5 rfl) ?_
  refine lv_iconst (v := 4) hx hb d_law_200 (by decide) ?_
  refine lv_iadd hx hb d_law_201 ?_
  refine lw_ld hx hb hX hbl hbA hS (k := 6 * t + 4) (nI_add (6 * t) 4) (by omega) hL d_law_202 ?_
  refine lv_i2l hx hb d_law_203 rfl ?_
  refine lv_bipush (v := 32) hx hb d_law_204 (by decide) ?_
  refine lv_lshl hx hb d_law_206 rfl ?_
  refine lv_aload_n hx hb d_law_207 rfl (lv_at hl 1 rfl) ?_
  refine lv_iload hx hb d_law_208 (lv_at hl 5 rfl) ?_
  refine lv_iconst (v := 5) hx hb d_law_210 (by decide) ?_
  refine lv_iadd hx hb d_law_211 ?_
  refine lw_ld hx hb hX hbl hbA hS (k := 6 * t + 5) (nI_add (6 * t) 5) (by omega) hL d_law_212 ?_
  refine lv_i2l hx hb d_law_213 rfl ?_
  refine lv_ldc2 (v := 4294967295) hx hb hown (hts _ (k_cl_L_66)) d_law_214 ?_
  refine lv_land hx hb d_law_217 ?_
  refine lv_lor hx hb d_law_218 ?_
  rw [← ell]
  have hPc := hP.sub (ws' := wM r μ w) [6, 7, 8, 9, 10, 11] rfl
  have hDc := hD.sub (ws' := wM r μ w) [6, 7, 8, 9, 10, 11] (by decide) rfl
  have hKc := hK.sub (tys' := tyM μ) [5, 6, 7, 8, 9] rfl
  refine wj_v (ws := wL o ko q κ r μ x w) (wc := wM r μ w) (wr := wXO o ko q κ x) (mkAll := fun z => wL o ko q κ r μ x z) [6, 7, 8, 9, 10, 11] [0, 1, 2, 3, 4, 5] [0, 1, 2, 3, 4, 5, 6, 7, 8, 9, 10, 11] rfl rfl (by decide) (by decide) (by decide) (fun _ => rfl) (va_runV (As := [.int (xs (6 * t + 1)), .long (hh), .long (ll)]) (rest := []) C (c_M_setBad l D r μ w (xs (6 * t + 1)) hh ll hbad H.size) (cwV 3 C.2.2.2.2 (wG_V (fun _ h => h) k_ml_L_73 k_im_M_set k_se_M_set k_in_M k_M_set) rfl rfl rfl (by decide +kernel) ⟨Nat.le_of_ble_eq_true rfl, Nat.le_of_ble_eq_true rfl⟩) ⟨wf_blind, va_recv hKc hPc (ci := 1) (q0 := 0) rfl rfl, wf_pre hPc hKc hDc⟩ rfl rfl hl.1 rfl (lv_room (Nat.le_of_ble_eq_true rfl)) d_law_219 ⟨by show _ ≤ 1041; omega, by show _ ≤ 10127; omega⟩) (fun _ h => h) hS hP hD hA (fun w1 H locs em hP hD hS => ?_)
  refine lv_aload_n hx hb d_law_222 rfl (lv_at hl 3 rfl) ?_
  have hPc := hP.sub (ws' := wM r μ w1) [6, 7, 8, 9, 10, 11] rfl
  have hDc := hD.sub (ws' := wM r μ w1) [6, 7, 8, 9, 10, 11] (by decide) rfl
  have hKc := hK.sub (tys' := tyM μ) [5, 6, 7, 8, 9] rfl
  refine vp_callSi (W.runV (As := []) (rest := []) C (c_M_thrown l D r μ w1 H.size) (cwV 0 C.2.2.2.2 (wG_V (fun _ h => h) k_ml_L_74 k_im_M_thrown k_se_M_thrown k_in_M k_M_thrown) rfl rfl rfl (by decide +kernel) ⟨Nat.le_of_ble_eq_true rfl, Nat.le_of_ble_eq_true rfl⟩) ⟨wf_blind, va_recv hKc hPc (ci := 1) (q0 := 0) rfl rfl, wf_pre hPc hKc hDc⟩ rfl rfl hl.1 rfl (lv_room (Nat.le_of_ble_eq_true rfl)) d_law_223 ⟨by show _ ≤ 1041; omega, by show _ ≤ 10127; omega⟩) (fun tr htr => ?_)
  refine lv_iload hx hb d_law_226 (lv_at hl 0 rfl) ?_
  refine lv_icmp_eq (tgt := 233) hx hb d_law_228 (by decide) (fun c_2 => ?_) (fun c_2 => False.elim (by first | exact absurd (htr.trans (by rw [em, ev_1])) c_2 | exact absurd c_2 (htr.trans (by rw [em, ev_1]))))
  refine lv_goto (tgt := 1124) hx hb d_law_233 (by decide) ?_
  refine W.widen (k := 12 + (t + 1)) (n := 1905 + 6 * (t + 1)) (by omega) (by omega) ?_
  exact back x w1 H locs ls (In_code hIn em) hP hD hS (lv_sub hl [1, 2, 3, 4, 5] rfl)

set_option maxHeartbeats 4000000 in
set_option maxRecDepth 100000 in
theorem law_1_okLo {p : Program} {l : Launch} {e : Env} {s : State} {m : MethodId} {below : List Frame} {meth : Method} {c : Code} {D : va_G} {q r : Nat → Nat} {κ μ : Nat → ClassId} {o : Nat} {ko : ClassId} {b L : Nat} {xs : Nat → Int32} {t : Nat} {x : SX × (Nat → Int64)} {w : SM} {H : Heap} {locs : List Loc} {ls : Array Slot} (hst : l.stackTraces = false) (hL : L ≤ 3072) (C0 : lw_At p s m meth c b L xs) (hAll : wx_All s) (hK : va_K D vwCl (tyL ko κ μ) s) (ht : 6 * t + 6 ≤ L) {ra : Nat} (hra : ra < 8) (era : xs (6 * t + 1) = nI ra) (e0 : xs (6 * t + 2) = 0) (hIn : wf_In x.1 w) (hP : va_P D vwCl (wL o ko q κ r μ x w) H) (hD : va_D (lwA s) (wL o ko q κ r μ x w)) (hS : va_S (lwA s) s.heap H locs) (hl : lv_has ls 8 [(0, .ref (b)), (1, .ref (q 0)), (2, .ref (r 0)), (3, .ref (o)), (4, .int (nI (6 * t)))]) (back : ∀ (x' : SX × (Nat → Int64)) (w' : SM) (H' : Heap) (locs' : List Loc) (ls' : Array Slot), wf_In x'.1 w' → va_P D vwCl (wL o ko q κ r μ x' w') H' → va_D (lwA s) (wL o ko q κ r μ x' w') → va_S (lwA s) s.heap H' locs' → lv_has ls' 8 [(0, .ref (b)), (1, .ref (q 0)), (2, .ref (r 0)), (3, .ref (o)), (4, .int (nI (6 * t)))] → W p l e room_1 s m #[Value.ref b] below meth c H' locs' (12 + (t + 1)) (1905 + 6 * (t + 1)) (lw_Z below #[Value.ref b] s) (F0 m 1124 ls' [])) : W p l e room_1 s m #[Value.ref b] below meth c H locs (12 + t) (1905 + 6 * t) (lw_Z below #[Value.ref b] s) (F0 m 236 ls []) := by
  obtain ⟨hx, hb, hr, hml, hown, hts0, hX, hbl, hlocks, hgv⟩ := C0
  have hts := fun w h => hts0 w (wG_tbl h)
  have C : CallFix p m c code 8 s #[Value.ref b] wG RL := ⟨hx, hb, hml, hown, hts⟩
  have hA : ∀ z : Nat, s.heap.size ≤ z → lwA s z := fun _ h => h
  have hbA : ¬ lwA s b := Nat.not_le.mpr hbl
  refine lv_aload_n hx hb d_law_236 rfl (lv_at hl 1 rfl) ?_
  refine lv_aload_n hx hb d_law_237 rfl (lv_at hl 0 rfl) ?_
  refine lv_iload hx hb d_law_238 (lv_at hl 4 rfl) ?_
  refine lv_iconst (v := 1) hx hb d_law_240 (by decide) ?_
  refine lv_iadd hx hb d_law_241 ?_
  refine lw_ld hx hb hX hbl hbA hS (k := 6 * t + 1) (nI_add (6 * t) 1) (by omega) hL d_law_242 ?_
  rw [era]
  refine lv_aload_n hx hb d_law_243 rfl (lv_at hl 0 rfl) ?_
  refine lv_iload hx hb d_law_244 (lv_at hl 4 rfl) ?_
  refine lv_iconst (v := 2) hx hb d_law_246 (by decide) ?_
  refine lv_iadd hx hb d_law_247 ?_
  refine lw_ld hx hb hX hbl hbA hS (k := 6 * t + 2) (nI_add (6 * t) 2) (by omega) hL d_law_248 ?_
  refine lv_if_eq (tgt := 256) hx hb d_law_249 (by decide) (fun c_1 => ?_) (fun c_1 => False.elim (by first | exact absurd (e0) c_1 | exact absurd c_1 (e0)))
  refine lv_iconst (v := 0) hx hb d_law_256 (by decide) ?_
  refine lv_aload_n hx hb d_law_257 rfl (lv_at hl 3 rfl) ?_
  have hPc := hP.sub (ws' := wXO o ko q κ x) [0, 1, 2, 3, 4, 5] rfl
  have hDc := hD.sub (ws' := wXO o ko q κ x) [0, 1, 2, 3, 4, 5] (by decide) rfl
  have hKc := hK.sub (tys' := tyXO ko κ) [0, 1, 2, 3, 4] rfl
  refine wj_i (ws := wL o ko q κ r μ x w) (wc := wXO o ko q κ x) (wr := wM r μ w) (mkAll := fun z => wL o ko q κ r μ z w) [0, 1, 2, 3, 4, 5] [6, 7, 8, 9, 10, 11] [6, 7, 8, 9, 10, 11, 0, 1, 2, 3, 4, 5] rfl rfl (by decide) (by decide) (by decide) (fun _ => rfl) (wx_runSH (n := 4) (As := [.ref (q 0), .int (nI ra), .int (0), .ref (o)]) (rest := []) C (c_L_half_ok l hst D q κ o ko x ra hra 0 H.size) (wG_SH (fun _ h => h) k_ml_L_78 k_st_L_half k_in_L k_L_half) rfl rfl rfl ⟨rfl, by decide, by decide, by decide +kernel⟩ ⟨Nat.le_of_ble_eq_true rfl, Nat.le_of_ble_eq_true rfl⟩ ⟨wf_blindO, wf_preO hPc hKc hDc hAll (fun z hz => hS.2.1 z hz (Nat.not_le.mpr hz))⟩ rfl hl.1 rfl (Nat.le_of_ble_eq_true rfl) d_law_258 ⟨by show _ ≤ 1041; omega, by show _ ≤ 10127; omega⟩) (fun _ h => h) hS hP hD hA (fun kr x1 H locs ew hP hD hS => ?_)
  obtain ⟨k0, ew⟩ := ew
  subst k0
  refine lv_istore (lv' := [(5, .int (0)), (0, .ref (b)), (1, .ref (q 0)), (2, .ref (r 0)), (3, .ref (o)), (4, .int (nI (6 * t)))]) hx hb d_law_261 hl (by decide) rfl (fun ls hl => ?_)
  refine lv_aload_n hx hb d_law_263 rfl (lv_at hl 3 rfl) ?_
  refine lv_aload_n hx hb d_law_264 rfl (lv_at hl 1 rfl) ?_
  refine lv_iload hx hb d_law_265 (lv_at hl 5 rfl) ?_
  refine lv_iconst (v := 1) hx hb d_law_267 (by decide) ?_
  refine lv_iadd hx hb d_law_268 ?_
  refine lw_ld hx hb hX hbl hbA hS (k := 6 * t + 1) (nI_add (6 * t) 1) (by omega) hL d_law_269 ?_
  rw [era]
  refine lv_aload_n hx hb d_law_270 rfl (lv_at hl 1 rfl) ?_
  refine lv_iload hx hb d_law_271 (lv_at hl 5 rfl) ?_
  refine lv_iconst (v := 2) hx hb d_law_273 (by decide) ?_
  refine lv_iadd hx hb d_law_274 ?_
  refine lw_ld hx hb hX hbl hbA hS (k := 6 * t + 2) (nI_add (6 * t) 2) (by omega) hL d_law_275 ?_
  refine lv_if_eq (tgt := 283) hx hb d_law_276 (by decide) (fun c_2 => ?_) (fun c_2 => False.elim (by first | exact absurd (e0) c_2 | exact absurd c_2 (e0)))
  refine lv_iconst (v := 0) hx hb d_law_283 (by decide) ?_
  have hPc := hP.sub (ws' := wM r μ w) [6, 7, 8, 9, 10, 11] rfl
  have hDc := hD.sub (ws' := wM r μ w) [6, 7, 8, 9, 10, 11] (by decide) rfl
  have hKc := hK.sub (tys' := tyM μ) [5, 6, 7, 8, 9] rfl
  refine wj_l (ws := wL o ko q κ r μ x1 w) (wc := wM r μ w) (wr := wXO o ko q κ x1) (mkAll := fun z => wL o ko q κ r μ x1 z) [6, 7, 8, 9, 10, 11] [0, 1, 2, 3, 4, 5] [0, 1, 2, 3, 4, 5, 6, 7, 8, 9, 10, 11] rfl rfl (by decide) (by decide) (by decide) (fun _ => rfl) (va_runV (As := [.int (nI ra), .int (0)]) (rest := []) C (c_M_halfLo l D r μ w ra hra H.size) (cwV 2 C.2.2.2.2 (wG_V (fun _ h => h) k_ml_L_81 k_im_M_half k_se_M_half k_in_M k_M_half) rfl rfl rfl (by decide +kernel) ⟨Nat.le_of_ble_eq_true rfl, Nat.le_of_ble_eq_true rfl⟩) ⟨wf_blind, va_recv hKc hPc (ci := 1) (q0 := 0) rfl rfl, wf_pre hPc hKc hDc⟩ rfl rfl hl.1 rfl (lv_room (Nat.le_of_ble_eq_true rfl)) d_law_284 ⟨by show _ ≤ 1041; omega, by show _ ≤ 10127; omega⟩) (fun _ h => h) hS hP hD hA (fun mr w1 H locs em hP hD hS => ?_)
  have hcode : w1.1 = 0 := by rw [em.1]
  obtain ⟨rv, ⟨ev, ex⟩, ez⟩ := ew
  have hIn1 : wf_In x1.1 w1 := by rw [ex]; exact In_code hIn em.1
  have hz : x1.2 0 = mr := by rw [ez, ev]; exact (In_half hIn hra).2 em.2
  refine lv_lstore (lv' := [(6, .long (mr)), (5, .int (0)), (0, .ref (b)), (1, .ref (q 0)), (2, .ref (r 0)), (3, .ref (o)), (4, .int (nI (6 * t)))]) hx hb d_law_287 hl (by decide) rfl (fun ls hl => ?_)
  refine lv_aload_n hx hb d_law_289 rfl (lv_at hl 4 rfl) ?_
  have hPc := hP.sub (ws' := wM r μ w1) [6, 7, 8, 9, 10, 11] rfl
  have hDc := hD.sub (ws' := wM r μ w1) [6, 7, 8, 9, 10, 11] (by decide) rfl
  have hKc := hK.sub (tys' := tyM μ) [5, 6, 7, 8, 9] rfl
  refine vp_callSi (W.runV (As := []) (rest := []) C (c_M_thrown l D r μ w1 H.size) (cwV 0 C.2.2.2.2 (wG_V (fun _ h => h) k_ml_L_74 k_im_M_thrown k_se_M_thrown k_in_M k_M_thrown) rfl rfl rfl (by decide +kernel) ⟨Nat.le_of_ble_eq_true rfl, Nat.le_of_ble_eq_true rfl⟩) ⟨wf_blind, va_recv hKc hPc (ci := 1) (q0 := 0) rfl rfl, wf_pre hPc hKc hDc⟩ rfl rfl hl.1 rfl (lv_room (Nat.le_of_ble_eq_true rfl)) d_law_290 ⟨by show _ ≤ 1041; omega, by show _ ≤ 10127; omega⟩) (fun tr htr => ?_)
  refine lv_iload hx hb d_law_293 (lv_at hl 1 rfl) ?_
  refine lv_icmp_eq (tgt := 300) hx hb d_law_295 (by decide) (fun c_3 => ?_) (fun c_3 => False.elim (by first | exact absurd (htr.trans hcode) c_3 | exact absurd c_3 (htr.trans hcode)))
  refine lv_iload hx hb d_law_300 (lv_at hl 1 rfl) ?_
  refine lv_if_ne (tgt := 316) hx hb d_law_302 (by decide) (fun c_4 => False.elim (absurd c_4 (by decide))) (fun _ => ?_)
  refine lv_aload_n hx hb d_law_305 rfl (lv_at hl 5 rfl) ?_
  refine lv_iconst (v := 0) hx hb d_law_306 (by decide) ?_
  refine wf_lald C hK hP 5 4 rfl rfl (k := 0) rfl (by decide) (by decide) d_law_307 ?_
  refine lv_lload hx hb d_law_308 (lv_at hl 0 rfl) ?_
  refine W.lcmp hx hb d_law_310 ?_
  refine lv_if_eq (tgt := 316) hx hb d_law_311 (by decide) (fun c_5 => ?_) (fun c_5 => False.elim (by first | exact absurd ((lg_cmp_eq _ _).mpr hz) c_5 | exact absurd c_5 ((lg_cmp_eq _ _).mpr hz)))
  refine lv_goto (tgt := 1124) hx hb d_law_316 (by decide) ?_
  refine W.widen (k := 12 + (t + 1)) (n := 1905 + 6 * (t + 1)) (by omega) (by omega) ?_
  exact back x1 w1 H locs ls hIn1 hP hD hS (lv_sub hl [2, 3, 4, 5, 6] rfl)

set_option maxHeartbeats 4000000 in
set_option maxRecDepth 100000 in
theorem law_1_badLo {p : Program} {l : Launch} {e : Env} {s : State} {m : MethodId} {below : List Frame} {meth : Method} {c : Code} {D : va_G} {q r : Nat → Nat} {κ μ : Nat → ClassId} {o : Nat} {ko : ClassId} {b L : Nat} {xs : Nat → Int32} {t : Nat} {x : SX × (Nat → Int64)} {w : SM} {H : Heap} {locs : List Loc} {ls : Array Slot} (hst : l.stackTraces = false) (hL : L ≤ 3072) (C0 : lw_At p s m meth c b L xs) (hAll : wx_All s) (hK : va_K D vwCl (tyL ko κ μ) s) (ht : 6 * t + 6 ≤ L) (hbad : ((wf_no (xs (6 * t + 1))) || (false)) = true) (e0 : xs (6 * t + 2) = 0) (hIn : wf_In x.1 w) (hP : va_P D vwCl (wL o ko q κ r μ x w) H) (hD : va_D (lwA s) (wL o ko q κ r μ x w)) (hS : va_S (lwA s) s.heap H locs) (hl : lv_has ls 8 [(0, .ref (b)), (1, .ref (q 0)), (2, .ref (r 0)), (3, .ref (o)), (4, .int (nI (6 * t)))]) (back : ∀ (x' : SX × (Nat → Int64)) (w' : SM) (H' : Heap) (locs' : List Loc) (ls' : Array Slot), wf_In x'.1 w' → va_P D vwCl (wL o ko q κ r μ x' w') H' → va_D (lwA s) (wL o ko q κ r μ x' w') → va_S (lwA s) s.heap H' locs' → lv_has ls' 8 [(0, .ref (b)), (1, .ref (q 0)), (2, .ref (r 0)), (3, .ref (o)), (4, .int (nI (6 * t)))] → W p l e room_1 s m #[Value.ref b] below meth c H' locs' (12 + (t + 1)) (1905 + 6 * (t + 1)) (lw_Z below #[Value.ref b] s) (F0 m 1124 ls' [])) : W p l e room_1 s m #[Value.ref b] below meth c H locs (12 + t) (1905 + 6 * t) (lw_Z below #[Value.ref b] s) (F0 m 236 ls []) := by
  obtain ⟨hx, hb, hr, hml, hown, hts0, hX, hbl, hlocks, hgv⟩ := C0
  have hts := fun w h => hts0 w (wG_tbl h)
  have C : CallFix p m c code 8 s #[Value.ref b] wG RL := ⟨hx, hb, hml, hown, hts⟩
  have hA : ∀ z : Nat, s.heap.size ≤ z → lwA s z := fun _ h => h
  have hbA : ¬ lwA s b := Nat.not_le.mpr hbl
  refine lv_aload_n hx hb d_law_236 rfl (lv_at hl 1 rfl) ?_
  refine lv_aload_n hx hb d_law_237 rfl (lv_at hl 0 rfl) ?_
  refine lv_iload hx hb d_law_238 (lv_at hl 4 rfl) ?_
  refine lv_iconst (v := 1) hx hb d_law_240 (by decide) ?_
  refine lv_iadd hx hb d_law_241 ?_
  refine lw_ld hx hb hX hbl hbA hS (k := 6 * t + 1) (nI_add (6 * t) 1) (by omega) hL d_law_242 ?_
  refine lv_aload_n hx hb d_law_243 rfl (lv_at hl 0 rfl) ?_
  refine lv_iload hx hb d_law_244 (lv_at hl 4 rfl) ?_
  refine lv_iconst (v := 2) hx hb d_law_246 (by decide) ?_
  refine lv_iadd hx hb d_law_247 ?_
  refine lw_ld hx hb hX hbl hbA hS (k := 6 * t + 2) (nI_add (6 * t) 2) (by omega) hL d_law_248 ?_
  refine lv_if_eq (tgt := 256) hx hb d_law_249 (by decide) (fun c_1 => ?_) (fun c_1 => False.elim (by first | exact absurd (e0) c_1 | exact absurd c_1 (e0)))
  refine lv_iconst (v := 0) hx hb d_law_256 (by decide) ?_
  refine lv_aload_n hx hb d_law_257 rfl (lv_at hl 3 rfl) ?_
  have hPc := hP.sub (ws' := wXO o ko q κ x) [0, 1, 2, 3, 4, 5] rfl
  have hDc := hD.sub (ws' := wXO o ko q κ x) [0, 1, 2, 3, 4, 5] (by decide) rfl
  have hKc := hK.sub (tys' := tyXO ko κ) [0, 1, 2, 3, 4] rfl
  refine wj_i (ws := wL o ko q κ r μ x w) (wc := wXO o ko q κ x) (wr := wM r μ w) (mkAll := fun z => wL o ko q κ r μ z w) [0, 1, 2, 3, 4, 5] [6, 7, 8, 9, 10, 11] [6, 7, 8, 9, 10, 11, 0, 1, 2, 3, 4, 5] rfl rfl (by decide) (by decide) (by decide) (fun _ => rfl) (wx_runSH (n := 4) (As := [.ref (q 0), .int (xs (6 * t + 1)), .int (0), .ref (o)]) (rest := []) C (c_L_half_bad l hst D q κ o ko x (xs (6 * t + 1)) 0 hbad H.size) (wG_SH (fun _ h => h) k_ml_L_78 k_st_L_half k_in_L k_L_half) rfl rfl rfl ⟨rfl, by decide, by decide, by decide +kernel⟩ ⟨Nat.le_of_ble_eq_true rfl, Nat.le_of_ble_eq_true rfl⟩ ⟨wf_blindO, wf_preO hPc hKc hDc hAll (fun z hz => hS.2.1 z hz (Nat.not_le.mpr hz))⟩ rfl hl.1 rfl (Nat.le_of_ble_eq_true rfl) d_law_258 ⟨by show _ ≤ 1041; omega, by show _ ≤ 10127; omega⟩) (fun _ h => h) hS hP hD hA (fun kr x1 H locs ew hP hD hS => ?_)
  obtain ⟨k0, ew⟩ := ew
  subst k0
  rw [ew] at hP hD
  have hP : va_P D vwCl (wL o ko q κ r μ x w) H := hP
  have hD : va_D (lwA s) (wL o ko q κ r μ x w) := hD
  refine lv_topi (fun v_2 ev_2 => ?_)
  refine lv_istore (lv' := [(5, .int (v_2)), (0, .ref (b)), (1, .ref (q 0)), (2, .ref (r 0)), (3, .ref (o)), (4, .int (nI (6 * t)))]) hx hb d_law_261 hl (by decide) rfl (fun ls hl => ?_)
  refine lv_aload_n hx hb d_law_263 rfl (lv_at hl 3 rfl) ?_
  refine lv_aload_n hx hb d_law_264 rfl (lv_at hl 1 rfl) ?_
  refine lv_iload hx hb d_law_265 (lv_at hl 5 rfl) ?_
  refine lv_iconst (v := 1) hx hb d_law_267 (by decide) ?_
  refine lv_iadd hx hb d_law_268 ?_
  refine lw_ld hx hb hX hbl hbA hS (k := 6 * t + 1) (nI_add (6 * t) 1) (by omega) hL d_law_269 ?_
  refine lv_aload_n hx hb d_law_270 rfl (lv_at hl 1 rfl) ?_
  refine lv_iload hx hb d_law_271 (lv_at hl 5 rfl) ?_
  refine lv_iconst (v := 2) hx hb d_law_273 (by decide) ?_
  refine lv_iadd hx hb d_law_274 ?_
  refine lw_ld hx hb hX hbl hbA hS (k := 6 * t + 2) (nI_add (6 * t) 2) (by omega) hL d_law_275 ?_
  refine lv_if_eq (tgt := 283) hx hb d_law_276 (by decide) (fun c_3 => ?_) (fun c_3 => False.elim (by first | exact absurd (e0) c_3 | exact absurd c_3 (e0)))
  refine lv_iconst (v := 0) hx hb d_law_283 (by decide) ?_
  have hPc := hP.sub (ws' := wM r μ w) [6, 7, 8, 9, 10, 11] rfl
  have hDc := hD.sub (ws' := wM r μ w) [6, 7, 8, 9, 10, 11] (by decide) rfl
  have hKc := hK.sub (tys' := tyM μ) [5, 6, 7, 8, 9] rfl
  refine wj_l (ws := wL o ko q κ r μ x w) (wc := wM r μ w) (wr := wXO o ko q κ x) (mkAll := fun z => wL o ko q κ r μ x z) [6, 7, 8, 9, 10, 11] [0, 1, 2, 3, 4, 5] [0, 1, 2, 3, 4, 5, 6, 7, 8, 9, 10, 11] rfl rfl (by decide) (by decide) (by decide) (fun _ => rfl) (va_runV (As := [.int (xs (6 * t + 1)), .int (0)]) (rest := []) C (c_M_halfBad l D r μ w (xs (6 * t + 1)) 0 hbad H.size) (cwV 2 C.2.2.2.2 (wG_V (fun _ h => h) k_ml_L_81 k_im_M_half k_se_M_half k_in_M k_M_half) rfl rfl rfl (by decide +kernel) ⟨Nat.le_of_ble_eq_true rfl, Nat.le_of_ble_eq_true rfl⟩) ⟨wf_blind, va_recv hKc hPc (ci := 1) (q0 := 0) rfl rfl, wf_pre hPc hKc hDc⟩ rfl rfl hl.1 rfl (lv_room (Nat.le_of_ble_eq_true rfl)) d_law_284 ⟨by show _ ≤ 1041; omega, by show _ ≤ 10127; omega⟩) (fun _ h => h) hS hP hD hA (fun mr w1 H locs em hP hD hS => ?_)
  refine lv_lstore (lv' := [(6, .long (mr)), (5, .int (v_2)), (0, .ref (b)), (1, .ref (q 0)), (2, .ref (r 0)), (3, .ref (o)), (4, .int (nI (6 * t)))]) hx hb d_law_287 hl (by decide) rfl (fun ls hl => ?_)
  refine lv_aload_n hx hb d_law_289 rfl (lv_at hl 4 rfl) ?_
  have hPc := hP.sub (ws' := wM r μ w1) [6, 7, 8, 9, 10, 11] rfl
  have hDc := hD.sub (ws' := wM r μ w1) [6, 7, 8, 9, 10, 11] (by decide) rfl
  have hKc := hK.sub (tys' := tyM μ) [5, 6, 7, 8, 9] rfl
  refine vp_callSi (W.runV (As := []) (rest := []) C (c_M_thrown l D r μ w1 H.size) (cwV 0 C.2.2.2.2 (wG_V (fun _ h => h) k_ml_L_74 k_im_M_thrown k_se_M_thrown k_in_M k_M_thrown) rfl rfl rfl (by decide +kernel) ⟨Nat.le_of_ble_eq_true rfl, Nat.le_of_ble_eq_true rfl⟩) ⟨wf_blind, va_recv hKc hPc (ci := 1) (q0 := 0) rfl rfl, wf_pre hPc hKc hDc⟩ rfl rfl hl.1 rfl (lv_room (Nat.le_of_ble_eq_true rfl)) d_law_290 ⟨by show _ ≤ 1041; omega, by show _ ≤ 10127; omega⟩) (fun tr htr => ?_)
  refine lv_iload hx hb d_law_293 (lv_at hl 1 rfl) ?_
  refine lv_icmp_eq (tgt := 300) hx hb d_law_295 (by decide) (fun c_4 => ?_) (fun c_4 => False.elim (by first | exact absurd (htr.trans (by rw [em, ev_2])) c_4 | exact absurd c_4 (htr.trans (by rw [em, ev_2]))))
  refine lv_iload hx hb d_law_300 (lv_at hl 1 rfl) ?_
  refine lv_if_ne (tgt := 316) hx hb d_law_302 (by decide) (fun c_5 => ?_) (fun c_5 => False.elim (by first | exact absurd (by rw [ev_2]; exact wf_c2_ne hbad) c_5 | exact absurd c_5 (by rw [ev_2]; exact wf_c2_ne hbad)))
  refine lv_goto (tgt := 1124) hx hb d_law_316 (by decide) ?_
  refine W.widen (k := 12 + (t + 1)) (n := 1905 + 6 * (t + 1)) (by omega) (by omega) ?_
  exact back x w1 H locs ls (In_code hIn em) hP hD hS (lv_sub hl [2, 3, 4, 5, 6] rfl)

set_option maxHeartbeats 4000000 in
set_option maxRecDepth 100000 in
theorem law_1_okHi {p : Program} {l : Launch} {e : Env} {s : State} {m : MethodId} {below : List Frame} {meth : Method} {c : Code} {D : va_G} {q r : Nat → Nat} {κ μ : Nat → ClassId} {o : Nat} {ko : ClassId} {b L : Nat} {xs : Nat → Int32} {t : Nat} {x : SX × (Nat → Int64)} {w : SM} {H : Heap} {locs : List Loc} {ls : Array Slot} (hst : l.stackTraces = false) (hL : L ≤ 3072) (C0 : lw_At p s m meth c b L xs) (hAll : wx_All s) (hK : va_K D vwCl (tyL ko κ μ) s) (ht : 6 * t + 6 ≤ L) {ra : Nat} (hra : ra < 8) (era : xs (6 * t + 1) = nI ra) (e0 : ¬ xs (6 * t + 2) = 0) (hIn : wf_In x.1 w) (hP : va_P D vwCl (wL o ko q κ r μ x w) H) (hD : va_D (lwA s) (wL o ko q κ r μ x w)) (hS : va_S (lwA s) s.heap H locs) (hl : lv_has ls 8 [(0, .ref (b)), (1, .ref (q 0)), (2, .ref (r 0)), (3, .ref (o)), (4, .int (nI (6 * t)))]) (back : ∀ (x' : SX × (Nat → Int64)) (w' : SM) (H' : Heap) (locs' : List Loc) (ls' : Array Slot), wf_In x'.1 w' → va_P D vwCl (wL o ko q κ r μ x' w') H' → va_D (lwA s) (wL o ko q κ r μ x' w') → va_S (lwA s) s.heap H' locs' → lv_has ls' 8 [(0, .ref (b)), (1, .ref (q 0)), (2, .ref (r 0)), (3, .ref (o)), (4, .int (nI (6 * t)))] → W p l e room_1 s m #[Value.ref b] below meth c H' locs' (12 + (t + 1)) (1905 + 6 * (t + 1)) (lw_Z below #[Value.ref b] s) (F0 m 1124 ls' [])) : W p l e room_1 s m #[Value.ref b] below meth c H locs (12 + t) (1905 + 6 * t) (lw_Z below #[Value.ref b] s) (F0 m 236 ls []) := by
  obtain ⟨hx, hb, hr, hml, hown, hts0, hX, hbl, hlocks, hgv⟩ := C0
  have hts := fun w h => hts0 w (wG_tbl h)
  have C : CallFix p m c code 8 s #[Value.ref b] wG RL := ⟨hx, hb, hml, hown, hts⟩
  have hA : ∀ z : Nat, s.heap.size ≤ z → lwA s z := fun _ h => h
  have hbA : ¬ lwA s b := Nat.not_le.mpr hbl
  refine lv_aload_n hx hb d_law_236 rfl (lv_at hl 1 rfl) ?_
  refine lv_aload_n hx hb d_law_237 rfl (lv_at hl 0 rfl) ?_
  refine lv_iload hx hb d_law_238 (lv_at hl 4 rfl) ?_
  refine lv_iconst (v := 1) hx hb d_law_240 (by decide) ?_
  refine lv_iadd hx hb d_law_241 ?_
  refine lw_ld hx hb hX hbl hbA hS (k := 6 * t + 1) (nI_add (6 * t) 1) (by omega) hL d_law_242 ?_
  rw [era]
  refine lv_aload_n hx hb d_law_243 rfl (lv_at hl 0 rfl) ?_
  refine lv_iload hx hb d_law_244 (lv_at hl 4 rfl) ?_
  refine lv_iconst (v := 2) hx hb d_law_246 (by decide) ?_
  refine lv_iadd hx hb d_law_247 ?_
  refine lw_ld hx hb hX hbl hbA hS (k := 6 * t + 2) (nI_add (6 * t) 2) (by omega) hL d_law_248 ?_
  refine lv_if_eq (tgt := 256) hx hb d_law_249 (by decide) (fun c_1 => False.elim (by first | exact absurd c_1 (e0) | exact absurd (e0) c_1)) (fun c_1 => ?_)
  refine lv_iconst (v := 1) hx hb d_law_252 (by decide) ?_
  refine lv_goto (tgt := 257) hx hb d_law_253 (by decide) ?_
  refine lv_aload_n hx hb d_law_257 rfl (lv_at hl 3 rfl) ?_
  have hPc := hP.sub (ws' := wXO o ko q κ x) [0, 1, 2, 3, 4, 5] rfl
  have hDc := hD.sub (ws' := wXO o ko q κ x) [0, 1, 2, 3, 4, 5] (by decide) rfl
  have hKc := hK.sub (tys' := tyXO ko κ) [0, 1, 2, 3, 4] rfl
  refine wj_i (ws := wL o ko q κ r μ x w) (wc := wXO o ko q κ x) (wr := wM r μ w) (mkAll := fun z => wL o ko q κ r μ z w) [0, 1, 2, 3, 4, 5] [6, 7, 8, 9, 10, 11] [6, 7, 8, 9, 10, 11, 0, 1, 2, 3, 4, 5] rfl rfl (by decide) (by decide) (by decide) (fun _ => rfl) (wx_runSH (n := 4) (As := [.ref (q 0), .int (nI ra), .int (1), .ref (o)]) (rest := []) C (c_L_half_ok l hst D q κ o ko x ra hra 1 H.size) (wG_SH (fun _ h => h) k_ml_L_78 k_st_L_half k_in_L k_L_half) rfl rfl rfl ⟨rfl, by decide, by decide, by decide +kernel⟩ ⟨Nat.le_of_ble_eq_true rfl, Nat.le_of_ble_eq_true rfl⟩ ⟨wf_blindO, wf_preO hPc hKc hDc hAll (fun z hz => hS.2.1 z hz (Nat.not_le.mpr hz))⟩ rfl hl.1 rfl (Nat.le_of_ble_eq_true rfl) d_law_258 ⟨by show _ ≤ 1041; omega, by show _ ≤ 10127; omega⟩) (fun _ h => h) hS hP hD hA (fun kr x1 H locs ew hP hD hS => ?_)
  obtain ⟨k0, ew⟩ := ew
  subst k0
  refine lv_istore (lv' := [(5, .int (0)), (0, .ref (b)), (1, .ref (q 0)), (2, .ref (r 0)), (3, .ref (o)), (4, .int (nI (6 * t)))]) hx hb d_law_261 hl (by decide) rfl (fun ls hl => ?_)
  refine lv_aload_n hx hb d_law_263 rfl (lv_at hl 3 rfl) ?_
  refine lv_aload_n hx hb d_law_264 rfl (lv_at hl 1 rfl) ?_
  refine lv_iload hx hb d_law_265 (lv_at hl 5 rfl) ?_
  refine lv_iconst (v := 1) hx hb d_law_267 (by decide) ?_
  refine lv_iadd hx hb d_law_268 ?_
  refine lw_ld hx hb hX hbl hbA hS (k := 6 * t + 1) (nI_add (6 * t) 1) (by omega) hL d_law_269 ?_
  rw [era]
  refine lv_aload_n hx hb d_law_270 rfl (lv_at hl 1 rfl) ?_
  refine lv_iload hx hb d_law_271 (lv_at hl 5 rfl) ?_
  refine lv_iconst (v := 2) hx hb d_law_273 (by decide) ?_
  refine lv_iadd hx hb d_law_274 ?_
  refine lw_ld hx hb hX hbl hbA hS (k := 6 * t + 2) (nI_add (6 * t) 2) (by omega) hL d_law_275 ?_
  refine lv_if_eq (tgt := 283) hx hb d_law_276 (by decide) (fun c_2 => False.elim (by first | exact absurd c_2 (e0) | exact absurd (e0) c_2)) (fun c_2 => ?_)
  refine lv_iconst (v := 1) hx hb d_law_279 (by decide) ?_
  refine lv_goto (tgt := 284) hx hb d_law_280 (by decide) ?_
  have hPc := hP.sub (ws' := wM r μ w) [6, 7, 8, 9, 10, 11] rfl
  have hDc := hD.sub (ws' := wM r μ w) [6, 7, 8, 9, 10, 11] (by decide) rfl
  have hKc := hK.sub (tys' := tyM μ) [5, 6, 7, 8, 9] rfl
  refine wj_l (ws := wL o ko q κ r μ x1 w) (wc := wM r μ w) (wr := wXO o ko q κ x1) (mkAll := fun z => wL o ko q κ r μ x1 z) [6, 7, 8, 9, 10, 11] [0, 1, 2, 3, 4, 5] [0, 1, 2, 3, 4, 5, 6, 7, 8, 9, 10, 11] rfl rfl (by decide) (by decide) (by decide) (fun _ => rfl) (va_runV (As := [.int (nI ra), .int (1)]) (rest := []) C (c_M_halfHi l D r μ w ra hra H.size) (cwV 2 C.2.2.2.2 (wG_V (fun _ h => h) k_ml_L_81 k_im_M_half k_se_M_half k_in_M k_M_half) rfl rfl rfl (by decide +kernel) ⟨Nat.le_of_ble_eq_true rfl, Nat.le_of_ble_eq_true rfl⟩) ⟨wf_blind, va_recv hKc hPc (ci := 1) (q0 := 0) rfl rfl, wf_pre hPc hKc hDc⟩ rfl rfl hl.1 rfl (lv_room (Nat.le_of_ble_eq_true rfl)) d_law_284 ⟨by show _ ≤ 1041; omega, by show _ ≤ 10127; omega⟩) (fun _ h => h) hS hP hD hA (fun mr w1 H locs em hP hD hS => ?_)
  have hcode : w1.1 = 0 := by rw [em.1]
  obtain ⟨rv, ⟨ev, ex⟩, ez⟩ := ew
  have hIn1 : wf_In x1.1 w1 := by rw [ex]; exact In_code hIn em.1
  have hz : x1.2 0 = mr := by rw [ez, ev]; exact (In_half hIn hra).1 em.2
  refine lv_lstore (lv' := [(6, .long (mr)), (5, .int (0)), (0, .ref (b)), (1, .ref (q 0)), (2, .ref (r 0)), (3, .ref (o)), (4, .int (nI (6 * t)))]) hx hb d_law_287 hl (by decide) rfl (fun ls hl => ?_)
  refine lv_aload_n hx hb d_law_289 rfl (lv_at hl 4 rfl) ?_
  have hPc := hP.sub (ws' := wM r μ w1) [6, 7, 8, 9, 10, 11] rfl
  have hDc := hD.sub (ws' := wM r μ w1) [6, 7, 8, 9, 10, 11] (by decide) rfl
  have hKc := hK.sub (tys' := tyM μ) [5, 6, 7, 8, 9] rfl
  refine vp_callSi (W.runV (As := []) (rest := []) C (c_M_thrown l D r μ w1 H.size) (cwV 0 C.2.2.2.2 (wG_V (fun _ h => h) k_ml_L_74 k_im_M_thrown k_se_M_thrown k_in_M k_M_thrown) rfl rfl rfl (by decide +kernel) ⟨Nat.le_of_ble_eq_true rfl, Nat.le_of_ble_eq_true rfl⟩) ⟨wf_blind, va_recv hKc hPc (ci := 1) (q0 := 0) rfl rfl, wf_pre hPc hKc hDc⟩ rfl rfl hl.1 rfl (lv_room (Nat.le_of_ble_eq_true rfl)) d_law_290 ⟨by show _ ≤ 1041; omega, by show _ ≤ 10127; omega⟩) (fun tr htr => ?_)
  refine lv_iload hx hb d_law_293 (lv_at hl 1 rfl) ?_
  refine lv_icmp_eq (tgt := 300) hx hb d_law_295 (by decide) (fun c_3 => ?_) (fun c_3 => False.elim (by first | exact absurd (htr.trans hcode) c_3 | exact absurd c_3 (htr.trans hcode)))
  refine lv_iload hx hb d_law_300 (lv_at hl 1 rfl) ?_
  refine lv_if_ne (tgt := 316) hx hb d_law_302 (by decide) (fun c_4 => False.elim (absurd c_4 (by decide))) (fun _ => ?_)
  refine lv_aload_n hx hb d_law_305 rfl (lv_at hl 5 rfl) ?_
  refine lv_iconst (v := 0) hx hb d_law_306 (by decide) ?_
  refine wf_lald C hK hP 5 4 rfl rfl (k := 0) rfl (by decide) (by decide) d_law_307 ?_
  refine lv_lload hx hb d_law_308 (lv_at hl 0 rfl) ?_
  refine W.lcmp hx hb d_law_310 ?_
  refine lv_if_eq (tgt := 316) hx hb d_law_311 (by decide) (fun c_5 => ?_) (fun c_5 => False.elim (by first | exact absurd ((lg_cmp_eq _ _).mpr hz) c_5 | exact absurd c_5 ((lg_cmp_eq _ _).mpr hz)))
  refine lv_goto (tgt := 1124) hx hb d_law_316 (by decide) ?_
  refine W.widen (k := 12 + (t + 1)) (n := 1905 + 6 * (t + 1)) (by omega) (by omega) ?_
  exact back x1 w1 H locs ls hIn1 hP hD hS (lv_sub hl [2, 3, 4, 5, 6] rfl)

set_option maxHeartbeats 4000000 in
set_option maxRecDepth 100000 in
theorem law_1_badHi {p : Program} {l : Launch} {e : Env} {s : State} {m : MethodId} {below : List Frame} {meth : Method} {c : Code} {D : va_G} {q r : Nat → Nat} {κ μ : Nat → ClassId} {o : Nat} {ko : ClassId} {b L : Nat} {xs : Nat → Int32} {t : Nat} {x : SX × (Nat → Int64)} {w : SM} {H : Heap} {locs : List Loc} {ls : Array Slot} (hst : l.stackTraces = false) (hL : L ≤ 3072) (C0 : lw_At p s m meth c b L xs) (hAll : wx_All s) (hK : va_K D vwCl (tyL ko κ μ) s) (ht : 6 * t + 6 ≤ L) (hbad : ((wf_no (xs (6 * t + 1))) || (false)) = true) (e0 : ¬ xs (6 * t + 2) = 0) (hIn : wf_In x.1 w) (hP : va_P D vwCl (wL o ko q κ r μ x w) H) (hD : va_D (lwA s) (wL o ko q κ r μ x w)) (hS : va_S (lwA s) s.heap H locs) (hl : lv_has ls 8 [(0, .ref (b)), (1, .ref (q 0)), (2, .ref (r 0)), (3, .ref (o)), (4, .int (nI (6 * t)))]) (back : ∀ (x' : SX × (Nat → Int64)) (w' : SM) (H' : Heap) (locs' : List Loc) (ls' : Array Slot), wf_In x'.1 w' → va_P D vwCl (wL o ko q κ r μ x' w') H' → va_D (lwA s) (wL o ko q κ r μ x' w') → va_S (lwA s) s.heap H' locs' → lv_has ls' 8 [(0, .ref (b)), (1, .ref (q 0)), (2, .ref (r 0)), (3, .ref (o)), (4, .int (nI (6 * t)))] → W p l e room_1 s m #[Value.ref b] below meth c H' locs' (12 + (t + 1)) (1905 + 6 * (t + 1)) (lw_Z below #[Value.ref b] s) (F0 m 1124 ls' [])) : W p l e room_1 s m #[Value.ref b] below meth c H locs (12 + t) (1905 + 6 * t) (lw_Z below #[Value.ref b] s) (F0 m 236 ls []) := by
  obtain ⟨hx, hb, hr, hml, hown, hts0, hX, hbl, hlocks, hgv⟩ := C0
  have hts := fun w h => hts0 w (wG_tbl h)
  have C : CallFix p m c code 8 s #[Value.ref b] wG RL := ⟨hx, hb, hml, hown, hts⟩
  have hA : ∀ z : Nat, s.heap.size ≤ z → lwA s z := fun _ h => h
  have hbA : ¬ lwA s b := Nat.not_le.mpr hbl
  refine lv_aload_n hx hb d_law_236 rfl (lv_at hl 1 rfl) ?_
  refine lv_aload_n hx hb d_law_237 rfl (lv_at hl 0 rfl) ?_
  refine lv_iload hx hb d_law_238 (lv_at hl 4 rfl) ?_
  refine lv_iconst (v := 1) hx hb d_law_240 (by decide) ?_
  refine lv_iadd hx hb d_law_241 ?_
  refine lw_ld hx hb hX hbl hbA hS (k := 6 * t + 1) (nI_add (6 * t) 1) (by omega) hL d_law_242 ?_
  refine lv_aload_n hx hb d_law_243 rfl (lv_at hl 0 rfl) ?_
  refine lv_iload hx hb d_law_244 (lv_at hl 4 rfl) ?_
  refine lv_iconst (v := 2) hx hb d_law_246 (by decide) ?_
  refine lv_iadd hx hb d_law_247 ?_
  refine lw_ld hx hb hX hbl hbA hS (k := 6 * t + 2) (nI_add (6 * t) 2) (by omega) hL d_law_248 ?_
  refine lv_if_eq (tgt := 256) hx hb d_law_249 (by decide) (fun c_1 => False.elim (by first | exact absurd c_1 (e0) | exact absurd (e0) c_1)) (fun c_1 => ?_)
  refine lv_iconst (v := 1) hx hb d_law_252 (by decide) ?_
  refine lv_goto (tgt := 257) hx hb d_law_253 (by decide) ?_
  refine lv_aload_n hx hb d_law_257 rfl (lv_at hl 3 rfl) ?_
  have hPc := hP.sub (ws' := wXO o ko q κ x) [0, 1, 2, 3, 4, 5] rfl
  have hDc := hD.sub (ws' := wXO o ko q κ x) [0, 1, 2, 3, 4, 5] (by decide) rfl
  have hKc := hK.sub (tys' := tyXO ko κ) [0, 1, 2, 3, 4] rfl
  refine wj_i (ws := wL o ko q κ r μ x w) (wc := wXO o ko q κ x) (wr := wM r μ w) (mkAll := fun z => wL o ko q κ r μ z w) [0, 1, 2, 3, 4, 5] [6, 7, 8, 9, 10, 11] [6, 7, 8, 9, 10, 11, 0, 1, 2, 3, 4, 5] rfl rfl (by decide) (by decide) (by decide) (fun _ => rfl) (wx_runSH (n := 4) (As := [.ref (q 0), .int (xs (6 * t + 1)), .int (1), .ref (o)]) (rest := []) C (c_L_half_bad l hst D q κ o ko x (xs (6 * t + 1)) 1 hbad H.size) (wG_SH (fun _ h => h) k_ml_L_78 k_st_L_half k_in_L k_L_half) rfl rfl rfl ⟨rfl, by decide, by decide, by decide +kernel⟩ ⟨Nat.le_of_ble_eq_true rfl, Nat.le_of_ble_eq_true rfl⟩ ⟨wf_blindO, wf_preO hPc hKc hDc hAll (fun z hz => hS.2.1 z hz (Nat.not_le.mpr hz))⟩ rfl hl.1 rfl (Nat.le_of_ble_eq_true rfl) d_law_258 ⟨by show _ ≤ 1041; omega, by show _ ≤ 10127; omega⟩) (fun _ h => h) hS hP hD hA (fun kr x1 H locs ew hP hD hS => ?_)
  obtain ⟨k0, ew⟩ := ew
  subst k0
  rw [ew] at hP hD
  have hP : va_P D vwCl (wL o ko q κ r μ x w) H := hP
  have hD : va_D (lwA s) (wL o ko q κ r μ x w) := hD
  refine lv_topi (fun v_2 ev_2 => ?_)
  refine lv_istore (lv' := [(5, .int (v_2)), (0, .ref (b)), (1, .ref (q 0)), (2, .ref (r 0)), (3, .ref (o)), (4, .int (nI (6 * t)))]) hx hb d_law_261 hl (by decide) rfl (fun ls hl => ?_)
  refine lv_aload_n hx hb d_law_263 rfl (lv_at hl 3 rfl) ?_
  refine lv_aload_n hx hb d_law_264 rfl (lv_at hl 1 rfl) ?_
  refine lv_iload hx hb d_law_265 (lv_at hl 5 rfl) ?_
  refine lv_iconst (v := 1) hx hb d_law_267 (by decide) ?_
  refine lv_iadd hx hb d_law_268 ?_
  refine lw_ld hx hb hX hbl hbA hS (k := 6 * t + 1) (nI_add (6 * t) 1) (by omega) hL d_law_269 ?_
  refine lv_aload_n hx hb d_law_270 rfl (lv_at hl 1 rfl) ?_
  refine lv_iload hx hb d_law_271 (lv_at hl 5 rfl) ?_
  refine lv_iconst (v := 2) hx hb d_law_273 (by decide) ?_
  refine lv_iadd hx hb d_law_274 ?_
  refine lw_ld hx hb hX hbl hbA hS (k := 6 * t + 2) (nI_add (6 * t) 2) (by omega) hL d_law_275 ?_
  refine lv_if_eq (tgt := 283) hx hb d_law_276 (by decide) (fun c_3 => False.elim (by first | exact absurd c_3 (e0) | exact absurd (e0) c_3)) (fun c_3 => ?_)
  refine lv_iconst (v := 1) hx hb d_law_279 (by decide) ?_
  refine lv_goto (tgt := 284) hx hb d_law_280 (by decide) ?_
  have hPc := hP.sub (ws' := wM r μ w) [6, 7, 8, 9, 10, 11] rfl
  have hDc := hD.sub (ws' := wM r μ w) [6, 7, 8, 9, 10, 11] (by decide) rfl
  have hKc := hK.sub (tys' := tyM μ) [5, 6, 7, 8, 9] rfl
  refine wj_l (ws := wL o ko q κ r μ x w) (wc := wM r μ w) (wr := wXO o ko q κ x) (mkAll := fun z => wL o ko q κ r μ x z) [6, 7, 8, 9, 10, 11] [0, 1, 2, 3, 4, 5] [0, 1, 2, 3, 4, 5, 6, 7, 8, 9, 10, 11] rfl rfl (by decide) (by decide) (by decide) (fun _ => rfl) (va_runV (As := [.int (xs (6 * t + 1)), .int (1)]) (rest := []) C (c_M_halfBad l D r μ w (xs (6 * t + 1)) 1 hbad H.size) (cwV 2 C.2.2.2.2 (wG_V (fun _ h => h) k_ml_L_81 k_im_M_half k_se_M_half k_in_M k_M_half) rfl rfl rfl (by decide +kernel) ⟨Nat.le_of_ble_eq_true rfl, Nat.le_of_ble_eq_true rfl⟩) ⟨wf_blind, va_recv hKc hPc (ci := 1) (q0 := 0) rfl rfl, wf_pre hPc hKc hDc⟩ rfl rfl hl.1 rfl (lv_room (Nat.le_of_ble_eq_true rfl)) d_law_284 ⟨by show _ ≤ 1041; omega, by show _ ≤ 10127; omega⟩) (fun _ h => h) hS hP hD hA (fun mr w1 H locs em hP hD hS => ?_)
  refine lv_lstore (lv' := [(6, .long (mr)), (5, .int (v_2)), (0, .ref (b)), (1, .ref (q 0)), (2, .ref (r 0)), (3, .ref (o)), (4, .int (nI (6 * t)))]) hx hb d_law_287 hl (by decide) rfl (fun ls hl => ?_)
  refine lv_aload_n hx hb d_law_289 rfl (lv_at hl 4 rfl) ?_
  have hPc := hP.sub (ws' := wM r μ w1) [6, 7, 8, 9, 10, 11] rfl
  have hDc := hD.sub (ws' := wM r μ w1) [6, 7, 8, 9, 10, 11] (by decide) rfl
  have hKc := hK.sub (tys' := tyM μ) [5, 6, 7, 8, 9] rfl
  refine vp_callSi (W.runV (As := []) (rest := []) C (c_M_thrown l D r μ w1 H.size) (cwV 0 C.2.2.2.2 (wG_V (fun _ h => h) k_ml_L_74 k_im_M_thrown k_se_M_thrown k_in_M k_M_thrown) rfl rfl rfl (by decide +kernel) ⟨Nat.le_of_ble_eq_true rfl, Nat.le_of_ble_eq_true rfl⟩) ⟨wf_blind, va_recv hKc hPc (ci := 1) (q0 := 0) rfl rfl, wf_pre hPc hKc hDc⟩ rfl rfl hl.1 rfl (lv_room (Nat.le_of_ble_eq_true rfl)) d_law_290 ⟨by show _ ≤ 1041; omega, by show _ ≤ 10127; omega⟩) (fun tr htr => ?_)
  refine lv_iload hx hb d_law_293 (lv_at hl 1 rfl) ?_
  refine lv_icmp_eq (tgt := 300) hx hb d_law_295 (by decide) (fun c_4 => ?_) (fun c_4 => False.elim (by first | exact absurd (htr.trans (by rw [em, ev_2])) c_4 | exact absurd c_4 (htr.trans (by rw [em, ev_2]))))
  refine lv_iload hx hb d_law_300 (lv_at hl 1 rfl) ?_
  refine lv_if_ne (tgt := 316) hx hb d_law_302 (by decide) (fun c_5 => ?_) (fun c_5 => False.elim (by first | exact absurd (by rw [ev_2]; exact wf_c2_ne hbad) c_5 | exact absurd c_5 (by rw [ev_2]; exact wf_c2_ne hbad)))
  refine lv_goto (tgt := 1124) hx hb d_law_316 (by decide) ?_
  refine W.widen (k := 12 + (t + 1)) (n := 1905 + 6 * (t + 1)) (by omega) (by omega) ?_
  exact back x w1 H locs ls (In_code hIn em) hP hD hS (lv_sub hl [2, 3, 4, 5, 6] rfl)

set_option maxHeartbeats 4000000 in
set_option maxRecDepth 100000 in
theorem law_2_ok {p : Program} {l : Launch} {e : Env} {s : State} {m : MethodId} {below : List Frame} {meth : Method} {c : Code} {D : va_G} {q r : Nat → Nat} {κ μ : Nat → ClassId} {o : Nat} {ko : ClassId} {b L : Nat} {xs : Nat → Int32} {t : Nat} {x : SX × (Nat → Int64)} {w : SM} {H : Heap} {locs : List Loc} {ls : Array Slot} (hst : l.stackTraces = false) (hL : L ≤ 3072) (C0 : lw_At p s m meth c b L xs) (hAll : wx_All s) (hK : va_K D vwCl (tyL ko κ μ) s) (ht : 6 * t + 6 ≤ L) {ra : Nat} (hra : ra < 8) (era : xs (6 * t + 1) = nI ra) {rb : Nat} (hrb : rb < 8) (erb : xs (6 * t + 2) = nI rb) {rt : Nat} (hrt : rt < 8) (ert : xs (6 * t + 3) = nI rt) (hIn : wf_In x.1 w) (hP : va_P D vwCl (wL o ko q κ r μ x w) H) (hD : va_D (lwA s) (wL o ko q κ r μ x w)) (hS : va_S (lwA s) s.heap H locs) (hl : lv_has ls 8 [(0, .ref (b)), (1, .ref (q 0)), (2, .ref (r 0)), (3, .ref (o)), (4, .int (nI (6 * t)))]) (back : ∀ (x' : SX × (Nat → Int64)) (w' : SM) (H' : Heap) (locs' : List Loc) (ls' : Array Slot), wf_In x'.1 w' → va_P D vwCl (wL o ko q κ r μ x' w') H' → va_D (lwA s) (wL o ko q κ r μ x' w') → va_S (lwA s) s.heap H' locs' → lv_has ls' 8 [(0, .ref (b)), (1, .ref (q 0)), (2, .ref (r 0)), (3, .ref (o)), (4, .int (nI (6 * t)))] → W p l e room_1 s m #[Value.ref b] below meth c H' locs' (12 + (t + 1)) (1905 + 6 * (t + 1)) (lw_Z below #[Value.ref b] s) (F0 m 1124 ls' [])) : W p l e room_1 s m #[Value.ref b] below meth c H locs (12 + t) (1905 + 6 * t) (lw_Z below #[Value.ref b] s) (F0 m 319 ls []) := by
  obtain ⟨hx, hb, hr, hml, hown, hts0, hX, hbl, hlocks, hgv⟩ := C0
  have hts := fun w h => hts0 w (wG_tbl h)
  have C : CallFix p m c code 8 s #[Value.ref b] wG RL := ⟨hx, hb, hml, hown, hts⟩
  have hA : ∀ z : Nat, s.heap.size ≤ z → lwA s z := fun _ h => h
  have hbA : ¬ lwA s b := Nat.not_le.mpr hbl
  refine lv_aload_n hx hb d_law_319 rfl (lv_at hl 1 rfl) ?_
  refine lv_aload_n hx hb d_law_320 rfl (lv_at hl 0 rfl) ?_
  refine lv_iload hx hb d_law_321 (lv_at hl 4 rfl) ?_
  refine lv_iconst (v := 1) hx hb d_law_323 (by decide) ?_
  refine lv_iadd hx hb d_law_324 ?_
  refine lw_ld hx hb hX hbl hbA hS (k := 6 * t + 1) (nI_add (6 * t) 1) (by omega) hL d_law_325 ?_
  rw [era]
  refine lv_aload_n hx hb d_law_326 rfl (lv_at hl 0 rfl) ?_
  refine lv_iload hx hb d_law_327 (lv_at hl 4 rfl) ?_
  refine lv_iconst (v := 2) hx hb d_law_329 (by decide) ?_
  refine lv_iadd hx hb d_law_330 ?_
  refine lw_ld hx hb hX hbl hbA hS (k := 6 * t + 2) (nI_add (6 * t) 2) (by omega) hL d_law_331 ?_
  rw [erb]
  refine lv_aload_n hx hb d_law_332 rfl (lv_at hl 0 rfl) ?_
  refine lv_iload hx hb d_law_333 (lv_at hl 4 rfl) ?_
  refine lv_iconst (v := 3) hx hb d_law_335 (by decide) ?_
  refine lv_iadd hx hb d_law_336 ?_
  refine lw_ld hx hb hX hbl hbA hS (k := 6 * t + 3) (nI_add (6 * t) 3) (by omega) hL d_law_337 ?_
  rw [ert]
  refine lv_aload_n hx hb d_law_338 rfl (lv_at hl 3 rfl) ?_
  have hPc := hP.sub (ws' := wXO o ko q κ x) [0, 1, 2, 3, 4, 5] rfl
  have hDc := hD.sub (ws' := wXO o ko q κ x) [0, 1, 2, 3, 4, 5] (by decide) rfl
  have hKc := hK.sub (tys' := tyXO ko κ) [0, 1, 2, 3, 4] rfl
  refine wj_i (ws := wL o ko q κ r μ x w) (wc := wXO o ko q κ x) (wr := wM r μ w) (mkAll := fun z => wL o ko q κ r μ z w) [0, 1, 2, 3, 4, 5] [6, 7, 8, 9, 10, 11] [6, 7, 8, 9, 10, 11, 0, 1, 2, 3, 4, 5] rfl rfl (by decide) (by decide) (by decide) (fun _ => rfl) (wx_runSH (n := 5) (As := [.ref (q 0), .int (nI ra), .int (nI rb), .int (nI rt), .ref (o)]) (rest := []) C (c_L_add_ok l hst D q κ o ko x ra hra rb hrb rt hrt H.size) (wG_SH (fun _ h => h) k_ml_L_82 k_st_L_add k_in_L k_L_add) rfl rfl rfl ⟨rfl, by decide, by decide, by decide +kernel⟩ ⟨Nat.le_of_ble_eq_true rfl, Nat.le_of_ble_eq_true rfl⟩ ⟨wf_blindO, wf_preO hPc hKc hDc hAll (fun z hz => hS.2.1 z hz (Nat.not_le.mpr hz))⟩ rfl hl.1 rfl (Nat.le_of_ble_eq_true rfl) d_law_339 ⟨by show _ ≤ 1041; omega, by show _ ≤ 10127; omega⟩) (fun _ h => h) hS hP hD hA (fun kr x1 H locs ew hP hD hS => ?_)
  obtain ⟨k0, ew⟩ := ew
  subst k0
  refine lv_istore (lv' := [(5, .int (0)), (0, .ref (b)), (1, .ref (q 0)), (2, .ref (r 0)), (3, .ref (o)), (4, .int (nI (6 * t)))]) hx hb d_law_342 hl (by decide) rfl (fun ls hl => ?_)
  refine lv_aload_n hx hb d_law_344 rfl (lv_at hl 3 rfl) ?_
  refine lv_aload_n hx hb d_law_345 rfl (lv_at hl 1 rfl) ?_
  refine lv_iload hx hb d_law_346 (lv_at hl 5 rfl) ?_
  refine lv_iconst (v := 1) hx hb d_law_348 (by decide) ?_
  refine lv_iadd hx hb d_law_349 ?_
  refine lw_ld hx hb hX hbl hbA hS (k := 6 * t + 1) (nI_add (6 * t) 1) (by omega) hL d_law_350 ?_
  rw [era]
  refine lv_aload_n hx hb d_law_351 rfl (lv_at hl 1 rfl) ?_
  refine lv_iload hx hb d_law_352 (lv_at hl 5 rfl) ?_
  refine lv_iconst (v := 2) hx hb d_law_354 (by decide) ?_
  refine lv_iadd hx hb d_law_355 ?_
  refine lw_ld hx hb hX hbl hbA hS (k := 6 * t + 2) (nI_add (6 * t) 2) (by omega) hL d_law_356 ?_
  rw [erb]
  refine lv_aload_n hx hb d_law_357 rfl (lv_at hl 1 rfl) ?_
  refine lv_iload hx hb d_law_358 (lv_at hl 5 rfl) ?_
  refine lv_iconst (v := 3) hx hb d_law_360 (by decide) ?_
  refine lv_iadd hx hb d_law_361 ?_
  refine lw_ld hx hb hX hbl hbA hS (k := 6 * t + 3) (nI_add (6 * t) 3) (by omega) hL d_law_362 ?_
  rw [ert]
  have hPc := hP.sub (ws' := wM r μ w) [6, 7, 8, 9, 10, 11] rfl
  have hDc := hD.sub (ws' := wM r μ w) [6, 7, 8, 9, 10, 11] (by decide) rfl
  have hKc := hK.sub (tys' := tyM μ) [5, 6, 7, 8, 9] rfl
  refine wj_i (ws := wL o ko q κ r μ x1 w) (wc := wM r μ w) (wr := wXO o ko q κ x1) (mkAll := fun z => wL o ko q κ r μ x1 z) [6, 7, 8, 9, 10, 11] [0, 1, 2, 3, 4, 5] [0, 1, 2, 3, 4, 5, 6, 7, 8, 9, 10, 11] rfl rfl (by decide) (by decide) (by decide) (fun _ => rfl) (va_runV (As := [.int (nI ra), .int (nI rb), .int (nI rt)]) (rest := []) C (c_M_add l D r μ w ra hra rb hrb rt hrt H.size) (cwV 3 C.2.2.2.2 (wG_V (fun _ h => h) k_ml_L_85 k_im_M_add k_se_M_add k_in_M k_M_add) rfl rfl rfl (by decide +kernel) ⟨Nat.le_of_ble_eq_true rfl, Nat.le_of_ble_eq_true rfl⟩) ⟨wf_blind, va_recv hKc hPc (ci := 1) (q0 := 0) rfl rfl, wf_pre hPc hKc hDc⟩ rfl rfl hl.1 rfl (lv_room (Nat.le_of_ble_eq_true rfl)) d_law_363 ⟨by show _ ≤ 1041; omega, by show _ ≤ 10127; omega⟩) (fun _ h => h) hS hP hD hA (fun mr w1 H locs em hP hD hS => ?_)
  obtain ⟨rv, ⟨ev, ex⟩, ez⟩ := ew
  obtain ⟨em0, em⟩ := em
  have hcode := em.1
  rw [hIn.1 ra hra, hIn.1 rb hrb] at ev ex
  have hIn1 : wf_In x1.1 w1 := In_st hIn ex em rfl
  have hz : x1.2 0 = wf_zl mr := by rw [ez, ev, em0]
  refine lv_istore (lv' := [(6, .int (mr)), (5, .int (0)), (0, .ref (b)), (1, .ref (q 0)), (2, .ref (r 0)), (3, .ref (o)), (4, .int (nI (6 * t)))]) hx hb d_law_366 hl (by decide) rfl (fun ls hl => ?_)
  refine lv_aload_n hx hb d_law_368 rfl (lv_at hl 4 rfl) ?_
  have hPc := hP.sub (ws' := wM r μ w1) [6, 7, 8, 9, 10, 11] rfl
  have hDc := hD.sub (ws' := wM r μ w1) [6, 7, 8, 9, 10, 11] (by decide) rfl
  have hKc := hK.sub (tys' := tyM μ) [5, 6, 7, 8, 9] rfl
  refine vp_callSi (W.runV (As := []) (rest := []) C (c_M_thrown l D r μ w1 H.size) (cwV 0 C.2.2.2.2 (wG_V (fun _ h => h) k_ml_L_74 k_im_M_thrown k_se_M_thrown k_in_M k_M_thrown) rfl rfl rfl (by decide +kernel) ⟨Nat.le_of_ble_eq_true rfl, Nat.le_of_ble_eq_true rfl⟩) ⟨wf_blind, va_recv hKc hPc (ci := 1) (q0 := 0) rfl rfl, wf_pre hPc hKc hDc⟩ rfl rfl hl.1 rfl (lv_room (Nat.le_of_ble_eq_true rfl)) d_law_369 ⟨by show _ ≤ 1041; omega, by show _ ≤ 10127; omega⟩) (fun tr htr => ?_)
  refine lv_iload hx hb d_law_372 (lv_at hl 1 rfl) ?_
  refine lv_icmp_eq (tgt := 379) hx hb d_law_374 (by decide) (fun c_1 => ?_) (fun c_1 => False.elim (by first | exact absurd (htr.trans hcode) c_1 | exact absurd c_1 (htr.trans hcode)))
  refine lv_iload hx hb d_law_379 (lv_at hl 1 rfl) ?_
  refine lv_if_ne (tgt := 403) hx hb d_law_381 (by decide) (fun c_2 => False.elim (absurd c_2 (by decide))) (fun _ => ?_)
  refine lv_aload_n hx hb d_law_384 rfl (lv_at hl 5 rfl) ?_
  refine lv_iconst (v := 0) hx hb d_law_385 (by decide) ?_
  refine wf_lald C hK hP 5 4 rfl rfl (k := 0) rfl (by decide) (by decide) d_law_386 ?_
  refine lv_iload hx hb d_law_387 (lv_at hl 0 rfl) ?_
  refine lv_if_eq (tgt := 396) hx hb d_law_389 (by decide) (fun c_3 => ?_) (fun c_3 => ?_)
  · have hz1 : x1.2 0 = 0 := hz.trans (by unfold wf_zl; rw [if_pos c_3])
    refine lv_lconst (v := 0) hx hb d_law_396 (by decide) ?_
    refine W.lcmp hx hb d_law_397 ?_
    refine lv_if_eq (tgt := 403) hx hb d_law_398 (by decide) (fun c_4 => ?_) (fun c_4 => False.elim (by first | exact absurd ((lg_cmp_eq _ _).mpr hz1) c_4 | exact absurd c_4 ((lg_cmp_eq _ _).mpr hz1)))
    refine lv_goto (tgt := 1124) hx hb d_law_403 (by decide) ?_
    refine W.widen (k := 12 + (t + 1)) (n := 1905 + 6 * (t + 1)) (by omega) (by omega) ?_
    exact back x1 w1 H locs ls hIn1 hP hD hS (lv_sub hl [2, 3, 4, 5, 6] rfl)
  · have hz1 : x1.2 0 = 1 := hz.trans (by unfold wf_zl; rw [if_neg c_3])
    refine lv_lconst (v := 1) hx hb d_law_392 (by decide) ?_
    refine lv_goto (tgt := 397) hx hb d_law_393 (by decide) ?_
    refine W.lcmp hx hb d_law_397 ?_
    refine lv_if_eq (tgt := 403) hx hb d_law_398 (by decide) (fun c_5 => ?_) (fun c_5 => False.elim (by first | exact absurd ((lg_cmp_eq _ _).mpr hz1) c_5 | exact absurd c_5 ((lg_cmp_eq _ _).mpr hz1)))
    refine lv_goto (tgt := 1124) hx hb d_law_403 (by decide) ?_
    refine W.widen (k := 12 + (t + 1)) (n := 1905 + 6 * (t + 1)) (by omega) (by omega) ?_
    exact back x1 w1 H locs ls hIn1 hP hD hS (lv_sub hl [2, 3, 4, 5, 6] rfl)

set_option maxHeartbeats 4000000 in
set_option maxRecDepth 100000 in
theorem law_2_bad {p : Program} {l : Launch} {e : Env} {s : State} {m : MethodId} {below : List Frame} {meth : Method} {c : Code} {D : va_G} {q r : Nat → Nat} {κ μ : Nat → ClassId} {o : Nat} {ko : ClassId} {b L : Nat} {xs : Nat → Int32} {t : Nat} {x : SX × (Nat → Int64)} {w : SM} {H : Heap} {locs : List Loc} {ls : Array Slot} (hst : l.stackTraces = false) (hL : L ≤ 3072) (C0 : lw_At p s m meth c b L xs) (hAll : wx_All s) (hK : va_K D vwCl (tyL ko κ μ) s) (ht : 6 * t + 6 ≤ L) (hbad : ((wf_no (xs (6 * t + 1)) || wf_no (xs (6 * t + 2)) || wf_no (xs (6 * t + 3))) || (false)) = true) (hIn : wf_In x.1 w) (hP : va_P D vwCl (wL o ko q κ r μ x w) H) (hD : va_D (lwA s) (wL o ko q κ r μ x w)) (hS : va_S (lwA s) s.heap H locs) (hl : lv_has ls 8 [(0, .ref (b)), (1, .ref (q 0)), (2, .ref (r 0)), (3, .ref (o)), (4, .int (nI (6 * t)))]) (back : ∀ (x' : SX × (Nat → Int64)) (w' : SM) (H' : Heap) (locs' : List Loc) (ls' : Array Slot), wf_In x'.1 w' → va_P D vwCl (wL o ko q κ r μ x' w') H' → va_D (lwA s) (wL o ko q κ r μ x' w') → va_S (lwA s) s.heap H' locs' → lv_has ls' 8 [(0, .ref (b)), (1, .ref (q 0)), (2, .ref (r 0)), (3, .ref (o)), (4, .int (nI (6 * t)))] → W p l e room_1 s m #[Value.ref b] below meth c H' locs' (12 + (t + 1)) (1905 + 6 * (t + 1)) (lw_Z below #[Value.ref b] s) (F0 m 1124 ls' [])) : W p l e room_1 s m #[Value.ref b] below meth c H locs (12 + t) (1905 + 6 * t) (lw_Z below #[Value.ref b] s) (F0 m 319 ls []) := by
  obtain ⟨hx, hb, hr, hml, hown, hts0, hX, hbl, hlocks, hgv⟩ := C0
  have hts := fun w h => hts0 w (wG_tbl h)
  have C : CallFix p m c code 8 s #[Value.ref b] wG RL := ⟨hx, hb, hml, hown, hts⟩
  have hA : ∀ z : Nat, s.heap.size ≤ z → lwA s z := fun _ h => h
  have hbA : ¬ lwA s b := Nat.not_le.mpr hbl
  refine lv_aload_n hx hb d_law_319 rfl (lv_at hl 1 rfl) ?_
  refine lv_aload_n hx hb d_law_320 rfl (lv_at hl 0 rfl) ?_
  refine lv_iload hx hb d_law_321 (lv_at hl 4 rfl) ?_
  refine lv_iconst (v := 1) hx hb d_law_323 (by decide) ?_
  refine lv_iadd hx hb d_law_324 ?_
  refine lw_ld hx hb hX hbl hbA hS (k := 6 * t + 1) (nI_add (6 * t) 1) (by omega) hL d_law_325 ?_
  refine lv_aload_n hx hb d_law_326 rfl (lv_at hl 0 rfl) ?_
  refine lv_iload hx hb d_law_327 (lv_at hl 4 rfl) ?_
  refine lv_iconst (v := 2) hx hb d_law_329 (by decide) ?_
  refine lv_iadd hx hb d_law_330 ?_
  refine lw_ld hx hb hX hbl hbA hS (k := 6 * t + 2) (nI_add (6 * t) 2) (by omega) hL d_law_331 ?_
  refine lv_aload_n hx hb d_law_332 rfl (lv_at hl 0 rfl) ?_
  refine lv_iload hx hb d_law_333 (lv_at hl 4 rfl) ?_
  refine lv_iconst (v := 3) hx hb d_law_335 (by decide) ?_
  refine lv_iadd hx hb d_law_336 ?_
  refine lw_ld hx hb hX hbl hbA hS (k := 6 * t + 3) (nI_add (6 * t) 3) (by omega) hL d_law_337 ?_
  refine lv_aload_n hx hb d_law_338 rfl (lv_at hl 3 rfl) ?_
  have hPc := hP.sub (ws' := wXO o ko q κ x) [0, 1, 2, 3, 4, 5] rfl
  have hDc := hD.sub (ws' := wXO o ko q κ x) [0, 1, 2, 3, 4, 5] (by decide) rfl
  have hKc := hK.sub (tys' := tyXO ko κ) [0, 1, 2, 3, 4] rfl
  refine wj_i (ws := wL o ko q κ r μ x w) (wc := wXO o ko q κ x) (wr := wM r μ w) (mkAll := fun z => wL o ko q κ r μ z w) [0, 1, 2, 3, 4, 5] [6, 7, 8, 9, 10, 11] [6, 7, 8, 9, 10, 11, 0, 1, 2, 3, 4, 5] rfl rfl (by decide) (by decide) (by decide) (fun _ => rfl) (wx_runSH (n := 5) (As := [.ref (q 0), .int (xs (6 * t + 1)), .int (xs (6 * t + 2)), .int (xs (6 * t + 3)), .ref (o)]) (rest := []) C (c_L_add_bad l hst D q κ o ko x (xs (6 * t + 1)) (xs (6 * t + 2)) (xs (6 * t + 3)) hbad H.size) (wG_SH (fun _ h => h) k_ml_L_82 k_st_L_add k_in_L k_L_add) rfl rfl rfl ⟨rfl, by decide, by decide, by decide +kernel⟩ ⟨Nat.le_of_ble_eq_true rfl, Nat.le_of_ble_eq_true rfl⟩ ⟨wf_blindO, wf_preO hPc hKc hDc hAll (fun z hz => hS.2.1 z hz (Nat.not_le.mpr hz))⟩ rfl hl.1 rfl (Nat.le_of_ble_eq_true rfl) d_law_339 ⟨by show _ ≤ 1041; omega, by show _ ≤ 10127; omega⟩) (fun _ h => h) hS hP hD hA (fun kr x1 H locs ew hP hD hS => ?_)
  obtain ⟨k0, ew⟩ := ew
  subst k0
  rw [ew] at hP hD
  have hP : va_P D vwCl (wL o ko q κ r μ x w) H := hP
  have hD : va_D (lwA s) (wL o ko q κ r μ x w) := hD
  refine lv_topi (fun v_1 ev_1 => ?_)
  refine lv_istore (lv' := [(5, .int (v_1)), (0, .ref (b)), (1, .ref (q 0)), (2, .ref (r 0)), (3, .ref (o)), (4, .int (nI (6 * t)))]) hx hb d_law_342 hl (by decide) rfl (fun ls hl => ?_)
  refine lv_aload_n hx hb d_law_344 rfl (lv_at hl 3 rfl) ?_
  refine lv_aload_n hx hb d_law_345 rfl (lv_at hl 1 rfl) ?_
  refine lv_iload hx hb d_law_346 (lv_at hl 5 rfl) ?_
  refine lv_iconst (v := 1) hx hb d_law_348 (by decide) ?_
  refine lv_iadd hx hb d_law_349 ?_
  refine lw_ld hx hb hX hbl hbA hS (k := 6 * t + 1) (nI_add (6 * t) 1) (by omega) hL d_law_350 ?_
  refine lv_aload_n hx hb d_law_351 rfl (lv_at hl 1 rfl) ?_
  refine lv_iload hx hb d_law_352 (lv_at hl 5 rfl) ?_
  refine lv_iconst (v := 2) hx hb d_law_354 (by decide) ?_
  refine lv_iadd hx hb d_law_355 ?_
  refine lw_ld hx hb hX hbl hbA hS (k := 6 * t + 2) (nI_add (6 * t) 2) (by omega) hL d_law_356 ?_
  refine lv_aload_n hx hb d_law_357 rfl (lv_at hl 1 rfl) ?_
  refine lv_iload hx hb d_law_358 (lv_at hl 5 rfl) ?_
  refine lv_iconst (v := 3) hx hb d_law_360 (by decide) ?_
  refine lv_iadd hx hb d_law_361 ?_
  refine lw_ld hx hb hX hbl hbA hS (k := 6 * t + 3) (nI_add (6 * t) 3) (by omega) hL d_law_362 ?_
  have hPc := hP.sub (ws' := wM r μ w) [6, 7, 8, 9, 10, 11] rfl
  have hDc := hD.sub (ws' := wM r μ w) [6, 7, 8, 9, 10, 11] (by decide) rfl
  have hKc := hK.sub (tys' := tyM μ) [5, 6, 7, 8, 9] rfl
  refine wj_i (ws := wL o ko q κ r μ x w) (wc := wM r μ w) (wr := wXO o ko q κ x) (mkAll := fun z => wL o ko q κ r μ x z) [6, 7, 8, 9, 10, 11] [0, 1, 2, 3, 4, 5] [0, 1, 2, 3, 4, 5, 6, 7, 8, 9, 10, 11] rfl rfl (by decide) (by decide) (by decide) (fun _ => rfl) (va_runV (As := [.int (xs (6 * t + 1)), .int (xs (6 * t + 2)), .int (xs (6 * t + 3))]) (rest := []) C (c_M_addBad l D r μ w (xs (6 * t + 1)) (xs (6 * t + 2)) (xs (6 * t + 3)) hbad H.size) (cwV 3 C.2.2.2.2 (wG_V (fun _ h => h) k_ml_L_85 k_im_M_add k_se_M_add k_in_M k_M_add) rfl rfl rfl (by decide +kernel) ⟨Nat.le_of_ble_eq_true rfl, Nat.le_of_ble_eq_true rfl⟩) ⟨wf_blind, va_recv hKc hPc (ci := 1) (q0 := 0) rfl rfl, wf_pre hPc hKc hDc⟩ rfl rfl hl.1 rfl (lv_room (Nat.le_of_ble_eq_true rfl)) d_law_363 ⟨by show _ ≤ 1041; omega, by show _ ≤ 10127; omega⟩) (fun _ h => h) hS hP hD hA (fun mr w1 H locs em hP hD hS => ?_)
  refine lv_istore (lv' := [(6, .int (mr)), (5, .int (v_1)), (0, .ref (b)), (1, .ref (q 0)), (2, .ref (r 0)), (3, .ref (o)), (4, .int (nI (6 * t)))]) hx hb d_law_366 hl (by decide) rfl (fun ls hl => ?_)
  refine lv_aload_n hx hb d_law_368 rfl (lv_at hl 4 rfl) ?_
  have hPc := hP.sub (ws' := wM r μ w1) [6, 7, 8, 9, 10, 11] rfl
  have hDc := hD.sub (ws' := wM r μ w1) [6, 7, 8, 9, 10, 11] (by decide) rfl
  have hKc := hK.sub (tys' := tyM μ) [5, 6, 7, 8, 9] rfl
  refine vp_callSi (W.runV (As := []) (rest := []) C (c_M_thrown l D r μ w1 H.size) (cwV 0 C.2.2.2.2 (wG_V (fun _ h => h) k_ml_L_74 k_im_M_thrown k_se_M_thrown k_in_M k_M_thrown) rfl rfl rfl (by decide +kernel) ⟨Nat.le_of_ble_eq_true rfl, Nat.le_of_ble_eq_true rfl⟩) ⟨wf_blind, va_recv hKc hPc (ci := 1) (q0 := 0) rfl rfl, wf_pre hPc hKc hDc⟩ rfl rfl hl.1 rfl (lv_room (Nat.le_of_ble_eq_true rfl)) d_law_369 ⟨by show _ ≤ 1041; omega, by show _ ≤ 10127; omega⟩) (fun tr htr => ?_)
  refine lv_iload hx hb d_law_372 (lv_at hl 1 rfl) ?_
  refine lv_icmp_eq (tgt := 379) hx hb d_law_374 (by decide) (fun c_2 => ?_) (fun c_2 => False.elim (by first | exact absurd (htr.trans (by rw [em, ev_1])) c_2 | exact absurd c_2 (htr.trans (by rw [em, ev_1]))))
  refine lv_iload hx hb d_law_379 (lv_at hl 1 rfl) ?_
  refine lv_if_ne (tgt := 403) hx hb d_law_381 (by decide) (fun c_3 => ?_) (fun c_3 => False.elim (by first | exact absurd (by rw [ev_1]; exact wf_c2_ne hbad) c_3 | exact absurd c_3 (by rw [ev_1]; exact wf_c2_ne hbad)))
  refine lv_goto (tgt := 1124) hx hb d_law_403 (by decide) ?_
  refine W.widen (k := 12 + (t + 1)) (n := 1905 + 6 * (t + 1)) (by omega) (by omega) ?_
  exact back x w1 H locs ls (In_code hIn em) hP hD hS (lv_sub hl [2, 3, 4, 5, 6] rfl)

set_option maxHeartbeats 4000000 in
set_option maxRecDepth 100000 in
theorem law_3_ok {p : Program} {l : Launch} {e : Env} {s : State} {m : MethodId} {below : List Frame} {meth : Method} {c : Code} {D : va_G} {q r : Nat → Nat} {κ μ : Nat → ClassId} {o : Nat} {ko : ClassId} {b L : Nat} {xs : Nat → Int32} {t : Nat} {x : SX × (Nat → Int64)} {w : SM} {H : Heap} {locs : List Loc} {ls : Array Slot} (hst : l.stackTraces = false) (hL : L ≤ 3072) (C0 : lw_At p s m meth c b L xs) (hAll : wx_All s) (hK : va_K D vwCl (tyL ko κ μ) s) (ht : 6 * t + 6 ≤ L) {ra : Nat} (hra : ra < 8) (era : xs (6 * t + 1) = nI ra) {rb : Nat} (hrb : rb < 8) (erb : xs (6 * t + 2) = nI rb) {rt : Nat} (hrt : rt < 8) (ert : xs (6 * t + 3) = nI rt) (hIn : wf_In x.1 w) (hP : va_P D vwCl (wL o ko q κ r μ x w) H) (hD : va_D (lwA s) (wL o ko q κ r μ x w)) (hS : va_S (lwA s) s.heap H locs) (hl : lv_has ls 8 [(0, .ref (b)), (1, .ref (q 0)), (2, .ref (r 0)), (3, .ref (o)), (4, .int (nI (6 * t)))]) (back : ∀ (x' : SX × (Nat → Int64)) (w' : SM) (H' : Heap) (locs' : List Loc) (ls' : Array Slot), wf_In x'.1 w' → va_P D vwCl (wL o ko q κ r μ x' w') H' → va_D (lwA s) (wL o ko q κ r μ x' w') → va_S (lwA s) s.heap H' locs' → lv_has ls' 8 [(0, .ref (b)), (1, .ref (q 0)), (2, .ref (r 0)), (3, .ref (o)), (4, .int (nI (6 * t)))] → W p l e room_1 s m #[Value.ref b] below meth c H' locs' (12 + (t + 1)) (1905 + 6 * (t + 1)) (lw_Z below #[Value.ref b] s) (F0 m 1124 ls' [])) : W p l e room_1 s m #[Value.ref b] below meth c H locs (12 + t) (1905 + 6 * t) (lw_Z below #[Value.ref b] s) (F0 m 406 ls []) := by
  obtain ⟨hx, hb, hr, hml, hown, hts0, hX, hbl, hlocks, hgv⟩ := C0
  have hts := fun w h => hts0 w (wG_tbl h)
  have C : CallFix p m c code 8 s #[Value.ref b] wG RL := ⟨hx, hb, hml, hown, hts⟩
  have hA : ∀ z : Nat, s.heap.size ≤ z → lwA s z := fun _ h => h
  have hbA : ¬ lwA s b := Nat.not_le.mpr hbl
  refine lv_aload_n hx hb d_law_406 rfl (lv_at hl 1 rfl) ?_
  refine lv_aload_n hx hb d_law_407 rfl (lv_at hl 0 rfl) ?_
  refine lv_iload hx hb d_law_408 (lv_at hl 4 rfl) ?_
  refine lv_iconst (v := 1) hx hb d_law_410 (by decide) ?_
  refine lv_iadd hx hb d_law_411 ?_
  refine lw_ld hx hb hX hbl hbA hS (k := 6 * t + 1) (nI_add (6 * t) 1) (by omega) hL d_law_412 ?_
  rw [era]
  refine lv_aload_n hx hb d_law_413 rfl (lv_at hl 0 rfl) ?_
  refine lv_iload hx hb d_law_414 (lv_at hl 4 rfl) ?_
  refine lv_iconst (v := 2) hx hb d_law_416 (by decide) ?_
  refine lv_iadd hx hb d_law_417 ?_
  refine lw_ld hx hb hX hbl hbA hS (k := 6 * t + 2) (nI_add (6 * t) 2) (by omega) hL d_law_418 ?_
  rw [erb]
  refine lv_aload_n hx hb d_law_419 rfl (lv_at hl 0 rfl) ?_
  refine lv_iload hx hb d_law_420 (lv_at hl 4 rfl) ?_
  refine lv_iconst (v := 3) hx hb d_law_422 (by decide) ?_
  refine lv_iadd hx hb d_law_423 ?_
  refine lw_ld hx hb hX hbl hbA hS (k := 6 * t + 3) (nI_add (6 * t) 3) (by omega) hL d_law_424 ?_
  rw [ert]
  refine lv_aload_n hx hb d_law_425 rfl (lv_at hl 3 rfl) ?_
  have hPc := hP.sub (ws' := wXO o ko q κ x) [0, 1, 2, 3, 4, 5] rfl
  have hDc := hD.sub (ws' := wXO o ko q κ x) [0, 1, 2, 3, 4, 5] (by decide) rfl
  have hKc := hK.sub (tys' := tyXO ko κ) [0, 1, 2, 3, 4] rfl
  refine wj_i (ws := wL o ko q κ r μ x w) (wc := wXO o ko q κ x) (wr := wM r μ w) (mkAll := fun z => wL o ko q κ r μ z w) [0, 1, 2, 3, 4, 5] [6, 7, 8, 9, 10, 11] [6, 7, 8, 9, 10, 11, 0, 1, 2, 3, 4, 5] rfl rfl (by decide) (by decide) (by decide) (fun _ => rfl) (wx_runSH (n := 5) (As := [.ref (q 0), .int (nI ra), .int (nI rb), .int (nI rt), .ref (o)]) (rest := []) C (c_L_subtract_ok l hst D q κ o ko x ra hra rb hrb rt hrt H.size) (wG_SH (fun _ h => h) k_ml_L_86 k_st_L_subtract k_in_L k_L_subtract) rfl rfl rfl ⟨rfl, by decide, by decide, by decide +kernel⟩ ⟨Nat.le_of_ble_eq_true rfl, Nat.le_of_ble_eq_true rfl⟩ ⟨wf_blindO, wf_preO hPc hKc hDc hAll (fun z hz => hS.2.1 z hz (Nat.not_le.mpr hz))⟩ rfl hl.1 rfl (Nat.le_of_ble_eq_true rfl) d_law_426 ⟨by show _ ≤ 1041; omega, by show _ ≤ 10127; omega⟩) (fun _ h => h) hS hP hD hA (fun kr x1 H locs ew hP hD hS => ?_)
  obtain ⟨k0, ew⟩ := ew
  subst k0
  refine lv_istore (lv' := [(5, .int (0)), (0, .ref (b)), (1, .ref (q 0)), (2, .ref (r 0)), (3, .ref (o)), (4, .int (nI (6 * t)))]) hx hb d_law_429 hl (by decide) rfl (fun ls hl => ?_)
  refine lv_aload_n hx hb d_law_431 rfl (lv_at hl 3 rfl) ?_
  refine lv_aload_n hx hb d_law_432 rfl (lv_at hl 1 rfl) ?_
  refine lv_iload hx hb d_law_433 (lv_at hl 5 rfl) ?_
  refine lv_iconst (v := 1) hx hb d_law_435 (by decide) ?_
  refine lv_iadd hx hb d_law_436 ?_
  refine lw_ld hx hb hX hbl hbA hS (k := 6 * t + 1) (nI_add (6 * t) 1) (by omega) hL d_law_437 ?_
  rw [era]
  refine lv_aload_n hx hb d_law_438 rfl (lv_at hl 1 rfl) ?_
  refine lv_iload hx hb d_law_439 (lv_at hl 5 rfl) ?_
  refine lv_iconst (v := 2) hx hb d_law_441 (by decide) ?_
  refine lv_iadd hx hb d_law_442 ?_
  refine lw_ld hx hb hX hbl hbA hS (k := 6 * t + 2) (nI_add (6 * t) 2) (by omega) hL d_law_443 ?_
  rw [erb]
  refine lv_aload_n hx hb d_law_444 rfl (lv_at hl 1 rfl) ?_
  refine lv_iload hx hb d_law_445 (lv_at hl 5 rfl) ?_
  refine lv_iconst (v := 3) hx hb d_law_447 (by decide) ?_
  refine lv_iadd hx hb d_law_448 ?_
  refine lw_ld hx hb hX hbl hbA hS (k := 6 * t + 3) (nI_add (6 * t) 3) (by omega) hL d_law_449 ?_
  rw [ert]
  have hPc := hP.sub (ws' := wM r μ w) [6, 7, 8, 9, 10, 11] rfl
  have hDc := hD.sub (ws' := wM r μ w) [6, 7, 8, 9, 10, 11] (by decide) rfl
  have hKc := hK.sub (tys' := tyM μ) [5, 6, 7, 8, 9] rfl
  refine wj_i (ws := wL o ko q κ r μ x1 w) (wc := wM r μ w) (wr := wXO o ko q κ x1) (mkAll := fun z => wL o ko q κ r μ x1 z) [6, 7, 8, 9, 10, 11] [0, 1, 2, 3, 4, 5] [0, 1, 2, 3, 4, 5, 6, 7, 8, 9, 10, 11] rfl rfl (by decide) (by decide) (by decide) (fun _ => rfl) (va_runV (As := [.int (nI ra), .int (nI rb), .int (nI rt)]) (rest := []) C (c_M_subtract l D r μ w ra hra rb hrb rt hrt H.size) (cwV 3 C.2.2.2.2 (wG_V (fun _ h => h) k_ml_L_88 k_im_M_subtract k_se_M_subtract k_in_M k_M_subtract) rfl rfl rfl (by decide +kernel) ⟨Nat.le_of_ble_eq_true rfl, Nat.le_of_ble_eq_true rfl⟩) ⟨wf_blind, va_recv hKc hPc (ci := 1) (q0 := 0) rfl rfl, wf_pre hPc hKc hDc⟩ rfl rfl hl.1 rfl (lv_room (Nat.le_of_ble_eq_true rfl)) d_law_450 ⟨by show _ ≤ 1041; omega, by show _ ≤ 10127; omega⟩) (fun _ h => h) hS hP hD hA (fun mr w1 H locs em hP hD hS => ?_)
  obtain ⟨rv, ⟨ev, ex⟩, ez⟩ := ew
  obtain ⟨em0, em⟩ := em
  have hcode := em.1
  rw [hIn.1 ra hra, hIn.1 rb hrb] at ev ex
  have hIn1 : wf_In x1.1 w1 := In_st hIn ex em rfl
  have hz : x1.2 0 = wf_zl mr := by rw [ez, ev, em0]
  refine lv_istore (lv' := [(6, .int (mr)), (5, .int (0)), (0, .ref (b)), (1, .ref (q 0)), (2, .ref (r 0)), (3, .ref (o)), (4, .int (nI (6 * t)))]) hx hb d_law_453 hl (by decide) rfl (fun ls hl => ?_)
  refine lv_aload_n hx hb d_law_455 rfl (lv_at hl 4 rfl) ?_
  have hPc := hP.sub (ws' := wM r μ w1) [6, 7, 8, 9, 10, 11] rfl
  have hDc := hD.sub (ws' := wM r μ w1) [6, 7, 8, 9, 10, 11] (by decide) rfl
  have hKc := hK.sub (tys' := tyM μ) [5, 6, 7, 8, 9] rfl
  refine vp_callSi (W.runV (As := []) (rest := []) C (c_M_thrown l D r μ w1 H.size) (cwV 0 C.2.2.2.2 (wG_V (fun _ h => h) k_ml_L_74 k_im_M_thrown k_se_M_thrown k_in_M k_M_thrown) rfl rfl rfl (by decide +kernel) ⟨Nat.le_of_ble_eq_true rfl, Nat.le_of_ble_eq_true rfl⟩) ⟨wf_blind, va_recv hKc hPc (ci := 1) (q0 := 0) rfl rfl, wf_pre hPc hKc hDc⟩ rfl rfl hl.1 rfl (lv_room (Nat.le_of_ble_eq_true rfl)) d_law_456 ⟨by show _ ≤ 1041; omega, by show _ ≤ 10127; omega⟩) (fun tr htr => ?_)
  refine lv_iload hx hb d_law_459 (lv_at hl 1 rfl) ?_
  refine lv_icmp_eq (tgt := 466) hx hb d_law_461 (by decide) (fun c_1 => ?_) (fun c_1 => False.elim (by first | exact absurd (htr.trans hcode) c_1 | exact absurd c_1 (htr.trans hcode)))
  refine lv_iload hx hb d_law_466 (lv_at hl 1 rfl) ?_
  refine lv_if_ne (tgt := 490) hx hb d_law_468 (by decide) (fun c_2 => False.elim (absurd c_2 (by decide))) (fun _ => ?_)
  refine lv_aload_n hx hb d_law_471 rfl (lv_at hl 5 rfl) ?_
  refine lv_iconst (v := 0) hx hb d_law_472 (by decide) ?_
  refine wf_lald C hK hP 5 4 rfl rfl (k := 0) rfl (by decide) (by decide) d_law_473 ?_
  refine lv_iload hx hb d_law_474 (lv_at hl 0 rfl) ?_
  refine lv_if_eq (tgt := 483) hx hb d_law_476 (by decide) (fun c_3 => ?_) (fun c_3 => ?_)
  · have hz1 : x1.2 0 = 0 := hz.trans (by unfold wf_zl; rw [if_pos c_3])
    refine lv_lconst (v := 0) hx hb d_law_483 (by decide) ?_
    refine W.lcmp hx hb d_law_484 ?_
    refine lv_if_eq (tgt := 490) hx hb d_law_485 (by decide) (fun c_4 => ?_) (fun c_4 => False.elim (by first | exact absurd ((lg_cmp_eq _ _).mpr hz1) c_4 | exact absurd c_4 ((lg_cmp_eq _ _).mpr hz1)))
    refine lv_goto (tgt := 1124) hx hb d_law_490 (by decide) ?_
    refine W.widen (k := 12 + (t + 1)) (n := 1905 + 6 * (t + 1)) (by omega) (by omega) ?_
    exact back x1 w1 H locs ls hIn1 hP hD hS (lv_sub hl [2, 3, 4, 5, 6] rfl)
  · have hz1 : x1.2 0 = 1 := hz.trans (by unfold wf_zl; rw [if_neg c_3])
    refine lv_lconst (v := 1) hx hb d_law_479 (by decide) ?_
    refine lv_goto (tgt := 484) hx hb d_law_480 (by decide) ?_
    refine W.lcmp hx hb d_law_484 ?_
    refine lv_if_eq (tgt := 490) hx hb d_law_485 (by decide) (fun c_5 => ?_) (fun c_5 => False.elim (by first | exact absurd ((lg_cmp_eq _ _).mpr hz1) c_5 | exact absurd c_5 ((lg_cmp_eq _ _).mpr hz1)))
    refine lv_goto (tgt := 1124) hx hb d_law_490 (by decide) ?_
    refine W.widen (k := 12 + (t + 1)) (n := 1905 + 6 * (t + 1)) (by omega) (by omega) ?_
    exact back x1 w1 H locs ls hIn1 hP hD hS (lv_sub hl [2, 3, 4, 5, 6] rfl)

set_option maxHeartbeats 4000000 in
set_option maxRecDepth 100000 in
theorem law_3_bad {p : Program} {l : Launch} {e : Env} {s : State} {m : MethodId} {below : List Frame} {meth : Method} {c : Code} {D : va_G} {q r : Nat → Nat} {κ μ : Nat → ClassId} {o : Nat} {ko : ClassId} {b L : Nat} {xs : Nat → Int32} {t : Nat} {x : SX × (Nat → Int64)} {w : SM} {H : Heap} {locs : List Loc} {ls : Array Slot} (hst : l.stackTraces = false) (hL : L ≤ 3072) (C0 : lw_At p s m meth c b L xs) (hAll : wx_All s) (hK : va_K D vwCl (tyL ko κ μ) s) (ht : 6 * t + 6 ≤ L) (hbad : ((wf_no (xs (6 * t + 1)) || wf_no (xs (6 * t + 2)) || wf_no (xs (6 * t + 3))) || (false)) = true) (hIn : wf_In x.1 w) (hP : va_P D vwCl (wL o ko q κ r μ x w) H) (hD : va_D (lwA s) (wL o ko q κ r μ x w)) (hS : va_S (lwA s) s.heap H locs) (hl : lv_has ls 8 [(0, .ref (b)), (1, .ref (q 0)), (2, .ref (r 0)), (3, .ref (o)), (4, .int (nI (6 * t)))]) (back : ∀ (x' : SX × (Nat → Int64)) (w' : SM) (H' : Heap) (locs' : List Loc) (ls' : Array Slot), wf_In x'.1 w' → va_P D vwCl (wL o ko q κ r μ x' w') H' → va_D (lwA s) (wL o ko q κ r μ x' w') → va_S (lwA s) s.heap H' locs' → lv_has ls' 8 [(0, .ref (b)), (1, .ref (q 0)), (2, .ref (r 0)), (3, .ref (o)), (4, .int (nI (6 * t)))] → W p l e room_1 s m #[Value.ref b] below meth c H' locs' (12 + (t + 1)) (1905 + 6 * (t + 1)) (lw_Z below #[Value.ref b] s) (F0 m 1124 ls' [])) : W p l e room_1 s m #[Value.ref b] below meth c H locs (12 + t) (1905 + 6 * t) (lw_Z below #[Value.ref b] s) (F0 m 406 ls []) := by
  obtain ⟨hx, hb, hr, hml, hown, hts0, hX, hbl, hlocks, hgv⟩ := C0
  have hts := fun w h => hts0 w (wG_tbl h)
  have C : CallFix p m c code 8 s #[Value.ref b] wG RL := ⟨hx, hb, hml, hown, hts⟩
  have hA : ∀ z : Nat, s.heap.size ≤ z → lwA s z := fun _ h => h
  have hbA : ¬ lwA s b := Nat.not_le.mpr hbl
  refine lv_aload_n hx hb d_law_406 rfl (lv_at hl 1 rfl) ?_
  refine lv_aload_n hx hb d_law_407 rfl (lv_at hl 0 rfl) ?_
  refine lv_iload hx hb d_law_408 (lv_at hl 4 rfl) ?_
  refine lv_iconst (v := 1) hx hb d_law_410 (by decide) ?_
  refine lv_iadd hx hb d_law_411 ?_
  refine lw_ld hx hb hX hbl hbA hS (k := 6 * t + 1) (nI_add (6 * t) 1) (by omega) hL d_law_412 ?_
  refine lv_aload_n hx hb d_law_413 rfl (lv_at hl 0 rfl) ?_
  refine lv_iload hx hb d_law_414 (lv_at hl 4 rfl) ?_
  refine lv_iconst (v := 2) hx hb d_law_416 (by decide) ?_
  refine lv_iadd hx hb d_law_417 ?_
  refine lw_ld hx hb hX hbl hbA hS (k := 6 * t + 2) (nI_add (6 * t) 2) (by omega) hL d_law_418 ?_
  refine lv_aload_n hx hb d_law_419 rfl (lv_at hl 0 rfl) ?_
  refine lv_iload hx hb d_law_420 (lv_at hl 4 rfl) ?_
  refine lv_iconst (v := 3) hx hb d_law_422 (by decide) ?_
  refine lv_iadd hx hb d_law_423 ?_
  refine lw_ld hx hb hX hbl hbA hS (k := 6 * t + 3) (nI_add (6 * t) 3) (by omega) hL d_law_424 ?_
  refine lv_aload_n hx hb d_law_425 rfl (lv_at hl 3 rfl) ?_
  have hPc := hP.sub (ws' := wXO o ko q κ x) [0, 1, 2, 3, 4, 5] rfl
  have hDc := hD.sub (ws' := wXO o ko q κ x) [0, 1, 2, 3, 4, 5] (by decide) rfl
  have hKc := hK.sub (tys' := tyXO ko κ) [0, 1, 2, 3, 4] rfl
  refine wj_i (ws := wL o ko q κ r μ x w) (wc := wXO o ko q κ x) (wr := wM r μ w) (mkAll := fun z => wL o ko q κ r μ z w) [0, 1, 2, 3, 4, 5] [6, 7, 8, 9, 10, 11] [6, 7, 8, 9, 10, 11, 0, 1, 2, 3, 4, 5] rfl rfl (by decide) (by decide) (by decide) (fun _ => rfl) (wx_runSH (n := 5) (As := [.ref (q 0), .int (xs (6 * t + 1)), .int (xs (6 * t + 2)), .int (xs (6 * t + 3)), .ref (o)]) (rest := []) C (c_L_subtract_bad l hst D q κ o ko x (xs (6 * t + 1)) (xs (6 * t + 2)) (xs (6 * t + 3)) hbad H.size) (wG_SH (fun _ h => h) k_ml_L_86 k_st_L_subtract k_in_L k_L_subtract) rfl rfl rfl ⟨rfl, by decide, by decide, by decide +kernel⟩ ⟨Nat.le_of_ble_eq_true rfl, Nat.le_of_ble_eq_true rfl⟩ ⟨wf_blindO, wf_preO hPc hKc hDc hAll (fun z hz => hS.2.1 z hz (Nat.not_le.mpr hz))⟩ rfl hl.1 rfl (Nat.le_of_ble_eq_true rfl) d_law_426 ⟨by show _ ≤ 1041; omega, by show _ ≤ 10127; omega⟩) (fun _ h => h) hS hP hD hA (fun kr x1 H locs ew hP hD hS => ?_)
  obtain ⟨k0, ew⟩ := ew
  subst k0
  rw [ew] at hP hD
  have hP : va_P D vwCl (wL o ko q κ r μ x w) H := hP
  have hD : va_D (lwA s) (wL o ko q κ r μ x w) := hD
  refine lv_topi (fun v_1 ev_1 => ?_)
  refine lv_istore (lv' := [(5, .int (v_1)), (0, .ref (b)), (1, .ref (q 0)), (2, .ref (r 0)), (3, .ref (o)), (4, .int (nI (6 * t)))]) hx hb d_law_429 hl (by decide) rfl (fun ls hl => ?_)
  refine lv_aload_n hx hb d_law_431 rfl (lv_at hl 3 rfl) ?_
  refine lv_aload_n hx hb d_law_432 rfl (lv_at hl 1 rfl) ?_
  refine lv_iload hx hb d_law_433 (lv_at hl 5 rfl) ?_
  refine lv_iconst (v := 1) hx hb d_law_435 (by decide) ?_
  refine lv_iadd hx hb d_law_436 ?_
  refine lw_ld hx hb hX hbl hbA hS (k := 6 * t + 1) (nI_add (6 * t) 1) (by omega) hL d_law_437 ?_
  refine lv_aload_n hx hb d_law_438 rfl (lv_at hl 1 rfl) ?_
  refine lv_iload hx hb d_law_439 (lv_at hl 5 rfl) ?_
  refine lv_iconst (v := 2) hx hb d_law_441 (by decide) ?_
  refine lv_iadd hx hb d_law_442 ?_
  refine lw_ld hx hb hX hbl hbA hS (k := 6 * t + 2) (nI_add (6 * t) 2) (by omega) hL d_law_443 ?_
  refine lv_aload_n hx hb d_law_444 rfl (lv_at hl 1 rfl) ?_
  refine lv_iload hx hb d_law_445 (lv_at hl 5 rfl) ?_
  refine lv_iconst (v := 3) hx hb d_law_447 (by decide) ?_
  refine lv_iadd hx hb d_law_448 ?_
  refine lw_ld hx hb hX hbl hbA hS (k := 6 * t + 3) (nI_add (6 * t) 3) (by omega) hL d_law_449 ?_
  have hPc := hP.sub (ws' := wM r μ w) [6, 7, 8, 9, 10, 11] rfl
  have hDc := hD.sub (ws' := wM r μ w) [6, 7, 8, 9, 10, 11] (by decide) rfl
  have hKc := hK.sub (tys' := tyM μ) [5, 6, 7, 8, 9] rfl
  refine wj_i (ws := wL o ko q κ r μ x w) (wc := wM r μ w) (wr := wXO o ko q κ x) (mkAll := fun z => wL o ko q κ r μ x z) [6, 7, 8, 9, 10, 11] [0, 1, 2, 3, 4, 5] [0, 1, 2, 3, 4, 5, 6, 7, 8, 9, 10, 11] rfl rfl (by decide) (by decide) (by decide) (fun _ => rfl) (va_runV (As := [.int (xs (6 * t + 1)), .int (xs (6 * t + 2)), .int (xs (6 * t + 3))]) (rest := []) C (c_M_subtractBad l D r μ w (xs (6 * t + 1)) (xs (6 * t + 2)) (xs (6 * t + 3)) hbad H.size) (cwV 3 C.2.2.2.2 (wG_V (fun _ h => h) k_ml_L_88 k_im_M_subtract k_se_M_subtract k_in_M k_M_subtract) rfl rfl rfl (by decide +kernel) ⟨Nat.le_of_ble_eq_true rfl, Nat.le_of_ble_eq_true rfl⟩) ⟨wf_blind, va_recv hKc hPc (ci := 1) (q0 := 0) rfl rfl, wf_pre hPc hKc hDc⟩ rfl rfl hl.1 rfl (lv_room (Nat.le_of_ble_eq_true rfl)) d_law_450 ⟨by show _ ≤ 1041; omega, by show _ ≤ 10127; omega⟩) (fun _ h => h) hS hP hD hA (fun mr w1 H locs em hP hD hS => ?_)
  refine lv_istore (lv' := [(6, .int (mr)), (5, .int (v_1)), (0, .ref (b)), (1, .ref (q 0)), (2, .ref (r 0)), (3, .ref (o)), (4, .int (nI (6 * t)))]) hx hb d_law_453 hl (by decide) rfl (fun ls hl => ?_)
  refine lv_aload_n hx hb d_law_455 rfl (lv_at hl 4 rfl) ?_
  have hPc := hP.sub (ws' := wM r μ w1) [6, 7, 8, 9, 10, 11] rfl
  have hDc := hD.sub (ws' := wM r μ w1) [6, 7, 8, 9, 10, 11] (by decide) rfl
  have hKc := hK.sub (tys' := tyM μ) [5, 6, 7, 8, 9] rfl
  refine vp_callSi (W.runV (As := []) (rest := []) C (c_M_thrown l D r μ w1 H.size) (cwV 0 C.2.2.2.2 (wG_V (fun _ h => h) k_ml_L_74 k_im_M_thrown k_se_M_thrown k_in_M k_M_thrown) rfl rfl rfl (by decide +kernel) ⟨Nat.le_of_ble_eq_true rfl, Nat.le_of_ble_eq_true rfl⟩) ⟨wf_blind, va_recv hKc hPc (ci := 1) (q0 := 0) rfl rfl, wf_pre hPc hKc hDc⟩ rfl rfl hl.1 rfl (lv_room (Nat.le_of_ble_eq_true rfl)) d_law_456 ⟨by show _ ≤ 1041; omega, by show _ ≤ 10127; omega⟩) (fun tr htr => ?_)
  refine lv_iload hx hb d_law_459 (lv_at hl 1 rfl) ?_
  refine lv_icmp_eq (tgt := 466) hx hb d_law_461 (by decide) (fun c_2 => ?_) (fun c_2 => False.elim (by first | exact absurd (htr.trans (by rw [em, ev_1])) c_2 | exact absurd c_2 (htr.trans (by rw [em, ev_1]))))
  refine lv_iload hx hb d_law_466 (lv_at hl 1 rfl) ?_
  refine lv_if_ne (tgt := 490) hx hb d_law_468 (by decide) (fun c_3 => ?_) (fun c_3 => False.elim (by first | exact absurd (by rw [ev_1]; exact wf_c2_ne hbad) c_3 | exact absurd c_3 (by rw [ev_1]; exact wf_c2_ne hbad)))
  refine lv_goto (tgt := 1124) hx hb d_law_490 (by decide) ?_
  refine W.widen (k := 12 + (t + 1)) (n := 1905 + 6 * (t + 1)) (by omega) (by omega) ?_
  exact back x w1 H locs ls (In_code hIn em) hP hD hS (lv_sub hl [2, 3, 4, 5, 6] rfl)

set_option maxHeartbeats 4000000 in
set_option maxRecDepth 100000 in
theorem law_4_ok {p : Program} {l : Launch} {e : Env} {s : State} {m : MethodId} {below : List Frame} {meth : Method} {c : Code} {D : va_G} {q r : Nat → Nat} {κ μ : Nat → ClassId} {o : Nat} {ko : ClassId} {b L : Nat} {xs : Nat → Int32} {t : Nat} {x : SX × (Nat → Int64)} {w : SM} {H : Heap} {locs : List Loc} {ls : Array Slot} (hst : l.stackTraces = false) (hL : L ≤ 3072) (C0 : lw_At p s m meth c b L xs) (hAll : wx_All s) (hK : va_K D vwCl (tyL ko κ μ) s) (ht : 6 * t + 6 ≤ L) {ra : Nat} (hra : ra < 8) (era : xs (6 * t + 1) = nI ra) {rb : Nat} (hrb : rb < 8) (erb : xs (6 * t + 2) = nI rb) {ro : Nat} (hro : ro < 8) (ero : xs (6 * t + 3) = nI ro) {rt : Nat} (hrt : rt < 8) (ert : xs (6 * t + 4) = nI rt) (hne : ¬ nI ro = nI rt) (hIn : wf_In x.1 w) (hP : va_P D vwCl (wL o ko q κ r μ x w) H) (hD : va_D (lwA s) (wL o ko q κ r μ x w)) (hS : va_S (lwA s) s.heap H locs) (hl : lv_has ls 8 [(0, .ref (b)), (1, .ref (q 0)), (2, .ref (r 0)), (3, .ref (o)), (4, .int (nI (6 * t)))]) (back : ∀ (x' : SX × (Nat → Int64)) (w' : SM) (H' : Heap) (locs' : List Loc) (ls' : Array Slot), wf_In x'.1 w' → va_P D vwCl (wL o ko q κ r μ x' w') H' → va_D (lwA s) (wL o ko q κ r μ x' w') → va_S (lwA s) s.heap H' locs' → lv_has ls' 8 [(0, .ref (b)), (1, .ref (q 0)), (2, .ref (r 0)), (3, .ref (o)), (4, .int (nI (6 * t)))] → W p l e room_1 s m #[Value.ref b] below meth c H' locs' (12 + (t + 1)) (1905 + 6 * (t + 1)) (lw_Z below #[Value.ref b] s) (F0 m 1124 ls' [])) : W p l e room_1 s m #[Value.ref b] below meth c H locs (12 + t) (1905 + 6 * t) (lw_Z below #[Value.ref b] s) (F0 m 493 ls []) := by
  obtain ⟨hx, hb, hr, hml, hown, hts0, hX, hbl, hlocks, hgv⟩ := C0
  have hts := fun w h => hts0 w (wG_tbl h)
  have C : CallFix p m c code 8 s #[Value.ref b] wG RL := ⟨hx, hb, hml, hown, hts⟩
  have hA : ∀ z : Nat, s.heap.size ≤ z → lwA s z := fun _ h => h
  have hbA : ¬ lwA s b := Nat.not_le.mpr hbl
  refine lv_aload_n hx hb d_law_493 rfl (lv_at hl 1 rfl) ?_
  refine lv_aload_n hx hb d_law_494 rfl (lv_at hl 0 rfl) ?_
  refine lv_iload hx hb d_law_495 (lv_at hl 4 rfl) ?_
  refine lv_iconst (v := 1) hx hb d_law_497 (by decide) ?_
  refine lv_iadd hx hb d_law_498 ?_
  refine lw_ld hx hb hX hbl hbA hS (k := 6 * t + 1) (nI_add (6 * t) 1) (by omega) hL d_law_499 ?_
  rw [era]
  refine lv_aload_n hx hb d_law_500 rfl (lv_at hl 0 rfl) ?_
  refine lv_iload hx hb d_law_501 (lv_at hl 4 rfl) ?_
  refine lv_iconst (v := 2) hx hb d_law_503 (by decide) ?_
  refine lv_iadd hx hb d_law_504 ?_
  refine lw_ld hx hb hX hbl hbA hS (k := 6 * t + 2) (nI_add (6 * t) 2) (by omega) hL d_law_505 ?_
  rw [erb]
  refine lv_aload_n hx hb d_law_506 rfl (lv_at hl 0 rfl) ?_
  refine lv_iload hx hb d_law_507 (lv_at hl 4 rfl) ?_
  refine lv_iconst (v := 3) hx hb d_law_509 (by decide) ?_
  refine lv_iadd hx hb d_law_510 ?_
  refine lw_ld hx hb hX hbl hbA hS (k := 6 * t + 3) (nI_add (6 * t) 3) (by omega) hL d_law_511 ?_
  rw [ero]
  refine lv_aload_n hx hb d_law_512 rfl (lv_at hl 0 rfl) ?_
  refine lv_iload hx hb d_law_513 (lv_at hl 4 rfl) ?_
  refine lv_iconst (v := 4) hx hb d_law_515 (by decide) ?_
  refine lv_iadd hx hb d_law_516 ?_
  refine lw_ld hx hb hX hbl hbA hS (k := 6 * t + 4) (nI_add (6 * t) 4) (by omega) hL d_law_517 ?_
  rw [ert]
  have hPc := hP.sub (ws' := wXO o ko q κ x) [0, 1, 2, 3, 4, 5] rfl
  have hDc := hD.sub (ws' := wXO o ko q κ x) [0, 1, 2, 3, 4, 5] (by decide) rfl
  have hKc := hK.sub (tys' := tyXO ko κ) [0, 1, 2, 3, 4] rfl
  refine wj_i (ws := wL o ko q κ r μ x w) (wc := wXO o ko q κ x) (wr := wM r μ w) (mkAll := fun z => wL o ko q κ r μ z w) [0, 1, 2, 3, 4, 5] [6, 7, 8, 9, 10, 11] [6, 7, 8, 9, 10, 11, 0, 1, 2, 3, 4, 5] rfl rfl (by decide) (by decide) (by decide) (fun _ => rfl) (wx_runSH (n := 5) (As := [.ref (q 0), .int (nI ra), .int (nI rb), .int (nI ro), .int (nI rt)]) (rest := []) C (c_L_multiply_ok l hst D q κ o ko x ra hra rb hrb ro hro rt hrt hne H.size) (wG_SH (fun _ h => h) k_ml_L_89 k_st_L_multiply k_in_L k_L_multiply) rfl rfl rfl ⟨rfl, by decide, by decide, by decide +kernel⟩ ⟨Nat.le_of_ble_eq_true rfl, Nat.le_of_ble_eq_true rfl⟩ ⟨wf_blindO, wf_preO hPc hKc hDc hAll (fun z hz => hS.2.1 z hz (Nat.not_le.mpr hz))⟩ rfl hl.1 rfl (Nat.le_of_ble_eq_true rfl) d_law_518 ⟨by show _ ≤ 1041; omega, by show _ ≤ 10127; omega⟩) (fun _ h => h) hS hP hD hA (fun kr x1 H locs ew hP hD hS => ?_)
  obtain ⟨k0, ew⟩ := ew
  subst k0
  refine lv_istore (lv' := [(5, .int (0)), (0, .ref (b)), (1, .ref (q 0)), (2, .ref (r 0)), (3, .ref (o)), (4, .int (nI (6 * t)))]) hx hb d_law_521 hl (by decide) rfl (fun ls hl => ?_)
  refine lv_aload_n hx hb d_law_523 rfl (lv_at hl 3 rfl) ?_
  refine lv_aload_n hx hb d_law_524 rfl (lv_at hl 1 rfl) ?_
  refine lv_iload hx hb d_law_525 (lv_at hl 5 rfl) ?_
  refine lv_iconst (v := 1) hx hb d_law_527 (by decide) ?_
  refine lv_iadd hx hb d_law_528 ?_
  refine lw_ld hx hb hX hbl hbA hS (k := 6 * t + 1) (nI_add (6 * t) 1) (by omega) hL d_law_529 ?_
  rw [era]
  refine lv_aload_n hx hb d_law_530 rfl (lv_at hl 1 rfl) ?_
  refine lv_iload hx hb d_law_531 (lv_at hl 5 rfl) ?_
  refine lv_iconst (v := 2) hx hb d_law_533 (by decide) ?_
  refine lv_iadd hx hb d_law_534 ?_
  refine lw_ld hx hb hX hbl hbA hS (k := 6 * t + 2) (nI_add (6 * t) 2) (by omega) hL d_law_535 ?_
  rw [erb]
  refine lv_aload_n hx hb d_law_536 rfl (lv_at hl 1 rfl) ?_
  refine lv_iload hx hb d_law_537 (lv_at hl 5 rfl) ?_
  refine lv_iconst (v := 3) hx hb d_law_539 (by decide) ?_
  refine lv_iadd hx hb d_law_540 ?_
  refine lw_ld hx hb hX hbl hbA hS (k := 6 * t + 3) (nI_add (6 * t) 3) (by omega) hL d_law_541 ?_
  rw [ero]
  refine lv_aload_n hx hb d_law_542 rfl (lv_at hl 1 rfl) ?_
  refine lv_iload hx hb d_law_543 (lv_at hl 5 rfl) ?_
  refine lv_iconst (v := 4) hx hb d_law_545 (by decide) ?_
  refine lv_iadd hx hb d_law_546 ?_
  refine lw_ld hx hb hX hbl hbA hS (k := 6 * t + 4) (nI_add (6 * t) 4) (by omega) hL d_law_547 ?_
  rw [ert]
  have hPc := hP.sub (ws' := wM r μ w) [6, 7, 8, 9, 10, 11] rfl
  have hDc := hD.sub (ws' := wM r μ w) [6, 7, 8, 9, 10, 11] (by decide) rfl
  have hKc := hK.sub (tys' := tyM μ) [5, 6, 7, 8, 9] rfl
  refine wj_v (ws := wL o ko q κ r μ x1 w) (wc := wM r μ w) (wr := wXO o ko q κ x1) (mkAll := fun z => wL o ko q κ r μ x1 z) [6, 7, 8, 9, 10, 11] [0, 1, 2, 3, 4, 5] [0, 1, 2, 3, 4, 5, 6, 7, 8, 9, 10, 11] rfl rfl (by decide) (by decide) (by decide) (fun _ => rfl) (va_runV (As := [.int (nI ra), .int (nI rb), .int (nI ro), .int (nI rt)]) (rest := []) C (c_M_multiply l D r μ w ra hra rb hrb ro hro rt hrt hne H.size) (cwV 4 C.2.2.2.2 (wG_V (fun _ h => h) k_ml_L_92 k_im_M_multiply k_se_M_multiply k_in_M k_M_multiply) rfl rfl rfl (by decide +kernel) ⟨Nat.le_of_ble_eq_true rfl, Nat.le_of_ble_eq_true rfl⟩) ⟨wf_blind, va_recv hKc hPc (ci := 1) (q0 := 0) rfl rfl, wf_pre hPc hKc hDc⟩ rfl rfl hl.1 rfl (lv_room (Nat.le_of_ble_eq_true rfl)) d_law_548 ⟨by show _ ≤ 1041; omega, by show _ ≤ 10127; omega⟩) (fun _ h => h) hS hP hD hA (fun w1 H locs em hP hD hS => ?_)
  have hcode := em.1
  obtain ⟨⟨y, ex, ex2⟩, ez⟩ := ew
  rw [hIn.1 ra hra, hIn.1 rb hrb] at ex ex2
  have hIn1 : wf_In x1.1 w1 := In_two hIn ex ex2 em rfl rfl
  refine lv_aload_n hx hb d_law_551 rfl (lv_at hl 3 rfl) ?_
  have hPc := hP.sub (ws' := wM r μ w1) [6, 7, 8, 9, 10, 11] rfl
  have hDc := hD.sub (ws' := wM r μ w1) [6, 7, 8, 9, 10, 11] (by decide) rfl
  have hKc := hK.sub (tys' := tyM μ) [5, 6, 7, 8, 9] rfl
  refine vp_callSi (W.runV (As := []) (rest := []) C (c_M_thrown l D r μ w1 H.size) (cwV 0 C.2.2.2.2 (wG_V (fun _ h => h) k_ml_L_74 k_im_M_thrown k_se_M_thrown k_in_M k_M_thrown) rfl rfl rfl (by decide +kernel) ⟨Nat.le_of_ble_eq_true rfl, Nat.le_of_ble_eq_true rfl⟩) ⟨wf_blind, va_recv hKc hPc (ci := 1) (q0 := 0) rfl rfl, wf_pre hPc hKc hDc⟩ rfl rfl hl.1 rfl (lv_room (Nat.le_of_ble_eq_true rfl)) d_law_552 ⟨by show _ ≤ 1041; omega, by show _ ≤ 10127; omega⟩) (fun tr htr => ?_)
  refine lv_iload hx hb d_law_555 (lv_at hl 0 rfl) ?_
  refine lv_icmp_eq (tgt := 562) hx hb d_law_557 (by decide) (fun c_1 => ?_) (fun c_1 => False.elim (by first | exact absurd (htr.trans hcode) c_1 | exact absurd c_1 (htr.trans hcode)))
  refine lv_goto (tgt := 1124) hx hb d_law_562 (by decide) ?_
  refine W.widen (k := 12 + (t + 1)) (n := 1905 + 6 * (t + 1)) (by omega) (by omega) ?_
  exact back x1 w1 H locs ls hIn1 hP hD hS (lv_sub hl [1, 2, 3, 4, 5] rfl)

set_option maxHeartbeats 4000000 in
set_option maxRecDepth 100000 in
theorem law_4_bad {p : Program} {l : Launch} {e : Env} {s : State} {m : MethodId} {below : List Frame} {meth : Method} {c : Code} {D : va_G} {q r : Nat → Nat} {κ μ : Nat → ClassId} {o : Nat} {ko : ClassId} {b L : Nat} {xs : Nat → Int32} {t : Nat} {x : SX × (Nat → Int64)} {w : SM} {H : Heap} {locs : List Loc} {ls : Array Slot} (hst : l.stackTraces = false) (hL : L ≤ 3072) (C0 : lw_At p s m meth c b L xs) (hAll : wx_All s) (hK : va_K D vwCl (tyL ko κ μ) s) (ht : 6 * t + 6 ≤ L) (hbad : ((wf_no (xs (6 * t + 1)) || wf_no (xs (6 * t + 2)) || wf_no (xs (6 * t + 3)) || wf_no (xs (6 * t + 4))) || (decide ((xs (6 * t + 3)) = (xs (6 * t + 4))))) = true) (hIn : wf_In x.1 w) (hP : va_P D vwCl (wL o ko q κ r μ x w) H) (hD : va_D (lwA s) (wL o ko q κ r μ x w)) (hS : va_S (lwA s) s.heap H locs) (hl : lv_has ls 8 [(0, .ref (b)), (1, .ref (q 0)), (2, .ref (r 0)), (3, .ref (o)), (4, .int (nI (6 * t)))]) (back : ∀ (x' : SX × (Nat → Int64)) (w' : SM) (H' : Heap) (locs' : List Loc) (ls' : Array Slot), wf_In x'.1 w' → va_P D vwCl (wL o ko q κ r μ x' w') H' → va_D (lwA s) (wL o ko q κ r μ x' w') → va_S (lwA s) s.heap H' locs' → lv_has ls' 8 [(0, .ref (b)), (1, .ref (q 0)), (2, .ref (r 0)), (3, .ref (o)), (4, .int (nI (6 * t)))] → W p l e room_1 s m #[Value.ref b] below meth c H' locs' (12 + (t + 1)) (1905 + 6 * (t + 1)) (lw_Z below #[Value.ref b] s) (F0 m 1124 ls' [])) : W p l e room_1 s m #[Value.ref b] below meth c H locs (12 + t) (1905 + 6 * t) (lw_Z below #[Value.ref b] s) (F0 m 493 ls []) := by
  obtain ⟨hx, hb, hr, hml, hown, hts0, hX, hbl, hlocks, hgv⟩ := C0
  have hts := fun w h => hts0 w (wG_tbl h)
  have C : CallFix p m c code 8 s #[Value.ref b] wG RL := ⟨hx, hb, hml, hown, hts⟩
  have hA : ∀ z : Nat, s.heap.size ≤ z → lwA s z := fun _ h => h
  have hbA : ¬ lwA s b := Nat.not_le.mpr hbl
  refine lv_aload_n hx hb d_law_493 rfl (lv_at hl 1 rfl) ?_
  refine lv_aload_n hx hb d_law_494 rfl (lv_at hl 0 rfl) ?_
  refine lv_iload hx hb d_law_495 (lv_at hl 4 rfl) ?_
  refine lv_iconst (v := 1) hx hb d_law_497 (by decide) ?_
  refine lv_iadd hx hb d_law_498 ?_
  refine lw_ld hx hb hX hbl hbA hS (k := 6 * t + 1) (nI_add (6 * t) 1) (by omega) hL d_law_499 ?_
  refine lv_aload_n hx hb d_law_500 rfl (lv_at hl 0 rfl) ?_
  refine lv_iload hx hb d_law_501 (lv_at hl 4 rfl) ?_
  refine lv_iconst (v := 2) hx hb d_law_503 (by decide) ?_
  refine lv_iadd hx hb d_law_504 ?_
  refine lw_ld hx hb hX hbl hbA hS (k := 6 * t + 2) (nI_add (6 * t) 2) (by omega) hL d_law_505 ?_
  refine lv_aload_n hx hb d_law_506 rfl (lv_at hl 0 rfl) ?_
  refine lv_iload hx hb d_law_507 (lv_at hl 4 rfl) ?_
  refine lv_iconst (v := 3) hx hb d_law_509 (by decide) ?_
  refine lv_iadd hx hb d_law_510 ?_
  refine lw_ld hx hb hX hbl hbA hS (k := 6 * t + 3) (nI_add (6 * t) 3) (by omega) hL d_law_511 ?_
  refine lv_aload_n hx hb d_law_512 rfl (lv_at hl 0 rfl) ?_
  refine lv_iload hx hb d_law_513 (lv_at hl 4 rfl) ?_
  refine lv_iconst (v := 4) hx hb d_law_515 (by decide) ?_
  refine lv_iadd hx hb d_law_516 ?_
  refine lw_ld hx hb hX hbl hbA hS (k := 6 * t + 4) (nI_add (6 * t) 4) (by omega) hL d_law_517 ?_
  have hPc := hP.sub (ws' := wXO o ko q κ x) [0, 1, 2, 3, 4, 5] rfl
  have hDc := hD.sub (ws' := wXO o ko q κ x) [0, 1, 2, 3, 4, 5] (by decide) rfl
  have hKc := hK.sub (tys' := tyXO ko κ) [0, 1, 2, 3, 4] rfl
  refine wj_i (ws := wL o ko q κ r μ x w) (wc := wXO o ko q κ x) (wr := wM r μ w) (mkAll := fun z => wL o ko q κ r μ z w) [0, 1, 2, 3, 4, 5] [6, 7, 8, 9, 10, 11] [6, 7, 8, 9, 10, 11, 0, 1, 2, 3, 4, 5] rfl rfl (by decide) (by decide) (by decide) (fun _ => rfl) (wx_runSH (n := 5) (As := [.ref (q 0), .int (xs (6 * t + 1)), .int (xs (6 * t + 2)), .int (xs (6 * t + 3)), .int (xs (6 * t + 4))]) (rest := []) C (c_L_multiply_bad l hst D q κ o ko x (xs (6 * t + 1)) (xs (6 * t + 2)) (xs (6 * t + 3)) (xs (6 * t + 4)) hbad H.size) (wG_SH (fun _ h => h) k_ml_L_89 k_st_L_multiply k_in_L k_L_multiply) rfl rfl rfl ⟨rfl, by decide, by decide, by decide +kernel⟩ ⟨Nat.le_of_ble_eq_true rfl, Nat.le_of_ble_eq_true rfl⟩ ⟨wf_blindO, wf_preO hPc hKc hDc hAll (fun z hz => hS.2.1 z hz (Nat.not_le.mpr hz))⟩ rfl hl.1 rfl (Nat.le_of_ble_eq_true rfl) d_law_518 ⟨by show _ ≤ 1041; omega, by show _ ≤ 10127; omega⟩) (fun _ h => h) hS hP hD hA (fun kr x1 H locs ew hP hD hS => ?_)
  obtain ⟨k0, ew⟩ := ew
  subst k0
  rw [ew] at hP hD
  have hP : va_P D vwCl (wL o ko q κ r μ x w) H := hP
  have hD : va_D (lwA s) (wL o ko q κ r μ x w) := hD
  refine lv_topi (fun v_1 ev_1 => ?_)
  refine lv_istore (lv' := [(5, .int (v_1)), (0, .ref (b)), (1, .ref (q 0)), (2, .ref (r 0)), (3, .ref (o)), (4, .int (nI (6 * t)))]) hx hb d_law_521 hl (by decide) rfl (fun ls hl => ?_)
  refine lv_aload_n hx hb d_law_523 rfl (lv_at hl 3 rfl) ?_
  refine lv_aload_n hx hb d_law_524 rfl (lv_at hl 1 rfl) ?_
  refine lv_iload hx hb d_law_525 (lv_at hl 5 rfl) ?_
  refine lv_iconst (v := 1) hx hb d_law_527 (by decide) ?_
  refine lv_iadd hx hb d_law_528 ?_
  refine lw_ld hx hb hX hbl hbA hS (k := 6 * t + 1) (nI_add (6 * t) 1) (by omega) hL d_law_529 ?_
  refine lv_aload_n hx hb d_law_530 rfl (lv_at hl 1 rfl) ?_
  refine lv_iload hx hb d_law_531 (lv_at hl 5 rfl) ?_
  refine lv_iconst (v := 2) hx hb d_law_533 (by decide) ?_
  refine lv_iadd hx hb d_law_534 ?_
  refine lw_ld hx hb hX hbl hbA hS (k := 6 * t + 2) (nI_add (6 * t) 2) (by omega) hL d_law_535 ?_
  refine lv_aload_n hx hb d_law_536 rfl (lv_at hl 1 rfl) ?_
  refine lv_iload hx hb d_law_537 (lv_at hl 5 rfl) ?_
  refine lv_iconst (v := 3) hx hb d_law_539 (by decide) ?_
  refine lv_iadd hx hb d_law_540 ?_
  refine lw_ld hx hb hX hbl hbA hS (k := 6 * t + 3) (nI_add (6 * t) 3) (by omega) hL d_law_541 ?_
  refine lv_aload_n hx hb d_law_542 rfl (lv_at hl 1 rfl) ?_
  refine lv_iload hx hb d_law_543 (lv_at hl 5 rfl) ?_
  refine lv_iconst (v := 4) hx hb d_law_545 (by decide) ?_
  refine lv_iadd hx hb d_law_546 ?_
  refine lw_ld hx hb hX hbl hbA hS (k := 6 * t + 4) (nI_add (6 * t) 4) (by omega) hL d_law_547 ?_
  have hPc := hP.sub (ws' := wM r μ w) [6, 7, 8, 9, 10, 11] rfl
  have hDc := hD.sub (ws' := wM r μ w) [6, 7, 8, 9, 10, 11] (by decide) rfl
  have hKc := hK.sub (tys' := tyM μ) [5, 6, 7, 8, 9] rfl
  refine wj_v (ws := wL o ko q κ r μ x w) (wc := wM r μ w) (wr := wXO o ko q κ x) (mkAll := fun z => wL o ko q κ r μ x z) [6, 7, 8, 9, 10, 11] [0, 1, 2, 3, 4, 5] [0, 1, 2, 3, 4, 5, 6, 7, 8, 9, 10, 11] rfl rfl (by decide) (by decide) (by decide) (fun _ => rfl) (va_runV (As := [.int (xs (6 * t + 1)), .int (xs (6 * t + 2)), .int (xs (6 * t + 3)), .int (xs (6 * t + 4))]) (rest := []) C (c_M_multiplyBad l D r μ w (xs (6 * t + 1)) (xs (6 * t + 2)) (xs (6 * t + 3)) (xs (6 * t + 4)) hbad H.size) (cwV 4 C.2.2.2.2 (wG_V (fun _ h => h) k_ml_L_92 k_im_M_multiply k_se_M_multiply k_in_M k_M_multiply) rfl rfl rfl (by decide +kernel) ⟨Nat.le_of_ble_eq_true rfl, Nat.le_of_ble_eq_true rfl⟩) ⟨wf_blind, va_recv hKc hPc (ci := 1) (q0 := 0) rfl rfl, wf_pre hPc hKc hDc⟩ rfl rfl hl.1 rfl (lv_room (Nat.le_of_ble_eq_true rfl)) d_law_548 ⟨by show _ ≤ 1041; omega, by show _ ≤ 10127; omega⟩) (fun _ h => h) hS hP hD hA (fun w1 H locs em hP hD hS => ?_)
  refine lv_aload_n hx hb d_law_551 rfl (lv_at hl 3 rfl) ?_
  have hPc := hP.sub (ws' := wM r μ w1) [6, 7, 8, 9, 10, 11] rfl
  have hDc := hD.sub (ws' := wM r μ w1) [6, 7, 8, 9, 10, 11] (by decide) rfl
  have hKc := hK.sub (tys' := tyM μ) [5, 6, 7, 8, 9] rfl
  refine vp_callSi (W.runV (As := []) (rest := []) C (c_M_thrown l D r μ w1 H.size) (cwV 0 C.2.2.2.2 (wG_V (fun _ h => h) k_ml_L_74 k_im_M_thrown k_se_M_thrown k_in_M k_M_thrown) rfl rfl rfl (by decide +kernel) ⟨Nat.le_of_ble_eq_true rfl, Nat.le_of_ble_eq_true rfl⟩) ⟨wf_blind, va_recv hKc hPc (ci := 1) (q0 := 0) rfl rfl, wf_pre hPc hKc hDc⟩ rfl rfl hl.1 rfl (lv_room (Nat.le_of_ble_eq_true rfl)) d_law_552 ⟨by show _ ≤ 1041; omega, by show _ ≤ 10127; omega⟩) (fun tr htr => ?_)
  refine lv_iload hx hb d_law_555 (lv_at hl 0 rfl) ?_
  refine lv_icmp_eq (tgt := 562) hx hb d_law_557 (by decide) (fun c_2 => ?_) (fun c_2 => False.elim (by first | exact absurd (htr.trans (by rw [em, ev_1])) c_2 | exact absurd c_2 (htr.trans (by rw [em, ev_1]))))
  refine lv_goto (tgt := 1124) hx hb d_law_562 (by decide) ?_
  refine W.widen (k := 12 + (t + 1)) (n := 1905 + 6 * (t + 1)) (by omega) (by omega) ?_
  exact back x w1 H locs ls (In_code hIn em) hP hD hS (lv_sub hl [1, 2, 3, 4, 5] rfl)

set_option maxHeartbeats 4000000 in
set_option maxRecDepth 100000 in
theorem law_5_ok {p : Program} {l : Launch} {e : Env} {s : State} {m : MethodId} {below : List Frame} {meth : Method} {c : Code} {D : va_G} {q r : Nat → Nat} {κ μ : Nat → ClassId} {o : Nat} {ko : ClassId} {b L : Nat} {xs : Nat → Int32} {t : Nat} {x : SX × (Nat → Int64)} {w : SM} {H : Heap} {locs : List Loc} {ls : Array Slot} (hst : l.stackTraces = false) (hL : L ≤ 3072) (C0 : lw_At p s m meth c b L xs) (hAll : wx_All s) (hK : va_K D vwCl (tyL ko κ μ) s) (ht : 6 * t + 6 ≤ L) {ra : Nat} (hra : ra < 8) (era : xs (6 * t + 1) = nI ra) {rb : Nat} (hrb : rb < 8) (erb : xs (6 * t + 2) = nI rb) {ro : Nat} (hro : ro < 8) (ero : xs (6 * t + 3) = nI ro) {rt : Nat} (hrt : rt < 8) (ert : xs (6 * t + 4) = nI rt) (hne : ¬ nI ro = nI rt) (hb0 : 0 < wf_R w.2.1 rb) (hIn : wf_In x.1 w) (hP : va_P D vwCl (wL o ko q κ r μ x w) H) (hD : va_D (lwA s) (wL o ko q κ r μ x w)) (hS : va_S (lwA s) s.heap H locs) (hl : lv_has ls 8 [(0, .ref (b)), (1, .ref (q 0)), (2, .ref (r 0)), (3, .ref (o)), (4, .int (nI (6 * t)))]) (back : ∀ (x' : SX × (Nat → Int64)) (w' : SM) (H' : Heap) (locs' : List Loc) (ls' : Array Slot), wf_In x'.1 w' → va_P D vwCl (wL o ko q κ r μ x' w') H' → va_D (lwA s) (wL o ko q κ r μ x' w') → va_S (lwA s) s.heap H' locs' → lv_has ls' 8 [(0, .ref (b)), (1, .ref (q 0)), (2, .ref (r 0)), (3, .ref (o)), (4, .int (nI (6 * t)))] → W p l e room_1 s m #[Value.ref b] below meth c H' locs' (12 + (t + 1)) (1905 + 6 * (t + 1)) (lw_Z below #[Value.ref b] s) (F0 m 1124 ls' [])) : W p l e room_1 s m #[Value.ref b] below meth c H locs (12 + t) (1905 + 6 * t) (lw_Z below #[Value.ref b] s) (F0 m 565 ls []) := by
  obtain ⟨hx, hb, hr, hml, hown, hts0, hX, hbl, hlocks, hgv⟩ := C0
  have hts := fun w h => hts0 w (wG_tbl h)
  have C : CallFix p m c code 8 s #[Value.ref b] wG RL := ⟨hx, hb, hml, hown, hts⟩
  have hA : ∀ z : Nat, s.heap.size ≤ z → lwA s z := fun _ h => h
  have hbA : ¬ lwA s b := Nat.not_le.mpr hbl
  refine lv_aload_n hx hb d_law_565 rfl (lv_at hl 1 rfl) ?_
  refine lv_aload_n hx hb d_law_566 rfl (lv_at hl 0 rfl) ?_
  refine lv_iload hx hb d_law_567 (lv_at hl 4 rfl) ?_
  refine lv_iconst (v := 1) hx hb d_law_569 (by decide) ?_
  refine lv_iadd hx hb d_law_570 ?_
  refine lw_ld hx hb hX hbl hbA hS (k := 6 * t + 1) (nI_add (6 * t) 1) (by omega) hL d_law_571 ?_
  rw [era]
  refine lv_aload_n hx hb d_law_572 rfl (lv_at hl 0 rfl) ?_
  refine lv_iload hx hb d_law_573 (lv_at hl 4 rfl) ?_
  refine lv_iconst (v := 2) hx hb d_law_575 (by decide) ?_
  refine lv_iadd hx hb d_law_576 ?_
  refine lw_ld hx hb hX hbl hbA hS (k := 6 * t + 2) (nI_add (6 * t) 2) (by omega) hL d_law_577 ?_
  rw [erb]
  refine lv_aload_n hx hb d_law_578 rfl (lv_at hl 0 rfl) ?_
  refine lv_iload hx hb d_law_579 (lv_at hl 4 rfl) ?_
  refine lv_iconst (v := 3) hx hb d_law_581 (by decide) ?_
  refine lv_iadd hx hb d_law_582 ?_
  refine lw_ld hx hb hX hbl hbA hS (k := 6 * t + 3) (nI_add (6 * t) 3) (by omega) hL d_law_583 ?_
  rw [ero]
  refine lv_aload_n hx hb d_law_584 rfl (lv_at hl 0 rfl) ?_
  refine lv_iload hx hb d_law_585 (lv_at hl 4 rfl) ?_
  refine lv_iconst (v := 4) hx hb d_law_587 (by decide) ?_
  refine lv_iadd hx hb d_law_588 ?_
  refine lw_ld hx hb hX hbl hbA hS (k := 6 * t + 4) (nI_add (6 * t) 4) (by omega) hL d_law_589 ?_
  rw [ert]
  have hPc := hP.sub (ws' := wXO o ko q κ x) [0, 1, 2, 3, 4, 5] rfl
  have hDc := hD.sub (ws' := wXO o ko q κ x) [0, 1, 2, 3, 4, 5] (by decide) rfl
  have hKc := hK.sub (tys' := tyXO ko κ) [0, 1, 2, 3, 4] rfl
  refine wj_i (ws := wL o ko q κ r μ x w) (wc := wXO o ko q κ x) (wr := wM r μ w) (mkAll := fun z => wL o ko q κ r μ z w) [0, 1, 2, 3, 4, 5] [6, 7, 8, 9, 10, 11] [6, 7, 8, 9, 10, 11, 0, 1, 2, 3, 4, 5] rfl rfl (by decide) (by decide) (by decide) (fun _ => rfl) (wx_runSH (n := 5) (As := [.ref (q 0), .int (nI ra), .int (nI rb), .int (nI ro), .int (nI rt)]) (rest := []) C (c_L_divide_ok l hst D q κ o ko x ra hra rb hrb ro hro rt hrt hne (by rw [hIn.1 rb hrb]; exact hb0) H.size) (wG_SH (fun _ h => h) k_ml_L_93 k_st_L_divide k_in_L k_L_divide) rfl rfl rfl ⟨rfl, by decide, by decide, by decide +kernel⟩ ⟨Nat.le_of_ble_eq_true rfl, Nat.le_of_ble_eq_true rfl⟩ ⟨wf_blindO, wf_preO hPc hKc hDc hAll (fun z hz => hS.2.1 z hz (Nat.not_le.mpr hz))⟩ rfl hl.1 rfl (Nat.le_of_ble_eq_true rfl) d_law_590 ⟨by show _ ≤ 1041; omega, by show _ ≤ 10127; omega⟩) (fun _ h => h) hS hP hD hA (fun kr x1 H locs ew hP hD hS => ?_)
  obtain ⟨k0, ew⟩ := ew
  subst k0
  refine lv_istore (lv' := [(5, .int (0)), (0, .ref (b)), (1, .ref (q 0)), (2, .ref (r 0)), (3, .ref (o)), (4, .int (nI (6 * t)))]) hx hb d_law_593 hl (by decide) rfl (fun ls hl => ?_)
  refine lv_aload_n hx hb d_law_595 rfl (lv_at hl 3 rfl) ?_
  refine lv_aload_n hx hb d_law_596 rfl (lv_at hl 1 rfl) ?_
  refine lv_iload hx hb d_law_597 (lv_at hl 5 rfl) ?_
  refine lv_iconst (v := 1) hx hb d_law_599 (by decide) ?_
  refine lv_iadd hx hb d_law_600 ?_
  refine lw_ld hx hb hX hbl hbA hS (k := 6 * t + 1) (nI_add (6 * t) 1) (by omega) hL d_law_601 ?_
  rw [era]
  refine lv_aload_n hx hb d_law_602 rfl (lv_at hl 1 rfl) ?_
  refine lv_iload hx hb d_law_603 (lv_at hl 5 rfl) ?_
  refine lv_iconst (v := 2) hx hb d_law_605 (by decide) ?_
  refine lv_iadd hx hb d_law_606 ?_
  refine lw_ld hx hb hX hbl hbA hS (k := 6 * t + 2) (nI_add (6 * t) 2) (by omega) hL d_law_607 ?_
  rw [erb]
  refine lv_aload_n hx hb d_law_608 rfl (lv_at hl 1 rfl) ?_
  refine lv_iload hx hb d_law_609 (lv_at hl 5 rfl) ?_
  refine lv_iconst (v := 3) hx hb d_law_611 (by decide) ?_
  refine lv_iadd hx hb d_law_612 ?_
  refine lw_ld hx hb hX hbl hbA hS (k := 6 * t + 3) (nI_add (6 * t) 3) (by omega) hL d_law_613 ?_
  rw [ero]
  refine lv_aload_n hx hb d_law_614 rfl (lv_at hl 1 rfl) ?_
  refine lv_iload hx hb d_law_615 (lv_at hl 5 rfl) ?_
  refine lv_iconst (v := 4) hx hb d_law_617 (by decide) ?_
  refine lv_iadd hx hb d_law_618 ?_
  refine lw_ld hx hb hX hbl hbA hS (k := 6 * t + 4) (nI_add (6 * t) 4) (by omega) hL d_law_619 ?_
  rw [ert]
  have hPc := hP.sub (ws' := wM r μ w) [6, 7, 8, 9, 10, 11] rfl
  have hDc := hD.sub (ws' := wM r μ w) [6, 7, 8, 9, 10, 11] (by decide) rfl
  have hKc := hK.sub (tys' := tyM μ) [5, 6, 7, 8, 9] rfl
  refine wj_v (ws := wL o ko q κ r μ x1 w) (wc := wM r μ w) (wr := wXO o ko q κ x1) (mkAll := fun z => wL o ko q κ r μ x1 z) [6, 7, 8, 9, 10, 11] [0, 1, 2, 3, 4, 5] [0, 1, 2, 3, 4, 5, 6, 7, 8, 9, 10, 11] rfl rfl (by decide) (by decide) (by decide) (fun _ => rfl) (va_runV (As := [.int (nI ra), .int (nI rb), .int (nI ro), .int (nI rt)]) (rest := []) C (c_M_divide l D r μ w ra hra rb hrb ro hro rt hrt hne hb0 H.size) (cwV 4 C.2.2.2.2 (wG_V (fun _ h => h) k_ml_L_95 k_im_M_divide k_se_M_divide k_in_M k_M_divide) rfl rfl rfl (by decide +kernel) ⟨Nat.le_of_ble_eq_true rfl, Nat.le_of_ble_eq_true rfl⟩) ⟨wf_blind, va_recv hKc hPc (ci := 1) (q0 := 0) rfl rfl, wf_pre hPc hKc hDc⟩ rfl rfl hl.1 rfl (lv_room (Nat.le_of_ble_eq_true rfl)) d_law_620 ⟨by show _ ≤ 1041; omega, by show _ ≤ 10127; omega⟩) (fun _ h => h) hS hP hD hA (fun w1 H locs em hP hD hS => ?_)
  have hcode := em.1
  obtain ⟨⟨y, ex, ex2⟩, ez⟩ := ew
  rw [hIn.1 ra hra, hIn.1 rb hrb] at ex ex2
  have hIn1 : wf_In x1.1 w1 := In_two hIn ex ex2 em rfl rfl
  refine lv_aload_n hx hb d_law_623 rfl (lv_at hl 3 rfl) ?_
  have hPc := hP.sub (ws' := wM r μ w1) [6, 7, 8, 9, 10, 11] rfl
  have hDc := hD.sub (ws' := wM r μ w1) [6, 7, 8, 9, 10, 11] (by decide) rfl
  have hKc := hK.sub (tys' := tyM μ) [5, 6, 7, 8, 9] rfl
  refine vp_callSi (W.runV (As := []) (rest := []) C (c_M_thrown l D r μ w1 H.size) (cwV 0 C.2.2.2.2 (wG_V (fun _ h => h) k_ml_L_74 k_im_M_thrown k_se_M_thrown k_in_M k_M_thrown) rfl rfl rfl (by decide +kernel) ⟨Nat.le_of_ble_eq_true rfl, Nat.le_of_ble_eq_true rfl⟩) ⟨wf_blind, va_recv hKc hPc (ci := 1) (q0 := 0) rfl rfl, wf_pre hPc hKc hDc⟩ rfl rfl hl.1 rfl (lv_room (Nat.le_of_ble_eq_true rfl)) d_law_624 ⟨by show _ ≤ 1041; omega, by show _ ≤ 10127; omega⟩) (fun tr htr => ?_)
  refine lv_iload hx hb d_law_627 (lv_at hl 0 rfl) ?_
  refine lv_icmp_eq (tgt := 634) hx hb d_law_629 (by decide) (fun c_1 => ?_) (fun c_1 => False.elim (by first | exact absurd (htr.trans hcode) c_1 | exact absurd c_1 (htr.trans hcode)))
  refine lv_goto (tgt := 1124) hx hb d_law_634 (by decide) ?_
  refine W.widen (k := 12 + (t + 1)) (n := 1905 + 6 * (t + 1)) (by omega) (by omega) ?_
  exact back x1 w1 H locs ls hIn1 hP hD hS (lv_sub hl [1, 2, 3, 4, 5] rfl)

set_option maxHeartbeats 4000000 in
set_option maxRecDepth 100000 in
theorem law_5_zero {p : Program} {l : Launch} {e : Env} {s : State} {m : MethodId} {below : List Frame} {meth : Method} {c : Code} {D : va_G} {q r : Nat → Nat} {κ μ : Nat → ClassId} {o : Nat} {ko : ClassId} {b L : Nat} {xs : Nat → Int32} {t : Nat} {x : SX × (Nat → Int64)} {w : SM} {H : Heap} {locs : List Loc} {ls : Array Slot} (hst : l.stackTraces = false) (hL : L ≤ 3072) (C0 : lw_At p s m meth c b L xs) (hAll : wx_All s) (hK : va_K D vwCl (tyL ko κ μ) s) (ht : 6 * t + 6 ≤ L) {ra : Nat} (hra : ra < 8) (era : xs (6 * t + 1) = nI ra) {rb : Nat} (hrb : rb < 8) (erb : xs (6 * t + 2) = nI rb) {ro : Nat} (hro : ro < 8) (ero : xs (6 * t + 3) = nI ro) {rt : Nat} (hrt : rt < 8) (ert : xs (6 * t + 4) = nI rt) (hne : ¬ nI ro = nI rt) (hb0 : wf_R w.2.1 rb = 0) (hIn : wf_In x.1 w) (hP : va_P D vwCl (wL o ko q κ r μ x w) H) (hD : va_D (lwA s) (wL o ko q κ r μ x w)) (hS : va_S (lwA s) s.heap H locs) (hl : lv_has ls 8 [(0, .ref (b)), (1, .ref (q 0)), (2, .ref (r 0)), (3, .ref (o)), (4, .int (nI (6 * t)))]) (back : ∀ (x' : SX × (Nat → Int64)) (w' : SM) (H' : Heap) (locs' : List Loc) (ls' : Array Slot), wf_In x'.1 w' → va_P D vwCl (wL o ko q κ r μ x' w') H' → va_D (lwA s) (wL o ko q κ r μ x' w') → va_S (lwA s) s.heap H' locs' → lv_has ls' 8 [(0, .ref (b)), (1, .ref (q 0)), (2, .ref (r 0)), (3, .ref (o)), (4, .int (nI (6 * t)))] → W p l e room_1 s m #[Value.ref b] below meth c H' locs' (12 + (t + 1)) (1905 + 6 * (t + 1)) (lw_Z below #[Value.ref b] s) (F0 m 1124 ls' [])) : W p l e room_1 s m #[Value.ref b] below meth c H locs (12 + t) (1905 + 6 * t) (lw_Z below #[Value.ref b] s) (F0 m 565 ls []) := by
  obtain ⟨hx, hb, hr, hml, hown, hts0, hX, hbl, hlocks, hgv⟩ := C0
  have hts := fun w h => hts0 w (wG_tbl h)
  have C : CallFix p m c code 8 s #[Value.ref b] wG RL := ⟨hx, hb, hml, hown, hts⟩
  have hA : ∀ z : Nat, s.heap.size ≤ z → lwA s z := fun _ h => h
  have hbA : ¬ lwA s b := Nat.not_le.mpr hbl
  refine lv_aload_n hx hb d_law_565 rfl (lv_at hl 1 rfl) ?_
  refine lv_aload_n hx hb d_law_566 rfl (lv_at hl 0 rfl) ?_
  refine lv_iload hx hb d_law_567 (lv_at hl 4 rfl) ?_
  refine lv_iconst (v := 1) hx hb d_law_569 (by decide) ?_
  refine lv_iadd hx hb d_law_570 ?_
  refine lw_ld hx hb hX hbl hbA hS (k := 6 * t + 1) (nI_add (6 * t) 1) (by omega) hL d_law_571 ?_
  rw [era]
  refine lv_aload_n hx hb d_law_572 rfl (lv_at hl 0 rfl) ?_
  refine lv_iload hx hb d_law_573 (lv_at hl 4 rfl) ?_
  refine lv_iconst (v := 2) hx hb d_law_575 (by decide) ?_
  refine lv_iadd hx hb d_law_576 ?_
  refine lw_ld hx hb hX hbl hbA hS (k := 6 * t + 2) (nI_add (6 * t) 2) (by omega) hL d_law_577 ?_
  rw [erb]
  refine lv_aload_n hx hb d_law_578 rfl (lv_at hl 0 rfl) ?_
  refine lv_iload hx hb d_law_579 (lv_at hl 4 rfl) ?_
  refine lv_iconst (v := 3) hx hb d_law_581 (by decide) ?_
  refine lv_iadd hx hb d_law_582 ?_
  refine lw_ld hx hb hX hbl hbA hS (k := 6 * t + 3) (nI_add (6 * t) 3) (by omega) hL d_law_583 ?_
  rw [ero]
  refine lv_aload_n hx hb d_law_584 rfl (lv_at hl 0 rfl) ?_
  refine lv_iload hx hb d_law_585 (lv_at hl 4 rfl) ?_
  refine lv_iconst (v := 4) hx hb d_law_587 (by decide) ?_
  refine lv_iadd hx hb d_law_588 ?_
  refine lw_ld hx hb hX hbl hbA hS (k := 6 * t + 4) (nI_add (6 * t) 4) (by omega) hL d_law_589 ?_
  rw [ert]
  have hPc := hP.sub (ws' := wXO o ko q κ x) [0, 1, 2, 3, 4, 5] rfl
  have hDc := hD.sub (ws' := wXO o ko q κ x) [0, 1, 2, 3, 4, 5] (by decide) rfl
  have hKc := hK.sub (tys' := tyXO ko κ) [0, 1, 2, 3, 4] rfl
  refine wj_i (ws := wL o ko q κ r μ x w) (wc := wXO o ko q κ x) (wr := wM r μ w) (mkAll := fun z => wL o ko q κ r μ z w) [0, 1, 2, 3, 4, 5] [6, 7, 8, 9, 10, 11] [6, 7, 8, 9, 10, 11, 0, 1, 2, 3, 4, 5] rfl rfl (by decide) (by decide) (by decide) (fun _ => rfl) (wx_runSH (n := 5) (As := [.ref (q 0), .int (nI ra), .int (nI rb), .int (nI ro), .int (nI rt)]) (rest := []) C (c_L_divide_zero l hst D q κ o ko x ra hra rb hrb ro hro rt hrt hne (by rw [hIn.1 rb hrb]; exact hb0) H.size) (wG_SH (fun _ h => h) k_ml_L_93 k_st_L_divide k_in_L k_L_divide) rfl rfl rfl ⟨rfl, by decide, by decide, by decide +kernel⟩ ⟨Nat.le_of_ble_eq_true rfl, Nat.le_of_ble_eq_true rfl⟩ ⟨wf_blindO, wf_preO hPc hKc hDc hAll (fun z hz => hS.2.1 z hz (Nat.not_le.mpr hz))⟩ rfl hl.1 rfl (Nat.le_of_ble_eq_true rfl) d_law_590 ⟨by show _ ≤ 1041; omega, by show _ ≤ 10127; omega⟩) (fun _ h => h) hS hP hD hA (fun kr x1 H locs ew hP hD hS => ?_)
  obtain ⟨k0, ew⟩ := ew
  subst k0
  refine lv_istore (lv' := [(5, .int (3)), (0, .ref (b)), (1, .ref (q 0)), (2, .ref (r 0)), (3, .ref (o)), (4, .int (nI (6 * t)))]) hx hb d_law_593 hl (by decide) rfl (fun ls hl => ?_)
  refine lv_aload_n hx hb d_law_595 rfl (lv_at hl 3 rfl) ?_
  refine lv_aload_n hx hb d_law_596 rfl (lv_at hl 1 rfl) ?_
  refine lv_iload hx hb d_law_597 (lv_at hl 5 rfl) ?_
  refine lv_iconst (v := 1) hx hb d_law_599 (by decide) ?_
  refine lv_iadd hx hb d_law_600 ?_
  refine lw_ld hx hb hX hbl hbA hS (k := 6 * t + 1) (nI_add (6 * t) 1) (by omega) hL d_law_601 ?_
  rw [era]
  refine lv_aload_n hx hb d_law_602 rfl (lv_at hl 1 rfl) ?_
  refine lv_iload hx hb d_law_603 (lv_at hl 5 rfl) ?_
  refine lv_iconst (v := 2) hx hb d_law_605 (by decide) ?_
  refine lv_iadd hx hb d_law_606 ?_
  refine lw_ld hx hb hX hbl hbA hS (k := 6 * t + 2) (nI_add (6 * t) 2) (by omega) hL d_law_607 ?_
  rw [erb]
  refine lv_aload_n hx hb d_law_608 rfl (lv_at hl 1 rfl) ?_
  refine lv_iload hx hb d_law_609 (lv_at hl 5 rfl) ?_
  refine lv_iconst (v := 3) hx hb d_law_611 (by decide) ?_
  refine lv_iadd hx hb d_law_612 ?_
  refine lw_ld hx hb hX hbl hbA hS (k := 6 * t + 3) (nI_add (6 * t) 3) (by omega) hL d_law_613 ?_
  rw [ero]
  refine lv_aload_n hx hb d_law_614 rfl (lv_at hl 1 rfl) ?_
  refine lv_iload hx hb d_law_615 (lv_at hl 5 rfl) ?_
  refine lv_iconst (v := 4) hx hb d_law_617 (by decide) ?_
  refine lv_iadd hx hb d_law_618 ?_
  refine lw_ld hx hb hX hbl hbA hS (k := 6 * t + 4) (nI_add (6 * t) 4) (by omega) hL d_law_619 ?_
  rw [ert]
  have hPc := hP.sub (ws' := wM r μ w) [6, 7, 8, 9, 10, 11] rfl
  have hDc := hD.sub (ws' := wM r μ w) [6, 7, 8, 9, 10, 11] (by decide) rfl
  have hKc := hK.sub (tys' := tyM μ) [5, 6, 7, 8, 9] rfl
  refine wj_v (ws := wL o ko q κ r μ x1 w) (wc := wM r μ w) (wr := wXO o ko q κ x1) (mkAll := fun z => wL o ko q κ r μ x1 z) [6, 7, 8, 9, 10, 11] [0, 1, 2, 3, 4, 5] [0, 1, 2, 3, 4, 5, 6, 7, 8, 9, 10, 11] rfl rfl (by decide) (by decide) (by decide) (fun _ => rfl) (va_runV (As := [.int (nI ra), .int (nI rb), .int (nI ro), .int (nI rt)]) (rest := []) C (c_M_divideZero l D r μ w ra hra rb hrb ro hro rt hrt hne hb0 H.size) (cwV 4 C.2.2.2.2 (wG_V (fun _ h => h) k_ml_L_95 k_im_M_divide k_se_M_divide k_in_M k_M_divide) rfl rfl rfl (by decide +kernel) ⟨Nat.le_of_ble_eq_true rfl, Nat.le_of_ble_eq_true rfl⟩) ⟨wf_blind, va_recv hKc hPc (ci := 1) (q0 := 0) rfl rfl, wf_pre hPc hKc hDc⟩ rfl rfl hl.1 rfl (lv_room (Nat.le_of_ble_eq_true rfl)) d_law_620 ⟨by show _ ≤ 1041; omega, by show _ ≤ 10127; omega⟩) (fun _ h => h) hS hP hD hA (fun w1 H locs em hP hD hS => ?_)
  have hcode : w1.1 = 3 := by rw [em]
  have hIn1 : wf_In x1.1 w1 := by rw [ew]; exact In_code hIn em
  refine lv_aload_n hx hb d_law_623 rfl (lv_at hl 3 rfl) ?_
  have hPc := hP.sub (ws' := wM r μ w1) [6, 7, 8, 9, 10, 11] rfl
  have hDc := hD.sub (ws' := wM r μ w1) [6, 7, 8, 9, 10, 11] (by decide) rfl
  have hKc := hK.sub (tys' := tyM μ) [5, 6, 7, 8, 9] rfl
  refine vp_callSi (W.runV (As := []) (rest := []) C (c_M_thrown l D r μ w1 H.size) (cwV 0 C.2.2.2.2 (wG_V (fun _ h => h) k_ml_L_74 k_im_M_thrown k_se_M_thrown k_in_M k_M_thrown) rfl rfl rfl (by decide +kernel) ⟨Nat.le_of_ble_eq_true rfl, Nat.le_of_ble_eq_true rfl⟩) ⟨wf_blind, va_recv hKc hPc (ci := 1) (q0 := 0) rfl rfl, wf_pre hPc hKc hDc⟩ rfl rfl hl.1 rfl (lv_room (Nat.le_of_ble_eq_true rfl)) d_law_624 ⟨by show _ ≤ 1041; omega, by show _ ≤ 10127; omega⟩) (fun tr htr => ?_)
  refine lv_iload hx hb d_law_627 (lv_at hl 0 rfl) ?_
  refine lv_icmp_eq (tgt := 634) hx hb d_law_629 (by decide) (fun c_1 => ?_) (fun c_1 => False.elim (by first | exact absurd (htr.trans hcode) c_1 | exact absurd c_1 (htr.trans hcode)))
  refine lv_goto (tgt := 1124) hx hb d_law_634 (by decide) ?_
  refine W.widen (k := 12 + (t + 1)) (n := 1905 + 6 * (t + 1)) (by omega) (by omega) ?_
  exact back x1 w1 H locs ls hIn1 hP hD hS (lv_sub hl [1, 2, 3, 4, 5] rfl)

set_option maxHeartbeats 4000000 in
set_option maxRecDepth 100000 in
theorem law_5_bad {p : Program} {l : Launch} {e : Env} {s : State} {m : MethodId} {below : List Frame} {meth : Method} {c : Code} {D : va_G} {q r : Nat → Nat} {κ μ : Nat → ClassId} {o : Nat} {ko : ClassId} {b L : Nat} {xs : Nat → Int32} {t : Nat} {x : SX × (Nat → Int64)} {w : SM} {H : Heap} {locs : List Loc} {ls : Array Slot} (hst : l.stackTraces = false) (hL : L ≤ 3072) (C0 : lw_At p s m meth c b L xs) (hAll : wx_All s) (hK : va_K D vwCl (tyL ko κ μ) s) (ht : 6 * t + 6 ≤ L) (hbad : ((wf_no (xs (6 * t + 1)) || wf_no (xs (6 * t + 2)) || wf_no (xs (6 * t + 3)) || wf_no (xs (6 * t + 4))) || (decide ((xs (6 * t + 3)) = (xs (6 * t + 4))))) = true) (hIn : wf_In x.1 w) (hP : va_P D vwCl (wL o ko q κ r μ x w) H) (hD : va_D (lwA s) (wL o ko q κ r μ x w)) (hS : va_S (lwA s) s.heap H locs) (hl : lv_has ls 8 [(0, .ref (b)), (1, .ref (q 0)), (2, .ref (r 0)), (3, .ref (o)), (4, .int (nI (6 * t)))]) (back : ∀ (x' : SX × (Nat → Int64)) (w' : SM) (H' : Heap) (locs' : List Loc) (ls' : Array Slot), wf_In x'.1 w' → va_P D vwCl (wL o ko q κ r μ x' w') H' → va_D (lwA s) (wL o ko q κ r μ x' w') → va_S (lwA s) s.heap H' locs' → lv_has ls' 8 [(0, .ref (b)), (1, .ref (q 0)), (2, .ref (r 0)), (3, .ref (o)), (4, .int (nI (6 * t)))] → W p l e room_1 s m #[Value.ref b] below meth c H' locs' (12 + (t + 1)) (1905 + 6 * (t + 1)) (lw_Z below #[Value.ref b] s) (F0 m 1124 ls' [])) : W p l e room_1 s m #[Value.ref b] below meth c H locs (12 + t) (1905 + 6 * t) (lw_Z below #[Value.ref b] s) (F0 m 565 ls []) := by
  obtain ⟨hx, hb, hr, hml, hown, hts0, hX, hbl, hlocks, hgv⟩ := C0
  have hts := fun w h => hts0 w (wG_tbl h)
  have C : CallFix p m c code 8 s #[Value.ref b] wG RL := ⟨hx, hb, hml, hown, hts⟩
  have hA : ∀ z : Nat, s.heap.size ≤ z → lwA s z := fun _ h => h
  have hbA : ¬ lwA s b := Nat.not_le.mpr hbl
  refine lv_aload_n hx hb d_law_565 rfl (lv_at hl 1 rfl) ?_
  refine lv_aload_n hx hb d_law_566 rfl (lv_at hl 0 rfl) ?_
  refine lv_iload hx hb d_law_567 (lv_at hl 4 rfl) ?_
  refine lv_iconst (v := 1) hx hb d_law_569 (by decide) ?_
  refine lv_iadd hx hb d_law_570 ?_
  refine lw_ld hx hb hX hbl hbA hS (k := 6 * t + 1) (nI_add (6 * t) 1) (by omega) hL d_law_571 ?_
  refine lv_aload_n hx hb d_law_572 rfl (lv_at hl 0 rfl) ?_
  refine lv_iload hx hb d_law_573 (lv_at hl 4 rfl) ?_
  refine lv_iconst (v := 2) hx hb d_law_575 (by decide) ?_
  refine lv_iadd hx hb d_law_576 ?_
  refine lw_ld hx hb hX hbl hbA hS (k := 6 * t + 2) (nI_add (6 * t) 2) (by omega) hL d_law_577 ?_
  refine lv_aload_n hx hb d_law_578 rfl (lv_at hl 0 rfl) ?_
  refine lv_iload hx hb d_law_579 (lv_at hl 4 rfl) ?_
  refine lv_iconst (v := 3) hx hb d_law_581 (by decide) ?_
  refine lv_iadd hx hb d_law_582 ?_
  refine lw_ld hx hb hX hbl hbA hS (k := 6 * t + 3) (nI_add (6 * t) 3) (by omega) hL d_law_583 ?_
  refine lv_aload_n hx hb d_law_584 rfl (lv_at hl 0 rfl) ?_
  refine lv_iload hx hb d_law_585 (lv_at hl 4 rfl) ?_
  refine lv_iconst (v := 4) hx hb d_law_587 (by decide) ?_
  refine lv_iadd hx hb d_law_588 ?_
  refine lw_ld hx hb hX hbl hbA hS (k := 6 * t + 4) (nI_add (6 * t) 4) (by omega) hL d_law_589 ?_
  have hPc := hP.sub (ws' := wXO o ko q κ x) [0, 1, 2, 3, 4, 5] rfl
  have hDc := hD.sub (ws' := wXO o ko q κ x) [0, 1, 2, 3, 4, 5] (by decide) rfl
  have hKc := hK.sub (tys' := tyXO ko κ) [0, 1, 2, 3, 4] rfl
  refine wj_i (ws := wL o ko q κ r μ x w) (wc := wXO o ko q κ x) (wr := wM r μ w) (mkAll := fun z => wL o ko q κ r μ z w) [0, 1, 2, 3, 4, 5] [6, 7, 8, 9, 10, 11] [6, 7, 8, 9, 10, 11, 0, 1, 2, 3, 4, 5] rfl rfl (by decide) (by decide) (by decide) (fun _ => rfl) (wx_runSH (n := 5) (As := [.ref (q 0), .int (xs (6 * t + 1)), .int (xs (6 * t + 2)), .int (xs (6 * t + 3)), .int (xs (6 * t + 4))]) (rest := []) C (c_L_divide_bad l hst D q κ o ko x (xs (6 * t + 1)) (xs (6 * t + 2)) (xs (6 * t + 3)) (xs (6 * t + 4)) hbad H.size) (wG_SH (fun _ h => h) k_ml_L_93 k_st_L_divide k_in_L k_L_divide) rfl rfl rfl ⟨rfl, by decide, by decide, by decide +kernel⟩ ⟨Nat.le_of_ble_eq_true rfl, Nat.le_of_ble_eq_true rfl⟩ ⟨wf_blindO, wf_preO hPc hKc hDc hAll (fun z hz => hS.2.1 z hz (Nat.not_le.mpr hz))⟩ rfl hl.1 rfl (Nat.le_of_ble_eq_true rfl) d_law_590 ⟨by show _ ≤ 1041; omega, by show _ ≤ 10127; omega⟩) (fun _ h => h) hS hP hD hA (fun kr x1 H locs ew hP hD hS => ?_)
  obtain ⟨k0, ew⟩ := ew
  subst k0
  rw [ew] at hP hD
  have hP : va_P D vwCl (wL o ko q κ r μ x w) H := hP
  have hD : va_D (lwA s) (wL o ko q κ r μ x w) := hD
  refine lv_topi (fun v_1 ev_1 => ?_)
  refine lv_istore (lv' := [(5, .int (v_1)), (0, .ref (b)), (1, .ref (q 0)), (2, .ref (r 0)), (3, .ref (o)), (4, .int (nI (6 * t)))]) hx hb d_law_593 hl (by decide) rfl (fun ls hl => ?_)
  refine lv_aload_n hx hb d_law_595 rfl (lv_at hl 3 rfl) ?_
  refine lv_aload_n hx hb d_law_596 rfl (lv_at hl 1 rfl) ?_
  refine lv_iload hx hb d_law_597 (lv_at hl 5 rfl) ?_
  refine lv_iconst (v := 1) hx hb d_law_599 (by decide) ?_
  refine lv_iadd hx hb d_law_600 ?_
  refine lw_ld hx hb hX hbl hbA hS (k := 6 * t + 1) (nI_add (6 * t) 1) (by omega) hL d_law_601 ?_
  refine lv_aload_n hx hb d_law_602 rfl (lv_at hl 1 rfl) ?_
  refine lv_iload hx hb d_law_603 (lv_at hl 5 rfl) ?_
  refine lv_iconst (v := 2) hx hb d_law_605 (by decide) ?_
  refine lv_iadd hx hb d_law_606 ?_
  refine lw_ld hx hb hX hbl hbA hS (k := 6 * t + 2) (nI_add (6 * t) 2) (by omega) hL d_law_607 ?_
  refine lv_aload_n hx hb d_law_608 rfl (lv_at hl 1 rfl) ?_
  refine lv_iload hx hb d_law_609 (lv_at hl 5 rfl) ?_
  refine lv_iconst (v := 3) hx hb d_law_611 (by decide) ?_
  refine lv_iadd hx hb d_law_612 ?_
  refine lw_ld hx hb hX hbl hbA hS (k := 6 * t + 3) (nI_add (6 * t) 3) (by omega) hL d_law_613 ?_
  refine lv_aload_n hx hb d_law_614 rfl (lv_at hl 1 rfl) ?_
  refine lv_iload hx hb d_law_615 (lv_at hl 5 rfl) ?_
  refine lv_iconst (v := 4) hx hb d_law_617 (by decide) ?_
  refine lv_iadd hx hb d_law_618 ?_
  refine lw_ld hx hb hX hbl hbA hS (k := 6 * t + 4) (nI_add (6 * t) 4) (by omega) hL d_law_619 ?_
  have hPc := hP.sub (ws' := wM r μ w) [6, 7, 8, 9, 10, 11] rfl
  have hDc := hD.sub (ws' := wM r μ w) [6, 7, 8, 9, 10, 11] (by decide) rfl
  have hKc := hK.sub (tys' := tyM μ) [5, 6, 7, 8, 9] rfl
  refine wj_v (ws := wL o ko q κ r μ x w) (wc := wM r μ w) (wr := wXO o ko q κ x) (mkAll := fun z => wL o ko q κ r μ x z) [6, 7, 8, 9, 10, 11] [0, 1, 2, 3, 4, 5] [0, 1, 2, 3, 4, 5, 6, 7, 8, 9, 10, 11] rfl rfl (by decide) (by decide) (by decide) (fun _ => rfl) (va_runV (As := [.int (xs (6 * t + 1)), .int (xs (6 * t + 2)), .int (xs (6 * t + 3)), .int (xs (6 * t + 4))]) (rest := []) C (c_M_divideBad l D r μ w (xs (6 * t + 1)) (xs (6 * t + 2)) (xs (6 * t + 3)) (xs (6 * t + 4)) hbad H.size) (cwV 4 C.2.2.2.2 (wG_V (fun _ h => h) k_ml_L_95 k_im_M_divide k_se_M_divide k_in_M k_M_divide) rfl rfl rfl (by decide +kernel) ⟨Nat.le_of_ble_eq_true rfl, Nat.le_of_ble_eq_true rfl⟩) ⟨wf_blind, va_recv hKc hPc (ci := 1) (q0 := 0) rfl rfl, wf_pre hPc hKc hDc⟩ rfl rfl hl.1 rfl (lv_room (Nat.le_of_ble_eq_true rfl)) d_law_620 ⟨by show _ ≤ 1041; omega, by show _ ≤ 10127; omega⟩) (fun _ h => h) hS hP hD hA (fun w1 H locs em hP hD hS => ?_)
  refine lv_aload_n hx hb d_law_623 rfl (lv_at hl 3 rfl) ?_
  have hPc := hP.sub (ws' := wM r μ w1) [6, 7, 8, 9, 10, 11] rfl
  have hDc := hD.sub (ws' := wM r μ w1) [6, 7, 8, 9, 10, 11] (by decide) rfl
  have hKc := hK.sub (tys' := tyM μ) [5, 6, 7, 8, 9] rfl
  refine vp_callSi (W.runV (As := []) (rest := []) C (c_M_thrown l D r μ w1 H.size) (cwV 0 C.2.2.2.2 (wG_V (fun _ h => h) k_ml_L_74 k_im_M_thrown k_se_M_thrown k_in_M k_M_thrown) rfl rfl rfl (by decide +kernel) ⟨Nat.le_of_ble_eq_true rfl, Nat.le_of_ble_eq_true rfl⟩) ⟨wf_blind, va_recv hKc hPc (ci := 1) (q0 := 0) rfl rfl, wf_pre hPc hKc hDc⟩ rfl rfl hl.1 rfl (lv_room (Nat.le_of_ble_eq_true rfl)) d_law_624 ⟨by show _ ≤ 1041; omega, by show _ ≤ 10127; omega⟩) (fun tr htr => ?_)
  refine lv_iload hx hb d_law_627 (lv_at hl 0 rfl) ?_
  refine lv_icmp_eq (tgt := 634) hx hb d_law_629 (by decide) (fun c_2 => ?_) (fun c_2 => False.elim (by first | exact absurd (htr.trans (by rw [em, ev_1])) c_2 | exact absurd c_2 (htr.trans (by rw [em, ev_1]))))
  refine lv_goto (tgt := 1124) hx hb d_law_634 (by decide) ?_
  refine W.widen (k := 12 + (t + 1)) (n := 1905 + 6 * (t + 1)) (by omega) (by omega) ?_
  exact back x w1 H locs ls (In_code hIn em) hP hD hS (lv_sub hl [1, 2, 3, 4, 5] rfl)

set_option maxHeartbeats 4000000 in
set_option maxRecDepth 100000 in
theorem law_6_ok {p : Program} {l : Launch} {e : Env} {s : State} {m : MethodId} {below : List Frame} {meth : Method} {c : Code} {D : va_G} {q r : Nat → Nat} {κ μ : Nat → ClassId} {o : Nat} {ko : ClassId} {b L : Nat} {xs : Nat → Int32} {t : Nat} {x : SX × (Nat → Int64)} {w : SM} {H : Heap} {locs : List Loc} {ls : Array Slot} (hst : l.stackTraces = false) (hL : L ≤ 3072) (C0 : lw_At p s m meth c b L xs) (hAll : wx_All s) (hK : va_K D vwCl (tyL ko κ μ) s) (ht : 6 * t + 6 ≤ L) {ra : Nat} (hra : ra < 8) (era : xs (6 * t + 1) = nI ra) {ro : Nat} (hro : ro < 8) (ero : xs (6 * t + 2) = nI ro) {rt : Nat} (hrt : rt < 8) (ert : xs (6 * t + 3) = nI rt) (hne : ¬ nI ro = nI rt) (hIn : wf_In x.1 w) (hP : va_P D vwCl (wL o ko q κ r μ x w) H) (hD : va_D (lwA s) (wL o ko q κ r μ x w)) (hS : va_S (lwA s) s.heap H locs) (hl : lv_has ls 8 [(0, .ref (b)), (1, .ref (q 0)), (2, .ref (r 0)), (3, .ref (o)), (4, .int (nI (6 * t)))]) (back : ∀ (x' : SX × (Nat → Int64)) (w' : SM) (H' : Heap) (locs' : List Loc) (ls' : Array Slot), wf_In x'.1 w' → va_P D vwCl (wL o ko q κ r μ x' w') H' → va_D (lwA s) (wL o ko q κ r μ x' w') → va_S (lwA s) s.heap H' locs' → lv_has ls' 8 [(0, .ref (b)), (1, .ref (q 0)), (2, .ref (r 0)), (3, .ref (o)), (4, .int (nI (6 * t)))] → W p l e room_1 s m #[Value.ref b] below meth c H' locs' (12 + (t + 1)) (1905 + 6 * (t + 1)) (lw_Z below #[Value.ref b] s) (F0 m 1124 ls' [])) : W p l e room_1 s m #[Value.ref b] below meth c H locs (12 + t) (1905 + 6 * t) (lw_Z below #[Value.ref b] s) (F0 m 637 ls []) := by
  obtain ⟨hx, hb, hr, hml, hown, hts0, hX, hbl, hlocks, hgv⟩ := C0
  have hts := fun w h => hts0 w (wG_tbl h)
  have C : CallFix p m c code 8 s #[Value.ref b] wG RL := ⟨hx, hb, hml, hown, hts⟩
  have hA : ∀ z : Nat, s.heap.size ≤ z → lwA s z := fun _ h => h
  have hbA : ¬ lwA s b := Nat.not_le.mpr hbl
  refine lv_aload_n hx hb d_law_637 rfl (lv_at hl 1 rfl) ?_
  refine lv_aload_n hx hb d_law_638 rfl (lv_at hl 0 rfl) ?_
  refine lv_iload hx hb d_law_639 (lv_at hl 4 rfl) ?_
  refine lv_iconst (v := 1) hx hb d_law_641 (by decide) ?_
  refine lv_iadd hx hb d_law_642 ?_
  refine lw_ld hx hb hX hbl hbA hS (k := 6 * t + 1) (nI_add (6 * t) 1) (by omega) hL d_law_643 ?_
  rw [era]
  refine lv_aload_n hx hb d_law_644 rfl (lv_at hl 0 rfl) ?_
  refine lv_iload hx hb d_law_645 (lv_at hl 4 rfl) ?_
  refine lv_iconst (v := 2) hx hb d_law_647 (by decide) ?_
  refine lv_iadd hx hb d_law_648 ?_
  refine lw_ld hx hb hX hbl hbA hS (k := 6 * t + 2) (nI_add (6 * t) 2) (by omega) hL d_law_649 ?_
  rw [ero]
  refine lv_aload_n hx hb d_law_650 rfl (lv_at hl 0 rfl) ?_
  refine lv_iload hx hb d_law_651 (lv_at hl 4 rfl) ?_
  refine lv_iconst (v := 3) hx hb d_law_653 (by decide) ?_
  refine lv_iadd hx hb d_law_654 ?_
  refine lw_ld hx hb hX hbl hbA hS (k := 6 * t + 3) (nI_add (6 * t) 3) (by omega) hL d_law_655 ?_
  rw [ert]
  have hPc := hP.sub (ws' := wXO o ko q κ x) [0, 1, 2, 3, 4, 5] rfl
  have hDc := hD.sub (ws' := wXO o ko q κ x) [0, 1, 2, 3, 4, 5] (by decide) rfl
  have hKc := hK.sub (tys' := tyXO ko κ) [0, 1, 2, 3, 4] rfl
  refine wj_i (ws := wL o ko q κ r μ x w) (wc := wXO o ko q κ x) (wr := wM r μ w) (mkAll := fun z => wL o ko q κ r μ z w) [0, 1, 2, 3, 4, 5] [6, 7, 8, 9, 10, 11] [6, 7, 8, 9, 10, 11, 0, 1, 2, 3, 4, 5] rfl rfl (by decide) (by decide) (by decide) (fun _ => rfl) (wx_runSH (n := 4) (As := [.ref (q 0), .int (nI ra), .int (nI ro), .int (nI rt)]) (rest := []) C (c_L_root_ok l hst D q κ o ko x ra hra ro hro rt hrt hne H.size) (wG_SH (fun _ h => h) k_ml_L_96 k_st_L_root k_in_L k_L_root) rfl rfl rfl ⟨rfl, by decide, by decide, by decide +kernel⟩ ⟨Nat.le_of_ble_eq_true rfl, Nat.le_of_ble_eq_true rfl⟩ ⟨wf_blindO, wf_preO hPc hKc hDc hAll (fun z hz => hS.2.1 z hz (Nat.not_le.mpr hz))⟩ rfl hl.1 rfl (Nat.le_of_ble_eq_true rfl) d_law_656 ⟨by show _ ≤ 1041; omega, by show _ ≤ 10127; omega⟩) (fun _ h => h) hS hP hD hA (fun kr x1 H locs ew hP hD hS => ?_)
  obtain ⟨k0, ew⟩ := ew
  subst k0
  refine lv_istore (lv' := [(5, .int (0)), (0, .ref (b)), (1, .ref (q 0)), (2, .ref (r 0)), (3, .ref (o)), (4, .int (nI (6 * t)))]) hx hb d_law_659 hl (by decide) rfl (fun ls hl => ?_)
  refine lv_aload_n hx hb d_law_661 rfl (lv_at hl 3 rfl) ?_
  refine lv_aload_n hx hb d_law_662 rfl (lv_at hl 1 rfl) ?_
  refine lv_iload hx hb d_law_663 (lv_at hl 5 rfl) ?_
  refine lv_iconst (v := 1) hx hb d_law_665 (by decide) ?_
  refine lv_iadd hx hb d_law_666 ?_
  refine lw_ld hx hb hX hbl hbA hS (k := 6 * t + 1) (nI_add (6 * t) 1) (by omega) hL d_law_667 ?_
  rw [era]
  refine lv_aload_n hx hb d_law_668 rfl (lv_at hl 1 rfl) ?_
  refine lv_iload hx hb d_law_669 (lv_at hl 5 rfl) ?_
  refine lv_iconst (v := 2) hx hb d_law_671 (by decide) ?_
  refine lv_iadd hx hb d_law_672 ?_
  refine lw_ld hx hb hX hbl hbA hS (k := 6 * t + 2) (nI_add (6 * t) 2) (by omega) hL d_law_673 ?_
  rw [ero]
  refine lv_aload_n hx hb d_law_674 rfl (lv_at hl 1 rfl) ?_
  refine lv_iload hx hb d_law_675 (lv_at hl 5 rfl) ?_
  refine lv_iconst (v := 3) hx hb d_law_677 (by decide) ?_
  refine lv_iadd hx hb d_law_678 ?_
  refine lw_ld hx hb hX hbl hbA hS (k := 6 * t + 3) (nI_add (6 * t) 3) (by omega) hL d_law_679 ?_
  rw [ert]
  have hPc := hP.sub (ws' := wM r μ w) [6, 7, 8, 9, 10, 11] rfl
  have hDc := hD.sub (ws' := wM r μ w) [6, 7, 8, 9, 10, 11] (by decide) rfl
  have hKc := hK.sub (tys' := tyM μ) [5, 6, 7, 8, 9] rfl
  refine wj_v (ws := wL o ko q κ r μ x1 w) (wc := wM r μ w) (wr := wXO o ko q κ x1) (mkAll := fun z => wL o ko q κ r μ x1 z) [6, 7, 8, 9, 10, 11] [0, 1, 2, 3, 4, 5] [0, 1, 2, 3, 4, 5, 6, 7, 8, 9, 10, 11] rfl rfl (by decide) (by decide) (by decide) (fun _ => rfl) (va_runV (As := [.int (nI ra), .int (nI ro), .int (nI rt)]) (rest := []) C (c_M_root l D r μ w ra hra ro hro rt hrt hne H.size) (cwV 3 C.2.2.2.2 (wG_V (fun _ h => h) k_ml_L_99 k_im_M_root k_se_M_root k_in_M k_M_root) rfl rfl rfl (by decide +kernel) ⟨Nat.le_of_ble_eq_true rfl, Nat.le_of_ble_eq_true rfl⟩) ⟨wf_blind, va_recv hKc hPc (ci := 1) (q0 := 0) rfl rfl, wf_pre hPc hKc hDc⟩ rfl rfl hl.1 rfl (lv_room (Nat.le_of_ble_eq_true rfl)) d_law_680 ⟨by show _ ≤ 1041; omega, by show _ ≤ 10127; omega⟩) (fun _ h => h) hS hP hD hA (fun w1 H locs em hP hD hS => ?_)
  obtain ⟨⟨g, d, ⟨a1, a2, a3⟩, y, ex, ex2⟩, ez⟩ := ew
  obtain ⟨g2, d2, ⟨b1, b2, b3⟩, em⟩ := em
  have hcode := em.1
  rw [hIn.1 ra hra] at a1
  obtain ⟨eg, ed⟩ := wf_root_one a1 a2 b1 b2
  have hIn1 : wf_In x1.1 w1 := In_two hIn ex ex2 em eg ed
  refine lv_aload_n hx hb d_law_683 rfl (lv_at hl 3 rfl) ?_
  have hPc := hP.sub (ws' := wM r μ w1) [6, 7, 8, 9, 10, 11] rfl
  have hDc := hD.sub (ws' := wM r μ w1) [6, 7, 8, 9, 10, 11] (by decide) rfl
  have hKc := hK.sub (tys' := tyM μ) [5, 6, 7, 8, 9] rfl
  refine vp_callSi (W.runV (As := []) (rest := []) C (c_M_thrown l D r μ w1 H.size) (cwV 0 C.2.2.2.2 (wG_V (fun _ h => h) k_ml_L_74 k_im_M_thrown k_se_M_thrown k_in_M k_M_thrown) rfl rfl rfl (by decide +kernel) ⟨Nat.le_of_ble_eq_true rfl, Nat.le_of_ble_eq_true rfl⟩) ⟨wf_blind, va_recv hKc hPc (ci := 1) (q0 := 0) rfl rfl, wf_pre hPc hKc hDc⟩ rfl rfl hl.1 rfl (lv_room (Nat.le_of_ble_eq_true rfl)) d_law_684 ⟨by show _ ≤ 1041; omega, by show _ ≤ 10127; omega⟩) (fun tr htr => ?_)
  refine lv_iload hx hb d_law_687 (lv_at hl 0 rfl) ?_
  refine lv_icmp_eq (tgt := 694) hx hb d_law_689 (by decide) (fun c_1 => ?_) (fun c_1 => False.elim (by first | exact absurd (htr.trans hcode) c_1 | exact absurd c_1 (htr.trans hcode)))
  refine lv_goto (tgt := 1124) hx hb d_law_694 (by decide) ?_
  refine W.widen (k := 12 + (t + 1)) (n := 1905 + 6 * (t + 1)) (by omega) (by omega) ?_
  exact back x1 w1 H locs ls hIn1 hP hD hS (lv_sub hl [1, 2, 3, 4, 5] rfl)
