/-! ===== decimal digits: splitIntoParts, takeLowestDigit, partsAreZero, digits ===== -/
section WWH
variable {p : Program} {l : Launch} {e : Env} {R : Room} {s : State} {m : MethodId} {args : Array Value} {below : List Frame} {meth : Method} {c : Code} {cells slots : Nat} {Q : State → Prop} {D : va_G} {cl : List vw_C} {A : Nat → Prop} {H0 : Heap}
/-- a loop that changes its world, by a measure -/
theorem wf_whileH {σ : Type} {pc nL : Nat} (I : σ → Prop) (μ : σ → Nat) (mk : σ → va_W) (F : σ → List (Nat × Value))
    (step : ∀ (x : σ) (H : Heap) (locs : List Loc) (ls : Array Slot), I x → va_P D cl (mk x) H → va_D A (mk x) → va_S A H0 H locs → lv_has ls nL (F x) →
      (∀ (x' : σ) (H' : Heap) (locs' : List Loc) (ls' : Array Slot), I x' → μ x' < μ x → va_P D cl (mk x') H' → va_D A (mk x') → va_S A H0 H' locs' → lv_has ls' nL (F x') → W p l e R s m args below meth c H' locs' cells slots Q (F0 m pc ls' [])) → W p l e R s m args below meth c H locs cells slots Q (F0 m pc ls []))
    (x0 : σ) (h0 : I x0) {H : Heap} {locs : List Loc} {ls : Array Slot} (hP : va_P D cl (mk x0) H) (hD : va_D A (mk x0)) (hS : va_S A H0 H locs) (hl : lv_has ls nL (F x0)) : W p l e R s m args below meth c H locs cells slots Q (F0 m pc ls []) := by
  have key : ∀ (n : Nat) (x : σ) (H : Heap) (locs : List Loc) (ls : Array Slot), μ x < n → I x → va_P D cl (mk x) H → va_D A (mk x) → va_S A H0 H locs → lv_has ls nL (F x) → W p l e R s m args below meth c H locs cells slots Q (F0 m pc ls []) := by
    intro n
    induction n with
    | zero => intro x H locs ls h; omega
    | succ n ih =>
      intro x H locs ls hn hI h1 h2 h3 hl
      exact step x H locs ls hI h1 h2 h3 hl (fun x' H' locs' ls' k0 kμ k1 k2 k3 k4 => ih x' H' locs' ls' (by omega) k0 k1 k2 k3 k4)
  exact key (μ x0 + 1) x0 H locs ls (by omega) h0 hP hD hS hl
end WWH
/-- the first i parts of 32 bits, as a number -/
def wf_T (f : Nat → Int64) : Nat → Nat
  | 0 => 0
  | i + 1 => wf_T f i * 4294967296 + uN (f i)
def wf_PB (f : Nat → Int64) : Prop := ∀ k, k < 4 → uN (f k) < 4294967296
theorem wf_T_congr {f g : Nat → Int64} {i : Nat} (h : ∀ k, k < i → f k = g k) : wf_T f i = wf_T g i := by
  induction i with
  | zero => rfl
  | succ i ih => show wf_T f i * _ + _ = wf_T g i * _ + _; rw [ih (fun k hk => h k (by omega)), h i (by omega)]
theorem wf_T_up (f : Nat → Int64) (i : Nat) (x : Int64) : wf_T (va_up f i x) (i + 1) = wf_T f i * 4294967296 + uN x := by
  show wf_T (va_up f i x) i * _ + uN (va_up f i x i) = _
  rw [va_up_self, wf_T_congr (fun k hk => va_up_ne f x (show k ≠ i by omega))]
theorem wf_T4 (f : Nat → Int64) : wf_T f 4 = ((uN (f 0) * 4294967296 + uN (f 1)) * 4294967296 + uN (f 2)) * 4294967296 + uN (f 3) := by
  show (((0 * 4294967296 + uN (f 0)) * 4294967296 + uN (f 1)) * 4294967296 + uN (f 2)) * 4294967296 + uN (f 3) = _
  rw [Nat.zero_mul, Nat.zero_add]
theorem wf_div10 {x : Int64} (h : uN x < 9223372036854775808) : uN (x / 10) = uN x / 10 ∧ uN (x - x / 10 * 10) = uN x % 10 := by
  have e : x = lN (uN x) := (wf_lN_uN x).symm
  have h2 : uN x < 2 ^ 63 := h
  have d := pk_lDiv (a := uN x) (b := 10) h2 (by decide) (by decide)
  have r := pk_lRem (a := uN x) (b := 10) h2 (by decide) (by decide)
  rw [← e] at d r
  have d' : x / 10 = lN (uN x / 10) := d
  have r' : x - x / 10 * 10 = lN (uN x % 10) := r
  rw [r', d', uN_ofNat, uN_ofNat]
  omega
theorem wf_now {a b : Int64} (ha : uN a < 10) (hb : uN b < 4294967296) : uN ((a <<< ((32 : Int32).toInt64 &&& 63)) ||| b) = uN a * 4294967296 + uN b := by
  have h := wf_shl a (k := 32) (by decide)
  rw [show nI 32 = (32 : Int32) from rfl, show (2 : Nat) ^ 32 = 4294967296 from by decide, Nat.mod_eq_of_lt (by omega)] at h
  rw [uN_or', h]
  exact wf_or (k := 32) hb
theorem wf_or4 (a b c d : Int64) : lg_cmp (a ||| b ||| c ||| d) 0 = 0 ↔ ((uN a * 4294967296 + uN b) * 4294967296 + uN c) * 4294967296 + uN d = 0 := by
  rw [wf_lo0, uN_or', uN_or', uN_or', Nat.or_eq_zero_iff, Nat.or_eq_zero_iff, Nat.or_eq_zero_iff]
  omega
theorem wf_tl_step {a b n i : Nat} (h : a = 10 * b + i) : a * 4294967296 + n = 10 * (b * 4294967296 + (i * 4294967296 + n) / 10) + (i * 4294967296 + n) % 10 := by omega
theorem wf_4 {f0 : Nat → Int64} {a b c d : Int64} (ha : uN a < 4294967296) (hb : uN b < 4294967296) (hc : uN c < 4294967296) (hd : uN d < 4294967296) :
    wf_PB (va_up (va_up (va_up (va_up f0 0 a) 1 b) 2 c) 3 d) ∧ wf_T (va_up (va_up (va_up (va_up f0 0 a) 1 b) 2 c) 3 d) 4 = ((uN a * 4294967296 + uN b) * 4294967296 + uN c) * 4294967296 + uN d := by
  have e0 : va_up (va_up (va_up (va_up f0 0 a) 1 b) 2 c) 3 d 0 = a := rfl
  have e1 : va_up (va_up (va_up (va_up f0 0 a) 1 b) 2 c) 3 d 1 = b := rfl
  have e2 : va_up (va_up (va_up (va_up f0 0 a) 1 b) 2 c) 3 d 2 = c := rfl
  have e3 : va_up (va_up (va_up (va_up f0 0 a) 1 b) 2 c) 3 d 3 = d := rfl
  refine ⟨fun k hk => ?_, by rw [wf_T4, e0, e1, e2, e3]⟩
  rcases (show k = 0 ∨ k = 1 ∨ k = 2 ∨ k = 3 by omega) with rfl | rfl | rfl | rfl
  · rw [e0]; exact ha
  · rw [e1]; exact hb
  · rw [e2]; exact hc
  · rw [e3]; exact hd
theorem wf_split (h l : Int64) : ((uN h / 4294967296 * 4294967296 + uN h % 4294967296) * 4294967296 + uN l / 4294967296) * 4294967296 + uN l % 4294967296 = wf_V h l := by
  unfold wf_V
  omega
theorem wf_split4 (h l : Int64) (f0 : Nat → Int64) : wf_PB (va_up (va_up (va_up (va_up f0 0 (h.toUInt64 >>> ((32 : Int32).toInt64.toUInt64 &&& Int64.toUInt64 63)).toInt64) 1 (h &&& 4294967295)) 2 (l.toUInt64 >>> ((32 : Int32).toInt64.toUInt64 &&& Int64.toUInt64 63)).toInt64) 3 (l &&& 4294967295)) ∧
    wf_T (va_up (va_up (va_up (va_up f0 0 (h.toUInt64 >>> ((32 : Int32).toInt64.toUInt64 &&& Int64.toUInt64 63)).toInt64) 1 (h &&& 4294967295)) 2 (l.toUInt64 >>> ((32 : Int32).toInt64.toUInt64 &&& Int64.toUInt64 63)).toInt64) 3 (l &&& 4294967295)) 4 = wf_V h l := by
  have hh := uN_lt h
  have hl := uN_lt l
  obtain ⟨h1, h2⟩ := wf_4 (f0 := f0) (a := (h.toUInt64 >>> ((32 : Int32).toInt64.toUInt64 &&& Int64.toUInt64 63)).toInt64) (b := h &&& 4294967295) (c := (l.toUInt64 >>> ((32 : Int32).toInt64.toUInt64 &&& Int64.toUInt64 63)).toInt64) (d := l &&& 4294967295) (by rw [uN_s32]; omega) (by rw [uN_lo]; omega) (by rw [uN_s32]; omega) (by rw [uN_lo]; omega)
  refine ⟨h1, h2.trans ?_⟩
  rw [uN_s32, uN_lo, uN_s32, uN_lo]
  exact wf_split h l

set_option maxHeartbeats 4000000 in
set_option maxRecDepth 100000 in
/-- X_splitIntoParts -/
theorem c_X_splitIntoParts (l : Launch) (D : va_G) (q : Nat → Nat) (κ : Nat → ClassId) (u : SX) (h lo : Int64) (sz : Nat) : Met l y_X_splitIntoParts (.code y_X_splitIntoParts b_X_splitIntoParts 5 none :: wG) (wf_rm 0 0 0 0) (wf_Pc D vwCl (wX q κ u) (tyX κ) ([.ref (q 0), .long h, .long lo]) sz) (va_Qv (fun v => ∃ f : Nat → Int64, v = (u.1, u.2.1, f, u.2.2.2) ∧ wf_PB f ∧ wf_T f 4 = wf_V h lo) (wf_B D vwCl (wX q κ) (tyX κ) (va_A (wX q κ u) sz)) (va_A (wX q κ u) sz)) 0 0 (va_A (wX q κ u) sz) := by
  refine wf_open (by decide) (Nat.le_of_ble_eq_true rfl) k_X_splitIntoParts ?_
  intro p e s m below meth c ls hsz C hr hlocks hnm hex hP hK hD hl
  subst hsz
  have hx := C.1
  have hb := C.2.1
  have hml := C.2.2.1
  have hown := C.2.2.2.1
  have hts := C.2.2.2.2
  have hA : ∀ j : Nat, s.heap.size ≤ j → va_A (wX q κ u) s.heap.size j := fun j h => Or.inr h
  have hS : va_S (va_A (wX q κ u) s.heap.size) s.heap s.heap [] := va_S.rf
  generalize hAe : va_A (wX q κ u) s.heap.size = A at hA hS hD ⊢
  have hl : lv_has ls 5 [(0, .ref (q 0)), (1, .long (h)), (3, .long (lo))] := hl
  refine lv_aload_n hx hb d_X_splitIntoParts_0 rfl (lv_at hl 0 rfl) ?_
  refine gX C hK hP 0 rfl 2 (by decide) k_fl_X_parts rfl d_X_splitIntoParts_1 ?_
  refine lv_iconst (v := 0) hx hb d_X_splitIntoParts_4 (by decide) ?_
  refine lv_lload_n hx hb d_X_splitIntoParts_5 rfl (lv_at hl 1 rfl) ?_
  refine lv_bipush (v := 32) hx hb d_X_splitIntoParts_6 (by decide) ?_
  refine lv_lushr hx hb d_X_splitIntoParts_8 rfl ?_
  refine wf_last C hK hP hD hS 3 2 rfl rfl (k := 0) rfl (by decide) (by decide) d_X_splitIntoParts_9 (fun H locs hP hD hS => ?_)
  have hP : va_P D vwCl (wX q κ (u.1, u.2.1, va_up u.2.2.1 0 ((h.toUInt64 >>> ((Int32.toInt64 32).toUInt64 &&& Int64.toUInt64 63)).toInt64), u.2.2.2)) H := hP
  have hD : va_D A (wX q κ (u.1, u.2.1, va_up u.2.2.1 0 ((h.toUInt64 >>> ((Int32.toInt64 32).toUInt64 &&& Int64.toUInt64 63)).toInt64), u.2.2.2)) := hD
  generalize eu_1 : ((u.1, u.2.1, va_up u.2.2.1 0 ((h.toUInt64 >>> ((Int32.toInt64 32).toUInt64 &&& Int64.toUInt64 63)).toInt64), u.2.2.2) : SX) = u_1 at hP hD
  refine lv_aload_n hx hb d_X_splitIntoParts_10 rfl (lv_at hl 0 rfl) ?_
  refine gX C hK hP 0 rfl 2 (by decide) k_fl_X_parts rfl d_X_splitIntoParts_11 ?_
  refine lv_iconst (v := 1) hx hb d_X_splitIntoParts_14 (by decide) ?_
  refine lv_lload_n hx hb d_X_splitIntoParts_15 rfl (lv_at hl 1 rfl) ?_
  refine lv_ldc2 (v := 4294967295) hx hb hown (hts _ (k_cl_X_112)) d_X_splitIntoParts_16 ?_
  refine lv_land hx hb d_X_splitIntoParts_19 ?_
  refine wf_last C hK hP hD hS 3 2 rfl rfl (k := 1) rfl (by decide) (by decide) d_X_splitIntoParts_20 (fun H locs hP hD hS => ?_)
  have hP : va_P D vwCl (wX q κ (u_1.1, u_1.2.1, va_up u_1.2.2.1 1 (h &&& 4294967295), u_1.2.2.2)) H := hP
  have hD : va_D A (wX q κ (u_1.1, u_1.2.1, va_up u_1.2.2.1 1 (h &&& 4294967295), u_1.2.2.2)) := hD
  generalize eu_2 : ((u_1.1, u_1.2.1, va_up u_1.2.2.1 1 (h &&& 4294967295), u_1.2.2.2) : SX) = u_2 at hP hD
  refine lv_aload_n hx hb d_X_splitIntoParts_21 rfl (lv_at hl 0 rfl) ?_
  refine gX C hK hP 0 rfl 2 (by decide) k_fl_X_parts rfl d_X_splitIntoParts_22 ?_
  refine lv_iconst (v := 2) hx hb d_X_splitIntoParts_25 (by decide) ?_
  refine lv_lload_n hx hb d_X_splitIntoParts_26 rfl (lv_at hl 2 rfl) ?_
  refine lv_bipush (v := 32) hx hb d_X_splitIntoParts_27 (by decide) ?_
  refine lv_lushr hx hb d_X_splitIntoParts_29 rfl ?_
  refine wf_last C hK hP hD hS 3 2 rfl rfl (k := 2) rfl (by decide) (by decide) d_X_splitIntoParts_30 (fun H locs hP hD hS => ?_)
  have hP : va_P D vwCl (wX q κ (u_2.1, u_2.2.1, va_up u_2.2.2.1 2 ((lo.toUInt64 >>> ((Int32.toInt64 32).toUInt64 &&& Int64.toUInt64 63)).toInt64), u_2.2.2.2)) H := hP
  have hD : va_D A (wX q κ (u_2.1, u_2.2.1, va_up u_2.2.2.1 2 ((lo.toUInt64 >>> ((Int32.toInt64 32).toUInt64 &&& Int64.toUInt64 63)).toInt64), u_2.2.2.2)) := hD
  generalize eu_3 : ((u_2.1, u_2.2.1, va_up u_2.2.2.1 2 ((lo.toUInt64 >>> ((Int32.toInt64 32).toUInt64 &&& Int64.toUInt64 63)).toInt64), u_2.2.2.2) : SX) = u_3 at hP hD
  refine lv_aload_n hx hb d_X_splitIntoParts_31 rfl (lv_at hl 0 rfl) ?_
  refine gX C hK hP 0 rfl 2 (by decide) k_fl_X_parts rfl d_X_splitIntoParts_32 ?_
  refine lv_iconst (v := 3) hx hb d_X_splitIntoParts_35 (by decide) ?_
  refine lv_lload_n hx hb d_X_splitIntoParts_36 rfl (lv_at hl 2 rfl) ?_
  refine lv_ldc2 (v := 4294967295) hx hb hown (hts _ (k_cl_X_112)) d_X_splitIntoParts_37 ?_
  refine lv_land hx hb d_X_splitIntoParts_40 ?_
  refine wf_last C hK hP hD hS 3 2 rfl rfl (k := 3) rfl (by decide) (by decide) d_X_splitIntoParts_41 (fun H locs hP hD hS => ?_)
  have hP : va_P D vwCl (wX q κ (u_3.1, u_3.2.1, va_up u_3.2.2.1 3 (lo &&& 4294967295), u_3.2.2.2)) H := hP
  have hD : va_D A (wX q κ (u_3.1, u_3.2.1, va_up u_3.2.2.1 3 (lo &&& 4294967295), u_3.2.2.2)) := hD
  generalize eu_4 : ((u_3.1, u_3.2.1, va_up u_3.2.2.1 3 (lo &&& 4294967295), u_3.2.2.2) : SX) = u_4 at hP hD
  exact wf_retv C hr hlocks u_4 (⟨_, (by subst eu_1 eu_2 eu_3 eu_4; rfl : u_4 = (u.1, u.2.1, va_up (va_up (va_up (va_up u.2.2.1 0 _) 1 _) 2 _) 3 _, u.2.2.2)), wf_split4 h lo _⟩) hP hK hD hS (fun _ h => h) d_X_splitIntoParts_42

set_option maxHeartbeats 4000000 in
set_option maxRecDepth 100000 in
theorem kX_split {p : Program} {l : Launch} {e : Env} {R : Room} {s : State} {m : MethodId} {args : Array Value} {below : List Frame} {meth : Method} {c : Code} {H : Heap} {locs : List Loc} {cells slots : Nat} {Q : State → Prop} {cc : ByteArray} {pc nL : Nat} {ls : Array Slot} {rest : List Value} {D : va_G} {q : Nat → Nat} {κ : Nat → ClassId} {A : Nat → Prop} {u : SX} {h lo : Int64} (C : CallFix p m c cc nL s args wG RX) (hsz : ls.size = nL) (hR : 1 ≤ R.frames ∧ 24 ≤ R.locals) (hw : (rest.map fun v => v.category).sum ≤ 8) (hc : cells + 0 ≤ R.cells ∧ slots + 0 ≤ R.slots) (hP : va_P D vwCl (wX q κ u) H) (hK : va_K D vwCl (tyX κ) s) (hD : va_D A (wX q κ u)) (hS : va_S A s.heap H locs) (hA : ∀ q, s.heap.size ≤ q → A q) (hdg : decode cc pc = .ok (.invokevirtual 81, 3)) (kk : ∀ (v : SX) (H1 : Heap) (locs1 : List Loc), (∃ f : Nat → Int64, v = (u.1, u.2.1, f, u.2.2.2) ∧ wf_PB f ∧ wf_T f 4 = wf_V h lo) → va_P D vwCl (wX q κ v) H1 → va_D A (wX q κ v) → va_S A s.heap H1 locs1 → W p l e R s m args below meth c H1 locs1 (cells) (slots) Q (F0 m (pc + 3) ls (rest))) : W p l e R s m args below meth c H locs cells slots Q (F0 m pc ls (.long lo :: .long h :: .ref (q 0) :: rest)) := by
  exact wf_cv (va_runV (As := [.long h, .long lo]) (rest := rest) C (c_X_splitIntoParts l D q κ u h lo H.size) (cwV 2 C.2.2.2.2 (wG_V (fun _ h => h) k_ml_X_81 k_im_X_splitIntoParts k_se_X_splitIntoParts k_in_X k_X_splitIntoParts) rfl rfl rfl (by decide +kernel) ⟨hR.1, hR.2⟩) ⟨wf_blind, va_recv hK hP (ci := 0) (q0 := 0) rfl rfl, wf_pre hP hK hD⟩ rfl rfl hsz rfl (lv_room hw) hdg ⟨hc.1, hc.2⟩) (fun _ h => h) hS hD hA kk
