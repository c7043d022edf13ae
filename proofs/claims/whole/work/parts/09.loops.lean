/-! ===== loops and joins of a walk ===== -/
section WLP
variable {p : Program} {l : Launch} {e : Env} {R : Room} {s : State} {m : MethodId} {args : Array Value} {below : List Frame} {meth : Method} {c : Code} {H : Heap} {locs : List Loc} {cells slots : Nat} {Q : State → Prop}
/-- two branches meet with an int on the stack -/
theorem wf_cutI {pc pcj : Nat} {ls ls' : Array Slot} {rest st0 : List Value} (P : Int32 → Prop) (k : ∀ z : Int32, P z → W p l e R s m args below meth c H locs cells slots Q (F0 m pcj ls (.int z :: rest))) (g : (∀ z : Int32, P z → W p l e R s m args below meth c H locs cells slots Q (F0 m pcj ls (.int z :: rest))) → W p l e R s m args below meth c H locs cells slots Q (F0 m pc ls' st0)) : W p l e R s m args below meth c H locs cells slots Q (F0 m pc ls' st0) := g k
theorem wf_cutL {pc pcj : Nat} {ls ls' : Array Slot} {rest st0 : List Value} (P : Int64 → Prop) (k : ∀ z : Int64, P z → W p l e R s m args below meth c H locs cells slots Q (F0 m pcj ls (.long z :: rest))) (g : (∀ z : Int64, P z → W p l e R s m args below meth c H locs cells slots Q (F0 m pcj ls (.long z :: rest))) → W p l e R s m args below meth c H locs cells slots Q (F0 m pc ls' st0)) : W p l e R s m args below meth c H locs cells slots Q (F0 m pc ls' st0) := g k
/-- a loop that leaves the heap alone: N rounds -/
theorem wf_for {σ : Type} {pc nL : Nat} (N : Nat) (I : Nat → σ → Prop) (F : Nat → σ → List (Nat × Value))
    (step : ∀ (i : Nat) (x : σ) (ls : Array Slot), i < N → I i x → lv_has ls nL (F i x) → (∀ (x' : σ) (ls' : Array Slot), I (i + 1) x' → lv_has ls' nL (F (i + 1) x') → W p l e R s m args below meth c H locs cells slots Q (F0 m pc ls' [])) → W p l e R s m args below meth c H locs cells slots Q (F0 m pc ls []))
    (exit : ∀ (x : σ) (ls : Array Slot), I N x → lv_has ls nL (F N x) → W p l e R s m args below meth c H locs cells slots Q (F0 m pc ls []))
    (x0 : σ) (h0 : I 0 x0) {ls : Array Slot} (hl : lv_has ls nL (F 0 x0)) : W p l e R s m args below meth c H locs cells slots Q (F0 m pc ls []) := by
  have key : ∀ (n i : Nat) (x : σ) (ls : Array Slot), i ≤ N → N - i < n → I i x → lv_has ls nL (F i x) → W p l e R s m args below meth c H locs cells slots Q (F0 m pc ls []) := by
    intro n
    induction n with
    | zero => intro i x ls _ h; omega
    | succ n ih =>
      intro i x ls hi hn hI hl
      by_cases hN : i = N
      · subst hN; exact exit x ls hI hl
      · exact step i x ls (by omega) hI hl (fun x' ls' h1 h2 => ih (i + 1) x' ls' (by omega) (by omega) h1 h2)
  exact key (N + 1) 0 x0 ls (by omega) (by omega) h0 hl
end WLP
section WLH
variable {p : Program} {l : Launch} {e : Env} {R : Room} {s : State} {m : MethodId} {args : Array Value} {below : List Frame} {meth : Method} {c : Code} {cells slots : Nat} {Q : State → Prop} {D : va_G} {cl : List vw_C} {A : Nat → Prop} {H0 : Heap}
/-- a loop that changes its world: N rounds -/
theorem wf_forH {σ : Type} {pc nL : Nat} (N : Nat) (I : Nat → σ → Prop) (mk : σ → va_W) (F : Nat → σ → List (Nat × Value))
    (step : ∀ (i : Nat) (x : σ) (H : Heap) (locs : List Loc) (ls : Array Slot), i < N → I i x → va_P D cl (mk x) H → va_D A (mk x) → va_S A H0 H locs → lv_has ls nL (F i x) →
      (∀ (x' : σ) (H' : Heap) (locs' : List Loc) (ls' : Array Slot), I (i + 1) x' → va_P D cl (mk x') H' → va_D A (mk x') → va_S A H0 H' locs' → lv_has ls' nL (F (i + 1) x') → W p l e R s m args below meth c H' locs' cells slots Q (F0 m pc ls' [])) → W p l e R s m args below meth c H locs cells slots Q (F0 m pc ls []))
    (exit : ∀ (x : σ) (H : Heap) (locs : List Loc) (ls : Array Slot), I N x → va_P D cl (mk x) H → va_D A (mk x) → va_S A H0 H locs → lv_has ls nL (F N x) → W p l e R s m args below meth c H locs cells slots Q (F0 m pc ls []))
    (x0 : σ) (h0 : I 0 x0) {H : Heap} {locs : List Loc} {ls : Array Slot} (hP : va_P D cl (mk x0) H) (hD : va_D A (mk x0)) (hS : va_S A H0 H locs) (hl : lv_has ls nL (F 0 x0)) : W p l e R s m args below meth c H locs cells slots Q (F0 m pc ls []) := by
  have key : ∀ (n i : Nat) (x : σ) (H : Heap) (locs : List Loc) (ls : Array Slot), i ≤ N → N - i < n → I i x → va_P D cl (mk x) H → va_D A (mk x) → va_S A H0 H locs → lv_has ls nL (F i x) → W p l e R s m args below meth c H locs cells slots Q (F0 m pc ls []) := by
    intro n
    induction n with
    | zero => intro i x H locs ls _ h; omega
    | succ n ih =>
      intro i x H locs ls hi hn hI h1 h2 h3 hl
      by_cases hN : i = N
      · subst hN; exact exit x H locs ls hI h1 h2 h3 hl
      · exact step i x H locs ls (by omega) hI h1 h2 h3 hl (fun x' H' locs' ls' k0 k1 k2 k3 k4 => ih (i + 1) x' H' locs' ls' (by omega) (by omega) k0 k1 k2 k3 k4)
  exact key (N + 1) 0 x0 H locs ls (by omega) (by omega) h0 hP hD hS hl
end WLH
/-- the index of a loop that runs down from N - 1: behind i rounds -/
def wf_dn (N i : Nat) : Int32 := Int32.ofInt ((N : Int) - 1 - i)
theorem wf_dn_nI {N i : Nat} (h : i < N) : wf_dn N i = nI (N - 1 - i) := by
  unfold wf_dn nI
  rw [show ((N : Int) - 1 - i) = ((N - 1 - i : Nat) : Int) by omega]
  rfl
theorem wf_dn_S {N i : Nat} : wf_dn N i + Int32.ofInt (-1) = wf_dn N (i + 1) := by
  unfold wf_dn
  rw [← Int32.ofInt_add]
  congr 1
  omega
theorem wf_dn_end (N : Nat) : wf_dn N N = -1 := by
  unfold wf_dn
  rw [show ((N : Int) - 1 - N) = -1 by omega]
  rfl
theorem wf_neg (x : Int64) : (0 : Int64) ≤ x ↔ ¬ 9223372036854775808 ≤ uN x := by
  have h := uN_lt x
  rw [Int64.le_iff_toInt_le, uN_int x]
  show (0 : Int) ≤ _ ↔ _
  omega
/-- one shift left over two longs -/
theorem wf_s1 (x y : Int64) : uN ((x <<< ((1 : Int32).toInt64 &&& 63)) ||| (y.toUInt64 >>> ((63 : Int32).toInt64.toUInt64 &&& Int64.toUInt64 63)).toInt64) = (2 * uN x) % 18446744073709551616 + uN y / 9223372036854775808 := by
  have h := uN_lt y
  rw [uN_or (by rw [uN_s63]; omega), uN_s63]
theorem wf_sh2 (x : Int64) : uN (x <<< ((2 : Int32).toInt64 &&& 63)) = (4 * uN x) % 18446744073709551616 := by
  have h := wf_shl x (k := 2) (by decide)
  rw [show nI 2 = (2 : Int32) from rfl] at h
  rw [h, Nat.mul_comm]
theorem wf_u62 (x : Int64) : uN (x.toUInt64 >>> ((62 : Int32).toInt64.toUInt64 &&& Int64.toUInt64 63)).toInt64 = uN x / 4611686018427387904 := by
  have h := uN_sk x (k := 62) (by decide)
  rw [show nI 62 = (62 : Int32) from rfl] at h
  exact h
theorem wf_s2 (x y : Int64) : uN ((x <<< ((2 : Int32).toInt64 &&& 63)) ||| (y.toUInt64 >>> ((62 : Int32).toInt64.toUInt64 &&& Int64.toUInt64 63)).toInt64) = (4 * uN x) % 18446744073709551616 + uN y / 4611686018427387904 := by
  have h := uN_lt y
  have h2 := wf_shlor (x := uN x) h (k := 2) (by decide)
  rw [uN_or', wf_sh2, wf_u62, Nat.mul_comm]
  exact h2
theorem wf_or1 (x : Int64) {a : Nat} (h : uN x = 2 * a) : uN (x ||| 1) = uN x + 1 := by
  rw [uN_or', h, show uN (1 : Int64) = 1 from by decide, Nat.mul_comm]
  exact wf_or (k := 1) (by decide)
theorem wf_p128 : (2 : Nat) ^ 128 = 340282366920938463463374607431768211456 := by decide +kernel
theorem wf_d1 {a b t : Nat} (ha : a < 18446744073709551616) (hb : b < 18446744073709551616) : (2 * a % 18446744073709551616 + b / 9223372036854775808) * 18446744073709551616 + (2 * b % 18446744073709551616 + t) = 2 * (a * 18446744073709551616 + b) % 340282366920938463463374607431768211456 + t := by omega
theorem wf_d2 {a b t : Nat} (ha : a < 18446744073709551616) (hb : b < 18446744073709551616) : (4 * a % 18446744073709551616 + b / 4611686018427387904) * 18446744073709551616 + (4 * b % 18446744073709551616 + t) = 4 * (a * 18446744073709551616 + b) % 340282366920938463463374607431768211456 + t := by omega
theorem wf_d1z {a b : Nat} (ha : a < 18446744073709551616) (hb : b < 18446744073709551616) : (2 * a % 18446744073709551616 + b / 9223372036854775808) * 18446744073709551616 + 2 * b % 18446744073709551616 = 2 * (a * 18446744073709551616 + b) % 340282366920938463463374607431768211456 := by omega
theorem wf_d2z {a b : Nat} (ha : a < 18446744073709551616) (hb : b < 18446744073709551616) : (4 * a % 18446744073709551616 + b / 4611686018427387904) * 18446744073709551616 + 4 * b % 18446744073709551616 = 4 * (a * 18446744073709551616 + b) % 340282366920938463463374607431768211456 := by omega
theorem wf_ev (x : Nat) : 2 * x % 18446744073709551616 = 2 * (x % 9223372036854775808) := by omega
theorem wf_d9 {F f t P : Nat} (h3 : F ≤ 2 * f) (h5 : f < P) (hp : P ≤ 9223372036854775808) (h1 : t ≤ 3) : 4 * F % 340282366920938463463374607431768211456 + t = 4 * F + t ∧ 4 * F + t < 340282366920938463463374607431768211456 ∧ 2 * f % 18446744073709551616 = 2 * f := by omega
theorem wf_d3 {f : Nat} (hf : f < 18446744073709551616) : f / 4611686018427387904 * 18446744073709551616 + (4 * f % 18446744073709551616 + 1) = 4 * f + 1 := by omega
theorem wf_d4 {a b : Nat} (hb : b < 18446744073709551616) : 9223372036854775808 ≤ a ↔ 340282366920938463463374607431768211456 ≤ 2 * (a * 18446744073709551616 + b) := by omega
theorem wf_d5 {a b : Nat} (hb : b < 18446744073709551616) : (a * 18446744073709551616 + b) / 2 ^ 127 = a / 9223372036854775808 := by
  rw [show (2 : Nat) ^ 127 = 170141183460469231731687303715884105728 from by decide +kernel]; omega
theorem wf_d6 {a b : Nat} (hb : b < 18446744073709551616) : (a * 18446744073709551616 + b) / 2 ^ 126 = a / 4611686018427387904 := by
  rw [show (2 : Nat) ^ 126 = 85070591730234615865843651857942052864 from by decide +kernel]; omega
theorem wf_d7 {F B t : Nat} (hF : F < B) (hB : B < 340282366920938463463374607431768211456) (ht : t ≤ 1) (h : 340282366920938463463374607431768211456 ≤ 2 * F ∨ ¬ 2 * F % 340282366920938463463374607431768211456 + t < B) : B ≤ 2 * F + t ∧ (2 * F % 340282366920938463463374607431768211456 + t + 340282366920938463463374607431768211456 - B) % 340282366920938463463374607431768211456 = 2 * F + t - B := by omega
theorem wf_d8 {L C : Nat} (hC : C ≤ L) (hL : L < 340282366920938463463374607431768211456) : (L + 340282366920938463463374607431768211456 - C) % 340282366920938463463374607431768211456 = L - C := by omega
/-! the two ends of a round of the division -/
theorem wf_q_yes {a i q1 : Nat} {bh bl fh fl hh hl fh' fl' hh' hl' : Int64} (hi : i < 128) (hI : wf_DI a (wf_V bh bl) i q1 (wf_V fh fl) (wf_V hh hl))
    (e1 : uN fh' = 2 * uN fh % 18446744073709551616 + uN fl / 9223372036854775808) (e2 : uN fl' = 2 * uN fl % 18446744073709551616 + uN hh / 9223372036854775808) (e3 : uN hh' = 2 * uN hh % 18446744073709551616 + uN hl / 9223372036854775808) (e4 : uN hl' = 2 * uN hl % 18446744073709551616)
    (hb : 9223372036854775808 ≤ uN fh ∨ ¬ wf_V fh' fl' < wf_V bh bl) : wf_DI a (wf_V bh bl) (i + 1) (2 * q1 + 1) (wf_V (fh' - bh - wf_ob fl' bl) (fl' - bl)) (wf_V hh' (hl' ||| 1)) := by
  obtain ⟨h1, -, h3, h4, -⟩ := wf_DI_step hi hI
  have o1 : uN (hl' ||| 1) = uN hl' + 1 := wf_or1 hl' (a := uN hl % 9223372036854775808) (e4.trans (wf_ev _))
  have ht : wf_V hh hl / 2 ^ 127 = uN hh / 9223372036854775808 := wf_d5 (uN_lt hl)
  rw [ht] at h1 h4
  have hf : wf_V fh' fl' = 2 * wf_V fh fl % 340282366920938463463374607431768211456 + uN hh / 9223372036854775808 := by show uN fh' * _ + uN fl' = _; rw [e1, e2]; exact wf_d1 (uN_lt fh) (uN_lt fl)
  have g4 : wf_V hh' (hl' ||| 1) = 2 * wf_V hh hl % 2 ^ 128 + 1 := by show uN hh' * _ + uN (hl' ||| 1) = _; rw [o1, e3, e4, wf_p128]; exact wf_d1 (uN_lt hh) (uN_lt hl)
  have hs := wf_sub fh' fl' bh bl
  rw [wf_d4 (uN_lt fl), hf] at hb
  obtain ⟨g1, g3⟩ := wf_d7 h3 (wf_V_lt bh bl) h1 hb
  rw [hs, hf, g4, show (2 * wf_V fh fl % 340282366920938463463374607431768211456 + uN hh / 9223372036854775808 + wf_NN - wf_V bh bl) % wf_NN = 2 * wf_V fh fl + uN hh / 9223372036854775808 - wf_V bh bl from g3]
  exact h4 g1
theorem wf_q_no {a i q1 : Nat} {bh bl fh fl hh hl fh' fl' hh' hl' : Int64} (hi : i < 128) (hI : wf_DI a (wf_V bh bl) i q1 (wf_V fh fl) (wf_V hh hl))
    (e1 : uN fh' = 2 * uN fh % 18446744073709551616 + uN fl / 9223372036854775808) (e2 : uN fl' = 2 * uN fl % 18446744073709551616 + uN hh / 9223372036854775808) (e3 : uN hh' = 2 * uN hh % 18446744073709551616 + uN hl / 9223372036854775808) (e4 : uN hl' = 2 * uN hl % 18446744073709551616)
    (hn : ¬ 9223372036854775808 ≤ uN fh) (hb : wf_V fh' fl' < wf_V bh bl) : wf_DI a (wf_V bh bl) (i + 1) (2 * q1) (wf_V fh' fl') (wf_V hh' hl') := by
  obtain ⟨h1, -, h3, -, h4⟩ := wf_DI_step hi hI
  have ht : wf_V hh hl / 2 ^ 127 = uN hh / 9223372036854775808 := wf_d5 (uN_lt hl)
  rw [ht] at h1 h4
  rw [wf_d4 (uN_lt fl)] at hn
  have hf : wf_V fh' fl' = 2 * wf_V fh fl % 340282366920938463463374607431768211456 + uN hh / 9223372036854775808 := by show uN fh' * _ + uN fl' = _; rw [e1, e2]; exact wf_d1 (uN_lt fh) (uN_lt fl)
  rw [Nat.mod_eq_of_lt (Nat.not_le.mp hn)] at hf
  have g4 : wf_V hh' hl' = 2 * wf_V hh hl % 2 ^ 128 := by show uN hh' * _ + uN hl' = _; rw [e3, e4, wf_p128]; exact wf_d1z (uN_lt hh) (uN_lt hl)
  rw [hf] at hb ⊢
  rw [g4]
  exact h4 (Nat.not_le.mpr hb)
/-! the two ends of a round of the root -/
theorem wf_r_hf {f fh fl hh fh' fl' : Int64} {i : Nat} (hi : i < 64) (h3 : wf_V fh fl ≤ 2 * uN f) (h5 : uN f < 2 ^ i) (h1 : uN hh / 4611686018427387904 ≤ 3)
    (e1 : uN fh' = 4 * uN fh % 18446744073709551616 + uN fl / 4611686018427387904) (e2 : uN fl' = 4 * uN fl % 18446744073709551616 + uN hh / 4611686018427387904) :
    wf_V fh' fl' = 4 * wf_V fh fl + uN hh / 4611686018427387904 ∧ 4 * wf_V fh fl + uN hh / 4611686018427387904 < 340282366920938463463374607431768211456 ∧ 2 * uN f % 18446744073709551616 = 2 * uN f := by
  have hp : (2 : Nat) ^ i ≤ 2 ^ 63 := Nat.pow_le_pow_right (by decide) (by omega)
  rw [show (2 : Nat) ^ 63 = 9223372036854775808 from by decide] at hp
  have hf : wf_V fh' fl' = 4 * wf_V fh fl % 340282366920938463463374607431768211456 + uN hh / 4611686018427387904 := by show uN fh' * _ + uN fl' = _; rw [e1, e2]; exact wf_d2 (uN_lt fh) (uN_lt fl)
  obtain ⟨k1, k2, k3⟩ := wf_d9 h3 h5 hp h1
  exact ⟨hf.trans k1, k2, k3⟩
theorem wf_r_yes {a i : Nat} {f fh fl hh hl fh' fl' hh' hl' ch cl : Int64} (hi : i < 64) (hI : wf_RI a i (uN f) (wf_V fh fl) (wf_V hh hl))
    (e1 : uN fh' = 4 * uN fh % 18446744073709551616 + uN fl / 4611686018427387904) (e2 : uN fl' = 4 * uN fl % 18446744073709551616 + uN hh / 4611686018427387904) (e3 : uN hh' = 4 * uN hh % 18446744073709551616 + uN hl / 4611686018427387904) (e4 : uN hl' = 4 * uN hl % 18446744073709551616)
    (e5 : uN ch = uN f / 4611686018427387904) (e6 : uN cl = 4 * uN f % 18446744073709551616 + 1) {g : Int64} (e7 : uN g = 2 * uN f % 18446744073709551616) (hb : ¬ wf_V fh' fl' < wf_V ch cl) :
    wf_RI a (i + 1) (uN (g ||| 1)) (wf_V (fh' - ch - wf_ob fl' cl) (fl' - cl)) (wf_V hh' hl') := by
  obtain ⟨h1, -, h3, h5, h4, -⟩ := wf_RI_step hi hI
  have o1 : uN (g ||| 1) = uN g + 1 := wf_or1 g (a := uN f % 9223372036854775808) (e7.trans (wf_ev _))
  have ht : wf_V hh hl / 2 ^ 126 = uN hh / 4611686018427387904 := wf_d6 (uN_lt hl)
  rw [ht] at h1 h4
  obtain ⟨hf, hlt, hg⟩ := wf_r_hf hi h3 h5 h1 e1 e2
  have hs := wf_sub fh' fl' ch cl
  have hc : wf_V ch cl = 4 * uN f + 1 := by show uN ch * _ + uN cl = _; rw [e5, e6]; exact wf_d3 (uN_lt f)
  have g4 : wf_V hh' hl' = 4 * wf_V hh hl % 2 ^ 128 := by show uN hh' * _ + uN hl' = _; rw [e3, e4, wf_p128]; exact wf_d2z (uN_lt hh) (uN_lt hl)
  rw [hf, hc] at hb
  have g1 := Nat.not_lt.mp hb
  rw [hs, hc, hf, g4, o1, e7, hg, show (4 * wf_V fh fl + uN hh / 4611686018427387904 + wf_NN - (4 * uN f + 1)) % wf_NN = 4 * wf_V fh fl + uN hh / 4611686018427387904 - (4 * uN f + 1) from wf_d8 g1 hlt]
  exact h4 g1
theorem wf_r_no {a i : Nat} {f fh fl hh hl fh' fl' hh' hl' ch cl : Int64} (hi : i < 64) (hI : wf_RI a i (uN f) (wf_V fh fl) (wf_V hh hl))
    (e1 : uN fh' = 4 * uN fh % 18446744073709551616 + uN fl / 4611686018427387904) (e2 : uN fl' = 4 * uN fl % 18446744073709551616 + uN hh / 4611686018427387904) (e3 : uN hh' = 4 * uN hh % 18446744073709551616 + uN hl / 4611686018427387904) (e4 : uN hl' = 4 * uN hl % 18446744073709551616)
    (e5 : uN ch = uN f / 4611686018427387904) (e6 : uN cl = 4 * uN f % 18446744073709551616 + 1) {g : Int64} (e7 : uN g = 2 * uN f % 18446744073709551616) (hb : wf_V fh' fl' < wf_V ch cl) :
    wf_RI a (i + 1) (uN g) (wf_V fh' fl') (wf_V hh' hl') := by
  obtain ⟨h1, -, h3, h5, -, h4⟩ := wf_RI_step hi hI
  have ht : wf_V hh hl / 2 ^ 126 = uN hh / 4611686018427387904 := wf_d6 (uN_lt hl)
  rw [ht] at h1 h4
  obtain ⟨hf, hlt, hg⟩ := wf_r_hf hi h3 h5 h1 e1 e2
  have hc : wf_V ch cl = 4 * uN f + 1 := by show uN ch * _ + uN cl = _; rw [e5, e6]; exact wf_d3 (uN_lt f)
  have g4 : wf_V hh' hl' = 4 * wf_V hh hl % 2 ^ 128 := by show uN hh' * _ + uN hl' = _; rw [e3, e4, wf_p128]; exact wf_d2z (uN_lt hh) (uN_lt hl)
  rw [hf, hc] at hb
  rw [hf, g4, e7, hg]
  exact h4 (Nat.not_le.mpr hb)
