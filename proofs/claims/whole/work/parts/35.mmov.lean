/-! ===== the reference's moves, its next and its digits, as numbers ===== -/
theorem wf_at {N v : Int64} {i : Nat} {n : Int} (hi : i < 128) (hN : N.toInt = n) (h1 : -2147483648 ≤ n) (h2 : n ≤ 2147483648) (ev : v = Int32.toInt64 (nI i) + N) : v.toInt = (i : Int) + n := by
  rw [ev, nI_l (by omega), Int64.toInt_add, lN_toInt (by omega), hN]
  exact Int.bmod_eq_of_le (by omega) (by omega)
theorem wf_negN {m : Nat} (h : m < 2 ^ 31) : (-(Int32.toInt64 (nI m))).toInt = -(m : Int) := by
  rw [nI_l h, Int64.toInt_neg, lN_toInt h]
  exact Int.bmod_eq_of_le (by omega) (by omega)
theorem wf_v0 {v : Int64} {z : Int} (h : v.toInt = z) : v < 0 ↔ z < 0 := by
  rw [Int64.lt_iff_toInt_lt, h]
  exact Iff.rfl
theorem wf_v128 {v : Int64} {z : Int} (h : v.toInt = z) : v < 128 ↔ z < 128 := by
  rw [Int64.lt_iff_toInt_lt, h]
  exact Iff.rfl
theorem wf_v_nat {v : Int64} {z : Int} (h : v.toInt = z) (h0 : 0 ≤ z) (h1 : z < 128) : nI (uN v % 4294967296) = nI z.toNat := by
  have e := uN_int v
  have hv := uN_lt v
  rw [h] at e
  congr 1
  split at e <;> omega
def wf_LS (f : Nat → Bool) (n : Int) (i : Nat) (b : Bool) : Prop := b = true ↔ ∃ k, k < i ∧ f k = true ∧ ((k : Int) + n < 0 ∨ 128 ≤ (k : Int) + n)
theorem wf_LS_0 (f : Nat → Bool) (n : Int) : wf_LS f n 0 false := Iff.intro (fun h => nomatch h) (fun ⟨k, h, _⟩ => absurd h (Nat.not_lt_zero k))
theorem wf_LS_S {f : Nat → Bool} {n : Int} {i : Nat} {b y : Bool} (h : wf_LS f n i b) (hy : y = f i) : wf_LS f n (i + 1) (b || (y && (decide ((i : Int) + n < 0) || !decide ((i : Int) + n < 128)))) := by
  unfold wf_LS at h ⊢
  rw [Bool.or_eq_true, Bool.and_eq_true, Bool.or_eq_true, decide_eq_true_iff, Bool.not_eq_true', decide_eq_false_iff_not, h, hy]
  constructor
  · rintro (⟨k, h1, h2, h3⟩ | ⟨h1, h2⟩)
    · exact ⟨k, by omega, h2, h3⟩
    · exact ⟨i, by omega, h1, by omega⟩
  · rintro ⟨k, h1, h2, h3⟩
    by_cases hk : k = i
    · subst hk; exact Or.inr ⟨h2, by omega⟩
    · exact Or.inl ⟨k, by omega, h2, h3⟩
def wf_mv (f : Nat → Bool) (n : Int) (i j : Nat) : Bool := decide (0 ≤ (j : Int) - n ∧ (j : Int) - n < i) && f ((j : Int) - n).toNat
theorem wf_mv_no {f : Nat → Bool} {n : Int} {i j : Nat} (h : (j : Int) - n ≠ i) : wf_mv f n (i + 1) j = wf_mv f n i j := by
  unfold wf_mv
  rw [decide_eq_decide.mpr (show (0 ≤ (j : Int) - n ∧ (j : Int) - n < (i + 1 : Nat)) ↔ (0 ≤ (j : Int) - n ∧ (j : Int) - n < i) by omega)]
theorem wf_mv_yes {f : Nat → Bool} {n : Int} {i j : Nat} (h : (j : Int) - n = i) : wf_mv f n (i + 1) j = f i := by
  unfold wf_mv
  rw [decide_eq_true (by omega), Bool.true_and, h, Int.toNat_natCast]
theorem wf_mv_S {f A : Nat → Bool} {n : Int} {i : Nat} {y : Bool} (h : ∀ j, j < 128 → A j = wf_mv f n i j) (hy : y = f i) (h0 : 0 ≤ (i : Int) + n) : ∀ j, j < 128 → va_up A ((i : Int) + n).toNat y j = wf_mv f n (i + 1) j := by
  intro j hj
  by_cases e : j = ((i : Int) + n).toNat
  · rw [e, va_up_self, hy, wf_mv_yes (by omega)]
  · rw [va_up_ne _ _ e, h j hj, wf_mv_no (by omega)]
theorem wf_mv_N {f A : Nat → Bool} {n : Int} {i : Nat} (h : ∀ j, j < 128 → A j = wf_mv f n i j) (h0 : (i : Int) + n < 0 ∨ ¬ (i : Int) + n < 128) : ∀ j, j < 128 → A j = wf_mv f n (i + 1) j := fun j hj => by
  rw [h j hj, wf_mv_no (by omega)]
def wf_MV (f : Nat → Bool) (n : Int) (b : Bool) (A : Nat → Bool) : Prop := wf_LS f n 128 b ∧ ∀ j, j < 128 → A j = wf_mv f n 128 j
theorem wf_sm_tbit (f : Nat → Bool) (n k : Nat) : (wf_sm f n).testBit k = (decide (k < n) && f k) := by
  by_cases h : k < n
  · rw [Nat.testBit_eq_decide_div_mod_eq, wf_sm_bit h, decide_eq_true h, Bool.true_and]
    cases f k <;> decide
  · rw [decide_eq_false h, Bool.false_and]
    exact Nat.testBit_lt_two_pow (Nat.lt_of_lt_of_le (wf_sm_lt f n) (wf_pw (by omega)))
theorem wf_bit_le {f : Nat → Bool} {n k : Nat} (h : k < n) (hf : f k = true) : 2 ^ k ≤ wf_sm f n := by
  apply Nat.ge_two_pow_of_testBit (i := k)
  rw [wf_sm_tbit, decide_eq_true h, hf]
  rfl
theorem wf_bdec {b : Bool} {P : Prop} [Decidable P] (h : b = true ↔ P) : b = decide P := by
  by_cases hp : P
  · rw [decide_eq_true hp]; exact h.mpr hp
  · rw [decide_eq_false hp]; exact Bool.eq_false_iff.mpr (fun e => hp (h.mp e))
theorem wf_MV_up {f A : Nat → Bool} {m : Nat} {b : Bool} (h : wf_MV f (m : Int) b A) : b = decide (wf_NN ≤ wf_sm f 128 * 2 ^ m) ∧ wf_sm (fun k => A (0 + k)) 128 = wf_sm f 128 * 2 ^ m % wf_NN := by
  obtain ⟨h1, h2⟩ := h
  have hNN : wf_NN = 2 ^ 128 := wf_p128.symm
  rw [hNN]
  refine ⟨?_, ?_⟩
  · unfold wf_LS at h1
    refine wf_bdec (h1.trans ⟨?_, fun hle => ?_⟩)
    · rintro ⟨k, k1, k2, k3⟩
      have := wf_bit_le k1 k2
      have h5 := Nat.mul_le_mul_right (2 ^ m) this
      rw [← Nat.pow_add] at h5
      exact Nat.le_trans (wf_pw (by omega)) h5
    · rcases Classical.em (∃ k, k < 128 ∧ f k = true ∧ ((k : Int) + m < 0 ∨ 128 ≤ (k : Int) + m)) with h3 | h3
      · exact h3
      · exfalso
        have e : wf_sm f 128 = wf_sm f (128 - m) := wf_sm_ext (by omega) (fun k k1 k2 => by
          cases hf : f k
          · rfl
          · exact absurd ⟨k, k2, hf, by omega⟩ h3)
        have e2 := wf_sm_lt f (128 - m)
        rw [← e] at e2
        rcases Nat.lt_or_ge 128 m with hm | hm
        · rw [show 128 - m = 0 by omega, Nat.pow_zero] at e2
          rw [show wf_sm f 128 = 0 by omega, Nat.zero_mul] at hle
          exact absurd hle (Nat.not_le.mpr (Nat.two_pow_pos 128))
        · have := Nat.mul_lt_mul_of_pos_right e2 (Nat.two_pow_pos m)
          rw [← Nat.pow_add, show 128 - m + m = 128 by omega] at this
          exact absurd hle (Nat.not_le.mpr this)
  · rw [← wf_sm_tb]
    refine wf_sm_congr (fun k hk => ?_)
    show A (0 + k) = _
    rw [Nat.zero_add, h2 k hk, Nat.testBit_mul_two_pow, wf_sm_tbit]
    unfold wf_mv
    by_cases hm : m ≤ k
    · rw [decide_eq_true (by omega), decide_eq_true (by omega), show ((k : Int) - m).toNat = k - m by omega, decide_eq_true (by omega)]
      rfl
    · rw [decide_eq_false (by omega), decide_eq_false (by omega)]
      rfl
theorem wf_MV_dn {f A : Nat → Bool} {m : Nat} {b : Bool} (h : wf_MV f (-(m : Int)) b A) : b = decide (wf_sm f 128 % 2 ^ m ≠ 0) ∧ wf_sm (fun k => A (0 + k)) 128 = wf_sm f 128 / 2 ^ m := by
  obtain ⟨h1, h2⟩ := h
  refine ⟨?_, ?_⟩
  · unfold wf_LS at h1
    refine wf_bdec (h1.trans ⟨?_, fun hle => ?_⟩)
    · rintro ⟨k, k1, k2, k3⟩ h0
      have h5 : (wf_sm f 128 % 2 ^ m).testBit k = true := by rw [Nat.testBit_mod_two_pow, wf_sm_tbit, decide_eq_true k1, k2, decide_eq_true (by omega)]; rfl
      rw [h0, Nat.zero_testBit] at h5
      cases h5
    · obtain ⟨k, hk⟩ := Nat.exists_testBit_of_ne_zero hle
      rw [Nat.testBit_mod_two_pow, wf_sm_tbit, Bool.and_eq_true, Bool.and_eq_true, decide_eq_true_iff, decide_eq_true_iff] at hk
      exact ⟨k, hk.2.1, hk.2.2, by omega⟩
  · have e : wf_sm f 128 / 2 ^ m = wf_sm f 128 / 2 ^ m % 2 ^ 128 := (Nat.mod_eq_of_lt (Nat.lt_of_le_of_lt (Nat.div_le_self _ _) (wf_sm_lt f 128))).symm
    rw [e, ← wf_sm_tb]
    refine wf_sm_congr (fun k hk => ?_)
    show A (0 + k) = _
    rw [Nat.zero_add, h2 k hk, Nat.testBit_div_two_pow, wf_sm_tbit]
    unfold wf_mv
    rw [show ((k : Int) - -(m : Int)).toNat = k + m by omega]
    by_cases hm : k + m < 128
    · rw [decide_eq_true (by omega), decide_eq_true (by omega)]
    · rw [decide_eq_false (by omega), decide_eq_false (by omega)]
theorem wf_R_low (B : Nat → Bool) (r : Nat) : wf_R (va_up B (128 * r) true) r = 2 * (wf_R B r / 2) + 1 := by
  unfold wf_R
  rw [wf_sm_cons, wf_sm_cons (fun k => B (128 * r + k))]
  rw [show va_up B (128 * r) true (128 * r + 0) = true from va_up_self _ _ _]
  rw [wf_sm_congr (f := fun i => va_up B (128 * r) true (128 * r + (i + 1))) (g := fun i => B (128 * r + (i + 1))) (fun k _ => va_up_ne _ _ (by omega))]
  have := wf_tn (B (128 * r + 0))
  simp only [Bool.toNat_true]
  omega
theorem wf_R_low_ne (B : Nat → Bool) {r j : Nat} (h : j ≠ r) : wf_R (va_up B (128 * r) true) j = wf_R B j := wf_sm_congr (fun k hk => va_up_ne _ _ (by omega))
/-- ten times and a digit -/
def wf_NI (f A : Nat → Bool) (d i c : Nat) : Prop := c ≤ 9 ∧ wf_sm A i + c * 2 ^ i = 10 * wf_sm f i + d
theorem wf_NI_S {f A : Nat → Bool} {d i c X : Nat} {y : Bool} (h : wf_NI f A d i c) (hy : y = f i) (hX : X = c + 10 * y.toNat) : wf_NI f (va_up A i (decide (X % 2 = 1))) d (i + 1) (X / 2) := by
  obtain ⟨h1, h2⟩ := h
  have hy1 := wf_tn y
  refine ⟨by omega, ?_⟩
  have e := wf_sm_push A 0 i (decide (X % 2 = 1))
  simp only [Nat.zero_add] at e
  rw [e, wf_smS f, ← hy]
  have e2 : (decide (X % 2 = 1)).toNat = X % 2 := by
    rcases Nat.mod_two_eq_zero_or_one X with h | h <;> rw [h] <;> rfl
  rw [e2, Nat.pow_succ, Nat.mul_add, Nat.mul_comm (2 ^ i) 2, ← Nat.mul_assoc (X / 2)]
  have e3 : X % 2 * 2 ^ i + X / 2 * 2 * 2 ^ i = X * 2 ^ i := by
    rw [← Nat.add_mul]
    congr 1
    omega
  have e4 : X * 2 ^ i = c * 2 ^ i + 10 * (y.toNat * 2 ^ i) := by rw [hX, Nat.add_mul, Nat.mul_assoc]
  show wf_sm A i + _ + _ = _
  omega
theorem wf_NI_0 {f A : Nat → Bool} {d : Nat} (hd : d < 10) : wf_NI f A d 0 d := ⟨by omega, by rw [wf_sm0, wf_sm0, Nat.pow_zero, Nat.mul_one, Nat.mul_zero]⟩
theorem wf_ni_ar {a c v d N : Nat} (h : a + c * N = 10 * v + d) (ha : a < N) : (c = 0 → v * 10 + d < N ∧ a = v * 10 + d) ∧ (0 < c → N ≤ v * 10 + d) := by
  refine ⟨fun hc => ?_, fun hc => ?_⟩
  · subst hc; omega
  · have := Nat.mul_le_mul_right N hc
    omega
/-- the digits: a round of the division by ten, behind i of 128 bits -/
def wf_TN (B B' : Nat → Bool) (i L : Nat) (m : Bool) : Prop := (∀ j, j < 1024 + (128 - i) → B' j = B j) ∧ L < 10 ∧ wf_R B 8 / 2 ^ (128 - i) = 10 * wf_sm (fun t => B' (1024 + (128 - i) + t)) i + L ∧ m = decide (wf_sm (fun t => B' (1024 + (128 - i) + t)) i ≠ 0)
theorem wf_TN_0 (B : Nat → Bool) : wf_TN B B 0 0 false := ⟨fun _ _ => rfl, by decide, by rw [Nat.sub_zero, show wf_R B 8 / 2 ^ 128 = 0 from Nat.div_eq_of_lt (wf_sm_lt _ 128), wf_sm0], rfl⟩
theorem wf_TN_S {B B' : Nat → Bool} {i L X : Nat} {m y : Bool} (hi : i < 128) (h : wf_TN B B' i L m) (hy : y = B' (1024 + (127 - i))) (hX : X = 2 * L + y.toNat) : wf_TN B (va_up B' (1024 + (127 - i)) (decide (10 ≤ X))) (i + 1) (if 10 ≤ X then X - 10 else X) (m || decide (10 ≤ X)) := by
  obtain ⟨h1, h2, h3, h4⟩ := h
  have hy1 := wf_tn y
  have a1 := wf_top_step (B := B) (r := 8) hi
  rw [show 128 * 8 + (127 - i) = 1024 + (127 - i) by omega, ← h1 (1024 + (127 - i)) (by omega), ← hy] at a1
  have hq : wf_sm (fun t => va_up B' (1024 + (127 - i)) (decide (10 ≤ X)) (1024 + (128 - (i + 1)) + t)) (i + 1) = (decide (10 ≤ X)).toNat + 2 * wf_sm (fun t => B' (1024 + (128 - i) + t)) i := by
    rw [wf_sm_cons, show 1024 + (128 - (i + 1)) + 0 = 1024 + (127 - i) by omega, va_up_self]
    congr 2
    refine wf_sm_congr (fun k hk => ?_)
    rw [va_up_ne _ _ (by omega)]
    congr 1
    omega
  refine ⟨fun j hj => ?_, ?_, ?_, ?_⟩
  · rw [va_up_ne _ _ (by omega)]; exact h1 j (by omega)
  · split <;> omega
  · rw [hq, a1, h3]
    generalize wf_sm (fun t => B' (1024 + (128 - i) + t)) i = Q
    by_cases h10 : 10 ≤ X
    · rw [if_pos h10, decide_eq_true h10, Bool.toNat_true]; omega
    · rw [if_neg h10, decide_eq_false h10, Bool.toNat_false]; omega
  · rw [hq, h4]
    generalize wf_sm (fun t => B' (1024 + (128 - i) + t)) i = Q
    by_cases h10 : 10 ≤ X
    · rw [decide_eq_true h10, Bool.or_true, Bool.toNat_true]
      exact (decide_eq_true (by omega)).symm
    · rw [decide_eq_false h10, Bool.or_false, Bool.toNat_false]
      exact decide_eq_decide.mpr (by omega)
theorem wf_TN_end {B B' : Nat → Bool} {L : Nat} {m : Bool} (h : wf_TN B B' 128 L m) : (∀ j, j < 8 → wf_R B' j = wf_R B j) ∧ L = wf_R B 8 % 10 ∧ wf_R B' 8 = wf_R B 8 / 10 ∧ m = decide (wf_R B' 8 ≠ 0) := by
  obtain ⟨h1, h2, h3, h4⟩ := h
  rw [Nat.sub_self, Nat.pow_zero, Nat.div_one] at h3
  have e : wf_sm (fun t => B' (1024 + (128 - 128) + t)) 128 = wf_R B' 8 := wf_sm_congr (fun k _ => by congr 1)
  rw [Nat.sub_self] at e
  rw [Nat.sub_self] at h4
  rw [e] at h3 h4
  refine ⟨fun j hj => wf_sm_congr (fun k hk => h1 _ (by omega)), by omega, by omega, h4⟩
/-- a row moved up by one place -/
def wf_shD (F : Nat → Int32) (n i : Nat) : Nat → Int32 := fun j => if n - i < j ∧ j ≤ n then F (j - 1) else F j
theorem wf_shD0 (F : Nat → Int32) (n : Nat) : wf_shD F n 0 = F := funext fun j => if_neg (by omega)
theorem wf_shDS (F : Nat → Int32) {n i : Nat} (hi : i < n) : va_up (wf_shD F n i) (n - i) (wf_shD F n i (n - i - 1)) = wf_shD F n (i + 1) := by
  funext j
  have h0 : wf_shD F n i (n - i - 1) = F (n - i - 1) := if_neg (by omega)
  rw [h0]
  by_cases h : j = n - i
  · subst h
    rw [va_up_self]
    exact (if_pos (by omega)).symm
  · rw [va_up_ne _ _ h]
    unfold wf_shD
    by_cases h2 : n - i < j ∧ j ≤ n
    · rw [if_pos h2, if_pos (by omega)]
    · rw [if_neg h2, if_neg (by omega)]
/-- behind c digits -/
def wf_DM (u x : SM) (n c : Nat) (m : Bool) : Prop := c ≤ 39 ∧ x.1 = 0 ∧ (∀ j, j < 8 → wf_R x.2.1 j = wf_R u.2.1 j) ∧ wf_R x.2.1 8 = n / 10 ^ c ∧ x.2.2.2.2.2.2 = nI c ∧ (c ≤ 1 ∨ 10 ^ (c - 1) ≤ n) ∧ m = decide (c = 0 ∨ n / 10 ^ c ≠ 0) ∧ ∀ i, i < c → x.2.2.2.2.2.1 i = nI (n / 10 ^ (c - 1 - i) % 10)
theorem wf_DM_38 {u x : SM} {n c : Nat} (hn : n < wf_NN) (h : wf_DM u x n c true) : c ≤ 38 := by
  obtain ⟨h1, -, -, -, -, -, h2, -⟩ := h
  rcases of_decide_eq_true h2.symm with h3 | h3
  · omega
  · rcases Nat.lt_or_ge c 39 with h4 | h4
    · omega
    · exfalso
      have : c = 39 := by omega
      subst this
      exact h3 (Nat.div_eq_of_lt (Nat.lt_trans hn (by unfold wf_NN; decide +kernel)))
theorem wf_DM_S {u x x1 x2 x3 x4 : SM} {n c L : Nat} {m : Bool} (hn : n < wf_NN) (h : wf_DM u x n c true) (e1 : x1 = (x.1, x1.2.1, x.2.2)) (hT : wf_TN x.2.1 x1.2.1 128 L m) (e2 : x2 = (x1.1, x1.2.1, x1.2.2.1, x1.2.2.2.1, x1.2.2.2.2.1, wf_shD x1.2.2.2.2.2.1 c c, x1.2.2.2.2.2.2))
    (e3 : (x2.1, x2.2.1, x2.2.2.1, x2.2.2.2.1, x2.2.2.2.2.1, va_up x2.2.2.2.2.2.1 0 (nI L), x2.2.2.2.2.2.2) = x3) (e4 : (x3.1, x3.2.1, x3.2.2.1, x3.2.2.2.1, x3.2.2.2.2.1, x3.2.2.2.2.2.1, nI (c + 1)) = x4) : wf_DM u x4 n (c + 1) m := by
  have h38 := wf_DM_38 hn h
  obtain ⟨h1, h2, h3, h4, h5, h6, h7, h8⟩ := h
  obtain ⟨t1, t2, t3, t4⟩ := wf_TN_end hT
  generalize x1.2.1 = B1 at e1 t1 t2 t3 t4
  subst e1 e2 e3 e4
  rw [h4] at t2 t3
  have t3' : wf_R B1 8 = n / 10 ^ (c + 1) := by rw [t3, Nat.div_div_eq_div_mul, ← Nat.pow_succ]
  refine ⟨by omega, h2, fun j hj => (t1 j hj).trans (h3 j hj), t3', rfl, ?_, ?_, fun i hi => ?_⟩
  · rcases of_decide_eq_true h7.symm with h9 | h9
    · left; omega
    · right
      rw [Nat.add_sub_cancel]
      rcases Nat.lt_or_ge n (10 ^ c) with hh | hh
      · exact absurd (Nat.div_eq_of_lt hh) h9
      · exact hh
  · rw [t4, t3']
    exact decide_eq_decide.mpr ⟨fun h => Or.inr h, fun h => by rcases h with h | h; omega; exact h⟩
  · show va_up (wf_shD x.2.2.2.2.2.1 c c) 0 (nI L) i = _
    by_cases h0 : i = 0
    · subst h0
      rw [va_up_self, t2, show c + 1 - 1 - 0 = c by omega]
    · rw [va_up_ne _ _ h0]
      have e : wf_shD x.2.2.2.2.2.1 c c i = x.2.2.2.2.2.1 (i - 1) := if_pos (by omega)
      rw [e, h8 (i - 1) (by omega), show c - 1 - (i - 1) = c + 1 - 1 - i by omega]
theorem wf_DM_0 {u u1 u2 u3 : SM} {rk : Nat} (hk : rk < 8) (e1 : (0, u.2) = u1) (e2 : u2 = (u1.1, va_cpy u1.2.1 u1.2.1 (128 * rk) (128 * 8) 128, u1.2.2)) (e3 : (u2.1, u2.2.1, u2.2.2.1, u2.2.2.2.1, u2.2.2.2.2.1, u2.2.2.2.2.2.1, (0 : Int32)) = u3) : wf_DM u u3 (wf_R u.2.1 rk) 0 true := by
  subst e1 e2 e3
  refine ⟨by decide, rfl, fun j hj => wf_R_else _ _ (by omega), ?_, rfl, Or.inl (by decide), rfl, fun i hi => absurd hi (Nat.not_lt_zero i)⟩
  show wf_R (va_cpy u.2.1 u.2.1 (128 * rk) (128 * 8) 128) 8 = _
  rw [wf_R_self, Nat.pow_zero, Nat.div_one]
  rfl
theorem wf_DM_end {u x : SM} {n c : Nat} (h : wf_DM u x n c false) : ∃ (c : Nat) (G : Nat → Nat), x.2.2.2.2.2.2 = nI c ∧ c ≤ 39 ∧ wf_DG n c G ∧ x.1 = 0 ∧ (∀ j, j < 8 → wf_R x.2.1 j = wf_R u.2.1 j) ∧ ∀ i, i < c → x.2.2.2.2.2.1 i = nI (G i) := by
  obtain ⟨h1, h2, h3, h4, h5, h6, h7, h8⟩ := h
  have h9 := of_decide_eq_false h7.symm
  have hc : 1 ≤ c := by omega
  have hz : n / 10 ^ c = 0 := by
    rcases Nat.eq_zero_or_pos (n / 10 ^ c) with h | h
    · exact h
    · exact absurd (Or.inr (by omega)) h9
  refine ⟨c, fun i => n / 10 ^ (c - 1 - i) % 10, h5, h1, ⟨hc, ?_, ?_, fun i hi => rfl⟩, h2, h3, h8⟩
  · rcases Nat.lt_or_ge n (10 ^ c) with h | h
    · exact h
    · exfalso
      have := Nat.div_pos h (Nat.pow_pos (by decide))
      omega
  · rcases h6 with h | h
    · left; omega
    · exact Or.inr h
