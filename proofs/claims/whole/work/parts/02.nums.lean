/-! ===== numbers: the value of n bits; a number of 128 bits out of two longs (the first family is pasted from kit/laws/BITS) ===== -/
/-! ===== Int64 as an unsigned number: uN x ===== -/
def uN (x : Int64) : Nat := x.toUInt64.toNat
theorem uN_lt (x : Int64) : uN x < 18446744073709551616 := x.toUInt64.toNat_lt
theorem uN_inj {x y : Int64} (h : uN x = uN y) : x = y := congrArg UInt64.toInt64 (UInt64.toNat_inj.mp h)
theorem uN_add (x y : Int64) : uN (x + y) = (uN x + uN y) % 18446744073709551616 := by
  show (x.toUInt64 + y.toUInt64).toNat = _
  exact UInt64.toNat_add _ _
theorem uN_mul (x y : Int64) : uN (x * y) = (uN x * uN y) % 18446744073709551616 := by
  show (x.toUInt64 * y.toUInt64).toNat = _
  exact UInt64.toNat_mul _ _
theorem uN_shl (x : Int64) : uN (x <<< ((1 : Int32).toInt64 &&& 63)) = (2 * uN x) % 18446744073709551616 := by
  have h : (((1 : Int32).toInt64 &&& 63).toBitVec.smod 64).toNat = 1 := by decide
  show (x.toBitVec <<< (((1 : Int32).toInt64 &&& 63).toBitVec.smod 64).toNat).toNat = _
  rw [h, BitVec.toNat_shiftLeft, Nat.shiftLeft_eq, Nat.mul_comm]
  rfl
theorem uN_shr (x : Int64) (s : UInt64) : uN (x.toUInt64 >>> s).toInt64 = uN x / 2 ^ (s.toNat % 64) := by
  show (x.toUInt64 >>> s).toNat = _
  rw [UInt64.toNat_shiftRight, Nat.shiftRight_eq_div_pow]
  rfl
theorem uN_s32 (x : Int64) : uN (x.toUInt64 >>> ((32 : Int32).toInt64.toUInt64 &&& Int64.toUInt64 63)).toInt64 = uN x / 4294967296 := by
  have h : ((32 : Int32).toInt64.toUInt64 &&& Int64.toUInt64 63).toNat % 64 = 32 := by decide
  rw [uN_shr, h]
theorem uN_s63 (x : Int64) : uN (x.toUInt64 >>> ((63 : Int32).toInt64.toUInt64 &&& Int64.toUInt64 63)).toInt64 = uN x / 9223372036854775808 := by
  have h : ((63 : Int32).toInt64.toUInt64 &&& Int64.toUInt64 63).toNat % 64 = 63 := by decide
  rw [uN_shr, h]
theorem uN_lo (x : Int64) : uN (x &&& 4294967295) = uN x % 4294967296 := by
  show (x.toUInt64 &&& Int64.toUInt64 4294967295).toNat = _
  rw [UInt64.toNat_and]
  exact Nat.and_two_pow_sub_one_eq_mod _ 32
theorem uN_bit (x : Int64) : (x &&& 1) = 0 ↔ uN x % 2 = 0 := by
  have h : uN (x &&& 1) = uN x % 2 := by
    show (x.toUInt64 &&& Int64.toUInt64 1).toNat = _
    rw [UInt64.toNat_and]
    exact Nat.and_two_pow_sub_one_eq_mod _ 1
  rw [← h]
  exact ⟨fun z => by rw [z]; rfl, fun z => uN_inj (z.trans rfl)⟩
theorem uN_or {x y : Int64} (hy : uN y < 2) : uN ((x <<< ((1 : Int32).toInt64 &&& 63)) ||| y) = (2 * uN x) % 18446744073709551616 + uN y := by
  have h1 : uN ((x <<< ((1 : Int32).toInt64 &&& 63)) ||| y) = uN (x <<< ((1 : Int32).toInt64 &&& 63)) ||| uN y := UInt64.toNat_or _ _
  have h2 : (2 * uN x) % 18446744073709551616 = 2 ^ 1 * (uN x % 9223372036854775808) := by omega
  rw [h1, uN_shl, h2]
  exact (Nat.two_pow_add_eq_or_of_lt (i := 1) hy _).symm
theorem nat_xor {a : Nat} (h : a < 18446744073709551616) : a ^^^ 2 ^ 63 = (a + 9223372036854775808) % 18446744073709551616 := by
  have h1 : (a ^^^ 2 ^ 63) % 2 ^ 63 = a % 2 ^ 63 := by rw [Nat.xor_mod_two_pow, Nat.mod_self, Nat.xor_zero]
  have h2 : (a ^^^ 2 ^ 63) / 2 ^ 63 = (a / 2 ^ 63) ^^^ 1 := by rw [Nat.xor_div_two_pow, Nat.div_self (Nat.two_pow_pos 63)]
  have h3 : a / 2 ^ 63 = 0 ∨ a / 2 ^ 63 = 1 := by omega
  generalize a ^^^ 2 ^ 63 = t at h1 h2
  rcases h3 with h3 | h3
  · rw [h3] at h2
    have h2 : t / 2 ^ 63 = 1 := h2
    omega
  · rw [h3] at h2
    have h2 : t / 2 ^ 63 = 0 := h2
    omega
theorem uN_xor (x : Int64) : uN (x ^^^ (-9223372036854775808)) = (uN x + 9223372036854775808) % 18446744073709551616 := by
  rw [← nat_xor (uN_lt x)]
  exact UInt64.toNat_xor _ _
theorem uN_int (x : Int64) : x.toInt = if 2 * uN x < 18446744073709551616 then (uN x : Int) else (uN x : Int) - 18446744073709551616 := BitVec.toInt_eq_toNat_cond _
theorem uN_le (x y : Int64) : (x ^^^ (-9223372036854775808)) ≤ (y ^^^ (-9223372036854775808)) ↔ uN x ≤ uN y := by
  have hx := uN_lt x
  have hy := uN_lt y
  rw [Int64.le_iff_toInt_le, uN_int, uN_int, uN_xor, uN_xor]
  omega
theorem uN_sk (x : Int64) {k : Nat} (hk : k < 64) : uN (x.toUInt64 >>> ((nI k).toInt64.toUInt64 &&& Int64.toUInt64 63)).toInt64 = uN x / 2 ^ k := by
  have h : ((nI k).toInt64.toUInt64 &&& Int64.toUInt64 63).toNat % 64 = k := by
    rw [nI_l (by omega), UInt64.toNat_and]
    have e : (lN k).toUInt64.toNat = k % 2 ^ 64 := rfl
    have e2 : (Int64.toUInt64 63).toNat = 2 ^ 6 - 1 := by decide
    rw [e, e2, Nat.and_two_pow_sub_one_eq_mod]
    omega
  rw [uN_shr, h]
/-- the number that the bits f 0 .. f (n-1) write -/
def wf_sm (f : Nat → Bool) : Nat → Nat
  | 0 => 0
  | n + 1 => wf_sm f n + (f n).toNat * 2 ^ n
theorem wf_sm0 (f : Nat → Bool) : wf_sm f 0 = 0 := rfl
theorem wf_smS (f : Nat → Bool) (n : Nat) : wf_sm f (n + 1) = wf_sm f n + (f n).toNat * 2 ^ n := rfl
theorem wf_tn (b : Bool) : b.toNat ≤ 1 := by cases b <;> decide
theorem wf_sm_lt (f : Nat → Bool) (n : Nat) : wf_sm f n < 2 ^ n := by
  induction n with
  | zero => exact Nat.one_pos
  | succ n ih =>
    have h2 : (f n).toNat * 2 ^ n ≤ 1 * 2 ^ n := Nat.mul_le_mul_right _ (wf_tn _)
    rw [wf_smS, Nat.pow_succ]
    omega
theorem wf_sm_congr {f g : Nat → Bool} {n : Nat} (h : ∀ k, k < n → f k = g k) : wf_sm f n = wf_sm g n := by
  induction n with
  | zero => rfl
  | succ n ih => rw [wf_smS, wf_smS, ih (fun k hk => h k (Nat.lt_succ_of_lt hk)), h n (Nat.lt_succ_self n)]
theorem wf_sm_add (f : Nat → Bool) (m n : Nat) : wf_sm f (m + n) = wf_sm f m + 2 ^ m * wf_sm (fun k => f (m + k)) n := by
  induction n with
  | zero => rw [wf_sm0, Nat.mul_zero]; rfl
  | succ n ih =>
    have e : (f (m + n)).toNat * (2 ^ m * 2 ^ n) = 2 ^ m * ((f (m + n)).toNat * 2 ^ n) := Nat.mul_left_comm _ _ _
    rw [← Nat.add_assoc, wf_smS, wf_smS, ih, Nat.mul_add, Nat.pow_add, e, Nat.add_assoc]
theorem wf_sm_bit {f : Nat → Bool} {n k : Nat} (h : k < n) : wf_sm f n / 2 ^ k % 2 = (f k).toNat := by
  obtain ⟨r, rfl⟩ : ∃ r, n = (k + 1) + r := ⟨n - (k + 1), by omega⟩
  have hl := wf_sm_lt f k
  have hb := wf_tn (f k)
  rw [wf_sm_add, wf_smS]
  generalize wf_sm (fun j => f (k + 1 + j)) r = t
  have e : wf_sm f k + (f k).toNat * 2 ^ k + 2 ^ (k + 1) * t = wf_sm f k + ((f k).toNat + 2 * t) * 2 ^ k := by
    rw [Nat.add_mul, Nat.pow_succ, Nat.mul_assoc (2 ^ k) 2 t, Nat.mul_comm (2 ^ k) (2 * t), Nat.add_assoc]
  rw [e, Nat.add_mul_div_right _ _ (Nat.two_pow_pos k), Nat.div_eq_of_lt hl]
  omega
theorem wf_sm_tb (N n : Nat) : wf_sm (fun k => N.testBit k) n = N % 2 ^ n := by
  induction n with
  | zero => rw [wf_sm0, Nat.pow_zero, Nat.mod_one]
  | succ n ih => rw [wf_smS, ih, Nat.mod_pow_succ, Nat.toNat_testBit, Nat.mul_comm]
theorem wf_sm_inj {f g : Nat → Bool} {n : Nat} (h : wf_sm f n = wf_sm g n) {k : Nat} (hk : k < n) : f k = g k := by
  have h1 := wf_sm_bit (f := f) hk
  have h2 := wf_sm_bit (f := g) hk
  rw [h] at h1
  have h3 : (f k).toNat = (g k).toNat := h1.symm.trans h2
  cases hf : f k <;> cases hg : g k <;> rw [hf, hg] at h3 <;> first | rfl | cases h3
theorem wf_sm_z {n : Nat} : wf_sm (fun _ => false) n = 0 := by
  induction n with
  | zero => rfl
  | succ n ih => rw [wf_smS, ih]; simp
/-- one bit of the upper part, the rest below: sums read from the top -/
theorem wf_sm_top (f : Nat → Bool) (m k : Nat) (h : k < m) : wf_sm f m / 2 ^ k = 2 * (wf_sm f m / 2 ^ (k + 1)) + (f k).toNat := by
  have h1 := wf_sm_bit (f := f) h
  have h2 : wf_sm f m / 2 ^ (k + 1) = wf_sm f m / 2 ^ k / 2 := by rw [Nat.pow_succ, Nat.div_div_eq_div_mul]
  rw [h2]
  omega
/-- a long as 64 bits without a sign; two of them -/
abbrev wf_V (h l : Int64) : Nat := uN h * 18446744073709551616 + uN l
theorem wf_V_lt (h l : Int64) : wf_V h l < 340282366920938463463374607431768211456 := by
  have h1 := uN_lt h
  have h2 := uN_lt l
  unfold wf_V
  omega
theorem uN_sub (x y : Int64) : uN (x - y) = (uN x + 18446744073709551616 - uN y) % 18446744073709551616 := by
  have h1 := uN_lt x
  have h2 := uN_lt y
  have h3 : uN (x - y) = (18446744073709551616 - uN y + uN x) % 18446744073709551616 := by
    show (x.toUInt64 - y.toUInt64).toNat = _
    exact UInt64.toNat_sub _ _
  rw [h3]
  congr 1
  omega
theorem uN_ofNat (n : Nat) : uN (lN n) = n % 18446744073709551616 := by
  show (BitVec.ofNat 64 n).toNat = _
  rw [BitVec.toNat_ofNat]
theorem uN_eq0 {x : Int64} : x = 0 ↔ uN x = 0 := ⟨fun h => by rw [h]; rfl, fun h => uN_inj (h.trans rfl)⟩
/-- a sum that may pass 2^64, and the carry by comparison -/
theorem wf_carry {x y : Nat} (hx : x < 18446744073709551616) (hy : y < 18446744073709551616) : x + y = (x + y) % 18446744073709551616 + (if (x + y) % 18446744073709551616 < x then 1 else 0) * 18446744073709551616 := by
  split <;> omega
theorem wf_carry' {x y : Nat} (hx : x < 18446744073709551616) (hy : y < 18446744073709551616) : x + y = (x + y) % 18446744073709551616 + (if (x + y) % 18446744073709551616 < y then 1 else 0) * 18446744073709551616 := by
  split <;> omega
theorem wf_ring (a b c d M : Nat) : (a * M + b) * (c * M + d) = a * c * (M * M) + (a * d + b * c) * M + b * d := by
  have h1 : a * M * (c * M) = a * c * (M * M) := Nat.mul_mul_mul_comm a M c M
  have h2 : a * M * d = a * d * M := Nat.mul_right_comm a M d
  have h3 : b * (c * M) = b * c * M := (Nat.mul_assoc b c M).symm
  rw [Nat.add_mul, Nat.mul_add, Nat.mul_add, h1, h2, h3, Nat.add_mul]
  omega
theorem wf_le_mul {a b A B : Nat} (h1 : a ≤ A) (h2 : b ≤ B) : a * b ≤ A * B := Nat.mul_le_mul h1 h2
/-- the upper half of a product of two halves, by parts of 32 bits -/
theorem wf_over {a b c d : Nat} (ha : a < 4294967296) (hb : b < 4294967296) (hc : c < 4294967296) (hd : d < 4294967296) :
    a * d + b * d / 4294967296 < 18446744073709551616 ∧ b * c + (a * d + b * d / 4294967296) % 4294967296 < 18446744073709551616 ∧
    a * c + (a * d + b * d / 4294967296) / 4294967296 + (b * c + (a * d + b * d / 4294967296) % 4294967296) / 4294967296 = (a * 4294967296 + b) * (c * 4294967296 + d) / 18446744073709551616 := by
  have h1 : a * c ≤ 4294967295 * 4294967295 := wf_le_mul (by omega) (by omega)
  have h2 : a * d ≤ 4294967295 * 4294967295 := wf_le_mul (by omega) (by omega)
  have h3 : b * c ≤ 4294967295 * 4294967295 := wf_le_mul (by omega) (by omega)
  have h4 : b * d ≤ 4294967295 * 4294967295 := wf_le_mul (by omega) (by omega)
  rw [wf_ring, Nat.add_mul]
  generalize a * c = p at *
  generalize a * d = q at *
  generalize b * c = u at *
  generalize b * d = v at *
  refine ⟨by omega, by omega, by omega⟩
/-! ===== shifts, or, unsigned comparison ===== -/
theorem wf_flip (x : Int64) : (x + (-9223372036854775808)).toInt = (uN x : Int) - 9223372036854775808 := by
  have h1 := uN_lt x
  have h2 : uN (-9223372036854775808) = 9223372036854775808 := by decide
  rw [uN_int, uN_add, h2]
  omega
theorem wf_ult (x y : Int64) : x + (-9223372036854775808) < y + (-9223372036854775808) ↔ uN x < uN y := by
  rw [Int64.lt_iff_toInt_lt, wf_flip, wf_flip]
  omega
theorem wf_ueq (x y : Int64) : x + (-9223372036854775808) = y + (-9223372036854775808) ↔ uN x = uN y := by
  constructor
  · intro h
    have h1 := congrArg Int64.toInt h
    rw [wf_flip, wf_flip] at h1
    omega
  · intro h
    rw [uN_inj h]
theorem wf_cnt : ∀ k, k < 64 → (((nI k).toInt64 &&& 63).toBitVec.smod 64).toNat = k := by decide +kernel
theorem wf_shl (x : Int64) {k : Nat} (hk : k < 64) : uN (x <<< ((nI k).toInt64 &&& 63)) = uN x * 2 ^ k % 18446744073709551616 := by
  show (x.toBitVec <<< (((nI k).toInt64 &&& 63).toBitVec.smod 64).toNat).toNat = _
  rw [wf_cnt k hk, BitVec.toNat_shiftLeft, Nat.shiftLeft_eq]
  rfl
theorem uN_or' (x y : Int64) : uN (x ||| y) = uN x ||| uN y := UInt64.toNat_or _ _
theorem uN_and' (x y : Int64) : uN (x &&& y) = uN x &&& uN y := UInt64.toNat_and _ _
/-- an 'or' of parts that don't overlap -/
theorem wf_or {a b k : Nat} (h : b < 2 ^ k) : a * 2 ^ k ||| b = a * 2 ^ k + b := by
  rw [Nat.mul_comm]
  exact (Nat.two_pow_add_eq_or_of_lt h a).symm
theorem wf_modpow (x : Nat) {k : Nat} (hk : k ≤ 64) : x * 2 ^ k % 18446744073709551616 = (x % 2 ^ (64 - k)) * 2 ^ k := by
  have h : (18446744073709551616 : Nat) = 2 ^ (64 - k) * 2 ^ k := by rw [← Nat.pow_add, Nat.sub_add_cancel hk]
  rw [h, Nat.mul_mod_mul_right]
/-- x << k | (y >>> (64 - k)) -/
theorem wf_shlor {x y : Nat} (hy : y < 18446744073709551616) {k : Nat} (hk : k ≤ 64) : x * 2 ^ k % 18446744073709551616 ||| y / 2 ^ (64 - k) = x * 2 ^ k % 18446744073709551616 + y / 2 ^ (64 - k) := by
  rw [wf_modpow x hk]
  refine wf_or ?_
  have h : (18446744073709551616 : Nat) = 2 ^ k * 2 ^ (64 - k) := by rw [← Nat.pow_add, Nat.add_comm, Nat.sub_add_cancel hk]
  rw [h] at hy
  exact (Nat.div_lt_iff_lt_mul (Nat.two_pow_pos _)).mpr hy
/-! ===== rows of the bits ===== -/
theorem wf_up_at {α : Type} (F : Nat → α) (k : Nat) (b : α) : va_up F k b k = b := va_up_self F k b
theorem wf_sm_push (F : Nat → Bool) (s n : Nat) (b : Bool) : wf_sm (fun i => va_up F (s + n) b (s + i)) (n + 1) = wf_sm (fun i => F (s + i)) n + b.toNat * 2 ^ n := by
  rw [wf_smS, va_up_self]
  congr 1
  exact wf_sm_congr (fun k hk => va_up_ne F b (by omega))
theorem wf_sm_skip (F : Nat → Bool) {s n j : Nat} (b : Bool) (h : j < s ∨ s + n ≤ j) : wf_sm (fun i => va_up F j b (s + i)) n = wf_sm (fun i => F (s + i)) n :=
  wf_sm_congr (fun k hk => va_up_ne F b (by omega))
/-- a full adder; a full subtracter -/
theorem wf_fa (a b c : Bool) : ((a != b) != c).toNat + 2 * (a && b || a && c || b && c).toNat = a.toNat + b.toNat + c.toNat := by cases a <;> cases b <;> cases c <;> decide
theorem wf_fs (a b c : Bool) : ((a != b) != c).toNat + b.toNat + c.toNat = a.toNat + 2 * (!a && (b || c) || b && c).toNat := by cases a <;> cases b <;> cases c <;> decide
theorem wf_add_step {S X Y P : Nat} {a b c d e : Bool} (h : S + c.toNat * P = X + Y) (hd : d.toNat + 2 * e.toNat = a.toNat + b.toNat + c.toNat) : S + d.toNat * P + e.toNat * (P * 2) = X + a.toNat * P + (Y + b.toNat * P) := by
  revert hd h
  cases a <;> cases b <;> cases c <;> cases d <;> cases e <;> simp only [Bool.toNat_false, Bool.toNat_true] <;> intros <;> omega
theorem wf_sub_step {S X Y P : Nat} {a b c d e : Bool} (h : S + Y = X + c.toNat * P) (hd : d.toNat + b.toNat + c.toNat = a.toNat + 2 * e.toNat) : S + d.toNat * P + (Y + b.toNat * P) = X + a.toNat * P + e.toNat * (P * 2) := by
  revert hd h
  cases a <;> cases b <;> cases c <;> cases d <;> cases e <;> simp only [Bool.toNat_false, Bool.toNat_true] <;> intros <;> omega
/-- the number of a register -/
def wf_R (B : Nat → Bool) (r : Nat) : Nat := wf_sm (fun k => B (128 * r + k)) 128
theorem wf_R_lt (B : Nat → Bool) (r : Nat) : wf_R B r < 340282366920938463463374607431768211456 := wf_sm_lt _ 128
