section
-- ===== PART A: goes FIRST, ahead of the names: the tables' words, and 'selects' of the private methods out of them =====
/-- a private method of a class that the tables say can be made, by its rows of tables_1 -/
def lw_okq (q : MethodName × Nat) : Prop := (q.1.cls ≠ "java/lang/invoke/MethodHandle" ∧ q.1.cls ≠ "java/lang/invoke/VarHandle") ∧ Cond.instantiable q.1.cls q.2 ∈ tables_1 ∧ Cond.privateMethod q.1 ∈ tables_1 ∧ Cond.instanceMethod q.1 ∈ tables_1
theorem lw_p0 : lw_okq (⟨"java/lang/Throwable", "fillInStackTrace", "(I)Ljava/lang/Throwable;"⟩, 6) := ⟨⟨by decide +kernel, by decide +kernel⟩, List.mem_of_getElem? (i := 91) (by decide +kernel), List.mem_of_getElem? (i := 89) (by decide +kernel), List.mem_of_getElem? (i := 90) (by decide +kernel)⟩
theorem lw_p1 : lw_okq (⟨"WideFractions", "store", "(IJJ)V"⟩, 5) := ⟨⟨by decide +kernel, by decide +kernel⟩, List.mem_of_getElem? (i := 12) (by decide +kernel), List.mem_of_getElem? (i := 121) (by decide +kernel), List.mem_of_getElem? (i := 122) (by decide +kernel)⟩
theorem lw_p2 : lw_okq (⟨"WideFractions", "storeProduct", "(JJJJII)V"⟩, 5) := ⟨⟨by decide +kernel, by decide +kernel⟩, List.mem_of_getElem? (i := 12) (by decide +kernel), List.mem_of_getElem? (i := 186) (by decide +kernel), List.mem_of_getElem? (i := 187) (by decide +kernel)⟩
theorem lw_p3 : lw_okq (⟨"WideFractions", "storeQuotient", "(JJJJII)V"⟩, 5) := ⟨⟨by decide +kernel, by decide +kernel⟩, List.mem_of_getElem? (i := 12) (by decide +kernel), List.mem_of_getElem? (i := 218) (by decide +kernel), List.mem_of_getElem? (i := 219) (by decide +kernel)⟩
theorem lw_p4 : lw_okq (⟨"WideFractions", "storeRoot", "(JJII)V"⟩, 5) := ⟨⟨by decide +kernel, by decide +kernel⟩, List.mem_of_getElem? (i := 12) (by decide +kernel), List.mem_of_getElem? (i := 229) (by decide +kernel), List.mem_of_getElem? (i := 230) (by decide +kernel)⟩
theorem lw_p5 : lw_okq (⟨"WideFractions", "storeShiftedUp", "(JJII)Z"⟩, 5) := ⟨⟨by decide +kernel, by decide +kernel⟩, List.mem_of_getElem? (i := 12) (by decide +kernel), List.mem_of_getElem? (i := 240) (by decide +kernel), List.mem_of_getElem? (i := 241) (by decide +kernel)⟩
theorem lw_p6 : lw_okq (⟨"WideFractions", "storeShiftedDown", "(JJII)Z"⟩, 5) := ⟨⟨by decide +kernel, by decide +kernel⟩, List.mem_of_getElem? (i := 12) (by decide +kernel), List.mem_of_getElem? (i := 254) (by decide +kernel), List.mem_of_getElem? (i := 255) (by decide +kernel)⟩
theorem lw_p7 : lw_okq (⟨"WideFractions", "splitIntoParts", "(JJ)V"⟩, 5) := ⟨⟨by decide +kernel, by decide +kernel⟩, List.mem_of_getElem? (i := 12) (by decide +kernel), List.mem_of_getElem? (i := 296) (by decide +kernel), List.mem_of_getElem? (i := 297) (by decide +kernel)⟩
theorem lw_p8 : lw_okq (⟨"WideFractions", "takeLowestDigit", "()I"⟩, 5) := ⟨⟨by decide +kernel, by decide +kernel⟩, List.mem_of_getElem? (i := 12) (by decide +kernel), List.mem_of_getElem? (i := 300) (by decide +kernel), List.mem_of_getElem? (i := 301) (by decide +kernel)⟩
theorem lw_p9 : lw_okq (⟨"WideFractions", "partsAreZero", "()Z"⟩, 5) := ⟨⟨by decide +kernel, by decide +kernel⟩, List.mem_of_getElem? (i := 12) (by decide +kernel), List.mem_of_getElem? (i := 305) (by decide +kernel), List.mem_of_getElem? (i := 306) (by decide +kernel)⟩
theorem lw_p10 : lw_okq (⟨"WideFractionsModel", "copy", "(II)V"⟩, 7) := ⟨⟨by decide +kernel, by decide +kernel⟩, List.mem_of_getElem? (i := 317) (by decide +kernel), List.mem_of_getElem? (i := 366) (by decide +kernel), List.mem_of_getElem? (i := 367) (by decide +kernel)⟩
theorem lw_p11 : lw_okq (⟨"WideFractionsModel", "join", "(Z)Z"⟩, 7) := ⟨⟨by decide +kernel, by decide +kernel⟩, List.mem_of_getElem? (i := 317) (by decide +kernel), List.mem_of_getElem? (i := 370) (by decide +kernel), List.mem_of_getElem? (i := 371) (by decide +kernel)⟩
theorem lw_p12 : lw_okq (⟨"WideFractionsModel", "findProduct", "(II)V"⟩, 7) := ⟨⟨by decide +kernel, by decide +kernel⟩, List.mem_of_getElem? (i := 317) (by decide +kernel), List.mem_of_getElem? (i := 382) (by decide +kernel), List.mem_of_getElem? (i := 383) (by decide +kernel)⟩
theorem lw_p13 : lw_okq (⟨"WideFractionsModel", "take", "([ZII)V"⟩, 7) := ⟨⟨by decide +kernel, by decide +kernel⟩, List.mem_of_getElem? (i := 317) (by decide +kernel), List.mem_of_getElem? (i := 386) (by decide +kernel), List.mem_of_getElem? (i := 387) (by decide +kernel)⟩
theorem lw_p14 : lw_okq (⟨"WideFractionsModel", "clearRest", "()V"⟩, 7) := ⟨⟨by decide +kernel, by decide +kernel⟩, List.mem_of_getElem? (i := 317) (by decide +kernel), List.mem_of_getElem? (i := 394) (by decide +kernel), List.mem_of_getElem? (i := 395) (by decide +kernel)⟩
theorem lw_p15 : lw_okq (⟨"WideFractionsModel", "bring", "(Z)V"⟩, 7) := ⟨⟨by decide +kernel, by decide +kernel⟩, List.mem_of_getElem? (i := 317) (by decide +kernel), List.mem_of_getElem? (i := 398) (by decide +kernel), List.mem_of_getElem? (i := 399) (by decide +kernel)⟩
def lw_privs_1 : List (MethodName × Nat) := [(⟨"java/lang/Throwable", "fillInStackTrace", "(I)Ljava/lang/Throwable;"⟩, 6), (⟨"WideFractions", "store", "(IJJ)V"⟩, 5), (⟨"WideFractions", "storeProduct", "(JJJJII)V"⟩, 5), (⟨"WideFractions", "storeQuotient", "(JJJJII)V"⟩, 5), (⟨"WideFractions", "storeRoot", "(JJII)V"⟩, 5), (⟨"WideFractions", "storeShiftedUp", "(JJII)Z"⟩, 5), (⟨"WideFractions", "storeShiftedDown", "(JJII)Z"⟩, 5), (⟨"WideFractions", "splitIntoParts", "(JJ)V"⟩, 5), (⟨"WideFractions", "takeLowestDigit", "()I"⟩, 5), (⟨"WideFractions", "partsAreZero", "()Z"⟩, 5), (⟨"WideFractionsModel", "copy", "(II)V"⟩, 7), (⟨"WideFractionsModel", "join", "(Z)Z"⟩, 7), (⟨"WideFractionsModel", "findProduct", "(II)V"⟩, 7), (⟨"WideFractionsModel", "take", "([ZII)V"⟩, 7), (⟨"WideFractionsModel", "clearRest", "()V"⟩, 7), (⟨"WideFractionsModel", "bring", "(Z)V"⟩, 7)]
theorem lw_r1 : ∀ q ∈ lw_privs_1, lw_okq q := List.forall_mem_cons.mpr ⟨lw_p0, List.forall_mem_cons.mpr ⟨lw_p1, List.forall_mem_cons.mpr ⟨lw_p2, List.forall_mem_cons.mpr ⟨lw_p3, List.forall_mem_cons.mpr ⟨lw_p4, List.forall_mem_cons.mpr ⟨lw_p5, List.forall_mem_cons.mpr ⟨lw_p6, List.forall_mem_cons.mpr ⟨lw_p7, List.forall_mem_cons.mpr ⟨lw_p8, List.forall_mem_cons.mpr ⟨lw_p9, List.forall_mem_cons.mpr ⟨lw_p10, List.forall_mem_cons.mpr ⟨lw_p11, List.forall_mem_cons.mpr ⟨lw_p12, List.forall_mem_cons.mpr ⟨lw_p13, List.forall_mem_cons.mpr ⟨lw_p14, List.forall_mem_cons.mpr ⟨lw_p15, fun _ h => absurd h List.not_mem_nil⟩⟩⟩⟩⟩⟩⟩⟩⟩⟩⟩⟩⟩⟩⟩⟩
theorem lw_p16 : lw_okq (⟨"WideFractionsModel", "takeAway", "(I)Z"⟩, 7) := ⟨⟨by decide +kernel, by decide +kernel⟩, List.mem_of_getElem? (i := 317) (by decide +kernel), List.mem_of_getElem? (i := 402) (by decide +kernel), List.mem_of_getElem? (i := 403) (by decide +kernel)⟩
theorem lw_p17 : lw_okq (⟨"WideFractionsModel", "lower", "(II)Z"⟩, 7) := ⟨⟨by decide +kernel, by decide +kernel⟩, List.mem_of_getElem? (i := 317) (by decide +kernel), List.mem_of_getElem? (i := 406) (by decide +kernel), List.mem_of_getElem? (i := 407) (by decide +kernel)⟩
theorem lw_p18 : lw_okq (⟨"WideFractionsModel", "move", "(IJI)Z"⟩, 7) := ⟨⟨by decide +kernel, by decide +kernel⟩, List.mem_of_getElem? (i := 317) (by decide +kernel), List.mem_of_getElem? (i := 418) (by decide +kernel), List.mem_of_getElem? (i := 419) (by decide +kernel)⟩
def lw_privs_2 : List (MethodName × Nat) := [(⟨"WideFractionsModel", "takeAway", "(I)Z"⟩, 7), (⟨"WideFractionsModel", "lower", "(II)Z"⟩, 7), (⟨"WideFractionsModel", "move", "(IJI)Z"⟩, 7)]
theorem lw_r2 : ∀ q ∈ lw_privs_2, lw_okq q := List.forall_mem_cons.mpr ⟨lw_p16, List.forall_mem_cons.mpr ⟨lw_p17, List.forall_mem_cons.mpr ⟨lw_p18, fun _ h => absurd h List.not_mem_nil⟩⟩⟩
def lw_privs : List (MethodName × Nat) := lw_privs_1 ++ (lw_privs_2)
def lw_tbl : List Cond := k2_sels lw_privs ++ tables_1
theorem lw_privs_ok : ∀ q ∈ lw_privs, lw_okq q := by
  show ∀ q ∈ lw_privs_1 ++ (lw_privs_2), lw_okq q
  exact List.forall_mem_append.mpr ⟨lw_r1, lw_r2⟩
end
section
/-! ===== numbers: the value of n bits; a number of 128 bits out of two longs (the first family is pasted from kit/laws/BITS) ===== -/
/-! ===== Int64 as an unsigned number: uN x ===== -/
def uN (x : Int64) : Nat := x.toUInt64.toNat
theorem uN_lt (x : Int64) : uN x < 18446744073709551616 := x.toUInt64.toNat_lt
theorem uN_inj {x y : Int64} (h : uN x = uN y) : x = y := congrArg UInt64.toInt64 (UInt64.toNat_inj.mp h)
theorem uN_add (x y : Int64) : uN (x + y) = (uN x + uN y) % 18446744073709551616 := by
  show (x.toUInt64 + y.toUInt64).toNat = _
  exact UInt64.toNat_add _ _
theorem uN_mul (x y : Int64) : uN (x * y) = (uN x * uN y) % 18446744073709551616 := by
  show (x.toUInt64 * y.toUInt64).toNat = _
  exact UInt64.toNat_mul _ _
theorem uN_shl (x : Int64) : uN (x <<< ((1 : Int32).toInt64 &&& 63)) = (2 * uN x) % 18446744073709551616 := by
  have h : (((1 : Int32).toInt64 &&& 63).toBitVec.smod 64).toNat = 1 := by decide
  show (x.toBitVec <<< (((1 : Int32).toInt64 &&& 63).toBitVec.smod 64).toNat).toNat = _
  rw [h, BitVec.toNat_shiftLeft, Nat.shiftLeft_eq, Nat.mul_comm]
  rfl
theorem uN_shr (x : Int64) (s : UInt64) : uN (x.toUInt64 >>> s).toInt64 = uN x / 2 ^ (s.toNat % 64) := by
  show (x.toUInt64 >>> s).toNat = _
  rw [UInt64.toNat_shiftRight, Nat.shiftRight_eq_div_pow]
  rfl
theorem uN_s32 (x : Int64) : uN (x.toUInt64 >>> ((32 : Int32).toInt64.toUInt64 &&& Int64.toUInt64 63)).toInt64 = uN x / 4294967296 := by
  have h : ((32 : Int32).toInt64.toUInt64 &&& Int64.toUInt64 63).toNat % 64 = 32 := by decide
  rw [uN_shr, h]
theorem uN_s63 (x : Int64) : uN (x.toUInt64 >>> ((63 : Int32).toInt64.toUInt64 &&& Int64.toUInt64 63)).toInt64 = uN x / 9223372036854775808 := by
  have h : ((63 : Int32).toInt64.toUInt64 &&& Int64.toUInt64 63).toNat % 64 = 63 := by decide
  rw [uN_shr, h]
theorem uN_lo (x : Int64) : uN (x &&& 4294967295) = uN x % 4294967296 := by
  show (x.toUInt64 &&& Int64.toUInt64 4294967295).toNat = _
  rw [UInt64.toNat_and]
  exact Nat.and_two_pow_sub_one_eq_mod _ 32
theorem uN_bit (x : Int64) : (x &&& 1) = 0 ↔ uN x % 2 = 0 := by
  have h : uN (x &&& 1) = uN x % 2 := by
    show (x.toUInt64 &&& Int64.toUInt64 1).toNat = _
    rw [UInt64.toNat_and]
    exact Nat.and_two_pow_sub_one_eq_mod _ 1
  rw [← h]
  exact ⟨fun z => by rw [z]; rfl, fun z => uN_inj (z.trans rfl)⟩
theorem uN_or {x y : Int64} (hy : uN y < 2) : uN ((x <<< ((1 : Int32).toInt64 &&& 63)) ||| y) = (2 * uN x) % 18446744073709551616 + uN y := by
  have h1 : uN ((x <<< ((1 : Int32).toInt64 &&& 63)) ||| y) = uN (x <<< ((1 : Int32).toInt64 &&& 63)) ||| uN y := UInt64.toNat_or _ _
  have h2 : (2 * uN x) % 18446744073709551616 = 2 ^ 1 * (uN x % 9223372036854775808) := by omega
  rw [h1, uN_shl, h2]
  exact (Nat.two_pow_add_eq_or_of_lt (i := 1) hy _).symm
theorem nat_xor {a : Nat} (h : a < 18446744073709551616) : a ^^^ 2 ^ 63 = (a + 9223372036854775808) % 18446744073709551616 := by
  have h1 : (a ^^^ 2 ^ 63) % 2 ^ 63 = a % 2 ^ 63 := by rw [Nat.xor_mod_two_pow, Nat.mod_self, Nat.xor_zero]
  have h2 : (a ^^^ 2 ^ 63) / 2 ^ 63 = (a / 2 ^ 63) ^^^ 1 := by rw [Nat.xor_div_two_pow, Nat.div_self (Nat.two_pow_pos 63)]
  have h3 : a / 2 ^ 63 = 0 ∨ a / 2 ^ 63 = 1 := by omega
  generalize a ^^^ 2 ^ 63 = t at h1 h2
  rcases h3 with h3 | h3
  · rw [h3] at h2
    have h2 : t / 2 ^ 63 = 1 := h2
    omega
  · rw [h3] at h2
    have h2 : t / 2 ^ 63 = 0 := h2
    omega
theorem uN_xor (x : Int64) : uN (x ^^^ (-9223372036854775808)) = (uN x + 9223372036854775808) % 18446744073709551616 := by
  rw [← nat_xor (uN_lt x)]
  exact UInt64.toNat_xor _ _
theorem uN_int (x : Int64) : x.toInt = if 2 * uN x < 18446744073709551616 then (uN x : Int) else (uN x : Int) - 18446744073709551616 := BitVec.toInt_eq_toNat_cond _
theorem uN_le (x y : Int64) : (x ^^^ (-9223372036854775808)) ≤ (y ^^^ (-9223372036854775808)) ↔ uN x ≤ uN y := by
  have hx := uN_lt x
  have hy := uN_lt y
  rw [Int64.le_iff_toInt_le, uN_int, uN_int, uN_xor, uN_xor]
  omega
theorem uN_sk (x : Int64) {k : Nat} (hk : k < 64) : uN (x.toUInt64 >>> ((nI k).toInt64.toUInt64 &&& Int64.toUInt64 63)).toInt64 = uN x / 2 ^ k := by
  have h : ((nI k).toInt64.toUInt64 &&& Int64.toUInt64 63).toNat % 64 = k := by
    rw [nI_l (by omega), UInt64.toNat_and]
    have e : (lN k).toUInt64.toNat = k % 2 ^ 64 := rfl
    have e2 : (Int64.toUInt64 63).toNat = 2 ^ 6 - 1 := by decide
    rw [e, e2, Nat.and_two_pow_sub_one_eq_mod]
    omega
  rw [uN_shr, h]
/-- the number that the bits f 0 .. f (n-1) write -/
def wf_sm (f : Nat → Bool) : Nat → Nat
  | 0 => 0
  | n + 1 => wf_sm f n + (f n).toNat * 2 ^ n
theorem wf_sm0 (f : Nat → Bool) : wf_sm f 0 = 0 := rfl
theorem wf_smS (f : Nat → Bool) (n : Nat) : wf_sm f (n + 1) = wf_sm f n + (f n).toNat * 2 ^ n := rfl
theorem wf_tn (b : Bool) : b.toNat ≤ 1 := by cases b <;> decide
theorem wf_sm_lt (f : Nat → Bool) (n : Nat) : wf_sm f n < 2 ^ n := by
  induction n with
  | zero => exact Nat.one_pos
  | succ n ih =>
    have h2 : (f n).toNat * 2 ^ n ≤ 1 * 2 ^ n := Nat.mul_le_mul_right _ (wf_tn _)
    rw [wf_smS, Nat.pow_succ]
    omega
theorem wf_sm_congr {f g : Nat → Bool} {n : Nat} (h : ∀ k, k < n → f k = g k) : wf_sm f n = wf_sm g n := by
  induction n with
  | zero => rfl
  | succ n ih => rw [wf_smS, wf_smS, ih (fun k hk => h k (Nat.lt_succ_of_lt hk)), h n (Nat.lt_succ_self n)]
theorem wf_sm_add (f : Nat → Bool) (m n : Nat) : wf_sm f (m + n) = wf_sm f m + 2 ^ m * wf_sm (fun k => f (m + k)) n := by
  induction n with
  | zero => rw [wf_sm0, Nat.mul_zero]; rfl
  | succ n ih =>
    have e : (f (m + n)).toNat * (2 ^ m * 2 ^ n) = 2 ^ m * ((f (m + n)).toNat * 2 ^ n) := Nat.mul_left_comm _ _ _
    rw [← Nat.add_assoc, wf_smS, wf_smS, ih, Nat.mul_add, Nat.pow_add, e, Nat.add_assoc]
theorem wf_sm_bit {f : Nat → Bool} {n k : Nat} (h : k < n) : wf_sm f n / 2 ^ k % 2 = (f k).toNat := by
  obtain ⟨r, rfl⟩ : ∃ r, n = (k + 1) + r := ⟨n - (k + 1), by omega⟩
  have hl := wf_sm_lt f k
  have hb := wf_tn (f k)
  rw [wf_sm_add, wf_smS]
  generalize wf_sm (fun j => f (k + 1 + j)) r = t
  have e : wf_sm f k + (f k).toNat * 2 ^ k + 2 ^ (k + 1) * t = wf_sm f k + ((f k).toNat + 2 * t) * 2 ^ k := by
    rw [Nat.add_mul, Nat.pow_succ, Nat.mul_assoc (2 ^ k) 2 t, Nat.mul_comm (2 ^ k) (2 * t), Nat.add_assoc]
  rw [e, Nat.add_mul_div_right _ _ (Nat.two_pow_pos k), Nat.div_eq_of_lt hl]
  omega
theorem wf_sm_tb (N n : Nat) : wf_sm (fun k => N.testBit k) n = N % 2 ^ n := by
  induction n with
  | zero => rw [wf_sm0, Nat.pow_zero, Nat.mod_one]
  | succ n ih => rw [wf_smS, ih, Nat.mod_pow_succ, Nat.toNat_testBit, Nat.mul_comm]
theorem wf_sm_inj {f g : Nat → Bool} {n : Nat} (h : wf_sm f n = wf_sm g n) {k : Nat} (hk : k < n) : f k = g k := by
  have h1 := wf_sm_bit (f := f) hk
  have h2 := wf_sm_bit (f := g) hk
  rw [h] at h1
  have h3 : (f k).toNat = (g k).toNat := h1.symm.trans h2
  cases hf : f k <;> cases hg : g k <;> rw [hf, hg] at h3 <;> first | rfl | cases h3
theorem wf_sm_z {n : Nat} : wf_sm (fun _ => false) n = 0 := by
  induction n with
  | zero => rfl
  | succ n ih => rw [wf_smS, ih]; simp
/-- one bit of the upper part, the rest below: sums read from the top -/
theorem wf_sm_top (f : Nat → Bool) (m k : Nat) (h : k < m) : wf_sm f m / 2 ^ k = 2 * (wf_sm f m / 2 ^ (k + 1)) + (f k).toNat := by
  have h1 := wf_sm_bit (f := f) h
  have h2 : wf_sm f m / 2 ^ (k + 1) = wf_sm f m / 2 ^ k / 2 := by rw [Nat.pow_succ, Nat.div_div_eq_div_mul]
  rw [h2]
  omega
/-- a long as 64 bits without a sign; two of them -/
abbrev wf_V (h l : Int64) : Nat := uN h * 18446744073709551616 + uN l
theorem wf_V_lt (h l : Int64) : wf_V h l < 340282366920938463463374607431768211456 := by
  have h1 := uN_lt h
  have h2 := uN_lt l
  unfold wf_V
  omega
theorem uN_sub (x y : Int64) : uN (x - y) = (uN x + 18446744073709551616 - uN y) % 18446744073709551616 := by
  have h1 := uN_lt x
  have h2 := uN_lt y
  have h3 : uN (x - y) = (18446744073709551616 - uN y + uN x) % 18446744073709551616 := by
    show (x.toUInt64 - y.toUInt64).toNat = _
    exact UInt64.toNat_sub _ _
  rw [h3]
  congr 1
  omega
theorem uN_ofNat (n : Nat) : uN (lN n) = n % 18446744073709551616 := by
  show (BitVec.ofNat 64 n).toNat = _
  rw [BitVec.toNat_ofNat]
theorem uN_eq0 {x : Int64} : x = 0 ↔ uN x = 0 := ⟨fun h => by rw [h]; rfl, fun h => uN_inj (h.trans rfl)⟩
/-- a sum that may pass 2^64, and the carry by comparison -/
theorem wf_carry {x y : Nat} (hx : x < 18446744073709551616) (hy : y < 18446744073709551616) : x + y = (x + y) % 18446744073709551616 + (if (x + y) % 18446744073709551616 < x then 1 else 0) * 18446744073709551616 := by
  split <;> omega
theorem wf_carry' {x y : Nat} (hx : x < 18446744073709551616) (hy : y < 18446744073709551616) : x + y = (x + y) % 18446744073709551616 + (if (x + y) % 18446744073709551616 < y then 1 else 0) * 18446744073709551616 := by
  split <;> omega
theorem wf_ring (a b c d M : Nat) : (a * M + b) * (c * M + d) = a * c * (M * M) + (a * d + b * c) * M + b * d := by
  have h1 : a * M * (c * M) = a * c * (M * M) := Nat.mul_mul_mul_comm a M c M
  have h2 : a * M * d = a * d * M := Nat.mul_right_comm a M d
  have h3 : b * (c * M) = b * c * M := (Nat.mul_assoc b c M).symm
  rw [Nat.add_mul, Nat.mul_add, Nat.mul_add, h1, h2, h3, Nat.add_mul]
  omega
theorem wf_le_mul {a b A B : Nat} (h1 : a ≤ A) (h2 : b ≤ B) : a * b ≤ A * B := Nat.mul_le_mul h1 h2
/-- the upper half of a product of two halves, by parts of 32 bits -/
theorem wf_over {a b c d : Nat} (ha : a < 4294967296) (hb : b < 4294967296) (hc : c < 4294967296) (hd : d < 4294967296) :
    a * d + b * d / 4294967296 < 18446744073709551616 ∧ b * c + (a * d + b * d / 4294967296) % 4294967296 < 18446744073709551616 ∧
    a * c + (a * d + b * d / 4294967296) / 4294967296 + (b * c + (a * d + b * d / 4294967296) % 4294967296) / 4294967296 = (a * 4294967296 + b) * (c * 4294967296 + d) / 18446744073709551616 := by
  have h1 : a * c ≤ 4294967295 * 4294967295 := wf_le_mul (by omega) (by omega)
  have h2 : a * d ≤ 4294967295 * 4294967295 := wf_le_mul (by omega) (by omega)
  have h3 : b * c ≤ 4294967295 * 4294967295 := wf_le_mul (by omega) (by omega)
  have h4 : b * d ≤ 4294967295 * 4294967295 := wf_le_mul (by omega) (by omega)
  rw [wf_ring, Nat.add_mul]
  generalize a * c = p at *
  generalize a * d = q at *
  generalize b * c = u at *
  generalize b * d = v at *
  refine ⟨by omega, by omega, by omega⟩
/-! ===== shifts, or, unsigned comparison ===== -/
theorem wf_flip (x : Int64) : (x + (-9223372036854775808)).toInt = (uN x : Int) - 9223372036854775808 := by
  have h1 := uN_lt x
  have h2 : uN (-9223372036854775808) = 9223372036854775808 := by decide
  rw [uN_int, uN_add, h2]
  omega
theorem wf_ult (x y : Int64) : x + (-9223372036854775808) < y + (-9223372036854775808) ↔ uN x < uN y := by
  rw [Int64.lt_iff_toInt_lt, wf_flip, wf_flip]
  omega
theorem wf_ueq (x y : Int64) : x + (-9223372036854775808) = y + (-9223372036854775808) ↔ uN x = uN y := by
  constructor
  · intro h
    have h1 := congrArg Int64.toInt h
    rw [wf_flip, wf_flip] at h1
    omega
  · intro h
    rw [uN_inj h]
theorem wf_cnt : ∀ k, k < 64 → (((nI k).toInt64 &&& 63).toBitVec.smod 64).toNat = k := by decide +kernel
theorem wf_shl (x : Int64) {k : Nat} (hk : k < 64) : uN (x <<< ((nI k).toInt64 &&& 63)) = uN x * 2 ^ k % 18446744073709551616 := by
  show (x.toBitVec <<< (((nI k).toInt64 &&& 63).toBitVec.smod 64).toNat).toNat = _
  rw [wf_cnt k hk, BitVec.toNat_shiftLeft, Nat.shiftLeft_eq]
  rfl
theorem uN_or' (x y : Int64) : uN (x ||| y) = uN x ||| uN y := UInt64.toNat_or _ _
theorem uN_and' (x y : Int64) : uN (x &&& y) = uN x &&& uN y := UInt64.toNat_and _ _
/-- an 'or' of parts that don't overlap -/
theorem wf_or {a b k : Nat} (h : b < 2 ^ k) : a * 2 ^ k ||| b = a * 2 ^ k + b := by
  rw [Nat.mul_comm]
  exact (Nat.two_pow_add_eq_or_of_lt h a).symm
theorem wf_modpow (x : Nat) {k : Nat} (hk : k ≤ 64) : x * 2 ^ k % 18446744073709551616 = (x % 2 ^ (64 - k)) * 2 ^ k := by
  have h : (18446744073709551616 : Nat) = 2 ^ (64 - k) * 2 ^ k := by rw [← Nat.pow_add, Nat.sub_add_cancel hk]
  rw [h, Nat.mul_mod_mul_right]
/-- x << k | (y >>> (64 - k)) -/
theorem wf_shlor {x y : Nat} (hy : y < 18446744073709551616) {k : Nat} (hk : k ≤ 64) : x * 2 ^ k % 18446744073709551616 ||| y / 2 ^ (64 - k) = x * 2 ^ k % 18446744073709551616 + y / 2 ^ (64 - k) := by
  rw [wf_modpow x hk]
  refine wf_or ?_
  have h : (18446744073709551616 : Nat) = 2 ^ k * 2 ^ (64 - k) := by rw [← Nat.pow_add, Nat.add_comm, Nat.sub_add_cancel hk]
  rw [h] at hy
  exact (Nat.div_lt_iff_lt_mul (Nat.two_pow_pos _)).mpr hy
/-! ===== rows of the bits ===== -/
theorem wf_up_at {α : Type} (F : Nat → α) (k : Nat) (b : α) : va_up F k b k = b := va_up_self F k b
theorem wf_sm_push (F : Nat → Bool) (s n : Nat) (b : Bool) : wf_sm (fun i => va_up F (s + n) b (s + i)) (n + 1) = wf_sm (fun i => F (s + i)) n + b.toNat * 2 ^ n := by
  rw [wf_smS, va_up_self]
  congr 1
  exact wf_sm_congr (fun k hk => va_up_ne F b (by omega))
theorem wf_sm_skip (F : Nat → Bool) {s n j : Nat} (b : Bool) (h : j < s ∨ s + n ≤ j) : wf_sm (fun i => va_up F j b (s + i)) n = wf_sm (fun i => F (s + i)) n :=
  wf_sm_congr (fun k hk => va_up_ne F b (by omega))
/-- a full adder; a full subtracter -/
theorem wf_fa (a b c : Bool) : ((a != b) != c).toNat + 2 * (a && b || a && c || b && c).toNat = a.toNat + b.toNat + c.toNat := by cases a <;> cases b <;> cases c <;> decide
theorem wf_fs (a b c : Bool) : ((a != b) != c).toNat + b.toNat + c.toNat = a.toNat + 2 * (!a && (b || c) || b && c).toNat := by cases a <;> cases b <;> cases c <;> decide
theorem wf_add_step {S X Y P : Nat} {a b c d e : Bool} (h : S + c.toNat * P = X + Y) (hd : d.toNat + 2 * e.toNat = a.toNat + b.toNat + c.toNat) : S + d.toNat * P + e.toNat * (P * 2) = X + a.toNat * P + (Y + b.toNat * P) := by
  revert hd h
  cases a <;> cases b <;> cases c <;> cases d <;> cases e <;> simp only [Bool.toNat_false, Bool.toNat_true] <;> intros <;> omega
theorem wf_sub_step {S X Y P : Nat} {a b c d e : Bool} (h : S + Y = X + c.toNat * P) (hd : d.toNat + b.toNat + c.toNat = a.toNat + 2 * e.toNat) : S + d.toNat * P + (Y + b.toNat * P) = X + a.toNat * P + e.toNat * (P * 2) := by
  revert hd h
  cases a <;> cases b <;> cases c <;> cases d <;> cases e <;> simp only [Bool.toNat_false, Bool.toNat_true] <;> intros <;> omega
/-- the number of a register -/
def wf_R (B : Nat → Bool) (r : Nat) : Nat := wf_sm (fun k => B (128 * r + k)) 128
theorem wf_R_lt (B : Nat → Bool) (r : Nat) : wf_R B r < 340282366920938463463374607431768211456 := wf_sm_lt _ 128
end
section
/-! ===== a method that ends in an exception, nothing old changed; catching it; methods with a handler table ===== -/
/-- the end: threw x, an object of the class E that is new; every old cell as it was -/
def wx_End (E : String) (st : State) (o : Outcome) (t : State) (mc ms : Nat) : Prop :=
  ∃ x : Addr, o = .threw x ∧ st.WarmedH t.vm ∧ st.sameButNew ({ t with vm := st.vm } : State) [] mc ms ∧ st.heap.size ≤ x ∧ ∃ ce : Cell, t.heap[x]? = some ce ∧ ce.vm = .none ∧ st.vm.findClass E = some ce.cls
/-- the contract of a method that throws an E -/
def wx_Met (l : Launch) (y : MethodName) (ws : List Cond) (rm : Room) (Pc : Array Value → State → Prop) (E : String) (mc ms : Nat) : Prop :=
  MetFree l y (headSpec ws rm) Pc (fun _ _ _ _ _ => True) (fun _ st o t => wx_End E st o t mc ms)
/-- what the walk of such a method comes to -/
def wx_Q (below : List Frame) (E : String) (s : State) (mc ms : Nat) : State → Prop := fun t => ∃ o, t.status = .running ∧ Ended t below o ∧ wx_End E s o t mc ms
/-- a frame with no written slot: every old cell is as it was -/
theorem wx_keep {s t : State} {k n : Nat} (h : s.sameButNew t [] k n) : ∀ q : Nat, q < s.heap.size → t.heap[q]? = s.heap[q]? := by
  intro q hq
  obtain ⟨cell, hc⟩ : ∃ cell, s.heap[q]? = some cell := ⟨_, Array.getElem?_eq_getElem hq⟩
  obtain ⟨c', h1, h2, h3, h4⟩ := h.2.2.2.2.2 q cell hc
  have h5 : c'.slots = cell.slots := Array.ext_getElem? (fun i => h4 i List.not_mem_nil)
  rw [h1, hc, h2, h5]
theorem wx_ofW {l : Launch} {y : MethodName} {ws ws' : List Cond} {rm : Room} {Pc : Array Value → State → Prop} {E : String} {mc ms : Nat} {cc : ByteArray} {maxL : Nat} {ret : Option FieldType}
    (hy : plainName y.cls = true) (hw : ws = Cond.code y cc maxL ret :: ws')
    (body : ∀ p e s m args below meth c s₁, BodyLoose p l y (headSpec ws rm) cc maxL ret e s m args below meth c s₁ → c.maxLocals = maxL → Pc args s →
      W p l e (headSpec ws rm).room s m args below meth c s.heap [] 0 0 (wx_Q below E s mc ms) (entryFrame m args maxL)) : wx_Met l y ws rm Pc E mc ms := by
  refine MetFree.of_bodyS (code := cc) (maxLocals := maxL) (ret := ret) hy (fun args s m h hn => ?_) (fun p e s m args below meth c s₁ B hml hP _ => ?_)
  · obtain ⟨meth, c, h1, h2, h3, h4, h5, h6, -, -⟩ := Cond.code_spec hn (atoms_spec (ws := ws) h _ (by rw [hw]; exact List.mem_cons_self))
    exact ⟨meth, c, h1, h2, h3, h4, h5, h6⟩
  · obtain ⟨t, a1, o, b1, b2, b3⟩ := body p e s m args below meth c s₁ B hml hP s₁ (by rw [B.state]; rfl) (Stand.of_body B)
    exact ⟨t, o, a1, b1, b2, b3⟩
/-- a contract of a method with handlers: its walk knows the table -/
theorem wx_ofWH {l : Launch} {y : MethodName} {ws ws' : List Cond} {rm : Room} {Pc : Array Value → State → Prop} {Qc : Array Value → State → Outcome → State → Prop} {mc ms : Nat} {free : Addr → Prop} {cc : ByteArray} {maxL : Nat} {ret : Option FieldType} {hs : List (Nat × Nat × Nat × Nat)}
    (hy : plainName y.cls = true) (hw : ws = Cond.codeWith y cc maxL ret hs :: ws')
    (body : ∀ p e s m args below meth c s₁, BodyLoose p l y (headSpec ws rm) cc maxL ret e s m args below meth c s₁ → c.maxLocals = maxL → c.exceptionTable.toList = tableOf hs → Pc args s →
      W p l e (headSpec ws rm).room s m args below meth c s.heap [] 0 0 (MQ below Qc args s mc ms free) (entryFrame m args maxL)) : Met l y ws rm Pc Qc mc ms free := by
  have hcw : ∀ (args : Array Value) (s : State), (headSpec ws rm).pre.before args s = true → (Cond.codeWith y cc maxL ret hs).before args s = true := fun args s h => atoms_spec (ws := ws) h _ (by rw [hw]; exact List.mem_cons_self)
  refine MetFree.of_bodyS (code := cc) (maxLocals := maxL) (ret := ret) hy (fun args s m h hn => ?_) (fun p e s m args below meth c s₁ B hml hP _ => ?_)
  · obtain ⟨m', meth, c, hn', h1, h2, h3, h4, -, h5, h6, -⟩ := Cond.codeWith_spec (hcw args s h)
    cases hn.symm.trans hn'
    exact ⟨meth, c, h1, h2, h3, h4, h5, h6⟩
  · obtain ⟨m', meth', c', hn', h1, h2, -, -, htab, -, -, -⟩ := Cond.codeWith_spec (hcw args s B.pre)
    cases B.named.symm.trans hn'
    cases B.method.symm.trans h1
    cases (Stand.of_body B).code.symm.trans h2
    obtain ⟨t, a1, o, b1, b2, b3⟩ := body p e s m args below meth c s₁ B hml (by rw [← htab, table_eq]) hP s₁ (by rw [B.state]; rfl) (Stand.of_body B)
    exact ⟨t, o, a1, b1, b2, b3⟩
section WXA
variable {p : Program} {l : Launch} {e : Env} {R : Room} {s : State} {m : MethodId} {args : Array Value} {below : List Frame} {meth : Method} {c : Code} {T : State} {locs : List Loc} {cells slots : Nat}
/-- no handlers: the word 'code' says so -/
theorem wx_noh {y : MethodName} {S : Spec} {cc : ByteArray} {maxL : Nat} {ret : Option FieldType} {s₁ : State} (B : BodyLoose p l y S cc maxL ret e s m args below meth c s₁) (h : (Cond.code y cc maxL ret).before args s = true) : c.exceptionTable.toList = [] := by
  have h0 := B.noHandlers h
  have h1 : c.exceptionTable.size = 0 := by simpa [Array.isEmpty] using h0
  exact List.eq_nil_of_length_eq_zero (by simpa using h1)
/-- entering a method that throws: the walk stands again, the note over its own frame -/
theorem wx_enter {y : MethodName} {ws : List Cond} {rm : Room} {Pc : Array Value → State → Prop} {E : String} {mc ms maxL : Nat} {bytes : ByteArray} {ret : Option FieldType}
    (hM : wx_Met l y ws rm Pc E mc ms) (hbl : FrameBlind Pc) (hrc : rm.cells = mc) (hrs : rm.slots = ms) (hfr : rm.frames + 1 ≤ R.frames) (hlo : 8 + (maxL + 11) + rm.locals ≤ R.locals)
    (hws : ∀ w ∈ ws, ∀ (a' : Array Value) (U : State), s.WarmedH U.vm → w.before a' U = true) (hcode : Cond.code y bytes maxL ret ∈ ws) (hini : (Cond.initialized y.cls).before args s = true)
    (X : Stand p l e R s m args below meth c T locs cells slots) {g : JFrame} (hg : g.method = m) (hsize : g.locals.size = c.maxLocals) {ig : Instr} {len : Nat} (hdg : decode c.code g.pc = .ok (ig, len))
    (hW : 2 * g.monitorRoom + (g.stack.map fun v => v.category).sum ≤ 8) {mk : MethodId} (hn : T.methodNamed? y = some mk) {a : Array Value} (hPc : Pc a T) (hce : cells + mc ≤ R.cells) (hsl : slots + ms ≤ R.slots) :
    ∃ (x : Addr) (T' : State) (ce : Cell), Stand p l e R s m args below meth c T' locs (cells + mc) (slots + ms) ∧ T.sameButNew (T'.setVm T.vm) [] mc ms ∧ T.heap.size ≤ x ∧ T'.heap[x]? = some ce ∧ ce.vm = .none ∧ T.vm.findClass E = some ce.cls ∧
      Steps p.tables e below (doInvoke e (T.setTop g) [] mk a).1 ((T'.setTop g).pushFrame (.throwing x)) := by
  have h1 : (headSpec ws rm).pre.before a T = true := atoms_intro fun w hw => hws w hw _ _ X.warmed
  have h2 : (Cond.code y bytes maxL ret).before a T = true := hws _ hcode _ _ X.warmed
  have h3 : (Cond.initialized y.cls).before a T = true := word_at X.warmed (Or.inl (by first | rfl | simp [Cond.onTables, Cond.keeps, Cond.steady])) hini
  obtain ⟨methY, cY, hmY, hcY, -, hlY, -, -, -, -⟩ := Cond.code_spec hn h2
  obtain ⟨kY, hkY, -⟩ := className_of_methodNamed hn
  have hinitY : kY.init = .initialized := Cond.initialized_spec (findClass_of_methodNamed hn) hkY h3
  have h : At T g.method c below := by rw [hg]; exact X.here
  have happ : (headSpec ws rm).appliesLoose y e.platform (T.calling g mk a) = true :=
    Spec.appliesLoose_calling (g := g) h hdg hn hkY hinitY
      (X.room_calling (g := g) (R' := (headSpec ws rm).room) hsize hmY hcY hfr (by rw [hlY]; show _ + (maxL + 11) + rm.locals ≤ _; omega) (by show cells + rm.cells ≤ _; omega) (by show slots + rm.slots ≤ _; omega)) h1
  have hfr' : (T.setTop g).frames = .java g :: below := by rw [State.frames_setTop' g h.top, X.tail]
  obtain ⟨o, s₂, hsteps, -, hend, x, rfl, hW₂, hsame, hx, ce, hce1, hcv, hcc⟩ := Steps.callFree hM p X.admits X.cas X.clock (acts := []) (mid := [.java g]) (below := below) (by rw [hfr']; rfl) happ (hbl _ _ _ _ hPc) trivial
  rw [hfr'] at hend
  obtain ⟨T', X', -, hs', rfl⟩ := X.outOfThrown hg (mk := mk) (a := a) hend hW₂ hsame
  refine ⟨x, T', ce, by simpa using X', hs', hx, ?_, hcv, hcc, hsteps⟩
  rw [← hce1, Stand.throwing_heap]
/-- the search of a handler, one row that covers the place and names a class that links -/
theorem wx_one {S : State} {Q : Handler → Pre} {E : CtlPost} {d : Bool} {acts : List Action} {f : JFrame} {a : Addr} {y : ExceptionTableEntry} {t : List ExceptionTableEntry} {k : ClassId} {ce : Cell} (hy : covers y f.pc = true) (h0 : y.catchType ≠ 0)
    (hl : S.vm.ClassLinks e.platform f.method.cls y.catchType k) (hcell : S.heap[a]? = some ce) (hv : ce.vm = .none) (hk1 : ∃ z, S.vm.classes[ce.cls]? = some z) (hk2 : ∃ z, S.vm.classes[k]? = some z) :
    (S.vm.assignable ce.cls k = true → (wp (findHandler.go f a (y :: t)) Q E e d acts S ↔ Q (.found y.handlerPc) d acts (S.setVm (S.vm.noted f.method.cls y.catchType (.cls k))))) ∧
    (S.vm.assignable ce.cls k = false → (wp (findHandler.go f a (y :: t)) Q E e d acts S ↔ wp (findHandler.go f a t) Q E e d acts (S.setVm (S.vm.noted f.method.cls y.catchType (.cls k))))) := by
  simp only [covers] at hy
  have hobj : ∀ z, ce.vm ≠ .statics z := fun z => by rw [hv]; intro h; cases h
  obtain ⟨u1, u2⟩ := (resolveClass_links e.toSetting hl).op (op := VmOp.resolveClass f.method.cls y.catchType) rfl
  have hal : S.vm.Alike (S.vm.noted f.method.cls y.catchType (.cls k)) := (Vm.Alike.refl S.vm).noted _ _ _
  obtain ⟨z1, hz1⟩ := hk1
  obtain ⟨z2, hz2⟩ := hk2
  obtain ⟨w1, hw1, -⟩ := hal.2.2 _ _ hz1
  obtain ⟨w2, hw2, -⟩ := hal.2.2 _ _ hz2
  refine ⟨fun hb => ?_, fun hb => ?_⟩
  · have hb' : (S.vm.noted f.method.cls y.catchType (.cls k)).assignable ce.cls k = true := by rw [hal.assignable]; exact hb
    simp [findHandler.go, hy, h0, u1, u2, hcell, hobj, hw1, hw2, hb', VmOp.dirties, VmOp.acts]
  · have hb' : (S.vm.noted f.method.cls y.catchType (.cls k)).assignable ce.cls k = false := by rw [hal.assignable]; exact hb
    simp [findHandler.go, hy, h0, u1, u2, hcell, hobj, hw1, hw2, hb', VmOp.dirties, VmOp.acts]
/-- the search through rows that cover the place but take other classes, to the row that takes this one -/
theorem wx_find {f : JFrame} {a : Addr} {ce : Cell} (hv : ce.vm = .none) (hke : ∃ z, s.vm.classes[ce.cls]? = some z) (x : ExceptionTableEntry) (suf : List ExceptionTableEntry) (hx : covers x f.pc = true) (hx0 : x.catchType ≠ 0)
    {k : ClassId} (hxl : s.vm.ClassLinks e.platform f.method.cls x.catchType k) (hxa : s.vm.assignable ce.cls k = true) (pre : List ExceptionTableEntry) :
    ∀ S : State, s.WarmedH S.vm → S.heap[a]? = some ce →
      (∀ y ∈ pre, covers y f.pc = true ∧ y.catchType ≠ 0 ∧ ∃ k' : ClassId, s.vm.ClassLinks e.platform f.method.cls y.catchType k' ∧ s.vm.assignable ce.cls k' = false) →
      ∃ vm' : Vm, s.WarmedH vm' ∧ ∀ (Q : Handler → Pre) (E : CtlPost) (d : Bool) (acts : List Action), wp (findHandler.go f a (pre ++ x :: suf)) Q E e d acts S ↔ Q (.found x.handlerPc) d acts (S.setVm vm') := by
  have here : ∀ (S : State) (k' : ClassId) (y : ExceptionTableEntry), s.WarmedH S.vm → s.vm.ClassLinks e.platform f.method.cls y.catchType k' →
      s.WarmedH (S.vm.noted f.method.cls y.catchType (.cls k')) ∧ S.vm.ClassLinks e.platform f.method.cls y.catchType k' ∧ (∃ z, S.vm.classes[ce.cls]? = some z) ∧ (∃ z, S.vm.classes[k']? = some z) := by
    intro S k' y hW hl
    obtain ⟨dk, _, _, kt, hd, _, _, _, _, hkt, _, hopen⟩ := hl.here
    obtain ⟨z0, hz0⟩ := hke
    obtain ⟨z1, hz1, -⟩ := hW.alike.2.2 _ _ hz0
    obtain ⟨z2, hz2, -⟩ := hW.alike.2.2 _ _ hkt
    exact ⟨hW.noted hd hopen (State.rightAt_cls hl), hW.classLinks hl, ⟨z1, hz1⟩, ⟨z2, hz2⟩⟩
  induction pre with
  | nil =>
    intro S hW hcell _
    obtain ⟨g1, g2, g3, g4⟩ := here S k x hW hxl
    exact ⟨_, g1, fun Q E d acts => (wx_one hx hx0 g2 hcell hv g3 g4).1 (by rw [hW.alike.assignable]; exact hxa)⟩
  | cons y ys ih =>
    intro S hW hcell hp
    obtain ⟨c1, c2, k', c3, c4⟩ := hp y List.mem_cons_self
    obtain ⟨g1, g2, g3, g4⟩ := here S k' y hW c3
    obtain ⟨vm', hW', hq⟩ := ih (S.setVm (S.vm.noted f.method.cls y.catchType (.cls k'))) g1 hcell (fun z hz => hp z (List.mem_cons_of_mem _ hz))
    refine ⟨vm', hW', fun Q E d acts => ?_⟩
    rw [List.cons_append, (wx_one (t := ys ++ x :: suf) c1 c2 g2 hcell hv g3 g4).2 (by rw [hW.alike.assignable]; exact c4)]
    exact hq Q E d acts
/-- from the note to the handler -/
theorem wx_caught (X : Stand p l e R s m args below meth c T locs cells slots) (a : Addr) {g : JFrame} (hg : g.method = m) {ce : Cell} (hcell : T.heap[a]? = some ce) (hv : ce.vm = .none) (hke : ∃ z, s.vm.classes[ce.cls]? = some z)
    (pre : List ExceptionTableEntry) (x : ExceptionTableEntry) (suf : List ExceptionTableEntry) (hsplit : c.exceptionTable.toList = pre ++ x :: suf)
    (hp : ∀ y ∈ pre, covers y g.pc = true ∧ y.catchType ≠ 0 ∧ ∃ k' : ClassId, s.vm.ClassLinks e.platform m.cls y.catchType k' ∧ s.vm.assignable ce.cls k' = false) (hx : covers x g.pc = true) (hx0 : x.catchType ≠ 0)
    {k : ClassId} (hxl : s.vm.ClassLinks e.platform m.cls x.catchType k) (hxa : s.vm.assignable ce.cls k = true) :
    ∃ vm' : Vm, Stand p l e R s m args below meth c (T.setVm vm') locs cells slots ∧
      ∀ tg, Steps p.tables e below ((T.setVm vm').setTop { g with pc := x.handlerPc, stack := [.ref a] }) tg → Steps p.tables e below ((T.setTop g).pushFrame (.throwing a)) tg := by
  subst hg
  obtain ⟨vm', hW', hq⟩ := wx_find (e := e) (s := s) (f := g) (a := a) hv hke x suf hx hx0 hxl hxa pre ((T.setTop g).pushFrame (.throwing a)) (by rw [Stand.throwing_vm]; exact X.warmed) (by rw [Stand.throwing_heap]; exact hcell) hp
  refine ⟨vm', X.noted hW', fun tg hrest => ?_⟩
  obtain ⟨hgo, hw⟩ := X.here.throwing a
  refine Steps.head hgo hw ?_
  have hfind : ∀ (Q : Handler → Pre) (E : CtlPost) (d : Bool) (acts : List Action), wp (findHandler g a) Q E e d acts ((T.setTop g).pushFrame (.throwing a)) ↔ Q (.found x.handlerPc) d acts (((T.setTop g).pushFrame (.throwing a)).setVm vm') := fun Q E d acts => by
    rw [W.findHandler_eq (meth := meth) (code := c) (by rw [Stand.throwing_vm]; exact X.method') X.code, hsplit]
    exact hq Q E d acts
  obtain ⟨g₀, hr⟩ := X.frames_eq
  have hstep : ∀ r : List Frame, (stepThrowing e ((T.setTop g).pushFrame (.throwing a)) a (.java g :: r)).1 = ((((T.setTop g).pushFrame (.throwing a)).setVm vm').setFrames (.java { g with pc := x.handlerPc, stack := [.ref a] } :: r)) := by
    intro r
    simp only [stepThrowing, searchFrame, vmDo]
    generalize hres : Sem.go _ e false [] ((T.setTop g).pushFrame (.throwing a)) = res
    obtain ⟨as, rfl, ha⟩ := Sem.eq_ok_of hres (a := Handler.found x.handlerPc) (s' := ((T.setTop g).pushFrame (.throwing a)).setVm vm') (acts' := []) (by simp [hfind _ _ _ _])
    rfl
  rw [stepThread_throwing (frames_entered X.here.top _), hstep, hr, List.tail_cons]
  have hr' : (T.setVm vm').frames = .java g₀ :: below := hr
  rw [State.setTop_of_frames _ hr'] at hrest
  have hv2 : ((T.setTop g).pushFrame (.throwing a)).setVm vm' = ((T.setVm vm').setTop g).pushFrame (.throwing a) := by
    rw [State.pushFrame, State.pushFrame, State.frames_setTop _ hr, State.frames_setTop _ hr', State.setTop_of_frames _ hr, State.setTop_of_frames _ hr']
    rfl
  rw [hv2, State.pushFrame, State.setFrames_setFrames, State.setTop_of_frames _ hr', State.setFrames_setFrames]
  exact hrest
end WXA
end
section
section WXB
variable {p : Program} {l : Launch} {e : Env} {R : Room} {s : State} {m : MethodId} {args : Array Value} {below : List Frame} {meth : Method} {c : Code} {H : Heap} {locs : List Loc} {cells slots : Nat} {Q : State → Prop}
variable {cc : ByteArray} {pc nL : Nat} {ls : Array Slot} {rest : List Value}
set_option maxHeartbeats 1000000 in
/-- new E; dup; ldc "text"; invokespecial E.<init>(String); athrow, in a method without handlers -/
theorem wx_throw (hx : p.tables.exec = Jvm.exec) (hb : c.code = cc) (hml : c.maxLocals = nL) (hl : l.stackTraces = false)
    {own E text : String} {names : List String} {ik ic ix : Nat} (hown : s.vm.findClass own = some m.cls) (hfE : Bundle.fit E = true) (hfn : ∀ n ∈ names, Bundle.fit n = true)
    (hat : ∀ w ∈ Bundle.ownAtoms own ic E names, w.before args s = true)
    (hcl : (Cond.classLink own ik E).before args s = true) (hini : (Cond.initialized E).before args s = true) (hstr : (Cond.stringRef own ix text).before args s = true)
    (hsz : ls.size = nL) (hex : c.exceptionTable.toList = []) (hlocks : meth.locks = false)
    (d0 : decode cc pc = .ok (.new ik, 3)) (d3 : decode cc (pc + 3) = .ok (.dup, 1)) (d4 : decode cc (pc + 3 + 1) = .ok (.ldc ix, 2)) (d6 : decode cc (pc + 3 + 1 + 2) = .ok (.invokespecial ic, 3)) (d9 : decode cc (pc + 3 + 1 + 2 + 3) = .ok (.athrow, 1))
    (hRf : names.length + 3 < R.frames) (hRl : (rest.map fun v => v.category).sum + 13 * names.length + 60 ≤ R.locals) (hRc : 1 ≤ R.cells) (hRs : 6 ≤ R.slots) :
    W p l e R s m args below meth c s.heap [] 0 0 (wx_Q below E s 1 6) (F0 m pc ls rest) := by
  have hins : (Cond.instantiable E 6).before args s = true := hat _ (by simp [Bundle.ownAtoms])
  obtain ⟨cE, kE, hcE, -⟩ := Cond.instantiable_spec hins
  obtain ⟨str, hev⟩ : ∃ a : Addr, (Term.string own ix).eval args s none [] s = some (.ref a) := by
    obtain ⟨_, _, _, a', _, _, _, _, _, h⟩ := Cond.stringRef_spec hown hstr
    exact ⟨a', h⟩
  refine W.newcK hx hb hown hcl hins hini (g := F0 m pc ls rest) rfl d0 (by omega) (by omega) hcE rfl fun H1 kC hkC e1 z1 o1 => ?_
  refine W.eq (g2 := F0 m (pc + 3) ls (.ref s.heap.size :: rest)) rfl ?_
  refine lv_dup hx hb d3 rfl ?_
  intro T hT X
  have htr : e.platform.stackTraces = false := by
    have h : e.platform.stackTraces = l.stackTraces := by rw [X.admits.platform]
    rw [h, hl]
  obtain ⟨U, st, hrun, hend, hW, hsame, ce, hce, hO⟩ := X.ctorThrowS hx htr hown hfE hfn hat (fun x h => by cases h) hcE hkC (a := s.heap.size) (by rw [hT]; exact e1) (Nat.le_refl _) (msg := .ref str) rfl
    (g := F0 m (pc + 3 + 1 + 2) ls (.ref str :: .ref s.heap.size :: .ref s.heap.size :: rest)) rfl (hsz.trans hml.symm) rfl rfl (rest := rest) rfl (by rw [hb]; exact d6) (by rw [hb]; exact d9) (by rw [hex]; intro z hz; cases hz)
    hRf (by show 2 * 0 + (1 + (rest.map fun v => v.category).sum) + _ ≤ _; omega) hlocks
  have st0 := X.ldcString hx hown hstr hev (g := F0 m (pc + 3 + 1) ls (.ref s.heap.size :: .ref s.heap.size :: rest)) rfl (by rw [hb]; exact d4)
  exact ⟨U, st0 _ st, .threw s.heap.size, hrun, hend, s.heap.size, rfl, hW, by simpa using hsame, Nat.le_refl _, ce, hce, hO.vm, hO.cls⟩
variable {Ts ws ws' : List Cond} {bytes : ByteArray} {maxL index n mc ms : Nat} {own C E : String} {y : MethodName} {ret : Option FieldType} {rm : Room} {Pc : Array Value → State → Prop} {Qc : Array Value → State → Outcome → State → Prop} {free : Addr → Prop} {b : Addr} {As : List Value}
/-- a static call that throws, in a method without handlers -/
theorem wx_outS (S : CallFix p m c cc nL s args Ts own) (hM : wx_Met l y ws rm Pc E mc ms) (cw : CallB R s args own index y bytes maxL ret ws rm mc ms n ∧ (Cond.static y).before args s = true) (hp : PreS s s.heap Pc As)
    (hn : As.length = n) (hsz : ls.size = nL) {st0 : List Value} (hst : st0 = As.reverse ++ rest) (hW : (rest.map fun v => v.category).sum ≤ 8) (hdg : decode cc pc = .ok (.invokestatic index, 3)) (hf : mc ≤ R.cells ∧ ms ≤ R.slots) (hex : c.exceptionTable.toList = []) (hlocks : meth.locks = false) :
    W p l e R s m args below meth c s.heap [] 0 0 (wx_Q below E s mc ms) (F0 m pc ls st0) := by
  obtain ⟨⟨hrc, hrs, hfr, hlo, hws, hcw, hcode, hini, hy, hlen, hli⟩, hstt⟩ := cw
  obtain ⟨hx, hb, hml, ho, -⟩ := S
  intro T hT X
  obtain ⟨mk, hnamed⟩ := Cond.code_named hcode
  obtain ⟨methM, cM, hmethM, -, -, -, -, -, -, hsigM⟩ := Cond.code_spec hnamed hcode
  have hstatic : methM.isStatic = true := Cond.static_spec hnamed hmethM hstt
  obtain ⟨kP, hkP, -⟩ := className_of_methodNamed hnamed
  have hinitP : kP.init = .initialized := Cond.initialized_spec (findClass_of_methodNamed hnamed) hkP hini
  obtain ⟨vm₁, X₁, hstep₁⟩ := X.invokestatic hx ho hli hnamed hmethM hstatic hkP hinitP hy (g := F0 m pc ls st0) rfl (argsL := As) (rest := rest) (hn.trans (hlen _ hsigM)) hst (by rw [hb]; exact hdg)
  obtain ⟨x, T', ce, X', hs', hx9, hce, hcv, hcc, st⟩ := wx_enter (bytes := bytes) (maxL := maxL) (ret := ret) hM hp.1 hrc hrs hfr hlo hws hcw hini X₁ (g := F0 m pc ls rest) rfl (hsz.trans hml.symm) (by rw [hb]; exact hdg) (lv_room hW) (X₁.named hnamed) (hp.2 (T.setVm vm₁) hT X₁.warmed) (by omega) (by omega)
  obtain ⟨w1, w2, w3, w4, w5⟩ := X'.leaveThrown x (g := F0 m pc ls rest) rfl rfl rfl (by rw [hex]; intro z hz; cases hz) hlocks
  refine ⟨_, hstep₁ _ (fun acts => by rw [doInvoke_state]; exact st.trans w1), .threw x, w2, w3, x, rfl, w4, by simpa using w5, ?_, ce, hce, hcv, ?_⟩
  · have h : T.heap.size ≤ x := hx9
    rw [hT] at h
    exact h
  · rw [← X₁.warmed.alike.findClass]
    exact hcc
/-- a virtual call that throws, caught by the row x of the method's own table -/
theorem wx_catchV (S : CallFix p m c cc nL s args Ts own) (hM : wx_Met l y ws rm Pc E mc ms) (cw : CallW R s args own C index y bytes maxL ret ws rm mc ms n) (hp : PreV s H C b Pc As)
    (hn : As.length = n) (hsz : ls.size = nL) {st0 : List Value} (hst : st0 = As.reverse ++ .ref b :: rest) (hW : (rest.map fun v => v.category).sum ≤ 8) (hdg : decode cc pc = .ok (.invokevirtual index, 3)) (hf : cells + mc ≤ R.cells ∧ slots + ms ≤ R.slots)
    (pre : List ExceptionTableEntry) (x : ExceptionTableEntry) (suf : List ExceptionTableEntry) (htab : c.exceptionTable.toList = pre ++ x :: suf)
    (hpre : ∀ z ∈ pre, covers z pc = true ∧ z.catchType ≠ 0 ∧ ∃ nm : String, (Cond.classLink own z.catchType nm).before args s = true ∧ va_Nc E nm s) (hx1 : covers x pc = true) (hx0 : x.catchType ≠ 0) (hlink : (Cond.classLink own x.catchType E).before args s = true)
    (kk : ∀ (q : Nat) (H1 : Heap), H.size ≤ H1.size → (∀ z : Nat, z < H.size → H1[z]? = H[z]?) → W p l e R s m args below meth c H1 locs (cells + mc) (slots + ms) Q (F0 m x.handlerPc ls [.ref q])) :
    W p l e R s m args below meth c H locs cells slots Q (F0 m pc ls st0) := by
  obtain ⟨⟨hrc, hrs, hfr, hlo, hws, hcw, hcode, hini, hy, hlen, hli⟩, hinst, hsel⟩ := cw
  obtain ⟨hx, hb, hml, ho, -⟩ := S
  obtain ⟨hbl, ⟨cellB, hcB, hoB, hclB⟩, hPc⟩ := hp
  intro T hT X
  have hpl : e.platform.magicAccessors = ({} : Platform).magicAccessors := by rw [X.admits.platform]
  obtain ⟨mk, methM, hnamed, hmethM, hstM, habM⟩ := Cond.instanceMethod_spec hinst
  obtain ⟨methM', cM, hmethM', -, -, -, -, -, -, hsigM⟩ := Cond.code_spec hnamed hcode
  cases hmethM.symm.trans hmethM'
  obtain ⟨c2, r2, m2, q1, q2, q3, q4, kP, hkP, hkPi⟩ := Cond.selects_spec hsel
  cases hclB.symm.trans q1
  cases (State.methodFound?_of_named hnamed hy).symm.trans q2
  cases hnamed.symm.trans q3
  have hselP : selectMethod e.platform s.vm cellB.cls mk = .method mk := by rw [Launch.admits_selectMethod X.admits]; exact q4
  obtain ⟨vm₁, X₁, hstep₁⟩ := X.invokevirtual hx ho hli hnamed hmethM hstM hkP hkPi hy (a := b) (cell := cellB) (by rw [hT]; exact hcB)
    (fun z h => by rw [h] at hoB; cases hoB) hselP hmethM habM hkP hkPi (g := F0 m pc ls st0) rfl (argsL := As) (rest := rest) (hn.trans (hlen _ hsigM)) hst (by rw [hb]; exact hdg)
  obtain ⟨q, T', ce, X', hs', hx9, hce, hcv, hcc, st⟩ := wx_enter (bytes := bytes) (maxL := maxL) (ret := ret) hM hbl hrc hrs hfr hlo hws hcw hini X₁ (g := F0 m pc ls rest) rfl (hsz.trans hml.symm) (by rw [hb]; exact hdg) (lv_room hW) (X₁.named hnamed) (hPc (T.setVm vm₁) hT X₁.warmed) hf.1 hf.2
  have hcE : s.vm.findClass E = some ce.cls := by
    rw [← X₁.warmed.alike.findClass]
    exact hcc
  obtain ⟨kE, hkE, -⟩ := Vm.findClass_spec hcE
  obtain ⟨c5, hc5, hl5⟩ := Cond.classLink_spec ho hlink e.platform hpl
  cases hcE.symm.trans hc5
  obtain ⟨vm₂, X₂, st2⟩ := wx_caught X' q (g := F0 m pc ls rest) rfl hce hcv ⟨kE, hkE⟩ pre x suf htab (fun z hz => by
    obtain ⟨h1, h2, nm, h3, a8, b8, h4, h5, h6⟩ := hpre z hz
    obtain ⟨c6, hc6, hl6⟩ := Cond.classLink_spec ho h3 e.platform hpl
    cases h4.symm.trans hcE
    cases h5.symm.trans hc6
    exact ⟨h1, h2, _, hl6, h6⟩) hx1 hx0 hl5 (va_asg _ _)
  have hkeep := wx_keep hs'
  have hTs : T.heap.size ≤ T'.heap.size := hs'.2.1
  obtain ⟨t, a1, b1⟩ := kk q T'.heap (by rw [← hT]; exact hTs) (fun z hz => by
    rw [← hT] at hz ⊢
    exact hkeep z hz) (T'.setVm vm₂) rfl X₂
  exact ⟨t, hstep₁ _ (fun acts => by rw [doInvoke_state]; exact st.trans (st2 _ a1)), b1⟩
/-- a static call of a method with handlers -/
theorem wx_runSH {hs : List (Nat × Nat × Nat × Nat)} (S : CallFix p m c cc nL s args Ts own) (hM : Met l y ws rm Pc Qc mc ms free) (hG : GoodIn Ts (wsS own index y ws)) (hw : ws = Cond.codeWith y bytes maxL ret hs :: ws') (hrc : rm.cells = mc) (hrs : rm.slots = ms)
    (hd : y.cls = own ∧ y.cls ≠ "java/lang/invoke/MethodHandle" ∧ y.cls ≠ "java/lang/invoke/VarHandle" ∧ (parseMethodDescriptor y.desc).map (fun d => d.parameters.length) = some n) (hR : rm.frames + 1 ≤ R.frames ∧ 8 + (maxL + 11) + rm.locals ≤ R.locals) (hp : PreS s H Pc As)
    (hn : As.length = n) (hsz : ls.size = nL) {st0 : List Value} (hst : st0 = As.reverse ++ rest) (hW : (rest.map fun v => v.category).sum ≤ 8) (hdg : decode cc pc = .ok (.invokestatic index, 3)) (hf : cells + mc ≤ R.cells ∧ slots + ms ≤ R.slots) :
    va_Run p l e R s m args below meth c H locs cells slots mc ms (F0 m pc ls st0) rest (Qc As.toArray) free := by
  obtain ⟨hx, hb, hml, ho, ht⟩ := S
  obtain ⟨hC, hy1, hy2, hd⟩ := hd
  have ok : ∀ w ∈ wsS own index y ws, w.before args s = true := fun w h => ht w (hG w h).1
  have hGw : GoodIn Ts ws := fun w h => hG w (by unfold wsS; exact List.mem_append_right _ h)
  have hws := pay_in ht hGw
  have hcm : Cond.codeWith y bytes maxL ret hs ∈ ws := by rw [hw]; exact List.mem_cons_self
  have hini : (Cond.initialized y.cls).before args s = true := by rw [hC]; exact ok _ (by simp [wsS])
  intro T hT X
  obtain ⟨mk, methM, cM, hnamed, hmethM, hcM, -, hlM, -, -, -, hsigM⟩ := Cond.codeWith_spec (ht _ (hGw _ hcm).1)
  have hstatic : methM.isStatic = true := Cond.static_spec hnamed hmethM (ok _ (by simp [wsS]))
  obtain ⟨kP, hkP, -⟩ := className_of_methodNamed hnamed
  have hinitP : kP.init = .initialized := Cond.initialized_spec (findClass_of_methodNamed hnamed) hkP hini
  have hlen : As.length = methM.sig.parameters.length := by
    rw [hsigM] at hd
    exact hn.trans (Option.some.inj hd).symm
  obtain ⟨vm₁, X₁, hstep₁⟩ := X.invokestatic hx ho (ok (Cond.methodLink own index y) (by simp [wsS])) hnamed hmethM hstatic hkP hinitP ⟨hy1, hy2⟩ (g := F0 m pc ls st0) rfl (argsL := As) (rest := rest) hlen hst (by rw [hb]; exact hdg)
  have h1 : (headSpec ws rm).pre.before As.toArray (T.setVm vm₁) = true := atoms_intro fun w hw => hws w hw _ _ X₁.warmed
  have hn1 : (T.setVm vm₁).methodNamed? y = some mk := X₁.named hnamed
  obtain ⟨kY, hkY, -⟩ := className_of_methodNamed hn1
  have hinitY : kY.init = .initialized := Cond.initialized_spec (findClass_of_methodNamed hn1) hkY (word_at (args := args) (a' := As.toArray) X₁.warmed (Or.inl (by first | rfl | simp [Cond.onTables, Cond.keeps, Cond.steady])) hini)
  have hmY : (T.setVm vm₁).vm.method? mk = some methM := by rw [X₁.warmed.alike.method?]; exact hmethM
  have hdg' : decode c.code (F0 m pc ls rest).pc = .ok (.invokestatic index, 3) := by rw [hb]; exact hdg
  have happ : (headSpec ws rm).appliesLoose y e.platform ((T.setVm vm₁).calling (F0 m pc ls rest) mk As.toArray) = true :=
    Spec.appliesLoose_calling (g := F0 m pc ls rest) X₁.here hdg' hn1 hkY hinitY
      (X₁.room_calling (g := F0 m pc ls rest) (R' := (headSpec ws rm).room) (hsz.trans hml.symm) hmY hcM hR.1 (by rw [hlM]; have := lv_room (m := m) (pc := pc) (ls := ls) (rest := rest) hW; show 2 * (F0 m pc ls rest).monitorRoom + (rest.map fun v => v.category).sum + (maxL + 11) + rm.locals ≤ _; omega) (by show cells + rm.cells ≤ _; omega) (by show slots + rm.slots ≤ _; omega)) h1
  have hfr' : ((T.setVm vm₁).setTop (F0 m pc ls rest)).frames = .java (F0 m pc ls rest) :: below := by rw [State.frames_setTop' _ X₁.here.top, X₁.tail]
  obtain ⟨o, s₂, hsteps, -, hend, hq, L, ⟨⟨v, rfl⟩, hW₂, hsame⟩, hL⟩ := Steps.callFree hM p X₁.admits X₁.cas X₁.clock (acts := []) (mid := [.java (F0 m pc ls rest)]) (below := below) (by rw [hfr']; rfl) happ (hp.1 _ _ _ _ (hp.2 (T.setVm vm₁) hT X₁.warmed)) trivial
  rw [hfr'] at hend
  obtain ⟨T', X', -, -, he⟩ := X₁.outOf (g := F0 m pc ls rest) rfl hdg' (mk := mk) (a := As.toArray) hend hW₂ hsame
  refine ⟨v, (T.setVm vm₁).calling (F0 m pc ls rest) mk As.toArray, s₂, T', L, hT, X', hL, ?_, ?_, hq, fun tg h => hstep₁ _ (fun acts => by rw [doInvoke_state]; exact (hsteps.trans (by rw [he]; exact h)))⟩
  · rw [he]; rfl
  · rw [he]; rfl
end WXB
end
section
/-! ===== the frame of every walk: the good words, the start of a contract, calls over the same world ===== -/
/-- every word of the tables that a contract may rest on -/
def wG : List Cond := lw_tbl.filter goodWord
theorem wG_in {w : Cond} (h : w ∈ lw_tbl) (hg : goodWord w = true) : w ∈ wG := List.mem_filter.mpr ⟨h, hg⟩
theorem wG_tbl {w : Cond} (h : w ∈ wG) : w ∈ lw_tbl := (List.mem_filter.mp h).1
theorem wG_good {w : Cond} (h : w ∈ wG) : (w.onTables && w.keeps) = true ∨ ∃ ty, w = .arrayClass ty := good_of_word (List.mem_filter.mp h).2
theorem wG_sub {big ws : List Cond} (hb : ∀ w ∈ wG, w ∈ big) (h : ∀ w ∈ ws, w ∈ wG) : GoodIn big ws := fun w hw => ⟨hb w (h w hw), wG_good (h w hw)⟩
theorem wG_cons {c : Cond} (h : c ∈ wG) : ∀ w ∈ c :: wG, w ∈ wG := fun w hw => by
  rcases List.mem_cons.mp hw with rfl | hw
  · exact h
  · exact hw
theorem wG_V {big : List Cond} (hb : ∀ w ∈ wG, w ∈ big) {own C : String} {idx n : Nat} {y : MethodName} {b : ByteArray} {r : Option FieldType} (h1 : Cond.methodLink own idx y ∈ wG) (h2 : Cond.instanceMethod y ∈ wG) (h3 : Cond.selects C y y ∈ wG) (h4 : Cond.initialized C ∈ wG) (h5 : Cond.code y b n r ∈ wG) : GoodIn big (wsV own idx C y (.code y b n r :: wG)) :=
  wG_sub hb (fun w hw => by
    rcases List.mem_append.mp hw with h | h
    · simp only [List.mem_cons, List.not_mem_nil, or_false] at h
      rcases h with rfl | rfl | rfl | rfl
      · exact h1
      · exact h2
      · exact h3
      · exact h4
    · exact wG_cons h5 w h)
theorem wG_S {big : List Cond} (hb : ∀ w ∈ wG, w ∈ big) {own : String} {idx n : Nat} {y : MethodName} {b : ByteArray} {r : Option FieldType} (h1 : Cond.methodLink own idx y ∈ wG) (h2 : Cond.static y ∈ wG) (h3 : Cond.initialized y.cls ∈ wG) (h5 : Cond.code y b n r ∈ wG) : GoodIn big (va_wsS own idx y (.code y b n r :: wG)) :=
  wG_sub hb (fun w hw => by
    rcases List.mem_append.mp hw with h | h
    · simp only [List.mem_cons, List.not_mem_nil, or_false] at h
      rcases h with rfl | rfl | rfl
      · exact h1
      · exact h2
      · exact h3
    · exact wG_cons h5 w h)
theorem wG_SH {big : List Cond} (hb : ∀ w ∈ wG, w ∈ big) {own : String} {idx n : Nat} {y : MethodName} {b : ByteArray} {r : Option FieldType} {hs : List (Nat × Nat × Nat × Nat)} (h1 : Cond.methodLink own idx y ∈ wG) (h2 : Cond.static y ∈ wG) (h3 : Cond.initialized own ∈ wG) (h5 : Cond.codeWith y b n r hs ∈ wG) : GoodIn big (wsS own idx y (.codeWith y b n r hs :: wG)) :=
  wG_sub hb (fun w hw => by
    rcases List.mem_append.mp hw with h | h
    · simp only [List.mem_cons, List.not_mem_nil, or_false] at h
      rcases h with rfl | rfl | rfl
      · exact h1
      · exact h2
      · exact h3
    · exact wG_cons h5 w h)
/-- the room of a method that calls at most k deep -/
abbrev wf_rm (f loc mc ms : Nat) : Room := { frames := f, cells := mc, slots := ms, locals := loc }
/-- a start: the world w, nothing else known -/
def wf_Pc (D : va_G) (cl : List vw_C) (w : va_W) (tys : List (ClassId × FieldType)) (av : List Value) (sz : Nat) : Array Value → State → Prop :=
  va_Pc av (fun U => U.heap.size = sz ∧ va_P D cl w U.heap ∧ va_K D cl tys U ∧ va_D (fun _ => True) w)
theorem wf_blind {D : va_G} {cl : List vw_C} {w : va_W} {tys : List (ClassId × FieldType)} {av : List Value} {sz : Nat} : FrameBlind (wf_Pc D cl w tys av sz) := fun a U g mk q => by
  obtain ⟨q0, q1, qP, qK, qD⟩ := q
  exact ⟨q0, q1, qP, va_K.moved (u := U) (U := U.calling g mk a) (Vm.Alike.refl U.vm) qK, qD⟩
theorem wf_pre {D : va_G} {cl : List vw_C} {w : va_W} {tys : List (ClassId × FieldType)} {av : List Value} {s : State} {H : Heap} {A : Nat → Prop} (hP : va_P D cl w H) (hK : va_K D cl tys s) (hD : va_D A w) : ∀ U : State, U.heap = H → s.WarmedH U.vm → wf_Pc D cl w tys av H.size av.toArray U :=
  fun U hU hW => ⟨rfl, by rw [hU], by rw [hU]; exact hP, va_K.moved hW.alike hK, hD.weaken (fun _ _ _ _ => trivial)⟩
/-- an end: the world of u -/
def wf_B {S : Type} (D : va_G) (cl : List vw_C) (mk : S → va_W) (tys : List (ClassId × FieldType)) (A : Nat → Prop) : S → State → Prop := fun u t => va_P D cl (mk u) t.heap ∧ va_K D cl tys t ∧ va_D A (mk u)
theorem wf_free {A : Nat → Prop} {w : va_W} {H0 H : Heap} {locs : List Loc} (hD : va_D A w) (hS : va_S A H0 H locs) (hA : ∀ q, H0.size ≤ q → A q) : ∀ q, va_A w H.size q → A q := by
  intro q h
  rcases h with ⟨k, e, h⟩ | h
  · exact hD.2 k _ h
  · exact hA q (Nat.le_trans hS.1 h)
theorem wf_one_ne {x y : Int32} (h : x = y) : y = x := h.symm
section WFO
variable {l : Launch} {y : MethodName} {ws' : List Cond} {rm : Room} {D : va_G} {cl : List vw_C} {w : va_W} {tys : List (ClassId × FieldType)} {av : List Value} {sz : Nat} {Qc : Array Value → State → Outcome → State → Prop} {mc ms : Nat} {free : Addr → Prop} {cc : ByteArray} {maxL : Nat} {ret : Option FieldType}
/-- a contract over a world, by its walk -/
theorem wf_open (hy : plainName y.cls = true) (hle : (lg_sl av).length ≤ maxL) (hc : Cond.code y cc maxL ret ∈ wG)
    (body : ∀ (p : Program) (e : Env) (s : State) (m : MethodId) (below : List Frame) (meth : Method) (c : Code) (ls : Array Slot), s.heap.size = sz → CallFix p m c cc maxL s av.toArray wG y.cls → meth.sig.returnType = ret → meth.locks = false → meth.name = y.name → c.exceptionTable.toList = [] →
      va_P D cl w s.heap → va_K D cl tys s → va_D (va_A w s.heap.size) w → lv_has ls maxL (lv_args 0 av) →
      W p l e rm s m av.toArray below meth c s.heap [] 0 0 (MQ below Qc av.toArray s mc ms free) (F0 m 0 ls [])) :
    Met l y (Cond.code y cc maxL ret :: wG) rm (wf_Pc D cl w tys av sz) Qc mc ms free := by
  refine Met.ofW (cc := cc) (maxL := maxL) (ret := ret) hy rfl ?_
  intro p e s m args below meth c s₁ B hml hv
  obtain ⟨rfl, hsz, hP, hK, hD0⟩ := hv
  have hts := atoms_spec (ws := Cond.code y cc maxL ret :: wG) B.pre
  rw [lg_entry_eq]
  exact body p e s m below meth c _ hsz ⟨B.exec, B.bytes, hml, findClass_of_methodNamed B.named, fun w hw => hts w (List.mem_cons_of_mem _ hw)⟩ B.returns B.notSynchronized (name_of_methodNamed B.named B.method).1 (wx_noh B (hts _ List.mem_cons_self)) hP hK (hD0.self (sz := s.heap.size)) (lv_entry av hle)
/-- a contract of a static method that looks at nothing but its arguments -/
theorem wf_openS (hy : plainName y.cls = true) (hle : (lg_sl av).length ≤ maxL)
    (body : ∀ (p : Program) (e : Env) (s : State) (m : MethodId) (below : List Frame) (meth : Method) (c : Code) (ls : Array Slot), CallFix p m c cc maxL s av.toArray wG y.cls → meth.sig.returnType = ret → meth.locks = false → lv_has ls maxL (lv_args 0 av) →
      W p l e rm s m av.toArray below meth c s.heap [] 0 0 (MQ below Qc av.toArray s mc ms free) (F0 m 0 ls [])) :
    Met l y (Cond.code y cc maxL ret :: wG) rm (fun v _ => v = av.toArray) Qc mc ms free := by
  refine Met.ofW (cc := cc) (maxL := maxL) (ret := ret) hy rfl ?_
  intro p e s m args below meth c s₁ B hml hv
  have hv : args = av.toArray := hv
  subst hv
  have hts := atoms_spec (ws := Cond.code y cc maxL ret :: wG) B.pre
  rw [lg_entry_eq]
  exact body p e s m below meth c _ ⟨B.exec, B.bytes, hml, findClass_of_methodNamed B.named, fun w hw => hts w (List.mem_cons_of_mem _ hw)⟩ B.returns B.notSynchronized (lv_entry av hle)
end WFO
section WFC
variable {p : Program} {l : Launch} {e : Env} {R : Room} {s : State} {m : MethodId} {args : Array Value} {below : List Frame} {meth : Method} {c : Code} {H : Heap} {locs : List Loc} {cells slots : Nat} {Q : State → Prop}
variable {cc : ByteArray} {pc nL : Nat} {ls : Array Slot} {rest : List Value} {D : va_G} {cl : List vw_C} {A : Nat → Prop} {tys : List (ClassId × FieldType)} {w0 : va_W} {H0 : Heap} {mc ms : Nat} {a : Array Value} {st0 : List Value}  {own : String}
/-- behind a call over the whole world -/
theorem wf_cv {S : Type} {post : S → Prop} {mk : S → va_W} {free : Addr → Prop} (hr : va_Run p l e R s m args below meth c H locs cells slots mc ms (F0 m pc ls st0) rest (va_Qv post (wf_B D cl mk tys (va_A w0 H.size)) (va_A w0 H.size) a) free) (hfr : ∀ q, free q → va_A w0 H.size q) (hS : va_S A H0 H locs) (hD : va_D A w0) (hA : ∀ q, H0.size ≤ q → A q)
    (kk : ∀ (u : S) (H1 : Heap) (locs1 : List Loc), post u → va_P D cl (mk u) H1 → va_D A (mk u) → va_S A H0 H1 locs1 → W p l e R s m args below meth c H1 locs1 (cells + mc) (slots + ms) Q (F0 m (pc + 3) ls rest)) : W p l e R s m args below meth c H locs cells slots Q (F0 m pc ls st0) := by
  have hF := wf_free hD hS hA
  refine va_callv hr hS (fun q _ h => hF q h) (fun q h => hF q (hfr q h)) (fun u t H1 locs1 ht hvm hp hB hz1 hk1 hS1 => ?_)
  obtain ⟨hP1, -, hD1⟩ := hB
  rw [ht] at hP1
  exact kk u H1 locs1 hp hP1 (hD1.weaken (fun k q _ h => hF q.1 h)) hS1
theorem wf_ci {S : Type} {post : Int32 → S → Prop} {mk : S → va_W} {free : Addr → Prop} (hr : va_Run p l e R s m args below meth c H locs cells slots mc ms (F0 m pc ls st0) rest (va_Qi post (wf_B D cl mk tys (va_A w0 H.size)) (va_A w0 H.size) a) free) (hfr : ∀ q, free q → va_A w0 H.size q) (hS : va_S A H0 H locs) (hD : va_D A w0) (hA : ∀ q, H0.size ≤ q → A q)
    (kk : ∀ (r : Int32) (u : S) (H1 : Heap) (locs1 : List Loc), post r u → va_P D cl (mk u) H1 → va_D A (mk u) → va_S A H0 H1 locs1 → W p l e R s m args below meth c H1 locs1 (cells + mc) (slots + ms) Q (F0 m (pc + 3) ls (.int r :: rest))) : W p l e R s m args below meth c H locs cells slots Q (F0 m pc ls st0) := by
  have hF := wf_free hD hS hA
  refine va_calli hr hS (fun q _ h => hF q h) (fun q h => hF q (hfr q h)) (fun r u t H1 locs1 ht hvm hp hB hz1 hk1 hS1 => ?_)
  obtain ⟨hP1, -, hD1⟩ := hB
  rw [ht] at hP1
  exact kk r u H1 locs1 hp hP1 (hD1.weaken (fun k q _ h => hF q.1 h)) hS1
theorem wf_cl {S : Type} {post : Int64 → S → Prop} {mk : S → va_W} {free : Addr → Prop} (hr : va_Run p l e R s m args below meth c H locs cells slots mc ms (F0 m pc ls st0) rest (va_Ql post (wf_B D cl mk tys (va_A w0 H.size)) (va_A w0 H.size) a) free) (hfr : ∀ q, free q → va_A w0 H.size q) (hS : va_S A H0 H locs) (hD : va_D A w0) (hA : ∀ q, H0.size ≤ q → A q)
    (kk : ∀ (r : Int64) (u : S) (H1 : Heap) (locs1 : List Loc), post r u → va_P D cl (mk u) H1 → va_D A (mk u) → va_S A H0 H1 locs1 → W p l e R s m args below meth c H1 locs1 (cells + mc) (slots + ms) Q (F0 m (pc + 3) ls (.long r :: rest))) : W p l e R s m args below meth c H locs cells slots Q (F0 m pc ls st0) := by
  have hF := wf_free hD hS hA
  refine va_calll hr hS (fun q _ h => hF q h) (fun q h => hF q (hfr q h)) (fun r u t H1 locs1 ht hvm hp hB hz1 hk1 hS1 => ?_)
  obtain ⟨hP1, -, hD1⟩ := hB
  rw [ht] at hP1
  exact kk r u H1 locs1 hp hP1 (hD1.weaken (fun k q _ h => hF q.1 h)) hS1
/-- ends over the world -/
theorem wf_retv {S : Type} {post : S → Prop} {mk : S → va_W} {free : Addr → Prop} {A0 : Nat → Prop} (C : CallFix p m c cc nL s args wG own) (hr : meth.sig.returnType = none) (hlocks : meth.locks = false) (u : S) (hp : post u) (hP : va_P D cl (mk u) H) (hK : va_K D cl tys s) (hD : va_D A0 (mk u)) (hS : va_S A0 s.heap H locs) (hf : ∀ q, A0 q → free q) (hdg : decode cc pc = .ok (.return_, 1)) :
    W p l e R s m args below meth c H locs cells slots (MQ below (va_Qv post (wf_B D cl mk tys A0) A0) args s cells slots free) (F0 m pc ls []) :=
  W.vret C.1 C.2.1 hr (fun t ht hW => ⟨⟨u, rfl, hp, by rw [ht]; exact hP, va_K.moved hW.alike hK, hD⟩, hS.F ht⟩) (fun q h => hf _ (hS.2.2 q h)) hdg hlocks
theorem wf_reti {S : Type} {post : Int32 → S → Prop} {mk : S → va_W} {free : Addr → Prop} {A0 : Nat → Prop} {v : Int32} (C : CallFix p m c cc nL s args wG own) (hr : meth.sig.returnType = some .int) (hlocks : meth.locks = false) (u : S) (hp : post v u) (hP : va_P D cl (mk u) H) (hK : va_K D cl tys s) (hD : va_D A0 (mk u)) (hS : va_S A0 s.heap H locs) (hf : ∀ q, A0 q → free q) (hdg : decode cc pc = .ok (.ireturn, 1)) :
    W p l e R s m args below meth c H locs cells slots (MQ below (va_Qi post (wf_B D cl mk tys A0) A0) args s cells slots free) (F0 m pc ls [.int v]) :=
  W.iret C.1 C.2.1 hr (fun t ht hW => ⟨⟨v, u, rfl, hp, by rw [ht]; exact hP, va_K.moved hW.alike hK, hD⟩, hS.F ht⟩) (fun q h => hf _ (hS.2.2 q h)) hdg hlocks
theorem wf_retz {S : Type} {post : Int32 → S → Prop} {mk : S → va_W} {free : Addr → Prop} {A0 : Nat → Prop} {v : Int32} (C : CallFix p m c cc nL s args wG own) (hr : meth.sig.returnType = some .boolean) (hn : narrow .boolean (.int v) = .int v) (hlocks : meth.locks = false) (u : S) (hp : post v u) (hP : va_P D cl (mk u) H) (hK : va_K D cl tys s) (hD : va_D A0 (mk u)) (hS : va_S A0 s.heap H locs) (hf : ∀ q, A0 q → free q) (hdg : decode cc pc = .ok (.ireturn, 1)) :
    W p l e R s m args below meth c H locs cells slots (MQ below (va_Qi post (wf_B D cl mk tys A0) A0) args s cells slots free) (F0 m pc ls [.int v]) :=
  W.zret C.1 C.2.1 hr hn (fun t ht hW => ⟨⟨v, u, rfl, hp, by rw [ht]; exact hP, va_K.moved hW.alike hK, hD⟩, hS.F ht⟩) (fun q h => hf _ (hS.2.2 q h)) hdg hlocks
theorem wf_retl {S : Type} {post : Int64 → S → Prop} {mk : S → va_W} {free : Addr → Prop} {A0 : Nat → Prop} {v : Int64} (C : CallFix p m c cc nL s args wG own) (hr : meth.sig.returnType = some .long) (hlocks : meth.locks = false) (u : S) (hp : post v u) (hP : va_P D cl (mk u) H) (hK : va_K D cl tys s) (hD : va_D A0 (mk u)) (hS : va_S A0 s.heap H locs) (hf : ∀ q, A0 q → free q) (hdg : decode cc pc = .ok (.lreturn, 1)) :
    W p l e R s m args below meth c H locs cells slots (MQ below (va_Ql post (wf_B D cl mk tys A0) A0) args s cells slots free) (F0 m pc ls [.long v]) :=
  W.lret C.1 C.2.1 hr (fun t ht hW => ⟨⟨v, u, rfl, hp, by rw [ht]; exact hP, va_K.moved hW.alike hK, hD⟩, hS.F ht⟩) (fun q h => hf _ (hS.2.2 q h)) hdg hlocks
/-! array rows with the index as a natural number -/
variable {ws : va_W} {q : Nat}
theorem wf_lald (C : CallFix p m c cc nL s args wG own) (hK : va_K D cl tys s) (hP : va_P D cl ws H) (q0 t0 : Nat) {cA : ClassId} {n k : Nat} {f : Nat → Int64} (ha : ws[q0]? = some (q, .inl (cA, n, .inr (.inl f)))) (ht : tys[t0]? = some (cA, .long)) {i : Int32} (hi : i = nI k) (hk : k < n) (hn : n < 2 ^ 31) (hdg : decode cc pc = .ok (.laload, 1))
    (kk : W p l e R s m args below meth c H locs cells slots Q (F0 m (pc + 1) ls (.long (f k) :: rest))) : W p l e R s m args below meth c H locs cells slots Q (F0 m pc ls (.int i :: .ref q :: rest)) := by
  subst hi
  refine va_lald C.1 C.2.1 hK hP q0 t0 ha ht (vp_in_nI hk hn) hdg ?_
  rw [nI_clamp (by omega)]
  exact kk
theorem wf_iald (C : CallFix p m c cc nL s args wG own) (hK : va_K D cl tys s) (hP : va_P D cl ws H) (q0 t0 : Nat) {cA : ClassId} {n k : Nat} {f : Nat → Int32} (ha : ws[q0]? = some (q, .inl (cA, n, .inl f))) (ht : tys[t0]? = some (cA, .int)) {i : Int32} (hi : i = nI k) (hk : k < n) (hn : n < 2 ^ 31) (hdg : decode cc pc = .ok (.iaload, 1))
    (kk : W p l e R s m args below meth c H locs cells slots Q (F0 m (pc + 1) ls (.int (f k) :: rest))) : W p l e R s m args below meth c H locs cells slots Q (F0 m pc ls (.int i :: .ref q :: rest)) := by
  subst hi
  refine va_iald C.1 C.2.1 hK hP q0 t0 ha ht (vp_in_nI hk hn) hdg ?_
  rw [nI_clamp (by omega)]
  exact kk
theorem wf_last (C : CallFix p m c cc nL s args wG own) (hK : va_K D cl tys s) (hP : va_P D cl ws H) (hD : va_D A ws) (hS : va_S A H0 H locs) (q0 t0 : Nat) {cA : ClassId} {n k : Nat} {f : Nat → Int64} (ha : ws[q0]? = some (q, .inl (cA, n, .inr (.inl f)))) (ht : tys[t0]? = some (cA, .long)) {i : Int32} {x : Int64} (hi : i = nI k) (hk : k < n) (hn : n < 2 ^ 31) (hdg : decode cc pc = .ok (.lastore, 1))
    (kk : ∀ (H1 : Heap) (locs1 : List Loc), va_P D cl (ws.set q0 (q, .inl (cA, n, .inr (.inl (va_up f k x))))) H1 → va_D A (ws.set q0 (q, .inl (cA, n, .inr (.inl (va_up f k x))))) → va_S A H0 H1 locs1 → W p l e R s m args below meth c H1 locs1 cells slots Q (F0 m (pc + 1) ls rest)) : W p l e R s m args below meth c H locs cells slots Q (F0 m pc ls (.long x :: .int i :: .ref q :: rest)) := by
  subst hi
  refine va_last C.1 C.2.1 hK hP hD hS q0 t0 ha ht (vp_in_nI hk hn) hdg (fun H1 locs1 h1 h2 h3 => ?_)
  rw [nI_clamp (by omega)] at h1 h2
  exact kk H1 locs1 h1 h2 h3
theorem wf_iast (C : CallFix p m c cc nL s args wG own) (hK : va_K D cl tys s) (hP : va_P D cl ws H) (hD : va_D A ws) (hS : va_S A H0 H locs) (q0 t0 : Nat) {cA : ClassId} {n k : Nat} {f : Nat → Int32} (ha : ws[q0]? = some (q, .inl (cA, n, .inl f))) (ht : tys[t0]? = some (cA, .int)) {i : Int32} {x : Int32} (hi : i = nI k) (hk : k < n) (hn : n < 2 ^ 31) (hdg : decode cc pc = .ok (.iastore, 1))
    (kk : ∀ (H1 : Heap) (locs1 : List Loc), va_P D cl (ws.set q0 (q, .inl (cA, n, .inl (va_up f k x)))) H1 → va_D A (ws.set q0 (q, .inl (cA, n, .inl (va_up f k x)))) → va_S A H0 H1 locs1 → W p l e R s m args below meth c H1 locs1 cells slots Q (F0 m (pc + 1) ls rest)) : W p l e R s m args below meth c H locs cells slots Q (F0 m pc ls (.int x :: .int i :: .ref q :: rest)) := by
  subst hi
  refine va_iast C.1 C.2.1 hK hP hD hS q0 t0 ha ht (vp_in_nI hk hn) hdg (fun H1 locs1 h1 h2 h3 => ?_)
  rw [nI_clamp (by omega)] at h1 h2
  exact kk H1 locs1 h1 h2 h3
end WFC
/-- a boolean as the machine has it -/
def wf_bi (b : Bool) : Int32 := if b then 1 else 0
theorem wf_bi0 (b : Bool) : wf_bi b = 0 ↔ b = false := by cases b <;> decide
theorem wf_bi1 (b : Bool) : ¬ wf_bi b = 0 ↔ b = true := by cases b <;> decide
theorem wf_bi_nar (b : Bool) : vp_nar .boolean (wf_bi b) = wf_bi b := by cases b <;> rfl
theorem wf_bi_ret (b : Bool) : narrow .boolean (.int (wf_bi b)) = .int (wf_bi b) := by cases b <;> rfl
theorem wf_bi_up (B : Nat → Bool) (k : Nat) (b : Bool) : upd (fun j => wf_bi (B j)) k (wf_bi b) = fun j => wf_bi (va_up B k b j) := by
  funext j
  unfold upd va_up
  split <;> rfl
section WFZ
variable {p : Program} {l : Launch} {e : Env} {R : Room} {s : State} {m : MethodId} {args : Array Value} {below : List Frame} {meth : Method} {c : Code} {H : Heap} {locs : List Loc} {cells slots : Nat} {Q : State → Prop}
variable {cc : ByteArray} {pc nL : Nat} {ls : Array Slot} {rest : List Value} {D : va_G} {cl : List vw_C} {A : Nat → Prop} {tys : List (ClassId × FieldType)} {H0 : Heap} {ws : va_W} {q : Nat} {own : String}
theorem wf_zald (C : CallFix p m c cc nL s args wG own) (hK : va_K D cl tys s) (hP : va_P D cl ws H) (q0 t0 : Nat) {cA : ClassId} {n k : Nat} {B : Nat → Bool} (ha : ws[q0]? = some (q, .inl (cA, n, .inl (fun j => wf_bi (B j))))) (ht : tys[t0]? = some (cA, .boolean)) {i : Int32} (hi : i = nI k) (hk : k < n) (hn : n < 2 ^ 31) (hdg : decode cc pc = .ok (.baload, 1))
    (kk : W p l e R s m args below meth c H locs cells slots Q (F0 m (pc + 1) ls (.int (wf_bi (B k)) :: rest))) : W p l e R s m args below meth c H locs cells slots Q (F0 m pc ls (.int i :: .ref q :: rest)) := by
  subst hi
  refine va_zald C.1 C.2.1 hK hP q0 t0 ha ht (vp_in_nI hk hn) hdg ?_
  rw [nI_clamp (by omega)]
  exact kk
theorem wf_zast (C : CallFix p m c cc nL s args wG own) (hK : va_K D cl tys s) (hP : va_P D cl ws H) (hD : va_D A ws) (hS : va_S A H0 H locs) (q0 t0 : Nat) {cA : ClassId} {n k : Nat} {B : Nat → Bool} (ha : ws[q0]? = some (q, .inl (cA, n, .inl (fun j => wf_bi (B j))))) (ht : tys[t0]? = some (cA, .boolean)) {i : Int32} {b : Bool} (hi : i = nI k) (hk : k < n) (hn : n < 2 ^ 31) (hdg : decode cc pc = .ok (.bastore, 1))
    (kk : ∀ (H1 : Heap) (locs1 : List Loc), va_P D cl (ws.set q0 (q, .inl (cA, n, .inl (fun j => wf_bi (va_up B k b j))))) H1 → va_D A (ws.set q0 (q, .inl (cA, n, .inl (fun j => wf_bi (va_up B k b j))))) → va_S A H0 H1 locs1 → W p l e R s m args below meth c H1 locs1 cells slots Q (F0 m (pc + 1) ls rest)) : W p l e R s m args below meth c H locs cells slots Q (F0 m pc ls (.int (wf_bi b) :: .int i :: .ref q :: rest)) := by
  subst hi
  refine va_zast C.1 C.2.1 hK hP hD hS q0 t0 ha ht (vp_in_nI hk hn) hdg (fun H1 locs1 h1 h2 h3 => ?_)
  rw [nI_clamp (by omega), wf_bi_nar, wf_bi_up] at h1 h2
  exact kk H1 locs1 h1 h2 h3
end WFZ
end
section
/-! ===== what the loops compute, as numbers ===== -/
/-- a register from which the top part t is taken: r = t * P + r', all of it times E, q below -/
theorem wf_top {r q E P T n : Nat} (hE : E * P = T) (hT : 0 < T) (hr : r < n * P) (hq : q < E) :
    (r * E + q) / T = r / P ∧ r / P < n ∧ r % P < P ∧ r = r / P * P + r % P ∧ r * E + q = r / P * T + (r % P * E + q) ∧ r % P * E + q < T := by
  have hP : 0 < P := by
    rcases Nat.eq_zero_or_pos P with h | h
    · rw [h, Nat.mul_zero] at hE; omega
    · exact h
  have h1 : r / P * P + r % P = r := Nat.div_add_mod' r P
  have h2 : r % P < P := Nat.mod_lt _ hP
  have h3 : r / P < n := (Nat.div_lt_iff_lt_mul hP).mpr hr
  have e1 : r * E = r / P * T + r % P * E := by
    have : (r / P * P + r % P) * E = r / P * T + r % P * E := by rw [Nat.add_mul, Nat.mul_assoc, Nat.mul_comm P E, hE]
    rw [h1] at this
    exact this
  have hs : r % P * E + q < T := by
    have h4 : (r % P + 1) * E ≤ P * E := Nat.mul_le_mul_right _ h2
    rw [Nat.mul_comm P E, hE, Nat.add_mul, Nat.one_mul] at h4
    omega
  have e2 : r * E + q = r / P * T + (r % P * E + q) := by rw [e1, Nat.add_assoc]
  refine ⟨?_, h3, h2, h1.symm, e2, hs⟩
  rw [e2, Nat.add_comm, Nat.add_mul_div_right _ _ hT, Nat.div_eq_of_lt hs, Nat.zero_add]
/-- long division: behind i of 128 steps -/
def wf_DI (a b i q left hl : Nat) : Prop := ∃ r, a = (q * b + left) * 2 ^ (128 - i) + r ∧ r < 2 ^ (128 - i) ∧ hl = r * 2 ^ i + q ∧ q < 2 ^ i ∧ left < b
theorem wf_DI_0 {a b : Nat} (ha : a < 2 ^ 128) (hb : 0 < b) : wf_DI a b 0 0 0 a := ⟨a, by simp, ha, by rw [Nat.pow_zero, Nat.mul_one, Nat.add_zero], by decide, hb⟩
theorem wf_DI_end {a b q left hl : Nat} (h : wf_DI a b 128 q left hl) : hl = a / b ∧ left = a % b := by
  obtain ⟨r, h1, h2, h3, h4, h5⟩ := h
  have hr : r = 0 := by
    have : r < 2 ^ (128 - 128) := h2
    rw [Nat.sub_self, Nat.pow_zero] at this
    omega
  subst hr
  rw [Nat.sub_self, Nat.pow_zero, Nat.mul_one, Nat.add_zero] at h1
  rw [Nat.zero_mul, Nat.zero_add] at h3
  subst h3
  have hb : 0 < b := by omega
  refine ⟨?_, ?_⟩
  · rw [h1, Nat.mul_comm, Nat.mul_add_div hb, Nat.div_eq_of_lt h5, Nat.add_zero]
  · rw [h1, Nat.mul_comm, Nat.mul_add_mod, Nat.mod_eq_of_lt h5]
theorem wf_DI_step {a b i q left hl : Nat} (hi : i < 128) (h : wf_DI a b i q left hl) :
    hl / 2 ^ 127 ≤ 1 ∧ hl < 2 ^ 128 ∧ left < b ∧
    (b ≤ 2 * left + hl / 2 ^ 127 → wf_DI a b (i + 1) (2 * q + 1) (2 * left + hl / 2 ^ 127 - b) (2 * hl % 2 ^ 128 + 1)) ∧
    (¬ b ≤ 2 * left + hl / 2 ^ 127 → wf_DI a b (i + 1) (2 * q) (2 * left + hl / 2 ^ 127) (2 * hl % 2 ^ 128)) := by
  obtain ⟨r, h1, h2, h3, h4, h5⟩ := h
  have hp : (2 : Nat) ^ (128 - i) = 2 * 2 ^ (127 - i) := by rw [show 128 - i = (127 - i) + 1 by omega, Nat.pow_succ, Nat.mul_comm]
  have hE : (2 : Nat) ^ i * 2 ^ (127 - i) = 2 ^ 127 := by rw [← Nat.pow_add, show i + (127 - i) = 127 by omega]
  have hE2 : (2 : Nat) ^ (i + 1) = 2 * 2 ^ i := by rw [Nat.pow_succ, Nat.mul_comm]
  have hs : 128 - (i + 1) = 127 - i := by omega
  rw [hp] at h1 h2
  obtain ⟨t1, t2, t3, t4, t5, t6⟩ := wf_top (n := 2) hE (Nat.two_pow_pos 127) h2 h4
  rw [← h3] at t1 t5
  rw [t1]
  generalize hPe : 2 ^ (127 - i) = P at *
  generalize 2 ^ i = E at *
  generalize r / P = t at *
  generalize r % P = r' at *
  have e1 : a = (2 * (q * b) + (2 * left + t)) * P + r' := by
    rw [h1, t4, Nat.mul_left_comm, Nat.add_mul, Nat.add_mul, Nat.add_mul, Nat.mul_assoc 2 (q * b) P, Nat.mul_assoc 2 left P]
    omega
  have e2 : r' * (2 * E) = 2 * (r' * E) := Nat.mul_left_comm _ _ _
  refine ⟨by omega, by omega, h5, fun hle => ⟨r', ?_, ?_, ?_, ?_, ?_⟩, fun hle => ⟨r', ?_, ?_, ?_, ?_, ?_⟩⟩
  · rw [hs, hPe, Nat.add_mul (2 * q) 1 b, Nat.mul_assoc 2 q b, Nat.one_mul, show 2 * (q * b) + b + (2 * left + t - b) = 2 * (q * b) + (2 * left + t) by omega]
    exact e1
  · rw [hs, hPe]; exact t3
  · rw [hE2, e2]; omega
  · rw [hE2]; omega
  · omega
  · rw [hs, hPe, Nat.mul_assoc 2 q b]
    exact e1
  · rw [hs, hPe]; exact t3
  · rw [hE2, e2]; omega
  · rw [hE2]; omega
  · omega
/-- the root: behind i of 64 steps -/
def wf_RI (a i f left hl : Nat) : Prop := ∃ r, a = (f * f + left) * 4 ^ (64 - i) + r ∧ r < 4 ^ (64 - i) ∧ hl = r * 4 ^ i ∧ left ≤ 2 * f ∧ f < 2 ^ i
theorem wf_RI_0 {a : Nat} (ha : a < 2 ^ 128) : wf_RI a 0 0 0 a := ⟨a, by simp, by rw [show (4 : Nat) ^ (64 - 0) = 2 ^ 128 by decide]; exact ha, by rw [Nat.pow_zero, Nat.mul_one], by decide, by decide⟩
theorem wf_RI_end {a f left hl : Nat} (h : wf_RI a 64 f left hl) : a = f * f + left ∧ left ≤ 2 * f ∧ f < 2 ^ 64 := by
  obtain ⟨r, h1, h2, h3, h4, h5⟩ := h
  have hr : r = 0 := by
    rw [Nat.sub_self, Nat.pow_zero] at h2
    omega
  subst hr
  rw [Nat.sub_self, Nat.pow_zero, Nat.mul_one, Nat.add_zero] at h1
  exact ⟨h1, h4, h5⟩
theorem wf_sq (f : Nat) : (2 * f) * (2 * f) = 4 * (f * f) ∧ (2 * f + 1) * (2 * f + 1) = 4 * (f * f) + 4 * f + 1 := by
  have h : (2 * f) * (2 * f) = 4 * (f * f) := by rw [Nat.mul_mul_mul_comm]
  refine ⟨h, ?_⟩
  rw [Nat.add_mul, Nat.mul_add, h]
  omega
theorem wf_RI_step {a i f left hl : Nat} (hi : i < 64) (h : wf_RI a i f left hl) :
    hl / 2 ^ 126 ≤ 3 ∧ hl < 2 ^ 128 ∧ left ≤ 2 * f ∧ f < 2 ^ i ∧
    (4 * f + 1 ≤ 4 * left + hl / 2 ^ 126 → wf_RI a (i + 1) (2 * f + 1) (4 * left + hl / 2 ^ 126 - (4 * f + 1)) (4 * hl % 2 ^ 128)) ∧
    (¬ 4 * f + 1 ≤ 4 * left + hl / 2 ^ 126 → wf_RI a (i + 1) (2 * f) (4 * left + hl / 2 ^ 126) (4 * hl % 2 ^ 128)) := by
  obtain ⟨r, h1, h2, h3, h4, h5⟩ := h
  have hp : (4 : Nat) ^ (64 - i) = 4 * 4 ^ (63 - i) := by rw [show 64 - i = (63 - i) + 1 by omega, Nat.pow_succ, Nat.mul_comm]
  have hE : (4 : Nat) ^ i * 4 ^ (63 - i) = 2 ^ 126 := by rw [← Nat.pow_add, show i + (63 - i) = 63 by omega]
  have hE2 : (4 : Nat) ^ (i + 1) = 4 * 4 ^ i := by rw [Nat.pow_succ, Nat.mul_comm]
  have hF2 : (2 : Nat) ^ (i + 1) = 2 * 2 ^ i := by rw [Nat.pow_succ, Nat.mul_comm]
  have hs : 64 - (i + 1) = 63 - i := by omega
  have hE0 : 0 < (4 : Nat) ^ i := Nat.pow_pos (by decide)
  rw [hp] at h1 h2
  obtain ⟨t1, t2, t3, t4, t5, t6⟩ := wf_top (n := 4) (q := 0) hE (Nat.two_pow_pos 126) h2 hE0
  rw [Nat.add_zero, ← h3] at t1 t5
  rw [Nat.add_zero] at t5 t6
  rw [t1]
  obtain ⟨s1, s2⟩ := wf_sq f
  generalize hPe : 4 ^ (63 - i) = P at *
  generalize 4 ^ i = E at *
  generalize r / P = t at *
  generalize r % P = r' at *
  have e1 : a = (4 * (f * f) + (4 * left + t)) * P + r' := by
    rw [h1, t4, Nat.mul_left_comm, Nat.add_mul, Nat.add_mul, Nat.add_mul, Nat.mul_assoc 4 (f * f) P, Nat.mul_assoc 4 left P]
    omega
  have e2 : r' * (4 * E) = 4 * (r' * E) := Nat.mul_left_comm _ _ _
  refine ⟨by omega, by omega, h4, h5, fun hle => ⟨r', ?_, ?_, ?_, ?_, ?_⟩, fun hle => ⟨r', ?_, ?_, ?_, ?_, ?_⟩⟩
  · rw [hs, hPe, s2, show 4 * (f * f) + 4 * f + 1 + (4 * left + t - (4 * f + 1)) = 4 * (f * f) + (4 * left + t) by omega]
    exact e1
  · rw [hs, hPe]; exact t3
  · rw [hE2, e2]; omega
  · omega
  · rw [hF2]; omega
  · rw [hs, hPe, s1]
    exact e1
  · rw [hs, hPe]; exact t3
  · rw [hE2, e2]; omega
  · omega
  · rw [hF2]; omega
/-- the root is one number -/
theorem wf_root_one {a f g r t : Nat} (h1 : a = f * f + r) (h2 : r ≤ 2 * f) (h3 : a = g * g + t) (h4 : t ≤ 2 * g) : f = g ∧ r = t := by
  have key : ∀ x y u v : Nat, x * x + u = y * y + v → u ≤ 2 * x → v ≤ 2 * y → x ≤ y := by
    intro x y u v he hu hv
    rcases Nat.lt_or_ge y x with h | h
    · exfalso
      have h5 : (y + 1) * (y + 1) ≤ x * x := Nat.mul_le_mul h h
      rw [Nat.add_mul, Nat.mul_add] at h5
      omega
    · exact h
  have ha : f * f + r = g * g + t := h1.symm.trans h3
  have hfg : f = g := Nat.le_antisymm (key f g r t ha h2 h4) (key g f t r ha.symm h4 h2)
  subst hfg
  exact ⟨rfl, by omega⟩
/-- the decimal digits: how many, and which -/
def wf_DG (n c : Nat) (D : Nat → Nat) : Prop := 1 ≤ c ∧ n < 10 ^ c ∧ (c = 1 ∨ 10 ^ (c - 1) ≤ n) ∧ ∀ i, i < c → D i = n / 10 ^ (c - 1 - i) % 10
theorem wf_pow10 {a b : Nat} (h : a ≤ b) : 10 ^ a ≤ 10 ^ b := Nat.pow_le_pow_right (by decide) h
theorem wf_DG_one {n c d : Nat} {D E : Nat → Nat} (h1 : wf_DG n c D) (h2 : wf_DG n d E) : c = d ∧ ∀ i, i < c → D i = E i := by
  obtain ⟨a1, a2, a3, a4⟩ := h1
  obtain ⟨b1, b2, b3, b4⟩ := h2
  have key : ∀ x y : Nat, n < 10 ^ x → 1 ≤ x → (y = 1 ∨ 10 ^ (y - 1) ≤ n) → y ≤ x := by
    intro x y hx h1 hy
    rcases hy with hy | hy
    · omega
    · rcases Nat.lt_or_ge x y with h | h
      · exfalso
        have := wf_pow10 (show x ≤ y - 1 by omega)
        omega
      · exact h
  have hc : c = d := Nat.le_antisymm (key d c b2 b1 a3) (key c d a2 a1 b3)
  subst hc
  exact ⟨rfl, fun i hi => (a4 i hi).trans (b4 i hi).symm⟩
end
section
/-! ===== the class's arithmetic, as numbers ===== -/
abbrev wf_N : Nat := 18446744073709551616
abbrev wf_NN : Nat := 340282366920938463463374607431768211456
/-- 1 if x is below y, without a sign -/
def wf_ob (x y : Int64) : Int64 := if uN x < uN y then 1 else 0
theorem uN_ob (x y : Int64) : uN (wf_ob x y) = if uN x < uN y then 1 else 0 := by
  unfold wf_ob
  split <;> rfl
theorem wf_add (ha la hb lb : Int64) : wf_V (ha + hb + wf_ob (la + lb) la) (la + lb) = (wf_V ha la + wf_V hb lb) % wf_NN ∧
    (wf_ob (ha + hb) ha + wf_ob (ha + hb + wf_ob (la + lb) la) (wf_ob (la + lb) la) ≠ 0 ↔ wf_NN ≤ wf_V ha la + wf_V hb lb) := by
  have h1 := uN_lt ha
  have h2 := uN_lt la
  have h3 := uN_lt hb
  have h4 := uN_lt lb
  have e : wf_ob (ha + hb) ha + wf_ob (ha + hb + wf_ob (la + lb) la) (wf_ob (la + lb) la) ≠ 0 ↔ uN (wf_ob (ha + hb) ha + wf_ob (ha + hb + wf_ob (la + lb) la) (wf_ob (la + lb) la)) ≠ 0 := not_congr uN_eq0
  rw [e]
  unfold wf_V wf_NN
  simp only [uN_add, uN_ob]
  constructor
  · split <;> omega
  · split <;> split <;> split <;> omega
theorem wf_sub (ha la hb lb : Int64) : wf_V (ha - hb - wf_ob la lb) (la - lb) = (wf_V ha la + wf_NN - wf_V hb lb) % wf_NN := by
  have h1 := uN_lt ha
  have h2 := uN_lt la
  have h3 := uN_lt hb
  have h4 := uN_lt lb
  unfold wf_V wf_NN
  simp only [uN_sub, uN_ob]
  split <;> omega
/-- the product of two numbers of 128 bits, by products of halves -/
theorem wf_prod {ah al bh bl P Q U V : Int64} (hP : uN P = uN ah * uN bh / wf_N) (hQ : uN Q = uN ah * uN bl / wf_N) (hU : uN U = uN al * uN bh / wf_N) (hV : uN V = uN al * uN bl / wf_N)
    {cs th cy co wc ol oc : Int64} (e1 : cs = ah * bl + al * bh) (e2 : th = cs + V) (e3 : cy = wf_ob cs (ah * bl) + wf_ob th cs) (e4 : co = Q + U) (e5 : wc = co + cy) (e6 : ol = wc + ah * bh) (e7 : oc = wf_ob co Q + wf_ob wc cy + wf_ob ol wc) :
    wf_V (P + oc) ol = wf_V ah al * wf_V bh bl / wf_NN ∧ wf_V th (al * bl) = wf_V ah al * wf_V bh bl % wf_NN := by
  have b1 := uN_lt ah
  have b2 := uN_lt al
  have b3 := uN_lt bh
  have b4 := uN_lt bl
  have hr : wf_V ah al * wf_V bh bl = uN ah * uN bh * (wf_N * wf_N) + (uN ah * uN bl + uN al * uN bh) * wf_N + uN al * uN bl := wf_ring _ _ _ _ _
  have m1 : uN ah * uN bh ≤ 18446744073709551615 * 18446744073709551615 := wf_le_mul (by omega) (by omega)
  have m2 : uN ah * uN bl ≤ 18446744073709551615 * 18446744073709551615 := wf_le_mul (by omega) (by omega)
  have m3 : uN al * uN bh ≤ 18446744073709551615 * 18446744073709551615 := wf_le_mul (by omega) (by omega)
  have m4 : uN al * uN bl ≤ 18446744073709551615 * 18446744073709551615 := wf_le_mul (by omega) (by omega)
  have p1 : uN (ah * bh) = uN ah * uN bh % wf_N := uN_mul _ _
  have p2 : uN (ah * bl) = uN ah * uN bl % wf_N := uN_mul _ _
  have p3 : uN (al * bh) = uN al * uN bh % wf_N := uN_mul _ _
  have p4 : uN (al * bl) = uN al * uN bl % wf_N := uN_mul _ _
  rw [hr]
  generalize uN ah * uN bh = x1 at *
  generalize uN ah * uN bl = x2 at *
  generalize uN al * uN bh = x3 at *
  generalize uN al * uN bl = x4 at *
  -- sums with their carries
  have c1 := wf_carry (uN_lt (ah * bl)) (uN_lt (al * bh))
  rw [← uN_add, ← e1, ← uN_ob] at c1
  have c2 := wf_carry (uN_lt cs) (uN_lt V)
  rw [← uN_add, ← e2, ← uN_ob] at c2
  have c4 := wf_carry (uN_lt Q) (uN_lt U)
  rw [← uN_add, ← e4, ← uN_ob] at c4
  have o1 : uN (wf_ob cs (ah * bl)) ≤ 1 := by rw [uN_ob]; split <;> omega
  have o2 : uN (wf_ob th cs) ≤ 1 := by rw [uN_ob]; split <;> omega
  have c3 : uN cy = uN (wf_ob cs (ah * bl)) + uN (wf_ob th cs) := by rw [e3, uN_add]; omega
  have c5 := wf_carry' (uN_lt co) (uN_lt cy)
  rw [← uN_add, ← e5, ← uN_ob] at c5
  have c6 := wf_carry (uN_lt wc) (uN_lt (ah * bh))
  rw [← uN_add, ← e6, ← uN_ob] at c6
  have o4 : uN (wf_ob co Q) ≤ 1 := by rw [uN_ob]; split <;> omega
  have o5 : uN (wf_ob wc cy) ≤ 1 := by rw [uN_ob]; split <;> omega
  have o6 : uN (wf_ob ol wc) ≤ 1 := by rw [uN_ob]; split <;> omega
  have c7 : uN oc = uN (wf_ob co Q) + uN (wf_ob wc cy) + uN (wf_ob ol wc) := by rw [e7, uN_add, uN_add]; omega
  have c8 := uN_add P oc
  have l1 := uN_lt cs
  have l2 := uN_lt th
  have l3 := uN_lt co
  have l4 := uN_lt wc
  have l5 := uN_lt ol
  have l6 := uN_lt (P + oc)
  unfold wf_V wf_NN
  unfold wf_N at *
  generalize uN (wf_ob cs (ah * bl)) = y1 at *
  generalize uN (wf_ob th cs) = y2 at *
  generalize uN (wf_ob co Q) = y4 at *
  generalize uN (wf_ob wc cy) = y5 at *
  generalize uN (wf_ob ol wc) = y6 at *
  rw [p4]
  omega
/-- ten times and d more -/
theorem wf_ten {h l d P Q cy : Int64} (hd : uN d < 10) (hP : uN P = uN l * 10 / wf_N) (hQ : uN Q = uN h * 10 / wf_N) (hc : cy = P + wf_ob (l * 10 + d) (l * 10)) :
    (Q + wf_ob (h * 10 + cy) cy ≠ 0 ↔ wf_NN ≤ wf_V h l * 10 + uN d) ∧ (wf_V h l * 10 + uN d < wf_NN → wf_V (h * 10 + cy) (l * 10 + d) = wf_V h l * 10 + uN d) := by
  have b1 := uN_lt h
  have b2 := uN_lt l
  have t : uN (10 : Int64) = 10 := by decide
  have p1 : uN (l * 10) = uN l * 10 % wf_N := by rw [uN_mul, t]
  have p2 : uN (h * 10) = uN h * 10 % wf_N := by rw [uN_mul, t]
  have c1 := wf_carry (uN_lt (l * 10)) (uN_lt d)
  rw [← uN_add, ← uN_ob] at c1
  have o1 : uN (wf_ob (l * 10 + d) (l * 10)) ≤ 1 := by rw [uN_ob]; split <;> omega
  have c2 : uN cy = uN P + uN (wf_ob (l * 10 + d) (l * 10)) := by rw [hc, uN_add]; unfold wf_N at hP; omega
  have c3 := wf_carry' (uN_lt (h * 10)) (uN_lt cy)
  rw [← uN_add, ← uN_ob] at c3
  have o3 : uN (wf_ob (h * 10 + cy) cy) ≤ 1 := by rw [uN_ob]; split <;> omega
  have l1 := uN_lt (l * 10 + d)
  have l2 := uN_lt (h * 10 + cy)
  have e : Q + wf_ob (h * 10 + cy) cy ≠ 0 ↔ uN (Q + wf_ob (h * 10 + cy) cy) ≠ 0 := not_congr uN_eq0
  have c4 : uN (Q + wf_ob (h * 10 + cy) cy) = uN Q + uN (wf_ob (h * 10 + cy) cy) := by rw [uN_add]; unfold wf_N at hQ; omega
  rw [e, c4]
  unfold wf_V wf_NN
  unfold wf_N at *
  generalize uN (wf_ob (l * 10 + d) (l * 10)) = y1 at *
  generalize uN (wf_ob (h * 10 + cy) cy) = y3 at *
  constructor <;> omega
end
section
/-! ===== the reference's loops over bits, as numbers ===== -/
theorem wf_sm_cons (f : Nat → Bool) (n : Nat) : wf_sm f (n + 1) = (f 0).toNat + 2 * wf_sm (fun i => f (i + 1)) n := by
  rw [Nat.add_comm n 1, wf_sm_add, wf_smS, wf_sm0, Nat.pow_zero, Nat.mul_one, Nat.zero_add, Nat.pow_one]
  congr 2
  exact wf_sm_congr (fun k _ => by rw [Nat.add_comm])
/-- bits that are false from n on add nothing -/
theorem wf_sm_ext {f : Nat → Bool} {n m : Nat} (hnm : n ≤ m) (h : ∀ k, n ≤ k → k < m → f k = false) : wf_sm f m = wf_sm f n := by
  obtain ⟨d, rfl⟩ : ∃ d, m = n + d := ⟨m - n, by omega⟩
  rw [wf_sm_add, show wf_sm (fun k => f (n + k)) d = 0 from ?_, Nat.mul_zero, Nat.add_zero]
  rw [← wf_sm_z (n := d)]
  exact wf_sm_congr (fun k hk => h (n + k) (by omega) (by omega))
theorem wf_sm_eq0 {f : Nat → Bool} {n : Nat} : wf_sm f n = 0 ↔ ∀ k, k < n → f k = false := by
  constructor
  · intro h k hk
    exact wf_sm_inj (g := fun _ => false) (h.trans wf_sm_z.symm) hk
  · intro h
    rw [← wf_sm_z (n := n)]
    exact wf_sm_congr h
/-- compared from the lowest bit up -/
theorem wf_cmp_step {X Y P : Nat} {x y : Bool} (hX : X < P) (hY : Y < P) :
    (x = y → (X + x.toNat * P < Y + y.toNat * P ↔ X < Y) ∧ (X + x.toNat * P = Y + y.toNat * P ↔ X = Y)) ∧ (x = true → y = false → Y + y.toNat * P < X + x.toNat * P) ∧ (x = false → y = true → X + x.toNat * P < Y + y.toNat * P) := by
  refine ⟨fun h => ?_, fun h1 h2 => ?_, fun h1 h2 => ?_⟩
  · subst h
    constructor <;> constructor <;> intros <;> omega
  · subst h1 h2
    simp only [Bool.toNat_false, Bool.toNat_true]
    omega
  · subst h1 h2
    simp only [Bool.toNat_false, Bool.toNat_true]
    omega
/-- a register read by its halves -/
theorem wf_R_halves (B : Nat → Bool) (r : Nat) : wf_R B r = wf_sm (fun k => B (128 * r + k)) 64 + 18446744073709551616 * wf_sm (fun k => B (128 * r + 64 + k)) 64 := by
  unfold wf_R
  rw [show (128 : Nat) = 64 + 64 from rfl, wf_sm_add]
  congr 2
theorem wf_V_one {h l : Int64} {x y : Nat} (hx : x < 18446744073709551616) (hy : y < 18446744073709551616) (e : wf_V h l = y + 18446744073709551616 * x) : uN h = x ∧ uN l = y := by
  have h1 := uN_lt h
  have h2 := uN_lt l
  unfold wf_V at e
  omega
/-- bit k of a long, by an arithmetic shift -/
theorem wf_sar (x : Int64) {k : Nat} (hk : k < 64) : (x >>> ((nI k).toInt64 &&& 63)) &&& 1 = 1 ↔ uN x / 2 ^ k % 2 = 1 := by
  have h1 : uN ((x >>> ((nI k).toInt64 &&& 63)) &&& 1) = uN x / 2 ^ k % 2 := by
    rw [uN_and', show uN (1 : Int64) = 1 from by decide, Nat.and_one_is_mod]
    have h2 : uN (x >>> ((nI k).toInt64 &&& 63)) = (x.toBitVec.sshiftRight k).toNat := by
      show (x.toBitVec.sshiftRight (((nI k).toInt64 &&& 63).toBitVec.smod 64).toNat).toNat = _
      rw [wf_cnt k hk]
    have h3 : (x.toBitVec.sshiftRight k).getLsbD 0 = x.toBitVec.getLsbD k := by
      rw [BitVec.getLsbD_sshiftRight]
      simp [hk]
    rw [h2]
    have h4 : ∀ n : Nat, n % 2 = (n.testBit 0).toNat := fun n => by rw [Nat.toNat_testBit, Nat.pow_zero, Nat.div_one]
    rw [h4]
    show ((x.toBitVec.sshiftRight k).getLsbD 0).toNat = _
    rw [h3]
    exact Nat.toNat_testBit _ _
  constructor
  · intro h
    rw [← h1, h]
    decide
  · intro h
    refine uN_inj ?_
    rw [h1, h]
    decide
end
section
/-! ===== loops and joins of a walk ===== -/
section WLP
variable {p : Program} {l : Launch} {e : Env} {R : Room} {s : State} {m : MethodId} {args : Array Value} {below : List Frame} {meth : Method} {c : Code} {H : Heap} {locs : List Loc} {cells slots : Nat} {Q : State → Prop}
/-- two branches meet with an int on the stack -/
theorem wf_cutI {pc pcj : Nat} {ls ls' : Array Slot} {rest st0 : List Value} (P : Int32 → Prop) (k : ∀ z : Int32, P z → W p l e R s m args below meth c H locs cells slots Q (F0 m pcj ls (.int z :: rest))) (g : (∀ z : Int32, P z → W p l e R s m args below meth c H locs cells slots Q (F0 m pcj ls (.int z :: rest))) → W p l e R s m args below meth c H locs cells slots Q (F0 m pc ls' st0)) : W p l e R s m args below meth c H locs cells slots Q (F0 m pc ls' st0) := g k
theorem wf_cutL {pc pcj : Nat} {ls ls' : Array Slot} {rest st0 : List Value} (P : Int64 → Prop) (k : ∀ z : Int64, P z → W p l e R s m args below meth c H locs cells slots Q (F0 m pcj ls (.long z :: rest))) (g : (∀ z : Int64, P z → W p l e R s m args below meth c H locs cells slots Q (F0 m pcj ls (.long z :: rest))) → W p l e R s m args below meth c H locs cells slots Q (F0 m pc ls' st0)) : W p l e R s m args below meth c H locs cells slots Q (F0 m pc ls' st0) := g k
/-- a loop that leaves the heap alone: N rounds -/
theorem wf_for {σ : Type} {pc nL : Nat} (N : Nat) (I : Nat → σ → Prop) (F : Nat → σ → List (Nat × Value))
    (step : ∀ (i : Nat) (x : σ) (ls : Array Slot), i < N → I i x → lv_has ls nL (F i x) → (∀ (x' : σ) (ls' : Array Slot), I (i + 1) x' → lv_has ls' nL (F (i + 1) x') → W p l e R s m args below meth c H locs cells slots Q (F0 m pc ls' [])) → W p l e R s m args below meth c H locs cells slots Q (F0 m pc ls []))
    (exit : ∀ (x : σ) (ls : Array Slot), I N x → lv_has ls nL (F N x) → W p l e R s m args below meth c H locs cells slots Q (F0 m pc ls []))
    (x0 : σ) (h0 : I 0 x0) {ls : Array Slot} (hl : lv_has ls nL (F 0 x0)) : W p l e R s m args below meth c H locs cells slots Q (F0 m pc ls []) := by
  have key : ∀ (n i : Nat) (x : σ) (ls : Array Slot), i ≤ N → N - i < n → I i x → lv_has ls nL (F i x) → W p l e R s m args below meth c H locs cells slots Q (F0 m pc ls []) := by
    intro n
    induction n with
    | zero => intro i x ls _ h; omega
    | succ n ih =>
      intro i x ls hi hn hI hl
      by_cases hN : i = N
      · subst hN; exact exit x ls hI hl
      · exact step i x ls (by omega) hI hl (fun x' ls' h1 h2 => ih (i + 1) x' ls' (by omega) (by omega) h1 h2)
  exact key (N + 1) 0 x0 ls (by omega) (by omega) h0 hl
end WLP
section WLH
variable {p : Program} {l : Launch} {e : Env} {R : Room} {s : State} {m : MethodId} {args : Array Value} {below : List Frame} {meth : Method} {c : Code} {cells slots : Nat} {Q : State → Prop} {D : va_G} {cl : List vw_C} {A : Nat → Prop} {H0 : Heap}
/-- a loop that changes its world: N rounds -/
theorem wf_forH {σ : Type} {pc nL : Nat} (N : Nat) (I : Nat → σ → Prop) (mk : σ → va_W) (F : Nat → σ → List (Nat × Value))
    (step : ∀ (i : Nat) (x : σ) (H : Heap) (locs : List Loc) (ls : Array Slot), i < N → I i x → va_P D cl (mk x) H → va_D A (mk x) → va_S A H0 H locs → lv_has ls nL (F i x) →
      (∀ (x' : σ) (H' : Heap) (locs' : List Loc) (ls' : Array Slot), I (i + 1) x' → va_P D cl (mk x') H' → va_D A (mk x') → va_S A H0 H' locs' → lv_has ls' nL (F (i + 1) x') → W p l e R s m args below meth c H' locs' cells slots Q (F0 m pc ls' [])) → W p l e R s m args below meth c H locs cells slots Q (F0 m pc ls []))
    (exit : ∀ (x : σ) (H : Heap) (locs : List Loc) (ls : Array Slot), I N x → va_P D cl (mk x) H → va_D A (mk x) → va_S A H0 H locs → lv_has ls nL (F N x) → W p l e R s m args below meth c H locs cells slots Q (F0 m pc ls []))
    (x0 : σ) (h0 : I 0 x0) {H : Heap} {locs : List Loc} {ls : Array Slot} (hP : va_P D cl (mk x0) H) (hD : va_D A (mk x0)) (hS : va_S A H0 H locs) (hl : lv_has ls nL (F 0 x0)) : W p l e R s m args below meth c H locs cells slots Q (F0 m pc ls []) := by
  have key : ∀ (n i : Nat) (x : σ) (H : Heap) (locs : List Loc) (ls : Array Slot), i ≤ N → N - i < n → I i x → va_P D cl (mk x) H → va_D A (mk x) → va_S A H0 H locs → lv_has ls nL (F i x) → W p l e R s m args below meth c H locs cells slots Q (F0 m pc ls []) := by
    intro n
    induction n with
    | zero => intro i x H locs ls _ h; omega
    | succ n ih =>
      intro i x H locs ls hi hn hI h1 h2 h3 hl
      by_cases hN : i = N
      · subst hN; exact exit x H locs ls hI h1 h2 h3 hl
      · exact step i x H locs ls (by omega) hI h1 h2 h3 hl (fun x' H' locs' ls' k0 k1 k2 k3 k4 => ih (i + 1) x' H' locs' ls' (by omega) (by omega) k0 k1 k2 k3 k4)
  exact key (N + 1) 0 x0 H locs ls (by omega) (by omega) h0 hP hD hS hl
end WLH
/-- the index of a loop that runs down from N - 1: behind i rounds -/
def wf_dn (N i : Nat) : Int32 := Int32.ofInt ((N : Int) - 1 - i)
theorem wf_dn_nI {N i : Nat} (h : i < N) : wf_dn N i = nI (N - 1 - i) := by
  unfold wf_dn nI
  rw [show ((N : Int) - 1 - i) = ((N - 1 - i : Nat) : Int) by omega]
  rfl
theorem wf_dn_S {N i : Nat} : wf_dn N i + Int32.ofInt (-1) = wf_dn N (i + 1) := by
  unfold wf_dn
  rw [← Int32.ofInt_add]
  congr 1
  omega
theorem wf_dn_end (N : Nat) : wf_dn N N = -1 := by
  unfold wf_dn
  rw [show ((N : Int) - 1 - N) = -1 by omega]
  rfl
theorem wf_neg (x : Int64) : (0 : Int64) ≤ x ↔ ¬ 9223372036854775808 ≤ uN x := by
  have h := uN_lt x
  rw [Int64.le_iff_toInt_le, uN_int x]
  show (0 : Int) ≤ _ ↔ _
  omega
/-- one shift left over two longs -/
theorem wf_s1 (x y : Int64) : uN ((x <<< ((1 : Int32).toInt64 &&& 63)) ||| (y.toUInt64 >>> ((63 : Int32).toInt64.toUInt64 &&& Int64.toUInt64 63)).toInt64) = (2 * uN x) % 18446744073709551616 + uN y / 9223372036854775808 := by
  have h := uN_lt y
  rw [uN_or (by rw [uN_s63]; omega), uN_s63]
theorem wf_sh2 (x : Int64) : uN (x <<< ((2 : Int32).toInt64 &&& 63)) = (4 * uN x) % 18446744073709551616 := by
  have h := wf_shl x (k := 2) (by decide)
  rw [show nI 2 = (2 : Int32) from rfl] at h
  rw [h, Nat.mul_comm]
theorem wf_u62 (x : Int64) : uN (x.toUInt64 >>> ((62 : Int32).toInt64.toUInt64 &&& Int64.toUInt64 63)).toInt64 = uN x / 4611686018427387904 := by
  have h := uN_sk x (k := 62) (by decide)
  rw [show nI 62 = (62 : Int32) from rfl] at h
  exact h
theorem wf_s2 (x y : Int64) : uN ((x <<< ((2 : Int32).toInt64 &&& 63)) ||| (y.toUInt64 >>> ((62 : Int32).toInt64.toUInt64 &&& Int64.toUInt64 63)).toInt64) = (4 * uN x) % 18446744073709551616 + uN y / 4611686018427387904 := by
  have h := uN_lt y
  have h2 := wf_shlor (x := uN x) h (k := 2) (by decide)
  rw [uN_or', wf_sh2, wf_u62, Nat.mul_comm]
  exact h2
theorem wf_or1 (x : Int64) {a : Nat} (h : uN x = 2 * a) : uN (x ||| 1) = uN x + 1 := by
  rw [uN_or', h, show uN (1 : Int64) = 1 from by decide, Nat.mul_comm]
  exact wf_or (k := 1) (by decide)
theorem wf_p128 : (2 : Nat) ^ 128 = 340282366920938463463374607431768211456 := by decide +kernel
theorem wf_d1 {a b t : Nat} (ha : a < 18446744073709551616) (hb : b < 18446744073709551616) : (2 * a % 18446744073709551616 + b / 9223372036854775808) * 18446744073709551616 + (2 * b % 18446744073709551616 + t) = 2 * (a * 18446744073709551616 + b) % 340282366920938463463374607431768211456 + t := by omega
theorem wf_d2 {a b t : Nat} (ha : a < 18446744073709551616) (hb : b < 18446744073709551616) : (4 * a % 18446744073709551616 + b / 4611686018427387904) * 18446744073709551616 + (4 * b % 18446744073709551616 + t) = 4 * (a * 18446744073709551616 + b) % 340282366920938463463374607431768211456 + t := by omega
theorem wf_d1z {a b : Nat} (ha : a < 18446744073709551616) (hb : b < 18446744073709551616) : (2 * a % 18446744073709551616 + b / 9223372036854775808) * 18446744073709551616 + 2 * b % 18446744073709551616 = 2 * (a * 18446744073709551616 + b) % 340282366920938463463374607431768211456 := by omega
theorem wf_d2z {a b : Nat} (ha : a < 18446744073709551616) (hb : b < 18446744073709551616) : (4 * a % 18446744073709551616 + b / 4611686018427387904) * 18446744073709551616 + 4 * b % 18446744073709551616 = 4 * (a * 18446744073709551616 + b) % 340282366920938463463374607431768211456 := by omega
theorem wf_ev (x : Nat) : 2 * x % 18446744073709551616 = 2 * (x % 9223372036854775808) := by omega
theorem wf_d9 {F f t P : Nat} (h3 : F ≤ 2 * f) (h5 : f < P) (hp : P ≤ 9223372036854775808) (h1 : t ≤ 3) : 4 * F % 340282366920938463463374607431768211456 + t = 4 * F + t ∧ 4 * F + t < 340282366920938463463374607431768211456 ∧ 2 * f % 18446744073709551616 = 2 * f := by omega
theorem wf_d3 {f : Nat} (hf : f < 18446744073709551616) : f / 4611686018427387904 * 18446744073709551616 + (4 * f % 18446744073709551616 + 1) = 4 * f + 1 := by omega
theorem wf_d4 {a b : Nat} (hb : b < 18446744073709551616) : 9223372036854775808 ≤ a ↔ 340282366920938463463374607431768211456 ≤ 2 * (a * 18446744073709551616 + b) := by omega
theorem wf_d5 {a b : Nat} (hb : b < 18446744073709551616) : (a * 18446744073709551616 + b) / 2 ^ 127 = a / 9223372036854775808 := by
  rw [show (2 : Nat) ^ 127 = 170141183460469231731687303715884105728 from by decide +kernel]; omega
theorem wf_d6 {a b : Nat} (hb : b < 18446744073709551616) : (a * 18446744073709551616 + b) / 2 ^ 126 = a / 4611686018427387904 := by
  rw [show (2 : Nat) ^ 126 = 85070591730234615865843651857942052864 from by decide +kernel]; omega
theorem wf_d7 {F B t : Nat} (hF : F < B) (hB : B < 340282366920938463463374607431768211456) (ht : t ≤ 1) (h : 340282366920938463463374607431768211456 ≤ 2 * F ∨ ¬ 2 * F % 340282366920938463463374607431768211456 + t < B) : B ≤ 2 * F + t ∧ (2 * F % 340282366920938463463374607431768211456 + t + 340282366920938463463374607431768211456 - B) % 340282366920938463463374607431768211456 = 2 * F + t - B := by omega
theorem wf_d8 {L C : Nat} (hC : C ≤ L) (hL : L < 340282366920938463463374607431768211456) : (L + 340282366920938463463374607431768211456 - C) % 340282366920938463463374607431768211456 = L - C := by omega
/-! the two ends of a round of the division -/
theorem wf_q_yes {a i q1 : Nat} {bh bl fh fl hh hl fh' fl' hh' hl' : Int64} (hi : i < 128) (hI : wf_DI a (wf_V bh bl) i q1 (wf_V fh fl) (wf_V hh hl))
    (e1 : uN fh' = 2 * uN fh % 18446744073709551616 + uN fl / 9223372036854775808) (e2 : uN fl' = 2 * uN fl % 18446744073709551616 + uN hh / 9223372036854775808) (e3 : uN hh' = 2 * uN hh % 18446744073709551616 + uN hl / 9223372036854775808) (e4 : uN hl' = 2 * uN hl % 18446744073709551616)
    (hb : 9223372036854775808 ≤ uN fh ∨ ¬ wf_V fh' fl' < wf_V bh bl) : wf_DI a (wf_V bh bl) (i + 1) (2 * q1 + 1) (wf_V (fh' - bh - wf_ob fl' bl) (fl' - bl)) (wf_V hh' (hl' ||| 1)) := by
  obtain ⟨h1, -, h3, h4, -⟩ := wf_DI_step hi hI
  have o1 : uN (hl' ||| 1) = uN hl' + 1 := wf_or1 hl' (a := uN hl % 9223372036854775808) (e4.trans (wf_ev _))
  have ht : wf_V hh hl / 2 ^ 127 = uN hh / 9223372036854775808 := wf_d5 (uN_lt hl)
  rw [ht] at h1 h4
  have hf : wf_V fh' fl' = 2 * wf_V fh fl % 340282366920938463463374607431768211456 + uN hh / 9223372036854775808 := by show uN fh' * _ + uN fl' = _; rw [e1, e2]; exact wf_d1 (uN_lt fh) (uN_lt fl)
  have g4 : wf_V hh' (hl' ||| 1) = 2 * wf_V hh hl % 2 ^ 128 + 1 := by show uN hh' * _ + uN (hl' ||| 1) = _; rw [o1, e3, e4, wf_p128]; exact wf_d1 (uN_lt hh) (uN_lt hl)
  have hs := wf_sub fh' fl' bh bl
  rw [wf_d4 (uN_lt fl), hf] at hb
  obtain ⟨g1, g3⟩ := wf_d7 h3 (wf_V_lt bh bl) h1 hb
  rw [hs, hf, g4, show (2 * wf_V fh fl % 340282366920938463463374607431768211456 + uN hh / 9223372036854775808 + wf_NN - wf_V bh bl) % wf_NN = 2 * wf_V fh fl + uN hh / 9223372036854775808 - wf_V bh bl from g3]
  exact h4 g1
theorem wf_q_no {a i q1 : Nat} {bh bl fh fl hh hl fh' fl' hh' hl' : Int64} (hi : i < 128) (hI : wf_DI a (wf_V bh bl) i q1 (wf_V fh fl) (wf_V hh hl))
    (e1 : uN fh' = 2 * uN fh % 18446744073709551616 + uN fl / 9223372036854775808) (e2 : uN fl' = 2 * uN fl % 18446744073709551616 + uN hh / 9223372036854775808) (e3 : uN hh' = 2 * uN hh % 18446744073709551616 + uN hl / 9223372036854775808) (e4 : uN hl' = 2 * uN hl % 18446744073709551616)
    (hn : ¬ 9223372036854775808 ≤ uN fh) (hb : wf_V fh' fl' < wf_V bh bl) : wf_DI a (wf_V bh bl) (i + 1) (2 * q1) (wf_V fh' fl') (wf_V hh' hl') := by
  obtain ⟨h1, -, h3, -, h4⟩ := wf_DI_step hi hI
  have ht : wf_V hh hl / 2 ^ 127 = uN hh / 9223372036854775808 := wf_d5 (uN_lt hl)
  rw [ht] at h1 h4
  rw [wf_d4 (uN_lt fl)] at hn
  have hf : wf_V fh' fl' = 2 * wf_V fh fl % 340282366920938463463374607431768211456 + uN hh / 9223372036854775808 := by show uN fh' * _ + uN fl' = _; rw [e1, e2]; exact wf_d1 (uN_lt fh) (uN_lt fl)
  rw [Nat.mod_eq_of_lt (Nat.not_le.mp hn)] at hf
  have g4 : wf_V hh' hl' = 2 * wf_V hh hl % 2 ^ 128 := by show uN hh' * _ + uN hl' = _; rw [e3, e4, wf_p128]; exact wf_d1z (uN_lt hh) (uN_lt hl)
  rw [hf] at hb ⊢
  rw [g4]
  exact h4 (Nat.not_le.mpr hb)
/-! the two ends of a round of the root -/
theorem wf_r_hf {f fh fl hh fh' fl' : Int64} {i : Nat} (hi : i < 64) (h3 : wf_V fh fl ≤ 2 * uN f) (h5 : uN f < 2 ^ i) (h1 : uN hh / 4611686018427387904 ≤ 3)
    (e1 : uN fh' = 4 * uN fh % 18446744073709551616 + uN fl / 4611686018427387904) (e2 : uN fl' = 4 * uN fl % 18446744073709551616 + uN hh / 4611686018427387904) :
    wf_V fh' fl' = 4 * wf_V fh fl + uN hh / 4611686018427387904 ∧ 4 * wf_V fh fl + uN hh / 4611686018427387904 < 340282366920938463463374607431768211456 ∧ 2 * uN f % 18446744073709551616 = 2 * uN f := by
  have hp : (2 : Nat) ^ i ≤ 2 ^ 63 := Nat.pow_le_pow_right (by decide) (by omega)
  rw [show (2 : Nat) ^ 63 = 9223372036854775808 from by decide] at hp
  have hf : wf_V fh' fl' = 4 * wf_V fh fl % 340282366920938463463374607431768211456 + uN hh / 4611686018427387904 := by show uN fh' * _ + uN fl' = _; rw [e1, e2]; exact wf_d2 (uN_lt fh) (uN_lt fl)
  obtain ⟨k1, k2, k3⟩ := wf_d9 h3 h5 hp h1
  exact ⟨hf.trans k1, k2, k3⟩
theorem wf_r_yes {a i : Nat} {f fh fl hh hl fh' fl' hh' hl' ch cl : Int64} (hi : i < 64) (hI : wf_RI a i (uN f) (wf_V fh fl) (wf_V hh hl))
    (e1 : uN fh' = 4 * uN fh % 18446744073709551616 + uN fl / 4611686018427387904) (e2 : uN fl' = 4 * uN fl % 18446744073709551616 + uN hh / 4611686018427387904) (e3 : uN hh' = 4 * uN hh % 18446744073709551616 + uN hl / 4611686018427387904) (e4 : uN hl' = 4 * uN hl % 18446744073709551616)
    (e5 : uN ch = uN f / 4611686018427387904) (e6 : uN cl = 4 * uN f % 18446744073709551616 + 1) {g : Int64} (e7 : uN g = 2 * uN f % 18446744073709551616) (hb : ¬ wf_V fh' fl' < wf_V ch cl) :
    wf_RI a (i + 1) (uN (g ||| 1)) (wf_V (fh' - ch - wf_ob fl' cl) (fl' - cl)) (wf_V hh' hl') := by
  obtain ⟨h1, -, h3, h5, h4, -⟩ := wf_RI_step hi hI
  have o1 : uN (g ||| 1) = uN g + 1 := wf_or1 g (a := uN f % 9223372036854775808) (e7.trans (wf_ev _))
  have ht : wf_V hh hl / 2 ^ 126 = uN hh / 4611686018427387904 := wf_d6 (uN_lt hl)
  rw [ht] at h1 h4
  obtain ⟨hf, hlt, hg⟩ := wf_r_hf hi h3 h5 h1 e1 e2
  have hs := wf_sub fh' fl' ch cl
  have hc : wf_V ch cl = 4 * uN f + 1 := by show uN ch * _ + uN cl = _; rw [e5, e6]; exact wf_d3 (uN_lt f)
  have g4 : wf_V hh' hl' = 4 * wf_V hh hl % 2 ^ 128 := by show uN hh' * _ + uN hl' = _; rw [e3, e4, wf_p128]; exact wf_d2z (uN_lt hh) (uN_lt hl)
  rw [hf, hc] at hb
  have g1 := Nat.not_lt.mp hb
  rw [hs, hc, hf, g4, o1, e7, hg, show (4 * wf_V fh fl + uN hh / 4611686018427387904 + wf_NN - (4 * uN f + 1)) % wf_NN = 4 * wf_V fh fl + uN hh / 4611686018427387904 - (4 * uN f + 1) from wf_d8 g1 hlt]
  exact h4 g1
theorem wf_r_no {a i : Nat} {f fh fl hh hl fh' fl' hh' hl' ch cl : Int64} (hi : i < 64) (hI : wf_RI a i (uN f) (wf_V fh fl) (wf_V hh hl))
    (e1 : uN fh' = 4 * uN fh % 18446744073709551616 + uN fl / 4611686018427387904) (e2 : uN fl' = 4 * uN fl % 18446744073709551616 + uN hh / 4611686018427387904) (e3 : uN hh' = 4 * uN hh % 18446744073709551616 + uN hl / 4611686018427387904) (e4 : uN hl' = 4 * uN hl % 18446744073709551616)
    (e5 : uN ch = uN f / 4611686018427387904) (e6 : uN cl = 4 * uN f % 18446744073709551616 + 1) {g : Int64} (e7 : uN g = 2 * uN f % 18446744073709551616) (hb : wf_V fh' fl' < wf_V ch cl) :
    wf_RI a (i + 1) (uN g) (wf_V fh' fl') (wf_V hh' hl') := by
  obtain ⟨h1, -, h3, h5, -, h4⟩ := wf_RI_step hi hI
  have ht : wf_V hh hl / 2 ^ 126 = uN hh / 4611686018427387904 := wf_d6 (uN_lt hl)
  rw [ht] at h1 h4
  obtain ⟨hf, hlt, hg⟩ := wf_r_hf hi h3 h5 h1 e1 e2
  have hc : wf_V ch cl = 4 * uN f + 1 := by show uN ch * _ + uN cl = _; rw [e5, e6]; exact wf_d3 (uN_lt f)
  have g4 : wf_V hh' hl' = 4 * wf_V hh hl % 2 ^ 128 := by show uN hh' * _ + uN hl' = _; rw [e3, e4, wf_p128]; exact wf_d2z (uN_lt hh) (uN_lt hl)
  rw [hf, hc] at hb
  rw [hf, g4, e7, hg]
  exact h4 (Nat.not_le.mpr hb)
end
