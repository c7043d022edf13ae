section
-- ===== PART A: goes FIRST, ahead of the names: the tables' words, and 'selects' of the private methods out of them =====
/-- a private method of a class that the tables say can be made, by its rows of tables_1 -/
def lw_okq (q : MethodName × Nat) : Prop := (q.1.cls ≠ "java/lang/invoke/MethodHandle" ∧ q.1.cls ≠ "java/lang/invoke/VarHandle") ∧ Cond.instantiable q.1.cls q.2 ∈ tables_1 ∧ Cond.privateMethod q.1 ∈ tables_1 ∧ Cond.instanceMethod q.1 ∈ tables_1
theorem lw_p0 : lw_okq (⟨"java/lang/Throwable", "fillInStackTrace", "(I)Ljava/lang/Throwable;"⟩, 6) := ⟨⟨by decide +kernel, by decide +kernel⟩, List.mem_of_getElem? (i := 91) (by decide +kernel), List.mem_of_getElem? (i := 89) (by decide +kernel), List.mem_of_getElem? (i := 90) (by decide +kernel)⟩
theorem lw_p1 : lw_okq (⟨"WideFractions", "store", "(IJJ)V"⟩, 5) := ⟨⟨by decide +kernel, by decide +kernel⟩, List.mem_of_getElem? (i := 12) (by decide +kernel), List.mem_of_getElem? (i := 121) (by decide +kernel), List.mem_of_getElem? (i := 122) (by decide +kernel)⟩
theorem lw_p2 : lw_okq (⟨"WideFractions", "storeProduct", "(JJJJII)V"⟩, 5) := ⟨⟨by decide +kernel, by decide +kernel⟩, List.mem_of_getElem? (i := 12) (by decide +kernel), List.mem_of_getElem? (i := 186) (by decide +kernel), List.mem_of_getElem? (i := 187) (by decide +kernel)⟩
theorem lw_p3 : lw_okq (⟨"WideFractions", "storeQuotient", "(JJJJII)V"⟩, 5) := ⟨⟨by decide +kernel, by decide +kernel⟩, List.mem_of_getElem? (i := 12) (by decide +kernel), List.mem_of_getElem? (i := 218) (by decide +kernel), List.mem_of_getElem? (i := 219) (by decide +kernel)⟩
theorem lw_p4 : lw_okq (⟨"WideFractions", "storeRoot", "(JJII)V"⟩, 5) := ⟨⟨by decide +kernel, by decide +kernel⟩, List.mem_of_getElem? (i := 12) (by decide +kernel), List.mem_of_getElem? (i := 229) (by decide +kernel), List.mem_of_getElem? (i := 230) (by decide +kernel)⟩
theorem lw_p5 : lw_okq (⟨"WideFractions", "storeShiftedUp", "(JJII)Z"⟩, 5) := ⟨⟨by decide +kernel, by decide +kernel⟩, List.mem_of_getElem? (i := 12) (by decide +kernel), List.mem_of_getElem? (i := 240) (by decide +kernel), List.mem_of_getElem? (i := 241) (by decide +kernel)⟩
theorem lw_p6 : lw_okq (⟨"WideFractions", "storeShiftedDown", "(JJII)Z"⟩, 5) := ⟨⟨by decide +kernel, by decide +kernel⟩, List.mem_of_getElem? (i := 12) (by decide +kernel), List.mem_of_getElem? (i := 254) (by decide +kernel), List.mem_of_getElem? (i := 255) (by decide +kernel)⟩
theorem lw_p7 : lw_okq (⟨"WideFractions", "splitIntoParts", "(JJ)V"⟩, 5) := ⟨⟨by decide +kernel, by decide +kernel⟩, List.mem_of_getElem? (i := 12) (by decide +kernel), List.mem_of_getElem? (i := 296) (by decide +kernel), List.mem_of_getElem? (i := 297) (by decide +kernel)⟩
theorem lw_p8 : lw_okq (⟨"WideFractions", "takeLowestDigit", "()I"⟩, 5) := ⟨⟨by decide +kernel, by decide +kernel⟩, List.mem_of_getElem? (i := 12) (by decide +kernel), List.mem_of_getElem? (i := 300) (by decide +kernel), List.mem_of_getElem? (i := 301) (by decide +kernel)⟩
theorem lw_p9 : lw_okq (⟨"WideFractions", "partsAreZero", "()Z"⟩, 5) := ⟨⟨by decide +kernel, by decide +kernel⟩, List.mem_of_getElem? (i := 12) (by decide +kernel), List.mem_of_getElem? (i := 305) (by decide +kernel), List.mem_of_getElem? (i := 306) (by decide +kernel)⟩
theorem lw_p10 : lw_okq (⟨"WideFractionsModel", "copy", "(II)V"⟩, 7) := ⟨⟨by decide +kernel, by decide +kernel⟩, List.mem_of_getElem? (i := 317) (by decide +kernel), List.mem_of_getElem? (i := 366) (by decide +kernel), List.mem_of_getElem? (i := 367) (by decide +kernel)⟩
theorem lw_p11 : lw_okq (⟨"WideFractionsModel", "join", "(Z)Z"⟩, 7) := ⟨⟨by decide +kernel, by decide +kernel⟩, List.mem_of_getElem? (i := 317) (by decide +kernel), List.mem_of_getElem? (i := 370) (by decide +kernel), List.mem_of_getElem? (i := 371) (by decide +kernel)⟩
theorem lw_p12 : lw_okq (⟨"WideFractionsModel", "findProduct", "(II)V"⟩, 7) := ⟨⟨by decide +kernel, by decide +kernel⟩, List.mem_of_getElem? (i := 317) (by decide +kernel), List.mem_of_getElem? (i := 382) (by decide +kernel), List.mem_of_getElem? (i := 383) (by decide +kernel)⟩
theorem lw_p13 : lw_okq (⟨"WideFractionsModel", "take", "([ZII)V"⟩, 7) := ⟨⟨by decide +kernel, by decide +kernel⟩, List.mem_of_getElem? (i := 317) (by decide +kernel), List.mem_of_getElem? (i := 386) (by decide +kernel), List.mem_of_getElem? (i := 387) (by decide +kernel)⟩
theorem lw_p14 : lw_okq (⟨"WideFractionsModel", "clearRest", "()V"⟩, 7) := ⟨⟨by decide +kernel, by decide +kernel⟩, List.mem_of_getElem? (i := 317) (by decide +kernel), List.mem_of_getElem? (i := 394) (by decide +kernel), List.mem_of_getElem? (i := 395) (by decide +kernel)⟩
theorem lw_p15 : lw_okq (⟨"WideFractionsModel", "bring", "(Z)V"⟩, 7) := ⟨⟨by decide +kernel, by decide +kernel⟩, List.mem_of_getElem? (i := 317) (by decide +kernel), List.mem_of_getElem? (i := 398) (by decide +kernel), List.mem_of_getElem? (i := 399) (by decide +kernel)⟩
def lw_privs_1 : List (MethodName × Nat) := [(⟨"java/lang/Throwable", "fillInStackTrace", "(I)Ljava/lang/Throwable;"⟩, 6), (⟨"WideFractions", "store", "(IJJ)V"⟩, 5), (⟨"WideFractions", "storeProduct", "(JJJJII)V"⟩, 5), (⟨"WideFractions", "storeQuotient", "(JJJJII)V"⟩, 5), (⟨"WideFractions", "storeRoot", "(JJII)V"⟩, 5), (⟨"WideFractions", "storeShiftedUp", "(JJII)Z"⟩, 5), (⟨"WideFractions", "storeShiftedDown", "(JJII)Z"⟩, 5), (⟨"WideFractions", "splitIntoParts", "(JJ)V"⟩, 5), (⟨"WideFractions", "takeLowestDigit", "()I"⟩, 5), (⟨"WideFractions", "partsAreZero", "()Z"⟩, 5), (⟨"WideFractionsModel", "copy", "(II)V"⟩, 7), (⟨"WideFractionsModel", "join", "(Z)Z"⟩, 7), (⟨"WideFractionsModel", "findProduct", "(II)V"⟩, 7), (⟨"WideFractionsModel", "take", "([ZII)V"⟩, 7), (⟨"WideFractionsModel", "clearRest", "()V"⟩, 7), (⟨"WideFractionsModel", "bring", "(Z)V"⟩, 7)]
theorem lw_r1 : ∀ q ∈ lw_privs_1, lw_okq q := List.forall_mem_cons.mpr ⟨lw_p0, List.forall_mem_cons.mpr ⟨lw_p1, List.forall_mem_cons.mpr ⟨lw_p2, List.forall_mem_cons.mpr ⟨lw_p3, List.forall_mem_cons.mpr ⟨lw_p4, List.forall_mem_cons.mpr ⟨lw_p5, List.forall_mem_cons.mpr ⟨lw_p6, List.forall_mem_cons.mpr ⟨lw_p7, List.forall_mem_cons.mpr ⟨lw_p8, List.forall_mem_cons.mpr ⟨lw_p9, List.forall_mem_cons.mpr ⟨lw_p10, List.forall_mem_cons.mpr ⟨lw_p11, List.forall_mem_cons.mpr ⟨lw_p12, List.forall_mem_cons.mpr ⟨lw_p13, List.forall_mem_cons.mpr ⟨lw_p14, List.forall_mem_cons.mpr ⟨lw_p15, fun _ h => absurd h List.not_mem_nil⟩⟩⟩⟩⟩⟩⟩⟩⟩⟩⟩⟩⟩⟩⟩⟩
theorem lw_p16 : lw_okq (⟨"WideFractionsModel", "takeAway", "(I)Z"⟩, 7) := ⟨⟨by decide +kernel, by decide +kernel⟩, List.mem_of_getElem? (i := 317) (by decide +kernel), List.mem_of_getElem? (i := 402) (by decide +kernel), List.mem_of_getElem? (i := 403) (by decide +kernel)⟩
theorem lw_p17 : lw_okq (⟨"WideFractionsModel", "lower", "(II)Z"⟩, 7) := ⟨⟨by decide +kernel, by decide +kernel⟩, List.mem_of_getElem? (i := 317) (by decide +kernel), List.mem_of_getElem? (i := 406) (by decide +kernel), List.mem_of_getElem? (i := 407) (by decide +kernel)⟩
theorem lw_p18 : lw_okq (⟨"WideFractionsModel", "move", "(IJI)Z"⟩, 7) := ⟨⟨by decide +kernel, by decide +kernel⟩, List.mem_of_getElem? (i := 317) (by decide +kernel), List.mem_of_getElem? (i := 418) (by decide +kernel), List.mem_of_getElem? (i := 419) (by decide +kernel)⟩
def lw_privs_2 : List (MethodName × Nat) := [(⟨"WideFractionsModel", "takeAway", "(I)Z"⟩, 7), (⟨"WideFractionsModel", "lower", "(II)Z"⟩, 7), (⟨"WideFractionsModel", "move", "(IJI)Z"⟩, 7)]
theorem lw_r2 : ∀ q ∈ lw_privs_2, lw_okq q := List.forall_mem_cons.mpr ⟨lw_p16, List.forall_mem_cons.mpr ⟨lw_p17, List.forall_mem_cons.mpr ⟨lw_p18, fun _ h => absurd h List.not_mem_nil⟩⟩⟩
def lw_privs : List (MethodName × Nat) := lw_privs_1 ++ (lw_privs_2)
def lw_tbl : List Cond := k2_sels lw_privs ++ tables_1
theorem lw_privs_ok : ∀ q ∈ lw_privs, lw_okq q := by
  show ∀ q ∈ lw_privs_1 ++ (lw_privs_2), lw_okq q
  exact List.forall_mem_append.mpr ⟨lw_r1, lw_r2⟩
end
section
/-! ===== numbers: the value of n bits; a number of 128 bits out of two longs (the first family is pasted from kit/laws/BITS) ===== -/
/-! ===== Int64 as an unsigned number: uN x ===== -/
def uN (x : Int64) : Nat := x.toUInt64.toNat
theorem uN_lt (x : Int64) : uN x < 18446744073709551616 := x.toUInt64.toNat_lt
theorem uN_inj {x y : Int64} (h : uN x = uN y) : x = y := congrArg UInt64.toInt64 (UInt64.toNat_inj.mp h)
theorem uN_add (x y : Int64) : uN (x + y) = (uN x + uN y) % 18446744073709551616 := by
  show (x.toUInt64 + y.toUInt64).toNat = _
  exact UInt64.toNat_add _ _
theorem uN_mul (x y : Int64) : uN (x * y) = (uN x * uN y) % 18446744073709551616 := by
  show (x.toUInt64 * y.toUInt64).toNat = _
  exact UInt64.toNat_mul _ _
theorem uN_shl (x : Int64) : uN (x <<< ((1 : Int32).toInt64 &&& 63)) = (2 * uN x) % 18446744073709551616 := by
  have h : (((1 : Int32).toInt64 &&& 63).toBitVec.smod 64).toNat = 1 := by decide
  show (x.toBitVec <<< (((1 : Int32).toInt64 &&& 63).toBitVec.smod 64).toNat).toNat = _
  rw [h, BitVec.toNat_shiftLeft, Nat.shiftLeft_eq, Nat.mul_comm]
  rfl
theorem uN_shr (x : Int64) (s : UInt64) : uN (x.toUInt64 >>> s).toInt64 = uN x / 2 ^ (s.toNat % 64) := by
  show (x.toUInt64 >>> s).toNat = _
  rw [UInt64.toNat_shiftRight, Nat.shiftRight_eq_div_pow]
  rfl
theorem uN_s32 (x : Int64) : uN (x.toUInt64 >>> ((32 : Int32).toInt64.toUInt64 &&& Int64.toUInt64 63)).toInt64 = uN x / 4294967296 := by
  have h : ((32 : Int32).toInt64.toUInt64 &&& Int64.toUInt64 63).toNat % 64 = 32 := by decide
  rw [uN_shr, h]
theorem uN_s63 (x : Int64) : uN (x.toUInt64 >>> ((63 : Int32).toInt64.toUInt64 &&& Int64.toUInt64 63)).toInt64 = uN x / 9223372036854775808 := by
  have h : ((63 : Int32).toInt64.toUInt64 &&& Int64.toUInt64 63).toNat % 64 = 63 := by decide
  rw [uN_shr, h]
theorem uN_lo (x : Int64) : uN (x &&& 4294967295) = uN x % 4294967296 := by
  show (x.toUInt64 &&& Int64.toUInt64 4294967295).toNat = _
  rw [UInt64.toNat_and]
  exact Nat.and_two_pow_sub_one_eq_mod _ 32
theorem uN_bit (x : Int64) : (x &&& 1) = 0 ↔ uN x % 2 = 0 := by
  have h : uN (x &&& 1) = uN x % 2 := by
    show (x.toUInt64 &&& Int64.toUInt64 1).toNat = _
    rw [UInt64.toNat_and]
    exact Nat.and_two_pow_sub_one_eq_mod _ 1
  rw [← h]
  exact ⟨fun z => by rw [z]; rfl, fun z => uN_inj (z.trans rfl)⟩
theorem uN_or {x y : Int64} (hy : uN y < 2) : uN ((x <<< ((1 : Int32).toInt64 &&& 63)) ||| y) = (2 * uN x) % 18446744073709551616 + uN y := by
  have h1 : uN ((x <<< ((1 : Int32).toInt64 &&& 63)) ||| y) = uN (x <<< ((1 : Int32).toInt64 &&& 63)) ||| uN y := UInt64.toNat_or _ _
  have h2 : (2 * uN x) % 18446744073709551616 = 2 ^ 1 * (uN x % 9223372036854775808) := by omega
  rw [h1, uN_shl, h2]
  exact (Nat.two_pow_add_eq_or_of_lt (i := 1) hy _).symm
theorem nat_xor {a : Nat} (h : a < 18446744073709551616) : a ^^^ 2 ^ 63 = (a + 9223372036854775808) % 18446744073709551616 := by
  have h1 : (a ^^^ 2 ^ 63) % 2 ^ 63 = a % 2 ^ 63 := by rw [Nat.xor_mod_two_pow, Nat.mod_self, Nat.xor_zero]
  have h2 : (a ^^^ 2 ^ 63) / 2 ^ 63 = (a / 2 ^ 63) ^^^ 1 := by rw [Nat.xor_div_two_pow, Nat.div_self (Nat.two_pow_pos 63)]
  have h3 : a / 2 ^ 63 = 0 ∨ a / 2 ^ 63 = 1 := by omega
  generalize a ^^^ 2 ^ 63 = t at h1 h2
  rcases h3 with h3 | h3
  · rw [h3] at h2
    have h2 : t / 2 ^ 63 = 1 := h2
    omega
  · rw [h3] at h2
    have h2 : t / 2 ^ 63 = 0 := h2
    omega
theorem uN_xor (x : Int64) : uN (x ^^^ (-9223372036854775808)) = (uN x + 9223372036854775808) % 18446744073709551616 := by
  rw [← nat_xor (uN_lt x)]
  exact UInt64.toNat_xor _ _
theorem uN_int (x : Int64) : x.toInt = if 2 * uN x < 18446744073709551616 then (uN x : Int) else (uN x : Int) - 18446744073709551616 := BitVec.toInt_eq_toNat_cond _
theorem uN_le (x y : Int64) : (x ^^^ (-9223372036854775808)) ≤ (y ^^^ (-9223372036854775808)) ↔ uN x ≤ uN y := by
  have hx := uN_lt x
  have hy := uN_lt y
  rw [Int64.le_iff_toInt_le, uN_int, uN_int, uN_xor, uN_xor]
  omega
theorem uN_sk (x : Int64) {k : Nat} (hk : k < 64) : uN (x.toUInt64 >>> ((nI k).toInt64.toUInt64 &&& Int64.toUInt64 63)).toInt64 = uN x / 2 ^ k := by
  have h : ((nI k).toInt64.toUInt64 &&& Int64.toUInt64 63).toNat % 64 = k := by
    rw [nI_l (by omega), UInt64.toNat_and]
    have e : (lN k).toUInt64.toNat = k % 2 ^ 64 := rfl
    have e2 : (Int64.toUInt64 63).toNat = 2 ^ 6 - 1 := by decide
    rw [e, e2, Nat.and_two_pow_sub_one_eq_mod]
    omega
  rw [uN_shr, h]
/-- the number that the bits f 0 .. f (n-1) write -/
def wf_sm (f : Nat → Bool) : Nat → Nat
  | 0 => 0
  | n + 1 => wf_sm f n + (f n).toNat * 2 ^ n
theorem wf_sm0 (f : Nat → Bool) : wf_sm f 0 = 0 := rfl
theorem wf_smS (f : Nat → Bool) (n : Nat) : wf_sm f (n + 1) = wf_sm f n + (f n).toNat * 2 ^ n := rfl
theorem wf_tn (b : Bool) : b.toNat ≤ 1 := by cases b <;> decide
theorem wf_sm_lt (f : Nat → Bool) (n : Nat) : wf_sm f n < 2 ^ n := by
  induction n with
  | zero => exact Nat.one_pos
  | succ n ih =>
    have h2 : (f n).toNat * 2 ^ n ≤ 1 * 2 ^ n := Nat.mul_le_mul_right _ (wf_tn _)
    rw [wf_smS, Nat.pow_succ]
    omega
theorem wf_sm_congr {f g : Nat → Bool} {n : Nat} (h : ∀ k, k < n → f k = g k) : wf_sm f n = wf_sm g n := by
  induction n with
  | zero => rfl
  | succ n ih => rw [wf_smS, wf_smS, ih (fun k hk => h k (Nat.lt_succ_of_lt hk)), h n (Nat.lt_succ_self n)]
theorem wf_sm_add (f : Nat → Bool) (m n : Nat) : wf_sm f (m + n) = wf_sm f m + 2 ^ m * wf_sm (fun k => f (m + k)) n := by
  induction n with
  | zero => rw [wf_sm0, Nat.mul_zero]; rfl
  | succ n ih =>
    have e : (f (m + n)).toNat * (2 ^ m * 2 ^ n) = 2 ^ m * ((f (m + n)).toNat * 2 ^ n) := Nat.mul_left_comm _ _ _
    rw [← Nat.add_assoc, wf_smS, wf_smS, ih, Nat.mul_add, Nat.pow_add, e, Nat.add_assoc]
theorem wf_sm_bit {f : Nat → Bool} {n k : Nat} (h : k < n) : wf_sm f n / 2 ^ k % 2 = (f k).toNat := by
  obtain ⟨r, rfl⟩ : ∃ r, n = (k + 1) + r := ⟨n - (k + 1), by omega⟩
  have hl := wf_sm_lt f k
  have hb := wf_tn (f k)
  rw [wf_sm_add, wf_smS]
  generalize wf_sm (fun j => f (k + 1 + j)) r = t
  have e : wf_sm f k + (f k).toNat * 2 ^ k + 2 ^ (k + 1) * t = wf_sm f k + ((f k).toNat + 2 * t) * 2 ^ k := by
    rw [Nat.add_mul, Nat.pow_succ, Nat.mul_assoc (2 ^ k) 2 t, Nat.mul_comm (2 ^ k) (2 * t), Nat.add_assoc]
  rw [e, Nat.add_mul_div_right _ _ (Nat.two_pow_pos k), Nat.div_eq_of_lt hl]
  omega
theorem wf_sm_tb (N n : Nat) : wf_sm (fun k => N.testBit k) n = N % 2 ^ n := by
  induction n with
  | zero => rw [wf_sm0, Nat.pow_zero, Nat.mod_one]
  | succ n ih => rw [wf_smS, ih, Nat.mod_pow_succ, Nat.toNat_testBit, Nat.mul_comm]
theorem wf_sm_inj {f g : Nat → Bool} {n : Nat} (h : wf_sm f n = wf_sm g n) {k : Nat} (hk : k < n) : f k = g k := by
  have h1 := wf_sm_bit (f := f) hk
  have h2 := wf_sm_bit (f := g) hk
  rw [h] at h1
  have h3 : (f k).toNat = (g k).toNat := h1.symm.trans h2
  cases hf : f k <;> cases hg : g k <;> rw [hf, hg] at h3 <;> first | rfl | cases h3
theorem wf_sm_z {n : Nat} : wf_sm (fun _ => false) n = 0 := by
  induction n with
  | zero => rfl
  | succ n ih => rw [wf_smS, ih]; simp
/-- one bit of the upper part, the rest below: sums read from the top -/
theorem wf_sm_top (f : Nat → Bool) (m k : Nat) (h : k < m) : wf_sm f m / 2 ^ k = 2 * (wf_sm f m / 2 ^ (k + 1)) + (f k).toNat := by
  have h1 := wf_sm_bit (f := f) h
  have h2 : wf_sm f m / 2 ^ (k + 1) = wf_sm f m / 2 ^ k / 2 := by rw [Nat.pow_succ, Nat.div_div_eq_div_mul]
  rw [h2]
  omega
/-- a long as 64 bits without a sign; two of them -/
abbrev wf_V (h l : Int64) : Nat := uN h * 18446744073709551616 + uN l
theorem wf_V_lt (h l : Int64) : wf_V h l < 340282366920938463463374607431768211456 := by
  have h1 := uN_lt h
  have h2 := uN_lt l
  unfold wf_V
  omega
theorem uN_sub (x y : Int64) : uN (x - y) = (uN x + 18446744073709551616 - uN y) % 18446744073709551616 := by
  have h1 := uN_lt x
  have h2 := uN_lt y
  have h3 : uN (x - y) = (18446744073709551616 - uN y + uN x) % 18446744073709551616 := by
    show (x.toUInt64 - y.toUInt64).toNat = _
    exact UInt64.toNat_sub _ _
  rw [h3]
  congr 1
  omega
theorem uN_ofNat (n : Nat) : uN (lN n) = n % 18446744073709551616 := by
  show (BitVec.ofNat 64 n).toNat = _
  rw [BitVec.toNat_ofNat]
theorem uN_eq0 {x : Int64} : x = 0 ↔ uN x = 0 := ⟨fun h => by rw [h]; rfl, fun h => uN_inj (h.trans rfl)⟩
/-- a sum that may pass 2^64, and the carry by comparison -/
theorem wf_carry {x y : Nat} (hx : x < 18446744073709551616) (hy : y < 18446744073709551616) : x + y = (x + y) % 18446744073709551616 + (if (x + y) % 18446744073709551616 < x then 1 else 0) * 18446744073709551616 := by
  split <;> omega
theorem wf_carry' {x y : Nat} (hx : x < 18446744073709551616) (hy : y < 18446744073709551616) : x + y = (x + y) % 18446744073709551616 + (if (x + y) % 18446744073709551616 < y then 1 else 0) * 18446744073709551616 := by
  split <;> omega
theorem wf_ring (a b c d M : Nat) : (a * M + b) * (c * M + d) = a * c * (M * M) + (a * d + b * c) * M + b * d := by
  have h1 : a * M * (c * M) = a * c * (M * M) := Nat.mul_mul_mul_comm a M c M
  have h2 : a * M * d = a * d * M := Nat.mul_right_comm a M d
  have h3 : b * (c * M) = b * c * M := (Nat.mul_assoc b c M).symm
  rw [Nat.add_mul, Nat.mul_add, Nat.mul_add, h1, h2, h3, Nat.add_mul]
  omega
theorem wf_le_mul {a b A B : Nat} (h1 : a ≤ A) (h2 : b ≤ B) : a * b ≤ A * B := Nat.mul_le_mul h1 h2
/-- the upper half of a product of two halves, by parts of 32 bits -/
theorem wf_over {a b c d : Nat} (ha : a < 4294967296) (hb : b < 4294967296) (hc : c < 4294967296) (hd : d < 4294967296) :
    a * d + b * d / 4294967296 < 18446744073709551616 ∧ b * c + (a * d + b * d / 4294967296) % 4294967296 < 18446744073709551616 ∧
    a * c + (a * d + b * d / 4294967296) / 4294967296 + (b * c + (a * d + b * d / 4294967296) % 4294967296) / 4294967296 = (a * 4294967296 + b) * (c * 4294967296 + d) / 18446744073709551616 := by
  have h1 : a * c ≤ 4294967295 * 4294967295 := wf_le_mul (by omega) (by omega)
  have h2 : a * d ≤ 4294967295 * 4294967295 := wf_le_mul (by omega) (by omega)
  have h3 : b * c ≤ 4294967295 * 4294967295 := wf_le_mul (by omega) (by omega)
  have h4 : b * d ≤ 4294967295 * 4294967295 := wf_le_mul (by omega) (by omega)
  rw [wf_ring, Nat.add_mul]
  generalize a * c = p at *
  generalize a * d = q at *
  generalize b * c = u at *
  generalize b * d = v at *
  refine ⟨by omega, by omega, by omega⟩
/-! ===== shifts, or, unsigned comparison ===== -/
theorem wf_flip (x : Int64) : (x + (-9223372036854775808)).toInt = (uN x : Int) - 9223372036854775808 := by
  have h1 := uN_lt x
  have h2 : uN (-9223372036854775808) = 9223372036854775808 := by decide
  rw [uN_int, uN_add, h2]
  omega
theorem wf_ult (x y : Int64) : x + (-9223372036854775808) < y + (-9223372036854775808) ↔ uN x < uN y := by
  rw [Int64.lt_iff_toInt_lt, wf_flip, wf_flip]
  omega
theorem wf_ueq (x y : Int64) : x + (-9223372036854775808) = y + (-9223372036854775808) ↔ uN x = uN y := by
  constructor
  · intro h
    have h1 := congrArg Int64.toInt h
    rw [wf_flip, wf_flip] at h1
    omega
  · intro h
    rw [uN_inj h]
theorem wf_cnt : ∀ k, k < 64 → (((nI k).toInt64 &&& 63).toBitVec.smod 64).toNat = k := by decide +kernel
theorem wf_shl (x : Int64) {k : Nat} (hk : k < 64) : uN (x <<< ((nI k).toInt64 &&& 63)) = uN x * 2 ^ k % 18446744073709551616 := by
  show (x.toBitVec <<< (((nI k).toInt64 &&& 63).toBitVec.smod 64).toNat).toNat = _
  rw [wf_cnt k hk, BitVec.toNat_shiftLeft, Nat.shiftLeft_eq]
  rfl
theorem uN_or' (x y : Int64) : uN (x ||| y) = uN x ||| uN y := UInt64.toNat_or _ _
theorem uN_and' (x y : Int64) : uN (x &&& y) = uN x &&& uN y := UInt64.toNat_and _ _
/-- an 'or' of parts that don't overlap -/
theorem wf_or {a b k : Nat} (h : b < 2 ^ k) : a * 2 ^ k ||| b = a * 2 ^ k + b := by
  rw [Nat.mul_comm]
  exact (Nat.two_pow_add_eq_or_of_lt h a).symm
theorem wf_modpow (x : Nat) {k : Nat} (hk : k ≤ 64) : x * 2 ^ k % 18446744073709551616 = (x % 2 ^ (64 - k)) * 2 ^ k := by
  have h : (18446744073709551616 : Nat) = 2 ^ (64 - k) * 2 ^ k := by rw [← Nat.pow_add, Nat.sub_add_cancel hk]
  rw [h, Nat.mul_mod_mul_right]
/-- x << k | (y >>> (64 - k)) -/
theorem wf_shlor {x y : Nat} (hy : y < 18446744073709551616) {k : Nat} (hk : k ≤ 64) : x * 2 ^ k % 18446744073709551616 ||| y / 2 ^ (64 - k) = x * 2 ^ k % 18446744073709551616 + y / 2 ^ (64 - k) := by
  rw [wf_modpow x hk]
  refine wf_or ?_
  have h : (18446744073709551616 : Nat) = 2 ^ k * 2 ^ (64 - k) := by rw [← Nat.pow_add, Nat.add_comm, Nat.sub_add_cancel hk]
  rw [h] at hy
  exact (Nat.div_lt_iff_lt_mul (Nat.two_pow_pos _)).mpr hy
/-! ===== rows of the bits ===== -/
theorem wf_up_at {α : Type} (F : Nat → α) (k : Nat) (b : α) : va_up F k b k = b := va_up_self F k b
theorem wf_sm_push (F : Nat → Bool) (s n : Nat) (b : Bool) : wf_sm (fun i => va_up F (s + n) b (s + i)) (n + 1) = wf_sm (fun i => F (s + i)) n + b.toNat * 2 ^ n := by
  rw [wf_smS, va_up_self]
  congr 1
  exact wf_sm_congr (fun k hk => va_up_ne F b (by omega))
theorem wf_sm_skip (F : Nat → Bool) {s n j : Nat} (b : Bool) (h : j < s ∨ s + n ≤ j) : wf_sm (fun i => va_up F j b (s + i)) n = wf_sm (fun i => F (s + i)) n :=
  wf_sm_congr (fun k hk => va_up_ne F b (by omega))
/-- a full adder; a full subtracter -/
theorem wf_fa (a b c : Bool) : ((a != b) != c).toNat + 2 * (a && b || a && c || b && c).toNat = a.toNat + b.toNat + c.toNat := by cases a <;> cases b <;> cases c <;> decide
theorem wf_fs (a b c : Bool) : ((a != b) != c).toNat + b.toNat + c.toNat = a.toNat + 2 * (!a && (b || c) || b && c).toNat := by cases a <;> cases b <;> cases c <;> decide
theorem wf_add_step {S X Y P : Nat} {a b c d e : Bool} (h : S + c.toNat * P = X + Y) (hd : d.toNat + 2 * e.toNat = a.toNat + b.toNat + c.toNat) : S + d.toNat * P + e.toNat * (P * 2) = X + a.toNat * P + (Y + b.toNat * P) := by
  revert hd h
  cases a <;> cases b <;> cases c <;> cases d <;> cases e <;> simp only [Bool.toNat_false, Bool.toNat_true] <;> intros <;> omega
theorem wf_sub_step {S X Y P : Nat} {a b c d e : Bool} (h : S + Y = X + c.toNat * P) (hd : d.toNat + b.toNat + c.toNat = a.toNat + 2 * e.toNat) : S + d.toNat * P + (Y + b.toNat * P) = X + a.toNat * P + e.toNat * (P * 2) := by
  revert hd h
  cases a <;> cases b <;> cases c <;> cases d <;> cases e <;> simp only [Bool.toNat_false, Bool.toNat_true] <;> intros <;> omega
/-- the number of a register -/
def wf_R (B : Nat → Bool) (r : Nat) : Nat := wf_sm (fun k => B (128 * r + k)) 128
theorem wf_R_lt (B : Nat → Bool) (r : Nat) : wf_R B r < 340282366920938463463374607431768211456 := wf_sm_lt _ 128
end
section
/-! ===== a method that ends in an exception, nothing old changed; catching it; methods with a handler table ===== -/
/-- the end: threw x, an object of the class E that is new; every old cell as it was -/
def wx_End (E : String) (st : State) (o : Outcome) (t : State) (mc ms : Nat) : Prop :=
  ∃ x : Addr, o = .threw x ∧ st.WarmedH t.vm ∧ st.sameButNew ({ t with vm := st.vm } : State) [] mc ms ∧ st.heap.size ≤ x ∧ ∃ ce : Cell, t.heap[x]? = some ce ∧ ce.vm = .none ∧ st.vm.findClass E = some ce.cls
/-- the contract of a method that throws an E -/
def wx_Met (l : Launch) (y : MethodName) (ws : List Cond) (rm : Room) (Pc : Array Value → State → Prop) (E : String) (mc ms : Nat) : Prop :=
  MetFree l y (headSpec ws rm) Pc (fun _ _ _ _ _ => True) (fun _ st o t => wx_End E st o t mc ms)
/-- what the walk of such a method comes to -/
def wx_Q (below : List Frame) (E : String) (s : State) (mc ms : Nat) : State → Prop := fun t => ∃ o, t.status = .running ∧ Ended t below o ∧ wx_End E s o t mc ms
/-- a frame with no written slot: every old cell is as it was -/
theorem wx_keep {s t : State} {k n : Nat} (h : s.sameButNew t [] k n) : ∀ q : Nat, q < s.heap.size → t.heap[q]? = s.heap[q]? := by
  intro q hq
  obtain ⟨cell, hc⟩ : ∃ cell, s.heap[q]? = some cell := ⟨_, Array.getElem?_eq_getElem hq⟩
  obtain ⟨c', h1, h2, h3, h4⟩ := h.2.2.2.2.2 q cell hc
  have h5 : c'.slots = cell.slots := Array.ext_getElem? (fun i => h4 i List.not_mem_nil)
  rw [h1, hc, h2, h5]
theorem wx_ofW {l : Launch} {y : MethodName} {ws ws' : List Cond} {rm : Room} {Pc : Array Value → State → Prop} {E : String} {mc ms : Nat} {cc : ByteArray} {maxL : Nat} {ret : Option FieldType}
    (hy : plainName y.cls = true) (hw : ws = Cond.code y cc maxL ret :: ws')
    (body : ∀ p e s m args below meth c s₁, BodyLoose p l y (headSpec ws rm) cc maxL ret e s m args below meth c s₁ → c.maxLocals = maxL → Pc args s →
      W p l e (headSpec ws rm).room s m args below meth c s.heap [] 0 0 (wx_Q below E s mc ms) (entryFrame m args maxL)) : wx_Met l y ws rm Pc E mc ms := by
  refine MetFree.of_bodyS (code := cc) (maxLocals := maxL) (ret := ret) hy (fun args s m h hn => ?_) (fun p e s m args below meth c s₁ B hml hP _ => ?_)
  · obtain ⟨meth, c, h1, h2, h3, h4, h5, h6, -, -⟩ := Cond.code_spec hn (atoms_spec (ws := ws) h _ (by rw [hw]; exact List.mem_cons_self))
    exact ⟨meth, c, h1, h2, h3, h4, h5, h6⟩
  · obtain ⟨t, a1, o, b1, b2, b3⟩ := body p e s m args below meth c s₁ B hml hP s₁ (by rw [B.state]; rfl) (Stand.of_body B)
    exact ⟨t, o, a1, b1, b2, b3⟩
/-- a contract of a method with handlers: its walk knows the table -/
theorem wx_ofWH {l : Launch} {y : MethodName} {ws ws' : List Cond} {rm : Room} {Pc : Array Value → State → Prop} {Qc : Array Value → State → Outcome → State → Prop} {mc ms : Nat} {free : Addr → Prop} {cc : ByteArray} {maxL : Nat} {ret : Option FieldType} {hs : List (Nat × Nat × Nat × Nat)}
    (hy : plainName y.cls = true) (hw : ws = Cond.codeWith y cc maxL ret hs :: ws')
    (body : ∀ p e s m args below meth c s₁, BodyLoose p l y (headSpec ws rm) cc maxL ret e s m args below meth c s₁ → c.maxLocals = maxL → c.exceptionTable.toList = tableOf hs → Pc args s →
      W p l e (headSpec ws rm).room s m args below meth c s.heap [] 0 0 (MQ below Qc args s mc ms free) (entryFrame m args maxL)) : Met l y ws rm Pc Qc mc ms free := by
  have hcw : ∀ (args : Array Value) (s : State), (headSpec ws rm).pre.before args s = true → (Cond.codeWith y cc maxL ret hs).before args s = true := fun args s h => atoms_spec (ws := ws) h _ (by rw [hw]; exact List.mem_cons_self)
  refine MetFree.of_bodyS (code := cc) (maxLocals := maxL) (ret := ret) hy (fun args s m h hn => ?_) (fun p e s m args below meth c s₁ B hml hP _ => ?_)
  · obtain ⟨m', meth, c, hn', h1, h2, h3, h4, -, h5, h6, -⟩ := Cond.codeWith_spec (hcw args s h)
    cases hn.symm.trans hn'
    exact ⟨meth, c, h1, h2, h3, h4, h5, h6⟩
  · obtain ⟨m', meth', c', hn', h1, h2, -, -, htab, -, -, -⟩ := Cond.codeWith_spec (hcw args s B.pre)
    cases B.named.symm.trans hn'
    cases B.method.symm.trans h1
    cases (Stand.of_body B).code.symm.trans h2
    obtain ⟨t, a1, o, b1, b2, b3⟩ := body p e s m args below meth c s₁ B hml (by rw [← htab, table_eq]) hP s₁ (by rw [B.state]; rfl) (Stand.of_body B)
    exact ⟨t, o, a1, b1, b2, b3⟩
section WXA
variable {p : Program} {l : Launch} {e : Env} {R : Room} {s : State} {m : MethodId} {args : Array Value} {below : List Frame} {meth : Method} {c : Code} {T : State} {locs : List Loc} {cells slots : Nat}
/-- no handlers: the word 'code' says so -/
theorem wx_noh {y : MethodName} {S : Spec} {cc : ByteArray} {maxL : Nat} {ret : Option FieldType} {s₁ : State} (B : BodyLoose p l y S cc maxL ret e s m args below meth c s₁) (h : (Cond.code y cc maxL ret).before args s = true) : c.exceptionTable.toList = [] := by
  have h0 := B.noHandlers h
  have h1 : c.exceptionTable.size = 0 := by simpa [Array.isEmpty] using h0
  exact List.eq_nil_of_length_eq_zero (by simpa using h1)
/-- entering a method that throws: the walk stands again, the note over its own frame -/
theorem wx_enter {y : MethodName} {ws : List Cond} {rm : Room} {Pc : Array Value → State → Prop} {E : String} {mc ms maxL : Nat} {bytes : ByteArray} {ret : Option FieldType}
    (hM : wx_Met l y ws rm Pc E mc ms) (hbl : FrameBlind Pc) (hrc : rm.cells = mc) (hrs : rm.slots = ms) (hfr : rm.frames + 1 ≤ R.frames) (hlo : 8 + (maxL + 11) + rm.locals ≤ R.locals)
    (hws : ∀ w ∈ ws, ∀ (a' : Array Value) (U : State), s.WarmedH U.vm → w.before a' U = true) (hcode : Cond.code y bytes maxL ret ∈ ws) (hini : (Cond.initialized y.cls).before args s = true)
    (X : Stand p l e R s m args below meth c T locs cells slots) {g : JFrame} (hg : g.method = m) (hsize : g.locals.size = c.maxLocals) {ig : Instr} {len : Nat} (hdg : decode c.code g.pc = .ok (ig, len))
    (hW : 2 * g.monitorRoom + (g.stack.map fun v => v.category).sum ≤ 8) {mk : MethodId} (hn : T.methodNamed? y = some mk) {a : Array Value} (hPc : Pc a T) (hce : cells + mc ≤ R.cells) (hsl : slots + ms ≤ R.slots) :
    ∃ (x : Addr) (T' : State) (ce : Cell), Stand p l e R s m args below meth c T' locs (cells + mc) (slots + ms) ∧ T.sameButNew (T'.setVm T.vm) [] mc ms ∧ T.heap.size ≤ x ∧ T'.heap[x]? = some ce ∧ ce.vm = .none ∧ T.vm.findClass E = some ce.cls ∧
      Steps p.tables e below (doInvoke e (T.setTop g) [] mk a).1 ((T'.setTop g).pushFrame (.throwing x)) := by
  have h1 : (headSpec ws rm).pre.before a T = true := atoms_intro fun w hw => hws w hw _ _ X.warmed
  have h2 : (Cond.code y bytes maxL ret).before a T = true := hws _ hcode _ _ X.warmed
  have h3 : (Cond.initialized y.cls).before a T = true := word_at X.warmed (Or.inl (by first | rfl | simp [Cond.onTables, Cond.keeps, Cond.steady])) hini
  obtain ⟨methY, cY, hmY, hcY, -, hlY, -, -, -, -⟩ := Cond.code_spec hn h2
  obtain ⟨kY, hkY, -⟩ := className_of_methodNamed hn
  have hinitY : kY.init = .initialized := Cond.initialized_spec (findClass_of_methodNamed hn) hkY h3
  have h : At T g.method c below := by rw [hg]; exact X.here
  have happ : (headSpec ws rm).appliesLoose y e.platform (T.calling g mk a) = true :=
    Spec.appliesLoose_calling (g := g) h hdg hn hkY hinitY
      (X.room_calling (g := g) (R' := (headSpec ws rm).room) hsize hmY hcY hfr (by rw [hlY]; show _ + (maxL + 11) + rm.locals ≤ _; omega) (by show cells + rm.cells ≤ _; omega) (by show slots + rm.slots ≤ _; omega)) h1
  have hfr' : (T.setTop g).frames = .java g :: below := by rw [State.frames_setTop' g h.top, X.tail]
  obtain ⟨o, s₂, hsteps, -, hend, x, rfl, hW₂, hsame, hx, ce, hce1, hcv, hcc⟩ := Steps.callFree hM p X.admits X.cas X.clock (acts := []) (mid := [.java g]) (below := below) (by rw [hfr']; rfl) happ (hbl _ _ _ _ hPc) trivial
  rw [hfr'] at hend
  obtain ⟨T', X', -, hs', rfl⟩ := X.outOfThrown hg (mk := mk) (a := a) hend hW₂ hsame
  refine ⟨x, T', ce, by simpa using X', hs', hx, ?_, hcv, hcc, hsteps⟩
  rw [← hce1, Stand.throwing_heap]
/-- the search of a handler, one row that covers the place and names a class that links -/
theorem wx_one {S : State} {Q : Handler → Pre} {E : CtlPost} {d : Bool} {acts : List Action} {f : JFrame} {a : Addr} {y : ExceptionTableEntry} {t : List ExceptionTableEntry} {k : ClassId} {ce : Cell} (hy : covers y f.pc = true) (h0 : y.catchType ≠ 0)
    (hl : S.vm.ClassLinks e.platform f.method.cls y.catchType k) (hcell : S.heap[a]? = some ce) (hv : ce.vm = .none) (hk1 : ∃ z, S.vm.classes[ce.cls]? = some z) (hk2 : ∃ z, S.vm.classes[k]? = some z) :
    (S.vm.assignable ce.cls k = true → (wp (findHandler.go f a (y :: t)) Q E e d acts S ↔ Q (.found y.handlerPc) d acts (S.setVm (S.vm.noted f.method.cls y.catchType (.cls k))))) ∧
    (S.vm.assignable ce.cls k = false → (wp (findHandler.go f a (y :: t)) Q E e d acts S ↔ wp (findHandler.go f a t) Q E e d acts (S.setVm (S.vm.noted f.method.cls y.catchType (.cls k))))) := by
  simp only [covers] at hy
  have hobj : ∀ z, ce.vm ≠ .statics z := fun z => by rw [hv]; intro h; cases h
  obtain ⟨u1, u2⟩ := (resolveClass_links e.toSetting hl).op (op := VmOp.resolveClass f.method.cls y.catchType) rfl
  have hal : S.vm.Alike (S.vm.noted f.method.cls y.catchType (.cls k)) := (Vm.Alike.refl S.vm).noted _ _ _
  obtain ⟨z1, hz1⟩ := hk1
  obtain ⟨z2, hz2⟩ := hk2
  obtain ⟨w1, hw1, -⟩ := hal.2.2 _ _ hz1
  obtain ⟨w2, hw2, -⟩ := hal.2.2 _ _ hz2
  refine ⟨fun hb => ?_, fun hb => ?_⟩
  · have hb' : (S.vm.noted f.method.cls y.catchType (.cls k)).assignable ce.cls k = true := by rw [hal.assignable]; exact hb
    simp [findHandler.go, hy, h0, u1, u2, hcell, hobj, hw1, hw2, hb', VmOp.dirties, VmOp.acts]
  · have hb' : (S.vm.noted f.method.cls y.catchType (.cls k)).assignable ce.cls k = false := by rw [hal.assignable]; exact hb
    simp [findHandler.go, hy, h0, u1, u2, hcell, hobj, hw1, hw2, hb', VmOp.dirties, VmOp.acts]
/-- the search through rows that cover the place but take other classes, to the row that takes this one -/
theorem wx_find {f : JFrame} {a : Addr} {ce : Cell} (hv : ce.vm = .none) (hke : ∃ z, s.vm.classes[ce.cls]? = some z) (x : ExceptionTableEntry) (suf : List ExceptionTableEntry) (hx : covers x f.pc = true) (hx0 : x.catchType ≠ 0)
    {k : ClassId} (hxl : s.vm.ClassLinks e.platform f.method.cls x.catchType k) (hxa : s.vm.assignable ce.cls k = true) (pre : List ExceptionTableEntry) :
    ∀ S : State, s.WarmedH S.vm → S.heap[a]? = some ce →
      (∀ y ∈ pre, covers y f.pc = true ∧ y.catchType ≠ 0 ∧ ∃ k' : ClassId, s.vm.ClassLinks e.platform f.method.cls y.catchType k' ∧ s.vm.assignable ce.cls k' = false) →
      ∃ vm' : Vm, s.WarmedH vm' ∧ ∀ (Q : Handler → Pre) (E : CtlPost) (d : Bool) (acts : List Action), wp (findHandler.go f a (pre ++ x :: suf)) Q E e d acts S ↔ Q (.found x.handlerPc) d acts (S.setVm vm') := by
  have here : ∀ (S : State) (k' : ClassId) (y : ExceptionTableEntry), s.WarmedH S.vm → s.vm.ClassLinks e.platform f.method.cls y.catchType k' →
      s.WarmedH (S.vm.noted f.method.cls y.catchType (.cls k')) ∧ S.vm.ClassLinks e.platform f.method.cls y.catchType k' ∧ (∃ z, S.vm.classes[ce.cls]? = some z) ∧ (∃ z, S.vm.classes[k']? = some z) := by
    intro S k' y hW hl
    obtain ⟨dk, _, _, kt, hd, _, _, _, _, hkt, _, hopen⟩ := hl.here
    obtain ⟨z0, hz0⟩ := hke
    obtain ⟨z1, hz1, -⟩ := hW.alike.2.2 _ _ hz0
    obtain ⟨z2, hz2, -⟩ := hW.alike.2.2 _ _ hkt
    exact ⟨hW.noted hd hopen (State.rightAt_cls hl), hW.classLinks hl, ⟨z1, hz1⟩, ⟨z2, hz2⟩⟩
  induction pre with
  | nil =>
    intro S hW hcell _
    obtain ⟨g1, g2, g3, g4⟩ := here S k x hW hxl
    exact ⟨_, g1, fun Q E d acts => (wx_one hx hx0 g2 hcell hv g3 g4).1 (by rw [hW.alike.assignable]; exact hxa)⟩
  | cons y ys ih =>
    intro S hW hcell hp
    obtain ⟨c1, c2, k', c3, c4⟩ := hp y List.mem_cons_self
    obtain ⟨g1, g2, g3, g4⟩ := here S k' y hW c3
    obtain ⟨vm', hW', hq⟩ := ih (S.setVm (S.vm.noted f.method.cls y.catchType (.cls k'))) g1 hcell (fun z hz => hp z (List.mem_cons_of_mem _ hz))
    refine ⟨vm', hW', fun Q E d acts => ?_⟩
    rw [List.cons_append, (wx_one (t := ys ++ x :: suf) c1 c2 g2 hcell hv g3 g4).2 (by rw [hW.alike.assignable]; exact c4)]
    exact hq Q E d acts
/-- from the note to the handler -/
theorem wx_caught (X : Stand p l e R s m args below meth c T locs cells slots) (a : Addr) {g : JFrame} (hg : g.method = m) {ce : Cell} (hcell : T.heap[a]? = some ce) (hv : ce.vm = .none) (hke : ∃ z, s.vm.classes[ce.cls]? = some z)
    (pre : List ExceptionTableEntry) (x : ExceptionTableEntry) (suf : List ExceptionTableEntry) (hsplit : c.exceptionTable.toList = pre ++ x :: suf)
    (hp : ∀ y ∈ pre, covers y g.pc = true ∧ y.catchType ≠ 0 ∧ ∃ k' : ClassId, s.vm.ClassLinks e.platform m.cls y.catchType k' ∧ s.vm.assignable ce.cls k' = false) (hx : covers x g.pc = true) (hx0 : x.catchType ≠ 0)
    {k : ClassId} (hxl : s.vm.ClassLinks e.platform m.cls x.catchType k) (hxa : s.vm.assignable ce.cls k = true) :
    ∃ vm' : Vm, Stand p l e R s m args below meth c (T.setVm vm') locs cells slots ∧
      ∀ tg, Steps p.tables e below ((T.setVm vm').setTop { g with pc := x.handlerPc, stack := [.ref a] }) tg → Steps p.tables e below ((T.setTop g).pushFrame (.throwing a)) tg := by
  subst hg
  obtain ⟨vm', hW', hq⟩ := wx_find (e := e) (s := s) (f := g) (a := a) hv hke x suf hx hx0 hxl hxa pre ((T.setTop g).pushFrame (.throwing a)) (by rw [Stand.throwing_vm]; exact X.warmed) (by rw [Stand.throwing_heap]; exact hcell) hp
  refine ⟨vm', X.noted hW', fun tg hrest => ?_⟩
  obtain ⟨hgo, hw⟩ := X.here.throwing a
  refine Steps.head hgo hw ?_
  have hfind : ∀ (Q : Handler → Pre) (E : CtlPost) (d : Bool) (acts : List Action), wp (findHandler g a) Q E e d acts ((T.setTop g).pushFrame (.throwing a)) ↔ Q (.found x.handlerPc) d acts (((T.setTop g).pushFrame (.throwing a)).setVm vm') := fun Q E d acts => by
    rw [W.findHandler_eq (meth := meth) (code := c) (by rw [Stand.throwing_vm]; exact X.method') X.code, hsplit]
    exact hq Q E d acts
  obtain ⟨g₀, hr⟩ := X.frames_eq
  have hstep : ∀ r : List Frame, (stepThrowing e ((T.setTop g).pushFrame (.throwing a)) a (.java g :: r)).1 = ((((T.setTop g).pushFrame (.throwing a)).setVm vm').setFrames (.java { g with pc := x.handlerPc, stack := [.ref a] } :: r)) := by
    intro r
    simp only [stepThrowing, searchFrame, vmDo]
    generalize hres : Sem.go _ e false [] ((T.setTop g).pushFrame (.throwing a)) = res
    obtain ⟨as, rfl, ha⟩ := Sem.eq_ok_of hres (a := Handler.found x.handlerPc) (s' := ((T.setTop g).pushFrame (.throwing a)).setVm vm') (acts' := []) (by simp [hfind _ _ _ _])
    rfl
  rw [stepThread_throwing (frames_entered X.here.top _), hstep, hr, List.tail_cons]
  have hr' : (T.setVm vm').frames = .java g₀ :: below := hr
  rw [State.setTop_of_frames _ hr'] at hrest
  have hv2 : ((T.setTop g).pushFrame (.throwing a)).setVm vm' = ((T.setVm vm').setTop g).pushFrame (.throwing a) := by
    rw [State.pushFrame, State.pushFrame, State.frames_setTop _ hr, State.frames_setTop _ hr', State.setTop_of_frames _ hr, State.setTop_of_frames _ hr']
    rfl
  rw [hv2, State.pushFrame, State.setFrames_setFrames, State.setTop_of_frames _ hr', State.setFrames_setFrames]
  exact hrest
end WXA
end
section
section WXB
variable {p : Program} {l : Launch} {e : Env} {R : Room} {s : State} {m : MethodId} {args : Array Value} {below : List Frame} {meth : Method} {c : Code} {H : Heap} {locs : List Loc} {cells slots : Nat} {Q : State → Prop}
variable {cc : ByteArray} {pc nL : Nat} {ls : Array Slot} {rest : List Value}
set_option maxHeartbeats 1000000 in
/-- new E; dup; ldc "text"; invokespecial E.<init>(String); athrow, in a method without handlers -/
theorem wx_throw (hx : p.tables.exec = Jvm.exec) (hb : c.code = cc) (hml : c.maxLocals = nL) (hl : l.stackTraces = false)
    {own E text : String} {names : List String} {ik ic ix : Nat} (hown : s.vm.findClass own = some m.cls) (hfE : Bundle.fit E = true) (hfn : ∀ n ∈ names, Bundle.fit n = true)
    (hat : ∀ w ∈ Bundle.ownAtoms own ic E names, w.before args s = true)
    (hcl : (Cond.classLink own ik E).before args s = true) (hini : (Cond.initialized E).before args s = true) (hstr : (Cond.stringRef own ix text).before args s = true)
    (hsz : ls.size = nL) (hex : c.exceptionTable.toList = []) (hlocks : meth.locks = false)
    (d0 : decode cc pc = .ok (.new ik, 3)) (d3 : decode cc (pc + 3) = .ok (.dup, 1)) (d4 : decode cc (pc + 3 + 1) = .ok (.ldc ix, 2)) (d6 : decode cc (pc + 3 + 1 + 2) = .ok (.invokespecial ic, 3)) (d9 : decode cc (pc + 3 + 1 + 2 + 3) = .ok (.athrow, 1))
    (hRf : names.length + 3 < R.frames) (hRl : (rest.map fun v => v.category).sum + 13 * names.length + 60 ≤ R.locals) (hRc : 1 ≤ R.cells) (hRs : 6 ≤ R.slots) :
    W p l e R s m args below meth c s.heap [] 0 0 (wx_Q below E s 1 6) (F0 m pc ls rest) := by
  have hins : (Cond.instantiable E 6).before args s = true := hat _ (by simp [Bundle.ownAtoms])
  obtain ⟨cE, kE, hcE, -⟩ := Cond.instantiable_spec hins
  obtain ⟨str, hev⟩ : ∃ a : Addr, (Term.string own ix).eval args s none [] s = some (.ref a) := by
    obtain ⟨_, _, _, a', _, _, _, _, _, h⟩ := Cond.stringRef_spec hown hstr
    exact ⟨a', h⟩
  refine W.newcK hx hb hown hcl hins hini (g := F0 m pc ls rest) rfl d0 (by omega) (by omega) hcE rfl fun H1 kC hkC e1 z1 o1 => ?_
  refine W.eq (g2 := F0 m (pc + 3) ls (.ref s.heap.size :: rest)) rfl ?_
  refine lv_dup hx hb d3 rfl ?_
  intro T hT X
  have htr : e.platform.stackTraces = false := by
    have h : e.platform.stackTraces = l.stackTraces := by rw [X.admits.platform]
    rw [h, hl]
  obtain ⟨U, st, hrun, hend, hW, hsame, ce, hce, hO⟩ := X.ctorThrowS hx htr hown hfE hfn hat (fun x h => by cases h) hcE hkC (a := s.heap.size) (by rw [hT]; exact e1) (Nat.le_refl _) (msg := .ref str) rfl
    (g := F0 m (pc + 3 + 1 + 2) ls (.ref str :: .ref s.heap.size :: .ref s.heap.size :: rest)) rfl (hsz.trans hml.symm) rfl rfl (rest := rest) rfl (by rw [hb]; exact d6) (by rw [hb]; exact d9) (by rw [hex]; intro z hz; cases hz)
    hRf (by show 2 * 0 + (1 + (rest.map fun v => v.category).sum) + _ ≤ _; omega) hlocks
  have st0 := X.ldcString hx hown hstr hev (g := F0 m (pc + 3 + 1) ls (.ref s.heap.size :: .ref s.heap.size :: rest)) rfl (by rw [hb]; exact d4)
  exact ⟨U, st0 _ st, .threw s.heap.size, hrun, hend, s.heap.size, rfl, hW, by simpa using hsame, Nat.le_refl _, ce, hce, hO.vm, hO.cls⟩
variable {Ts ws ws' : List Cond} {bytes : ByteArray} {maxL index n mc ms : Nat} {own C E : String} {y : MethodName} {ret : Option FieldType} {rm : Room} {Pc : Array Value → State → Prop} {Qc : Array Value → State → Outcome → State → Prop} {free : Addr → Prop} {b : Addr} {As : List Value}
/-- a static call that throws, in a method without handlers -/
theorem wx_outS (S : CallFix p m c cc nL s args Ts own) (hM : wx_Met l y ws rm Pc E mc ms) (cw : CallB R s args own index y bytes maxL ret ws rm mc ms n ∧ (Cond.static y).before args s = true) (hp : PreS s s.heap Pc As)
    (hn : As.length = n) (hsz : ls.size = nL) {st0 : List Value} (hst : st0 = As.reverse ++ rest) (hW : (rest.map fun v => v.category).sum ≤ 8) (hdg : decode cc pc = .ok (.invokestatic index, 3)) (hf : mc ≤ R.cells ∧ ms ≤ R.slots) (hex : c.exceptionTable.toList = []) (hlocks : meth.locks = false) :
    W p l e R s m args below meth c s.heap [] 0 0 (wx_Q below E s mc ms) (F0 m pc ls st0) := by
  obtain ⟨⟨hrc, hrs, hfr, hlo, hws, hcw, hcode, hini, hy, hlen, hli⟩, hstt⟩ := cw
  obtain ⟨hx, hb, hml, ho, -⟩ := S
  intro T hT X
  obtain ⟨mk, hnamed⟩ := Cond.code_named hcode
  obtain ⟨methM, cM, hmethM, -, -, -, -, -, -, hsigM⟩ := Cond.code_spec hnamed hcode
  have hstatic : methM.isStatic = true := Cond.static_spec hnamed hmethM hstt
  obtain ⟨kP, hkP, -⟩ := className_of_methodNamed hnamed
  have hinitP : kP.init = .initialized := Cond.initialized_spec (findClass_of_methodNamed hnamed) hkP hini
  obtain ⟨vm₁, X₁, hstep₁⟩ := X.invokestatic hx ho hli hnamed hmethM hstatic hkP hinitP hy (g := F0 m pc ls st0) rfl (argsL := As) (rest := rest) (hn.trans (hlen _ hsigM)) hst (by rw [hb]; exact hdg)
  obtain ⟨x, T', ce, X', hs', hx9, hce, hcv, hcc, st⟩ := wx_enter (bytes := bytes) (maxL := maxL) (ret := ret) hM hp.1 hrc hrs hfr hlo hws hcw hini X₁ (g := F0 m pc ls rest) rfl (hsz.trans hml.symm) (by rw [hb]; exact hdg) (lv_room hW) (X₁.named hnamed) (hp.2 (T.setVm vm₁) hT X₁.warmed) (by omega) (by omega)
  obtain ⟨w1, w2, w3, w4, w5⟩ := X'.leaveThrown x (g := F0 m pc ls rest) rfl rfl rfl (by rw [hex]; intro z hz; cases hz) hlocks
  refine ⟨_, hstep₁ _ (fun acts => by rw [doInvoke_state]; exact st.trans w1), .threw x, w2, w3, x, rfl, w4, by simpa using w5, ?_, ce, hce, hcv, ?_⟩
  · have h : T.heap.size ≤ x := hx9
    rw [hT] at h
    exact h
  · rw [← X₁.warmed.alike.findClass]
    exact hcc
/-- a virtual call that throws, caught by the row x of the method's own table -/
theorem wx_catchV (S : CallFix p m c cc nL s args Ts own) (hM : wx_Met l y ws rm Pc E mc ms) (cw : CallW R s args own C index y bytes maxL ret ws rm mc ms n) (hp : PreV s H C b Pc As)
    (hn : As.length = n) (hsz : ls.size = nL) {st0 : List Value} (hst : st0 = As.reverse ++ .ref b :: rest) (hW : (rest.map fun v => v.category).sum ≤ 8) (hdg : decode cc pc = .ok (.invokevirtual index, 3)) (hf : cells + mc ≤ R.cells ∧ slots + ms ≤ R.slots)
    (pre : List ExceptionTableEntry) (x : ExceptionTableEntry) (suf : List ExceptionTableEntry) (htab : c.exceptionTable.toList = pre ++ x :: suf)
    (hpre : ∀ z ∈ pre, covers z pc = true ∧ z.catchType ≠ 0 ∧ ∃ nm : String, (Cond.classLink own z.catchType nm).before args s = true ∧ va_Nc E nm s) (hx1 : covers x pc = true) (hx0 : x.catchType ≠ 0) (hlink : (Cond.classLink own x.catchType E).before args s = true)
    (kk : ∀ (q : Nat) (H1 : Heap), H.size ≤ H1.size → (∀ z : Nat, z < H.size → H1[z]? = H[z]?) → W p l e R s m args below meth c H1 locs (cells + mc) (slots + ms) Q (F0 m x.handlerPc ls [.ref q])) :
    W p l e R s m args below meth c H locs cells slots Q (F0 m pc ls st0) := by
  obtain ⟨⟨hrc, hrs, hfr, hlo, hws, hcw, hcode, hini, hy, hlen, hli⟩, hinst, hsel⟩ := cw
  obtain ⟨hx, hb, hml, ho, -⟩ := S
  obtain ⟨hbl, ⟨cellB, hcB, hoB, hclB⟩, hPc⟩ := hp
  intro T hT X
  have hpl : e.platform.magicAccessors = ({} : Platform).magicAccessors := by rw [X.admits.platform]
  obtain ⟨mk, methM, hnamed, hmethM, hstM, habM⟩ := Cond.instanceMethod_spec hinst
  obtain ⟨methM', cM, hmethM', -, -, -, -, -, -, hsigM⟩ := Cond.code_spec hnamed hcode
  cases hmethM.symm.trans hmethM'
  obtain ⟨c2, r2, m2, q1, q2, q3, q4, kP, hkP, hkPi⟩ := Cond.selects_spec hsel
  cases hclB.symm.trans q1
  cases (State.methodFound?_of_named hnamed hy).symm.trans q2
  cases hnamed.symm.trans q3
  have hselP : selectMethod e.platform s.vm cellB.cls mk = .method mk := by rw [Launch.admits_selectMethod X.admits]; exact q4
  obtain ⟨vm₁, X₁, hstep₁⟩ := X.invokevirtual hx ho hli hnamed hmethM hstM hkP hkPi hy (a := b) (cell := cellB) (by rw [hT]; exact hcB)
    (fun z h => by rw [h] at hoB; cases hoB) hselP hmethM habM hkP hkPi (g := F0 m pc ls st0) rfl (argsL := As) (rest := rest) (hn.trans (hlen _ hsigM)) hst (by rw [hb]; exact hdg)
  obtain ⟨q, T', ce, X', hs', hx9, hce, hcv, hcc, st⟩ := wx_enter (bytes := bytes) (maxL := maxL) (ret := ret) hM hbl hrc hrs hfr hlo hws hcw hini X₁ (g := F0 m pc ls rest) rfl (hsz.trans hml.symm) (by rw [hb]; exact hdg) (lv_room hW) (X₁.named hnamed) (hPc (T.setVm vm₁) hT X₁.warmed) hf.1 hf.2
  have hcE : s.vm.findClass E = some ce.cls := by
    rw [← X₁.warmed.alike.findClass]
    exact hcc
  obtain ⟨kE, hkE, -⟩ := Vm.findClass_spec hcE
  obtain ⟨c5, hc5, hl5⟩ := Cond.classLink_spec ho hlink e.platform hpl
  cases hcE.symm.trans hc5
  obtain ⟨vm₂, X₂, st2⟩ := wx_caught X' q (g := F0 m pc ls rest) rfl hce hcv ⟨kE, hkE⟩ pre x suf htab (fun z hz => by
    obtain ⟨h1, h2, nm, h3, a8, b8, h4, h5, h6⟩ := hpre z hz
    obtain ⟨c6, hc6, hl6⟩ := Cond.classLink_spec ho h3 e.platform hpl
    cases h4.symm.trans hcE
    cases h5.symm.trans hc6
    exact ⟨h1, h2, _, hl6, h6⟩) hx1 hx0 hl5 (va_asg _ _)
  have hkeep := wx_keep hs'
  have hTs : T.heap.size ≤ T'.heap.size := hs'.2.1
  obtain ⟨t, a1, b1⟩ := kk q T'.heap (by rw [← hT]; exact hTs) (fun z hz => by
    rw [← hT] at hz ⊢
    exact hkeep z hz) (T'.setVm vm₂) rfl X₂
  exact ⟨t, hstep₁ _ (fun acts => by rw [doInvoke_state]; exact st.trans (st2 _ a1)), b1⟩
/-- a static call of a method with handlers -/
theorem wx_runSH {hs : List (Nat × Nat × Nat × Nat)} (S : CallFix p m c cc nL s args Ts own) (hM : Met l y ws rm Pc Qc mc ms free) (hG : GoodIn Ts (wsS own index y ws)) (hw : ws = Cond.codeWith y bytes maxL ret hs :: ws') (hrc : rm.cells = mc) (hrs : rm.slots = ms)
    (hd : y.cls = own ∧ y.cls ≠ "java/lang/invoke/MethodHandle" ∧ y.cls ≠ "java/lang/invoke/VarHandle" ∧ (parseMethodDescriptor y.desc).map (fun d => d.parameters.length) = some n) (hR : rm.frames + 1 ≤ R.frames ∧ 8 + (maxL + 11) + rm.locals ≤ R.locals) (hp : PreS s H Pc As)
    (hn : As.length = n) (hsz : ls.size = nL) {st0 : List Value} (hst : st0 = As.reverse ++ rest) (hW : (rest.map fun v => v.category).sum ≤ 8) (hdg : decode cc pc = .ok (.invokestatic index, 3)) (hf : cells + mc ≤ R.cells ∧ slots + ms ≤ R.slots) :
    va_Run p l e R s m args below meth c H locs cells slots mc ms (F0 m pc ls st0) rest (Qc As.toArray) free := by
  obtain ⟨hx, hb, hml, ho, ht⟩ := S
  obtain ⟨hC, hy1, hy2, hd⟩ := hd
  have ok : ∀ w ∈ wsS own index y ws, w.before args s = true := fun w h => ht w (hG w h).1
  have hGw : GoodIn Ts ws := fun w h => hG w (by unfold wsS; exact List.mem_append_right _ h)
  have hws := pay_in ht hGw
  have hcm : Cond.codeWith y bytes maxL ret hs ∈ ws := by rw [hw]; exact List.mem_cons_self
  have hini : (Cond.initialized y.cls).before args s = true := by rw [hC]; exact ok _ (by simp [wsS])
  intro T hT X
  obtain ⟨mk, methM, cM, hnamed, hmethM, hcM, -, hlM, -, -, -, hsigM⟩ := Cond.codeWith_spec (ht _ (hGw _ hcm).1)
  have hstatic : methM.isStatic = true := Cond.static_spec hnamed hmethM (ok _ (by simp [wsS]))
  obtain ⟨kP, hkP, -⟩ := className_of_methodNamed hnamed
  have hinitP : kP.init = .initialized := Cond.initialized_spec (findClass_of_methodNamed hnamed) hkP hini
  have hlen : As.length = methM.sig.parameters.length := by
    rw [hsigM] at hd
    exact hn.trans (Option.some.inj hd).symm
  obtain ⟨vm₁, X₁, hstep₁⟩ := X.invokestatic hx ho (ok (Cond.methodLink own index y) (by simp [wsS])) hnamed hmethM hstatic hkP hinitP ⟨hy1, hy2⟩ (g := F0 m pc ls st0) rfl (argsL := As) (rest := rest) hlen hst (by rw [hb]; exact hdg)
  have h1 : (headSpec ws rm).pre.before As.toArray (T.setVm vm₁) = true := atoms_intro fun w hw => hws w hw _ _ X₁.warmed
  have hn1 : (T.setVm vm₁).methodNamed? y = some mk := X₁.named hnamed
  obtain ⟨kY, hkY, -⟩ := className_of_methodNamed hn1
  have hinitY : kY.init = .initialized := Cond.initialized_spec (findClass_of_methodNamed hn1) hkY (word_at (args := args) (a' := As.toArray) X₁.warmed (Or.inl (by first | rfl | simp [Cond.onTables, Cond.keeps, Cond.steady])) hini)
  have hmY : (T.setVm vm₁).vm.method? mk = some methM := by rw [X₁.warmed.alike.method?]; exact hmethM
  have hdg' : decode c.code (F0 m pc ls rest).pc = .ok (.invokestatic index, 3) := by rw [hb]; exact hdg
  have happ : (headSpec ws rm).appliesLoose y e.platform ((T.setVm vm₁).calling (F0 m pc ls rest) mk As.toArray) = true :=
    Spec.appliesLoose_calling (g := F0 m pc ls rest) X₁.here hdg' hn1 hkY hinitY
      (X₁.room_calling (g := F0 m pc ls rest) (R' := (headSpec ws rm).room) (hsz.trans hml.symm) hmY hcM hR.1 (by rw [hlM]; have := lv_room (m := m) (pc := pc) (ls := ls) (rest := rest) hW; show 2 * (F0 m pc ls rest).monitorRoom + (rest.map fun v => v.category).sum + (maxL + 11) + rm.locals ≤ _; omega) (by show cells + rm.cells ≤ _; omega) (by show slots + rm.slots ≤ _; omega)) h1
  have hfr' : ((T.setVm vm₁).setTop (F0 m pc ls rest)).frames = .java (F0 m pc ls rest) :: below := by rw [State.frames_setTop' _ X₁.here.top, X₁.tail]
  obtain ⟨o, s₂, hsteps, -, hend, hq, L, ⟨⟨v, rfl⟩, hW₂, hsame⟩, hL⟩ := Steps.callFree hM p X₁.admits X₁.cas X₁.clock (acts := []) (mid := [.java (F0 m pc ls rest)]) (below := below) (by rw [hfr']; rfl) happ (hp.1 _ _ _ _ (hp.2 (T.setVm vm₁) hT X₁.warmed)) trivial
  rw [hfr'] at hend
  obtain ⟨T', X', -, -, he⟩ := X₁.outOf (g := F0 m pc ls rest) rfl hdg' (mk := mk) (a := As.toArray) hend hW₂ hsame
  refine ⟨v, (T.setVm vm₁).calling (F0 m pc ls rest) mk As.toArray, s₂, T', L, hT, X', hL, ?_, ?_, hq, fun tg h => hstep₁ _ (fun acts => by rw [doInvoke_state]; exact (hsteps.trans (by rw [he]; exact h)))⟩
  · rw [he]; rfl
  · rw [he]; rfl
end WXB
end
section
/-! ===== the frame of every walk: the good words, the start of a contract, calls over the same world ===== -/
/-- every word of the tables that a contract may rest on -/
def wG : List Cond := lw_tbl.filter goodWord
theorem wG_in {w : Cond} (h : w ∈ lw_tbl) (hg : goodWord w = true) : w ∈ wG := List.mem_filter.mpr ⟨h, hg⟩
theorem wG_tbl {w : Cond} (h : w ∈ wG) : w ∈ lw_tbl := (List.mem_filter.mp h).1
theorem wG_good {w : Cond} (h : w ∈ wG) : (w.onTables && w.keeps) = true ∨ ∃ ty, w = .arrayClass ty := good_of_word (List.mem_filter.mp h).2
theorem wG_sub {big ws : List Cond} (hb : ∀ w ∈ wG, w ∈ big) (h : ∀ w ∈ ws, w ∈ wG) : GoodIn big ws := fun w hw => ⟨hb w (h w hw), wG_good (h w hw)⟩
theorem wG_cons {c : Cond} (h : c ∈ wG) : ∀ w ∈ c :: wG, w ∈ wG := fun w hw => by
  rcases List.mem_cons.mp hw with rfl | hw
  · exact h
  · exact hw
theorem wG_V {big : List Cond} (hb : ∀ w ∈ wG, w ∈ big) {own C : String} {idx n : Nat} {y : MethodName} {b : ByteArray} {r : Option FieldType} (h1 : Cond.methodLink own idx y ∈ wG) (h2 : Cond.instanceMethod y ∈ wG) (h3 : Cond.selects C y y ∈ wG) (h4 : Cond.initialized C ∈ wG) (h5 : Cond.code y b n r ∈ wG) : GoodIn big (wsV own idx C y (.code y b n r :: wG)) :=
  wG_sub hb (fun w hw => by
    rcases List.mem_append.mp hw with h | h
    · simp only [List.mem_cons, List.not_mem_nil, or_false] at h
      rcases h with rfl | rfl | rfl | rfl
      · exact h1
      · exact h2
      · exact h3
      · exact h4
    · exact wG_cons h5 w h)
theorem wG_S {big : List Cond} (hb : ∀ w ∈ wG, w ∈ big) {own : String} {idx n : Nat} {y : MethodName} {b : ByteArray} {r : Option FieldType} (h1 : Cond.methodLink own idx y ∈ wG) (h2 : Cond.static y ∈ wG) (h3 : Cond.initialized y.cls ∈ wG) (h5 : Cond.code y b n r ∈ wG) : GoodIn big (va_wsS own idx y (.code y b n r :: wG)) :=
  wG_sub hb (fun w hw => by
    rcases List.mem_append.mp hw with h | h
    · simp only [List.mem_cons, List.not_mem_nil, or_false] at h
      rcases h with rfl | rfl | rfl
      · exact h1
      · exact h2
      · exact h3
    · exact wG_cons h5 w h)
theorem wG_SH {big : List Cond} (hb : ∀ w ∈ wG, w ∈ big) {own : String} {idx n : Nat} {y : MethodName} {b : ByteArray} {r : Option FieldType} {hs : List (Nat × Nat × Nat × Nat)} (h1 : Cond.methodLink own idx y ∈ wG) (h2 : Cond.static y ∈ wG) (h3 : Cond.initialized own ∈ wG) (h5 : Cond.codeWith y b n r hs ∈ wG) : GoodIn big (wsS own idx y (.codeWith y b n r hs :: wG)) :=
  wG_sub hb (fun w hw => by
    rcases List.mem_append.mp hw with h | h
    · simp only [List.mem_cons, List.not_mem_nil, or_false] at h
      rcases h with rfl | rfl | rfl
      · exact h1
      · exact h2
      · exact h3
    · exact wG_cons h5 w h)
/-- the room of a method that calls at most k deep -/
abbrev wf_rm (f loc mc ms : Nat) : Room := { frames := f, cells := mc, slots := ms, locals := loc }
/-- a start: the world w, nothing else known -/
def wf_Pc (D : va_G) (cl : List vw_C) (w : va_W) (tys : List (ClassId × FieldType)) (av : List Value) (sz : Nat) : Array Value → State → Prop :=
  va_Pc av (fun U => U.heap.size = sz ∧ va_P D cl w U.heap ∧ va_K D cl tys U ∧ va_D (fun _ => True) w)
theorem wf_blind {D : va_G} {cl : List vw_C} {w : va_W} {tys : List (ClassId × FieldType)} {av : List Value} {sz : Nat} : FrameBlind (wf_Pc D cl w tys av sz) := fun a U g mk q => by
  obtain ⟨q0, q1, qP, qK, qD⟩ := q
  exact ⟨q0, q1, qP, va_K.moved (u := U) (U := U.calling g mk a) (Vm.Alike.refl U.vm) qK, qD⟩
theorem wf_pre {D : va_G} {cl : List vw_C} {w : va_W} {tys : List (ClassId × FieldType)} {av : List Value} {s : State} {H : Heap} {A : Nat → Prop} (hP : va_P D cl w H) (hK : va_K D cl tys s) (hD : va_D A w) : ∀ U : State, U.heap = H → s.WarmedH U.vm → wf_Pc D cl w tys av H.size av.toArray U :=
  fun U hU hW => ⟨rfl, by rw [hU], by rw [hU]; exact hP, va_K.moved hW.alike hK, hD.weaken (fun _ _ _ _ => trivial)⟩
/-- an end: the world of u -/
def wf_B {S : Type} (D : va_G) (cl : List vw_C) (mk : S → va_W) (tys : List (ClassId × FieldType)) (A : Nat → Prop) : S → State → Prop := fun u t => va_P D cl (mk u) t.heap ∧ va_K D cl tys t ∧ va_D A (mk u)
theorem wf_free {A : Nat → Prop} {w : va_W} {H0 H : Heap} {locs : List Loc} (hD : va_D A w) (hS : va_S A H0 H locs) (hA : ∀ q, H0.size ≤ q → A q) : ∀ q, va_A w H.size q → A q := by
  intro q h
  rcases h with ⟨k, e, h⟩ | h
  · exact hD.2 k _ h
  · exact hA q (Nat.le_trans hS.1 h)
theorem wf_one_ne {x y : Int32} (h : x = y) : y = x := h.symm
section WFO
variable {l : Launch} {y : MethodName} {ws' : List Cond} {rm : Room} {D : va_G} {cl : List vw_C} {w : va_W} {tys : List (ClassId × FieldType)} {av : List Value} {sz : Nat} {Qc : Array Value → State → Outcome → State → Prop} {mc ms : Nat} {free : Addr → Prop} {cc : ByteArray} {maxL : Nat} {ret : Option FieldType}
/-- a contract over a world, by its walk -/
theorem wf_open (hy : plainName y.cls = true) (hle : (lg_sl av).length ≤ maxL) (hc : Cond.code y cc maxL ret ∈ wG)
    (body : ∀ (p : Program) (e : Env) (s : State) (m : MethodId) (below : List Frame) (meth : Method) (c : Code) (ls : Array Slot), s.heap.size = sz → CallFix p m c cc maxL s av.toArray wG y.cls → meth.sig.returnType = ret → meth.locks = false → meth.name = y.name → c.exceptionTable.toList = [] →
      va_P D cl w s.heap → va_K D cl tys s → va_D (va_A w s.heap.size) w → lv_has ls maxL (lv_args 0 av) →
      W p l e rm s m av.toArray below meth c s.heap [] 0 0 (MQ below Qc av.toArray s mc ms free) (F0 m 0 ls [])) :
    Met l y (Cond.code y cc maxL ret :: wG) rm (wf_Pc D cl w tys av sz) Qc mc ms free := by
  refine Met.ofW (cc := cc) (maxL := maxL) (ret := ret) hy rfl ?_
  intro p e s m args below meth c s₁ B hml hv
  obtain ⟨rfl, hsz, hP, hK, hD0⟩ := hv
  have hts := atoms_spec (ws := Cond.code y cc maxL ret :: wG) B.pre
  rw [lg_entry_eq]
  exact body p e s m below meth c _ hsz ⟨B.exec, B.bytes, hml, findClass_of_methodNamed B.named, fun w hw => hts w (List.mem_cons_of_mem _ hw)⟩ B.returns B.notSynchronized (name_of_methodNamed B.named B.method).1 (wx_noh B (hts _ List.mem_cons_self)) hP hK (hD0.self (sz := s.heap.size)) (lv_entry av hle)
/-- a contract of a static method that looks at nothing but its arguments -/
theorem wf_openS (hy : plainName y.cls = true) (hle : (lg_sl av).length ≤ maxL)
    (body : ∀ (p : Program) (e : Env) (s : State) (m : MethodId) (below : List Frame) (meth : Method) (c : Code) (ls : Array Slot), CallFix p m c cc maxL s av.toArray wG y.cls → meth.sig.returnType = ret → meth.locks = false → lv_has ls maxL (lv_args 0 av) →
      W p l e rm s m av.toArray below meth c s.heap [] 0 0 (MQ below Qc av.toArray s mc ms free) (F0 m 0 ls [])) :
    Met l y (Cond.code y cc maxL ret :: wG) rm (fun v _ => v = av.toArray) Qc mc ms free := by
  refine Met.ofW (cc := cc) (maxL := maxL) (ret := ret) hy rfl ?_
  intro p e s m args below meth c s₁ B hml hv
  have hv : args = av.toArray := hv
  subst hv
  have hts := atoms_spec (ws := Cond.code y cc maxL ret :: wG) B.pre
  rw [lg_entry_eq]
  exact body p e s m below meth c _ ⟨B.exec, B.bytes, hml, findClass_of_methodNamed B.named, fun w hw => hts w (List.mem_cons_of_mem _ hw)⟩ B.returns B.notSynchronized (lv_entry av hle)
end WFO
section WFC
variable {p : Program} {l : Launch} {e : Env} {R : Room} {s : State} {m : MethodId} {args : Array Value} {below : List Frame} {meth : Method} {c : Code} {H : Heap} {locs : List Loc} {cells slots : Nat} {Q : State → Prop}
variable {cc : ByteArray} {pc nL : Nat} {ls : Array Slot} {rest : List Value} {D : va_G} {cl : List vw_C} {A : Nat → Prop} {tys : List (ClassId × FieldType)} {w0 : va_W} {H0 : Heap} {mc ms : Nat} {a : Array Value} {st0 : List Value}  {own : String}
/-- behind a call over the whole world -/
theorem wf_cv {S : Type} {post : S → Prop} {mk : S → va_W} {free : Addr → Prop} (hr : va_Run p l e R s m args below meth c H locs cells slots mc ms (F0 m pc ls st0) rest (va_Qv post (wf_B D cl mk tys (va_A w0 H.size)) (va_A w0 H.size) a) free) (hfr : ∀ q, free q → va_A w0 H.size q) (hS : va_S A H0 H locs) (hD : va_D A w0) (hA : ∀ q, H0.size ≤ q → A q)
    (kk : ∀ (u : S) (H1 : Heap) (locs1 : List Loc), post u → va_P D cl (mk u) H1 → va_D A (mk u) → va_S A H0 H1 locs1 → W p l e R s m args below meth c H1 locs1 (cells + mc) (slots + ms) Q (F0 m (pc + 3) ls rest)) : W p l e R s m args below meth c H locs cells slots Q (F0 m pc ls st0) := by
  have hF := wf_free hD hS hA
  refine va_callv hr hS (fun q _ h => hF q h) (fun q h => hF q (hfr q h)) (fun u t H1 locs1 ht hvm hp hB hz1 hk1 hS1 => ?_)
  obtain ⟨hP1, -, hD1⟩ := hB
  rw [ht] at hP1
  exact kk u H1 locs1 hp hP1 (hD1.weaken (fun k q _ h => hF q.1 h)) hS1
theorem wf_ci {S : Type} {post : Int32 → S → Prop} {mk : S → va_W} {free : Addr → Prop} (hr : va_Run p l e R s m args below meth c H locs cells slots mc ms (F0 m pc ls st0) rest (va_Qi post (wf_B D cl mk tys (va_A w0 H.size)) (va_A w0 H.size) a) free) (hfr : ∀ q, free q → va_A w0 H.size q) (hS : va_S A H0 H locs) (hD : va_D A w0) (hA : ∀ q, H0.size ≤ q → A q)
    (kk : ∀ (r : Int32) (u : S) (H1 : Heap) (locs1 : List Loc), post r u → va_P D cl (mk u) H1 → va_D A (mk u) → va_S A H0 H1 locs1 → W p l e R s m args below meth c H1 locs1 (cells + mc) (slots + ms) Q (F0 m (pc + 3) ls (.int r :: rest))) : W p l e R s m args below meth c H locs cells slots Q (F0 m pc ls st0) := by
  have hF := wf_free hD hS hA
  refine va_calli hr hS (fun q _ h => hF q h) (fun q h => hF q (hfr q h)) (fun r u t H1 locs1 ht hvm hp hB hz1 hk1 hS1 => ?_)
  obtain ⟨hP1, -, hD1⟩ := hB
  rw [ht] at hP1
  exact kk r u H1 locs1 hp hP1 (hD1.weaken (fun k q _ h => hF q.1 h)) hS1
theorem wf_cl {S : Type} {post : Int64 → S → Prop} {mk : S → va_W} {free : Addr → Prop} (hr : va_Run p l e R s m args below meth c H locs cells slots mc ms (F0 m pc ls st0) rest (va_Ql post (wf_B D cl mk tys (va_A w0 H.size)) (va_A w0 H.size) a) free) (hfr : ∀ q, free q → va_A w0 H.size q) (hS : va_S A H0 H locs) (hD : va_D A w0) (hA : ∀ q, H0.size ≤ q → A q)
    (kk : ∀ (r : Int64) (u : S) (H1 : Heap) (locs1 : List Loc), post r u → va_P D cl (mk u) H1 → va_D A (mk u) → va_S A H0 H1 locs1 → W p l e R s m args below meth c H1 locs1 (cells + mc) (slots + ms) Q (F0 m (pc + 3) ls (.long r :: rest))) : W p l e R s m args below meth c H locs cells slots Q (F0 m pc ls st0) := by
  have hF := wf_free hD hS hA
  refine va_calll hr hS (fun q _ h => hF q h) (fun q h => hF q (hfr q h)) (fun r u t H1 locs1 ht hvm hp hB hz1 hk1 hS1 => ?_)
  obtain ⟨hP1, -, hD1⟩ := hB
  rw [ht] at hP1
  exact kk r u H1 locs1 hp hP1 (hD1.weaken (fun k q _ h => hF q.1 h)) hS1
/-- ends over the world -/
theorem wf_retv {S : Type} {post : S → Prop} {mk : S → va_W} {free : Addr → Prop} {A0 : Nat → Prop} (C : CallFix p m c cc nL s args wG own) (hr : meth.sig.returnType = none) (hlocks : meth.locks = false) (u : S) (hp : post u) (hP : va_P D cl (mk u) H) (hK : va_K D cl tys s) (hD : va_D A0 (mk u)) (hS : va_S A0 s.heap H locs) (hf : ∀ q, A0 q → free q) (hdg : decode cc pc = .ok (.return_, 1)) :
    W p l e R s m args below meth c H locs cells slots (MQ below (va_Qv post (wf_B D cl mk tys A0) A0) args s cells slots free) (F0 m pc ls []) :=
  W.vret C.1 C.2.1 hr (fun t ht hW => ⟨⟨u, rfl, hp, by rw [ht]; exact hP, va_K.moved hW.alike hK, hD⟩, hS.F ht⟩) (fun q h => hf _ (hS.2.2 q h)) hdg hlocks
theorem wf_reti {S : Type} {post : Int32 → S → Prop} {mk : S → va_W} {free : Addr → Prop} {A0 : Nat → Prop} {v : Int32} (C : CallFix p m c cc nL s args wG own) (hr : meth.sig.returnType = some .int) (hlocks : meth.locks = false) (u : S) (hp : post v u) (hP : va_P D cl (mk u) H) (hK : va_K D cl tys s) (hD : va_D A0 (mk u)) (hS : va_S A0 s.heap H locs) (hf : ∀ q, A0 q → free q) (hdg : decode cc pc = .ok (.ireturn, 1)) :
    W p l e R s m args below meth c H locs cells slots (MQ below (va_Qi post (wf_B D cl mk tys A0) A0) args s cells slots free) (F0 m pc ls [.int v]) :=
  W.iret C.1 C.2.1 hr (fun t ht hW => ⟨⟨v, u, rfl, hp, by rw [ht]; exact hP, va_K.moved hW.alike hK, hD⟩, hS.F ht⟩) (fun q h => hf _ (hS.2.2 q h)) hdg hlocks
theorem wf_retz {S : Type} {post : Int32 → S → Prop} {mk : S → va_W} {free : Addr → Prop} {A0 : Nat → Prop} {v : Int32} (C : CallFix p m c cc nL s args wG own) (hr : meth.sig.returnType = some .boolean) (hn : narrow .boolean (.int v) = .int v) (hlocks : meth.locks = false) (u : S) (hp : post v u) (hP : va_P D cl (mk u) H) (hK : va_K D cl tys s) (hD : va_D A0 (mk u)) (hS : va_S A0 s.heap H locs) (hf : ∀ q, A0 q → free q) (hdg : decode cc pc = .ok (.ireturn, 1)) :
    W p l e R s m args below meth c H locs cells slots (MQ below (va_Qi post (wf_B D cl mk tys A0) A0) args s cells slots free) (F0 m pc ls [.int v]) :=
  W.zret C.1 C.2.1 hr hn (fun t ht hW => ⟨⟨v, u, rfl, hp, by rw [ht]; exact hP, va_K.moved hW.alike hK, hD⟩, hS.F ht⟩) (fun q h => hf _ (hS.2.2 q h)) hdg hlocks
theorem wf_retl {S : Type} {post : Int64 → S → Prop} {mk : S → va_W} {free : Addr → Prop} {A0 : Nat → Prop} {v : Int64} (C : CallFix p m c cc nL s args wG own) (hr : meth.sig.returnType = some .long) (hlocks : meth.locks = false) (u : S) (hp : post v u) (hP : va_P D cl (mk u) H) (hK : va_K D cl tys s) (hD : va_D A0 (mk u)) (hS : va_S A0 s.heap H locs) (hf : ∀ q, A0 q → free q) (hdg : decode cc pc = .ok (.lreturn, 1)) :
    W p l e R s m args below meth c H locs cells slots (MQ below (va_Ql post (wf_B D cl mk tys A0) A0) args s cells slots free) (F0 m pc ls [.long v]) :=
  W.lret C.1 C.2.1 hr (fun t ht hW => ⟨⟨v, u, rfl, hp, by rw [ht]; exact hP, va_K.moved hW.alike hK, hD⟩, hS.F ht⟩) (fun q h => hf _ (hS.2.2 q h)) hdg hlocks
/-! array rows with the index as a natural number -/
variable {ws : va_W} {q : Nat}
theorem wf_lald (C : CallFix p m c cc nL s args wG own) (hK : va_K D cl tys s) (hP : va_P D cl ws H) (q0 t0 : Nat) {cA : ClassId} {n k : Nat} {f : Nat → Int64} (ha : ws[q0]? = some (q, .inl (cA, n, .inr (.inl f)))) (ht : tys[t0]? = some (cA, .long)) {i : Int32} (hi : i = nI k) (hk : k < n) (hn : n < 2 ^ 31) (hdg : decode cc pc = .ok (.laload, 1))
    (kk : W p l e R s m args below meth c H locs cells slots Q (F0 m (pc + 1) ls (.long (f k) :: rest))) : W p l e R s m args below meth c H locs cells slots Q (F0 m pc ls (.int i :: .ref q :: rest)) := by
  subst hi
  refine va_lald C.1 C.2.1 hK hP q0 t0 ha ht (vp_in_nI hk hn) hdg ?_
  rw [nI_clamp (by omega)]
  exact kk
theorem wf_iald (C : CallFix p m c cc nL s args wG own) (hK : va_K D cl tys s) (hP : va_P D cl ws H) (q0 t0 : Nat) {cA : ClassId} {n k : Nat} {f : Nat → Int32} (ha : ws[q0]? = some (q, .inl (cA, n, .inl f))) (ht : tys[t0]? = some (cA, .int)) {i : Int32} (hi : i = nI k) (hk : k < n) (hn : n < 2 ^ 31) (hdg : decode cc pc = .ok (.iaload, 1))
    (kk : W p l e R s m args below meth c H locs cells slots Q (F0 m (pc + 1) ls (.int (f k) :: rest))) : W p l e R s m args below meth c H locs cells slots Q (F0 m pc ls (.int i :: .ref q :: rest)) := by
  subst hi
  refine va_iald C.1 C.2.1 hK hP q0 t0 ha ht (vp_in_nI hk hn) hdg ?_
  rw [nI_clamp (by omega)]
  exact kk
theorem wf_last (C : CallFix p m c cc nL s args wG own) (hK : va_K D cl tys s) (hP : va_P D cl ws H) (hD : va_D A ws) (hS : va_S A H0 H locs) (q0 t0 : Nat) {cA : ClassId} {n k : Nat} {f : Nat → Int64} (ha : ws[q0]? = some (q, .inl (cA, n, .inr (.inl f)))) (ht : tys[t0]? = some (cA, .long)) {i : Int32} {x : Int64} (hi : i = nI k) (hk : k < n) (hn : n < 2 ^ 31) (hdg : decode cc pc = .ok (.lastore, 1))
    (kk : ∀ (H1 : Heap) (locs1 : List Loc), va_P D cl (ws.set q0 (q, .inl (cA, n, .inr (.inl (va_up f k x))))) H1 → va_D A (ws.set q0 (q, .inl (cA, n, .inr (.inl (va_up f k x))))) → va_S A H0 H1 locs1 → W p l e R s m args below meth c H1 locs1 cells slots Q (F0 m (pc + 1) ls rest)) : W p l e R s m args below meth c H locs cells slots Q (F0 m pc ls (.long x :: .int i :: .ref q :: rest)) := by
  subst hi
  refine va_last C.1 C.2.1 hK hP hD hS q0 t0 ha ht (vp_in_nI hk hn) hdg (fun H1 locs1 h1 h2 h3 => ?_)
  rw [nI_clamp (by omega)] at h1 h2
  exact kk H1 locs1 h1 h2 h3
theorem wf_iast (C : CallFix p m c cc nL s args wG own) (hK : va_K D cl tys s) (hP : va_P D cl ws H) (hD : va_D A ws) (hS : va_S A H0 H locs) (q0 t0 : Nat) {cA : ClassId} {n k : Nat} {f : Nat → Int32} (ha : ws[q0]? = some (q, .inl (cA, n, .inl f))) (ht : tys[t0]? = some (cA, .int)) {i : Int32} {x : Int32} (hi : i = nI k) (hk : k < n) (hn : n < 2 ^ 31) (hdg : decode cc pc = .ok (.iastore, 1))
    (kk : ∀ (H1 : Heap) (locs1 : List Loc), va_P D cl (ws.set q0 (q, .inl (cA, n, .inl (va_up f k x)))) H1 → va_D A (ws.set q0 (q, .inl (cA, n, .inl (va_up f k x)))) → va_S A H0 H1 locs1 → W p l e R s m args below meth c H1 locs1 cells slots Q (F0 m (pc + 1) ls rest)) : W p l e R s m args below meth c H locs cells slots Q (F0 m pc ls (.int x :: .int i :: .ref q :: rest)) := by
  subst hi
  refine va_iast C.1 C.2.1 hK hP hD hS q0 t0 ha ht (vp_in_nI hk hn) hdg (fun H1 locs1 h1 h2 h3 => ?_)
  rw [nI_clamp (by omega)] at h1 h2
  exact kk H1 locs1 h1 h2 h3
end WFC
/-- a boolean as the machine has it -/
def wf_bi (b : Bool) : Int32 := if b then 1 else 0
theorem wf_bi0 (b : Bool) : wf_bi b = 0 ↔ b = false := by cases b <;> decide
theorem wf_bi1 (b : Bool) : ¬ wf_bi b = 0 ↔ b = true := by cases b <;> decide
theorem wf_bi_nar (b : Bool) : vp_nar .boolean (wf_bi b) = wf_bi b := by cases b <;> rfl
theorem wf_bi_ret (b : Bool) : narrow .boolean (.int (wf_bi b)) = .int (wf_bi b) := by cases b <;> rfl
theorem wf_bi_up (B : Nat → Bool) (k : Nat) (b : Bool) : upd (fun j => wf_bi (B j)) k (wf_bi b) = fun j => wf_bi (va_up B k b j) := by
  funext j
  unfold upd va_up
  split <;> rfl
section WFZ
variable {p : Program} {l : Launch} {e : Env} {R : Room} {s : State} {m : MethodId} {args : Array Value} {below : List Frame} {meth : Method} {c : Code} {H : Heap} {locs : List Loc} {cells slots : Nat} {Q : State → Prop}
variable {cc : ByteArray} {pc nL : Nat} {ls : Array Slot} {rest : List Value} {D : va_G} {cl : List vw_C} {A : Nat → Prop} {tys : List (ClassId × FieldType)} {H0 : Heap} {ws : va_W} {q : Nat} {own : String}
theorem wf_zald (C : CallFix p m c cc nL s args wG own) (hK : va_K D cl tys s) (hP : va_P D cl ws H) (q0 t0 : Nat) {cA : ClassId} {n k : Nat} {B : Nat → Bool} (ha : ws[q0]? = some (q, .inl (cA, n, .inl (fun j => wf_bi (B j))))) (ht : tys[t0]? = some (cA, .boolean)) {i : Int32} (hi : i = nI k) (hk : k < n) (hn : n < 2 ^ 31) (hdg : decode cc pc = .ok (.baload, 1))
    (kk : W p l e R s m args below meth c H locs cells slots Q (F0 m (pc + 1) ls (.int (wf_bi (B k)) :: rest))) : W p l e R s m args below meth c H locs cells slots Q (F0 m pc ls (.int i :: .ref q :: rest)) := by
  subst hi
  refine va_zald C.1 C.2.1 hK hP q0 t0 ha ht (vp_in_nI hk hn) hdg ?_
  rw [nI_clamp (by omega)]
  exact kk
theorem wf_zast (C : CallFix p m c cc nL s args wG own) (hK : va_K D cl tys s) (hP : va_P D cl ws H) (hD : va_D A ws) (hS : va_S A H0 H locs) (q0 t0 : Nat) {cA : ClassId} {n k : Nat} {B : Nat → Bool} (ha : ws[q0]? = some (q, .inl (cA, n, .inl (fun j => wf_bi (B j))))) (ht : tys[t0]? = some (cA, .boolean)) {i : Int32} {b : Bool} (hi : i = nI k) (hk : k < n) (hn : n < 2 ^ 31) (hdg : decode cc pc = .ok (.bastore, 1))
    (kk : ∀ (H1 : Heap) (locs1 : List Loc), va_P D cl (ws.set q0 (q, .inl (cA, n, .inl (fun j => wf_bi (va_up B k b j))))) H1 → va_D A (ws.set q0 (q, .inl (cA, n, .inl (fun j => wf_bi (va_up B k b j))))) → va_S A H0 H1 locs1 → W p l e R s m args below meth c H1 locs1 cells slots Q (F0 m (pc + 1) ls rest)) : W p l e R s m args below meth c H locs cells slots Q (F0 m pc ls (.int (wf_bi b) :: .int i :: .ref q :: rest)) := by
  subst hi
  refine va_zast C.1 C.2.1 hK hP hD hS q0 t0 ha ht (vp_in_nI hk hn) hdg (fun H1 locs1 h1 h2 h3 => ?_)
  rw [nI_clamp (by omega), wf_bi_nar, wf_bi_up] at h1 h2
  exact kk H1 locs1 h1 h2 h3
end WFZ
end
section
/-! ===== what the loops compute, as numbers ===== -/
/-- a register from which the top part t is taken: r = t * P + r', all of it times E, q below -/
theorem wf_top {r q E P T n : Nat} (hE : E * P = T) (hT : 0 < T) (hr : r < n * P) (hq : q < E) :
    (r * E + q) / T = r / P ∧ r / P < n ∧ r % P < P ∧ r = r / P * P + r % P ∧ r * E + q = r / P * T + (r % P * E + q) ∧ r % P * E + q < T := by
  have hP : 0 < P := by
    rcases Nat.eq_zero_or_pos P with h | h
    · rw [h, Nat.mul_zero] at hE; omega
    · exact h
  have h1 : r / P * P + r % P = r := Nat.div_add_mod' r P
  have h2 : r % P < P := Nat.mod_lt _ hP
  have h3 : r / P < n := (Nat.div_lt_iff_lt_mul hP).mpr hr
  have e1 : r * E = r / P * T + r % P * E := by
    have : (r / P * P + r % P) * E = r / P * T + r % P * E := by rw [Nat.add_mul, Nat.mul_assoc, Nat.mul_comm P E, hE]
    rw [h1] at this
    exact this
  have hs : r % P * E + q < T := by
    have h4 : (r % P + 1) * E ≤ P * E := Nat.mul_le_mul_right _ h2
    rw [Nat.mul_comm P E, hE, Nat.add_mul, Nat.one_mul] at h4
    omega
  have e2 : r * E + q = r / P * T + (r % P * E + q) := by rw [e1, Nat.add_assoc]
  refine ⟨?_, h3, h2, h1.symm, e2, hs⟩
  rw [e2, Nat.add_comm, Nat.add_mul_div_right _ _ hT, Nat.div_eq_of_lt hs, Nat.zero_add]
/-- long division: behind i of 128 steps -/
def wf_DI (a b i q left hl : Nat) : Prop := ∃ r, a = (q * b + left) * 2 ^ (128 - i) + r ∧ r < 2 ^ (128 - i) ∧ hl = r * 2 ^ i + q ∧ q < 2 ^ i ∧ left < b
theorem wf_DI_0 {a b : Nat} (ha : a < 2 ^ 128) (hb : 0 < b) : wf_DI a b 0 0 0 a := ⟨a, by simp, ha, by rw [Nat.pow_zero, Nat.mul_one, Nat.add_zero], by decide, hb⟩
theorem wf_DI_end {a b q left hl : Nat} (h : wf_DI a b 128 q left hl) : hl = a / b ∧ left = a % b := by
  obtain ⟨r, h1, h2, h3, h4, h5⟩ := h
  have hr : r = 0 := by
    have : r < 2 ^ (128 - 128) := h2
    rw [Nat.sub_self, Nat.pow_zero] at this
    omega
  subst hr
  rw [Nat.sub_self, Nat.pow_zero, Nat.mul_one, Nat.add_zero] at h1
  rw [Nat.zero_mul, Nat.zero_add] at h3
  subst h3
  have hb : 0 < b := by omega
  refine ⟨?_, ?_⟩
  · rw [h1, Nat.mul_comm, Nat.mul_add_div hb, Nat.div_eq_of_lt h5, Nat.add_zero]
  · rw [h1, Nat.mul_comm, Nat.mul_add_mod, Nat.mod_eq_of_lt h5]
theorem wf_DI_step {a b i q left hl : Nat} (hi : i < 128) (h : wf_DI a b i q left hl) :
    hl / 2 ^ 127 ≤ 1 ∧ hl < 2 ^ 128 ∧ left < b ∧
    (b ≤ 2 * left + hl / 2 ^ 127 → wf_DI a b (i + 1) (2 * q + 1) (2 * left + hl / 2 ^ 127 - b) (2 * hl % 2 ^ 128 + 1)) ∧
    (¬ b ≤ 2 * left + hl / 2 ^ 127 → wf_DI a b (i + 1) (2 * q) (2 * left + hl / 2 ^ 127) (2 * hl % 2 ^ 128)) := by
  obtain ⟨r, h1, h2, h3, h4, h5⟩ := h
  have hp : (2 : Nat) ^ (128 - i) = 2 * 2 ^ (127 - i) := by rw [show 128 - i = (127 - i) + 1 by omega, Nat.pow_succ, Nat.mul_comm]
  have hE : (2 : Nat) ^ i * 2 ^ (127 - i) = 2 ^ 127 := by rw [← Nat.pow_add, show i + (127 - i) = 127 by omega]
  have hE2 : (2 : Nat) ^ (i + 1) = 2 * 2 ^ i := by rw [Nat.pow_succ, Nat.mul_comm]
  have hs : 128 - (i + 1) = 127 - i := by omega
  rw [hp] at h1 h2
  obtain ⟨t1, t2, t3, t4, t5, t6⟩ := wf_top (n := 2) hE (Nat.two_pow_pos 127) h2 h4
  rw [← h3] at t1 t5
  rw [t1]
  generalize hPe : 2 ^ (127 - i) = P at *
  generalize 2 ^ i = E at *
  generalize r / P = t at *
  generalize r % P = r' at *
  have e1 : a = (2 * (q * b) + (2 * left + t)) * P + r' := by
    rw [h1, t4, Nat.mul_left_comm, Nat.add_mul, Nat.add_mul, Nat.add_mul, Nat.mul_assoc 2 (q * b) P, Nat.mul_assoc 2 left P]
    omega
  have e2 : r' * (2 * E) = 2 * (r' * E) := Nat.mul_left_comm _ _ _
  refine ⟨by omega, by omega, h5, fun hle => ⟨r', ?_, ?_, ?_, ?_, ?_⟩, fun hle => ⟨r', ?_, ?_, ?_, ?_, ?_⟩⟩
  · rw [hs, hPe, Nat.add_mul (2 * q) 1 b, Nat.mul_assoc 2 q b, Nat.one_mul, show 2 * (q * b) + b + (2 * left + t - b) = 2 * (q * b) + (2 * left + t) by omega]
    exact e1
  · rw [hs, hPe]; exact t3
  · rw [hE2, e2]; omega
  · rw [hE2]; omega
  · omega
  · rw [hs, hPe, Nat.mul_assoc 2 q b]
    exact e1
  · rw [hs, hPe]; exact t3
  · rw [hE2, e2]; omega
  · rw [hE2]; omega
  · omega
/-- the root: behind i of 64 steps -/
def wf_RI (a i f left hl : Nat) : Prop := ∃ r, a = (f * f + left) * 4 ^ (64 - i) + r ∧ r < 4 ^ (64 - i) ∧ hl = r * 4 ^ i ∧ left ≤ 2 * f ∧ f < 2 ^ i
theorem wf_RI_0 {a : Nat} (ha : a < 2 ^ 128) : wf_RI a 0 0 0 a := ⟨a, by simp, by rw [show (4 : Nat) ^ (64 - 0) = 2 ^ 128 by decide]; exact ha, by rw [Nat.pow_zero, Nat.mul_one], by decide, by decide⟩
theorem wf_RI_end {a f left hl : Nat} (h : wf_RI a 64 f left hl) : a = f * f + left ∧ left ≤ 2 * f ∧ f < 2 ^ 64 := by
  obtain ⟨r, h1, h2, h3, h4, h5⟩ := h
  have hr : r = 0 := by
    rw [Nat.sub_self, Nat.pow_zero] at h2
    omega
  subst hr
  rw [Nat.sub_self, Nat.pow_zero, Nat.mul_one, Nat.add_zero] at h1
  exact ⟨h1, h4, h5⟩
theorem wf_sq (f : Nat) : (2 * f) * (2 * f) = 4 * (f * f) ∧ (2 * f + 1) * (2 * f + 1) = 4 * (f * f) + 4 * f + 1 := by
  have h : (2 * f) * (2 * f) = 4 * (f * f) := by rw [Nat.mul_mul_mul_comm]
  refine ⟨h, ?_⟩
  rw [Nat.add_mul, Nat.mul_add, h]
  omega
theorem wf_RI_step {a i f left hl : Nat} (hi : i < 64) (h : wf_RI a i f left hl) :
    hl / 2 ^ 126 ≤ 3 ∧ hl < 2 ^ 128 ∧ left ≤ 2 * f ∧ f < 2 ^ i ∧
    (4 * f + 1 ≤ 4 * left + hl / 2 ^ 126 → wf_RI a (i + 1) (2 * f + 1) (4 * left + hl / 2 ^ 126 - (4 * f + 1)) (4 * hl % 2 ^ 128)) ∧
    (¬ 4 * f + 1 ≤ 4 * left + hl / 2 ^ 126 → wf_RI a (i + 1) (2 * f) (4 * left + hl / 2 ^ 126) (4 * hl % 2 ^ 128)) := by
  obtain ⟨r, h1, h2, h3, h4, h5⟩ := h
  have hp : (4 : Nat) ^ (64 - i) = 4 * 4 ^ (63 - i) := by rw [show 64 - i = (63 - i) + 1 by omega, Nat.pow_succ, Nat.mul_comm]
  have hE : (4 : Nat) ^ i * 4 ^ (63 - i) = 2 ^ 126 := by rw [← Nat.pow_add, show i + (63 - i) = 63 by omega]
  have hE2 : (4 : Nat) ^ (i + 1) = 4 * 4 ^ i := by rw [Nat.pow_succ, Nat.mul_comm]
  have hF2 : (2 : Nat) ^ (i + 1) = 2 * 2 ^ i := by rw [Nat.pow_succ, Nat.mul_comm]
  have hs : 64 - (i + 1) = 63 - i := by omega
  have hE0 : 0 < (4 : Nat) ^ i := Nat.pow_pos (by decide)
  rw [hp] at h1 h2
  obtain ⟨t1, t2, t3, t4, t5, t6⟩ := wf_top (n := 4) (q := 0) hE (Nat.two_pow_pos 126) h2 hE0
  rw [Nat.add_zero, ← h3] at t1 t5
  rw [Nat.add_zero] at t5 t6
  rw [t1]
  obtain ⟨s1, s2⟩ := wf_sq f
  generalize hPe : 4 ^ (63 - i) = P at *
  generalize 4 ^ i = E at *
  generalize r / P = t at *
  generalize r % P = r' at *
  have e1 : a = (4 * (f * f) + (4 * left + t)) * P + r' := by
    rw [h1, t4, Nat.mul_left_comm, Nat.add_mul, Nat.add_mul, Nat.add_mul, Nat.mul_assoc 4 (f * f) P, Nat.mul_assoc 4 left P]
    omega
  have e2 : r' * (4 * E) = 4 * (r' * E) := Nat.mul_left_comm _ _ _
  refine ⟨by omega, by omega, h4, h5, fun hle => ⟨r', ?_, ?_, ?_, ?_, ?_⟩, fun hle => ⟨r', ?_, ?_, ?_, ?_, ?_⟩⟩
  · rw [hs, hPe, s2, show 4 * (f * f) + 4 * f + 1 + (4 * left + t - (4 * f + 1)) = 4 * (f * f) + (4 * left + t) by omega]
    exact e1
  · rw [hs, hPe]; exact t3
  · rw [hE2, e2]; omega
  · omega
  · rw [hF2]; omega
  · rw [hs, hPe, s1]
    exact e1
  · rw [hs, hPe]; exact t3
  · rw [hE2, e2]; omega
  · omega
  · rw [hF2]; omega
/-- the root is one number -/
theorem wf_root_one {a f g r t : Nat} (h1 : a = f * f + r) (h2 : r ≤ 2 * f) (h3 : a = g * g + t) (h4 : t ≤ 2 * g) : f = g ∧ r = t := by
  have key : ∀ x y u v : Nat, x * x + u = y * y + v → u ≤ 2 * x → v ≤ 2 * y → x ≤ y := by
    intro x y u v he hu hv
    rcases Nat.lt_or_ge y x with h | h
    · exfalso
      have h5 : (y + 1) * (y + 1) ≤ x * x := Nat.mul_le_mul h h
      rw [Nat.add_mul, Nat.mul_add] at h5
      omega
    · exact h
  have ha : f * f + r = g * g + t := h1.symm.trans h3
  have hfg : f = g := Nat.le_antisymm (key f g r t ha h2 h4) (key g f t r ha.symm h4 h2)
  subst hfg
  exact ⟨rfl, by omega⟩
/-- the decimal digits: how many, and which -/
def wf_DG (n c : Nat) (D : Nat → Nat) : Prop := 1 ≤ c ∧ n < 10 ^ c ∧ (c = 1 ∨ 10 ^ (c - 1) ≤ n) ∧ ∀ i, i < c → D i = n / 10 ^ (c - 1 - i) % 10
theorem wf_pow10 {a b : Nat} (h : a ≤ b) : 10 ^ a ≤ 10 ^ b := Nat.pow_le_pow_right (by decide) h
theorem wf_DG_one {n c d : Nat} {D E : Nat → Nat} (h1 : wf_DG n c D) (h2 : wf_DG n d E) : c = d ∧ ∀ i, i < c → D i = E i := by
  obtain ⟨a1, a2, a3, a4⟩ := h1
  obtain ⟨b1, b2, b3, b4⟩ := h2
  have key : ∀ x y : Nat, n < 10 ^ x → 1 ≤ x → (y = 1 ∨ 10 ^ (y - 1) ≤ n) → y ≤ x := by
    intro x y hx h1 hy
    rcases hy with hy | hy
    · omega
    · rcases Nat.lt_or_ge x y with h | h
      · exfalso
        have := wf_pow10 (show x ≤ y - 1 by omega)
        omega
      · exact h
  have hc : c = d := Nat.le_antisymm (key d c b2 b1 a3) (key c d a2 a1 b3)
  subst hc
  exact ⟨rfl, fun i hi => (a4 i hi).trans (b4 i hi).symm⟩
end
section
/-! ===== the class's arithmetic, as numbers ===== -/
abbrev wf_N : Nat := 18446744073709551616
abbrev wf_NN : Nat := 340282366920938463463374607431768211456
/-- 1 if x is below y, without a sign -/
def wf_ob (x y : Int64) : Int64 := if uN x < uN y then 1 else 0
theorem uN_ob (x y : Int64) : uN (wf_ob x y) = if uN x < uN y then 1 else 0 := by
  unfold wf_ob
  split <;> rfl
theorem wf_add (ha la hb lb : Int64) : wf_V (ha + hb + wf_ob (la + lb) la) (la + lb) = (wf_V ha la + wf_V hb lb) % wf_NN ∧
    (wf_ob (ha + hb) ha + wf_ob (ha + hb + wf_ob (la + lb) la) (wf_ob (la + lb) la) ≠ 0 ↔ wf_NN ≤ wf_V ha la + wf_V hb lb) := by
  have h1 := uN_lt ha
  have h2 := uN_lt la
  have h3 := uN_lt hb
  have h4 := uN_lt lb
  have e : wf_ob (ha + hb) ha + wf_ob (ha + hb + wf_ob (la + lb) la) (wf_ob (la + lb) la) ≠ 0 ↔ uN (wf_ob (ha + hb) ha + wf_ob (ha + hb + wf_ob (la + lb) la) (wf_ob (la + lb) la)) ≠ 0 := not_congr uN_eq0
  rw [e]
  unfold wf_V wf_NN
  simp only [uN_add, uN_ob]
  constructor
  · split <;> omega
  · split <;> split <;> split <;> omega
theorem wf_sub (ha la hb lb : Int64) : wf_V (ha - hb - wf_ob la lb) (la - lb) = (wf_V ha la + wf_NN - wf_V hb lb) % wf_NN := by
  have h1 := uN_lt ha
  have h2 := uN_lt la
  have h3 := uN_lt hb
  have h4 := uN_lt lb
  unfold wf_V wf_NN
  simp only [uN_sub, uN_ob]
  split <;> omega
/-- the product of two numbers of 128 bits, by products of halves -/
theorem wf_prod {ah al bh bl P Q U V : Int64} (hP : uN P = uN ah * uN bh / wf_N) (hQ : uN Q = uN ah * uN bl / wf_N) (hU : uN U = uN al * uN bh / wf_N) (hV : uN V = uN al * uN bl / wf_N)
    {cs th cy co wc ol oc : Int64} (e1 : cs = ah * bl + al * bh) (e2 : th = cs + V) (e3 : cy = wf_ob cs (ah * bl) + wf_ob th cs) (e4 : co = Q + U) (e5 : wc = co + cy) (e6 : ol = wc + ah * bh) (e7 : oc = wf_ob co Q + wf_ob wc cy + wf_ob ol wc) :
    wf_V (P + oc) ol = wf_V ah al * wf_V bh bl / wf_NN ∧ wf_V th (al * bl) = wf_V ah al * wf_V bh bl % wf_NN := by
  have b1 := uN_lt ah
  have b2 := uN_lt al
  have b3 := uN_lt bh
  have b4 := uN_lt bl
  have hr : wf_V ah al * wf_V bh bl = uN ah * uN bh * (wf_N * wf_N) + (uN ah * uN bl + uN al * uN bh) * wf_N + uN al * uN bl := wf_ring _ _ _ _ _
  have m1 : uN ah * uN bh ≤ 18446744073709551615 * 18446744073709551615 := wf_le_mul (by omega) (by omega)
  have m2 : uN ah * uN bl ≤ 18446744073709551615 * 18446744073709551615 := wf_le_mul (by omega) (by omega)
  have m3 : uN al * uN bh ≤ 18446744073709551615 * 18446744073709551615 := wf_le_mul (by omega) (by omega)
  have m4 : uN al * uN bl ≤ 18446744073709551615 * 18446744073709551615 := wf_le_mul (by omega) (by omega)
  have p1 : uN (ah * bh) = uN ah * uN bh % wf_N := uN_mul _ _
  have p2 : uN (ah * bl) = uN ah * uN bl % wf_N := uN_mul _ _
  have p3 : uN (al * bh) = uN al * uN bh % wf_N := uN_mul _ _
  have p4 : uN (al * bl) = uN al * uN bl % wf_N := uN_mul _ _
  rw [hr]
  generalize uN ah * uN bh = x1 at *
  generalize uN ah * uN bl = x2 at *
  generalize uN al * uN bh = x3 at *
  generalize uN al * uN bl = x4 at *
  -- sums with their carries
  have c1 := wf_carry (uN_lt (ah * bl)) (uN_lt (al * bh))
  rw [← uN_add, ← e1, ← uN_ob] at c1
  have c2 := wf_carry (uN_lt cs) (uN_lt V)
  rw [← uN_add, ← e2, ← uN_ob] at c2
  have c4 := wf_carry (uN_lt Q) (uN_lt U)
  rw [← uN_add, ← e4, ← uN_ob] at c4
  have o1 : uN (wf_ob cs (ah * bl)) ≤ 1 := by rw [uN_ob]; split <;> omega
  have o2 : uN (wf_ob th cs) ≤ 1 := by rw [uN_ob]; split <;> omega
  have c3 : uN cy = uN (wf_ob cs (ah * bl)) + uN (wf_ob th cs) := by rw [e3, uN_add]; omega
  have c5 := wf_carry' (uN_lt co) (uN_lt cy)
  rw [← uN_add, ← e5, ← uN_ob] at c5
  have c6 := wf_carry (uN_lt wc) (uN_lt (ah * bh))
  rw [← uN_add, ← e6, ← uN_ob] at c6
  have o4 : uN (wf_ob co Q) ≤ 1 := by rw [uN_ob]; split <;> omega
  have o5 : uN (wf_ob wc cy) ≤ 1 := by rw [uN_ob]; split <;> omega
  have o6 : uN (wf_ob ol wc) ≤ 1 := by rw [uN_ob]; split <;> omega
  have c7 : uN oc = uN (wf_ob co Q) + uN (wf_ob wc cy) + uN (wf_ob ol wc) := by rw [e7, uN_add, uN_add]; omega
  have c8 := uN_add P oc
  have l1 := uN_lt cs
  have l2 := uN_lt th
  have l3 := uN_lt co
  have l4 := uN_lt wc
  have l5 := uN_lt ol
  have l6 := uN_lt (P + oc)
  unfold wf_V wf_NN
  unfold wf_N at *
  generalize uN (wf_ob cs (ah * bl)) = y1 at *
  generalize uN (wf_ob th cs) = y2 at *
  generalize uN (wf_ob co Q) = y4 at *
  generalize uN (wf_ob wc cy) = y5 at *
  generalize uN (wf_ob ol wc) = y6 at *
  rw [p4]
  omega
/-- ten times and d more -/
theorem wf_ten {h l d P Q cy : Int64} (hd : uN d < 10) (hP : uN P = uN l * 10 / wf_N) (hQ : uN Q = uN h * 10 / wf_N) (hc : cy = P + wf_ob (l * 10 + d) (l * 10)) :
    (Q + wf_ob (h * 10 + cy) cy ≠ 0 ↔ wf_NN ≤ wf_V h l * 10 + uN d) ∧ (wf_V h l * 10 + uN d < wf_NN → wf_V (h * 10 + cy) (l * 10 + d) = wf_V h l * 10 + uN d) := by
  have b1 := uN_lt h
  have b2 := uN_lt l
  have t : uN (10 : Int64) = 10 := by decide
  have p1 : uN (l * 10) = uN l * 10 % wf_N := by rw [uN_mul, t]
  have p2 : uN (h * 10) = uN h * 10 % wf_N := by rw [uN_mul, t]
  have c1 := wf_carry (uN_lt (l * 10)) (uN_lt d)
  rw [← uN_add, ← uN_ob] at c1
  have o1 : uN (wf_ob (l * 10 + d) (l * 10)) ≤ 1 := by rw [uN_ob]; split <;> omega
  have c2 : uN cy = uN P + uN (wf_ob (l * 10 + d) (l * 10)) := by rw [hc, uN_add]; unfold wf_N at hP; omega
  have c3 := wf_carry' (uN_lt (h * 10)) (uN_lt cy)
  rw [← uN_add, ← uN_ob] at c3
  have o3 : uN (wf_ob (h * 10 + cy) cy) ≤ 1 := by rw [uN_ob]; split <;> omega
  have l1 := uN_lt (l * 10 + d)
  have l2 := uN_lt (h * 10 + cy)
  have e : Q + wf_ob (h * 10 + cy) cy ≠ 0 ↔ uN (Q + wf_ob (h * 10 + cy) cy) ≠ 0 := not_congr uN_eq0
  have c4 : uN (Q + wf_ob (h * 10 + cy) cy) = uN Q + uN (wf_ob (h * 10 + cy) cy) := by rw [uN_add]; unfold wf_N at hQ; omega
  rw [e, c4]
  unfold wf_V wf_NN
  unfold wf_N at *
  generalize uN (wf_ob (l * 10 + d) (l * 10)) = y1 at *
  generalize uN (wf_ob (h * 10 + cy) cy) = y3 at *
  constructor <;> omega
end
section
/-! ===== the reference's loops over bits, as numbers ===== -/
theorem wf_sm_cons (f : Nat → Bool) (n : Nat) : wf_sm f (n + 1) = (f 0).toNat + 2 * wf_sm (fun i => f (i + 1)) n := by
  rw [Nat.add_comm n 1, wf_sm_add, wf_smS, wf_sm0, Nat.pow_zero, Nat.mul_one, Nat.zero_add, Nat.pow_one]
  congr 2
  exact wf_sm_congr (fun k _ => by rw [Nat.add_comm])
/-- bits that are false from n on add nothing -/
theorem wf_sm_ext {f : Nat → Bool} {n m : Nat} (hnm : n ≤ m) (h : ∀ k, n ≤ k → k < m → f k = false) : wf_sm f m = wf_sm f n := by
  obtain ⟨d, rfl⟩ : ∃ d, m = n + d := ⟨m - n, by omega⟩
  rw [wf_sm_add, show wf_sm (fun k => f (n + k)) d = 0 from ?_, Nat.mul_zero, Nat.add_zero]
  rw [← wf_sm_z (n := d)]
  exact wf_sm_congr (fun k hk => h (n + k) (by omega) (by omega))
theorem wf_sm_eq0 {f : Nat → Bool} {n : Nat} : wf_sm f n = 0 ↔ ∀ k, k < n → f k = false := by
  constructor
  · intro h k hk
    exact wf_sm_inj (g := fun _ => false) (h.trans wf_sm_z.symm) hk
  · intro h
    rw [← wf_sm_z (n := n)]
    exact wf_sm_congr h
/-- compared from the lowest bit up -/
theorem wf_cmp_step {X Y P : Nat} {x y : Bool} (hX : X < P) (hY : Y < P) :
    (x = y → (X + x.toNat * P < Y + y.toNat * P ↔ X < Y) ∧ (X + x.toNat * P = Y + y.toNat * P ↔ X = Y)) ∧ (x = true → y = false → Y + y.toNat * P < X + x.toNat * P) ∧ (x = false → y = true → X + x.toNat * P < Y + y.toNat * P) := by
  refine ⟨fun h => ?_, fun h1 h2 => ?_, fun h1 h2 => ?_⟩
  · subst h
    constructor <;> constructor <;> intros <;> omega
  · subst h1 h2
    simp only [Bool.toNat_false, Bool.toNat_true]
    omega
  · subst h1 h2
    simp only [Bool.toNat_false, Bool.toNat_true]
    omega
/-- a register read by its halves -/
theorem wf_R_halves (B : Nat → Bool) (r : Nat) : wf_R B r = wf_sm (fun k => B (128 * r + k)) 64 + 18446744073709551616 * wf_sm (fun k => B (128 * r + 64 + k)) 64 := by
  unfold wf_R
  rw [show (128 : Nat) = 64 + 64 from rfl, wf_sm_add]
  congr 2
theorem wf_V_one {h l : Int64} {x y : Nat} (hx : x < 18446744073709551616) (hy : y < 18446744073709551616) (e : wf_V h l = y + 18446744073709551616 * x) : uN h = x ∧ uN l = y := by
  have h1 := uN_lt h
  have h2 := uN_lt l
  unfold wf_V at e
  omega
/-- bit k of a long, by an arithmetic shift -/
theorem wf_sar (x : Int64) {k : Nat} (hk : k < 64) : (x >>> ((nI k).toInt64 &&& 63)) &&& 1 = 1 ↔ uN x / 2 ^ k % 2 = 1 := by
  have h1 : uN ((x >>> ((nI k).toInt64 &&& 63)) &&& 1) = uN x / 2 ^ k % 2 := by
    rw [uN_and', show uN (1 : Int64) = 1 from by decide, Nat.and_one_is_mod]
    have h2 : uN (x >>> ((nI k).toInt64 &&& 63)) = (x.toBitVec.sshiftRight k).toNat := by
      show (x.toBitVec.sshiftRight (((nI k).toInt64 &&& 63).toBitVec.smod 64).toNat).toNat = _
      rw [wf_cnt k hk]
    have h3 : (x.toBitVec.sshiftRight k).getLsbD 0 = x.toBitVec.getLsbD k := by
      rw [BitVec.getLsbD_sshiftRight]
      simp [hk]
    rw [h2]
    have h4 : ∀ n : Nat, n % 2 = (n.testBit 0).toNat := fun n => by rw [Nat.toNat_testBit, Nat.pow_zero, Nat.div_one]
    rw [h4]
    show ((x.toBitVec.sshiftRight k).getLsbD 0).toNat = _
    rw [h3]
    exact Nat.toNat_testBit _ _
  constructor
  · intro h
    rw [← h1, h]
    decide
  · intro h
    refine uN_inj ?_
    rw [h1, h]
    decide
end
section
/-! ===== loops and joins of a walk ===== -/
section WLP
variable {p : Program} {l : Launch} {e : Env} {R : Room} {s : State} {m : MethodId} {args : Array Value} {below : List Frame} {meth : Method} {c : Code} {H : Heap} {locs : List Loc} {cells slots : Nat} {Q : State → Prop}
/-- two branches meet with an int on the stack -/
theorem wf_cutI {pc pcj : Nat} {ls ls' : Array Slot} {rest st0 : List Value} (P : Int32 → Prop) (k : ∀ z : Int32, P z → W p l e R s m args below meth c H locs cells slots Q (F0 m pcj ls (.int z :: rest))) (g : (∀ z : Int32, P z → W p l e R s m args below meth c H locs cells slots Q (F0 m pcj ls (.int z :: rest))) → W p l e R s m args below meth c H locs cells slots Q (F0 m pc ls' st0)) : W p l e R s m args below meth c H locs cells slots Q (F0 m pc ls' st0) := g k
theorem wf_cutL {pc pcj : Nat} {ls ls' : Array Slot} {rest st0 : List Value} (P : Int64 → Prop) (k : ∀ z : Int64, P z → W p l e R s m args below meth c H locs cells slots Q (F0 m pcj ls (.long z :: rest))) (g : (∀ z : Int64, P z → W p l e R s m args below meth c H locs cells slots Q (F0 m pcj ls (.long z :: rest))) → W p l e R s m args below meth c H locs cells slots Q (F0 m pc ls' st0)) : W p l e R s m args below meth c H locs cells slots Q (F0 m pc ls' st0) := g k
/-- a loop that leaves the heap alone: N rounds -/
theorem wf_for {σ : Type} {pc nL : Nat} (N : Nat) (I : Nat → σ → Prop) (F : Nat → σ → List (Nat × Value))
    (step : ∀ (i : Nat) (x : σ) (ls : Array Slot), i < N → I i x → lv_has ls nL (F i x) → (∀ (x' : σ) (ls' : Array Slot), I (i + 1) x' → lv_has ls' nL (F (i + 1) x') → W p l e R s m args below meth c H locs cells slots Q (F0 m pc ls' [])) → W p l e R s m args below meth c H locs cells slots Q (F0 m pc ls []))
    (exit : ∀ (x : σ) (ls : Array Slot), I N x → lv_has ls nL (F N x) → W p l e R s m args below meth c H locs cells slots Q (F0 m pc ls []))
    (x0 : σ) (h0 : I 0 x0) {ls : Array Slot} (hl : lv_has ls nL (F 0 x0)) : W p l e R s m args below meth c H locs cells slots Q (F0 m pc ls []) := by
  have key : ∀ (n i : Nat) (x : σ) (ls : Array Slot), i ≤ N → N - i < n → I i x → lv_has ls nL (F i x) → W p l e R s m args below meth c H locs cells slots Q (F0 m pc ls []) := by
    intro n
    induction n with
    | zero => intro i x ls _ h; omega
    | succ n ih =>
      intro i x ls hi hn hI hl
      by_cases hN : i = N
      · subst hN; exact exit x ls hI hl
      · exact step i x ls (by omega) hI hl (fun x' ls' h1 h2 => ih (i + 1) x' ls' (by omega) (by omega) h1 h2)
  exact key (N + 1) 0 x0 ls (by omega) (by omega) h0 hl
end WLP
section WLH
variable {p : Program} {l : Launch} {e : Env} {R : Room} {s : State} {m : MethodId} {args : Array Value} {below : List Frame} {meth : Method} {c : Code} {cells slots : Nat} {Q : State → Prop} {D : va_G} {cl : List vw_C} {A : Nat → Prop} {H0 : Heap}
/-- a loop that changes its world: N rounds -/
theorem wf_forH {σ : Type} {pc nL : Nat} (N : Nat) (I : Nat → σ → Prop) (mk : σ → va_W) (F : Nat → σ → List (Nat × Value))
    (step : ∀ (i : Nat) (x : σ) (H : Heap) (locs : List Loc) (ls : Array Slot), i < N → I i x → va_P D cl (mk x) H → va_D A (mk x) → va_S A H0 H locs → lv_has ls nL (F i x) →
      (∀ (x' : σ) (H' : Heap) (locs' : List Loc) (ls' : Array Slot), I (i + 1) x' → va_P D cl (mk x') H' → va_D A (mk x') → va_S A H0 H' locs' → lv_has ls' nL (F (i + 1) x') → W p l e R s m args below meth c H' locs' cells slots Q (F0 m pc ls' [])) → W p l e R s m args below meth c H locs cells slots Q (F0 m pc ls []))
    (exit : ∀ (x : σ) (H : Heap) (locs : List Loc) (ls : Array Slot), I N x → va_P D cl (mk x) H → va_D A (mk x) → va_S A H0 H locs → lv_has ls nL (F N x) → W p l e R s m args below meth c H locs cells slots Q (F0 m pc ls []))
    (x0 : σ) (h0 : I 0 x0) {H : Heap} {locs : List Loc} {ls : Array Slot} (hP : va_P D cl (mk x0) H) (hD : va_D A (mk x0)) (hS : va_S A H0 H locs) (hl : lv_has ls nL (F 0 x0)) : W p l e R s m args below meth c H locs cells slots Q (F0 m pc ls []) := by
  have key : ∀ (n i : Nat) (x : σ) (H : Heap) (locs : List Loc) (ls : Array Slot), i ≤ N → N - i < n → I i x → va_P D cl (mk x) H → va_D A (mk x) → va_S A H0 H locs → lv_has ls nL (F i x) → W p l e R s m args below meth c H locs cells slots Q (F0 m pc ls []) := by
    intro n
    induction n with
    | zero => intro i x H locs ls _ h; omega
    | succ n ih =>
      intro i x H locs ls hi hn hI h1 h2 h3 hl
      by_cases hN : i = N
      · subst hN; exact exit x H locs ls hI h1 h2 h3 hl
      · exact step i x H locs ls (by omega) hI h1 h2 h3 hl (fun x' H' locs' ls' k0 k1 k2 k3 k4 => ih (i + 1) x' H' locs' ls' (by omega) (by omega) k0 k1 k2 k3 k4)
  exact key (N + 1) 0 x0 H locs ls (by omega) (by omega) h0 hP hD hS hl
end WLH
/-- the index of a loop that runs down from N - 1: behind i rounds -/
def wf_dn (N i : Nat) : Int32 := Int32.ofInt ((N : Int) - 1 - i)
theorem wf_dn_nI {N i : Nat} (h : i < N) : wf_dn N i = nI (N - 1 - i) := by
  unfold wf_dn nI
  rw [show ((N : Int) - 1 - i) = ((N - 1 - i : Nat) : Int) by omega]
  rfl
theorem wf_dn_S {N i : Nat} : wf_dn N i + Int32.ofInt (-1) = wf_dn N (i + 1) := by
  unfold wf_dn
  rw [← Int32.ofInt_add]
  congr 1
  omega
theorem wf_dn_end (N : Nat) : wf_dn N N = -1 := by
  unfold wf_dn
  rw [show ((N : Int) - 1 - N) = -1 by omega]
  rfl
theorem wf_neg (x : Int64) : (0 : Int64) ≤ x ↔ ¬ 9223372036854775808 ≤ uN x := by
  have h := uN_lt x
  rw [Int64.le_iff_toInt_le, uN_int x]
  show (0 : Int) ≤ _ ↔ _
  omega
/-- one shift left over two longs -/
theorem wf_s1 (x y : Int64) : uN ((x <<< ((1 : Int32).toInt64 &&& 63)) ||| (y.toUInt64 >>> ((63 : Int32).toInt64.toUInt64 &&& Int64.toUInt64 63)).toInt64) = (2 * uN x) % 18446744073709551616 + uN y / 9223372036854775808 := by
  have h := uN_lt y
  rw [uN_or (by rw [uN_s63]; omega), uN_s63]
theorem wf_sh2 (x : Int64) : uN (x <<< ((2 : Int32).toInt64 &&& 63)) = (4 * uN x) % 18446744073709551616 := by
  have h := wf_shl x (k := 2) (by decide)
  rw [show nI 2 = (2 : Int32) from rfl] at h
  rw [h, Nat.mul_comm]
theorem wf_u62 (x : Int64) : uN (x.toUInt64 >>> ((62 : Int32).toInt64.toUInt64 &&& Int64.toUInt64 63)).toInt64 = uN x / 4611686018427387904 := by
  have h := uN_sk x (k := 62) (by decide)
  rw [show nI 62 = (62 : Int32) from rfl] at h
  exact h
theorem wf_s2 (x y : Int64) : uN ((x <<< ((2 : Int32).toInt64 &&& 63)) ||| (y.toUInt64 >>> ((62 : Int32).toInt64.toUInt64 &&& Int64.toUInt64 63)).toInt64) = (4 * uN x) % 18446744073709551616 + uN y / 4611686018427387904 := by
  have h := uN_lt y
  have h2 := wf_shlor (x := uN x) h (k := 2) (by decide)
  rw [uN_or', wf_sh2, wf_u62, Nat.mul_comm]
  exact h2
theorem wf_or1 (x : Int64) {a : Nat} (h : uN x = 2 * a) : uN (x ||| 1) = uN x + 1 := by
  rw [uN_or', h, show uN (1 : Int64) = 1 from by decide, Nat.mul_comm]
  exact wf_or (k := 1) (by decide)
theorem wf_p128 : (2 : Nat) ^ 128 = 340282366920938463463374607431768211456 := by decide +kernel
theorem wf_d1 {a b t : Nat} (ha : a < 18446744073709551616) (hb : b < 18446744073709551616) : (2 * a % 18446744073709551616 + b / 9223372036854775808) * 18446744073709551616 + (2 * b % 18446744073709551616 + t) = 2 * (a * 18446744073709551616 + b) % 340282366920938463463374607431768211456 + t := by omega
theorem wf_d2 {a b t : Nat} (ha : a < 18446744073709551616) (hb : b < 18446744073709551616) : (4 * a % 18446744073709551616 + b / 4611686018427387904) * 18446744073709551616 + (4 * b % 18446744073709551616 + t) = 4 * (a * 18446744073709551616 + b) % 340282366920938463463374607431768211456 + t := by omega
theorem wf_d1z {a b : Nat} (ha : a < 18446744073709551616) (hb : b < 18446744073709551616) : (2 * a % 18446744073709551616 + b / 9223372036854775808) * 18446744073709551616 + 2 * b % 18446744073709551616 = 2 * (a * 18446744073709551616 + b) % 340282366920938463463374607431768211456 := by omega
theorem wf_d2z {a b : Nat} (ha : a < 18446744073709551616) (hb : b < 18446744073709551616) : (4 * a % 18446744073709551616 + b / 4611686018427387904) * 18446744073709551616 + 4 * b % 18446744073709551616 = 4 * (a * 18446744073709551616 + b) % 340282366920938463463374607431768211456 := by omega
theorem wf_ev (x : Nat) : 2 * x % 18446744073709551616 = 2 * (x % 9223372036854775808) := by omega
theorem wf_d9 {F f t P : Nat} (h3 : F ≤ 2 * f) (h5 : f < P) (hp : P ≤ 9223372036854775808) (h1 : t ≤ 3) : 4 * F % 340282366920938463463374607431768211456 + t = 4 * F + t ∧ 4 * F + t < 340282366920938463463374607431768211456 ∧ 2 * f % 18446744073709551616 = 2 * f := by omega
theorem wf_d3 {f : Nat} (hf : f < 18446744073709551616) : f / 4611686018427387904 * 18446744073709551616 + (4 * f % 18446744073709551616 + 1) = 4 * f + 1 := by omega
theorem wf_d4 {a b : Nat} (hb : b < 18446744073709551616) : 9223372036854775808 ≤ a ↔ 340282366920938463463374607431768211456 ≤ 2 * (a * 18446744073709551616 + b) := by omega
theorem wf_d5 {a b : Nat} (hb : b < 18446744073709551616) : (a * 18446744073709551616 + b) / 2 ^ 127 = a / 9223372036854775808 := by
  rw [show (2 : Nat) ^ 127 = 170141183460469231731687303715884105728 from by decide +kernel]; omega
theorem wf_d6 {a b : Nat} (hb : b < 18446744073709551616) : (a * 18446744073709551616 + b) / 2 ^ 126 = a / 4611686018427387904 := by
  rw [show (2 : Nat) ^ 126 = 85070591730234615865843651857942052864 from by decide +kernel]; omega
theorem wf_d7 {F B t : Nat} (hF : F < B) (hB : B < 340282366920938463463374607431768211456) (ht : t ≤ 1) (h : 340282366920938463463374607431768211456 ≤ 2 * F ∨ ¬ 2 * F % 340282366920938463463374607431768211456 + t < B) : B ≤ 2 * F + t ∧ (2 * F % 340282366920938463463374607431768211456 + t + 340282366920938463463374607431768211456 - B) % 340282366920938463463374607431768211456 = 2 * F + t - B := by omega
theorem wf_d8 {L C : Nat} (hC : C ≤ L) (hL : L < 340282366920938463463374607431768211456) : (L + 340282366920938463463374607431768211456 - C) % 340282366920938463463374607431768211456 = L - C := by omega
/-! the two ends of a round of the division -/
theorem wf_q_yes {a i q1 : Nat} {bh bl fh fl hh hl fh' fl' hh' hl' : Int64} (hi : i < 128) (hI : wf_DI a (wf_V bh bl) i q1 (wf_V fh fl) (wf_V hh hl))
    (e1 : uN fh' = 2 * uN fh % 18446744073709551616 + uN fl / 9223372036854775808) (e2 : uN fl' = 2 * uN fl % 18446744073709551616 + uN hh / 9223372036854775808) (e3 : uN hh' = 2 * uN hh % 18446744073709551616 + uN hl / 9223372036854775808) (e4 : uN hl' = 2 * uN hl % 18446744073709551616)
    (hb : 9223372036854775808 ≤ uN fh ∨ ¬ wf_V fh' fl' < wf_V bh bl) : wf_DI a (wf_V bh bl) (i + 1) (2 * q1 + 1) (wf_V (fh' - bh - wf_ob fl' bl) (fl' - bl)) (wf_V hh' (hl' ||| 1)) := by
  obtain ⟨h1, -, h3, h4, -⟩ := wf_DI_step hi hI
  have o1 : uN (hl' ||| 1) = uN hl' + 1 := wf_or1 hl' (a := uN hl % 9223372036854775808) (e4.trans (wf_ev _))
  have ht : wf_V hh hl / 2 ^ 127 = uN hh / 9223372036854775808 := wf_d5 (uN_lt hl)
  rw [ht] at h1 h4
  have hf : wf_V fh' fl' = 2 * wf_V fh fl % 340282366920938463463374607431768211456 + uN hh / 9223372036854775808 := by show uN fh' * _ + uN fl' = _; rw [e1, e2]; exact wf_d1 (uN_lt fh) (uN_lt fl)
  have g4 : wf_V hh' (hl' ||| 1) = 2 * wf_V hh hl % 2 ^ 128 + 1 := by show uN hh' * _ + uN (hl' ||| 1) = _; rw [o1, e3, e4, wf_p128]; exact wf_d1 (uN_lt hh) (uN_lt hl)
  have hs := wf_sub fh' fl' bh bl
  rw [wf_d4 (uN_lt fl), hf] at hb
  obtain ⟨g1, g3⟩ := wf_d7 h3 (wf_V_lt bh bl) h1 hb
  rw [hs, hf, g4, show (2 * wf_V fh fl % 340282366920938463463374607431768211456 + uN hh / 9223372036854775808 + wf_NN - wf_V bh bl) % wf_NN = 2 * wf_V fh fl + uN hh / 9223372036854775808 - wf_V bh bl from g3]
  exact h4 g1
theorem wf_q_no {a i q1 : Nat} {bh bl fh fl hh hl fh' fl' hh' hl' : Int64} (hi : i < 128) (hI : wf_DI a (wf_V bh bl) i q1 (wf_V fh fl) (wf_V hh hl))
    (e1 : uN fh' = 2 * uN fh % 18446744073709551616 + uN fl / 9223372036854775808) (e2 : uN fl' = 2 * uN fl % 18446744073709551616 + uN hh / 9223372036854775808) (e3 : uN hh' = 2 * uN hh % 18446744073709551616 + uN hl / 9223372036854775808) (e4 : uN hl' = 2 * uN hl % 18446744073709551616)
    (hn : ¬ 9223372036854775808 ≤ uN fh) (hb : wf_V fh' fl' < wf_V bh bl) : wf_DI a (wf_V bh bl) (i + 1) (2 * q1) (wf_V fh' fl') (wf_V hh' hl') := by
  obtain ⟨h1, -, h3, -, h4⟩ := wf_DI_step hi hI
  have ht : wf_V hh hl / 2 ^ 127 = uN hh / 9223372036854775808 := wf_d5 (uN_lt hl)
  rw [ht] at h1 h4
  rw [wf_d4 (uN_lt fl)] at hn
  have hf : wf_V fh' fl' = 2 * wf_V fh fl % 340282366920938463463374607431768211456 + uN hh / 9223372036854775808 := by show uN fh' * _ + uN fl' = _; rw [e1, e2]; exact wf_d1 (uN_lt fh) (uN_lt fl)
  rw [Nat.mod_eq_of_lt (Nat.not_le.mp hn)] at hf
  have g4 : wf_V hh' hl' = 2 * wf_V hh hl % 2 ^ 128 := by show uN hh' * _ + uN hl' = _; rw [e3, e4, wf_p128]; exact wf_d1z (uN_lt hh) (uN_lt hl)
  rw [hf] at hb ⊢
  rw [g4]
  exact h4 (Nat.not_le.mpr hb)
/-! the two ends of a round of the root -/
theorem wf_r_hf {f fh fl hh fh' fl' : Int64} {i : Nat} (hi : i < 64) (h3 : wf_V fh fl ≤ 2 * uN f) (h5 : uN f < 2 ^ i) (h1 : uN hh / 4611686018427387904 ≤ 3)
    (e1 : uN fh' = 4 * uN fh % 18446744073709551616 + uN fl / 4611686018427387904) (e2 : uN fl' = 4 * uN fl % 18446744073709551616 + uN hh / 4611686018427387904) :
    wf_V fh' fl' = 4 * wf_V fh fl + uN hh / 4611686018427387904 ∧ 4 * wf_V fh fl + uN hh / 4611686018427387904 < 340282366920938463463374607431768211456 ∧ 2 * uN f % 18446744073709551616 = 2 * uN f := by
  have hp : (2 : Nat) ^ i ≤ 2 ^ 63 := Nat.pow_le_pow_right (by decide) (by omega)
  rw [show (2 : Nat) ^ 63 = 9223372036854775808 from by decide] at hp
  have hf : wf_V fh' fl' = 4 * wf_V fh fl % 340282366920938463463374607431768211456 + uN hh / 4611686018427387904 := by show uN fh' * _ + uN fl' = _; rw [e1, e2]; exact wf_d2 (uN_lt fh) (uN_lt fl)
  obtain ⟨k1, k2, k3⟩ := wf_d9 h3 h5 hp h1
  exact ⟨hf.trans k1, k2, k3⟩
theorem wf_r_yes {a i : Nat} {f fh fl hh hl fh' fl' hh' hl' ch cl : Int64} (hi : i < 64) (hI : wf_RI a i (uN f) (wf_V fh fl) (wf_V hh hl))
    (e1 : uN fh' = 4 * uN fh % 18446744073709551616 + uN fl / 4611686018427387904) (e2 : uN fl' = 4 * uN fl % 18446744073709551616 + uN hh / 4611686018427387904) (e3 : uN hh' = 4 * uN hh % 18446744073709551616 + uN hl / 4611686018427387904) (e4 : uN hl' = 4 * uN hl % 18446744073709551616)
    (e5 : uN ch = uN f / 4611686018427387904) (e6 : uN cl = 4 * uN f % 18446744073709551616 + 1) {g : Int64} (e7 : uN g = 2 * uN f % 18446744073709551616) (hb : ¬ wf_V fh' fl' < wf_V ch cl) :
    wf_RI a (i + 1) (uN (g ||| 1)) (wf_V (fh' - ch - wf_ob fl' cl) (fl' - cl)) (wf_V hh' hl') := by
  obtain ⟨h1, -, h3, h5, h4, -⟩ := wf_RI_step hi hI
  have o1 : uN (g ||| 1) = uN g + 1 := wf_or1 g (a := uN f % 9223372036854775808) (e7.trans (wf_ev _))
  have ht : wf_V hh hl / 2 ^ 126 = uN hh / 4611686018427387904 := wf_d6 (uN_lt hl)
  rw [ht] at h1 h4
  obtain ⟨hf, hlt, hg⟩ := wf_r_hf hi h3 h5 h1 e1 e2
  have hs := wf_sub fh' fl' ch cl
  have hc : wf_V ch cl = 4 * uN f + 1 := by show uN ch * _ + uN cl = _; rw [e5, e6]; exact wf_d3 (uN_lt f)
  have g4 : wf_V hh' hl' = 4 * wf_V hh hl % 2 ^ 128 := by show uN hh' * _ + uN hl' = _; rw [e3, e4, wf_p128]; exact wf_d2z (uN_lt hh) (uN_lt hl)
  rw [hf, hc] at hb
  have g1 := Nat.not_lt.mp hb
  rw [hs, hc, hf, g4, o1, e7, hg, show (4 * wf_V fh fl + uN hh / 4611686018427387904 + wf_NN - (4 * uN f + 1)) % wf_NN = 4 * wf_V fh fl + uN hh / 4611686018427387904 - (4 * uN f + 1) from wf_d8 g1 hlt]
  exact h4 g1
theorem wf_r_no {a i : Nat} {f fh fl hh hl fh' fl' hh' hl' ch cl : Int64} (hi : i < 64) (hI : wf_RI a i (uN f) (wf_V fh fl) (wf_V hh hl))
    (e1 : uN fh' = 4 * uN fh % 18446744073709551616 + uN fl / 4611686018427387904) (e2 : uN fl' = 4 * uN fl % 18446744073709551616 + uN hh / 4611686018427387904) (e3 : uN hh' = 4 * uN hh % 18446744073709551616 + uN hl / 4611686018427387904) (e4 : uN hl' = 4 * uN hl % 18446744073709551616)
    (e5 : uN ch = uN f / 4611686018427387904) (e6 : uN cl = 4 * uN f % 18446744073709551616 + 1) {g : Int64} (e7 : uN g = 2 * uN f % 18446744073709551616) (hb : wf_V fh' fl' < wf_V ch cl) :
    wf_RI a (i + 1) (uN g) (wf_V fh' fl') (wf_V hh' hl') := by
  obtain ⟨h1, -, h3, h5, -, h4⟩ := wf_RI_step hi hI
  have ht : wf_V hh hl / 2 ^ 126 = uN hh / 4611686018427387904 := wf_d6 (uN_lt hl)
  rw [ht] at h1 h4
  obtain ⟨hf, hlt, hg⟩ := wf_r_hf hi h3 h5 h1 e1 e2
  have hc : wf_V ch cl = 4 * uN f + 1 := by show uN ch * _ + uN cl = _; rw [e5, e6]; exact wf_d3 (uN_lt f)
  have g4 : wf_V hh' hl' = 4 * wf_V hh hl % 2 ^ 128 := by show uN hh' * _ + uN hl' = _; rw [e3, e4, wf_p128]; exact wf_d2z (uN_lt hh) (uN_lt hl)
  rw [hf, hc] at hb
  rw [hf, g4, e7, hg]
  exact h4 (Nat.not_le.mpr hb)
end
section
/-! ===== names: methods and their bytes, decode rows, words among the tables (written by wip/whole/gen/names.py) ===== -/
abbrev RX : String := "WideFractions"
abbrev RM : String := "WideFractionsModel"
abbrev RL : String := "WideFractionsLaw"
abbrev RJl : String := "java/lang/Long"
abbrev RJi : String := "java/lang/Integer"
def y_X_init : MethodName := ⟨"WideFractions", "<init>", "()V"⟩
abbrev b_X_init : ByteArray := prog_1_method_1_code
def y_X_digit : MethodName := ⟨"WideFractions", "digit", "(I)I"⟩
abbrev b_X_digit : ByteArray := prog_1_method_14_code
def y_L_set : MethodName := ⟨"WideFractionsLaw", "set", "(LWideFractions;IJJ)I"⟩
abbrev b_L_set : ByteArray := method_3_code
def y_X_set : MethodName := ⟨"WideFractions", "set", "(IJJ)V"⟩
abbrev b_X_set : ByteArray := prog_1_method_2_code
def y_X_checkRegister : MethodName := ⟨"WideFractions", "checkRegister", "(I)V"⟩
abbrev b_X_checkRegister : ByteArray := prog_1_method_16_code
def y_X_store : MethodName := ⟨"WideFractions", "store", "(IJJ)V"⟩
abbrev b_X_store : ByteArray := prog_1_method_18_code
def y_L_half : MethodName := ⟨"WideFractionsLaw", "half", "(LWideFractions;IZ[J)I"⟩
abbrev b_L_half : ByteArray := method_4_code
def y_X_half : MethodName := ⟨"WideFractions", "half", "(IZ)J"⟩
abbrev b_X_half : ByteArray := prog_1_method_3_code
def y_L_add : MethodName := ⟨"WideFractionsLaw", "add", "(LWideFractions;III[J)I"⟩
abbrev b_L_add : ByteArray := method_5_code
def y_X_add : MethodName := ⟨"WideFractions", "add", "(III)Z"⟩
abbrev b_X_add : ByteArray := prog_1_method_4_code
def y_X_oneIfBelow : MethodName := ⟨"WideFractions", "oneIfBelow", "(JJ)J"⟩
abbrev b_X_oneIfBelow : ByteArray := prog_1_method_19_code
def y_Jl_compareUnsigned : MethodName := ⟨"java/lang/Long", "compareUnsigned", "(JJ)I"⟩
abbrev b_Jl_compareUnsigned : ByteArray := prog_9_method_43_code
def y_Jl_compare : MethodName := ⟨"java/lang/Long", "compare", "(JJ)I"⟩
abbrev b_Jl_compare : ByteArray := prog_9_method_42_code
def y_L_subtract : MethodName := ⟨"WideFractionsLaw", "subtract", "(LWideFractions;III[J)I"⟩
abbrev b_L_subtract : ByteArray := method_6_code
def y_X_subtract : MethodName := ⟨"WideFractions", "subtract", "(III)Z"⟩
abbrev b_X_subtract : ByteArray := prog_1_method_5_code
def y_X_isBelow : MethodName := ⟨"WideFractions", "isBelow", "(JJJJ)Z"⟩
abbrev b_X_isBelow : ByteArray := prog_1_method_20_code
def y_L_multiply : MethodName := ⟨"WideFractionsLaw", "multiply", "(LWideFractions;IIII)I"⟩
abbrev b_L_multiply : ByteArray := method_7_code
def y_X_multiply : MethodName := ⟨"WideFractions", "multiply", "(IIII)V"⟩
abbrev b_X_multiply : ByteArray := prog_1_method_6_code
def y_X_checkApart : MethodName := ⟨"WideFractions", "checkApart", "(II)V"⟩
abbrev b_X_checkApart : ByteArray := prog_1_method_17_code
def y_X_storeProduct : MethodName := ⟨"WideFractions", "storeProduct", "(JJJJII)V"⟩
abbrev b_X_storeProduct : ByteArray := prog_1_method_22_code
def y_X_productOver : MethodName := ⟨"WideFractions", "productOver", "(JJ)J"⟩
abbrev b_X_productOver : ByteArray := prog_1_method_21_code
def y_L_divide : MethodName := ⟨"WideFractionsLaw", "divide", "(LWideFractions;IIII)I"⟩
abbrev b_L_divide : ByteArray := method_8_code
def y_X_divide : MethodName := ⟨"WideFractions", "divide", "(IIII)V"⟩
abbrev b_X_divide : ByteArray := prog_1_method_7_code
def y_X_storeQuotient : MethodName := ⟨"WideFractions", "storeQuotient", "(JJJJII)V"⟩
abbrev b_X_storeQuotient : ByteArray := prog_1_method_23_code
def y_L_root : MethodName := ⟨"WideFractionsLaw", "root", "(LWideFractions;III)I"⟩
abbrev b_L_root : ByteArray := method_9_code
def y_X_root : MethodName := ⟨"WideFractions", "root", "(III)V"⟩
abbrev b_X_root : ByteArray := prog_1_method_8_code
def y_X_storeRoot : MethodName := ⟨"WideFractions", "storeRoot", "(JJII)V"⟩
abbrev b_X_storeRoot : ByteArray := prog_1_method_24_code
def y_L_shift : MethodName := ⟨"WideFractionsLaw", "shift", "(LWideFractions;III[J)I"⟩
abbrev b_L_shift : ByteArray := method_10_code
def y_X_shift : MethodName := ⟨"WideFractions", "shift", "(III)Z"⟩
abbrev b_X_shift : ByteArray := prog_1_method_9_code
def y_X_storeShiftedUp : MethodName := ⟨"WideFractions", "storeShiftedUp", "(JJII)Z"⟩
abbrev b_X_storeShiftedUp : ByteArray := prog_1_method_25_code
def y_X_zerosAbove : MethodName := ⟨"WideFractions", "zerosAbove", "(JJ)I"⟩
abbrev b_X_zerosAbove : ByteArray := prog_1_method_27_code
def y_Jl_numberOfLeadingZeros : MethodName := ⟨"java/lang/Long", "numberOfLeadingZeros", "(J)I"⟩
abbrev b_Jl_numberOfLeadingZeros : ByteArray := prog_9_method_48_code
def y_Ji_numberOfLeadingZeros : MethodName := ⟨"java/lang/Integer", "numberOfLeadingZeros", "(I)I"⟩
abbrev b_Ji_numberOfLeadingZeros : ByteArray := prog_8_method_47_code
def y_X_storeShiftedDown : MethodName := ⟨"WideFractions", "storeShiftedDown", "(JJII)Z"⟩
abbrev b_X_storeShiftedDown : ByteArray := prog_1_method_26_code
def y_X_zerosBelow : MethodName := ⟨"WideFractions", "zerosBelow", "(JJ)I"⟩
abbrev b_X_zerosBelow : ByteArray := prog_1_method_28_code
def y_Jl_numberOfTrailingZeros : MethodName := ⟨"java/lang/Long", "numberOfTrailingZeros", "(J)I"⟩
abbrev b_Jl_numberOfTrailingZeros : ByteArray := prog_9_method_49_code
def y_Ji_numberOfTrailingZeros : MethodName := ⟨"java/lang/Integer", "numberOfTrailingZeros", "(I)I"⟩
abbrev b_Ji_numberOfTrailingZeros : ByteArray := prog_8_method_48_code
def y_L_jam : MethodName := ⟨"WideFractionsLaw", "jam", "(LWideFractions;III)I"⟩
abbrev b_L_jam : ByteArray := method_11_code
def y_X_jam : MethodName := ⟨"WideFractions", "jam", "(III)V"⟩
abbrev b_X_jam : ByteArray := prog_1_method_10_code
def y_L_zeros : MethodName := ⟨"WideFractionsLaw", "zeros", "(LWideFractions;I[J)I"⟩
abbrev b_L_zeros : ByteArray := method_12_code
def y_X_zeros : MethodName := ⟨"WideFractions", "zeros", "(I)I"⟩
abbrev b_X_zeros : ByteArray := prog_1_method_11_code
def y_L_compare : MethodName := ⟨"WideFractionsLaw", "compare", "(LWideFractions;II[J)I"⟩
abbrev b_L_compare : ByteArray := method_13_code
def y_X_compare : MethodName := ⟨"WideFractions", "compare", "(II)I"⟩
abbrev b_X_compare : ByteArray := prog_1_method_12_code
def y_L_digits : MethodName := ⟨"WideFractionsLaw", "digits", "(LWideFractions;I[J)I"⟩
abbrev b_L_digits : ByteArray := method_14_code
def y_X_digits : MethodName := ⟨"WideFractions", "digits", "(I)I"⟩
abbrev b_X_digits : ByteArray := prog_1_method_13_code
def y_X_splitIntoParts : MethodName := ⟨"WideFractions", "splitIntoParts", "(JJ)V"⟩
abbrev b_X_splitIntoParts : ByteArray := prog_1_method_29_code
def y_X_takeLowestDigit : MethodName := ⟨"WideFractions", "takeLowestDigit", "()I"⟩
abbrev b_X_takeLowestDigit : ByteArray := prog_1_method_30_code
def y_X_partsAreZero : MethodName := ⟨"WideFractions", "partsAreZero", "()Z"⟩
abbrev b_X_partsAreZero : ByteArray := prog_1_method_31_code
def y_L_next : MethodName := ⟨"WideFractionsLaw", "next", "(LWideFractions;II[J)I"⟩
abbrev b_L_next : ByteArray := method_15_code
def y_X_next : MethodName := ⟨"WideFractions", "next", "(II)Z"⟩
abbrev b_X_next : ByteArray := prog_1_method_15_code
def y_M_init : MethodName := ⟨"WideFractionsModel", "<init>", "()V"⟩
abbrev b_M_init : ByteArray := prog_3_method_1_code
def y_M_thrown : MethodName := ⟨"WideFractionsModel", "thrown", "()I"⟩
abbrev b_M_thrown : ByteArray := prog_3_method_2_code
def y_M_set : MethodName := ⟨"WideFractionsModel", "set", "(IJJ)V"⟩
abbrev b_M_set : ByteArray := prog_3_method_6_code
def y_M_none : MethodName := ⟨"WideFractionsModel", "none", "(I)Z"⟩
abbrev b_M_none : ByteArray := prog_3_method_3_code
def y_M_half : MethodName := ⟨"WideFractionsModel", "half", "(IZ)J"⟩
abbrev b_M_half : ByteArray := prog_3_method_7_code
def y_M_add : MethodName := ⟨"WideFractionsModel", "add", "(III)Z"⟩
abbrev b_M_add : ByteArray := prog_3_method_9_code
def y_M_copy : MethodName := ⟨"WideFractionsModel", "copy", "(II)V"⟩
abbrev b_M_copy : ByteArray := prog_3_method_4_code
def y_M_join : MethodName := ⟨"WideFractionsModel", "join", "(Z)Z"⟩
abbrev b_M_join : ByteArray := prog_3_method_8_code
def y_M_subtract : MethodName := ⟨"WideFractionsModel", "subtract", "(III)Z"⟩
abbrev b_M_subtract : ByteArray := prog_3_method_10_code
def y_M_multiply : MethodName := ⟨"WideFractionsModel", "multiply", "(IIII)V"⟩
abbrev b_M_multiply : ByteArray := prog_3_method_12_code
def y_M_findProduct : MethodName := ⟨"WideFractionsModel", "findProduct", "(II)V"⟩
abbrev b_M_findProduct : ByteArray := prog_3_method_11_code
def y_M_take : MethodName := ⟨"WideFractionsModel", "take", "([ZII)V"⟩
abbrev b_M_take : ByteArray := prog_3_method_5_code
def y_M_divide : MethodName := ⟨"WideFractionsModel", "divide", "(IIII)V"⟩
abbrev b_M_divide : ByteArray := prog_3_method_17_code
def y_M_clearRest : MethodName := ⟨"WideFractionsModel", "clearRest", "()V"⟩
abbrev b_M_clearRest : ByteArray := prog_3_method_13_code
def y_M_bring : MethodName := ⟨"WideFractionsModel", "bring", "(Z)V"⟩
abbrev b_M_bring : ByteArray := prog_3_method_14_code
def y_M_takeAway : MethodName := ⟨"WideFractionsModel", "takeAway", "(I)Z"⟩
abbrev b_M_takeAway : ByteArray := prog_3_method_16_code
def y_M_lower : MethodName := ⟨"WideFractionsModel", "lower", "(II)Z"⟩
abbrev b_M_lower : ByteArray := prog_3_method_15_code
def y_M_root : MethodName := ⟨"WideFractionsModel", "root", "(III)V"⟩
abbrev b_M_root : ByteArray := prog_3_method_18_code
def y_M_shift : MethodName := ⟨"WideFractionsModel", "shift", "(III)Z"⟩
abbrev b_M_shift : ByteArray := prog_3_method_20_code
def y_M_move : MethodName := ⟨"WideFractionsModel", "move", "(IJI)Z"⟩
abbrev b_M_move : ByteArray := prog_3_method_19_code
def y_M_jam : MethodName := ⟨"WideFractionsModel", "jam", "(III)V"⟩
abbrev b_M_jam : ByteArray := prog_3_method_21_code
def y_M_zeros : MethodName := ⟨"WideFractionsModel", "zeros", "(I)I"⟩
abbrev b_M_zeros : ByteArray := prog_3_method_22_code
def y_M_compare : MethodName := ⟨"WideFractionsModel", "compare", "(II)I"⟩
abbrev b_M_compare : ByteArray := prog_3_method_23_code
def y_M_digits : MethodName := ⟨"WideFractionsModel", "digits", "(I)I"⟩
abbrev b_M_digits : ByteArray := prog_3_method_24_code
def y_M_digit : MethodName := ⟨"WideFractionsModel", "digit", "(I)I"⟩
abbrev b_M_digit : ByteArray := prog_3_method_25_code
def y_M_next : MethodName := ⟨"WideFractionsModel", "next", "(II)Z"⟩
abbrev b_M_next : ByteArray := prog_3_method_26_code
theorem k_in_L : Cond.initialized "WideFractionsLaw" ∈ wG := wG_in (List.mem_append_right _ (List.mem_append_left _ (List.mem_of_getElem? (i := 0) rfl))) rfl
theorem k_in_X : Cond.initialized "WideFractions" ∈ wG := wG_in (List.mem_append_right _ (List.mem_append_left _ (List.mem_of_getElem? (i := 1) rfl))) rfl
theorem k_in_M : Cond.initialized "WideFractionsModel" ∈ wG := wG_in (List.mem_append_right _ (List.mem_append_left _ (List.mem_of_getElem? (i := 2) rfl))) rfl
theorem k_in_Throwable : Cond.initialized "java/lang/Throwable" ∈ wG := wG_in (List.mem_append_right _ (List.mem_append_left _ (List.mem_of_getElem? (i := 3) rfl))) rfl
theorem k_in_Exception : Cond.initialized "java/lang/Exception" ∈ wG := wG_in (List.mem_append_right _ (List.mem_append_left _ (List.mem_of_getElem? (i := 4) rfl))) rfl
theorem k_in_RuntimeException : Cond.initialized "java/lang/RuntimeException" ∈ wG := wG_in (List.mem_append_right _ (List.mem_append_left _ (List.mem_of_getElem? (i := 5) rfl))) rfl
theorem k_in_IndexOutOfBoundsException : Cond.initialized "java/lang/IndexOutOfBoundsException" ∈ wG := wG_in (List.mem_append_right _ (List.mem_append_left _ (List.mem_of_getElem? (i := 6) rfl))) rfl
theorem k_in_Jl : Cond.initialized "java/lang/Long" ∈ wG := wG_in (List.mem_append_right _ (List.mem_append_left _ (List.mem_of_getElem? (i := 7) rfl))) rfl
theorem k_in_IllegalArgumentException : Cond.initialized "java/lang/IllegalArgumentException" ∈ wG := wG_in (List.mem_append_right _ (List.mem_append_left _ (List.mem_of_getElem? (i := 8) rfl))) rfl
theorem k_in_ArithmeticException : Cond.initialized "java/lang/ArithmeticException" ∈ wG := wG_in (List.mem_append_right _ (List.mem_append_left _ (List.mem_of_getElem? (i := 9) rfl))) rfl
theorem k_in_Ji : Cond.initialized "java/lang/Integer" ∈ wG := wG_in (List.mem_append_right _ (List.mem_append_left _ (List.mem_of_getElem? (i := 10) rfl))) rfl
theorem k_kl_L_8 : Cond.classLink "WideFractionsLaw" 8 "WideFractions" ∈ wG := wG_in (List.mem_append_right _ (List.mem_append_left _ (List.mem_of_getElem? (i := 11) rfl))) rfl
theorem k_it_X : Cond.instantiable "WideFractions" 5 ∈ wG := wG_in (List.mem_append_right _ (List.mem_append_left _ (List.mem_of_getElem? (i := 12) rfl))) rfl
theorem k_ml_L_62 : Cond.methodLink RL 62 y_X_init ∈ wG := wG_in (List.mem_append_right _ (List.mem_append_left _ (List.mem_of_getElem? (i := 13) rfl))) rfl
theorem k_im_X_init : Cond.instanceMethod y_X_init ∈ wG := wG_in (List.mem_append_right _ (List.mem_append_left _ (List.mem_of_getElem? (i := 14) rfl))) rfl
theorem k_X_init : Cond.code y_X_init b_X_init 1 none ∈ wG := wG_in (List.mem_append_right _ (List.mem_append_left _ (List.mem_of_getElem? (i := 15) rfl))) rfl
theorem k_ml_X_1 : Cond.methodLink RX 1 objectInit ∈ wG := wG_in (List.mem_append_right _ (List.mem_append_left _ (List.mem_of_getElem? (i := 16) rfl))) rfl
theorem k_im_Object : Cond.instanceMethod objectInit ∈ wG := wG_in (List.mem_append_right _ (List.mem_append_left _ (List.mem_of_getElem? (i := 17) rfl))) rfl
theorem k_fl_X_highs : Cond.fieldLink RX 9 RX "highs" "[J" ∈ wG := wG_in (List.mem_append_right _ (List.mem_append_left _ (List.mem_of_getElem? (i := 19) rfl))) rfl
theorem k_fl_X_lows : Cond.fieldLink RX 13 RX "lows" "[J" ∈ wG := wG_in (List.mem_append_right _ (List.mem_append_left _ (List.mem_of_getElem? (i := 20) rfl))) rfl
theorem k_fl_X_parts : Cond.fieldLink RX 16 RX "parts" "[J" ∈ wG := wG_in (List.mem_append_right _ (List.mem_append_left _ (List.mem_of_getElem? (i := 21) rfl))) rfl
theorem k_fl_X_digitRow : Cond.fieldLink RX 19 RX "digitRow" "[I" ∈ wG := wG_in (List.mem_append_right _ (List.mem_append_left _ (List.mem_of_getElem? (i := 22) rfl))) rfl
theorem k_fl_X_firstDigit : Cond.fieldLink RX 23 RX "firstDigit" "I" ∈ wG := wG_in (List.mem_append_right _ (List.mem_append_left _ (List.mem_of_getElem? (i := 23) rfl))) rfl
theorem k_ac_long : Cond.arrayClass .long ∈ wG := wG_in (List.mem_append_right _ (List.mem_append_left _ (List.mem_of_getElem? (i := 35) rfl))) rfl
theorem k_ac_int : Cond.arrayClass .int ∈ wG := wG_in (List.mem_append_right _ (List.mem_append_left _ (List.mem_of_getElem? (i := 36) rfl))) rfl
theorem k_ml_L_117 : Cond.methodLink RL 117 y_X_digit ∈ wG := wG_in (List.mem_append_right _ (List.mem_append_left _ (List.mem_of_getElem? (i := 37) rfl))) rfl
theorem k_im_X_digit : Cond.instanceMethod y_X_digit ∈ wG := wG_in (List.mem_append_right _ (List.mem_append_left _ (List.mem_of_getElem? (i := 38) rfl))) rfl
theorem k_se_X_digit : Cond.selects RX y_X_digit y_X_digit ∈ wG := wG_in (List.mem_append_right _ (List.mem_append_left _ (List.mem_of_getElem? (i := 39) rfl))) rfl
theorem k_X_digit : Cond.code y_X_digit b_X_digit 2 (some .int) ∈ wG := wG_in (List.mem_append_right _ (List.mem_append_left _ (List.mem_of_getElem? (i := 40) rfl))) rfl
theorem k_ml_L_68 : Cond.methodLink RL 68 y_L_set ∈ wG := wG_in (List.mem_append_right _ (List.mem_append_left _ (List.mem_of_getElem? (i := 41) rfl))) rfl
theorem k_st_L_set : Cond.static y_L_set ∈ wG := wG_in (List.mem_append_right _ (List.mem_append_left _ (List.mem_of_getElem? (i := 42) rfl))) rfl
theorem k_L_set : Cond.codeWith y_L_set b_L_set 7 (some .int) [(0, 8, 11, 13)] ∈ wG := wG_in (List.mem_append_right _ (List.mem_append_left _ (List.mem_of_getElem? (i := 43) rfl))) rfl
theorem k_kl_L_13 : Cond.classLink "WideFractionsLaw" 13 "java/lang/IndexOutOfBoundsException" ∈ wG := wG_in (List.mem_append_right _ (List.mem_append_left _ (List.mem_of_getElem? (i := 44) rfl))) rfl
theorem k_ml_L_7 : Cond.methodLink RL 7 y_X_set ∈ wG := wG_in (List.mem_append_right _ (List.mem_append_left _ (List.mem_of_getElem? (i := 45) rfl))) rfl
theorem k_im_X_set : Cond.instanceMethod y_X_set ∈ wG := wG_in (List.mem_append_right _ (List.mem_append_left _ (List.mem_of_getElem? (i := 46) rfl))) rfl
theorem k_se_X_set : Cond.selects RX y_X_set y_X_set ∈ wG := wG_in (List.mem_append_right _ (List.mem_append_left _ (List.mem_of_getElem? (i := 47) rfl))) rfl
theorem k_X_set : Cond.code y_X_set b_X_set 6 none ∈ wG := wG_in (List.mem_append_right _ (List.mem_append_left _ (List.mem_of_getElem? (i := 48) rfl))) rfl
theorem k_ml_X_27 : Cond.methodLink RX 27 y_X_checkRegister ∈ wG := wG_in (List.mem_append_right _ (List.mem_append_left _ (List.mem_of_getElem? (i := 49) rfl))) rfl
theorem k_st_X_checkRegister : Cond.static y_X_checkRegister ∈ wG := wG_in (List.mem_append_right _ (List.mem_append_left _ (List.mem_of_getElem? (i := 50) rfl))) rfl
theorem k_X_checkRegister : Cond.code y_X_checkRegister b_X_checkRegister 1 none ∈ wG := wG_in (List.mem_append_right _ (List.mem_append_left _ (List.mem_of_getElem? (i := 51) rfl))) rfl
theorem k_kl_X_100 : Cond.classLink "WideFractions" 100 "java/lang/IndexOutOfBoundsException" ∈ wG := wG_in (List.mem_append_right _ (List.mem_append_left _ (List.mem_of_getElem? (i := 52) rfl))) rfl
theorem k_it_IndexOutOfBoundsException : Cond.instantiable "java/lang/IndexOutOfBoundsException" 6 ∈ wG := wG_in (List.mem_append_right _ (List.mem_append_left _ (List.mem_of_getElem? (i := 53) rfl))) rfl
theorem k_it_Throwable : Cond.instantiable "java/lang/Throwable" 6 ∈ wG := wG_in (List.mem_append_right _ (List.mem_append_left _ (List.mem_of_getElem? (i := 91) rfl))) rfl
theorem k_ac_byte : Cond.arrayClass .byte ∈ wG := wG_in (List.mem_append_right _ (List.mem_append_left _ (List.mem_of_getElem? (i := 119) rfl))) rfl
theorem k_ml_X_31 : Cond.methodLink RX 31 y_X_store ∈ wG := wG_in (List.mem_append_right _ (List.mem_append_left _ (List.mem_of_getElem? (i := 120) rfl))) rfl
theorem k_im_X_store : Cond.instanceMethod y_X_store ∈ wG := wG_in (List.mem_append_right _ (List.mem_append_left _ (List.mem_of_getElem? (i := 122) rfl))) rfl
theorem k_X_store : Cond.code y_X_store b_X_store 6 none ∈ wG := wG_in (List.mem_append_right _ (List.mem_append_left _ (List.mem_of_getElem? (i := 123) rfl))) rfl
theorem k_ml_L_78 : Cond.methodLink RL 78 y_L_half ∈ wG := wG_in (List.mem_append_right _ (List.mem_append_left _ (List.mem_of_getElem? (i := 124) rfl))) rfl
theorem k_st_L_half : Cond.static y_L_half ∈ wG := wG_in (List.mem_append_right _ (List.mem_append_left _ (List.mem_of_getElem? (i := 125) rfl))) rfl
theorem k_L_half : Cond.codeWith y_L_half b_L_half 5 (some .int) [(0, 9, 12, 13)] ∈ wG := wG_in (List.mem_append_right _ (List.mem_append_left _ (List.mem_of_getElem? (i := 126) rfl))) rfl
theorem k_ml_L_15 : Cond.methodLink RL 15 y_X_half ∈ wG := wG_in (List.mem_append_right _ (List.mem_append_left _ (List.mem_of_getElem? (i := 127) rfl))) rfl
theorem k_im_X_half : Cond.instanceMethod y_X_half ∈ wG := wG_in (List.mem_append_right _ (List.mem_append_left _ (List.mem_of_getElem? (i := 128) rfl))) rfl
theorem k_se_X_half : Cond.selects RX y_X_half y_X_half ∈ wG := wG_in (List.mem_append_right _ (List.mem_append_left _ (List.mem_of_getElem? (i := 129) rfl))) rfl
theorem k_X_half : Cond.code y_X_half b_X_half 3 (some .long) ∈ wG := wG_in (List.mem_append_right _ (List.mem_append_left _ (List.mem_of_getElem? (i := 130) rfl))) rfl
theorem k_ml_L_82 : Cond.methodLink RL 82 y_L_add ∈ wG := wG_in (List.mem_append_right _ (List.mem_append_left _ (List.mem_of_getElem? (i := 131) rfl))) rfl
theorem k_st_L_add : Cond.static y_L_add ∈ wG := wG_in (List.mem_append_right _ (List.mem_append_left _ (List.mem_of_getElem? (i := 132) rfl))) rfl
theorem k_L_add : Cond.codeWith y_L_add b_L_add 6 (some .int) [(0, 19, 22, 13)] ∈ wG := wG_in (List.mem_append_right _ (List.mem_append_left _ (List.mem_of_getElem? (i := 133) rfl))) rfl
theorem k_ml_L_19 : Cond.methodLink RL 19 y_X_add ∈ wG := wG_in (List.mem_append_right _ (List.mem_append_left _ (List.mem_of_getElem? (i := 134) rfl))) rfl
theorem k_im_X_add : Cond.instanceMethod y_X_add ∈ wG := wG_in (List.mem_append_right _ (List.mem_append_left _ (List.mem_of_getElem? (i := 135) rfl))) rfl
theorem k_se_X_add : Cond.selects RX y_X_add y_X_add ∈ wG := wG_in (List.mem_append_right _ (List.mem_append_left _ (List.mem_of_getElem? (i := 136) rfl))) rfl
theorem k_X_add : Cond.code y_X_add b_X_add 13 (some .boolean) ∈ wG := wG_in (List.mem_append_right _ (List.mem_append_left _ (List.mem_of_getElem? (i := 137) rfl))) rfl
theorem k_ml_X_35 : Cond.methodLink RX 35 y_X_oneIfBelow ∈ wG := wG_in (List.mem_append_right _ (List.mem_append_left _ (List.mem_of_getElem? (i := 138) rfl))) rfl
theorem k_st_X_oneIfBelow : Cond.static y_X_oneIfBelow ∈ wG := wG_in (List.mem_append_right _ (List.mem_append_left _ (List.mem_of_getElem? (i := 139) rfl))) rfl
theorem k_X_oneIfBelow : Cond.code y_X_oneIfBelow b_X_oneIfBelow 4 (some .long) ∈ wG := wG_in (List.mem_append_right _ (List.mem_append_left _ (List.mem_of_getElem? (i := 140) rfl))) rfl
theorem k_ml_X_107 : Cond.methodLink RX 107 y_Jl_compareUnsigned ∈ wG := wG_in (List.mem_append_right _ (List.mem_append_left _ (List.mem_of_getElem? (i := 141) rfl))) rfl
theorem k_st_Jl_compareUnsigned : Cond.static y_Jl_compareUnsigned ∈ wG := wG_in (List.mem_append_right _ (List.mem_append_left _ (List.mem_of_getElem? (i := 142) rfl))) rfl
theorem k_Jl_compareUnsigned : Cond.code y_Jl_compareUnsigned b_Jl_compareUnsigned 4 (some .int) ∈ wG := wG_in (List.mem_append_right _ (List.mem_append_left _ (List.mem_of_getElem? (i := 143) rfl))) rfl
theorem k_cl_Jl_168 : Cond.constantLong RJl 168 (-9223372036854775808) ∈ wG := wG_in (List.mem_append_right _ (List.mem_append_left _ (List.mem_of_getElem? (i := 144) rfl))) rfl
theorem k_ml_Jl_302 : Cond.methodLink RJl 302 y_Jl_compare ∈ wG := wG_in (List.mem_append_right _ (List.mem_append_left _ (List.mem_of_getElem? (i := 145) rfl))) rfl
theorem k_st_Jl_compare : Cond.static y_Jl_compare ∈ wG := wG_in (List.mem_append_right _ (List.mem_append_left _ (List.mem_of_getElem? (i := 146) rfl))) rfl
theorem k_Jl_compare : Cond.code y_Jl_compare b_Jl_compare 4 (some .int) ∈ wG := wG_in (List.mem_append_right _ (List.mem_append_left _ (List.mem_of_getElem? (i := 147) rfl))) rfl
theorem k_ml_L_86 : Cond.methodLink RL 86 y_L_subtract ∈ wG := wG_in (List.mem_append_right _ (List.mem_append_left _ (List.mem_of_getElem? (i := 148) rfl))) rfl
theorem k_st_L_subtract : Cond.static y_L_subtract ∈ wG := wG_in (List.mem_append_right _ (List.mem_append_left _ (List.mem_of_getElem? (i := 149) rfl))) rfl
theorem k_L_subtract : Cond.codeWith y_L_subtract b_L_subtract 6 (some .int) [(0, 19, 22, 13)] ∈ wG := wG_in (List.mem_append_right _ (List.mem_append_left _ (List.mem_of_getElem? (i := 150) rfl))) rfl
theorem k_ml_L_23 : Cond.methodLink RL 23 y_X_subtract ∈ wG := wG_in (List.mem_append_right _ (List.mem_append_left _ (List.mem_of_getElem? (i := 151) rfl))) rfl
theorem k_im_X_subtract : Cond.instanceMethod y_X_subtract ∈ wG := wG_in (List.mem_append_right _ (List.mem_append_left _ (List.mem_of_getElem? (i := 152) rfl))) rfl
theorem k_se_X_subtract : Cond.selects RX y_X_subtract y_X_subtract ∈ wG := wG_in (List.mem_append_right _ (List.mem_append_left _ (List.mem_of_getElem? (i := 153) rfl))) rfl
theorem k_X_subtract : Cond.code y_X_subtract b_X_subtract 7 (some .boolean) ∈ wG := wG_in (List.mem_append_right _ (List.mem_append_left _ (List.mem_of_getElem? (i := 154) rfl))) rfl
theorem k_ml_X_39 : Cond.methodLink RX 39 y_X_isBelow ∈ wG := wG_in (List.mem_append_right _ (List.mem_append_left _ (List.mem_of_getElem? (i := 155) rfl))) rfl
theorem k_st_X_isBelow : Cond.static y_X_isBelow ∈ wG := wG_in (List.mem_append_right _ (List.mem_append_left _ (List.mem_of_getElem? (i := 156) rfl))) rfl
theorem k_X_isBelow : Cond.code y_X_isBelow b_X_isBelow 9 (some .boolean) ∈ wG := wG_in (List.mem_append_right _ (List.mem_append_left _ (List.mem_of_getElem? (i := 157) rfl))) rfl
theorem k_ml_L_89 : Cond.methodLink RL 89 y_L_multiply ∈ wG := wG_in (List.mem_append_right _ (List.mem_append_left _ (List.mem_of_getElem? (i := 158) rfl))) rfl
theorem k_st_L_multiply : Cond.static y_L_multiply ∈ wG := wG_in (List.mem_append_right _ (List.mem_append_left _ (List.mem_of_getElem? (i := 159) rfl))) rfl
theorem k_L_multiply : Cond.codeWith y_L_multiply b_L_multiply 6 (some .int) [(0, 9, 12, 13), (0, 9, 16, 30)] ∈ wG := wG_in (List.mem_append_right _ (List.mem_append_left _ (List.mem_of_getElem? (i := 160) rfl))) rfl
theorem k_kl_L_30 : Cond.classLink "WideFractionsLaw" 30 "java/lang/IllegalArgumentException" ∈ wG := wG_in (List.mem_append_right _ (List.mem_append_left _ (List.mem_of_getElem? (i := 161) rfl))) rfl
theorem k_ml_L_26 : Cond.methodLink RL 26 y_X_multiply ∈ wG := wG_in (List.mem_append_right _ (List.mem_append_left _ (List.mem_of_getElem? (i := 162) rfl))) rfl
theorem k_im_X_multiply : Cond.instanceMethod y_X_multiply ∈ wG := wG_in (List.mem_append_right _ (List.mem_append_left _ (List.mem_of_getElem? (i := 163) rfl))) rfl
theorem k_se_X_multiply : Cond.selects RX y_X_multiply y_X_multiply ∈ wG := wG_in (List.mem_append_right _ (List.mem_append_left _ (List.mem_of_getElem? (i := 164) rfl))) rfl
theorem k_X_multiply : Cond.code y_X_multiply b_X_multiply 5 none ∈ wG := wG_in (List.mem_append_right _ (List.mem_append_left _ (List.mem_of_getElem? (i := 165) rfl))) rfl
theorem k_ml_X_43 : Cond.methodLink RX 43 y_X_checkApart ∈ wG := wG_in (List.mem_append_right _ (List.mem_append_left _ (List.mem_of_getElem? (i := 166) rfl))) rfl
theorem k_st_X_checkApart : Cond.static y_X_checkApart ∈ wG := wG_in (List.mem_append_right _ (List.mem_append_left _ (List.mem_of_getElem? (i := 167) rfl))) rfl
theorem k_X_checkApart : Cond.code y_X_checkApart b_X_checkApart 2 none ∈ wG := wG_in (List.mem_append_right _ (List.mem_append_left _ (List.mem_of_getElem? (i := 168) rfl))) rfl
theorem k_kl_X_72 : Cond.classLink "WideFractions" 72 "java/lang/IllegalArgumentException" ∈ wG := wG_in (List.mem_append_right _ (List.mem_append_left _ (List.mem_of_getElem? (i := 169) rfl))) rfl
theorem k_it_IllegalArgumentException : Cond.instantiable "java/lang/IllegalArgumentException" 6 ∈ wG := wG_in (List.mem_append_right _ (List.mem_append_left _ (List.mem_of_getElem? (i := 170) rfl))) rfl
theorem k_ml_X_47 : Cond.methodLink RX 47 y_X_storeProduct ∈ wG := wG_in (List.mem_append_right _ (List.mem_append_left _ (List.mem_of_getElem? (i := 185) rfl))) rfl
theorem k_im_X_storeProduct : Cond.instanceMethod y_X_storeProduct ∈ wG := wG_in (List.mem_append_right _ (List.mem_append_left _ (List.mem_of_getElem? (i := 187) rfl))) rfl
theorem k_X_storeProduct : Cond.code y_X_storeProduct b_X_storeProduct 31 none ∈ wG := wG_in (List.mem_append_right _ (List.mem_append_left _ (List.mem_of_getElem? (i := 188) rfl))) rfl
theorem k_ml_X_97 : Cond.methodLink RX 97 y_X_productOver ∈ wG := wG_in (List.mem_append_right _ (List.mem_append_left _ (List.mem_of_getElem? (i := 189) rfl))) rfl
theorem k_st_X_productOver : Cond.static y_X_productOver ∈ wG := wG_in (List.mem_append_right _ (List.mem_append_left _ (List.mem_of_getElem? (i := 190) rfl))) rfl
theorem k_X_productOver : Cond.code y_X_productOver b_X_productOver 16 (some .long) ∈ wG := wG_in (List.mem_append_right _ (List.mem_append_left _ (List.mem_of_getElem? (i := 191) rfl))) rfl
theorem k_cl_X_112 : Cond.constantLong RX 112 4294967295 ∈ wG := wG_in (List.mem_append_right _ (List.mem_append_left _ (List.mem_of_getElem? (i := 192) rfl))) rfl
theorem k_ml_L_93 : Cond.methodLink RL 93 y_L_divide ∈ wG := wG_in (List.mem_append_right _ (List.mem_append_left _ (List.mem_of_getElem? (i := 193) rfl))) rfl
theorem k_st_L_divide : Cond.static y_L_divide ∈ wG := wG_in (List.mem_append_right _ (List.mem_append_left _ (List.mem_of_getElem? (i := 194) rfl))) rfl
theorem k_L_divide : Cond.codeWith y_L_divide b_L_divide 6 (some .int) [(0, 9, 12, 13), (0, 9, 16, 30), (0, 9, 20, 35)] ∈ wG := wG_in (List.mem_append_right _ (List.mem_append_left _ (List.mem_of_getElem? (i := 195) rfl))) rfl
theorem k_kl_L_35 : Cond.classLink "WideFractionsLaw" 35 "java/lang/ArithmeticException" ∈ wG := wG_in (List.mem_append_right _ (List.mem_append_left _ (List.mem_of_getElem? (i := 196) rfl))) rfl
theorem k_ml_L_32 : Cond.methodLink RL 32 y_X_divide ∈ wG := wG_in (List.mem_append_right _ (List.mem_append_left _ (List.mem_of_getElem? (i := 197) rfl))) rfl
theorem k_im_X_divide : Cond.instanceMethod y_X_divide ∈ wG := wG_in (List.mem_append_right _ (List.mem_append_left _ (List.mem_of_getElem? (i := 198) rfl))) rfl
theorem k_se_X_divide : Cond.selects RX y_X_divide y_X_divide ∈ wG := wG_in (List.mem_append_right _ (List.mem_append_left _ (List.mem_of_getElem? (i := 199) rfl))) rfl
theorem k_X_divide : Cond.code y_X_divide b_X_divide 5 none ∈ wG := wG_in (List.mem_append_right _ (List.mem_append_left _ (List.mem_of_getElem? (i := 200) rfl))) rfl
theorem k_kl_X_51 : Cond.classLink "WideFractions" 51 "java/lang/ArithmeticException" ∈ wG := wG_in (List.mem_append_right _ (List.mem_append_left _ (List.mem_of_getElem? (i := 201) rfl))) rfl
theorem k_it_ArithmeticException : Cond.instantiable "java/lang/ArithmeticException" 6 ∈ wG := wG_in (List.mem_append_right _ (List.mem_append_left _ (List.mem_of_getElem? (i := 202) rfl))) rfl
theorem k_ml_X_58 : Cond.methodLink RX 58 y_X_storeQuotient ∈ wG := wG_in (List.mem_append_right _ (List.mem_append_left _ (List.mem_of_getElem? (i := 217) rfl))) rfl
theorem k_im_X_storeQuotient : Cond.instanceMethod y_X_storeQuotient ∈ wG := wG_in (List.mem_append_right _ (List.mem_append_left _ (List.mem_of_getElem? (i := 219) rfl))) rfl
theorem k_X_storeQuotient : Cond.code y_X_storeQuotient b_X_storeQuotient 21 none ∈ wG := wG_in (List.mem_append_right _ (List.mem_append_left _ (List.mem_of_getElem? (i := 220) rfl))) rfl
theorem k_ml_L_96 : Cond.methodLink RL 96 y_L_root ∈ wG := wG_in (List.mem_append_right _ (List.mem_append_left _ (List.mem_of_getElem? (i := 221) rfl))) rfl
theorem k_st_L_root : Cond.static y_L_root ∈ wG := wG_in (List.mem_append_right _ (List.mem_append_left _ (List.mem_of_getElem? (i := 222) rfl))) rfl
theorem k_L_root : Cond.codeWith y_L_root b_L_root 5 (some .int) [(0, 7, 10, 13), (0, 7, 14, 30)] ∈ wG := wG_in (List.mem_append_right _ (List.mem_append_left _ (List.mem_of_getElem? (i := 223) rfl))) rfl
theorem k_ml_L_37 : Cond.methodLink RL 37 y_X_root ∈ wG := wG_in (List.mem_append_right _ (List.mem_append_left _ (List.mem_of_getElem? (i := 224) rfl))) rfl
theorem k_im_X_root : Cond.instanceMethod y_X_root ∈ wG := wG_in (List.mem_append_right _ (List.mem_append_left _ (List.mem_of_getElem? (i := 225) rfl))) rfl
theorem k_se_X_root : Cond.selects RX y_X_root y_X_root ∈ wG := wG_in (List.mem_append_right _ (List.mem_append_left _ (List.mem_of_getElem? (i := 226) rfl))) rfl
theorem k_X_root : Cond.code y_X_root b_X_root 4 none ∈ wG := wG_in (List.mem_append_right _ (List.mem_append_left _ (List.mem_of_getElem? (i := 227) rfl))) rfl
theorem k_ml_X_61 : Cond.methodLink RX 61 y_X_storeRoot ∈ wG := wG_in (List.mem_append_right _ (List.mem_append_left _ (List.mem_of_getElem? (i := 228) rfl))) rfl
theorem k_im_X_storeRoot : Cond.instanceMethod y_X_storeRoot ∈ wG := wG_in (List.mem_append_right _ (List.mem_append_left _ (List.mem_of_getElem? (i := 230) rfl))) rfl
theorem k_X_storeRoot : Cond.code y_X_storeRoot b_X_storeRoot 22 none ∈ wG := wG_in (List.mem_append_right _ (List.mem_append_left _ (List.mem_of_getElem? (i := 231) rfl))) rfl
theorem k_ml_L_100 : Cond.methodLink RL 100 y_L_shift ∈ wG := wG_in (List.mem_append_right _ (List.mem_append_left _ (List.mem_of_getElem? (i := 232) rfl))) rfl
theorem k_st_L_shift : Cond.static y_L_shift ∈ wG := wG_in (List.mem_append_right _ (List.mem_append_left _ (List.mem_of_getElem? (i := 233) rfl))) rfl
theorem k_L_shift : Cond.codeWith y_L_shift b_L_shift 6 (some .int) [(0, 19, 22, 13)] ∈ wG := wG_in (List.mem_append_right _ (List.mem_append_left _ (List.mem_of_getElem? (i := 234) rfl))) rfl
theorem k_ml_L_41 : Cond.methodLink RL 41 y_X_shift ∈ wG := wG_in (List.mem_append_right _ (List.mem_append_left _ (List.mem_of_getElem? (i := 235) rfl))) rfl
theorem k_im_X_shift : Cond.instanceMethod y_X_shift ∈ wG := wG_in (List.mem_append_right _ (List.mem_append_left _ (List.mem_of_getElem? (i := 236) rfl))) rfl
theorem k_se_X_shift : Cond.selects RX y_X_shift y_X_shift ∈ wG := wG_in (List.mem_append_right _ (List.mem_append_left _ (List.mem_of_getElem? (i := 237) rfl))) rfl
theorem k_X_shift : Cond.code y_X_shift b_X_shift 5 (some .boolean) ∈ wG := wG_in (List.mem_append_right _ (List.mem_append_left _ (List.mem_of_getElem? (i := 238) rfl))) rfl
theorem k_ml_X_65 : Cond.methodLink RX 65 y_X_storeShiftedUp ∈ wG := wG_in (List.mem_append_right _ (List.mem_append_left _ (List.mem_of_getElem? (i := 239) rfl))) rfl
theorem k_im_X_storeShiftedUp : Cond.instanceMethod y_X_storeShiftedUp ∈ wG := wG_in (List.mem_append_right _ (List.mem_append_right _ (List.mem_of_getElem? (i := 1) rfl))) rfl
theorem k_X_storeShiftedUp : Cond.code y_X_storeShiftedUp b_X_storeShiftedUp 7 (some .boolean) ∈ wG := wG_in (List.mem_append_right _ (List.mem_append_right _ (List.mem_of_getElem? (i := 2) rfl))) rfl
theorem k_ml_X_77 : Cond.methodLink RX 77 y_X_zerosAbove ∈ wG := wG_in (List.mem_append_right _ (List.mem_append_right _ (List.mem_of_getElem? (i := 3) rfl))) rfl
theorem k_st_X_zerosAbove : Cond.static y_X_zerosAbove ∈ wG := wG_in (List.mem_append_right _ (List.mem_append_right _ (List.mem_of_getElem? (i := 4) rfl))) rfl
theorem k_X_zerosAbove : Cond.code y_X_zerosAbove b_X_zerosAbove 4 (some .int) ∈ wG := wG_in (List.mem_append_right _ (List.mem_append_right _ (List.mem_of_getElem? (i := 5) rfl))) rfl
theorem k_ml_X_117 : Cond.methodLink RX 117 y_Jl_numberOfLeadingZeros ∈ wG := wG_in (List.mem_append_right _ (List.mem_append_right _ (List.mem_of_getElem? (i := 6) rfl))) rfl
theorem k_st_Jl_numberOfLeadingZeros : Cond.static y_Jl_numberOfLeadingZeros ∈ wG := wG_in (List.mem_append_right _ (List.mem_append_right _ (List.mem_of_getElem? (i := 7) rfl))) rfl
theorem k_Jl_numberOfLeadingZeros : Cond.code y_Jl_numberOfLeadingZeros b_Jl_numberOfLeadingZeros 3 (some .int) ∈ wG := wG_in (List.mem_append_right _ (List.mem_append_right _ (List.mem_of_getElem? (i := 8) rfl))) rfl
theorem k_ml_Jl_308 : Cond.methodLink RJl 308 y_Ji_numberOfLeadingZeros ∈ wG := wG_in (List.mem_append_right _ (List.mem_append_right _ (List.mem_of_getElem? (i := 9) rfl))) rfl
theorem k_st_Ji_numberOfLeadingZeros : Cond.static y_Ji_numberOfLeadingZeros ∈ wG := wG_in (List.mem_append_right _ (List.mem_append_right _ (List.mem_of_getElem? (i := 10) rfl))) rfl
theorem k_Ji_numberOfLeadingZeros : Cond.code y_Ji_numberOfLeadingZeros b_Ji_numberOfLeadingZeros 2 (some .int) ∈ wG := wG_in (List.mem_append_right _ (List.mem_append_right _ (List.mem_of_getElem? (i := 11) rfl))) rfl
theorem k_ci_Ji_264 : Cond.constant RJi 264 65536 ∈ wG := wG_in (List.mem_append_right _ (List.mem_append_right _ (List.mem_of_getElem? (i := 12) rfl))) rfl
theorem k_ml_X_69 : Cond.methodLink RX 69 y_X_storeShiftedDown ∈ wG := wG_in (List.mem_append_right _ (List.mem_append_right _ (List.mem_of_getElem? (i := 13) rfl))) rfl
theorem k_im_X_storeShiftedDown : Cond.instanceMethod y_X_storeShiftedDown ∈ wG := wG_in (List.mem_append_right _ (List.mem_append_right _ (List.mem_of_getElem? (i := 15) rfl))) rfl
theorem k_X_storeShiftedDown : Cond.code y_X_storeShiftedDown b_X_storeShiftedDown 7 (some .boolean) ∈ wG := wG_in (List.mem_append_right _ (List.mem_append_right _ (List.mem_of_getElem? (i := 16) rfl))) rfl
theorem k_ml_X_114 : Cond.methodLink RX 114 y_X_zerosBelow ∈ wG := wG_in (List.mem_append_right _ (List.mem_append_right _ (List.mem_of_getElem? (i := 17) rfl))) rfl
theorem k_st_X_zerosBelow : Cond.static y_X_zerosBelow ∈ wG := wG_in (List.mem_append_right _ (List.mem_append_right _ (List.mem_of_getElem? (i := 18) rfl))) rfl
theorem k_X_zerosBelow : Cond.code y_X_zerosBelow b_X_zerosBelow 4 (some .int) ∈ wG := wG_in (List.mem_append_right _ (List.mem_append_right _ (List.mem_of_getElem? (i := 19) rfl))) rfl
theorem k_ml_X_121 : Cond.methodLink RX 121 y_Jl_numberOfTrailingZeros ∈ wG := wG_in (List.mem_append_right _ (List.mem_append_right _ (List.mem_of_getElem? (i := 20) rfl))) rfl
theorem k_st_Jl_numberOfTrailingZeros : Cond.static y_Jl_numberOfTrailingZeros ∈ wG := wG_in (List.mem_append_right _ (List.mem_append_right _ (List.mem_of_getElem? (i := 21) rfl))) rfl
theorem k_Jl_numberOfTrailingZeros : Cond.code y_Jl_numberOfTrailingZeros b_Jl_numberOfTrailingZeros 3 (some .int) ∈ wG := wG_in (List.mem_append_right _ (List.mem_append_right _ (List.mem_of_getElem? (i := 22) rfl))) rfl
theorem k_ml_Jl_311 : Cond.methodLink RJl 311 y_Ji_numberOfTrailingZeros ∈ wG := wG_in (List.mem_append_right _ (List.mem_append_right _ (List.mem_of_getElem? (i := 23) rfl))) rfl
theorem k_st_Ji_numberOfTrailingZeros : Cond.static y_Ji_numberOfTrailingZeros ∈ wG := wG_in (List.mem_append_right _ (List.mem_append_right _ (List.mem_of_getElem? (i := 24) rfl))) rfl
theorem k_Ji_numberOfTrailingZeros : Cond.code y_Ji_numberOfTrailingZeros b_Ji_numberOfTrailingZeros 2 (some .int) ∈ wG := wG_in (List.mem_append_right _ (List.mem_append_right _ (List.mem_of_getElem? (i := 25) rfl))) rfl
theorem k_ml_L_103 : Cond.methodLink RL 103 y_L_jam ∈ wG := wG_in (List.mem_append_right _ (List.mem_append_right _ (List.mem_of_getElem? (i := 26) rfl))) rfl
theorem k_st_L_jam : Cond.static y_L_jam ∈ wG := wG_in (List.mem_append_right _ (List.mem_append_right _ (List.mem_of_getElem? (i := 27) rfl))) rfl
theorem k_L_jam : Cond.codeWith y_L_jam b_L_jam 5 (some .int) [(0, 7, 10, 13), (0, 7, 14, 30)] ∈ wG := wG_in (List.mem_append_right _ (List.mem_append_right _ (List.mem_of_getElem? (i := 28) rfl))) rfl
theorem k_ml_L_44 : Cond.methodLink RL 44 y_X_jam ∈ wG := wG_in (List.mem_append_right _ (List.mem_append_right _ (List.mem_of_getElem? (i := 29) rfl))) rfl
theorem k_im_X_jam : Cond.instanceMethod y_X_jam ∈ wG := wG_in (List.mem_append_right _ (List.mem_append_right _ (List.mem_of_getElem? (i := 30) rfl))) rfl
theorem k_se_X_jam : Cond.selects RX y_X_jam y_X_jam ∈ wG := wG_in (List.mem_append_right _ (List.mem_append_right _ (List.mem_of_getElem? (i := 31) rfl))) rfl
theorem k_X_jam : Cond.code y_X_jam b_X_jam 4 none ∈ wG := wG_in (List.mem_append_right _ (List.mem_append_right _ (List.mem_of_getElem? (i := 32) rfl))) rfl
theorem k_ml_L_106 : Cond.methodLink RL 106 y_L_zeros ∈ wG := wG_in (List.mem_append_right _ (List.mem_append_right _ (List.mem_of_getElem? (i := 34) rfl))) rfl
theorem k_st_L_zeros : Cond.static y_L_zeros ∈ wG := wG_in (List.mem_append_right _ (List.mem_append_right _ (List.mem_of_getElem? (i := 35) rfl))) rfl
theorem k_L_zeros : Cond.codeWith y_L_zeros b_L_zeros 4 (some .int) [(0, 9, 12, 13)] ∈ wG := wG_in (List.mem_append_right _ (List.mem_append_right _ (List.mem_of_getElem? (i := 36) rfl))) rfl
theorem k_ml_L_47 : Cond.methodLink RL 47 y_X_zeros ∈ wG := wG_in (List.mem_append_right _ (List.mem_append_right _ (List.mem_of_getElem? (i := 37) rfl))) rfl
theorem k_im_X_zeros : Cond.instanceMethod y_X_zeros ∈ wG := wG_in (List.mem_append_right _ (List.mem_append_right _ (List.mem_of_getElem? (i := 38) rfl))) rfl
theorem k_se_X_zeros : Cond.selects RX y_X_zeros y_X_zeros ∈ wG := wG_in (List.mem_append_right _ (List.mem_append_right _ (List.mem_of_getElem? (i := 39) rfl))) rfl
theorem k_X_zeros : Cond.code y_X_zeros b_X_zeros 2 (some .int) ∈ wG := wG_in (List.mem_append_right _ (List.mem_append_right _ (List.mem_of_getElem? (i := 40) rfl))) rfl
theorem k_ml_L_110 : Cond.methodLink RL 110 y_L_compare ∈ wG := wG_in (List.mem_append_right _ (List.mem_append_right _ (List.mem_of_getElem? (i := 41) rfl))) rfl
theorem k_st_L_compare : Cond.static y_L_compare ∈ wG := wG_in (List.mem_append_right _ (List.mem_append_right _ (List.mem_of_getElem? (i := 42) rfl))) rfl
theorem k_L_compare : Cond.codeWith y_L_compare b_L_compare 5 (some .int) [(0, 10, 13, 13)] ∈ wG := wG_in (List.mem_append_right _ (List.mem_append_right _ (List.mem_of_getElem? (i := 43) rfl))) rfl
theorem k_ml_L_51 : Cond.methodLink RL 51 y_X_compare ∈ wG := wG_in (List.mem_append_right _ (List.mem_append_right _ (List.mem_of_getElem? (i := 44) rfl))) rfl
theorem k_im_X_compare : Cond.instanceMethod y_X_compare ∈ wG := wG_in (List.mem_append_right _ (List.mem_append_right _ (List.mem_of_getElem? (i := 45) rfl))) rfl
theorem k_se_X_compare : Cond.selects RX y_X_compare y_X_compare ∈ wG := wG_in (List.mem_append_right _ (List.mem_append_right _ (List.mem_of_getElem? (i := 46) rfl))) rfl
theorem k_X_compare : Cond.code y_X_compare b_X_compare 3 (some .int) ∈ wG := wG_in (List.mem_append_right _ (List.mem_append_right _ (List.mem_of_getElem? (i := 47) rfl))) rfl
theorem k_ml_L_114 : Cond.methodLink RL 114 y_L_digits ∈ wG := wG_in (List.mem_append_right _ (List.mem_append_right _ (List.mem_of_getElem? (i := 48) rfl))) rfl
theorem k_st_L_digits : Cond.static y_L_digits ∈ wG := wG_in (List.mem_append_right _ (List.mem_append_right _ (List.mem_of_getElem? (i := 49) rfl))) rfl
theorem k_L_digits : Cond.codeWith y_L_digits b_L_digits 4 (some .int) [(0, 9, 12, 13)] ∈ wG := wG_in (List.mem_append_right _ (List.mem_append_right _ (List.mem_of_getElem? (i := 50) rfl))) rfl
theorem k_ml_L_55 : Cond.methodLink RL 55 y_X_digits ∈ wG := wG_in (List.mem_append_right _ (List.mem_append_right _ (List.mem_of_getElem? (i := 51) rfl))) rfl
theorem k_im_X_digits : Cond.instanceMethod y_X_digits ∈ wG := wG_in (List.mem_append_right _ (List.mem_append_right _ (List.mem_of_getElem? (i := 52) rfl))) rfl
theorem k_se_X_digits : Cond.selects RX y_X_digits y_X_digits ∈ wG := wG_in (List.mem_append_right _ (List.mem_append_right _ (List.mem_of_getElem? (i := 53) rfl))) rfl
theorem k_X_digits : Cond.code y_X_digits b_X_digits 3 (some .int) ∈ wG := wG_in (List.mem_append_right _ (List.mem_append_right _ (List.mem_of_getElem? (i := 54) rfl))) rfl
theorem k_ml_X_81 : Cond.methodLink RX 81 y_X_splitIntoParts ∈ wG := wG_in (List.mem_append_right _ (List.mem_append_right _ (List.mem_of_getElem? (i := 55) rfl))) rfl
theorem k_im_X_splitIntoParts : Cond.instanceMethod y_X_splitIntoParts ∈ wG := wG_in (List.mem_append_right _ (List.mem_append_right _ (List.mem_of_getElem? (i := 57) rfl))) rfl
theorem k_X_splitIntoParts : Cond.code y_X_splitIntoParts b_X_splitIntoParts 5 none ∈ wG := wG_in (List.mem_append_right _ (List.mem_append_right _ (List.mem_of_getElem? (i := 58) rfl))) rfl
theorem k_ml_X_85 : Cond.methodLink RX 85 y_X_takeLowestDigit ∈ wG := wG_in (List.mem_append_right _ (List.mem_append_right _ (List.mem_of_getElem? (i := 59) rfl))) rfl
theorem k_im_X_takeLowestDigit : Cond.instanceMethod y_X_takeLowestDigit ∈ wG := wG_in (List.mem_append_right _ (List.mem_append_right _ (List.mem_of_getElem? (i := 61) rfl))) rfl
theorem k_X_takeLowestDigit : Cond.code y_X_takeLowestDigit b_X_takeLowestDigit 6 (some .int) ∈ wG := wG_in (List.mem_append_right _ (List.mem_append_right _ (List.mem_of_getElem? (i := 62) rfl))) rfl
theorem k_cl_X_93 : Cond.constantLong RX 93 10 ∈ wG := wG_in (List.mem_append_right _ (List.mem_append_right _ (List.mem_of_getElem? (i := 63) rfl))) rfl
theorem k_ml_X_89 : Cond.methodLink RX 89 y_X_partsAreZero ∈ wG := wG_in (List.mem_append_right _ (List.mem_append_right _ (List.mem_of_getElem? (i := 64) rfl))) rfl
theorem k_im_X_partsAreZero : Cond.instanceMethod y_X_partsAreZero ∈ wG := wG_in (List.mem_append_right _ (List.mem_append_right _ (List.mem_of_getElem? (i := 66) rfl))) rfl
theorem k_X_partsAreZero : Cond.code y_X_partsAreZero b_X_partsAreZero 1 (some .boolean) ∈ wG := wG_in (List.mem_append_right _ (List.mem_append_right _ (List.mem_of_getElem? (i := 67) rfl))) rfl
theorem k_ml_L_121 : Cond.methodLink RL 121 y_L_next ∈ wG := wG_in (List.mem_append_right _ (List.mem_append_right _ (List.mem_of_getElem? (i := 68) rfl))) rfl
theorem k_st_L_next : Cond.static y_L_next ∈ wG := wG_in (List.mem_append_right _ (List.mem_append_right _ (List.mem_of_getElem? (i := 69) rfl))) rfl
theorem k_L_next : Cond.codeWith y_L_next b_L_next 5 (some .int) [(0, 17, 20, 13), (0, 17, 24, 30)] ∈ wG := wG_in (List.mem_append_right _ (List.mem_append_right _ (List.mem_of_getElem? (i := 70) rfl))) rfl
theorem k_ml_L_58 : Cond.methodLink RL 58 y_X_next ∈ wG := wG_in (List.mem_append_right _ (List.mem_append_right _ (List.mem_of_getElem? (i := 71) rfl))) rfl
theorem k_im_X_next : Cond.instanceMethod y_X_next ∈ wG := wG_in (List.mem_append_right _ (List.mem_append_right _ (List.mem_of_getElem? (i := 72) rfl))) rfl
theorem k_se_X_next : Cond.selects RX y_X_next y_X_next ∈ wG := wG_in (List.mem_append_right _ (List.mem_append_right _ (List.mem_of_getElem? (i := 73) rfl))) rfl
theorem k_X_next : Cond.code y_X_next b_X_next 11 (some .boolean) ∈ wG := wG_in (List.mem_append_right _ (List.mem_append_right _ (List.mem_of_getElem? (i := 74) rfl))) rfl
theorem k_kl_L_63 : Cond.classLink "WideFractionsLaw" 63 "WideFractionsModel" ∈ wG := wG_in (List.mem_append_right _ (List.mem_append_right _ (List.mem_of_getElem? (i := 76) rfl))) rfl
theorem k_it_M : Cond.instantiable "WideFractionsModel" 7 ∈ wG := wG_in (List.mem_append_right _ (List.mem_append_right _ (List.mem_of_getElem? (i := 77) rfl))) rfl
theorem k_ml_L_65 : Cond.methodLink RL 65 y_M_init ∈ wG := wG_in (List.mem_append_right _ (List.mem_append_right _ (List.mem_of_getElem? (i := 78) rfl))) rfl
theorem k_im_M_init : Cond.instanceMethod y_M_init ∈ wG := wG_in (List.mem_append_right _ (List.mem_append_right _ (List.mem_of_getElem? (i := 79) rfl))) rfl
theorem k_M_init : Cond.code y_M_init b_M_init 1 none ∈ wG := wG_in (List.mem_append_right _ (List.mem_append_right _ (List.mem_of_getElem? (i := 80) rfl))) rfl
theorem k_ml_M_1 : Cond.methodLink RM 1 objectInit ∈ wG := wG_in (List.mem_append_right _ (List.mem_append_right _ (List.mem_of_getElem? (i := 81) rfl))) rfl
theorem k_fl_M_code : Cond.fieldLink RM 26 RM "code" "I" ∈ wG := wG_in (List.mem_append_right _ (List.mem_append_right _ (List.mem_of_getElem? (i := 82) rfl))) rfl
theorem k_fl_M_bits : Cond.fieldLink RM 7 RM "bits" "[Z" ∈ wG := wG_in (List.mem_append_right _ (List.mem_append_right _ (List.mem_of_getElem? (i := 83) rfl))) rfl
theorem k_fl_M_product : Cond.fieldLink RM 13 RM "product" "[Z" ∈ wG := wG_in (List.mem_append_right _ (List.mem_append_right _ (List.mem_of_getElem? (i := 84) rfl))) rfl
theorem k_fl_M_answer : Cond.fieldLink RM 16 RM "answer" "[Z" ∈ wG := wG_in (List.mem_append_right _ (List.mem_append_right _ (List.mem_of_getElem? (i := 85) rfl))) rfl
theorem k_fl_M_rest : Cond.fieldLink RM 19 RM "rest" "[Z" ∈ wG := wG_in (List.mem_append_right _ (List.mem_append_right _ (List.mem_of_getElem? (i := 86) rfl))) rfl
theorem k_fl_M_digits : Cond.fieldLink RM 22 RM "digits" "[I" ∈ wG := wG_in (List.mem_append_right _ (List.mem_append_right _ (List.mem_of_getElem? (i := 87) rfl))) rfl
theorem k_fl_M_written : Cond.fieldLink RM 71 RM "written" "I" ∈ wG := wG_in (List.mem_append_right _ (List.mem_append_right _ (List.mem_of_getElem? (i := 88) rfl))) rfl
theorem k_ac_boolean : Cond.arrayClass .boolean ∈ wG := wG_in (List.mem_append_right _ (List.mem_append_right _ (List.mem_of_getElem? (i := 104) rfl))) rfl
theorem k_ml_L_74 : Cond.methodLink RL 74 y_M_thrown ∈ wG := wG_in (List.mem_append_right _ (List.mem_append_right _ (List.mem_of_getElem? (i := 105) rfl))) rfl
theorem k_im_M_thrown : Cond.instanceMethod y_M_thrown ∈ wG := wG_in (List.mem_append_right _ (List.mem_append_right _ (List.mem_of_getElem? (i := 106) rfl))) rfl
theorem k_se_M_thrown : Cond.selects RM y_M_thrown y_M_thrown ∈ wG := wG_in (List.mem_append_right _ (List.mem_append_right _ (List.mem_of_getElem? (i := 107) rfl))) rfl
theorem k_M_thrown : Cond.code y_M_thrown b_M_thrown 1 (some .int) ∈ wG := wG_in (List.mem_append_right _ (List.mem_append_right _ (List.mem_of_getElem? (i := 108) rfl))) rfl
theorem k_ml_L_73 : Cond.methodLink RL 73 y_M_set ∈ wG := wG_in (List.mem_append_right _ (List.mem_append_right _ (List.mem_of_getElem? (i := 109) rfl))) rfl
theorem k_im_M_set : Cond.instanceMethod y_M_set ∈ wG := wG_in (List.mem_append_right _ (List.mem_append_right _ (List.mem_of_getElem? (i := 110) rfl))) rfl
theorem k_se_M_set : Cond.selects RM y_M_set y_M_set ∈ wG := wG_in (List.mem_append_right _ (List.mem_append_right _ (List.mem_of_getElem? (i := 111) rfl))) rfl
theorem k_M_set : Cond.code y_M_set b_M_set 7 none ∈ wG := wG_in (List.mem_append_right _ (List.mem_append_right _ (List.mem_of_getElem? (i := 112) rfl))) rfl
theorem k_ml_M_30 : Cond.methodLink RM 30 y_M_none ∈ wG := wG_in (List.mem_append_right _ (List.mem_append_right _ (List.mem_of_getElem? (i := 113) rfl))) rfl
theorem k_st_M_none : Cond.static y_M_none ∈ wG := wG_in (List.mem_append_right _ (List.mem_append_right _ (List.mem_of_getElem? (i := 114) rfl))) rfl
theorem k_M_none : Cond.code y_M_none b_M_none 1 (some .boolean) ∈ wG := wG_in (List.mem_append_right _ (List.mem_append_right _ (List.mem_of_getElem? (i := 115) rfl))) rfl
theorem k_ml_L_81 : Cond.methodLink RL 81 y_M_half ∈ wG := wG_in (List.mem_append_right _ (List.mem_append_right _ (List.mem_of_getElem? (i := 116) rfl))) rfl
theorem k_im_M_half : Cond.instanceMethod y_M_half ∈ wG := wG_in (List.mem_append_right _ (List.mem_append_right _ (List.mem_of_getElem? (i := 117) rfl))) rfl
theorem k_se_M_half : Cond.selects RM y_M_half y_M_half ∈ wG := wG_in (List.mem_append_right _ (List.mem_append_right _ (List.mem_of_getElem? (i := 118) rfl))) rfl
theorem k_M_half : Cond.code y_M_half b_M_half 6 (some .long) ∈ wG := wG_in (List.mem_append_right _ (List.mem_append_right _ (List.mem_of_getElem? (i := 119) rfl))) rfl
theorem k_cl_M_34 : Cond.constantLong RM 34 2 ∈ wG := wG_in (List.mem_append_right _ (List.mem_append_right _ (List.mem_of_getElem? (i := 120) rfl))) rfl
theorem k_ml_L_85 : Cond.methodLink RL 85 y_M_add ∈ wG := wG_in (List.mem_append_right _ (List.mem_append_right _ (List.mem_of_getElem? (i := 121) rfl))) rfl
theorem k_im_M_add : Cond.instanceMethod y_M_add ∈ wG := wG_in (List.mem_append_right _ (List.mem_append_right _ (List.mem_of_getElem? (i := 122) rfl))) rfl
theorem k_se_M_add : Cond.selects RM y_M_add y_M_add ∈ wG := wG_in (List.mem_append_right _ (List.mem_append_right _ (List.mem_of_getElem? (i := 123) rfl))) rfl
theorem k_M_add : Cond.code y_M_add b_M_add 5 (some .boolean) ∈ wG := wG_in (List.mem_append_right _ (List.mem_append_right _ (List.mem_of_getElem? (i := 124) rfl))) rfl
theorem k_ml_M_36 : Cond.methodLink RM 36 y_M_copy ∈ wG := wG_in (List.mem_append_right _ (List.mem_append_right _ (List.mem_of_getElem? (i := 125) rfl))) rfl
theorem k_im_M_copy : Cond.instanceMethod y_M_copy ∈ wG := wG_in (List.mem_append_right _ (List.mem_append_right _ (List.mem_of_getElem? (i := 127) rfl))) rfl
theorem k_M_copy : Cond.code y_M_copy b_M_copy 4 none ∈ wG := wG_in (List.mem_append_right _ (List.mem_append_right _ (List.mem_of_getElem? (i := 128) rfl))) rfl
theorem k_ml_M_40 : Cond.methodLink RM 40 y_M_join ∈ wG := wG_in (List.mem_append_right _ (List.mem_append_right _ (List.mem_of_getElem? (i := 129) rfl))) rfl
theorem k_im_M_join : Cond.instanceMethod y_M_join ∈ wG := wG_in (List.mem_append_right _ (List.mem_append_right _ (List.mem_of_getElem? (i := 131) rfl))) rfl
theorem k_M_join : Cond.code y_M_join b_M_join 7 (some .boolean) ∈ wG := wG_in (List.mem_append_right _ (List.mem_append_right _ (List.mem_of_getElem? (i := 132) rfl))) rfl
theorem k_ml_L_88 : Cond.methodLink RL 88 y_M_subtract ∈ wG := wG_in (List.mem_append_right _ (List.mem_append_right _ (List.mem_of_getElem? (i := 133) rfl))) rfl
theorem k_im_M_subtract : Cond.instanceMethod y_M_subtract ∈ wG := wG_in (List.mem_append_right _ (List.mem_append_right _ (List.mem_of_getElem? (i := 134) rfl))) rfl
theorem k_se_M_subtract : Cond.selects RM y_M_subtract y_M_subtract ∈ wG := wG_in (List.mem_append_right _ (List.mem_append_right _ (List.mem_of_getElem? (i := 135) rfl))) rfl
theorem k_M_subtract : Cond.code y_M_subtract b_M_subtract 5 (some .boolean) ∈ wG := wG_in (List.mem_append_right _ (List.mem_append_right _ (List.mem_of_getElem? (i := 136) rfl))) rfl
theorem k_ml_L_92 : Cond.methodLink RL 92 y_M_multiply ∈ wG := wG_in (List.mem_append_right _ (List.mem_append_right _ (List.mem_of_getElem? (i := 137) rfl))) rfl
theorem k_im_M_multiply : Cond.instanceMethod y_M_multiply ∈ wG := wG_in (List.mem_append_right _ (List.mem_append_right _ (List.mem_of_getElem? (i := 138) rfl))) rfl
theorem k_se_M_multiply : Cond.selects RM y_M_multiply y_M_multiply ∈ wG := wG_in (List.mem_append_right _ (List.mem_append_right _ (List.mem_of_getElem? (i := 139) rfl))) rfl
theorem k_M_multiply : Cond.code y_M_multiply b_M_multiply 5 none ∈ wG := wG_in (List.mem_append_right _ (List.mem_append_right _ (List.mem_of_getElem? (i := 140) rfl))) rfl
theorem k_ml_M_44 : Cond.methodLink RM 44 y_M_findProduct ∈ wG := wG_in (List.mem_append_right _ (List.mem_append_right _ (List.mem_of_getElem? (i := 141) rfl))) rfl
theorem k_im_M_findProduct : Cond.instanceMethod y_M_findProduct ∈ wG := wG_in (List.mem_append_right _ (List.mem_append_right _ (List.mem_of_getElem? (i := 143) rfl))) rfl
theorem k_M_findProduct : Cond.code y_M_findProduct b_M_findProduct 8 none ∈ wG := wG_in (List.mem_append_right _ (List.mem_append_right _ (List.mem_of_getElem? (i := 144) rfl))) rfl
theorem k_ml_M_47 : Cond.methodLink RM 47 y_M_take ∈ wG := wG_in (List.mem_append_right _ (List.mem_append_right _ (List.mem_of_getElem? (i := 145) rfl))) rfl
theorem k_im_M_take : Cond.instanceMethod y_M_take ∈ wG := wG_in (List.mem_append_right _ (List.mem_append_right _ (List.mem_of_getElem? (i := 147) rfl))) rfl
theorem k_M_take : Cond.code y_M_take b_M_take 5 none ∈ wG := wG_in (List.mem_append_right _ (List.mem_append_right _ (List.mem_of_getElem? (i := 148) rfl))) rfl
theorem k_ml_L_95 : Cond.methodLink RL 95 y_M_divide ∈ wG := wG_in (List.mem_append_right _ (List.mem_append_right _ (List.mem_of_getElem? (i := 149) rfl))) rfl
theorem k_im_M_divide : Cond.instanceMethod y_M_divide ∈ wG := wG_in (List.mem_append_right _ (List.mem_append_right _ (List.mem_of_getElem? (i := 150) rfl))) rfl
theorem k_se_M_divide : Cond.selects RM y_M_divide y_M_divide ∈ wG := wG_in (List.mem_append_right _ (List.mem_append_right _ (List.mem_of_getElem? (i := 151) rfl))) rfl
theorem k_M_divide : Cond.code y_M_divide b_M_divide 7 none ∈ wG := wG_in (List.mem_append_right _ (List.mem_append_right _ (List.mem_of_getElem? (i := 152) rfl))) rfl
theorem k_ml_M_55 : Cond.methodLink RM 55 y_M_clearRest ∈ wG := wG_in (List.mem_append_right _ (List.mem_append_right _ (List.mem_of_getElem? (i := 153) rfl))) rfl
theorem k_im_M_clearRest : Cond.instanceMethod y_M_clearRest ∈ wG := wG_in (List.mem_append_right _ (List.mem_append_right _ (List.mem_of_getElem? (i := 155) rfl))) rfl
theorem k_M_clearRest : Cond.code y_M_clearRest b_M_clearRest 2 none ∈ wG := wG_in (List.mem_append_right _ (List.mem_append_right _ (List.mem_of_getElem? (i := 156) rfl))) rfl
theorem k_ml_M_58 : Cond.methodLink RM 58 y_M_bring ∈ wG := wG_in (List.mem_append_right _ (List.mem_append_right _ (List.mem_of_getElem? (i := 157) rfl))) rfl
theorem k_im_M_bring : Cond.instanceMethod y_M_bring ∈ wG := wG_in (List.mem_append_right _ (List.mem_append_right _ (List.mem_of_getElem? (i := 159) rfl))) rfl
theorem k_M_bring : Cond.code y_M_bring b_M_bring 3 none ∈ wG := wG_in (List.mem_append_right _ (List.mem_append_right _ (List.mem_of_getElem? (i := 160) rfl))) rfl
theorem k_ml_M_62 : Cond.methodLink RM 62 y_M_takeAway ∈ wG := wG_in (List.mem_append_right _ (List.mem_append_right _ (List.mem_of_getElem? (i := 161) rfl))) rfl
theorem k_im_M_takeAway : Cond.instanceMethod y_M_takeAway ∈ wG := wG_in (List.mem_append_right _ (List.mem_append_right _ (List.mem_of_getElem? (i := 163) rfl))) rfl
theorem k_M_takeAway : Cond.code y_M_takeAway b_M_takeAway 7 (some .boolean) ∈ wG := wG_in (List.mem_append_right _ (List.mem_append_right _ (List.mem_of_getElem? (i := 164) rfl))) rfl
theorem k_ml_M_51 : Cond.methodLink RM 51 y_M_lower ∈ wG := wG_in (List.mem_append_right _ (List.mem_append_right _ (List.mem_of_getElem? (i := 165) rfl))) rfl
theorem k_im_M_lower : Cond.instanceMethod y_M_lower ∈ wG := wG_in (List.mem_append_right _ (List.mem_append_right _ (List.mem_of_getElem? (i := 167) rfl))) rfl
theorem k_M_lower : Cond.code y_M_lower b_M_lower 3 (some .boolean) ∈ wG := wG_in (List.mem_append_right _ (List.mem_append_right _ (List.mem_of_getElem? (i := 168) rfl))) rfl
theorem k_ml_L_99 : Cond.methodLink RL 99 y_M_root ∈ wG := wG_in (List.mem_append_right _ (List.mem_append_right _ (List.mem_of_getElem? (i := 169) rfl))) rfl
theorem k_im_M_root : Cond.instanceMethod y_M_root ∈ wG := wG_in (List.mem_append_right _ (List.mem_append_right _ (List.mem_of_getElem? (i := 170) rfl))) rfl
theorem k_se_M_root : Cond.selects RM y_M_root y_M_root ∈ wG := wG_in (List.mem_append_right _ (List.mem_append_right _ (List.mem_of_getElem? (i := 171) rfl))) rfl
theorem k_M_root : Cond.code y_M_root b_M_root 7 none ∈ wG := wG_in (List.mem_append_right _ (List.mem_append_right _ (List.mem_of_getElem? (i := 172) rfl))) rfl
theorem k_ml_L_102 : Cond.methodLink RL 102 y_M_shift ∈ wG := wG_in (List.mem_append_right _ (List.mem_append_right _ (List.mem_of_getElem? (i := 173) rfl))) rfl
theorem k_im_M_shift : Cond.instanceMethod y_M_shift ∈ wG := wG_in (List.mem_append_right _ (List.mem_append_right _ (List.mem_of_getElem? (i := 174) rfl))) rfl
theorem k_se_M_shift : Cond.selects RM y_M_shift y_M_shift ∈ wG := wG_in (List.mem_append_right _ (List.mem_append_right _ (List.mem_of_getElem? (i := 175) rfl))) rfl
theorem k_M_shift : Cond.code y_M_shift b_M_shift 4 (some .boolean) ∈ wG := wG_in (List.mem_append_right _ (List.mem_append_right _ (List.mem_of_getElem? (i := 176) rfl))) rfl
theorem k_ml_M_67 : Cond.methodLink RM 67 y_M_move ∈ wG := wG_in (List.mem_append_right _ (List.mem_append_right _ (List.mem_of_getElem? (i := 177) rfl))) rfl
theorem k_im_M_move : Cond.instanceMethod y_M_move ∈ wG := wG_in (List.mem_append_right _ (List.mem_append_right _ (List.mem_of_getElem? (i := 179) rfl))) rfl
theorem k_M_move : Cond.code y_M_move b_M_move 9 (some .boolean) ∈ wG := wG_in (List.mem_append_right _ (List.mem_append_right _ (List.mem_of_getElem? (i := 180) rfl))) rfl
theorem k_cl_M_65 : Cond.constantLong RM 65 128 ∈ wG := wG_in (List.mem_append_right _ (List.mem_append_right _ (List.mem_of_getElem? (i := 181) rfl))) rfl
theorem k_ml_L_105 : Cond.methodLink RL 105 y_M_jam ∈ wG := wG_in (List.mem_append_right _ (List.mem_append_right _ (List.mem_of_getElem? (i := 182) rfl))) rfl
theorem k_im_M_jam : Cond.instanceMethod y_M_jam ∈ wG := wG_in (List.mem_append_right _ (List.mem_append_right _ (List.mem_of_getElem? (i := 183) rfl))) rfl
theorem k_se_M_jam : Cond.selects RM y_M_jam y_M_jam ∈ wG := wG_in (List.mem_append_right _ (List.mem_append_right _ (List.mem_of_getElem? (i := 184) rfl))) rfl
theorem k_M_jam : Cond.code y_M_jam b_M_jam 4 none ∈ wG := wG_in (List.mem_append_right _ (List.mem_append_right _ (List.mem_of_getElem? (i := 185) rfl))) rfl
theorem k_ml_L_109 : Cond.methodLink RL 109 y_M_zeros ∈ wG := wG_in (List.mem_append_right _ (List.mem_append_right _ (List.mem_of_getElem? (i := 186) rfl))) rfl
theorem k_im_M_zeros : Cond.instanceMethod y_M_zeros ∈ wG := wG_in (List.mem_append_right _ (List.mem_append_right _ (List.mem_of_getElem? (i := 187) rfl))) rfl
theorem k_se_M_zeros : Cond.selects RM y_M_zeros y_M_zeros ∈ wG := wG_in (List.mem_append_right _ (List.mem_append_right _ (List.mem_of_getElem? (i := 188) rfl))) rfl
theorem k_M_zeros : Cond.code y_M_zeros b_M_zeros 3 (some .int) ∈ wG := wG_in (List.mem_append_right _ (List.mem_append_right _ (List.mem_of_getElem? (i := 189) rfl))) rfl
theorem k_ml_L_113 : Cond.methodLink RL 113 y_M_compare ∈ wG := wG_in (List.mem_append_right _ (List.mem_append_right _ (List.mem_of_getElem? (i := 190) rfl))) rfl
theorem k_im_M_compare : Cond.instanceMethod y_M_compare ∈ wG := wG_in (List.mem_append_right _ (List.mem_append_right _ (List.mem_of_getElem? (i := 191) rfl))) rfl
theorem k_se_M_compare : Cond.selects RM y_M_compare y_M_compare ∈ wG := wG_in (List.mem_append_right _ (List.mem_append_right _ (List.mem_of_getElem? (i := 192) rfl))) rfl
theorem k_M_compare : Cond.code y_M_compare b_M_compare 7 (some .int) ∈ wG := wG_in (List.mem_append_right _ (List.mem_append_right _ (List.mem_of_getElem? (i := 193) rfl))) rfl
theorem k_ml_L_116 : Cond.methodLink RL 116 y_M_digits ∈ wG := wG_in (List.mem_append_right _ (List.mem_append_right _ (List.mem_of_getElem? (i := 194) rfl))) rfl
theorem k_im_M_digits : Cond.instanceMethod y_M_digits ∈ wG := wG_in (List.mem_append_right _ (List.mem_append_right _ (List.mem_of_getElem? (i := 195) rfl))) rfl
theorem k_se_M_digits : Cond.selects RM y_M_digits y_M_digits ∈ wG := wG_in (List.mem_append_right _ (List.mem_append_right _ (List.mem_of_getElem? (i := 196) rfl))) rfl
theorem k_M_digits : Cond.code y_M_digits b_M_digits 5 (some .int) ∈ wG := wG_in (List.mem_append_right _ (List.mem_append_right _ (List.mem_of_getElem? (i := 197) rfl))) rfl
theorem k_ml_L_120 : Cond.methodLink RL 120 y_M_digit ∈ wG := wG_in (List.mem_append_right _ (List.mem_append_right _ (List.mem_of_getElem? (i := 198) rfl))) rfl
theorem k_im_M_digit : Cond.instanceMethod y_M_digit ∈ wG := wG_in (List.mem_append_right _ (List.mem_append_right _ (List.mem_of_getElem? (i := 199) rfl))) rfl
theorem k_se_M_digit : Cond.selects RM y_M_digit y_M_digit ∈ wG := wG_in (List.mem_append_right _ (List.mem_append_right _ (List.mem_of_getElem? (i := 200) rfl))) rfl
theorem k_M_digit : Cond.code y_M_digit b_M_digit 2 (some .int) ∈ wG := wG_in (List.mem_append_right _ (List.mem_append_right _ (List.mem_of_getElem? (i := 201) rfl))) rfl
theorem k_ml_L_123 : Cond.methodLink RL 123 y_M_next ∈ wG := wG_in (List.mem_append_right _ (List.mem_append_right _ (List.mem_of_getElem? (i := 202) rfl))) rfl
theorem k_im_M_next : Cond.instanceMethod y_M_next ∈ wG := wG_in (List.mem_append_right _ (List.mem_append_right _ (List.mem_of_getElem? (i := 203) rfl))) rfl
theorem k_se_M_next : Cond.selects RM y_M_next y_M_next ∈ wG := wG_in (List.mem_append_right _ (List.mem_append_right _ (List.mem_of_getElem? (i := 204) rfl))) rfl
theorem k_M_next : Cond.code y_M_next b_M_next 5 (some .boolean) ∈ wG := wG_in (List.mem_append_right _ (List.mem_append_right _ (List.mem_of_getElem? (i := 205) rfl))) rfl
theorem k_cl_L_66 : Cond.constantLong RL 66 4294967295 ∈ wG := wG_in (List.mem_append_right _ (List.mem_append_right _ (List.mem_of_getElem? (i := 206) rfl))) rfl
theorem k_se_X_store : Cond.selects RX y_X_store y_X_store ∈ wG := wG_in (List.mem_append_left _ (List.mem_of_getElem? (i := 1) rfl)) rfl
theorem k_se_X_storeProduct : Cond.selects RX y_X_storeProduct y_X_storeProduct ∈ wG := wG_in (List.mem_append_left _ (List.mem_of_getElem? (i := 2) rfl)) rfl
theorem k_se_X_storeQuotient : Cond.selects RX y_X_storeQuotient y_X_storeQuotient ∈ wG := wG_in (List.mem_append_left _ (List.mem_of_getElem? (i := 3) rfl)) rfl
theorem k_se_X_storeRoot : Cond.selects RX y_X_storeRoot y_X_storeRoot ∈ wG := wG_in (List.mem_append_left _ (List.mem_of_getElem? (i := 4) rfl)) rfl
theorem k_se_X_storeShiftedUp : Cond.selects RX y_X_storeShiftedUp y_X_storeShiftedUp ∈ wG := wG_in (List.mem_append_left _ (List.mem_of_getElem? (i := 5) rfl)) rfl
theorem k_se_X_storeShiftedDown : Cond.selects RX y_X_storeShiftedDown y_X_storeShiftedDown ∈ wG := wG_in (List.mem_append_left _ (List.mem_of_getElem? (i := 6) rfl)) rfl
theorem k_se_X_splitIntoParts : Cond.selects RX y_X_splitIntoParts y_X_splitIntoParts ∈ wG := wG_in (List.mem_append_left _ (List.mem_of_getElem? (i := 7) rfl)) rfl
theorem k_se_X_takeLowestDigit : Cond.selects RX y_X_takeLowestDigit y_X_takeLowestDigit ∈ wG := wG_in (List.mem_append_left _ (List.mem_of_getElem? (i := 8) rfl)) rfl
theorem k_se_X_partsAreZero : Cond.selects RX y_X_partsAreZero y_X_partsAreZero ∈ wG := wG_in (List.mem_append_left _ (List.mem_of_getElem? (i := 9) rfl)) rfl
theorem k_se_M_copy : Cond.selects RM y_M_copy y_M_copy ∈ wG := wG_in (List.mem_append_left _ (List.mem_of_getElem? (i := 10) rfl)) rfl
theorem k_se_M_join : Cond.selects RM y_M_join y_M_join ∈ wG := wG_in (List.mem_append_left _ (List.mem_of_getElem? (i := 11) rfl)) rfl
theorem k_se_M_findProduct : Cond.selects RM y_M_findProduct y_M_findProduct ∈ wG := wG_in (List.mem_append_left _ (List.mem_of_getElem? (i := 12) rfl)) rfl
theorem k_se_M_take : Cond.selects RM y_M_take y_M_take ∈ wG := wG_in (List.mem_append_left _ (List.mem_of_getElem? (i := 13) rfl)) rfl
theorem k_se_M_clearRest : Cond.selects RM y_M_clearRest y_M_clearRest ∈ wG := wG_in (List.mem_append_left _ (List.mem_of_getElem? (i := 14) rfl)) rfl
theorem k_se_M_bring : Cond.selects RM y_M_bring y_M_bring ∈ wG := wG_in (List.mem_append_left _ (List.mem_of_getElem? (i := 15) rfl)) rfl
theorem k_se_M_takeAway : Cond.selects RM y_M_takeAway y_M_takeAway ∈ wG := wG_in (List.mem_append_left _ (List.mem_of_getElem? (i := 16) rfl)) rfl
theorem k_se_M_lower : Cond.selects RM y_M_lower y_M_lower ∈ wG := wG_in (List.mem_append_left _ (List.mem_of_getElem? (i := 17) rfl)) rfl
theorem k_se_M_move : Cond.selects RM y_M_move y_M_move ∈ wG := wG_in (List.mem_append_left _ (List.mem_of_getElem? (i := 18) rfl)) rfl
end
section
theorem d_Jl_compareUnsigned_0 : decode b_Jl_compareUnsigned 0 = .ok (.lload_n 0, 1) := by decide +kernel
theorem d_Jl_compareUnsigned_1 : decode b_Jl_compareUnsigned 1 = .ok (.ldc2_w 168, 3) := by decide +kernel
theorem d_Jl_compareUnsigned_4 : decode b_Jl_compareUnsigned 4 = .ok (.ladd, 1) := by decide +kernel
theorem d_Jl_compareUnsigned_5 : decode b_Jl_compareUnsigned 5 = .ok (.lload_n 2, 1) := by decide +kernel
theorem d_Jl_compareUnsigned_6 : decode b_Jl_compareUnsigned 6 = .ok (.ldc2_w 168, 3) := by decide +kernel
theorem d_Jl_compareUnsigned_9 : decode b_Jl_compareUnsigned 9 = .ok (.ladd, 1) := by decide +kernel
theorem d_Jl_compareUnsigned_10 : decode b_Jl_compareUnsigned 10 = .ok (.invokestatic 302, 3) := by decide +kernel
theorem d_Jl_compareUnsigned_13 : decode b_Jl_compareUnsigned 13 = .ok (.ireturn, 1) := by decide +kernel
theorem d_Jl_compare_0 : decode b_Jl_compare 0 = .ok (.lload_n 0, 1) := by decide +kernel
theorem d_Jl_compare_1 : decode b_Jl_compare 1 = .ok (.lload_n 2, 1) := by decide +kernel
theorem d_Jl_compare_2 : decode b_Jl_compare 2 = .ok (.lcmp, 1) := by decide +kernel
theorem d_Jl_compare_3 : decode b_Jl_compare 3 = .ok (.ifCond .ge 7, 3) := by decide +kernel
theorem d_Jl_compare_6 : decode b_Jl_compare 6 = .ok (.iconst (-1), 1) := by decide +kernel
theorem d_Jl_compare_7 : decode b_Jl_compare 7 = .ok (.goto 14, 3) := by decide +kernel
theorem d_Jl_compare_10 : decode b_Jl_compare 10 = .ok (.lload_n 0, 1) := by decide +kernel
theorem d_Jl_compare_11 : decode b_Jl_compare 11 = .ok (.lload_n 2, 1) := by decide +kernel
theorem d_Jl_compare_12 : decode b_Jl_compare 12 = .ok (.lcmp, 1) := by decide +kernel
theorem d_Jl_compare_13 : decode b_Jl_compare 13 = .ok (.ifCond .ne 7, 3) := by decide +kernel
theorem d_Jl_compare_16 : decode b_Jl_compare 16 = .ok (.iconst 0, 1) := by decide +kernel
theorem d_Jl_compare_17 : decode b_Jl_compare 17 = .ok (.goto 4, 3) := by decide +kernel
theorem d_Jl_compare_20 : decode b_Jl_compare 20 = .ok (.iconst 1, 1) := by decide +kernel
theorem d_Jl_compare_21 : decode b_Jl_compare 21 = .ok (.ireturn, 1) := by decide +kernel
theorem d_Jl_numberOfLeadingZeros_0 : decode b_Jl_numberOfLeadingZeros 0 = .ok (.lload_n 0, 1) := by decide +kernel
theorem d_Jl_numberOfLeadingZeros_1 : decode b_Jl_numberOfLeadingZeros 1 = .ok (.bipush 32, 2) := by decide +kernel
theorem d_Jl_numberOfLeadingZeros_3 : decode b_Jl_numberOfLeadingZeros 3 = .ok (.lushr, 1) := by decide +kernel
theorem d_Jl_numberOfLeadingZeros_4 : decode b_Jl_numberOfLeadingZeros 4 = .ok (.l2i, 1) := by decide +kernel
theorem d_Jl_numberOfLeadingZeros_5 : decode b_Jl_numberOfLeadingZeros 5 = .ok (.istore_n 2, 1) := by decide +kernel
theorem d_Jl_numberOfLeadingZeros_6 : decode b_Jl_numberOfLeadingZeros 6 = .ok (.iload_n 2, 1) := by decide +kernel
theorem d_Jl_numberOfLeadingZeros_7 : decode b_Jl_numberOfLeadingZeros 7 = .ok (.ifCond .ne 14, 3) := by decide +kernel
theorem d_Jl_numberOfLeadingZeros_10 : decode b_Jl_numberOfLeadingZeros 10 = .ok (.bipush 32, 2) := by decide +kernel
theorem d_Jl_numberOfLeadingZeros_12 : decode b_Jl_numberOfLeadingZeros 12 = .ok (.lload_n 0, 1) := by decide +kernel
theorem d_Jl_numberOfLeadingZeros_13 : decode b_Jl_numberOfLeadingZeros 13 = .ok (.l2i, 1) := by decide +kernel
theorem d_Jl_numberOfLeadingZeros_14 : decode b_Jl_numberOfLeadingZeros 14 = .ok (.invokestatic 308, 3) := by decide +kernel
theorem d_Jl_numberOfLeadingZeros_17 : decode b_Jl_numberOfLeadingZeros 17 = .ok (.iadd, 1) := by decide +kernel
theorem d_Jl_numberOfLeadingZeros_18 : decode b_Jl_numberOfLeadingZeros 18 = .ok (.goto 7, 3) := by decide +kernel
theorem d_Jl_numberOfLeadingZeros_21 : decode b_Jl_numberOfLeadingZeros 21 = .ok (.iload_n 2, 1) := by decide +kernel
theorem d_Jl_numberOfLeadingZeros_22 : decode b_Jl_numberOfLeadingZeros 22 = .ok (.invokestatic 308, 3) := by decide +kernel
theorem d_Jl_numberOfLeadingZeros_25 : decode b_Jl_numberOfLeadingZeros 25 = .ok (.ireturn, 1) := by decide +kernel
theorem d_Ji_numberOfLeadingZeros_0 : decode b_Ji_numberOfLeadingZeros 0 = .ok (.iload_n 0, 1) := by decide +kernel
theorem d_Ji_numberOfLeadingZeros_1 : decode b_Ji_numberOfLeadingZeros 1 = .ok (.ifCond .gt 14, 3) := by decide +kernel
theorem d_Ji_numberOfLeadingZeros_4 : decode b_Ji_numberOfLeadingZeros 4 = .ok (.iload_n 0, 1) := by decide +kernel
theorem d_Ji_numberOfLeadingZeros_5 : decode b_Ji_numberOfLeadingZeros 5 = .ok (.ifCond .ne 8, 3) := by decide +kernel
theorem d_Ji_numberOfLeadingZeros_8 : decode b_Ji_numberOfLeadingZeros 8 = .ok (.bipush 32, 2) := by decide +kernel
theorem d_Ji_numberOfLeadingZeros_10 : decode b_Ji_numberOfLeadingZeros 10 = .ok (.goto 4, 3) := by decide +kernel
theorem d_Ji_numberOfLeadingZeros_13 : decode b_Ji_numberOfLeadingZeros 13 = .ok (.iconst 0, 1) := by decide +kernel
theorem d_Ji_numberOfLeadingZeros_14 : decode b_Ji_numberOfLeadingZeros 14 = .ok (.ireturn, 1) := by decide +kernel
theorem d_Ji_numberOfLeadingZeros_15 : decode b_Ji_numberOfLeadingZeros 15 = .ok (.bipush 31, 2) := by decide +kernel
theorem d_Ji_numberOfLeadingZeros_17 : decode b_Ji_numberOfLeadingZeros 17 = .ok (.istore_n 1, 1) := by decide +kernel
theorem d_Ji_numberOfLeadingZeros_18 : decode b_Ji_numberOfLeadingZeros 18 = .ok (.iload_n 0, 1) := by decide +kernel
theorem d_Ji_numberOfLeadingZeros_19 : decode b_Ji_numberOfLeadingZeros 19 = .ok (.ldc_w 264, 3) := by decide +kernel
theorem d_Ji_numberOfLeadingZeros_22 : decode b_Ji_numberOfLeadingZeros 22 = .ok (.if_icmp .lt 11, 3) := by decide +kernel
theorem d_Ji_numberOfLeadingZeros_25 : decode b_Ji_numberOfLeadingZeros 25 = .ok (.iinc 1 (-16), 3) := by decide +kernel
theorem d_Ji_numberOfLeadingZeros_28 : decode b_Ji_numberOfLeadingZeros 28 = .ok (.iload_n 0, 1) := by decide +kernel
theorem d_Ji_numberOfLeadingZeros_29 : decode b_Ji_numberOfLeadingZeros 29 = .ok (.bipush 16, 2) := by decide +kernel
theorem d_Ji_numberOfLeadingZeros_31 : decode b_Ji_numberOfLeadingZeros 31 = .ok (.iushr, 1) := by decide +kernel
theorem d_Ji_numberOfLeadingZeros_32 : decode b_Ji_numberOfLeadingZeros 32 = .ok (.istore_n 0, 1) := by decide +kernel
theorem d_Ji_numberOfLeadingZeros_33 : decode b_Ji_numberOfLeadingZeros 33 = .ok (.iload_n 0, 1) := by decide +kernel
theorem d_Ji_numberOfLeadingZeros_34 : decode b_Ji_numberOfLeadingZeros 34 = .ok (.sipush 256, 3) := by decide +kernel
theorem d_Ji_numberOfLeadingZeros_37 : decode b_Ji_numberOfLeadingZeros 37 = .ok (.if_icmp .lt 11, 3) := by decide +kernel
theorem d_Ji_numberOfLeadingZeros_40 : decode b_Ji_numberOfLeadingZeros 40 = .ok (.iinc 1 (-8), 3) := by decide +kernel
theorem d_Ji_numberOfLeadingZeros_43 : decode b_Ji_numberOfLeadingZeros 43 = .ok (.iload_n 0, 1) := by decide +kernel
theorem d_Ji_numberOfLeadingZeros_44 : decode b_Ji_numberOfLeadingZeros 44 = .ok (.bipush 8, 2) := by decide +kernel
theorem d_Ji_numberOfLeadingZeros_46 : decode b_Ji_numberOfLeadingZeros 46 = .ok (.iushr, 1) := by decide +kernel
theorem d_Ji_numberOfLeadingZeros_47 : decode b_Ji_numberOfLeadingZeros 47 = .ok (.istore_n 0, 1) := by decide +kernel
theorem d_Ji_numberOfLeadingZeros_48 : decode b_Ji_numberOfLeadingZeros 48 = .ok (.iload_n 0, 1) := by decide +kernel
theorem d_Ji_numberOfLeadingZeros_49 : decode b_Ji_numberOfLeadingZeros 49 = .ok (.bipush 16, 2) := by decide +kernel
theorem d_Ji_numberOfLeadingZeros_51 : decode b_Ji_numberOfLeadingZeros 51 = .ok (.if_icmp .lt 10, 3) := by decide +kernel
theorem d_Ji_numberOfLeadingZeros_54 : decode b_Ji_numberOfLeadingZeros 54 = .ok (.iinc 1 (-4), 3) := by decide +kernel
theorem d_Ji_numberOfLeadingZeros_57 : decode b_Ji_numberOfLeadingZeros 57 = .ok (.iload_n 0, 1) := by decide +kernel
theorem d_Ji_numberOfLeadingZeros_58 : decode b_Ji_numberOfLeadingZeros 58 = .ok (.iconst 4, 1) := by decide +kernel
theorem d_Ji_numberOfLeadingZeros_59 : decode b_Ji_numberOfLeadingZeros 59 = .ok (.iushr, 1) := by decide +kernel
theorem d_Ji_numberOfLeadingZeros_60 : decode b_Ji_numberOfLeadingZeros 60 = .ok (.istore_n 0, 1) := by decide +kernel
theorem d_Ji_numberOfLeadingZeros_61 : decode b_Ji_numberOfLeadingZeros 61 = .ok (.iload_n 0, 1) := by decide +kernel
theorem d_Ji_numberOfLeadingZeros_62 : decode b_Ji_numberOfLeadingZeros 62 = .ok (.iconst 4, 1) := by decide +kernel
theorem d_Ji_numberOfLeadingZeros_63 : decode b_Ji_numberOfLeadingZeros 63 = .ok (.if_icmp .lt 10, 3) := by decide +kernel
theorem d_Ji_numberOfLeadingZeros_66 : decode b_Ji_numberOfLeadingZeros 66 = .ok (.iinc 1 (-2), 3) := by decide +kernel
theorem d_Ji_numberOfLeadingZeros_69 : decode b_Ji_numberOfLeadingZeros 69 = .ok (.iload_n 0, 1) := by decide +kernel
theorem d_Ji_numberOfLeadingZeros_70 : decode b_Ji_numberOfLeadingZeros 70 = .ok (.iconst 2, 1) := by decide +kernel
theorem d_Ji_numberOfLeadingZeros_71 : decode b_Ji_numberOfLeadingZeros 71 = .ok (.iushr, 1) := by decide +kernel
theorem d_Ji_numberOfLeadingZeros_72 : decode b_Ji_numberOfLeadingZeros 72 = .ok (.istore_n 0, 1) := by decide +kernel
theorem d_Ji_numberOfLeadingZeros_73 : decode b_Ji_numberOfLeadingZeros 73 = .ok (.iload_n 1, 1) := by decide +kernel
theorem d_Ji_numberOfLeadingZeros_74 : decode b_Ji_numberOfLeadingZeros 74 = .ok (.iload_n 0, 1) := by decide +kernel
theorem d_Ji_numberOfLeadingZeros_75 : decode b_Ji_numberOfLeadingZeros 75 = .ok (.iconst 1, 1) := by decide +kernel
theorem d_Ji_numberOfLeadingZeros_76 : decode b_Ji_numberOfLeadingZeros 76 = .ok (.iushr, 1) := by decide +kernel
theorem d_Ji_numberOfLeadingZeros_77 : decode b_Ji_numberOfLeadingZeros 77 = .ok (.isub, 1) := by decide +kernel
theorem d_Ji_numberOfLeadingZeros_78 : decode b_Ji_numberOfLeadingZeros 78 = .ok (.ireturn, 1) := by decide +kernel
theorem d_Jl_numberOfTrailingZeros_0 : decode b_Jl_numberOfTrailingZeros 0 = .ok (.lload_n 0, 1) := by decide +kernel
theorem d_Jl_numberOfTrailingZeros_1 : decode b_Jl_numberOfTrailingZeros 1 = .ok (.l2i, 1) := by decide +kernel
theorem d_Jl_numberOfTrailingZeros_2 : decode b_Jl_numberOfTrailingZeros 2 = .ok (.istore_n 2, 1) := by decide +kernel
theorem d_Jl_numberOfTrailingZeros_3 : decode b_Jl_numberOfTrailingZeros 3 = .ok (.iload_n 2, 1) := by decide +kernel
theorem d_Jl_numberOfTrailingZeros_4 : decode b_Jl_numberOfTrailingZeros 4 = .ok (.ifCond .ne 17, 3) := by decide +kernel
theorem d_Jl_numberOfTrailingZeros_7 : decode b_Jl_numberOfTrailingZeros 7 = .ok (.bipush 32, 2) := by decide +kernel
theorem d_Jl_numberOfTrailingZeros_9 : decode b_Jl_numberOfTrailingZeros 9 = .ok (.lload_n 0, 1) := by decide +kernel
theorem d_Jl_numberOfTrailingZeros_10 : decode b_Jl_numberOfTrailingZeros 10 = .ok (.bipush 32, 2) := by decide +kernel
theorem d_Jl_numberOfTrailingZeros_12 : decode b_Jl_numberOfTrailingZeros 12 = .ok (.lushr, 1) := by decide +kernel
theorem d_Jl_numberOfTrailingZeros_13 : decode b_Jl_numberOfTrailingZeros 13 = .ok (.l2i, 1) := by decide +kernel
theorem d_Jl_numberOfTrailingZeros_14 : decode b_Jl_numberOfTrailingZeros 14 = .ok (.invokestatic 311, 3) := by decide +kernel
theorem d_Jl_numberOfTrailingZeros_17 : decode b_Jl_numberOfTrailingZeros 17 = .ok (.iadd, 1) := by decide +kernel
theorem d_Jl_numberOfTrailingZeros_18 : decode b_Jl_numberOfTrailingZeros 18 = .ok (.goto 7, 3) := by decide +kernel
theorem d_Jl_numberOfTrailingZeros_21 : decode b_Jl_numberOfTrailingZeros 21 = .ok (.iload_n 2, 1) := by decide +kernel
theorem d_Jl_numberOfTrailingZeros_22 : decode b_Jl_numberOfTrailingZeros 22 = .ok (.invokestatic 311, 3) := by decide +kernel
theorem d_Jl_numberOfTrailingZeros_25 : decode b_Jl_numberOfTrailingZeros 25 = .ok (.ireturn, 1) := by decide +kernel
theorem d_Ji_numberOfTrailingZeros_0 : decode b_Ji_numberOfTrailingZeros 0 = .ok (.iload_n 0, 1) := by decide +kernel
theorem d_Ji_numberOfTrailingZeros_1 : decode b_Ji_numberOfTrailingZeros 1 = .ok (.iconst (-1), 1) := by decide +kernel
theorem d_Ji_numberOfTrailingZeros_2 : decode b_Ji_numberOfTrailingZeros 2 = .ok (.ixor, 1) := by decide +kernel
theorem d_Ji_numberOfTrailingZeros_3 : decode b_Ji_numberOfTrailingZeros 3 = .ok (.iload_n 0, 1) := by decide +kernel
theorem d_Ji_numberOfTrailingZeros_4 : decode b_Ji_numberOfTrailingZeros 4 = .ok (.iconst 1, 1) := by decide +kernel
theorem d_Ji_numberOfTrailingZeros_5 : decode b_Ji_numberOfTrailingZeros 5 = .ok (.isub, 1) := by decide +kernel
theorem d_Ji_numberOfTrailingZeros_6 : decode b_Ji_numberOfTrailingZeros 6 = .ok (.iand, 1) := by decide +kernel
theorem d_Ji_numberOfTrailingZeros_7 : decode b_Ji_numberOfTrailingZeros 7 = .ok (.istore_n 0, 1) := by decide +kernel
theorem d_Ji_numberOfTrailingZeros_8 : decode b_Ji_numberOfTrailingZeros 8 = .ok (.iload_n 0, 1) := by decide +kernel
theorem d_Ji_numberOfTrailingZeros_9 : decode b_Ji_numberOfTrailingZeros 9 = .ok (.ifCond .gt 8, 3) := by decide +kernel
theorem d_Ji_numberOfTrailingZeros_12 : decode b_Ji_numberOfTrailingZeros 12 = .ok (.iload_n 0, 1) := by decide +kernel
theorem d_Ji_numberOfTrailingZeros_13 : decode b_Ji_numberOfTrailingZeros 13 = .ok (.bipush 32, 2) := by decide +kernel
theorem d_Ji_numberOfTrailingZeros_15 : decode b_Ji_numberOfTrailingZeros 15 = .ok (.iand, 1) := by decide +kernel
theorem d_Ji_numberOfTrailingZeros_16 : decode b_Ji_numberOfTrailingZeros 16 = .ok (.ireturn, 1) := by decide +kernel
theorem d_Ji_numberOfTrailingZeros_17 : decode b_Ji_numberOfTrailingZeros 17 = .ok (.iconst 1, 1) := by decide +kernel
theorem d_Ji_numberOfTrailingZeros_18 : decode b_Ji_numberOfTrailingZeros 18 = .ok (.istore_n 1, 1) := by decide +kernel
theorem d_Ji_numberOfTrailingZeros_19 : decode b_Ji_numberOfTrailingZeros 19 = .ok (.iload_n 0, 1) := by decide +kernel
theorem d_Ji_numberOfTrailingZeros_20 : decode b_Ji_numberOfTrailingZeros 20 = .ok (.ldc_w 264, 3) := by decide +kernel
theorem d_Ji_numberOfTrailingZeros_23 : decode b_Ji_numberOfTrailingZeros 23 = .ok (.if_icmp .le 11, 3) := by decide +kernel
theorem d_Ji_numberOfTrailingZeros_26 : decode b_Ji_numberOfTrailingZeros 26 = .ok (.iinc 1 16, 3) := by decide +kernel
theorem d_Ji_numberOfTrailingZeros_29 : decode b_Ji_numberOfTrailingZeros 29 = .ok (.iload_n 0, 1) := by decide +kernel
theorem d_Ji_numberOfTrailingZeros_30 : decode b_Ji_numberOfTrailingZeros 30 = .ok (.bipush 16, 2) := by decide +kernel
theorem d_Ji_numberOfTrailingZeros_32 : decode b_Ji_numberOfTrailingZeros 32 = .ok (.iushr, 1) := by decide +kernel
theorem d_Ji_numberOfTrailingZeros_33 : decode b_Ji_numberOfTrailingZeros 33 = .ok (.istore_n 0, 1) := by decide +kernel
theorem d_Ji_numberOfTrailingZeros_34 : decode b_Ji_numberOfTrailingZeros 34 = .ok (.iload_n 0, 1) := by decide +kernel
theorem d_Ji_numberOfTrailingZeros_35 : decode b_Ji_numberOfTrailingZeros 35 = .ok (.sipush 256, 3) := by decide +kernel
theorem d_Ji_numberOfTrailingZeros_38 : decode b_Ji_numberOfTrailingZeros 38 = .ok (.if_icmp .le 11, 3) := by decide +kernel
theorem d_Ji_numberOfTrailingZeros_41 : decode b_Ji_numberOfTrailingZeros 41 = .ok (.iinc 1 8, 3) := by decide +kernel
theorem d_Ji_numberOfTrailingZeros_44 : decode b_Ji_numberOfTrailingZeros 44 = .ok (.iload_n 0, 1) := by decide +kernel
theorem d_Ji_numberOfTrailingZeros_45 : decode b_Ji_numberOfTrailingZeros 45 = .ok (.bipush 8, 2) := by decide +kernel
theorem d_Ji_numberOfTrailingZeros_47 : decode b_Ji_numberOfTrailingZeros 47 = .ok (.iushr, 1) := by decide +kernel
theorem d_Ji_numberOfTrailingZeros_48 : decode b_Ji_numberOfTrailingZeros 48 = .ok (.istore_n 0, 1) := by decide +kernel
theorem d_Ji_numberOfTrailingZeros_49 : decode b_Ji_numberOfTrailingZeros 49 = .ok (.iload_n 0, 1) := by decide +kernel
theorem d_Ji_numberOfTrailingZeros_50 : decode b_Ji_numberOfTrailingZeros 50 = .ok (.bipush 16, 2) := by decide +kernel
theorem d_Ji_numberOfTrailingZeros_52 : decode b_Ji_numberOfTrailingZeros 52 = .ok (.if_icmp .le 10, 3) := by decide +kernel
theorem d_Ji_numberOfTrailingZeros_55 : decode b_Ji_numberOfTrailingZeros 55 = .ok (.iinc 1 4, 3) := by decide +kernel
theorem d_Ji_numberOfTrailingZeros_58 : decode b_Ji_numberOfTrailingZeros 58 = .ok (.iload_n 0, 1) := by decide +kernel
theorem d_Ji_numberOfTrailingZeros_59 : decode b_Ji_numberOfTrailingZeros 59 = .ok (.iconst 4, 1) := by decide +kernel
theorem d_Ji_numberOfTrailingZeros_60 : decode b_Ji_numberOfTrailingZeros 60 = .ok (.iushr, 1) := by decide +kernel
theorem d_Ji_numberOfTrailingZeros_61 : decode b_Ji_numberOfTrailingZeros 61 = .ok (.istore_n 0, 1) := by decide +kernel
theorem d_Ji_numberOfTrailingZeros_62 : decode b_Ji_numberOfTrailingZeros 62 = .ok (.iload_n 0, 1) := by decide +kernel
theorem d_Ji_numberOfTrailingZeros_63 : decode b_Ji_numberOfTrailingZeros 63 = .ok (.iconst 4, 1) := by decide +kernel
theorem d_Ji_numberOfTrailingZeros_64 : decode b_Ji_numberOfTrailingZeros 64 = .ok (.if_icmp .le 10, 3) := by decide +kernel
theorem d_Ji_numberOfTrailingZeros_67 : decode b_Ji_numberOfTrailingZeros 67 = .ok (.iinc 1 2, 3) := by decide +kernel
theorem d_Ji_numberOfTrailingZeros_70 : decode b_Ji_numberOfTrailingZeros 70 = .ok (.iload_n 0, 1) := by decide +kernel
theorem d_Ji_numberOfTrailingZeros_71 : decode b_Ji_numberOfTrailingZeros 71 = .ok (.iconst 2, 1) := by decide +kernel
theorem d_Ji_numberOfTrailingZeros_72 : decode b_Ji_numberOfTrailingZeros 72 = .ok (.iushr, 1) := by decide +kernel
theorem d_Ji_numberOfTrailingZeros_73 : decode b_Ji_numberOfTrailingZeros 73 = .ok (.istore_n 0, 1) := by decide +kernel
theorem d_Ji_numberOfTrailingZeros_74 : decode b_Ji_numberOfTrailingZeros 74 = .ok (.iload_n 1, 1) := by decide +kernel
theorem d_Ji_numberOfTrailingZeros_75 : decode b_Ji_numberOfTrailingZeros 75 = .ok (.iload_n 0, 1) := by decide +kernel
theorem d_Ji_numberOfTrailingZeros_76 : decode b_Ji_numberOfTrailingZeros 76 = .ok (.iconst 1, 1) := by decide +kernel
theorem d_Ji_numberOfTrailingZeros_77 : decode b_Ji_numberOfTrailingZeros 77 = .ok (.iushr, 1) := by decide +kernel
theorem d_Ji_numberOfTrailingZeros_78 : decode b_Ji_numberOfTrailingZeros 78 = .ok (.iadd, 1) := by decide +kernel
theorem d_Ji_numberOfTrailingZeros_79 : decode b_Ji_numberOfTrailingZeros 79 = .ok (.ireturn, 1) := by decide +kernel
end
section
theorem d_X_init_0 : decode b_X_init 0 = .ok (.aload_n 0, 1) := by decide +kernel
theorem d_X_init_1 : decode b_X_init 1 = .ok (.invokespecial 1, 3) := by decide +kernel
theorem d_X_init_4 : decode b_X_init 4 = .ok (.aload_n 0, 1) := by decide +kernel
theorem d_X_init_5 : decode b_X_init 5 = .ok (.bipush 8, 2) := by decide +kernel
theorem d_X_init_7 : decode b_X_init 7 = .ok (.newarray .long, 2) := by decide +kernel
theorem d_X_init_9 : decode b_X_init 9 = .ok (.putfield 9, 3) := by decide +kernel
theorem d_X_init_12 : decode b_X_init 12 = .ok (.aload_n 0, 1) := by decide +kernel
theorem d_X_init_13 : decode b_X_init 13 = .ok (.bipush 8, 2) := by decide +kernel
theorem d_X_init_15 : decode b_X_init 15 = .ok (.newarray .long, 2) := by decide +kernel
theorem d_X_init_17 : decode b_X_init 17 = .ok (.putfield 13, 3) := by decide +kernel
theorem d_X_init_20 : decode b_X_init 20 = .ok (.aload_n 0, 1) := by decide +kernel
theorem d_X_init_21 : decode b_X_init 21 = .ok (.iconst 4, 1) := by decide +kernel
theorem d_X_init_22 : decode b_X_init 22 = .ok (.newarray .long, 2) := by decide +kernel
theorem d_X_init_24 : decode b_X_init 24 = .ok (.putfield 16, 3) := by decide +kernel
theorem d_X_init_27 : decode b_X_init 27 = .ok (.aload_n 0, 1) := by decide +kernel
theorem d_X_init_28 : decode b_X_init 28 = .ok (.bipush 39, 2) := by decide +kernel
theorem d_X_init_30 : decode b_X_init 30 = .ok (.newarray .int, 2) := by decide +kernel
theorem d_X_init_32 : decode b_X_init 32 = .ok (.putfield 19, 3) := by decide +kernel
theorem d_X_init_35 : decode b_X_init 35 = .ok (.aload_n 0, 1) := by decide +kernel
theorem d_X_init_36 : decode b_X_init 36 = .ok (.bipush 39, 2) := by decide +kernel
theorem d_X_init_38 : decode b_X_init 38 = .ok (.putfield 23, 3) := by decide +kernel
theorem d_X_init_41 : decode b_X_init 41 = .ok (.return_, 1) := by decide +kernel
theorem d_X_digit_0 : decode b_X_digit 0 = .ok (.iload_n 1, 1) := by decide +kernel
theorem d_X_digit_1 : decode b_X_digit 1 = .ok (.ifCond .lt 14, 3) := by decide +kernel
theorem d_X_digit_4 : decode b_X_digit 4 = .ok (.iload_n 1, 1) := by decide +kernel
theorem d_X_digit_5 : decode b_X_digit 5 = .ok (.bipush 39, 2) := by decide +kernel
theorem d_X_digit_7 : decode b_X_digit 7 = .ok (.aload_n 0, 1) := by decide +kernel
theorem d_X_digit_8 : decode b_X_digit 8 = .ok (.getfield 23, 3) := by decide +kernel
theorem d_X_digit_11 : decode b_X_digit 11 = .ok (.isub, 1) := by decide +kernel
theorem d_X_digit_12 : decode b_X_digit 12 = .ok (.if_icmp .lt 5, 3) := by decide +kernel
theorem d_X_digit_15 : decode b_X_digit 15 = .ok (.iconst (-1), 1) := by decide +kernel
theorem d_X_digit_16 : decode b_X_digit 16 = .ok (.ireturn, 1) := by decide +kernel
theorem d_X_digit_17 : decode b_X_digit 17 = .ok (.aload_n 0, 1) := by decide +kernel
theorem d_X_digit_18 : decode b_X_digit 18 = .ok (.getfield 19, 3) := by decide +kernel
theorem d_X_digit_21 : decode b_X_digit 21 = .ok (.aload_n 0, 1) := by decide +kernel
theorem d_X_digit_22 : decode b_X_digit 22 = .ok (.getfield 23, 3) := by decide +kernel
theorem d_X_digit_25 : decode b_X_digit 25 = .ok (.iload_n 1, 1) := by decide +kernel
theorem d_X_digit_26 : decode b_X_digit 26 = .ok (.iadd, 1) := by decide +kernel
theorem d_X_digit_27 : decode b_X_digit 27 = .ok (.iaload, 1) := by decide +kernel
theorem d_X_digit_28 : decode b_X_digit 28 = .ok (.ireturn, 1) := by decide +kernel
theorem d_X_set_0 : decode b_X_set 0 = .ok (.iload_n 1, 1) := by decide +kernel
theorem d_X_set_1 : decode b_X_set 1 = .ok (.invokestatic 27, 3) := by decide +kernel
theorem d_X_set_4 : decode b_X_set 4 = .ok (.aload_n 0, 1) := by decide +kernel
theorem d_X_set_5 : decode b_X_set 5 = .ok (.iload_n 1, 1) := by decide +kernel
theorem d_X_set_6 : decode b_X_set 6 = .ok (.lload_n 2, 1) := by decide +kernel
theorem d_X_set_7 : decode b_X_set 7 = .ok (.lload 4, 2) := by decide +kernel
theorem d_X_set_9 : decode b_X_set 9 = .ok (.invokevirtual 31, 3) := by decide +kernel
theorem d_X_set_12 : decode b_X_set 12 = .ok (.return_, 1) := by decide +kernel
theorem d_X_checkRegister_0 : decode b_X_checkRegister 0 = .ok (.iload_n 0, 1) := by decide +kernel
theorem d_X_checkRegister_1 : decode b_X_checkRegister 1 = .ok (.ifCond .lt 9, 3) := by decide +kernel
theorem d_X_checkRegister_4 : decode b_X_checkRegister 4 = .ok (.iload_n 0, 1) := by decide +kernel
theorem d_X_checkRegister_5 : decode b_X_checkRegister 5 = .ok (.bipush 8, 2) := by decide +kernel
theorem d_X_checkRegister_7 : decode b_X_checkRegister 7 = .ok (.if_icmp .lt 13, 3) := by decide +kernel
theorem d_X_checkRegister_10 : decode b_X_checkRegister 10 = .ok (.new 100, 3) := by decide +kernel
theorem d_X_checkRegister_13 : decode b_X_checkRegister 13 = .ok (.dup, 1) := by decide +kernel
theorem d_X_checkRegister_14 : decode b_X_checkRegister 14 = .ok (.ldc 102, 2) := by decide +kernel
theorem d_X_checkRegister_16 : decode b_X_checkRegister 16 = .ok (.invokespecial 104, 3) := by decide +kernel
theorem d_X_checkRegister_19 : decode b_X_checkRegister 19 = .ok (.athrow, 1) := by decide +kernel
theorem d_X_checkRegister_20 : decode b_X_checkRegister 20 = .ok (.return_, 1) := by decide +kernel
theorem d_X_store_0 : decode b_X_store 0 = .ok (.aload_n 0, 1) := by decide +kernel
theorem d_X_store_1 : decode b_X_store 1 = .ok (.getfield 9, 3) := by decide +kernel
theorem d_X_store_4 : decode b_X_store 4 = .ok (.iload_n 1, 1) := by decide +kernel
theorem d_X_store_5 : decode b_X_store 5 = .ok (.lload_n 2, 1) := by decide +kernel
theorem d_X_store_6 : decode b_X_store 6 = .ok (.lastore, 1) := by decide +kernel
theorem d_X_store_7 : decode b_X_store 7 = .ok (.aload_n 0, 1) := by decide +kernel
theorem d_X_store_8 : decode b_X_store 8 = .ok (.getfield 13, 3) := by decide +kernel
theorem d_X_store_11 : decode b_X_store 11 = .ok (.iload_n 1, 1) := by decide +kernel
theorem d_X_store_12 : decode b_X_store 12 = .ok (.lload 4, 2) := by decide +kernel
theorem d_X_store_14 : decode b_X_store 14 = .ok (.lastore, 1) := by decide +kernel
theorem d_X_store_15 : decode b_X_store 15 = .ok (.return_, 1) := by decide +kernel
theorem d_X_half_0 : decode b_X_half 0 = .ok (.iload_n 1, 1) := by decide +kernel
theorem d_X_half_1 : decode b_X_half 1 = .ok (.invokestatic 27, 3) := by decide +kernel
theorem d_X_half_4 : decode b_X_half 4 = .ok (.iload_n 2, 1) := by decide +kernel
theorem d_X_half_5 : decode b_X_half 5 = .ok (.ifCond .eq 12, 3) := by decide +kernel
theorem d_X_half_8 : decode b_X_half 8 = .ok (.aload_n 0, 1) := by decide +kernel
theorem d_X_half_9 : decode b_X_half 9 = .ok (.getfield 9, 3) := by decide +kernel
theorem d_X_half_12 : decode b_X_half 12 = .ok (.iload_n 1, 1) := by decide +kernel
theorem d_X_half_13 : decode b_X_half 13 = .ok (.laload, 1) := by decide +kernel
theorem d_X_half_14 : decode b_X_half 14 = .ok (.goto 9, 3) := by decide +kernel
theorem d_X_half_17 : decode b_X_half 17 = .ok (.aload_n 0, 1) := by decide +kernel
theorem d_X_half_18 : decode b_X_half 18 = .ok (.getfield 13, 3) := by decide +kernel
theorem d_X_half_21 : decode b_X_half 21 = .ok (.iload_n 1, 1) := by decide +kernel
theorem d_X_half_22 : decode b_X_half 22 = .ok (.laload, 1) := by decide +kernel
theorem d_X_half_23 : decode b_X_half 23 = .ok (.lreturn, 1) := by decide +kernel
theorem d_X_add_0 : decode b_X_add 0 = .ok (.iload_n 1, 1) := by decide +kernel
theorem d_X_add_1 : decode b_X_add 1 = .ok (.invokestatic 27, 3) := by decide +kernel
theorem d_X_add_4 : decode b_X_add 4 = .ok (.iload_n 2, 1) := by decide +kernel
theorem d_X_add_5 : decode b_X_add 5 = .ok (.invokestatic 27, 3) := by decide +kernel
theorem d_X_add_8 : decode b_X_add 8 = .ok (.iload_n 3, 1) := by decide +kernel
theorem d_X_add_9 : decode b_X_add 9 = .ok (.invokestatic 27, 3) := by decide +kernel
theorem d_X_add_12 : decode b_X_add 12 = .ok (.aload_n 0, 1) := by decide +kernel
theorem d_X_add_13 : decode b_X_add 13 = .ok (.getfield 13, 3) := by decide +kernel
theorem d_X_add_16 : decode b_X_add 16 = .ok (.iload_n 1, 1) := by decide +kernel
theorem d_X_add_17 : decode b_X_add 17 = .ok (.laload, 1) := by decide +kernel
theorem d_X_add_18 : decode b_X_add 18 = .ok (.aload_n 0, 1) := by decide +kernel
theorem d_X_add_19 : decode b_X_add 19 = .ok (.getfield 13, 3) := by decide +kernel
theorem d_X_add_22 : decode b_X_add 22 = .ok (.iload_n 2, 1) := by decide +kernel
theorem d_X_add_23 : decode b_X_add 23 = .ok (.laload, 1) := by decide +kernel
theorem d_X_add_24 : decode b_X_add 24 = .ok (.ladd, 1) := by decide +kernel
theorem d_X_add_25 : decode b_X_add 25 = .ok (.lstore 4, 2) := by decide +kernel
theorem d_X_add_27 : decode b_X_add 27 = .ok (.lload 4, 2) := by decide +kernel
theorem d_X_add_29 : decode b_X_add 29 = .ok (.aload_n 0, 1) := by decide +kernel
theorem d_X_add_30 : decode b_X_add 30 = .ok (.getfield 13, 3) := by decide +kernel
theorem d_X_add_33 : decode b_X_add 33 = .ok (.iload_n 1, 1) := by decide +kernel
theorem d_X_add_34 : decode b_X_add 34 = .ok (.laload, 1) := by decide +kernel
theorem d_X_add_35 : decode b_X_add 35 = .ok (.invokestatic 35, 3) := by decide +kernel
theorem d_X_add_38 : decode b_X_add 38 = .ok (.lstore 6, 2) := by decide +kernel
theorem d_X_add_40 : decode b_X_add 40 = .ok (.aload_n 0, 1) := by decide +kernel
theorem d_X_add_41 : decode b_X_add 41 = .ok (.getfield 9, 3) := by decide +kernel
theorem d_X_add_44 : decode b_X_add 44 = .ok (.iload_n 1, 1) := by decide +kernel
theorem d_X_add_45 : decode b_X_add 45 = .ok (.laload, 1) := by decide +kernel
theorem d_X_add_46 : decode b_X_add 46 = .ok (.aload_n 0, 1) := by decide +kernel
theorem d_X_add_47 : decode b_X_add 47 = .ok (.getfield 9, 3) := by decide +kernel
theorem d_X_add_50 : decode b_X_add 50 = .ok (.iload_n 2, 1) := by decide +kernel
theorem d_X_add_51 : decode b_X_add 51 = .ok (.laload, 1) := by decide +kernel
theorem d_X_add_52 : decode b_X_add 52 = .ok (.ladd, 1) := by decide +kernel
theorem d_X_add_53 : decode b_X_add 53 = .ok (.lstore 8, 2) := by decide +kernel
theorem d_X_add_55 : decode b_X_add 55 = .ok (.lload 8, 2) := by decide +kernel
theorem d_X_add_57 : decode b_X_add 57 = .ok (.lload 6, 2) := by decide +kernel
theorem d_X_add_59 : decode b_X_add 59 = .ok (.ladd, 1) := by decide +kernel
theorem d_X_add_60 : decode b_X_add 60 = .ok (.lstore 10, 2) := by decide +kernel
theorem d_X_add_62 : decode b_X_add 62 = .ok (.lload 8, 2) := by decide +kernel
theorem d_X_add_64 : decode b_X_add 64 = .ok (.aload_n 0, 1) := by decide +kernel
theorem d_X_add_65 : decode b_X_add 65 = .ok (.getfield 9, 3) := by decide +kernel
theorem d_X_add_68 : decode b_X_add 68 = .ok (.iload_n 1, 1) := by decide +kernel
theorem d_X_add_69 : decode b_X_add 69 = .ok (.laload, 1) := by decide +kernel
theorem d_X_add_70 : decode b_X_add 70 = .ok (.invokestatic 35, 3) := by decide +kernel
theorem d_X_add_73 : decode b_X_add 73 = .ok (.lload 10, 2) := by decide +kernel
theorem d_X_add_75 : decode b_X_add 75 = .ok (.lload 6, 2) := by decide +kernel
theorem d_X_add_77 : decode b_X_add 77 = .ok (.invokestatic 35, 3) := by decide +kernel
theorem d_X_add_80 : decode b_X_add 80 = .ok (.ladd, 1) := by decide +kernel
theorem d_X_add_81 : decode b_X_add 81 = .ok (.lconst 0, 1) := by decide +kernel
theorem d_X_add_82 : decode b_X_add 82 = .ok (.lcmp, 1) := by decide +kernel
theorem d_X_add_83 : decode b_X_add 83 = .ok (.ifCond .eq 7, 3) := by decide +kernel
theorem d_X_add_86 : decode b_X_add 86 = .ok (.iconst 1, 1) := by decide +kernel
theorem d_X_add_87 : decode b_X_add 87 = .ok (.goto 4, 3) := by decide +kernel
theorem d_X_add_90 : decode b_X_add 90 = .ok (.iconst 0, 1) := by decide +kernel
theorem d_X_add_91 : decode b_X_add 91 = .ok (.istore 12, 2) := by decide +kernel
theorem d_X_add_93 : decode b_X_add 93 = .ok (.aload_n 0, 1) := by decide +kernel
theorem d_X_add_94 : decode b_X_add 94 = .ok (.iload_n 3, 1) := by decide +kernel
theorem d_X_add_95 : decode b_X_add 95 = .ok (.lload 10, 2) := by decide +kernel
theorem d_X_add_97 : decode b_X_add 97 = .ok (.lload 4, 2) := by decide +kernel
theorem d_X_add_99 : decode b_X_add 99 = .ok (.invokevirtual 31, 3) := by decide +kernel
theorem d_X_add_102 : decode b_X_add 102 = .ok (.iload 12, 2) := by decide +kernel
theorem d_X_add_104 : decode b_X_add 104 = .ok (.ireturn, 1) := by decide +kernel
theorem d_X_oneIfBelow_0 : decode b_X_oneIfBelow 0 = .ok (.lload_n 0, 1) := by decide +kernel
theorem d_X_oneIfBelow_1 : decode b_X_oneIfBelow 1 = .ok (.lload_n 2, 1) := by decide +kernel
theorem d_X_oneIfBelow_2 : decode b_X_oneIfBelow 2 = .ok (.invokestatic 107, 3) := by decide +kernel
theorem d_X_oneIfBelow_5 : decode b_X_oneIfBelow 5 = .ok (.ifCond .ge 7, 3) := by decide +kernel
theorem d_X_oneIfBelow_8 : decode b_X_oneIfBelow 8 = .ok (.lconst 1, 1) := by decide +kernel
theorem d_X_oneIfBelow_9 : decode b_X_oneIfBelow 9 = .ok (.goto 4, 3) := by decide +kernel
theorem d_X_oneIfBelow_12 : decode b_X_oneIfBelow 12 = .ok (.lconst 0, 1) := by decide +kernel
theorem d_X_oneIfBelow_13 : decode b_X_oneIfBelow 13 = .ok (.lreturn, 1) := by decide +kernel
theorem d_X_subtract_0 : decode b_X_subtract 0 = .ok (.iload_n 1, 1) := by decide +kernel
theorem d_X_subtract_1 : decode b_X_subtract 1 = .ok (.invokestatic 27, 3) := by decide +kernel
theorem d_X_subtract_4 : decode b_X_subtract 4 = .ok (.iload_n 2, 1) := by decide +kernel
theorem d_X_subtract_5 : decode b_X_subtract 5 = .ok (.invokestatic 27, 3) := by decide +kernel
theorem d_X_subtract_8 : decode b_X_subtract 8 = .ok (.iload_n 3, 1) := by decide +kernel
theorem d_X_subtract_9 : decode b_X_subtract 9 = .ok (.invokestatic 27, 3) := by decide +kernel
theorem d_X_subtract_12 : decode b_X_subtract 12 = .ok (.aload_n 0, 1) := by decide +kernel
theorem d_X_subtract_13 : decode b_X_subtract 13 = .ok (.getfield 9, 3) := by decide +kernel
theorem d_X_subtract_16 : decode b_X_subtract 16 = .ok (.iload_n 1, 1) := by decide +kernel
theorem d_X_subtract_17 : decode b_X_subtract 17 = .ok (.laload, 1) := by decide +kernel
theorem d_X_subtract_18 : decode b_X_subtract 18 = .ok (.aload_n 0, 1) := by decide +kernel
theorem d_X_subtract_19 : decode b_X_subtract 19 = .ok (.getfield 13, 3) := by decide +kernel
theorem d_X_subtract_22 : decode b_X_subtract 22 = .ok (.iload_n 1, 1) := by decide +kernel
theorem d_X_subtract_23 : decode b_X_subtract 23 = .ok (.laload, 1) := by decide +kernel
theorem d_X_subtract_24 : decode b_X_subtract 24 = .ok (.aload_n 0, 1) := by decide +kernel
theorem d_X_subtract_25 : decode b_X_subtract 25 = .ok (.getfield 9, 3) := by decide +kernel
theorem d_X_subtract_28 : decode b_X_subtract 28 = .ok (.iload_n 2, 1) := by decide +kernel
theorem d_X_subtract_29 : decode b_X_subtract 29 = .ok (.laload, 1) := by decide +kernel
theorem d_X_subtract_30 : decode b_X_subtract 30 = .ok (.aload_n 0, 1) := by decide +kernel
theorem d_X_subtract_31 : decode b_X_subtract 31 = .ok (.getfield 13, 3) := by decide +kernel
theorem d_X_subtract_34 : decode b_X_subtract 34 = .ok (.iload_n 2, 1) := by decide +kernel
theorem d_X_subtract_35 : decode b_X_subtract 35 = .ok (.laload, 1) := by decide +kernel
theorem d_X_subtract_36 : decode b_X_subtract 36 = .ok (.invokestatic 39, 3) := by decide +kernel
theorem d_X_subtract_39 : decode b_X_subtract 39 = .ok (.istore 4, 2) := by decide +kernel
theorem d_X_subtract_41 : decode b_X_subtract 41 = .ok (.aload_n 0, 1) := by decide +kernel
theorem d_X_subtract_42 : decode b_X_subtract 42 = .ok (.getfield 9, 3) := by decide +kernel
theorem d_X_subtract_45 : decode b_X_subtract 45 = .ok (.iload_n 1, 1) := by decide +kernel
theorem d_X_subtract_46 : decode b_X_subtract 46 = .ok (.laload, 1) := by decide +kernel
theorem d_X_subtract_47 : decode b_X_subtract 47 = .ok (.aload_n 0, 1) := by decide +kernel
theorem d_X_subtract_48 : decode b_X_subtract 48 = .ok (.getfield 9, 3) := by decide +kernel
theorem d_X_subtract_51 : decode b_X_subtract 51 = .ok (.iload_n 2, 1) := by decide +kernel
theorem d_X_subtract_52 : decode b_X_subtract 52 = .ok (.laload, 1) := by decide +kernel
theorem d_X_subtract_53 : decode b_X_subtract 53 = .ok (.lsub, 1) := by decide +kernel
theorem d_X_subtract_54 : decode b_X_subtract 54 = .ok (.aload_n 0, 1) := by decide +kernel
theorem d_X_subtract_55 : decode b_X_subtract 55 = .ok (.getfield 13, 3) := by decide +kernel
theorem d_X_subtract_58 : decode b_X_subtract 58 = .ok (.iload_n 1, 1) := by decide +kernel
theorem d_X_subtract_59 : decode b_X_subtract 59 = .ok (.laload, 1) := by decide +kernel
theorem d_X_subtract_60 : decode b_X_subtract 60 = .ok (.aload_n 0, 1) := by decide +kernel
theorem d_X_subtract_61 : decode b_X_subtract 61 = .ok (.getfield 13, 3) := by decide +kernel
theorem d_X_subtract_64 : decode b_X_subtract 64 = .ok (.iload_n 2, 1) := by decide +kernel
theorem d_X_subtract_65 : decode b_X_subtract 65 = .ok (.laload, 1) := by decide +kernel
theorem d_X_subtract_66 : decode b_X_subtract 66 = .ok (.invokestatic 35, 3) := by decide +kernel
theorem d_X_subtract_69 : decode b_X_subtract 69 = .ok (.lsub, 1) := by decide +kernel
theorem d_X_subtract_70 : decode b_X_subtract 70 = .ok (.lstore 5, 2) := by decide +kernel
theorem d_X_subtract_72 : decode b_X_subtract 72 = .ok (.aload_n 0, 1) := by decide +kernel
theorem d_X_subtract_73 : decode b_X_subtract 73 = .ok (.iload_n 3, 1) := by decide +kernel
theorem d_X_subtract_74 : decode b_X_subtract 74 = .ok (.lload 5, 2) := by decide +kernel
theorem d_X_subtract_76 : decode b_X_subtract 76 = .ok (.aload_n 0, 1) := by decide +kernel
theorem d_X_subtract_77 : decode b_X_subtract 77 = .ok (.getfield 13, 3) := by decide +kernel
theorem d_X_subtract_80 : decode b_X_subtract 80 = .ok (.iload_n 1, 1) := by decide +kernel
theorem d_X_subtract_81 : decode b_X_subtract 81 = .ok (.laload, 1) := by decide +kernel
theorem d_X_subtract_82 : decode b_X_subtract 82 = .ok (.aload_n 0, 1) := by decide +kernel
theorem d_X_subtract_83 : decode b_X_subtract 83 = .ok (.getfield 13, 3) := by decide +kernel
theorem d_X_subtract_86 : decode b_X_subtract 86 = .ok (.iload_n 2, 1) := by decide +kernel
theorem d_X_subtract_87 : decode b_X_subtract 87 = .ok (.laload, 1) := by decide +kernel
theorem d_X_subtract_88 : decode b_X_subtract 88 = .ok (.lsub, 1) := by decide +kernel
theorem d_X_subtract_89 : decode b_X_subtract 89 = .ok (.invokevirtual 31, 3) := by decide +kernel
theorem d_X_subtract_92 : decode b_X_subtract 92 = .ok (.iload 4, 2) := by decide +kernel
theorem d_X_subtract_94 : decode b_X_subtract 94 = .ok (.ireturn, 1) := by decide +kernel
theorem d_X_isBelow_0 : decode b_X_isBelow 0 = .ok (.lload_n 0, 1) := by decide +kernel
theorem d_X_isBelow_1 : decode b_X_isBelow 1 = .ok (.lload 4, 2) := by decide +kernel
theorem d_X_isBelow_3 : decode b_X_isBelow 3 = .ok (.invokestatic 107, 3) := by decide +kernel
theorem d_X_isBelow_6 : decode b_X_isBelow 6 = .ok (.istore 8, 2) := by decide +kernel
theorem d_X_isBelow_8 : decode b_X_isBelow 8 = .ok (.iload 8, 2) := by decide +kernel
theorem d_X_isBelow_10 : decode b_X_isBelow 10 = .ok (.ifCond .lt 17, 3) := by decide +kernel
theorem d_X_isBelow_13 : decode b_X_isBelow 13 = .ok (.iload 8, 2) := by decide +kernel
theorem d_X_isBelow_15 : decode b_X_isBelow 15 = .ok (.ifCond .ne 16, 3) := by decide +kernel
theorem d_X_isBelow_18 : decode b_X_isBelow 18 = .ok (.lload_n 2, 1) := by decide +kernel
theorem d_X_isBelow_19 : decode b_X_isBelow 19 = .ok (.lload 6, 2) := by decide +kernel
theorem d_X_isBelow_21 : decode b_X_isBelow 21 = .ok (.invokestatic 107, 3) := by decide +kernel
theorem d_X_isBelow_24 : decode b_X_isBelow 24 = .ok (.ifCond .ge 7, 3) := by decide +kernel
theorem d_X_isBelow_27 : decode b_X_isBelow 27 = .ok (.iconst 1, 1) := by decide +kernel
theorem d_X_isBelow_28 : decode b_X_isBelow 28 = .ok (.goto 4, 3) := by decide +kernel
theorem d_X_isBelow_31 : decode b_X_isBelow 31 = .ok (.iconst 0, 1) := by decide +kernel
theorem d_X_isBelow_32 : decode b_X_isBelow 32 = .ok (.ireturn, 1) := by decide +kernel
theorem d_X_multiply_0 : decode b_X_multiply 0 = .ok (.iload_n 1, 1) := by decide +kernel
theorem d_X_multiply_1 : decode b_X_multiply 1 = .ok (.invokestatic 27, 3) := by decide +kernel
theorem d_X_multiply_4 : decode b_X_multiply 4 = .ok (.iload_n 2, 1) := by decide +kernel
theorem d_X_multiply_5 : decode b_X_multiply 5 = .ok (.invokestatic 27, 3) := by decide +kernel
theorem d_X_multiply_8 : decode b_X_multiply 8 = .ok (.iload_n 3, 1) := by decide +kernel
theorem d_X_multiply_9 : decode b_X_multiply 9 = .ok (.invokestatic 27, 3) := by decide +kernel
theorem d_X_multiply_12 : decode b_X_multiply 12 = .ok (.iload 4, 2) := by decide +kernel
theorem d_X_multiply_14 : decode b_X_multiply 14 = .ok (.invokestatic 27, 3) := by decide +kernel
theorem d_X_multiply_17 : decode b_X_multiply 17 = .ok (.iload_n 3, 1) := by decide +kernel
theorem d_X_multiply_18 : decode b_X_multiply 18 = .ok (.iload 4, 2) := by decide +kernel
theorem d_X_multiply_20 : decode b_X_multiply 20 = .ok (.invokestatic 43, 3) := by decide +kernel
theorem d_X_multiply_23 : decode b_X_multiply 23 = .ok (.aload_n 0, 1) := by decide +kernel
theorem d_X_multiply_24 : decode b_X_multiply 24 = .ok (.aload_n 0, 1) := by decide +kernel
theorem d_X_multiply_25 : decode b_X_multiply 25 = .ok (.getfield 9, 3) := by decide +kernel
theorem d_X_multiply_28 : decode b_X_multiply 28 = .ok (.iload_n 1, 1) := by decide +kernel
theorem d_X_multiply_29 : decode b_X_multiply 29 = .ok (.laload, 1) := by decide +kernel
theorem d_X_multiply_30 : decode b_X_multiply 30 = .ok (.aload_n 0, 1) := by decide +kernel
theorem d_X_multiply_31 : decode b_X_multiply 31 = .ok (.getfield 13, 3) := by decide +kernel
theorem d_X_multiply_34 : decode b_X_multiply 34 = .ok (.iload_n 1, 1) := by decide +kernel
theorem d_X_multiply_35 : decode b_X_multiply 35 = .ok (.laload, 1) := by decide +kernel
theorem d_X_multiply_36 : decode b_X_multiply 36 = .ok (.aload_n 0, 1) := by decide +kernel
theorem d_X_multiply_37 : decode b_X_multiply 37 = .ok (.getfield 9, 3) := by decide +kernel
theorem d_X_multiply_40 : decode b_X_multiply 40 = .ok (.iload_n 2, 1) := by decide +kernel
theorem d_X_multiply_41 : decode b_X_multiply 41 = .ok (.laload, 1) := by decide +kernel
theorem d_X_multiply_42 : decode b_X_multiply 42 = .ok (.aload_n 0, 1) := by decide +kernel
theorem d_X_multiply_43 : decode b_X_multiply 43 = .ok (.getfield 13, 3) := by decide +kernel
theorem d_X_multiply_46 : decode b_X_multiply 46 = .ok (.iload_n 2, 1) := by decide +kernel
theorem d_X_multiply_47 : decode b_X_multiply 47 = .ok (.laload, 1) := by decide +kernel
theorem d_X_multiply_48 : decode b_X_multiply 48 = .ok (.iload_n 3, 1) := by decide +kernel
theorem d_X_multiply_49 : decode b_X_multiply 49 = .ok (.iload 4, 2) := by decide +kernel
theorem d_X_multiply_51 : decode b_X_multiply 51 = .ok (.invokevirtual 47, 3) := by decide +kernel
theorem d_X_multiply_54 : decode b_X_multiply 54 = .ok (.return_, 1) := by decide +kernel
theorem d_X_checkApart_0 : decode b_X_checkApart 0 = .ok (.iload_n 0, 1) := by decide +kernel
theorem d_X_checkApart_1 : decode b_X_checkApart 1 = .ok (.iload_n 1, 1) := by decide +kernel
theorem d_X_checkApart_2 : decode b_X_checkApart 2 = .ok (.if_icmp .ne 13, 3) := by decide +kernel
theorem d_X_checkApart_5 : decode b_X_checkApart 5 = .ok (.new 72, 3) := by decide +kernel
theorem d_X_checkApart_8 : decode b_X_checkApart 8 = .ok (.dup, 1) := by decide +kernel
theorem d_X_checkApart_9 : decode b_X_checkApart 9 = .ok (.ldc 105, 2) := by decide +kernel
theorem d_X_checkApart_11 : decode b_X_checkApart 11 = .ok (.invokespecial 76, 3) := by decide +kernel
theorem d_X_checkApart_14 : decode b_X_checkApart 14 = .ok (.athrow, 1) := by decide +kernel
theorem d_X_checkApart_15 : decode b_X_checkApart 15 = .ok (.return_, 1) := by decide +kernel
theorem d_X_storeProduct_0 : decode b_X_storeProduct 0 = .ok (.lload_n 1, 1) := by decide +kernel
theorem d_X_storeProduct_1 : decode b_X_storeProduct 1 = .ok (.lload 7, 2) := by decide +kernel
theorem d_X_storeProduct_3 : decode b_X_storeProduct 3 = .ok (.lmul, 1) := by decide +kernel
theorem d_X_storeProduct_4 : decode b_X_storeProduct 4 = .ok (.lstore 11, 2) := by decide +kernel
theorem d_X_storeProduct_6 : decode b_X_storeProduct 6 = .ok (.lload_n 3, 1) := by decide +kernel
theorem d_X_storeProduct_7 : decode b_X_storeProduct 7 = .ok (.lload 5, 2) := by decide +kernel
theorem d_X_storeProduct_9 : decode b_X_storeProduct 9 = .ok (.lmul, 1) := by decide +kernel
theorem d_X_storeProduct_10 : decode b_X_storeProduct 10 = .ok (.lstore 13, 2) := by decide +kernel
theorem d_X_storeProduct_12 : decode b_X_storeProduct 12 = .ok (.lload 11, 2) := by decide +kernel
theorem d_X_storeProduct_14 : decode b_X_storeProduct 14 = .ok (.lload 13, 2) := by decide +kernel
theorem d_X_storeProduct_16 : decode b_X_storeProduct 16 = .ok (.ladd, 1) := by decide +kernel
theorem d_X_storeProduct_17 : decode b_X_storeProduct 17 = .ok (.lstore 15, 2) := by decide +kernel
theorem d_X_storeProduct_19 : decode b_X_storeProduct 19 = .ok (.lload 15, 2) := by decide +kernel
theorem d_X_storeProduct_21 : decode b_X_storeProduct 21 = .ok (.lload_n 3, 1) := by decide +kernel
theorem d_X_storeProduct_22 : decode b_X_storeProduct 22 = .ok (.lload 7, 2) := by decide +kernel
theorem d_X_storeProduct_24 : decode b_X_storeProduct 24 = .ok (.invokestatic 97, 3) := by decide +kernel
theorem d_X_storeProduct_27 : decode b_X_storeProduct 27 = .ok (.ladd, 1) := by decide +kernel
theorem d_X_storeProduct_28 : decode b_X_storeProduct 28 = .ok (.lstore 17, 2) := by decide +kernel
theorem d_X_storeProduct_30 : decode b_X_storeProduct 30 = .ok (.lload 15, 2) := by decide +kernel
theorem d_X_storeProduct_32 : decode b_X_storeProduct 32 = .ok (.lload 11, 2) := by decide +kernel
theorem d_X_storeProduct_34 : decode b_X_storeProduct 34 = .ok (.invokestatic 35, 3) := by decide +kernel
theorem d_X_storeProduct_37 : decode b_X_storeProduct 37 = .ok (.lload 17, 2) := by decide +kernel
theorem d_X_storeProduct_39 : decode b_X_storeProduct 39 = .ok (.lload 15, 2) := by decide +kernel
theorem d_X_storeProduct_41 : decode b_X_storeProduct 41 = .ok (.invokestatic 35, 3) := by decide +kernel
theorem d_X_storeProduct_44 : decode b_X_storeProduct 44 = .ok (.ladd, 1) := by decide +kernel
theorem d_X_storeProduct_45 : decode b_X_storeProduct 45 = .ok (.lstore 19, 2) := by decide +kernel
theorem d_X_storeProduct_47 : decode b_X_storeProduct 47 = .ok (.lload_n 1, 1) := by decide +kernel
theorem d_X_storeProduct_48 : decode b_X_storeProduct 48 = .ok (.lload 7, 2) := by decide +kernel
theorem d_X_storeProduct_50 : decode b_X_storeProduct 50 = .ok (.invokestatic 97, 3) := by decide +kernel
theorem d_X_storeProduct_53 : decode b_X_storeProduct 53 = .ok (.lstore 21, 2) := by decide +kernel
theorem d_X_storeProduct_55 : decode b_X_storeProduct 55 = .ok (.lload 21, 2) := by decide +kernel
theorem d_X_storeProduct_57 : decode b_X_storeProduct 57 = .ok (.lload_n 3, 1) := by decide +kernel
theorem d_X_storeProduct_58 : decode b_X_storeProduct 58 = .ok (.lload 5, 2) := by decide +kernel
theorem d_X_storeProduct_60 : decode b_X_storeProduct 60 = .ok (.invokestatic 97, 3) := by decide +kernel
theorem d_X_storeProduct_63 : decode b_X_storeProduct 63 = .ok (.ladd, 1) := by decide +kernel
theorem d_X_storeProduct_64 : decode b_X_storeProduct 64 = .ok (.lstore 23, 2) := by decide +kernel
theorem d_X_storeProduct_66 : decode b_X_storeProduct 66 = .ok (.lload 23, 2) := by decide +kernel
theorem d_X_storeProduct_68 : decode b_X_storeProduct 68 = .ok (.lload 19, 2) := by decide +kernel
theorem d_X_storeProduct_70 : decode b_X_storeProduct 70 = .ok (.ladd, 1) := by decide +kernel
theorem d_X_storeProduct_71 : decode b_X_storeProduct 71 = .ok (.lstore 25, 2) := by decide +kernel
theorem d_X_storeProduct_73 : decode b_X_storeProduct 73 = .ok (.lload 25, 2) := by decide +kernel
theorem d_X_storeProduct_75 : decode b_X_storeProduct 75 = .ok (.lload_n 1, 1) := by decide +kernel
theorem d_X_storeProduct_76 : decode b_X_storeProduct 76 = .ok (.lload 5, 2) := by decide +kernel
theorem d_X_storeProduct_78 : decode b_X_storeProduct 78 = .ok (.lmul, 1) := by decide +kernel
theorem d_X_storeProduct_79 : decode b_X_storeProduct 79 = .ok (.ladd, 1) := by decide +kernel
theorem d_X_storeProduct_80 : decode b_X_storeProduct 80 = .ok (.lstore 27, 2) := by decide +kernel
theorem d_X_storeProduct_82 : decode b_X_storeProduct 82 = .ok (.lload 23, 2) := by decide +kernel
theorem d_X_storeProduct_84 : decode b_X_storeProduct 84 = .ok (.lload 21, 2) := by decide +kernel
theorem d_X_storeProduct_86 : decode b_X_storeProduct 86 = .ok (.invokestatic 35, 3) := by decide +kernel
theorem d_X_storeProduct_89 : decode b_X_storeProduct 89 = .ok (.lload 25, 2) := by decide +kernel
theorem d_X_storeProduct_91 : decode b_X_storeProduct 91 = .ok (.lload 19, 2) := by decide +kernel
theorem d_X_storeProduct_93 : decode b_X_storeProduct 93 = .ok (.invokestatic 35, 3) := by decide +kernel
theorem d_X_storeProduct_96 : decode b_X_storeProduct 96 = .ok (.ladd, 1) := by decide +kernel
theorem d_X_storeProduct_97 : decode b_X_storeProduct 97 = .ok (.lload 27, 2) := by decide +kernel
theorem d_X_storeProduct_99 : decode b_X_storeProduct 99 = .ok (.lload 25, 2) := by decide +kernel
theorem d_X_storeProduct_101 : decode b_X_storeProduct 101 = .ok (.invokestatic 35, 3) := by decide +kernel
theorem d_X_storeProduct_104 : decode b_X_storeProduct 104 = .ok (.ladd, 1) := by decide +kernel
theorem d_X_storeProduct_105 : decode b_X_storeProduct 105 = .ok (.lstore 29, 2) := by decide +kernel
theorem d_X_storeProduct_107 : decode b_X_storeProduct 107 = .ok (.aload_n 0, 1) := by decide +kernel
theorem d_X_storeProduct_108 : decode b_X_storeProduct 108 = .ok (.iload 9, 2) := by decide +kernel
theorem d_X_storeProduct_110 : decode b_X_storeProduct 110 = .ok (.lload_n 1, 1) := by decide +kernel
theorem d_X_storeProduct_111 : decode b_X_storeProduct 111 = .ok (.lload 5, 2) := by decide +kernel
theorem d_X_storeProduct_113 : decode b_X_storeProduct 113 = .ok (.invokestatic 97, 3) := by decide +kernel
theorem d_X_storeProduct_116 : decode b_X_storeProduct 116 = .ok (.lload 29, 2) := by decide +kernel
theorem d_X_storeProduct_118 : decode b_X_storeProduct 118 = .ok (.ladd, 1) := by decide +kernel
theorem d_X_storeProduct_119 : decode b_X_storeProduct 119 = .ok (.lload 27, 2) := by decide +kernel
theorem d_X_storeProduct_121 : decode b_X_storeProduct 121 = .ok (.invokevirtual 31, 3) := by decide +kernel
theorem d_X_storeProduct_124 : decode b_X_storeProduct 124 = .ok (.aload_n 0, 1) := by decide +kernel
theorem d_X_storeProduct_125 : decode b_X_storeProduct 125 = .ok (.iload 10, 2) := by decide +kernel
theorem d_X_storeProduct_127 : decode b_X_storeProduct 127 = .ok (.lload 17, 2) := by decide +kernel
theorem d_X_storeProduct_129 : decode b_X_storeProduct 129 = .ok (.lload_n 3, 1) := by decide +kernel
theorem d_X_storeProduct_130 : decode b_X_storeProduct 130 = .ok (.lload 7, 2) := by decide +kernel
theorem d_X_storeProduct_132 : decode b_X_storeProduct 132 = .ok (.lmul, 1) := by decide +kernel
theorem d_X_storeProduct_133 : decode b_X_storeProduct 133 = .ok (.invokevirtual 31, 3) := by decide +kernel
theorem d_X_storeProduct_136 : decode b_X_storeProduct 136 = .ok (.return_, 1) := by decide +kernel
theorem d_X_productOver_0 : decode b_X_productOver 0 = .ok (.lload_n 0, 1) := by decide +kernel
theorem d_X_productOver_1 : decode b_X_productOver 1 = .ok (.bipush 32, 2) := by decide +kernel
theorem d_X_productOver_3 : decode b_X_productOver 3 = .ok (.lushr, 1) := by decide +kernel
theorem d_X_productOver_4 : decode b_X_productOver 4 = .ok (.lstore 4, 2) := by decide +kernel
theorem d_X_productOver_6 : decode b_X_productOver 6 = .ok (.lload_n 0, 1) := by decide +kernel
theorem d_X_productOver_7 : decode b_X_productOver 7 = .ok (.ldc2_w 112, 3) := by decide +kernel
theorem d_X_productOver_10 : decode b_X_productOver 10 = .ok (.land, 1) := by decide +kernel
theorem d_X_productOver_11 : decode b_X_productOver 11 = .ok (.lstore 6, 2) := by decide +kernel
theorem d_X_productOver_13 : decode b_X_productOver 13 = .ok (.lload_n 2, 1) := by decide +kernel
theorem d_X_productOver_14 : decode b_X_productOver 14 = .ok (.bipush 32, 2) := by decide +kernel
theorem d_X_productOver_16 : decode b_X_productOver 16 = .ok (.lushr, 1) := by decide +kernel
theorem d_X_productOver_17 : decode b_X_productOver 17 = .ok (.lstore 8, 2) := by decide +kernel
theorem d_X_productOver_19 : decode b_X_productOver 19 = .ok (.lload_n 2, 1) := by decide +kernel
theorem d_X_productOver_20 : decode b_X_productOver 20 = .ok (.ldc2_w 112, 3) := by decide +kernel
theorem d_X_productOver_23 : decode b_X_productOver 23 = .ok (.land, 1) := by decide +kernel
theorem d_X_productOver_24 : decode b_X_productOver 24 = .ok (.lstore 10, 2) := by decide +kernel
theorem d_X_productOver_26 : decode b_X_productOver 26 = .ok (.lload 4, 2) := by decide +kernel
theorem d_X_productOver_28 : decode b_X_productOver 28 = .ok (.lload 10, 2) := by decide +kernel
theorem d_X_productOver_30 : decode b_X_productOver 30 = .ok (.lmul, 1) := by decide +kernel
theorem d_X_productOver_31 : decode b_X_productOver 31 = .ok (.lload 6, 2) := by decide +kernel
theorem d_X_productOver_33 : decode b_X_productOver 33 = .ok (.lload 10, 2) := by decide +kernel
theorem d_X_productOver_35 : decode b_X_productOver 35 = .ok (.lmul, 1) := by decide +kernel
theorem d_X_productOver_36 : decode b_X_productOver 36 = .ok (.bipush 32, 2) := by decide +kernel
theorem d_X_productOver_38 : decode b_X_productOver 38 = .ok (.lushr, 1) := by decide +kernel
theorem d_X_productOver_39 : decode b_X_productOver 39 = .ok (.ladd, 1) := by decide +kernel
theorem d_X_productOver_40 : decode b_X_productOver 40 = .ok (.lstore 12, 2) := by decide +kernel
theorem d_X_productOver_42 : decode b_X_productOver 42 = .ok (.lload 6, 2) := by decide +kernel
theorem d_X_productOver_44 : decode b_X_productOver 44 = .ok (.lload 8, 2) := by decide +kernel
theorem d_X_productOver_46 : decode b_X_productOver 46 = .ok (.lmul, 1) := by decide +kernel
theorem d_X_productOver_47 : decode b_X_productOver 47 = .ok (.lload 12, 2) := by decide +kernel
theorem d_X_productOver_49 : decode b_X_productOver 49 = .ok (.ldc2_w 112, 3) := by decide +kernel
theorem d_X_productOver_52 : decode b_X_productOver 52 = .ok (.land, 1) := by decide +kernel
theorem d_X_productOver_53 : decode b_X_productOver 53 = .ok (.ladd, 1) := by decide +kernel
theorem d_X_productOver_54 : decode b_X_productOver 54 = .ok (.lstore 14, 2) := by decide +kernel
theorem d_X_productOver_56 : decode b_X_productOver 56 = .ok (.lload 4, 2) := by decide +kernel
theorem d_X_productOver_58 : decode b_X_productOver 58 = .ok (.lload 8, 2) := by decide +kernel
theorem d_X_productOver_60 : decode b_X_productOver 60 = .ok (.lmul, 1) := by decide +kernel
theorem d_X_productOver_61 : decode b_X_productOver 61 = .ok (.lload 12, 2) := by decide +kernel
theorem d_X_productOver_63 : decode b_X_productOver 63 = .ok (.bipush 32, 2) := by decide +kernel
theorem d_X_productOver_65 : decode b_X_productOver 65 = .ok (.lushr, 1) := by decide +kernel
theorem d_X_productOver_66 : decode b_X_productOver 66 = .ok (.ladd, 1) := by decide +kernel
theorem d_X_productOver_67 : decode b_X_productOver 67 = .ok (.lload 14, 2) := by decide +kernel
theorem d_X_productOver_69 : decode b_X_productOver 69 = .ok (.bipush 32, 2) := by decide +kernel
theorem d_X_productOver_71 : decode b_X_productOver 71 = .ok (.lushr, 1) := by decide +kernel
theorem d_X_productOver_72 : decode b_X_productOver 72 = .ok (.ladd, 1) := by decide +kernel
theorem d_X_productOver_73 : decode b_X_productOver 73 = .ok (.lreturn, 1) := by decide +kernel
theorem d_X_divide_0 : decode b_X_divide 0 = .ok (.iload_n 1, 1) := by decide +kernel
theorem d_X_divide_1 : decode b_X_divide 1 = .ok (.invokestatic 27, 3) := by decide +kernel
theorem d_X_divide_4 : decode b_X_divide 4 = .ok (.iload_n 2, 1) := by decide +kernel
theorem d_X_divide_5 : decode b_X_divide 5 = .ok (.invokestatic 27, 3) := by decide +kernel
theorem d_X_divide_8 : decode b_X_divide 8 = .ok (.iload_n 3, 1) := by decide +kernel
theorem d_X_divide_9 : decode b_X_divide 9 = .ok (.invokestatic 27, 3) := by decide +kernel
theorem d_X_divide_12 : decode b_X_divide 12 = .ok (.iload 4, 2) := by decide +kernel
theorem d_X_divide_14 : decode b_X_divide 14 = .ok (.invokestatic 27, 3) := by decide +kernel
theorem d_X_divide_17 : decode b_X_divide 17 = .ok (.iload_n 3, 1) := by decide +kernel
theorem d_X_divide_18 : decode b_X_divide 18 = .ok (.iload 4, 2) := by decide +kernel
theorem d_X_divide_20 : decode b_X_divide 20 = .ok (.invokestatic 43, 3) := by decide +kernel
theorem d_X_divide_23 : decode b_X_divide 23 = .ok (.aload_n 0, 1) := by decide +kernel
theorem d_X_divide_24 : decode b_X_divide 24 = .ok (.getfield 9, 3) := by decide +kernel
theorem d_X_divide_27 : decode b_X_divide 27 = .ok (.iload_n 2, 1) := by decide +kernel
theorem d_X_divide_28 : decode b_X_divide 28 = .ok (.laload, 1) := by decide +kernel
theorem d_X_divide_29 : decode b_X_divide 29 = .ok (.lconst 0, 1) := by decide +kernel
theorem d_X_divide_30 : decode b_X_divide 30 = .ok (.lcmp, 1) := by decide +kernel
theorem d_X_divide_31 : decode b_X_divide 31 = .ok (.ifCond .ne 24, 3) := by decide +kernel
theorem d_X_divide_34 : decode b_X_divide 34 = .ok (.aload_n 0, 1) := by decide +kernel
theorem d_X_divide_35 : decode b_X_divide 35 = .ok (.getfield 13, 3) := by decide +kernel
theorem d_X_divide_38 : decode b_X_divide 38 = .ok (.iload_n 2, 1) := by decide +kernel
theorem d_X_divide_39 : decode b_X_divide 39 = .ok (.laload, 1) := by decide +kernel
theorem d_X_divide_40 : decode b_X_divide 40 = .ok (.lconst 0, 1) := by decide +kernel
theorem d_X_divide_41 : decode b_X_divide 41 = .ok (.lcmp, 1) := by decide +kernel
theorem d_X_divide_42 : decode b_X_divide 42 = .ok (.ifCond .ne 13, 3) := by decide +kernel
theorem d_X_divide_45 : decode b_X_divide 45 = .ok (.new 51, 3) := by decide +kernel
theorem d_X_divide_48 : decode b_X_divide 48 = .ok (.dup, 1) := by decide +kernel
theorem d_X_divide_49 : decode b_X_divide 49 = .ok (.ldc 53, 2) := by decide +kernel
theorem d_X_divide_51 : decode b_X_divide 51 = .ok (.invokespecial 55, 3) := by decide +kernel
theorem d_X_divide_54 : decode b_X_divide 54 = .ok (.athrow, 1) := by decide +kernel
theorem d_X_divide_55 : decode b_X_divide 55 = .ok (.aload_n 0, 1) := by decide +kernel
theorem d_X_divide_56 : decode b_X_divide 56 = .ok (.aload_n 0, 1) := by decide +kernel
theorem d_X_divide_57 : decode b_X_divide 57 = .ok (.getfield 9, 3) := by decide +kernel
theorem d_X_divide_60 : decode b_X_divide 60 = .ok (.iload_n 1, 1) := by decide +kernel
theorem d_X_divide_61 : decode b_X_divide 61 = .ok (.laload, 1) := by decide +kernel
theorem d_X_divide_62 : decode b_X_divide 62 = .ok (.aload_n 0, 1) := by decide +kernel
theorem d_X_divide_63 : decode b_X_divide 63 = .ok (.getfield 13, 3) := by decide +kernel
theorem d_X_divide_66 : decode b_X_divide 66 = .ok (.iload_n 1, 1) := by decide +kernel
theorem d_X_divide_67 : decode b_X_divide 67 = .ok (.laload, 1) := by decide +kernel
theorem d_X_divide_68 : decode b_X_divide 68 = .ok (.aload_n 0, 1) := by decide +kernel
theorem d_X_divide_69 : decode b_X_divide 69 = .ok (.getfield 9, 3) := by decide +kernel
theorem d_X_divide_72 : decode b_X_divide 72 = .ok (.iload_n 2, 1) := by decide +kernel
theorem d_X_divide_73 : decode b_X_divide 73 = .ok (.laload, 1) := by decide +kernel
theorem d_X_divide_74 : decode b_X_divide 74 = .ok (.aload_n 0, 1) := by decide +kernel
theorem d_X_divide_75 : decode b_X_divide 75 = .ok (.getfield 13, 3) := by decide +kernel
theorem d_X_divide_78 : decode b_X_divide 78 = .ok (.iload_n 2, 1) := by decide +kernel
theorem d_X_divide_79 : decode b_X_divide 79 = .ok (.laload, 1) := by decide +kernel
theorem d_X_divide_80 : decode b_X_divide 80 = .ok (.iload_n 3, 1) := by decide +kernel
theorem d_X_divide_81 : decode b_X_divide 81 = .ok (.iload 4, 2) := by decide +kernel
theorem d_X_divide_83 : decode b_X_divide 83 = .ok (.invokevirtual 58, 3) := by decide +kernel
theorem d_X_divide_86 : decode b_X_divide 86 = .ok (.return_, 1) := by decide +kernel
theorem d_X_storeQuotient_0 : decode b_X_storeQuotient 0 = .ok (.lload_n 1, 1) := by decide +kernel
theorem d_X_storeQuotient_1 : decode b_X_storeQuotient 1 = .ok (.lstore 11, 2) := by decide +kernel
theorem d_X_storeQuotient_3 : decode b_X_storeQuotient 3 = .ok (.lload_n 3, 1) := by decide +kernel
theorem d_X_storeQuotient_4 : decode b_X_storeQuotient 4 = .ok (.lstore 13, 2) := by decide +kernel
theorem d_X_storeQuotient_6 : decode b_X_storeQuotient 6 = .ok (.lconst 0, 1) := by decide +kernel
theorem d_X_storeQuotient_7 : decode b_X_storeQuotient 7 = .ok (.lstore 15, 2) := by decide +kernel
theorem d_X_storeQuotient_9 : decode b_X_storeQuotient 9 = .ok (.lconst 0, 1) := by decide +kernel
theorem d_X_storeQuotient_10 : decode b_X_storeQuotient 10 = .ok (.lstore 17, 2) := by decide +kernel
theorem d_X_storeQuotient_12 : decode b_X_storeQuotient 12 = .ok (.iconst 0, 1) := by decide +kernel
theorem d_X_storeQuotient_13 : decode b_X_storeQuotient 13 = .ok (.istore 19, 2) := by decide +kernel
theorem d_X_storeQuotient_15 : decode b_X_storeQuotient 15 = .ok (.iload 19, 2) := by decide +kernel
theorem d_X_storeQuotient_17 : decode b_X_storeQuotient 17 = .ok (.sipush 128, 3) := by decide +kernel
theorem d_X_storeQuotient_20 : decode b_X_storeQuotient 20 = .ok (.if_icmp .ge 112, 3) := by decide +kernel
theorem d_X_storeQuotient_23 : decode b_X_storeQuotient 23 = .ok (.lload 15, 2) := by decide +kernel
theorem d_X_storeQuotient_25 : decode b_X_storeQuotient 25 = .ok (.lconst 0, 1) := by decide +kernel
theorem d_X_storeQuotient_26 : decode b_X_storeQuotient 26 = .ok (.lcmp, 1) := by decide +kernel
theorem d_X_storeQuotient_27 : decode b_X_storeQuotient 27 = .ok (.ifCond .ge 7, 3) := by decide +kernel
theorem d_X_storeQuotient_30 : decode b_X_storeQuotient 30 = .ok (.iconst 1, 1) := by decide +kernel
theorem d_X_storeQuotient_31 : decode b_X_storeQuotient 31 = .ok (.goto 4, 3) := by decide +kernel
theorem d_X_storeQuotient_34 : decode b_X_storeQuotient 34 = .ok (.iconst 0, 1) := by decide +kernel
theorem d_X_storeQuotient_35 : decode b_X_storeQuotient 35 = .ok (.istore 20, 2) := by decide +kernel
theorem d_X_storeQuotient_37 : decode b_X_storeQuotient 37 = .ok (.lload 15, 2) := by decide +kernel
theorem d_X_storeQuotient_39 : decode b_X_storeQuotient 39 = .ok (.iconst 1, 1) := by decide +kernel
theorem d_X_storeQuotient_40 : decode b_X_storeQuotient 40 = .ok (.lshl, 1) := by decide +kernel
theorem d_X_storeQuotient_41 : decode b_X_storeQuotient 41 = .ok (.lload 17, 2) := by decide +kernel
theorem d_X_storeQuotient_43 : decode b_X_storeQuotient 43 = .ok (.bipush 63, 2) := by decide +kernel
theorem d_X_storeQuotient_45 : decode b_X_storeQuotient 45 = .ok (.lushr, 1) := by decide +kernel
theorem d_X_storeQuotient_46 : decode b_X_storeQuotient 46 = .ok (.lor, 1) := by decide +kernel
theorem d_X_storeQuotient_47 : decode b_X_storeQuotient 47 = .ok (.lstore 15, 2) := by decide +kernel
theorem d_X_storeQuotient_49 : decode b_X_storeQuotient 49 = .ok (.lload 17, 2) := by decide +kernel
theorem d_X_storeQuotient_51 : decode b_X_storeQuotient 51 = .ok (.iconst 1, 1) := by decide +kernel
theorem d_X_storeQuotient_52 : decode b_X_storeQuotient 52 = .ok (.lshl, 1) := by decide +kernel
theorem d_X_storeQuotient_53 : decode b_X_storeQuotient 53 = .ok (.lload 11, 2) := by decide +kernel
theorem d_X_storeQuotient_55 : decode b_X_storeQuotient 55 = .ok (.bipush 63, 2) := by decide +kernel
theorem d_X_storeQuotient_57 : decode b_X_storeQuotient 57 = .ok (.lushr, 1) := by decide +kernel
theorem d_X_storeQuotient_58 : decode b_X_storeQuotient 58 = .ok (.lor, 1) := by decide +kernel
theorem d_X_storeQuotient_59 : decode b_X_storeQuotient 59 = .ok (.lstore 17, 2) := by decide +kernel
theorem d_X_storeQuotient_61 : decode b_X_storeQuotient 61 = .ok (.lload 11, 2) := by decide +kernel
theorem d_X_storeQuotient_63 : decode b_X_storeQuotient 63 = .ok (.iconst 1, 1) := by decide +kernel
theorem d_X_storeQuotient_64 : decode b_X_storeQuotient 64 = .ok (.lshl, 1) := by decide +kernel
theorem d_X_storeQuotient_65 : decode b_X_storeQuotient 65 = .ok (.lload 13, 2) := by decide +kernel
theorem d_X_storeQuotient_67 : decode b_X_storeQuotient 67 = .ok (.bipush 63, 2) := by decide +kernel
theorem d_X_storeQuotient_69 : decode b_X_storeQuotient 69 = .ok (.lushr, 1) := by decide +kernel
theorem d_X_storeQuotient_70 : decode b_X_storeQuotient 70 = .ok (.lor, 1) := by decide +kernel
theorem d_X_storeQuotient_71 : decode b_X_storeQuotient 71 = .ok (.lstore 11, 2) := by decide +kernel
theorem d_X_storeQuotient_73 : decode b_X_storeQuotient 73 = .ok (.lload 13, 2) := by decide +kernel
theorem d_X_storeQuotient_75 : decode b_X_storeQuotient 75 = .ok (.iconst 1, 1) := by decide +kernel
theorem d_X_storeQuotient_76 : decode b_X_storeQuotient 76 = .ok (.lshl, 1) := by decide +kernel
theorem d_X_storeQuotient_77 : decode b_X_storeQuotient 77 = .ok (.lstore 13, 2) := by decide +kernel
theorem d_X_storeQuotient_79 : decode b_X_storeQuotient 79 = .ok (.iload 20, 2) := by decide +kernel
theorem d_X_storeQuotient_81 : decode b_X_storeQuotient 81 = .ok (.ifCond .ne 17, 3) := by decide +kernel
theorem d_X_storeQuotient_84 : decode b_X_storeQuotient 84 = .ok (.lload 15, 2) := by decide +kernel
theorem d_X_storeQuotient_86 : decode b_X_storeQuotient 86 = .ok (.lload 17, 2) := by decide +kernel
theorem d_X_storeQuotient_88 : decode b_X_storeQuotient 88 = .ok (.lload 5, 2) := by decide +kernel
theorem d_X_storeQuotient_90 : decode b_X_storeQuotient 90 = .ok (.lload 7, 2) := by decide +kernel
theorem d_X_storeQuotient_92 : decode b_X_storeQuotient 92 = .ok (.invokestatic 39, 3) := by decide +kernel
theorem d_X_storeQuotient_95 : decode b_X_storeQuotient 95 = .ok (.ifCond .ne 31, 3) := by decide +kernel
theorem d_X_storeQuotient_98 : decode b_X_storeQuotient 98 = .ok (.lload 15, 2) := by decide +kernel
theorem d_X_storeQuotient_100 : decode b_X_storeQuotient 100 = .ok (.lload 5, 2) := by decide +kernel
theorem d_X_storeQuotient_102 : decode b_X_storeQuotient 102 = .ok (.lsub, 1) := by decide +kernel
theorem d_X_storeQuotient_103 : decode b_X_storeQuotient 103 = .ok (.lload 17, 2) := by decide +kernel
theorem d_X_storeQuotient_105 : decode b_X_storeQuotient 105 = .ok (.lload 7, 2) := by decide +kernel
theorem d_X_storeQuotient_107 : decode b_X_storeQuotient 107 = .ok (.invokestatic 35, 3) := by decide +kernel
theorem d_X_storeQuotient_110 : decode b_X_storeQuotient 110 = .ok (.lsub, 1) := by decide +kernel
theorem d_X_storeQuotient_111 : decode b_X_storeQuotient 111 = .ok (.lstore 15, 2) := by decide +kernel
theorem d_X_storeQuotient_113 : decode b_X_storeQuotient 113 = .ok (.lload 17, 2) := by decide +kernel
theorem d_X_storeQuotient_115 : decode b_X_storeQuotient 115 = .ok (.lload 7, 2) := by decide +kernel
theorem d_X_storeQuotient_117 : decode b_X_storeQuotient 117 = .ok (.lsub, 1) := by decide +kernel
theorem d_X_storeQuotient_118 : decode b_X_storeQuotient 118 = .ok (.lstore 17, 2) := by decide +kernel
theorem d_X_storeQuotient_120 : decode b_X_storeQuotient 120 = .ok (.lload 13, 2) := by decide +kernel
theorem d_X_storeQuotient_122 : decode b_X_storeQuotient 122 = .ok (.lconst 1, 1) := by decide +kernel
theorem d_X_storeQuotient_123 : decode b_X_storeQuotient 123 = .ok (.lor, 1) := by decide +kernel
theorem d_X_storeQuotient_124 : decode b_X_storeQuotient 124 = .ok (.lstore 13, 2) := by decide +kernel
theorem d_X_storeQuotient_126 : decode b_X_storeQuotient 126 = .ok (.iinc 19 1, 3) := by decide +kernel
theorem d_X_storeQuotient_129 : decode b_X_storeQuotient 129 = .ok (.goto (-114), 3) := by decide +kernel
theorem d_X_storeQuotient_132 : decode b_X_storeQuotient 132 = .ok (.aload_n 0, 1) := by decide +kernel
theorem d_X_storeQuotient_133 : decode b_X_storeQuotient 133 = .ok (.iload 9, 2) := by decide +kernel
theorem d_X_storeQuotient_135 : decode b_X_storeQuotient 135 = .ok (.lload 11, 2) := by decide +kernel
theorem d_X_storeQuotient_137 : decode b_X_storeQuotient 137 = .ok (.lload 13, 2) := by decide +kernel
theorem d_X_storeQuotient_139 : decode b_X_storeQuotient 139 = .ok (.invokevirtual 31, 3) := by decide +kernel
theorem d_X_storeQuotient_142 : decode b_X_storeQuotient 142 = .ok (.aload_n 0, 1) := by decide +kernel
theorem d_X_storeQuotient_143 : decode b_X_storeQuotient 143 = .ok (.iload 10, 2) := by decide +kernel
theorem d_X_storeQuotient_145 : decode b_X_storeQuotient 145 = .ok (.lload 15, 2) := by decide +kernel
theorem d_X_storeQuotient_147 : decode b_X_storeQuotient 147 = .ok (.lload 17, 2) := by decide +kernel
theorem d_X_storeQuotient_149 : decode b_X_storeQuotient 149 = .ok (.invokevirtual 31, 3) := by decide +kernel
theorem d_X_storeQuotient_152 : decode b_X_storeQuotient 152 = .ok (.return_, 1) := by decide +kernel
theorem d_X_root_0 : decode b_X_root 0 = .ok (.iload_n 1, 1) := by decide +kernel
theorem d_X_root_1 : decode b_X_root 1 = .ok (.invokestatic 27, 3) := by decide +kernel
theorem d_X_root_4 : decode b_X_root 4 = .ok (.iload_n 2, 1) := by decide +kernel
theorem d_X_root_5 : decode b_X_root 5 = .ok (.invokestatic 27, 3) := by decide +kernel
theorem d_X_root_8 : decode b_X_root 8 = .ok (.iload_n 3, 1) := by decide +kernel
theorem d_X_root_9 : decode b_X_root 9 = .ok (.invokestatic 27, 3) := by decide +kernel
theorem d_X_root_12 : decode b_X_root 12 = .ok (.iload_n 2, 1) := by decide +kernel
theorem d_X_root_13 : decode b_X_root 13 = .ok (.iload_n 3, 1) := by decide +kernel
theorem d_X_root_14 : decode b_X_root 14 = .ok (.invokestatic 43, 3) := by decide +kernel
theorem d_X_root_17 : decode b_X_root 17 = .ok (.aload_n 0, 1) := by decide +kernel
theorem d_X_root_18 : decode b_X_root 18 = .ok (.aload_n 0, 1) := by decide +kernel
theorem d_X_root_19 : decode b_X_root 19 = .ok (.getfield 9, 3) := by decide +kernel
theorem d_X_root_22 : decode b_X_root 22 = .ok (.iload_n 1, 1) := by decide +kernel
theorem d_X_root_23 : decode b_X_root 23 = .ok (.laload, 1) := by decide +kernel
theorem d_X_root_24 : decode b_X_root 24 = .ok (.aload_n 0, 1) := by decide +kernel
theorem d_X_root_25 : decode b_X_root 25 = .ok (.getfield 13, 3) := by decide +kernel
theorem d_X_root_28 : decode b_X_root 28 = .ok (.iload_n 1, 1) := by decide +kernel
theorem d_X_root_29 : decode b_X_root 29 = .ok (.laload, 1) := by decide +kernel
theorem d_X_root_30 : decode b_X_root 30 = .ok (.iload_n 2, 1) := by decide +kernel
theorem d_X_root_31 : decode b_X_root 31 = .ok (.iload_n 3, 1) := by decide +kernel
theorem d_X_root_32 : decode b_X_root 32 = .ok (.invokevirtual 61, 3) := by decide +kernel
theorem d_X_root_35 : decode b_X_root 35 = .ok (.return_, 1) := by decide +kernel
theorem d_X_storeRoot_0 : decode b_X_storeRoot 0 = .ok (.lload_n 1, 1) := by decide +kernel
theorem d_X_storeRoot_1 : decode b_X_storeRoot 1 = .ok (.lstore 7, 2) := by decide +kernel
theorem d_X_storeRoot_3 : decode b_X_storeRoot 3 = .ok (.lload_n 3, 1) := by decide +kernel
theorem d_X_storeRoot_4 : decode b_X_storeRoot 4 = .ok (.lstore 9, 2) := by decide +kernel
theorem d_X_storeRoot_6 : decode b_X_storeRoot 6 = .ok (.lconst 0, 1) := by decide +kernel
theorem d_X_storeRoot_7 : decode b_X_storeRoot 7 = .ok (.lstore 11, 2) := by decide +kernel
theorem d_X_storeRoot_9 : decode b_X_storeRoot 9 = .ok (.lconst 0, 1) := by decide +kernel
theorem d_X_storeRoot_10 : decode b_X_storeRoot 10 = .ok (.lstore 13, 2) := by decide +kernel
theorem d_X_storeRoot_12 : decode b_X_storeRoot 12 = .ok (.lconst 0, 1) := by decide +kernel
theorem d_X_storeRoot_13 : decode b_X_storeRoot 13 = .ok (.lstore 15, 2) := by decide +kernel
theorem d_X_storeRoot_15 : decode b_X_storeRoot 15 = .ok (.iconst 0, 1) := by decide +kernel
theorem d_X_storeRoot_16 : decode b_X_storeRoot 16 = .ok (.istore 17, 2) := by decide +kernel
theorem d_X_storeRoot_18 : decode b_X_storeRoot 18 = .ok (.iload 17, 2) := by decide +kernel
theorem d_X_storeRoot_20 : decode b_X_storeRoot 20 = .ok (.bipush 64, 2) := by decide +kernel
theorem d_X_storeRoot_22 : decode b_X_storeRoot 22 = .ok (.if_icmp .ge 114, 3) := by decide +kernel
theorem d_X_storeRoot_25 : decode b_X_storeRoot 25 = .ok (.lload 13, 2) := by decide +kernel
theorem d_X_storeRoot_27 : decode b_X_storeRoot 27 = .ok (.iconst 2, 1) := by decide +kernel
theorem d_X_storeRoot_28 : decode b_X_storeRoot 28 = .ok (.lshl, 1) := by decide +kernel
theorem d_X_storeRoot_29 : decode b_X_storeRoot 29 = .ok (.lload 15, 2) := by decide +kernel
theorem d_X_storeRoot_31 : decode b_X_storeRoot 31 = .ok (.bipush 62, 2) := by decide +kernel
theorem d_X_storeRoot_33 : decode b_X_storeRoot 33 = .ok (.lushr, 1) := by decide +kernel
theorem d_X_storeRoot_34 : decode b_X_storeRoot 34 = .ok (.lor, 1) := by decide +kernel
theorem d_X_storeRoot_35 : decode b_X_storeRoot 35 = .ok (.lstore 13, 2) := by decide +kernel
theorem d_X_storeRoot_37 : decode b_X_storeRoot 37 = .ok (.lload 15, 2) := by decide +kernel
theorem d_X_storeRoot_39 : decode b_X_storeRoot 39 = .ok (.iconst 2, 1) := by decide +kernel
theorem d_X_storeRoot_40 : decode b_X_storeRoot 40 = .ok (.lshl, 1) := by decide +kernel
theorem d_X_storeRoot_41 : decode b_X_storeRoot 41 = .ok (.lload 7, 2) := by decide +kernel
theorem d_X_storeRoot_43 : decode b_X_storeRoot 43 = .ok (.bipush 62, 2) := by decide +kernel
theorem d_X_storeRoot_45 : decode b_X_storeRoot 45 = .ok (.lushr, 1) := by decide +kernel
theorem d_X_storeRoot_46 : decode b_X_storeRoot 46 = .ok (.lor, 1) := by decide +kernel
theorem d_X_storeRoot_47 : decode b_X_storeRoot 47 = .ok (.lstore 15, 2) := by decide +kernel
theorem d_X_storeRoot_49 : decode b_X_storeRoot 49 = .ok (.lload 7, 2) := by decide +kernel
theorem d_X_storeRoot_51 : decode b_X_storeRoot 51 = .ok (.iconst 2, 1) := by decide +kernel
theorem d_X_storeRoot_52 : decode b_X_storeRoot 52 = .ok (.lshl, 1) := by decide +kernel
theorem d_X_storeRoot_53 : decode b_X_storeRoot 53 = .ok (.lload 9, 2) := by decide +kernel
theorem d_X_storeRoot_55 : decode b_X_storeRoot 55 = .ok (.bipush 62, 2) := by decide +kernel
theorem d_X_storeRoot_57 : decode b_X_storeRoot 57 = .ok (.lushr, 1) := by decide +kernel
theorem d_X_storeRoot_58 : decode b_X_storeRoot 58 = .ok (.lor, 1) := by decide +kernel
theorem d_X_storeRoot_59 : decode b_X_storeRoot 59 = .ok (.lstore 7, 2) := by decide +kernel
theorem d_X_storeRoot_61 : decode b_X_storeRoot 61 = .ok (.lload 9, 2) := by decide +kernel
theorem d_X_storeRoot_63 : decode b_X_storeRoot 63 = .ok (.iconst 2, 1) := by decide +kernel
theorem d_X_storeRoot_64 : decode b_X_storeRoot 64 = .ok (.lshl, 1) := by decide +kernel
theorem d_X_storeRoot_65 : decode b_X_storeRoot 65 = .ok (.lstore 9, 2) := by decide +kernel
theorem d_X_storeRoot_67 : decode b_X_storeRoot 67 = .ok (.lload 11, 2) := by decide +kernel
theorem d_X_storeRoot_69 : decode b_X_storeRoot 69 = .ok (.bipush 62, 2) := by decide +kernel
theorem d_X_storeRoot_71 : decode b_X_storeRoot 71 = .ok (.lushr, 1) := by decide +kernel
theorem d_X_storeRoot_72 : decode b_X_storeRoot 72 = .ok (.lstore 18, 2) := by decide +kernel
theorem d_X_storeRoot_74 : decode b_X_storeRoot 74 = .ok (.lload 11, 2) := by decide +kernel
theorem d_X_storeRoot_76 : decode b_X_storeRoot 76 = .ok (.iconst 2, 1) := by decide +kernel
theorem d_X_storeRoot_77 : decode b_X_storeRoot 77 = .ok (.lshl, 1) := by decide +kernel
theorem d_X_storeRoot_78 : decode b_X_storeRoot 78 = .ok (.lconst 1, 1) := by decide +kernel
theorem d_X_storeRoot_79 : decode b_X_storeRoot 79 = .ok (.lor, 1) := by decide +kernel
theorem d_X_storeRoot_80 : decode b_X_storeRoot 80 = .ok (.lstore 20, 2) := by decide +kernel
theorem d_X_storeRoot_82 : decode b_X_storeRoot 82 = .ok (.lload 11, 2) := by decide +kernel
theorem d_X_storeRoot_84 : decode b_X_storeRoot 84 = .ok (.iconst 1, 1) := by decide +kernel
theorem d_X_storeRoot_85 : decode b_X_storeRoot 85 = .ok (.lshl, 1) := by decide +kernel
theorem d_X_storeRoot_86 : decode b_X_storeRoot 86 = .ok (.lstore 11, 2) := by decide +kernel
theorem d_X_storeRoot_88 : decode b_X_storeRoot 88 = .ok (.lload 13, 2) := by decide +kernel
theorem d_X_storeRoot_90 : decode b_X_storeRoot 90 = .ok (.lload 15, 2) := by decide +kernel
theorem d_X_storeRoot_92 : decode b_X_storeRoot 92 = .ok (.lload 18, 2) := by decide +kernel
theorem d_X_storeRoot_94 : decode b_X_storeRoot 94 = .ok (.lload 20, 2) := by decide +kernel
theorem d_X_storeRoot_96 : decode b_X_storeRoot 96 = .ok (.invokestatic 39, 3) := by decide +kernel
theorem d_X_storeRoot_99 : decode b_X_storeRoot 99 = .ok (.ifCond .ne 31, 3) := by decide +kernel
theorem d_X_storeRoot_102 : decode b_X_storeRoot 102 = .ok (.lload 13, 2) := by decide +kernel
theorem d_X_storeRoot_104 : decode b_X_storeRoot 104 = .ok (.lload 18, 2) := by decide +kernel
theorem d_X_storeRoot_106 : decode b_X_storeRoot 106 = .ok (.lsub, 1) := by decide +kernel
theorem d_X_storeRoot_107 : decode b_X_storeRoot 107 = .ok (.lload 15, 2) := by decide +kernel
theorem d_X_storeRoot_109 : decode b_X_storeRoot 109 = .ok (.lload 20, 2) := by decide +kernel
theorem d_X_storeRoot_111 : decode b_X_storeRoot 111 = .ok (.invokestatic 35, 3) := by decide +kernel
theorem d_X_storeRoot_114 : decode b_X_storeRoot 114 = .ok (.lsub, 1) := by decide +kernel
theorem d_X_storeRoot_115 : decode b_X_storeRoot 115 = .ok (.lstore 13, 2) := by decide +kernel
theorem d_X_storeRoot_117 : decode b_X_storeRoot 117 = .ok (.lload 15, 2) := by decide +kernel
theorem d_X_storeRoot_119 : decode b_X_storeRoot 119 = .ok (.lload 20, 2) := by decide +kernel
theorem d_X_storeRoot_121 : decode b_X_storeRoot 121 = .ok (.lsub, 1) := by decide +kernel
theorem d_X_storeRoot_122 : decode b_X_storeRoot 122 = .ok (.lstore 15, 2) := by decide +kernel
theorem d_X_storeRoot_124 : decode b_X_storeRoot 124 = .ok (.lload 11, 2) := by decide +kernel
theorem d_X_storeRoot_126 : decode b_X_storeRoot 126 = .ok (.lconst 1, 1) := by decide +kernel
theorem d_X_storeRoot_127 : decode b_X_storeRoot 127 = .ok (.lor, 1) := by decide +kernel
theorem d_X_storeRoot_128 : decode b_X_storeRoot 128 = .ok (.lstore 11, 2) := by decide +kernel
theorem d_X_storeRoot_130 : decode b_X_storeRoot 130 = .ok (.iinc 17 1, 3) := by decide +kernel
theorem d_X_storeRoot_133 : decode b_X_storeRoot 133 = .ok (.goto (-115), 3) := by decide +kernel
theorem d_X_storeRoot_136 : decode b_X_storeRoot 136 = .ok (.aload_n 0, 1) := by decide +kernel
theorem d_X_storeRoot_137 : decode b_X_storeRoot 137 = .ok (.iload 5, 2) := by decide +kernel
theorem d_X_storeRoot_139 : decode b_X_storeRoot 139 = .ok (.lconst 0, 1) := by decide +kernel
theorem d_X_storeRoot_140 : decode b_X_storeRoot 140 = .ok (.lload 11, 2) := by decide +kernel
theorem d_X_storeRoot_142 : decode b_X_storeRoot 142 = .ok (.invokevirtual 31, 3) := by decide +kernel
theorem d_X_storeRoot_145 : decode b_X_storeRoot 145 = .ok (.aload_n 0, 1) := by decide +kernel
theorem d_X_storeRoot_146 : decode b_X_storeRoot 146 = .ok (.iload 6, 2) := by decide +kernel
theorem d_X_storeRoot_148 : decode b_X_storeRoot 148 = .ok (.lload 13, 2) := by decide +kernel
theorem d_X_storeRoot_150 : decode b_X_storeRoot 150 = .ok (.lload 15, 2) := by decide +kernel
theorem d_X_storeRoot_152 : decode b_X_storeRoot 152 = .ok (.invokevirtual 31, 3) := by decide +kernel
theorem d_X_storeRoot_155 : decode b_X_storeRoot 155 = .ok (.return_, 1) := by decide +kernel
theorem d_X_shift_0 : decode b_X_shift 0 = .ok (.iload_n 1, 1) := by decide +kernel
theorem d_X_shift_1 : decode b_X_shift 1 = .ok (.invokestatic 27, 3) := by decide +kernel
theorem d_X_shift_4 : decode b_X_shift 4 = .ok (.iload_n 3, 1) := by decide +kernel
theorem d_X_shift_5 : decode b_X_shift 5 = .ok (.invokestatic 27, 3) := by decide +kernel
theorem d_X_shift_8 : decode b_X_shift 8 = .ok (.iload_n 2, 1) := by decide +kernel
theorem d_X_shift_9 : decode b_X_shift 9 = .ok (.ifCond .lt 22, 3) := by decide +kernel
theorem d_X_shift_12 : decode b_X_shift 12 = .ok (.aload_n 0, 1) := by decide +kernel
theorem d_X_shift_13 : decode b_X_shift 13 = .ok (.aload_n 0, 1) := by decide +kernel
theorem d_X_shift_14 : decode b_X_shift 14 = .ok (.getfield 9, 3) := by decide +kernel
theorem d_X_shift_17 : decode b_X_shift 17 = .ok (.iload_n 1, 1) := by decide +kernel
theorem d_X_shift_18 : decode b_X_shift 18 = .ok (.laload, 1) := by decide +kernel
theorem d_X_shift_19 : decode b_X_shift 19 = .ok (.aload_n 0, 1) := by decide +kernel
theorem d_X_shift_20 : decode b_X_shift 20 = .ok (.getfield 13, 3) := by decide +kernel
theorem d_X_shift_23 : decode b_X_shift 23 = .ok (.iload_n 1, 1) := by decide +kernel
theorem d_X_shift_24 : decode b_X_shift 24 = .ok (.laload, 1) := by decide +kernel
theorem d_X_shift_25 : decode b_X_shift 25 = .ok (.iload_n 2, 1) := by decide +kernel
theorem d_X_shift_26 : decode b_X_shift 26 = .ok (.iload_n 3, 1) := by decide +kernel
theorem d_X_shift_27 : decode b_X_shift 27 = .ok (.invokevirtual 65, 3) := by decide +kernel
theorem d_X_shift_30 : decode b_X_shift 30 = .ok (.ireturn, 1) := by decide +kernel
theorem d_X_shift_31 : decode b_X_shift 31 = .ok (.iload_n 2, 1) := by decide +kernel
theorem d_X_shift_32 : decode b_X_shift 32 = .ok (.bipush (-128), 2) := by decide +kernel
theorem d_X_shift_34 : decode b_X_shift 34 = .ok (.if_icmp .gt 9, 3) := by decide +kernel
theorem d_X_shift_37 : decode b_X_shift 37 = .ok (.sipush 128, 3) := by decide +kernel
theorem d_X_shift_40 : decode b_X_shift 40 = .ok (.goto 5, 3) := by decide +kernel
theorem d_X_shift_43 : decode b_X_shift 43 = .ok (.iload_n 2, 1) := by decide +kernel
theorem d_X_shift_44 : decode b_X_shift 44 = .ok (.ineg, 1) := by decide +kernel
theorem d_X_shift_45 : decode b_X_shift 45 = .ok (.istore 4, 2) := by decide +kernel
theorem d_X_shift_47 : decode b_X_shift 47 = .ok (.aload_n 0, 1) := by decide +kernel
theorem d_X_shift_48 : decode b_X_shift 48 = .ok (.aload_n 0, 1) := by decide +kernel
theorem d_X_shift_49 : decode b_X_shift 49 = .ok (.getfield 9, 3) := by decide +kernel
theorem d_X_shift_52 : decode b_X_shift 52 = .ok (.iload_n 1, 1) := by decide +kernel
theorem d_X_shift_53 : decode b_X_shift 53 = .ok (.laload, 1) := by decide +kernel
theorem d_X_shift_54 : decode b_X_shift 54 = .ok (.aload_n 0, 1) := by decide +kernel
theorem d_X_shift_55 : decode b_X_shift 55 = .ok (.getfield 13, 3) := by decide +kernel
theorem d_X_shift_58 : decode b_X_shift 58 = .ok (.iload_n 1, 1) := by decide +kernel
theorem d_X_shift_59 : decode b_X_shift 59 = .ok (.laload, 1) := by decide +kernel
theorem d_X_shift_60 : decode b_X_shift 60 = .ok (.iload 4, 2) := by decide +kernel
theorem d_X_shift_62 : decode b_X_shift 62 = .ok (.iload_n 3, 1) := by decide +kernel
theorem d_X_shift_63 : decode b_X_shift 63 = .ok (.invokevirtual 69, 3) := by decide +kernel
theorem d_X_shift_66 : decode b_X_shift 66 = .ok (.ireturn, 1) := by decide +kernel
theorem d_X_storeShiftedUp_0 : decode b_X_storeShiftedUp 0 = .ok (.iload 5, 2) := by decide +kernel
theorem d_X_storeShiftedUp_2 : decode b_X_storeShiftedUp 2 = .ok (.sipush 128, 3) := by decide +kernel
theorem d_X_storeShiftedUp_5 : decode b_X_storeShiftedUp 5 = .ok (.if_icmp .lt 14, 3) := by decide +kernel
theorem d_X_storeShiftedUp_8 : decode b_X_storeShiftedUp 8 = .ok (.aload_n 0, 1) := by decide +kernel
theorem d_X_storeShiftedUp_9 : decode b_X_storeShiftedUp 9 = .ok (.iload 6, 2) := by decide +kernel
theorem d_X_storeShiftedUp_11 : decode b_X_storeShiftedUp 11 = .ok (.lconst 0, 1) := by decide +kernel
theorem d_X_storeShiftedUp_12 : decode b_X_storeShiftedUp 12 = .ok (.lconst 0, 1) := by decide +kernel
theorem d_X_storeShiftedUp_13 : decode b_X_storeShiftedUp 13 = .ok (.invokevirtual 31, 3) := by decide +kernel
theorem d_X_storeShiftedUp_16 : decode b_X_storeShiftedUp 16 = .ok (.goto 65, 3) := by decide +kernel
theorem d_X_storeShiftedUp_19 : decode b_X_storeShiftedUp 19 = .ok (.iload 5, 2) := by decide +kernel
theorem d_X_storeShiftedUp_21 : decode b_X_storeShiftedUp 21 = .ok (.bipush 64, 2) := by decide +kernel
theorem d_X_storeShiftedUp_23 : decode b_X_storeShiftedUp 23 = .ok (.if_icmp .lt 20, 3) := by decide +kernel
theorem d_X_storeShiftedUp_26 : decode b_X_storeShiftedUp 26 = .ok (.aload_n 0, 1) := by decide +kernel
theorem d_X_storeShiftedUp_27 : decode b_X_storeShiftedUp 27 = .ok (.iload 6, 2) := by decide +kernel
theorem d_X_storeShiftedUp_29 : decode b_X_storeShiftedUp 29 = .ok (.lload_n 3, 1) := by decide +kernel
theorem d_X_storeShiftedUp_30 : decode b_X_storeShiftedUp 30 = .ok (.iload 5, 2) := by decide +kernel
theorem d_X_storeShiftedUp_32 : decode b_X_storeShiftedUp 32 = .ok (.bipush 64, 2) := by decide +kernel
theorem d_X_storeShiftedUp_34 : decode b_X_storeShiftedUp 34 = .ok (.isub, 1) := by decide +kernel
theorem d_X_storeShiftedUp_35 : decode b_X_storeShiftedUp 35 = .ok (.lshl, 1) := by decide +kernel
theorem d_X_storeShiftedUp_36 : decode b_X_storeShiftedUp 36 = .ok (.lconst 0, 1) := by decide +kernel
theorem d_X_storeShiftedUp_37 : decode b_X_storeShiftedUp 37 = .ok (.invokevirtual 31, 3) := by decide +kernel
theorem d_X_storeShiftedUp_40 : decode b_X_storeShiftedUp 40 = .ok (.goto 41, 3) := by decide +kernel
theorem d_X_storeShiftedUp_43 : decode b_X_storeShiftedUp 43 = .ok (.iload 5, 2) := by decide +kernel
theorem d_X_storeShiftedUp_45 : decode b_X_storeShiftedUp 45 = .ok (.ifCond .le 28, 3) := by decide +kernel
theorem d_X_storeShiftedUp_48 : decode b_X_storeShiftedUp 48 = .ok (.aload_n 0, 1) := by decide +kernel
theorem d_X_storeShiftedUp_49 : decode b_X_storeShiftedUp 49 = .ok (.iload 6, 2) := by decide +kernel
theorem d_X_storeShiftedUp_51 : decode b_X_storeShiftedUp 51 = .ok (.lload_n 1, 1) := by decide +kernel
theorem d_X_storeShiftedUp_52 : decode b_X_storeShiftedUp 52 = .ok (.iload 5, 2) := by decide +kernel
theorem d_X_storeShiftedUp_54 : decode b_X_storeShiftedUp 54 = .ok (.lshl, 1) := by decide +kernel
theorem d_X_storeShiftedUp_55 : decode b_X_storeShiftedUp 55 = .ok (.lload_n 3, 1) := by decide +kernel
theorem d_X_storeShiftedUp_56 : decode b_X_storeShiftedUp 56 = .ok (.bipush 64, 2) := by decide +kernel
theorem d_X_storeShiftedUp_58 : decode b_X_storeShiftedUp 58 = .ok (.iload 5, 2) := by decide +kernel
theorem d_X_storeShiftedUp_60 : decode b_X_storeShiftedUp 60 = .ok (.isub, 1) := by decide +kernel
theorem d_X_storeShiftedUp_61 : decode b_X_storeShiftedUp 61 = .ok (.lushr, 1) := by decide +kernel
theorem d_X_storeShiftedUp_62 : decode b_X_storeShiftedUp 62 = .ok (.lor, 1) := by decide +kernel
theorem d_X_storeShiftedUp_63 : decode b_X_storeShiftedUp 63 = .ok (.lload_n 3, 1) := by decide +kernel
theorem d_X_storeShiftedUp_64 : decode b_X_storeShiftedUp 64 = .ok (.iload 5, 2) := by decide +kernel
theorem d_X_storeShiftedUp_66 : decode b_X_storeShiftedUp 66 = .ok (.lshl, 1) := by decide +kernel
theorem d_X_storeShiftedUp_67 : decode b_X_storeShiftedUp 67 = .ok (.invokevirtual 31, 3) := by decide +kernel
theorem d_X_storeShiftedUp_70 : decode b_X_storeShiftedUp 70 = .ok (.goto 11, 3) := by decide +kernel
theorem d_X_storeShiftedUp_73 : decode b_X_storeShiftedUp 73 = .ok (.aload_n 0, 1) := by decide +kernel
theorem d_X_storeShiftedUp_74 : decode b_X_storeShiftedUp 74 = .ok (.iload 6, 2) := by decide +kernel
theorem d_X_storeShiftedUp_76 : decode b_X_storeShiftedUp 76 = .ok (.lload_n 1, 1) := by decide +kernel
theorem d_X_storeShiftedUp_77 : decode b_X_storeShiftedUp 77 = .ok (.lload_n 3, 1) := by decide +kernel
theorem d_X_storeShiftedUp_78 : decode b_X_storeShiftedUp 78 = .ok (.invokevirtual 31, 3) := by decide +kernel
theorem d_X_storeShiftedUp_81 : decode b_X_storeShiftedUp 81 = .ok (.lload_n 1, 1) := by decide +kernel
theorem d_X_storeShiftedUp_82 : decode b_X_storeShiftedUp 82 = .ok (.lload_n 3, 1) := by decide +kernel
theorem d_X_storeShiftedUp_83 : decode b_X_storeShiftedUp 83 = .ok (.lor, 1) := by decide +kernel
theorem d_X_storeShiftedUp_84 : decode b_X_storeShiftedUp 84 = .ok (.lconst 0, 1) := by decide +kernel
theorem d_X_storeShiftedUp_85 : decode b_X_storeShiftedUp 85 = .ok (.lcmp, 1) := by decide +kernel
theorem d_X_storeShiftedUp_86 : decode b_X_storeShiftedUp 86 = .ok (.ifCond .eq 17, 3) := by decide +kernel
theorem d_X_storeShiftedUp_89 : decode b_X_storeShiftedUp 89 = .ok (.iload 5, 2) := by decide +kernel
theorem d_X_storeShiftedUp_91 : decode b_X_storeShiftedUp 91 = .ok (.lload_n 1, 1) := by decide +kernel
theorem d_X_storeShiftedUp_92 : decode b_X_storeShiftedUp 92 = .ok (.lload_n 3, 1) := by decide +kernel
theorem d_X_storeShiftedUp_93 : decode b_X_storeShiftedUp 93 = .ok (.invokestatic 77, 3) := by decide +kernel
theorem d_X_storeShiftedUp_96 : decode b_X_storeShiftedUp 96 = .ok (.if_icmp .le 7, 3) := by decide +kernel
theorem d_X_storeShiftedUp_99 : decode b_X_storeShiftedUp 99 = .ok (.iconst 1, 1) := by decide +kernel
theorem d_X_storeShiftedUp_100 : decode b_X_storeShiftedUp 100 = .ok (.goto 4, 3) := by decide +kernel
theorem d_X_storeShiftedUp_103 : decode b_X_storeShiftedUp 103 = .ok (.iconst 0, 1) := by decide +kernel
theorem d_X_storeShiftedUp_104 : decode b_X_storeShiftedUp 104 = .ok (.ireturn, 1) := by decide +kernel
theorem d_X_zerosAbove_0 : decode b_X_zerosAbove 0 = .ok (.lload_n 0, 1) := by decide +kernel
theorem d_X_zerosAbove_1 : decode b_X_zerosAbove 1 = .ok (.lconst 0, 1) := by decide +kernel
theorem d_X_zerosAbove_2 : decode b_X_zerosAbove 2 = .ok (.lcmp, 1) := by decide +kernel
theorem d_X_zerosAbove_3 : decode b_X_zerosAbove 3 = .ok (.ifCond .eq 10, 3) := by decide +kernel
theorem d_X_zerosAbove_6 : decode b_X_zerosAbove 6 = .ok (.lload_n 0, 1) := by decide +kernel
theorem d_X_zerosAbove_7 : decode b_X_zerosAbove 7 = .ok (.invokestatic 117, 3) := by decide +kernel
theorem d_X_zerosAbove_10 : decode b_X_zerosAbove 10 = .ok (.goto 10, 3) := by decide +kernel
theorem d_X_zerosAbove_13 : decode b_X_zerosAbove 13 = .ok (.bipush 64, 2) := by decide +kernel
theorem d_X_zerosAbove_15 : decode b_X_zerosAbove 15 = .ok (.lload_n 2, 1) := by decide +kernel
theorem d_X_zerosAbove_16 : decode b_X_zerosAbove 16 = .ok (.invokestatic 117, 3) := by decide +kernel
theorem d_X_zerosAbove_19 : decode b_X_zerosAbove 19 = .ok (.iadd, 1) := by decide +kernel
theorem d_X_zerosAbove_20 : decode b_X_zerosAbove 20 = .ok (.ireturn, 1) := by decide +kernel
theorem d_X_storeShiftedDown_0 : decode b_X_storeShiftedDown 0 = .ok (.iload 5, 2) := by decide +kernel
theorem d_X_storeShiftedDown_2 : decode b_X_storeShiftedDown 2 = .ok (.sipush 128, 3) := by decide +kernel
theorem d_X_storeShiftedDown_5 : decode b_X_storeShiftedDown 5 = .ok (.if_icmp .lt 14, 3) := by decide +kernel
theorem d_X_storeShiftedDown_8 : decode b_X_storeShiftedDown 8 = .ok (.aload_n 0, 1) := by decide +kernel
theorem d_X_storeShiftedDown_9 : decode b_X_storeShiftedDown 9 = .ok (.iload 6, 2) := by decide +kernel
theorem d_X_storeShiftedDown_11 : decode b_X_storeShiftedDown 11 = .ok (.lconst 0, 1) := by decide +kernel
theorem d_X_storeShiftedDown_12 : decode b_X_storeShiftedDown 12 = .ok (.lconst 0, 1) := by decide +kernel
theorem d_X_storeShiftedDown_13 : decode b_X_storeShiftedDown 13 = .ok (.invokevirtual 31, 3) := by decide +kernel
theorem d_X_storeShiftedDown_16 : decode b_X_storeShiftedDown 16 = .ok (.goto 65, 3) := by decide +kernel
theorem d_X_storeShiftedDown_19 : decode b_X_storeShiftedDown 19 = .ok (.iload 5, 2) := by decide +kernel
theorem d_X_storeShiftedDown_21 : decode b_X_storeShiftedDown 21 = .ok (.bipush 64, 2) := by decide +kernel
theorem d_X_storeShiftedDown_23 : decode b_X_storeShiftedDown 23 = .ok (.if_icmp .lt 20, 3) := by decide +kernel
theorem d_X_storeShiftedDown_26 : decode b_X_storeShiftedDown 26 = .ok (.aload_n 0, 1) := by decide +kernel
theorem d_X_storeShiftedDown_27 : decode b_X_storeShiftedDown 27 = .ok (.iload 6, 2) := by decide +kernel
theorem d_X_storeShiftedDown_29 : decode b_X_storeShiftedDown 29 = .ok (.lconst 0, 1) := by decide +kernel
theorem d_X_storeShiftedDown_30 : decode b_X_storeShiftedDown 30 = .ok (.lload_n 1, 1) := by decide +kernel
theorem d_X_storeShiftedDown_31 : decode b_X_storeShiftedDown 31 = .ok (.iload 5, 2) := by decide +kernel
theorem d_X_storeShiftedDown_33 : decode b_X_storeShiftedDown 33 = .ok (.bipush 64, 2) := by decide +kernel
theorem d_X_storeShiftedDown_35 : decode b_X_storeShiftedDown 35 = .ok (.isub, 1) := by decide +kernel
theorem d_X_storeShiftedDown_36 : decode b_X_storeShiftedDown 36 = .ok (.lushr, 1) := by decide +kernel
theorem d_X_storeShiftedDown_37 : decode b_X_storeShiftedDown 37 = .ok (.invokevirtual 31, 3) := by decide +kernel
theorem d_X_storeShiftedDown_40 : decode b_X_storeShiftedDown 40 = .ok (.goto 41, 3) := by decide +kernel
theorem d_X_storeShiftedDown_43 : decode b_X_storeShiftedDown 43 = .ok (.iload 5, 2) := by decide +kernel
theorem d_X_storeShiftedDown_45 : decode b_X_storeShiftedDown 45 = .ok (.ifCond .le 28, 3) := by decide +kernel
theorem d_X_storeShiftedDown_48 : decode b_X_storeShiftedDown 48 = .ok (.aload_n 0, 1) := by decide +kernel
theorem d_X_storeShiftedDown_49 : decode b_X_storeShiftedDown 49 = .ok (.iload 6, 2) := by decide +kernel
theorem d_X_storeShiftedDown_51 : decode b_X_storeShiftedDown 51 = .ok (.lload_n 1, 1) := by decide +kernel
theorem d_X_storeShiftedDown_52 : decode b_X_storeShiftedDown 52 = .ok (.iload 5, 2) := by decide +kernel
theorem d_X_storeShiftedDown_54 : decode b_X_storeShiftedDown 54 = .ok (.lushr, 1) := by decide +kernel
theorem d_X_storeShiftedDown_55 : decode b_X_storeShiftedDown 55 = .ok (.lload_n 3, 1) := by decide +kernel
theorem d_X_storeShiftedDown_56 : decode b_X_storeShiftedDown 56 = .ok (.iload 5, 2) := by decide +kernel
theorem d_X_storeShiftedDown_58 : decode b_X_storeShiftedDown 58 = .ok (.lushr, 1) := by decide +kernel
theorem d_X_storeShiftedDown_59 : decode b_X_storeShiftedDown 59 = .ok (.lload_n 1, 1) := by decide +kernel
theorem d_X_storeShiftedDown_60 : decode b_X_storeShiftedDown 60 = .ok (.bipush 64, 2) := by decide +kernel
theorem d_X_storeShiftedDown_62 : decode b_X_storeShiftedDown 62 = .ok (.iload 5, 2) := by decide +kernel
theorem d_X_storeShiftedDown_64 : decode b_X_storeShiftedDown 64 = .ok (.isub, 1) := by decide +kernel
theorem d_X_storeShiftedDown_65 : decode b_X_storeShiftedDown 65 = .ok (.lshl, 1) := by decide +kernel
theorem d_X_storeShiftedDown_66 : decode b_X_storeShiftedDown 66 = .ok (.lor, 1) := by decide +kernel
theorem d_X_storeShiftedDown_67 : decode b_X_storeShiftedDown 67 = .ok (.invokevirtual 31, 3) := by decide +kernel
theorem d_X_storeShiftedDown_70 : decode b_X_storeShiftedDown 70 = .ok (.goto 11, 3) := by decide +kernel
theorem d_X_storeShiftedDown_73 : decode b_X_storeShiftedDown 73 = .ok (.aload_n 0, 1) := by decide +kernel
theorem d_X_storeShiftedDown_74 : decode b_X_storeShiftedDown 74 = .ok (.iload 6, 2) := by decide +kernel
theorem d_X_storeShiftedDown_76 : decode b_X_storeShiftedDown 76 = .ok (.lload_n 1, 1) := by decide +kernel
theorem d_X_storeShiftedDown_77 : decode b_X_storeShiftedDown 77 = .ok (.lload_n 3, 1) := by decide +kernel
theorem d_X_storeShiftedDown_78 : decode b_X_storeShiftedDown 78 = .ok (.invokevirtual 31, 3) := by decide +kernel
theorem d_X_storeShiftedDown_81 : decode b_X_storeShiftedDown 81 = .ok (.lload_n 1, 1) := by decide +kernel
theorem d_X_storeShiftedDown_82 : decode b_X_storeShiftedDown 82 = .ok (.lload_n 3, 1) := by decide +kernel
theorem d_X_storeShiftedDown_83 : decode b_X_storeShiftedDown 83 = .ok (.lor, 1) := by decide +kernel
theorem d_X_storeShiftedDown_84 : decode b_X_storeShiftedDown 84 = .ok (.lconst 0, 1) := by decide +kernel
theorem d_X_storeShiftedDown_85 : decode b_X_storeShiftedDown 85 = .ok (.lcmp, 1) := by decide +kernel
theorem d_X_storeShiftedDown_86 : decode b_X_storeShiftedDown 86 = .ok (.ifCond .eq 17, 3) := by decide +kernel
theorem d_X_storeShiftedDown_89 : decode b_X_storeShiftedDown 89 = .ok (.iload 5, 2) := by decide +kernel
theorem d_X_storeShiftedDown_91 : decode b_X_storeShiftedDown 91 = .ok (.lload_n 1, 1) := by decide +kernel
theorem d_X_storeShiftedDown_92 : decode b_X_storeShiftedDown 92 = .ok (.lload_n 3, 1) := by decide +kernel
theorem d_X_storeShiftedDown_93 : decode b_X_storeShiftedDown 93 = .ok (.invokestatic 114, 3) := by decide +kernel
theorem d_X_storeShiftedDown_96 : decode b_X_storeShiftedDown 96 = .ok (.if_icmp .le 7, 3) := by decide +kernel
theorem d_X_storeShiftedDown_99 : decode b_X_storeShiftedDown 99 = .ok (.iconst 1, 1) := by decide +kernel
theorem d_X_storeShiftedDown_100 : decode b_X_storeShiftedDown 100 = .ok (.goto 4, 3) := by decide +kernel
theorem d_X_storeShiftedDown_103 : decode b_X_storeShiftedDown 103 = .ok (.iconst 0, 1) := by decide +kernel
theorem d_X_storeShiftedDown_104 : decode b_X_storeShiftedDown 104 = .ok (.ireturn, 1) := by decide +kernel
theorem d_X_zerosBelow_0 : decode b_X_zerosBelow 0 = .ok (.lload_n 2, 1) := by decide +kernel
theorem d_X_zerosBelow_1 : decode b_X_zerosBelow 1 = .ok (.lconst 0, 1) := by decide +kernel
theorem d_X_zerosBelow_2 : decode b_X_zerosBelow 2 = .ok (.lcmp, 1) := by decide +kernel
theorem d_X_zerosBelow_3 : decode b_X_zerosBelow 3 = .ok (.ifCond .eq 10, 3) := by decide +kernel
theorem d_X_zerosBelow_6 : decode b_X_zerosBelow 6 = .ok (.lload_n 2, 1) := by decide +kernel
theorem d_X_zerosBelow_7 : decode b_X_zerosBelow 7 = .ok (.invokestatic 121, 3) := by decide +kernel
theorem d_X_zerosBelow_10 : decode b_X_zerosBelow 10 = .ok (.goto 10, 3) := by decide +kernel
theorem d_X_zerosBelow_13 : decode b_X_zerosBelow 13 = .ok (.bipush 64, 2) := by decide +kernel
theorem d_X_zerosBelow_15 : decode b_X_zerosBelow 15 = .ok (.lload_n 0, 1) := by decide +kernel
theorem d_X_zerosBelow_16 : decode b_X_zerosBelow 16 = .ok (.invokestatic 121, 3) := by decide +kernel
theorem d_X_zerosBelow_19 : decode b_X_zerosBelow 19 = .ok (.iadd, 1) := by decide +kernel
theorem d_X_zerosBelow_20 : decode b_X_zerosBelow 20 = .ok (.ireturn, 1) := by decide +kernel
theorem d_X_jam_0 : decode b_X_jam 0 = .ok (.iload_n 1, 1) := by decide +kernel
theorem d_X_jam_1 : decode b_X_jam 1 = .ok (.invokestatic 27, 3) := by decide +kernel
theorem d_X_jam_4 : decode b_X_jam 4 = .ok (.iload_n 3, 1) := by decide +kernel
theorem d_X_jam_5 : decode b_X_jam 5 = .ok (.invokestatic 27, 3) := by decide +kernel
theorem d_X_jam_8 : decode b_X_jam 8 = .ok (.iload_n 2, 1) := by decide +kernel
theorem d_X_jam_9 : decode b_X_jam 9 = .ok (.ifCond .ge 13, 3) := by decide +kernel
theorem d_X_jam_12 : decode b_X_jam 12 = .ok (.new 72, 3) := by decide +kernel
theorem d_X_jam_15 : decode b_X_jam 15 = .ok (.dup, 1) := by decide +kernel
theorem d_X_jam_16 : decode b_X_jam 16 = .ok (.ldc 74, 2) := by decide +kernel
theorem d_X_jam_18 : decode b_X_jam 18 = .ok (.invokespecial 76, 3) := by decide +kernel
theorem d_X_jam_21 : decode b_X_jam 21 = .ok (.athrow, 1) := by decide +kernel
theorem d_X_jam_22 : decode b_X_jam 22 = .ok (.aload_n 0, 1) := by decide +kernel
theorem d_X_jam_23 : decode b_X_jam 23 = .ok (.aload_n 0, 1) := by decide +kernel
theorem d_X_jam_24 : decode b_X_jam 24 = .ok (.getfield 9, 3) := by decide +kernel
theorem d_X_jam_27 : decode b_X_jam 27 = .ok (.iload_n 1, 1) := by decide +kernel
theorem d_X_jam_28 : decode b_X_jam 28 = .ok (.laload, 1) := by decide +kernel
theorem d_X_jam_29 : decode b_X_jam 29 = .ok (.aload_n 0, 1) := by decide +kernel
theorem d_X_jam_30 : decode b_X_jam 30 = .ok (.getfield 13, 3) := by decide +kernel
theorem d_X_jam_33 : decode b_X_jam 33 = .ok (.iload_n 1, 1) := by decide +kernel
theorem d_X_jam_34 : decode b_X_jam 34 = .ok (.laload, 1) := by decide +kernel
theorem d_X_jam_35 : decode b_X_jam 35 = .ok (.iload_n 2, 1) := by decide +kernel
theorem d_X_jam_36 : decode b_X_jam 36 = .ok (.iload_n 3, 1) := by decide +kernel
theorem d_X_jam_37 : decode b_X_jam 37 = .ok (.invokevirtual 69, 3) := by decide +kernel
theorem d_X_jam_40 : decode b_X_jam 40 = .ok (.ifCond .eq 13, 3) := by decide +kernel
theorem d_X_jam_43 : decode b_X_jam 43 = .ok (.aload_n 0, 1) := by decide +kernel
theorem d_X_jam_44 : decode b_X_jam 44 = .ok (.getfield 13, 3) := by decide +kernel
theorem d_X_jam_47 : decode b_X_jam 47 = .ok (.iload_n 3, 1) := by decide +kernel
theorem d_X_jam_48 : decode b_X_jam 48 = .ok (.dup2, 1) := by decide +kernel
theorem d_X_jam_49 : decode b_X_jam 49 = .ok (.laload, 1) := by decide +kernel
theorem d_X_jam_50 : decode b_X_jam 50 = .ok (.lconst 1, 1) := by decide +kernel
theorem d_X_jam_51 : decode b_X_jam 51 = .ok (.lor, 1) := by decide +kernel
theorem d_X_jam_52 : decode b_X_jam 52 = .ok (.lastore, 1) := by decide +kernel
theorem d_X_jam_53 : decode b_X_jam 53 = .ok (.return_, 1) := by decide +kernel
theorem d_X_zeros_0 : decode b_X_zeros 0 = .ok (.iload_n 1, 1) := by decide +kernel
theorem d_X_zeros_1 : decode b_X_zeros 1 = .ok (.invokestatic 27, 3) := by decide +kernel
theorem d_X_zeros_4 : decode b_X_zeros 4 = .ok (.aload_n 0, 1) := by decide +kernel
theorem d_X_zeros_5 : decode b_X_zeros 5 = .ok (.getfield 9, 3) := by decide +kernel
theorem d_X_zeros_8 : decode b_X_zeros 8 = .ok (.iload_n 1, 1) := by decide +kernel
theorem d_X_zeros_9 : decode b_X_zeros 9 = .ok (.laload, 1) := by decide +kernel
theorem d_X_zeros_10 : decode b_X_zeros 10 = .ok (.aload_n 0, 1) := by decide +kernel
theorem d_X_zeros_11 : decode b_X_zeros 11 = .ok (.getfield 13, 3) := by decide +kernel
theorem d_X_zeros_14 : decode b_X_zeros 14 = .ok (.iload_n 1, 1) := by decide +kernel
theorem d_X_zeros_15 : decode b_X_zeros 15 = .ok (.laload, 1) := by decide +kernel
theorem d_X_zeros_16 : decode b_X_zeros 16 = .ok (.invokestatic 77, 3) := by decide +kernel
theorem d_X_zeros_19 : decode b_X_zeros 19 = .ok (.ireturn, 1) := by decide +kernel
theorem d_X_compare_0 : decode b_X_compare 0 = .ok (.iload_n 1, 1) := by decide +kernel
theorem d_X_compare_1 : decode b_X_compare 1 = .ok (.invokestatic 27, 3) := by decide +kernel
theorem d_X_compare_4 : decode b_X_compare 4 = .ok (.iload_n 2, 1) := by decide +kernel
theorem d_X_compare_5 : decode b_X_compare 5 = .ok (.invokestatic 27, 3) := by decide +kernel
theorem d_X_compare_8 : decode b_X_compare 8 = .ok (.aload_n 0, 1) := by decide +kernel
theorem d_X_compare_9 : decode b_X_compare 9 = .ok (.getfield 9, 3) := by decide +kernel
theorem d_X_compare_12 : decode b_X_compare 12 = .ok (.iload_n 1, 1) := by decide +kernel
theorem d_X_compare_13 : decode b_X_compare 13 = .ok (.laload, 1) := by decide +kernel
theorem d_X_compare_14 : decode b_X_compare 14 = .ok (.aload_n 0, 1) := by decide +kernel
theorem d_X_compare_15 : decode b_X_compare 15 = .ok (.getfield 13, 3) := by decide +kernel
theorem d_X_compare_18 : decode b_X_compare 18 = .ok (.iload_n 1, 1) := by decide +kernel
theorem d_X_compare_19 : decode b_X_compare 19 = .ok (.laload, 1) := by decide +kernel
theorem d_X_compare_20 : decode b_X_compare 20 = .ok (.aload_n 0, 1) := by decide +kernel
theorem d_X_compare_21 : decode b_X_compare 21 = .ok (.getfield 9, 3) := by decide +kernel
theorem d_X_compare_24 : decode b_X_compare 24 = .ok (.iload_n 2, 1) := by decide +kernel
theorem d_X_compare_25 : decode b_X_compare 25 = .ok (.laload, 1) := by decide +kernel
theorem d_X_compare_26 : decode b_X_compare 26 = .ok (.aload_n 0, 1) := by decide +kernel
theorem d_X_compare_27 : decode b_X_compare 27 = .ok (.getfield 13, 3) := by decide +kernel
theorem d_X_compare_30 : decode b_X_compare 30 = .ok (.iload_n 2, 1) := by decide +kernel
theorem d_X_compare_31 : decode b_X_compare 31 = .ok (.laload, 1) := by decide +kernel
theorem d_X_compare_32 : decode b_X_compare 32 = .ok (.invokestatic 39, 3) := by decide +kernel
theorem d_X_compare_35 : decode b_X_compare 35 = .ok (.ifCond .eq 5, 3) := by decide +kernel
theorem d_X_compare_38 : decode b_X_compare 38 = .ok (.iconst (-1), 1) := by decide +kernel
theorem d_X_compare_39 : decode b_X_compare 39 = .ok (.ireturn, 1) := by decide +kernel
theorem d_X_compare_40 : decode b_X_compare 40 = .ok (.aload_n 0, 1) := by decide +kernel
theorem d_X_compare_41 : decode b_X_compare 41 = .ok (.getfield 9, 3) := by decide +kernel
theorem d_X_compare_44 : decode b_X_compare 44 = .ok (.iload_n 2, 1) := by decide +kernel
theorem d_X_compare_45 : decode b_X_compare 45 = .ok (.laload, 1) := by decide +kernel
theorem d_X_compare_46 : decode b_X_compare 46 = .ok (.aload_n 0, 1) := by decide +kernel
theorem d_X_compare_47 : decode b_X_compare 47 = .ok (.getfield 13, 3) := by decide +kernel
theorem d_X_compare_50 : decode b_X_compare 50 = .ok (.iload_n 2, 1) := by decide +kernel
theorem d_X_compare_51 : decode b_X_compare 51 = .ok (.laload, 1) := by decide +kernel
theorem d_X_compare_52 : decode b_X_compare 52 = .ok (.aload_n 0, 1) := by decide +kernel
theorem d_X_compare_53 : decode b_X_compare 53 = .ok (.getfield 9, 3) := by decide +kernel
theorem d_X_compare_56 : decode b_X_compare 56 = .ok (.iload_n 1, 1) := by decide +kernel
theorem d_X_compare_57 : decode b_X_compare 57 = .ok (.laload, 1) := by decide +kernel
theorem d_X_compare_58 : decode b_X_compare 58 = .ok (.aload_n 0, 1) := by decide +kernel
theorem d_X_compare_59 : decode b_X_compare 59 = .ok (.getfield 13, 3) := by decide +kernel
theorem d_X_compare_62 : decode b_X_compare 62 = .ok (.iload_n 1, 1) := by decide +kernel
theorem d_X_compare_63 : decode b_X_compare 63 = .ok (.laload, 1) := by decide +kernel
theorem d_X_compare_64 : decode b_X_compare 64 = .ok (.invokestatic 39, 3) := by decide +kernel
theorem d_X_compare_67 : decode b_X_compare 67 = .ok (.ifCond .eq 7, 3) := by decide +kernel
theorem d_X_compare_70 : decode b_X_compare 70 = .ok (.iconst 1, 1) := by decide +kernel
theorem d_X_compare_71 : decode b_X_compare 71 = .ok (.goto 4, 3) := by decide +kernel
theorem d_X_compare_74 : decode b_X_compare 74 = .ok (.iconst 0, 1) := by decide +kernel
theorem d_X_compare_75 : decode b_X_compare 75 = .ok (.ireturn, 1) := by decide +kernel
theorem d_X_digits_0 : decode b_X_digits 0 = .ok (.iload_n 1, 1) := by decide +kernel
theorem d_X_digits_1 : decode b_X_digits 1 = .ok (.invokestatic 27, 3) := by decide +kernel
theorem d_X_digits_4 : decode b_X_digits 4 = .ok (.aload_n 0, 1) := by decide +kernel
theorem d_X_digits_5 : decode b_X_digits 5 = .ok (.aload_n 0, 1) := by decide +kernel
theorem d_X_digits_6 : decode b_X_digits 6 = .ok (.getfield 9, 3) := by decide +kernel
theorem d_X_digits_9 : decode b_X_digits 9 = .ok (.iload_n 1, 1) := by decide +kernel
theorem d_X_digits_10 : decode b_X_digits 10 = .ok (.laload, 1) := by decide +kernel
theorem d_X_digits_11 : decode b_X_digits 11 = .ok (.aload_n 0, 1) := by decide +kernel
theorem d_X_digits_12 : decode b_X_digits 12 = .ok (.getfield 13, 3) := by decide +kernel
theorem d_X_digits_15 : decode b_X_digits 15 = .ok (.iload_n 1, 1) := by decide +kernel
theorem d_X_digits_16 : decode b_X_digits 16 = .ok (.laload, 1) := by decide +kernel
theorem d_X_digits_17 : decode b_X_digits 17 = .ok (.invokevirtual 81, 3) := by decide +kernel
theorem d_X_digits_20 : decode b_X_digits 20 = .ok (.bipush 39, 2) := by decide +kernel
theorem d_X_digits_22 : decode b_X_digits 22 = .ok (.istore_n 2, 1) := by decide +kernel
theorem d_X_digits_23 : decode b_X_digits 23 = .ok (.iinc 2 (-1), 3) := by decide +kernel
theorem d_X_digits_26 : decode b_X_digits 26 = .ok (.aload_n 0, 1) := by decide +kernel
theorem d_X_digits_27 : decode b_X_digits 27 = .ok (.getfield 19, 3) := by decide +kernel
theorem d_X_digits_30 : decode b_X_digits 30 = .ok (.iload_n 2, 1) := by decide +kernel
theorem d_X_digits_31 : decode b_X_digits 31 = .ok (.aload_n 0, 1) := by decide +kernel
theorem d_X_digits_32 : decode b_X_digits 32 = .ok (.invokevirtual 85, 3) := by decide +kernel
theorem d_X_digits_35 : decode b_X_digits 35 = .ok (.iastore, 1) := by decide +kernel
theorem d_X_digits_36 : decode b_X_digits 36 = .ok (.iload_n 2, 1) := by decide +kernel
theorem d_X_digits_37 : decode b_X_digits 37 = .ok (.ifCond .le 10, 3) := by decide +kernel
theorem d_X_digits_40 : decode b_X_digits 40 = .ok (.aload_n 0, 1) := by decide +kernel
theorem d_X_digits_41 : decode b_X_digits 41 = .ok (.invokevirtual 89, 3) := by decide +kernel
theorem d_X_digits_44 : decode b_X_digits 44 = .ok (.ifCond .eq (-21), 3) := by decide +kernel
theorem d_X_digits_47 : decode b_X_digits 47 = .ok (.aload_n 0, 1) := by decide +kernel
theorem d_X_digits_48 : decode b_X_digits 48 = .ok (.iload_n 2, 1) := by decide +kernel
theorem d_X_digits_49 : decode b_X_digits 49 = .ok (.putfield 23, 3) := by decide +kernel
theorem d_X_digits_52 : decode b_X_digits 52 = .ok (.bipush 39, 2) := by decide +kernel
theorem d_X_digits_54 : decode b_X_digits 54 = .ok (.iload_n 2, 1) := by decide +kernel
theorem d_X_digits_55 : decode b_X_digits 55 = .ok (.isub, 1) := by decide +kernel
theorem d_X_digits_56 : decode b_X_digits 56 = .ok (.ireturn, 1) := by decide +kernel
theorem d_X_splitIntoParts_0 : decode b_X_splitIntoParts 0 = .ok (.aload_n 0, 1) := by decide +kernel
theorem d_X_splitIntoParts_1 : decode b_X_splitIntoParts 1 = .ok (.getfield 16, 3) := by decide +kernel
theorem d_X_splitIntoParts_4 : decode b_X_splitIntoParts 4 = .ok (.iconst 0, 1) := by decide +kernel
theorem d_X_splitIntoParts_5 : decode b_X_splitIntoParts 5 = .ok (.lload_n 1, 1) := by decide +kernel
theorem d_X_splitIntoParts_6 : decode b_X_splitIntoParts 6 = .ok (.bipush 32, 2) := by decide +kernel
theorem d_X_splitIntoParts_8 : decode b_X_splitIntoParts 8 = .ok (.lushr, 1) := by decide +kernel
theorem d_X_splitIntoParts_9 : decode b_X_splitIntoParts 9 = .ok (.lastore, 1) := by decide +kernel
theorem d_X_splitIntoParts_10 : decode b_X_splitIntoParts 10 = .ok (.aload_n 0, 1) := by decide +kernel
theorem d_X_splitIntoParts_11 : decode b_X_splitIntoParts 11 = .ok (.getfield 16, 3) := by decide +kernel
theorem d_X_splitIntoParts_14 : decode b_X_splitIntoParts 14 = .ok (.iconst 1, 1) := by decide +kernel
theorem d_X_splitIntoParts_15 : decode b_X_splitIntoParts 15 = .ok (.lload_n 1, 1) := by decide +kernel
theorem d_X_splitIntoParts_16 : decode b_X_splitIntoParts 16 = .ok (.ldc2_w 112, 3) := by decide +kernel
theorem d_X_splitIntoParts_19 : decode b_X_splitIntoParts 19 = .ok (.land, 1) := by decide +kernel
theorem d_X_splitIntoParts_20 : decode b_X_splitIntoParts 20 = .ok (.lastore, 1) := by decide +kernel
theorem d_X_splitIntoParts_21 : decode b_X_splitIntoParts 21 = .ok (.aload_n 0, 1) := by decide +kernel
theorem d_X_splitIntoParts_22 : decode b_X_splitIntoParts 22 = .ok (.getfield 16, 3) := by decide +kernel
theorem d_X_splitIntoParts_25 : decode b_X_splitIntoParts 25 = .ok (.iconst 2, 1) := by decide +kernel
theorem d_X_splitIntoParts_26 : decode b_X_splitIntoParts 26 = .ok (.lload_n 3, 1) := by decide +kernel
theorem d_X_splitIntoParts_27 : decode b_X_splitIntoParts 27 = .ok (.bipush 32, 2) := by decide +kernel
theorem d_X_splitIntoParts_29 : decode b_X_splitIntoParts 29 = .ok (.lushr, 1) := by decide +kernel
theorem d_X_splitIntoParts_30 : decode b_X_splitIntoParts 30 = .ok (.lastore, 1) := by decide +kernel
theorem d_X_splitIntoParts_31 : decode b_X_splitIntoParts 31 = .ok (.aload_n 0, 1) := by decide +kernel
theorem d_X_splitIntoParts_32 : decode b_X_splitIntoParts 32 = .ok (.getfield 16, 3) := by decide +kernel
theorem d_X_splitIntoParts_35 : decode b_X_splitIntoParts 35 = .ok (.iconst 3, 1) := by decide +kernel
theorem d_X_splitIntoParts_36 : decode b_X_splitIntoParts 36 = .ok (.lload_n 3, 1) := by decide +kernel
theorem d_X_splitIntoParts_37 : decode b_X_splitIntoParts 37 = .ok (.ldc2_w 112, 3) := by decide +kernel
theorem d_X_splitIntoParts_40 : decode b_X_splitIntoParts 40 = .ok (.land, 1) := by decide +kernel
theorem d_X_splitIntoParts_41 : decode b_X_splitIntoParts 41 = .ok (.lastore, 1) := by decide +kernel
theorem d_X_splitIntoParts_42 : decode b_X_splitIntoParts 42 = .ok (.return_, 1) := by decide +kernel
theorem d_X_takeLowestDigit_0 : decode b_X_takeLowestDigit 0 = .ok (.lconst 0, 1) := by decide +kernel
theorem d_X_takeLowestDigit_1 : decode b_X_takeLowestDigit 1 = .ok (.lstore_n 1, 1) := by decide +kernel
theorem d_X_takeLowestDigit_2 : decode b_X_takeLowestDigit 2 = .ok (.iconst 0, 1) := by decide +kernel
theorem d_X_takeLowestDigit_3 : decode b_X_takeLowestDigit 3 = .ok (.istore_n 3, 1) := by decide +kernel
theorem d_X_takeLowestDigit_4 : decode b_X_takeLowestDigit 4 = .ok (.iload_n 3, 1) := by decide +kernel
theorem d_X_takeLowestDigit_5 : decode b_X_takeLowestDigit 5 = .ok (.iconst 4, 1) := by decide +kernel
theorem d_X_takeLowestDigit_6 : decode b_X_takeLowestDigit 6 = .ok (.if_icmp .ge 41, 3) := by decide +kernel
theorem d_X_takeLowestDigit_9 : decode b_X_takeLowestDigit 9 = .ok (.lload_n 1, 1) := by decide +kernel
theorem d_X_takeLowestDigit_10 : decode b_X_takeLowestDigit 10 = .ok (.bipush 32, 2) := by decide +kernel
theorem d_X_takeLowestDigit_12 : decode b_X_takeLowestDigit 12 = .ok (.lshl, 1) := by decide +kernel
theorem d_X_takeLowestDigit_13 : decode b_X_takeLowestDigit 13 = .ok (.aload_n 0, 1) := by decide +kernel
theorem d_X_takeLowestDigit_14 : decode b_X_takeLowestDigit 14 = .ok (.getfield 16, 3) := by decide +kernel
theorem d_X_takeLowestDigit_17 : decode b_X_takeLowestDigit 17 = .ok (.iload_n 3, 1) := by decide +kernel
theorem d_X_takeLowestDigit_18 : decode b_X_takeLowestDigit 18 = .ok (.laload, 1) := by decide +kernel
theorem d_X_takeLowestDigit_19 : decode b_X_takeLowestDigit 19 = .ok (.lor, 1) := by decide +kernel
theorem d_X_takeLowestDigit_20 : decode b_X_takeLowestDigit 20 = .ok (.lstore 4, 2) := by decide +kernel
theorem d_X_takeLowestDigit_22 : decode b_X_takeLowestDigit 22 = .ok (.aload_n 0, 1) := by decide +kernel
theorem d_X_takeLowestDigit_23 : decode b_X_takeLowestDigit 23 = .ok (.getfield 16, 3) := by decide +kernel
theorem d_X_takeLowestDigit_26 : decode b_X_takeLowestDigit 26 = .ok (.iload_n 3, 1) := by decide +kernel
theorem d_X_takeLowestDigit_27 : decode b_X_takeLowestDigit 27 = .ok (.lload 4, 2) := by decide +kernel
theorem d_X_takeLowestDigit_29 : decode b_X_takeLowestDigit 29 = .ok (.ldc2_w 93, 3) := by decide +kernel
theorem d_X_takeLowestDigit_32 : decode b_X_takeLowestDigit 32 = .ok (.ldiv, 1) := by decide +kernel
theorem d_X_takeLowestDigit_33 : decode b_X_takeLowestDigit 33 = .ok (.lastore, 1) := by decide +kernel
theorem d_X_takeLowestDigit_34 : decode b_X_takeLowestDigit 34 = .ok (.lload 4, 2) := by decide +kernel
theorem d_X_takeLowestDigit_36 : decode b_X_takeLowestDigit 36 = .ok (.ldc2_w 93, 3) := by decide +kernel
theorem d_X_takeLowestDigit_39 : decode b_X_takeLowestDigit 39 = .ok (.lrem, 1) := by decide +kernel
theorem d_X_takeLowestDigit_40 : decode b_X_takeLowestDigit 40 = .ok (.lstore_n 1, 1) := by decide +kernel
theorem d_X_takeLowestDigit_41 : decode b_X_takeLowestDigit 41 = .ok (.iinc 3 1, 3) := by decide +kernel
theorem d_X_takeLowestDigit_44 : decode b_X_takeLowestDigit 44 = .ok (.goto (-40), 3) := by decide +kernel
theorem d_X_takeLowestDigit_47 : decode b_X_takeLowestDigit 47 = .ok (.lload_n 1, 1) := by decide +kernel
theorem d_X_takeLowestDigit_48 : decode b_X_takeLowestDigit 48 = .ok (.l2i, 1) := by decide +kernel
theorem d_X_takeLowestDigit_49 : decode b_X_takeLowestDigit 49 = .ok (.ireturn, 1) := by decide +kernel
theorem d_X_partsAreZero_0 : decode b_X_partsAreZero 0 = .ok (.aload_n 0, 1) := by decide +kernel
theorem d_X_partsAreZero_1 : decode b_X_partsAreZero 1 = .ok (.getfield 16, 3) := by decide +kernel
theorem d_X_partsAreZero_4 : decode b_X_partsAreZero 4 = .ok (.iconst 0, 1) := by decide +kernel
theorem d_X_partsAreZero_5 : decode b_X_partsAreZero 5 = .ok (.laload, 1) := by decide +kernel
theorem d_X_partsAreZero_6 : decode b_X_partsAreZero 6 = .ok (.aload_n 0, 1) := by decide +kernel
theorem d_X_partsAreZero_7 : decode b_X_partsAreZero 7 = .ok (.getfield 16, 3) := by decide +kernel
theorem d_X_partsAreZero_10 : decode b_X_partsAreZero 10 = .ok (.iconst 1, 1) := by decide +kernel
theorem d_X_partsAreZero_11 : decode b_X_partsAreZero 11 = .ok (.laload, 1) := by decide +kernel
theorem d_X_partsAreZero_12 : decode b_X_partsAreZero 12 = .ok (.lor, 1) := by decide +kernel
theorem d_X_partsAreZero_13 : decode b_X_partsAreZero 13 = .ok (.aload_n 0, 1) := by decide +kernel
theorem d_X_partsAreZero_14 : decode b_X_partsAreZero 14 = .ok (.getfield 16, 3) := by decide +kernel
theorem d_X_partsAreZero_17 : decode b_X_partsAreZero 17 = .ok (.iconst 2, 1) := by decide +kernel
theorem d_X_partsAreZero_18 : decode b_X_partsAreZero 18 = .ok (.laload, 1) := by decide +kernel
theorem d_X_partsAreZero_19 : decode b_X_partsAreZero 19 = .ok (.lor, 1) := by decide +kernel
theorem d_X_partsAreZero_20 : decode b_X_partsAreZero 20 = .ok (.aload_n 0, 1) := by decide +kernel
theorem d_X_partsAreZero_21 : decode b_X_partsAreZero 21 = .ok (.getfield 16, 3) := by decide +kernel
theorem d_X_partsAreZero_24 : decode b_X_partsAreZero 24 = .ok (.iconst 3, 1) := by decide +kernel
theorem d_X_partsAreZero_25 : decode b_X_partsAreZero 25 = .ok (.laload, 1) := by decide +kernel
theorem d_X_partsAreZero_26 : decode b_X_partsAreZero 26 = .ok (.lor, 1) := by decide +kernel
theorem d_X_partsAreZero_27 : decode b_X_partsAreZero 27 = .ok (.lconst 0, 1) := by decide +kernel
theorem d_X_partsAreZero_28 : decode b_X_partsAreZero 28 = .ok (.lcmp, 1) := by decide +kernel
theorem d_X_partsAreZero_29 : decode b_X_partsAreZero 29 = .ok (.ifCond .ne 7, 3) := by decide +kernel
theorem d_X_partsAreZero_32 : decode b_X_partsAreZero 32 = .ok (.iconst 1, 1) := by decide +kernel
theorem d_X_partsAreZero_33 : decode b_X_partsAreZero 33 = .ok (.goto 4, 3) := by decide +kernel
theorem d_X_partsAreZero_36 : decode b_X_partsAreZero 36 = .ok (.iconst 0, 1) := by decide +kernel
theorem d_X_partsAreZero_37 : decode b_X_partsAreZero 37 = .ok (.ireturn, 1) := by decide +kernel
theorem d_X_next_0 : decode b_X_next 0 = .ok (.iload_n 1, 1) := by decide +kernel
theorem d_X_next_1 : decode b_X_next 1 = .ok (.invokestatic 27, 3) := by decide +kernel
theorem d_X_next_4 : decode b_X_next 4 = .ok (.iload_n 2, 1) := by decide +kernel
theorem d_X_next_5 : decode b_X_next 5 = .ok (.ifCond .lt 12, 3) := by decide +kernel
theorem d_X_next_8 : decode b_X_next 8 = .ok (.iload_n 2, 1) := by decide +kernel
theorem d_X_next_9 : decode b_X_next 9 = .ok (.i2l, 1) := by decide +kernel
theorem d_X_next_10 : decode b_X_next 10 = .ok (.ldc2_w 93, 3) := by decide +kernel
theorem d_X_next_13 : decode b_X_next 13 = .ok (.lcmp, 1) := by decide +kernel
theorem d_X_next_14 : decode b_X_next 14 = .ok (.ifCond .lt 13, 3) := by decide +kernel
theorem d_X_next_17 : decode b_X_next 17 = .ok (.new 72, 3) := by decide +kernel
theorem d_X_next_20 : decode b_X_next 20 = .ok (.dup, 1) := by decide +kernel
theorem d_X_next_21 : decode b_X_next 21 = .ok (.ldc 95, 2) := by decide +kernel
theorem d_X_next_23 : decode b_X_next 23 = .ok (.invokespecial 76, 3) := by decide +kernel
theorem d_X_next_26 : decode b_X_next 26 = .ok (.athrow, 1) := by decide +kernel
theorem d_X_next_27 : decode b_X_next 27 = .ok (.aload_n 0, 1) := by decide +kernel
theorem d_X_next_28 : decode b_X_next 28 = .ok (.getfield 13, 3) := by decide +kernel
theorem d_X_next_31 : decode b_X_next 31 = .ok (.iload_n 1, 1) := by decide +kernel
theorem d_X_next_32 : decode b_X_next 32 = .ok (.laload, 1) := by decide +kernel
theorem d_X_next_33 : decode b_X_next 33 = .ok (.ldc2_w 93, 3) := by decide +kernel
theorem d_X_next_36 : decode b_X_next 36 = .ok (.lmul, 1) := by decide +kernel
theorem d_X_next_37 : decode b_X_next 37 = .ok (.lstore_n 3, 1) := by decide +kernel
theorem d_X_next_38 : decode b_X_next 38 = .ok (.lload_n 3, 1) := by decide +kernel
theorem d_X_next_39 : decode b_X_next 39 = .ok (.iload_n 2, 1) := by decide +kernel
theorem d_X_next_40 : decode b_X_next 40 = .ok (.i2l, 1) := by decide +kernel
theorem d_X_next_41 : decode b_X_next 41 = .ok (.ladd, 1) := by decide +kernel
theorem d_X_next_42 : decode b_X_next 42 = .ok (.lstore 5, 2) := by decide +kernel
theorem d_X_next_44 : decode b_X_next 44 = .ok (.aload_n 0, 1) := by decide +kernel
theorem d_X_next_45 : decode b_X_next 45 = .ok (.getfield 13, 3) := by decide +kernel
theorem d_X_next_48 : decode b_X_next 48 = .ok (.iload_n 1, 1) := by decide +kernel
theorem d_X_next_49 : decode b_X_next 49 = .ok (.laload, 1) := by decide +kernel
theorem d_X_next_50 : decode b_X_next 50 = .ok (.ldc2_w 93, 3) := by decide +kernel
theorem d_X_next_53 : decode b_X_next 53 = .ok (.invokestatic 97, 3) := by decide +kernel
theorem d_X_next_56 : decode b_X_next 56 = .ok (.lload 5, 2) := by decide +kernel
theorem d_X_next_58 : decode b_X_next 58 = .ok (.lload_n 3, 1) := by decide +kernel
theorem d_X_next_59 : decode b_X_next 59 = .ok (.invokestatic 35, 3) := by decide +kernel
theorem d_X_next_62 : decode b_X_next 62 = .ok (.ladd, 1) := by decide +kernel
theorem d_X_next_63 : decode b_X_next 63 = .ok (.lstore 7, 2) := by decide +kernel
theorem d_X_next_65 : decode b_X_next 65 = .ok (.aload_n 0, 1) := by decide +kernel
theorem d_X_next_66 : decode b_X_next 66 = .ok (.getfield 9, 3) := by decide +kernel
theorem d_X_next_69 : decode b_X_next 69 = .ok (.iload_n 1, 1) := by decide +kernel
theorem d_X_next_70 : decode b_X_next 70 = .ok (.laload, 1) := by decide +kernel
theorem d_X_next_71 : decode b_X_next 71 = .ok (.ldc2_w 93, 3) := by decide +kernel
theorem d_X_next_74 : decode b_X_next 74 = .ok (.lmul, 1) := by decide +kernel
theorem d_X_next_75 : decode b_X_next 75 = .ok (.lload 7, 2) := by decide +kernel
theorem d_X_next_77 : decode b_X_next 77 = .ok (.ladd, 1) := by decide +kernel
theorem d_X_next_78 : decode b_X_next 78 = .ok (.lstore 9, 2) := by decide +kernel
theorem d_X_next_80 : decode b_X_next 80 = .ok (.aload_n 0, 1) := by decide +kernel
theorem d_X_next_81 : decode b_X_next 81 = .ok (.getfield 9, 3) := by decide +kernel
theorem d_X_next_84 : decode b_X_next 84 = .ok (.iload_n 1, 1) := by decide +kernel
theorem d_X_next_85 : decode b_X_next 85 = .ok (.laload, 1) := by decide +kernel
theorem d_X_next_86 : decode b_X_next 86 = .ok (.ldc2_w 93, 3) := by decide +kernel
theorem d_X_next_89 : decode b_X_next 89 = .ok (.invokestatic 97, 3) := by decide +kernel
theorem d_X_next_92 : decode b_X_next 92 = .ok (.lload 9, 2) := by decide +kernel
theorem d_X_next_94 : decode b_X_next 94 = .ok (.lload 7, 2) := by decide +kernel
theorem d_X_next_96 : decode b_X_next 96 = .ok (.invokestatic 35, 3) := by decide +kernel
theorem d_X_next_99 : decode b_X_next 99 = .ok (.ladd, 1) := by decide +kernel
theorem d_X_next_100 : decode b_X_next 100 = .ok (.lconst 0, 1) := by decide +kernel
theorem d_X_next_101 : decode b_X_next 101 = .ok (.lcmp, 1) := by decide +kernel
theorem d_X_next_102 : decode b_X_next 102 = .ok (.ifCond .eq 5, 3) := by decide +kernel
theorem d_X_next_105 : decode b_X_next 105 = .ok (.iconst 0, 1) := by decide +kernel
theorem d_X_next_106 : decode b_X_next 106 = .ok (.ireturn, 1) := by decide +kernel
theorem d_X_next_107 : decode b_X_next 107 = .ok (.aload_n 0, 1) := by decide +kernel
theorem d_X_next_108 : decode b_X_next 108 = .ok (.iload_n 1, 1) := by decide +kernel
theorem d_X_next_109 : decode b_X_next 109 = .ok (.lload 9, 2) := by decide +kernel
theorem d_X_next_111 : decode b_X_next 111 = .ok (.lload 5, 2) := by decide +kernel
theorem d_X_next_113 : decode b_X_next 113 = .ok (.invokevirtual 31, 3) := by decide +kernel
theorem d_X_next_116 : decode b_X_next 116 = .ok (.iconst 1, 1) := by decide +kernel
theorem d_X_next_117 : decode b_X_next 117 = .ok (.ireturn, 1) := by decide +kernel
end
section
theorem d_M_init_0 : decode b_M_init 0 = .ok (.aload_n 0, 1) := by decide +kernel
theorem d_M_init_1 : decode b_M_init 1 = .ok (.invokespecial 1, 3) := by decide +kernel
theorem d_M_init_4 : decode b_M_init 4 = .ok (.aload_n 0, 1) := by decide +kernel
theorem d_M_init_5 : decode b_M_init 5 = .ok (.sipush 1280, 3) := by decide +kernel
theorem d_M_init_8 : decode b_M_init 8 = .ok (.newarray .boolean, 2) := by decide +kernel
theorem d_M_init_10 : decode b_M_init 10 = .ok (.putfield 7, 3) := by decide +kernel
theorem d_M_init_13 : decode b_M_init 13 = .ok (.aload_n 0, 1) := by decide +kernel
theorem d_M_init_14 : decode b_M_init 14 = .ok (.sipush 256, 3) := by decide +kernel
theorem d_M_init_17 : decode b_M_init 17 = .ok (.newarray .boolean, 2) := by decide +kernel
theorem d_M_init_19 : decode b_M_init 19 = .ok (.putfield 13, 3) := by decide +kernel
theorem d_M_init_22 : decode b_M_init 22 = .ok (.aload_n 0, 1) := by decide +kernel
theorem d_M_init_23 : decode b_M_init 23 = .ok (.sipush 128, 3) := by decide +kernel
theorem d_M_init_26 : decode b_M_init 26 = .ok (.newarray .boolean, 2) := by decide +kernel
theorem d_M_init_28 : decode b_M_init 28 = .ok (.putfield 16, 3) := by decide +kernel
theorem d_M_init_31 : decode b_M_init 31 = .ok (.aload_n 0, 1) := by decide +kernel
theorem d_M_init_32 : decode b_M_init 32 = .ok (.sipush 130, 3) := by decide +kernel
theorem d_M_init_35 : decode b_M_init 35 = .ok (.newarray .boolean, 2) := by decide +kernel
theorem d_M_init_37 : decode b_M_init 37 = .ok (.putfield 19, 3) := by decide +kernel
theorem d_M_init_40 : decode b_M_init 40 = .ok (.aload_n 0, 1) := by decide +kernel
theorem d_M_init_41 : decode b_M_init 41 = .ok (.bipush 39, 2) := by decide +kernel
theorem d_M_init_43 : decode b_M_init 43 = .ok (.newarray .int, 2) := by decide +kernel
theorem d_M_init_45 : decode b_M_init 45 = .ok (.putfield 22, 3) := by decide +kernel
theorem d_M_init_48 : decode b_M_init 48 = .ok (.return_, 1) := by decide +kernel
theorem d_M_thrown_0 : decode b_M_thrown 0 = .ok (.aload_n 0, 1) := by decide +kernel
theorem d_M_thrown_1 : decode b_M_thrown 1 = .ok (.getfield 26, 3) := by decide +kernel
theorem d_M_thrown_4 : decode b_M_thrown 4 = .ok (.ireturn, 1) := by decide +kernel
theorem d_M_set_0 : decode b_M_set 0 = .ok (.aload_n 0, 1) := by decide +kernel
theorem d_M_set_1 : decode b_M_set 1 = .ok (.iload_n 1, 1) := by decide +kernel
theorem d_M_set_2 : decode b_M_set 2 = .ok (.invokestatic 30, 3) := by decide +kernel
theorem d_M_set_5 : decode b_M_set 5 = .ok (.ifCond .eq 7, 3) := by decide +kernel
theorem d_M_set_8 : decode b_M_set 8 = .ok (.iconst 1, 1) := by decide +kernel
theorem d_M_set_9 : decode b_M_set 9 = .ok (.goto 4, 3) := by decide +kernel
theorem d_M_set_12 : decode b_M_set 12 = .ok (.iconst 0, 1) := by decide +kernel
theorem d_M_set_13 : decode b_M_set 13 = .ok (.putfield 26, 3) := by decide +kernel
theorem d_M_set_16 : decode b_M_set 16 = .ok (.iconst 0, 1) := by decide +kernel
theorem d_M_set_17 : decode b_M_set 17 = .ok (.istore 6, 2) := by decide +kernel
theorem d_M_set_19 : decode b_M_set 19 = .ok (.iload 6, 2) := by decide +kernel
theorem d_M_set_21 : decode b_M_set 21 = .ok (.sipush 128, 3) := by decide +kernel
theorem d_M_set_24 : decode b_M_set 24 = .ok (.if_icmp .ge 63, 3) := by decide +kernel
theorem d_M_set_27 : decode b_M_set 27 = .ok (.aload_n 0, 1) := by decide +kernel
theorem d_M_set_28 : decode b_M_set 28 = .ok (.getfield 26, 3) := by decide +kernel
theorem d_M_set_31 : decode b_M_set 31 = .ok (.ifCond .ne 56, 3) := by decide +kernel
theorem d_M_set_34 : decode b_M_set 34 = .ok (.aload_n 0, 1) := by decide +kernel
theorem d_M_set_35 : decode b_M_set 35 = .ok (.getfield 7, 3) := by decide +kernel
theorem d_M_set_38 : decode b_M_set 38 = .ok (.sipush 128, 3) := by decide +kernel
theorem d_M_set_41 : decode b_M_set 41 = .ok (.iload_n 1, 1) := by decide +kernel
theorem d_M_set_42 : decode b_M_set 42 = .ok (.imul, 1) := by decide +kernel
theorem d_M_set_43 : decode b_M_set 43 = .ok (.iload 6, 2) := by decide +kernel
theorem d_M_set_45 : decode b_M_set 45 = .ok (.iadd, 1) := by decide +kernel
theorem d_M_set_46 : decode b_M_set 46 = .ok (.iload 6, 2) := by decide +kernel
theorem d_M_set_48 : decode b_M_set 48 = .ok (.bipush 64, 2) := by decide +kernel
theorem d_M_set_50 : decode b_M_set 50 = .ok (.if_icmp .ge 11, 3) := by decide +kernel
theorem d_M_set_53 : decode b_M_set 53 = .ok (.lload 4, 2) := by decide +kernel
theorem d_M_set_55 : decode b_M_set 55 = .ok (.iload 6, 2) := by decide +kernel
theorem d_M_set_57 : decode b_M_set 57 = .ok (.lshr, 1) := by decide +kernel
theorem d_M_set_58 : decode b_M_set 58 = .ok (.goto 10, 3) := by decide +kernel
theorem d_M_set_61 : decode b_M_set 61 = .ok (.lload_n 2, 1) := by decide +kernel
theorem d_M_set_62 : decode b_M_set 62 = .ok (.iload 6, 2) := by decide +kernel
theorem d_M_set_64 : decode b_M_set 64 = .ok (.bipush 64, 2) := by decide +kernel
theorem d_M_set_66 : decode b_M_set 66 = .ok (.isub, 1) := by decide +kernel
theorem d_M_set_67 : decode b_M_set 67 = .ok (.lshr, 1) := by decide +kernel
theorem d_M_set_68 : decode b_M_set 68 = .ok (.lconst 1, 1) := by decide +kernel
theorem d_M_set_69 : decode b_M_set 69 = .ok (.land, 1) := by decide +kernel
theorem d_M_set_70 : decode b_M_set 70 = .ok (.lconst 1, 1) := by decide +kernel
theorem d_M_set_71 : decode b_M_set 71 = .ok (.lcmp, 1) := by decide +kernel
theorem d_M_set_72 : decode b_M_set 72 = .ok (.ifCond .ne 7, 3) := by decide +kernel
theorem d_M_set_75 : decode b_M_set 75 = .ok (.iconst 1, 1) := by decide +kernel
theorem d_M_set_76 : decode b_M_set 76 = .ok (.goto 4, 3) := by decide +kernel
theorem d_M_set_79 : decode b_M_set 79 = .ok (.iconst 0, 1) := by decide +kernel
theorem d_M_set_80 : decode b_M_set 80 = .ok (.bastore, 1) := by decide +kernel
theorem d_M_set_81 : decode b_M_set 81 = .ok (.iinc 6 1, 3) := by decide +kernel
theorem d_M_set_84 : decode b_M_set 84 = .ok (.goto (-65), 3) := by decide +kernel
theorem d_M_set_87 : decode b_M_set 87 = .ok (.return_, 1) := by decide +kernel
theorem d_M_none_0 : decode b_M_none 0 = .ok (.iload_n 0, 1) := by decide +kernel
theorem d_M_none_1 : decode b_M_none 1 = .ok (.ifCond .lt 9, 3) := by decide +kernel
theorem d_M_none_4 : decode b_M_none 4 = .ok (.iload_n 0, 1) := by decide +kernel
theorem d_M_none_5 : decode b_M_none 5 = .ok (.bipush 7, 2) := by decide +kernel
theorem d_M_none_7 : decode b_M_none 7 = .ok (.if_icmp .le 7, 3) := by decide +kernel
theorem d_M_none_10 : decode b_M_none 10 = .ok (.iconst 1, 1) := by decide +kernel
theorem d_M_none_11 : decode b_M_none 11 = .ok (.goto 4, 3) := by decide +kernel
theorem d_M_none_14 : decode b_M_none 14 = .ok (.iconst 0, 1) := by decide +kernel
theorem d_M_none_15 : decode b_M_none 15 = .ok (.ireturn, 1) := by decide +kernel
theorem d_M_half_0 : decode b_M_half 0 = .ok (.aload_n 0, 1) := by decide +kernel
theorem d_M_half_1 : decode b_M_half 1 = .ok (.iload_n 1, 1) := by decide +kernel
theorem d_M_half_2 : decode b_M_half 2 = .ok (.invokestatic 30, 3) := by decide +kernel
theorem d_M_half_5 : decode b_M_half 5 = .ok (.ifCond .eq 7, 3) := by decide +kernel
theorem d_M_half_8 : decode b_M_half 8 = .ok (.iconst 1, 1) := by decide +kernel
theorem d_M_half_9 : decode b_M_half 9 = .ok (.goto 4, 3) := by decide +kernel
theorem d_M_half_12 : decode b_M_half 12 = .ok (.iconst 0, 1) := by decide +kernel
theorem d_M_half_13 : decode b_M_half 13 = .ok (.putfield 26, 3) := by decide +kernel
theorem d_M_half_16 : decode b_M_half 16 = .ok (.lconst 0, 1) := by decide +kernel
theorem d_M_half_17 : decode b_M_half 17 = .ok (.lstore_n 3, 1) := by decide +kernel
theorem d_M_half_18 : decode b_M_half 18 = .ok (.bipush 63, 2) := by decide +kernel
theorem d_M_half_20 : decode b_M_half 20 = .ok (.istore 5, 2) := by decide +kernel
theorem d_M_half_22 : decode b_M_half 22 = .ok (.iload 5, 2) := by decide +kernel
theorem d_M_half_24 : decode b_M_half 24 = .ok (.ifCond .lt 55, 3) := by decide +kernel
theorem d_M_half_27 : decode b_M_half 27 = .ok (.aload_n 0, 1) := by decide +kernel
theorem d_M_half_28 : decode b_M_half 28 = .ok (.getfield 26, 3) := by decide +kernel
theorem d_M_half_31 : decode b_M_half 31 = .ok (.ifCond .ne 48, 3) := by decide +kernel
theorem d_M_half_34 : decode b_M_half 34 = .ok (.ldc2_w 34, 3) := by decide +kernel
theorem d_M_half_37 : decode b_M_half 37 = .ok (.lload_n 3, 1) := by decide +kernel
theorem d_M_half_38 : decode b_M_half 38 = .ok (.lmul, 1) := by decide +kernel
theorem d_M_half_39 : decode b_M_half 39 = .ok (.aload_n 0, 1) := by decide +kernel
theorem d_M_half_40 : decode b_M_half 40 = .ok (.getfield 7, 3) := by decide +kernel
theorem d_M_half_43 : decode b_M_half 43 = .ok (.sipush 128, 3) := by decide +kernel
theorem d_M_half_46 : decode b_M_half 46 = .ok (.iload_n 1, 1) := by decide +kernel
theorem d_M_half_47 : decode b_M_half 47 = .ok (.imul, 1) := by decide +kernel
theorem d_M_half_48 : decode b_M_half 48 = .ok (.iload_n 2, 1) := by decide +kernel
theorem d_M_half_49 : decode b_M_half 49 = .ok (.ifCond .eq 8, 3) := by decide +kernel
theorem d_M_half_52 : decode b_M_half 52 = .ok (.bipush 64, 2) := by decide +kernel
theorem d_M_half_54 : decode b_M_half 54 = .ok (.goto 4, 3) := by decide +kernel
theorem d_M_half_57 : decode b_M_half 57 = .ok (.iconst 0, 1) := by decide +kernel
theorem d_M_half_58 : decode b_M_half 58 = .ok (.iadd, 1) := by decide +kernel
theorem d_M_half_59 : decode b_M_half 59 = .ok (.iload 5, 2) := by decide +kernel
theorem d_M_half_61 : decode b_M_half 61 = .ok (.iadd, 1) := by decide +kernel
theorem d_M_half_62 : decode b_M_half 62 = .ok (.baload, 1) := by decide +kernel
theorem d_M_half_63 : decode b_M_half 63 = .ok (.ifCond .eq 7, 3) := by decide +kernel
theorem d_M_half_66 : decode b_M_half 66 = .ok (.lconst 1, 1) := by decide +kernel
theorem d_M_half_67 : decode b_M_half 67 = .ok (.goto 4, 3) := by decide +kernel
theorem d_M_half_70 : decode b_M_half 70 = .ok (.lconst 0, 1) := by decide +kernel
theorem d_M_half_71 : decode b_M_half 71 = .ok (.ladd, 1) := by decide +kernel
theorem d_M_half_72 : decode b_M_half 72 = .ok (.lstore_n 3, 1) := by decide +kernel
theorem d_M_half_73 : decode b_M_half 73 = .ok (.iinc 5 (-1), 3) := by decide +kernel
theorem d_M_half_76 : decode b_M_half 76 = .ok (.goto (-54), 3) := by decide +kernel
theorem d_M_half_79 : decode b_M_half 79 = .ok (.lload_n 3, 1) := by decide +kernel
theorem d_M_half_80 : decode b_M_half 80 = .ok (.lreturn, 1) := by decide +kernel
theorem d_M_add_0 : decode b_M_add 0 = .ok (.aload_n 0, 1) := by decide +kernel
theorem d_M_add_1 : decode b_M_add 1 = .ok (.iload_n 1, 1) := by decide +kernel
theorem d_M_add_2 : decode b_M_add 2 = .ok (.invokestatic 30, 3) := by decide +kernel
theorem d_M_add_5 : decode b_M_add 5 = .ok (.ifCond .ne 17, 3) := by decide +kernel
theorem d_M_add_8 : decode b_M_add 8 = .ok (.iload_n 2, 1) := by decide +kernel
theorem d_M_add_9 : decode b_M_add 9 = .ok (.invokestatic 30, 3) := by decide +kernel
theorem d_M_add_12 : decode b_M_add 12 = .ok (.ifCond .ne 10, 3) := by decide +kernel
theorem d_M_add_15 : decode b_M_add 15 = .ok (.iload_n 3, 1) := by decide +kernel
theorem d_M_add_16 : decode b_M_add 16 = .ok (.invokestatic 30, 3) := by decide +kernel
theorem d_M_add_19 : decode b_M_add 19 = .ok (.ifCond .eq 7, 3) := by decide +kernel
theorem d_M_add_22 : decode b_M_add 22 = .ok (.iconst 1, 1) := by decide +kernel
theorem d_M_add_23 : decode b_M_add 23 = .ok (.goto 4, 3) := by decide +kernel
theorem d_M_add_26 : decode b_M_add 26 = .ok (.iconst 0, 1) := by decide +kernel
theorem d_M_add_27 : decode b_M_add 27 = .ok (.putfield 26, 3) := by decide +kernel
theorem d_M_add_30 : decode b_M_add 30 = .ok (.aload_n 0, 1) := by decide +kernel
theorem d_M_add_31 : decode b_M_add 31 = .ok (.getfield 26, 3) := by decide +kernel
theorem d_M_add_34 : decode b_M_add 34 = .ok (.ifCond .le 5, 3) := by decide +kernel
theorem d_M_add_37 : decode b_M_add 37 = .ok (.iconst 0, 1) := by decide +kernel
theorem d_M_add_38 : decode b_M_add 38 = .ok (.ireturn, 1) := by decide +kernel
theorem d_M_add_39 : decode b_M_add 39 = .ok (.aload_n 0, 1) := by decide +kernel
theorem d_M_add_40 : decode b_M_add 40 = .ok (.iload_n 1, 1) := by decide +kernel
theorem d_M_add_41 : decode b_M_add 41 = .ok (.bipush 8, 2) := by decide +kernel
theorem d_M_add_43 : decode b_M_add 43 = .ok (.invokevirtual 36, 3) := by decide +kernel
theorem d_M_add_46 : decode b_M_add 46 = .ok (.aload_n 0, 1) := by decide +kernel
theorem d_M_add_47 : decode b_M_add 47 = .ok (.iload_n 2, 1) := by decide +kernel
theorem d_M_add_48 : decode b_M_add 48 = .ok (.bipush 9, 2) := by decide +kernel
theorem d_M_add_50 : decode b_M_add 50 = .ok (.invokevirtual 36, 3) := by decide +kernel
theorem d_M_add_53 : decode b_M_add 53 = .ok (.aload_n 0, 1) := by decide +kernel
theorem d_M_add_54 : decode b_M_add 54 = .ok (.iconst 0, 1) := by decide +kernel
theorem d_M_add_55 : decode b_M_add 55 = .ok (.invokevirtual 40, 3) := by decide +kernel
theorem d_M_add_58 : decode b_M_add 58 = .ok (.istore 4, 2) := by decide +kernel
theorem d_M_add_60 : decode b_M_add 60 = .ok (.aload_n 0, 1) := by decide +kernel
theorem d_M_add_61 : decode b_M_add 61 = .ok (.bipush 8, 2) := by decide +kernel
theorem d_M_add_63 : decode b_M_add 63 = .ok (.iload_n 3, 1) := by decide +kernel
theorem d_M_add_64 : decode b_M_add 64 = .ok (.invokevirtual 36, 3) := by decide +kernel
theorem d_M_add_67 : decode b_M_add 67 = .ok (.iload 4, 2) := by decide +kernel
theorem d_M_add_69 : decode b_M_add 69 = .ok (.ireturn, 1) := by decide +kernel
theorem d_M_copy_0 : decode b_M_copy 0 = .ok (.iconst 0, 1) := by decide +kernel
theorem d_M_copy_1 : decode b_M_copy 1 = .ok (.istore_n 3, 1) := by decide +kernel
theorem d_M_copy_2 : decode b_M_copy 2 = .ok (.iload_n 3, 1) := by decide +kernel
theorem d_M_copy_3 : decode b_M_copy 3 = .ok (.sipush 128, 3) := by decide +kernel
theorem d_M_copy_6 : decode b_M_copy 6 = .ok (.if_icmp .ge 33, 3) := by decide +kernel
theorem d_M_copy_9 : decode b_M_copy 9 = .ok (.aload_n 0, 1) := by decide +kernel
theorem d_M_copy_10 : decode b_M_copy 10 = .ok (.getfield 7, 3) := by decide +kernel
theorem d_M_copy_13 : decode b_M_copy 13 = .ok (.sipush 128, 3) := by decide +kernel
theorem d_M_copy_16 : decode b_M_copy 16 = .ok (.iload_n 2, 1) := by decide +kernel
theorem d_M_copy_17 : decode b_M_copy 17 = .ok (.imul, 1) := by decide +kernel
theorem d_M_copy_18 : decode b_M_copy 18 = .ok (.iload_n 3, 1) := by decide +kernel
theorem d_M_copy_19 : decode b_M_copy 19 = .ok (.iadd, 1) := by decide +kernel
theorem d_M_copy_20 : decode b_M_copy 20 = .ok (.aload_n 0, 1) := by decide +kernel
theorem d_M_copy_21 : decode b_M_copy 21 = .ok (.getfield 7, 3) := by decide +kernel
theorem d_M_copy_24 : decode b_M_copy 24 = .ok (.sipush 128, 3) := by decide +kernel
theorem d_M_copy_27 : decode b_M_copy 27 = .ok (.iload_n 1, 1) := by decide +kernel
theorem d_M_copy_28 : decode b_M_copy 28 = .ok (.imul, 1) := by decide +kernel
theorem d_M_copy_29 : decode b_M_copy 29 = .ok (.iload_n 3, 1) := by decide +kernel
theorem d_M_copy_30 : decode b_M_copy 30 = .ok (.iadd, 1) := by decide +kernel
theorem d_M_copy_31 : decode b_M_copy 31 = .ok (.baload, 1) := by decide +kernel
theorem d_M_copy_32 : decode b_M_copy 32 = .ok (.bastore, 1) := by decide +kernel
theorem d_M_copy_33 : decode b_M_copy 33 = .ok (.iinc 3 1, 3) := by decide +kernel
theorem d_M_copy_36 : decode b_M_copy 36 = .ok (.goto (-34), 3) := by decide +kernel
theorem d_M_copy_39 : decode b_M_copy 39 = .ok (.return_, 1) := by decide +kernel
theorem d_M_join_0 : decode b_M_join 0 = .ok (.iconst 0, 1) := by decide +kernel
theorem d_M_join_1 : decode b_M_join 1 = .ok (.istore_n 2, 1) := by decide +kernel
theorem d_M_join_2 : decode b_M_join 2 = .ok (.iconst 0, 1) := by decide +kernel
theorem d_M_join_3 : decode b_M_join 3 = .ok (.istore_n 3, 1) := by decide +kernel
theorem d_M_join_4 : decode b_M_join 4 = .ok (.iload_n 3, 1) := by decide +kernel
theorem d_M_join_5 : decode b_M_join 5 = .ok (.sipush 128, 3) := by decide +kernel
theorem d_M_join_8 : decode b_M_join 8 = .ok (.if_icmp .ge 137, 3) := by decide +kernel
theorem d_M_join_11 : decode b_M_join 11 = .ok (.aload_n 0, 1) := by decide +kernel
theorem d_M_join_12 : decode b_M_join 12 = .ok (.getfield 7, 3) := by decide +kernel
theorem d_M_join_15 : decode b_M_join 15 = .ok (.sipush 1024, 3) := by decide +kernel
theorem d_M_join_18 : decode b_M_join 18 = .ok (.iload_n 3, 1) := by decide +kernel
theorem d_M_join_19 : decode b_M_join 19 = .ok (.iadd, 1) := by decide +kernel
theorem d_M_join_20 : decode b_M_join 20 = .ok (.baload, 1) := by decide +kernel
theorem d_M_join_21 : decode b_M_join 21 = .ok (.istore 4, 2) := by decide +kernel
theorem d_M_join_23 : decode b_M_join 23 = .ok (.aload_n 0, 1) := by decide +kernel
theorem d_M_join_24 : decode b_M_join 24 = .ok (.getfield 7, 3) := by decide +kernel
theorem d_M_join_27 : decode b_M_join 27 = .ok (.sipush 1152, 3) := by decide +kernel
theorem d_M_join_30 : decode b_M_join 30 = .ok (.iload_n 3, 1) := by decide +kernel
theorem d_M_join_31 : decode b_M_join 31 = .ok (.iadd, 1) := by decide +kernel
theorem d_M_join_32 : decode b_M_join 32 = .ok (.baload, 1) := by decide +kernel
theorem d_M_join_33 : decode b_M_join 33 = .ok (.istore 5, 2) := by decide +kernel
theorem d_M_join_35 : decode b_M_join 35 = .ok (.iload 4, 2) := by decide +kernel
theorem d_M_join_37 : decode b_M_join 37 = .ok (.iload 5, 2) := by decide +kernel
theorem d_M_join_39 : decode b_M_join 39 = .ok (.if_icmp .eq 7, 3) := by decide +kernel
theorem d_M_join_42 : decode b_M_join 42 = .ok (.iconst 1, 1) := by decide +kernel
theorem d_M_join_43 : decode b_M_join 43 = .ok (.goto 4, 3) := by decide +kernel
theorem d_M_join_46 : decode b_M_join 46 = .ok (.iconst 0, 1) := by decide +kernel
theorem d_M_join_47 : decode b_M_join 47 = .ok (.iload_n 2, 1) := by decide +kernel
theorem d_M_join_48 : decode b_M_join 48 = .ok (.if_icmp .eq 7, 3) := by decide +kernel
theorem d_M_join_51 : decode b_M_join 51 = .ok (.iconst 1, 1) := by decide +kernel
theorem d_M_join_52 : decode b_M_join 52 = .ok (.goto 4, 3) := by decide +kernel
theorem d_M_join_55 : decode b_M_join 55 = .ok (.iconst 0, 1) := by decide +kernel
theorem d_M_join_56 : decode b_M_join 56 = .ok (.istore 6, 2) := by decide +kernel
theorem d_M_join_58 : decode b_M_join 58 = .ok (.iload_n 1, 1) := by decide +kernel
theorem d_M_join_59 : decode b_M_join 59 = .ok (.ifCond .eq 34, 3) := by decide +kernel
theorem d_M_join_62 : decode b_M_join 62 = .ok (.iload 4, 2) := by decide +kernel
theorem d_M_join_64 : decode b_M_join 64 = .ok (.ifCond .ne 12, 3) := by decide +kernel
theorem d_M_join_67 : decode b_M_join 67 = .ok (.iload 5, 2) := by decide +kernel
theorem d_M_join_69 : decode b_M_join 69 = .ok (.ifCond .ne 16, 3) := by decide +kernel
theorem d_M_join_72 : decode b_M_join 72 = .ok (.iload_n 2, 1) := by decide +kernel
theorem d_M_join_73 : decode b_M_join 73 = .ok (.ifCond .ne 12, 3) := by decide +kernel
theorem d_M_join_76 : decode b_M_join 76 = .ok (.iload 5, 2) := by decide +kernel
theorem d_M_join_78 : decode b_M_join 78 = .ok (.ifCond .eq 11, 3) := by decide +kernel
theorem d_M_join_81 : decode b_M_join 81 = .ok (.iload_n 2, 1) := by decide +kernel
theorem d_M_join_82 : decode b_M_join 82 = .ok (.ifCond .eq 7, 3) := by decide +kernel
theorem d_M_join_85 : decode b_M_join 85 = .ok (.iconst 1, 1) := by decide +kernel
theorem d_M_join_86 : decode b_M_join 86 = .ok (.goto 40, 3) := by decide +kernel
theorem d_M_join_89 : decode b_M_join 89 = .ok (.iconst 0, 1) := by decide +kernel
theorem d_M_join_90 : decode b_M_join 90 = .ok (.goto 36, 3) := by decide +kernel
theorem d_M_join_93 : decode b_M_join 93 = .ok (.iload 4, 2) := by decide +kernel
theorem d_M_join_95 : decode b_M_join 95 = .ok (.ifCond .eq 8, 3) := by decide +kernel
theorem d_M_join_98 : decode b_M_join 98 = .ok (.iload 5, 2) := by decide +kernel
theorem d_M_join_100 : decode b_M_join 100 = .ok (.ifCond .ne 21, 3) := by decide +kernel
theorem d_M_join_103 : decode b_M_join 103 = .ok (.iload 4, 2) := by decide +kernel
theorem d_M_join_105 : decode b_M_join 105 = .ok (.ifCond .eq 7, 3) := by decide +kernel
theorem d_M_join_108 : decode b_M_join 108 = .ok (.iload_n 2, 1) := by decide +kernel
theorem d_M_join_109 : decode b_M_join 109 = .ok (.ifCond .ne 12, 3) := by decide +kernel
theorem d_M_join_112 : decode b_M_join 112 = .ok (.iload 5, 2) := by decide +kernel
theorem d_M_join_114 : decode b_M_join 114 = .ok (.ifCond .eq 11, 3) := by decide +kernel
theorem d_M_join_117 : decode b_M_join 117 = .ok (.iload_n 2, 1) := by decide +kernel
theorem d_M_join_118 : decode b_M_join 118 = .ok (.ifCond .eq 7, 3) := by decide +kernel
theorem d_M_join_121 : decode b_M_join 121 = .ok (.iconst 1, 1) := by decide +kernel
theorem d_M_join_122 : decode b_M_join 122 = .ok (.goto 4, 3) := by decide +kernel
theorem d_M_join_125 : decode b_M_join 125 = .ok (.iconst 0, 1) := by decide +kernel
theorem d_M_join_126 : decode b_M_join 126 = .ok (.istore_n 2, 1) := by decide +kernel
theorem d_M_join_127 : decode b_M_join 127 = .ok (.aload_n 0, 1) := by decide +kernel
theorem d_M_join_128 : decode b_M_join 128 = .ok (.getfield 7, 3) := by decide +kernel
theorem d_M_join_131 : decode b_M_join 131 = .ok (.sipush 1024, 3) := by decide +kernel
theorem d_M_join_134 : decode b_M_join 134 = .ok (.iload_n 3, 1) := by decide +kernel
theorem d_M_join_135 : decode b_M_join 135 = .ok (.iadd, 1) := by decide +kernel
theorem d_M_join_136 : decode b_M_join 136 = .ok (.iload 6, 2) := by decide +kernel
theorem d_M_join_138 : decode b_M_join 138 = .ok (.bastore, 1) := by decide +kernel
theorem d_M_join_139 : decode b_M_join 139 = .ok (.iinc 3 1, 3) := by decide +kernel
theorem d_M_join_142 : decode b_M_join 142 = .ok (.goto (-138), 3) := by decide +kernel
theorem d_M_join_145 : decode b_M_join 145 = .ok (.iload_n 2, 1) := by decide +kernel
theorem d_M_join_146 : decode b_M_join 146 = .ok (.ireturn, 1) := by decide +kernel
theorem d_M_subtract_0 : decode b_M_subtract 0 = .ok (.aload_n 0, 1) := by decide +kernel
theorem d_M_subtract_1 : decode b_M_subtract 1 = .ok (.iload_n 1, 1) := by decide +kernel
theorem d_M_subtract_2 : decode b_M_subtract 2 = .ok (.invokestatic 30, 3) := by decide +kernel
theorem d_M_subtract_5 : decode b_M_subtract 5 = .ok (.ifCond .ne 17, 3) := by decide +kernel
theorem d_M_subtract_8 : decode b_M_subtract 8 = .ok (.iload_n 2, 1) := by decide +kernel
theorem d_M_subtract_9 : decode b_M_subtract 9 = .ok (.invokestatic 30, 3) := by decide +kernel
theorem d_M_subtract_12 : decode b_M_subtract 12 = .ok (.ifCond .ne 10, 3) := by decide +kernel
theorem d_M_subtract_15 : decode b_M_subtract 15 = .ok (.iload_n 3, 1) := by decide +kernel
theorem d_M_subtract_16 : decode b_M_subtract 16 = .ok (.invokestatic 30, 3) := by decide +kernel
theorem d_M_subtract_19 : decode b_M_subtract 19 = .ok (.ifCond .eq 7, 3) := by decide +kernel
theorem d_M_subtract_22 : decode b_M_subtract 22 = .ok (.iconst 1, 1) := by decide +kernel
theorem d_M_subtract_23 : decode b_M_subtract 23 = .ok (.goto 4, 3) := by decide +kernel
theorem d_M_subtract_26 : decode b_M_subtract 26 = .ok (.iconst 0, 1) := by decide +kernel
theorem d_M_subtract_27 : decode b_M_subtract 27 = .ok (.putfield 26, 3) := by decide +kernel
theorem d_M_subtract_30 : decode b_M_subtract 30 = .ok (.aload_n 0, 1) := by decide +kernel
theorem d_M_subtract_31 : decode b_M_subtract 31 = .ok (.getfield 26, 3) := by decide +kernel
theorem d_M_subtract_34 : decode b_M_subtract 34 = .ok (.ifCond .le 5, 3) := by decide +kernel
theorem d_M_subtract_37 : decode b_M_subtract 37 = .ok (.iconst 0, 1) := by decide +kernel
theorem d_M_subtract_38 : decode b_M_subtract 38 = .ok (.ireturn, 1) := by decide +kernel
theorem d_M_subtract_39 : decode b_M_subtract 39 = .ok (.aload_n 0, 1) := by decide +kernel
theorem d_M_subtract_40 : decode b_M_subtract 40 = .ok (.iload_n 1, 1) := by decide +kernel
theorem d_M_subtract_41 : decode b_M_subtract 41 = .ok (.bipush 8, 2) := by decide +kernel
theorem d_M_subtract_43 : decode b_M_subtract 43 = .ok (.invokevirtual 36, 3) := by decide +kernel
theorem d_M_subtract_46 : decode b_M_subtract 46 = .ok (.aload_n 0, 1) := by decide +kernel
theorem d_M_subtract_47 : decode b_M_subtract 47 = .ok (.iload_n 2, 1) := by decide +kernel
theorem d_M_subtract_48 : decode b_M_subtract 48 = .ok (.bipush 9, 2) := by decide +kernel
theorem d_M_subtract_50 : decode b_M_subtract 50 = .ok (.invokevirtual 36, 3) := by decide +kernel
theorem d_M_subtract_53 : decode b_M_subtract 53 = .ok (.aload_n 0, 1) := by decide +kernel
theorem d_M_subtract_54 : decode b_M_subtract 54 = .ok (.iconst 1, 1) := by decide +kernel
theorem d_M_subtract_55 : decode b_M_subtract 55 = .ok (.invokevirtual 40, 3) := by decide +kernel
theorem d_M_subtract_58 : decode b_M_subtract 58 = .ok (.istore 4, 2) := by decide +kernel
theorem d_M_subtract_60 : decode b_M_subtract 60 = .ok (.aload_n 0, 1) := by decide +kernel
theorem d_M_subtract_61 : decode b_M_subtract 61 = .ok (.bipush 8, 2) := by decide +kernel
theorem d_M_subtract_63 : decode b_M_subtract 63 = .ok (.iload_n 3, 1) := by decide +kernel
theorem d_M_subtract_64 : decode b_M_subtract 64 = .ok (.invokevirtual 36, 3) := by decide +kernel
theorem d_M_subtract_67 : decode b_M_subtract 67 = .ok (.iload 4, 2) := by decide +kernel
theorem d_M_subtract_69 : decode b_M_subtract 69 = .ok (.ireturn, 1) := by decide +kernel
theorem d_M_multiply_0 : decode b_M_multiply 0 = .ok (.aload_n 0, 1) := by decide +kernel
theorem d_M_multiply_1 : decode b_M_multiply 1 = .ok (.iload_n 1, 1) := by decide +kernel
theorem d_M_multiply_2 : decode b_M_multiply 2 = .ok (.invokestatic 30, 3) := by decide +kernel
theorem d_M_multiply_5 : decode b_M_multiply 5 = .ok (.ifCond .ne 25, 3) := by decide +kernel
theorem d_M_multiply_8 : decode b_M_multiply 8 = .ok (.iload_n 2, 1) := by decide +kernel
theorem d_M_multiply_9 : decode b_M_multiply 9 = .ok (.invokestatic 30, 3) := by decide +kernel
theorem d_M_multiply_12 : decode b_M_multiply 12 = .ok (.ifCond .ne 18, 3) := by decide +kernel
theorem d_M_multiply_15 : decode b_M_multiply 15 = .ok (.iload_n 3, 1) := by decide +kernel
theorem d_M_multiply_16 : decode b_M_multiply 16 = .ok (.invokestatic 30, 3) := by decide +kernel
theorem d_M_multiply_19 : decode b_M_multiply 19 = .ok (.ifCond .ne 11, 3) := by decide +kernel
theorem d_M_multiply_22 : decode b_M_multiply 22 = .ok (.iload 4, 2) := by decide +kernel
theorem d_M_multiply_24 : decode b_M_multiply 24 = .ok (.invokestatic 30, 3) := by decide +kernel
theorem d_M_multiply_27 : decode b_M_multiply 27 = .ok (.ifCond .eq 7, 3) := by decide +kernel
theorem d_M_multiply_30 : decode b_M_multiply 30 = .ok (.iconst 1, 1) := by decide +kernel
theorem d_M_multiply_31 : decode b_M_multiply 31 = .ok (.goto 14, 3) := by decide +kernel
theorem d_M_multiply_34 : decode b_M_multiply 34 = .ok (.iload_n 3, 1) := by decide +kernel
theorem d_M_multiply_35 : decode b_M_multiply 35 = .ok (.iload 4, 2) := by decide +kernel
theorem d_M_multiply_37 : decode b_M_multiply 37 = .ok (.if_icmp .ne 7, 3) := by decide +kernel
theorem d_M_multiply_40 : decode b_M_multiply 40 = .ok (.iconst 2, 1) := by decide +kernel
theorem d_M_multiply_41 : decode b_M_multiply 41 = .ok (.goto 4, 3) := by decide +kernel
theorem d_M_multiply_44 : decode b_M_multiply 44 = .ok (.iconst 0, 1) := by decide +kernel
theorem d_M_multiply_45 : decode b_M_multiply 45 = .ok (.putfield 26, 3) := by decide +kernel
theorem d_M_multiply_48 : decode b_M_multiply 48 = .ok (.aload_n 0, 1) := by decide +kernel
theorem d_M_multiply_49 : decode b_M_multiply 49 = .ok (.getfield 26, 3) := by decide +kernel
theorem d_M_multiply_52 : decode b_M_multiply 52 = .ok (.ifCond .le 4, 3) := by decide +kernel
theorem d_M_multiply_55 : decode b_M_multiply 55 = .ok (.return_, 1) := by decide +kernel
theorem d_M_multiply_56 : decode b_M_multiply 56 = .ok (.aload_n 0, 1) := by decide +kernel
theorem d_M_multiply_57 : decode b_M_multiply 57 = .ok (.iload_n 1, 1) := by decide +kernel
theorem d_M_multiply_58 : decode b_M_multiply 58 = .ok (.iload_n 2, 1) := by decide +kernel
theorem d_M_multiply_59 : decode b_M_multiply 59 = .ok (.invokevirtual 44, 3) := by decide +kernel
theorem d_M_multiply_62 : decode b_M_multiply 62 = .ok (.aload_n 0, 1) := by decide +kernel
theorem d_M_multiply_63 : decode b_M_multiply 63 = .ok (.aload_n 0, 1) := by decide +kernel
theorem d_M_multiply_64 : decode b_M_multiply 64 = .ok (.getfield 13, 3) := by decide +kernel
theorem d_M_multiply_67 : decode b_M_multiply 67 = .ok (.sipush 128, 3) := by decide +kernel
theorem d_M_multiply_70 : decode b_M_multiply 70 = .ok (.iload_n 3, 1) := by decide +kernel
theorem d_M_multiply_71 : decode b_M_multiply 71 = .ok (.invokevirtual 47, 3) := by decide +kernel
theorem d_M_multiply_74 : decode b_M_multiply 74 = .ok (.aload_n 0, 1) := by decide +kernel
theorem d_M_multiply_75 : decode b_M_multiply 75 = .ok (.aload_n 0, 1) := by decide +kernel
theorem d_M_multiply_76 : decode b_M_multiply 76 = .ok (.getfield 13, 3) := by decide +kernel
theorem d_M_multiply_79 : decode b_M_multiply 79 = .ok (.iconst 0, 1) := by decide +kernel
theorem d_M_multiply_80 : decode b_M_multiply 80 = .ok (.iload 4, 2) := by decide +kernel
theorem d_M_multiply_82 : decode b_M_multiply 82 = .ok (.invokevirtual 47, 3) := by decide +kernel
theorem d_M_multiply_85 : decode b_M_multiply 85 = .ok (.return_, 1) := by decide +kernel
theorem d_M_findProduct_0 : decode b_M_findProduct 0 = .ok (.iconst 0, 1) := by decide +kernel
theorem d_M_findProduct_1 : decode b_M_findProduct 1 = .ok (.istore_n 3, 1) := by decide +kernel
theorem d_M_findProduct_2 : decode b_M_findProduct 2 = .ok (.iload_n 3, 1) := by decide +kernel
theorem d_M_findProduct_3 : decode b_M_findProduct 3 = .ok (.sipush 256, 3) := by decide +kernel
theorem d_M_findProduct_6 : decode b_M_findProduct 6 = .ok (.if_icmp .ge 16, 3) := by decide +kernel
theorem d_M_findProduct_9 : decode b_M_findProduct 9 = .ok (.aload_n 0, 1) := by decide +kernel
theorem d_M_findProduct_10 : decode b_M_findProduct 10 = .ok (.getfield 13, 3) := by decide +kernel
theorem d_M_findProduct_13 : decode b_M_findProduct 13 = .ok (.iload_n 3, 1) := by decide +kernel
theorem d_M_findProduct_14 : decode b_M_findProduct 14 = .ok (.iconst 0, 1) := by decide +kernel
theorem d_M_findProduct_15 : decode b_M_findProduct 15 = .ok (.bastore, 1) := by decide +kernel
theorem d_M_findProduct_16 : decode b_M_findProduct 16 = .ok (.iinc 3 1, 3) := by decide +kernel
theorem d_M_findProduct_19 : decode b_M_findProduct 19 = .ok (.goto (-17), 3) := by decide +kernel
theorem d_M_findProduct_22 : decode b_M_findProduct 22 = .ok (.iconst 0, 1) := by decide +kernel
theorem d_M_findProduct_23 : decode b_M_findProduct 23 = .ok (.istore_n 3, 1) := by decide +kernel
theorem d_M_findProduct_24 : decode b_M_findProduct 24 = .ok (.iload_n 3, 1) := by decide +kernel
theorem d_M_findProduct_25 : decode b_M_findProduct 25 = .ok (.sipush 128, 3) := by decide +kernel
theorem d_M_findProduct_28 : decode b_M_findProduct 28 = .ok (.if_icmp .ge 156, 3) := by decide +kernel
theorem d_M_findProduct_31 : decode b_M_findProduct 31 = .ok (.aload_n 0, 1) := by decide +kernel
theorem d_M_findProduct_32 : decode b_M_findProduct 32 = .ok (.getfield 7, 3) := by decide +kernel
theorem d_M_findProduct_35 : decode b_M_findProduct 35 = .ok (.sipush 128, 3) := by decide +kernel
theorem d_M_findProduct_38 : decode b_M_findProduct 38 = .ok (.iload_n 2, 1) := by decide +kernel
theorem d_M_findProduct_39 : decode b_M_findProduct 39 = .ok (.imul, 1) := by decide +kernel
theorem d_M_findProduct_40 : decode b_M_findProduct 40 = .ok (.iload_n 3, 1) := by decide +kernel
theorem d_M_findProduct_41 : decode b_M_findProduct 41 = .ok (.iadd, 1) := by decide +kernel
theorem d_M_findProduct_42 : decode b_M_findProduct 42 = .ok (.baload, 1) := by decide +kernel
theorem d_M_findProduct_43 : decode b_M_findProduct 43 = .ok (.ifCond .eq 135, 3) := by decide +kernel
theorem d_M_findProduct_46 : decode b_M_findProduct 46 = .ok (.iconst 0, 1) := by decide +kernel
theorem d_M_findProduct_47 : decode b_M_findProduct 47 = .ok (.istore 4, 2) := by decide +kernel
theorem d_M_findProduct_49 : decode b_M_findProduct 49 = .ok (.iconst 0, 1) := by decide +kernel
theorem d_M_findProduct_50 : decode b_M_findProduct 50 = .ok (.istore 5, 2) := by decide +kernel
theorem d_M_findProduct_52 : decode b_M_findProduct 52 = .ok (.iload_n 3, 1) := by decide +kernel
theorem d_M_findProduct_53 : decode b_M_findProduct 53 = .ok (.iload 5, 2) := by decide +kernel
theorem d_M_findProduct_55 : decode b_M_findProduct 55 = .ok (.iadd, 1) := by decide +kernel
theorem d_M_findProduct_56 : decode b_M_findProduct 56 = .ok (.sipush 256, 3) := by decide +kernel
theorem d_M_findProduct_59 : decode b_M_findProduct 59 = .ok (.if_icmp .ge 119, 3) := by decide +kernel
theorem d_M_findProduct_62 : decode b_M_findProduct 62 = .ok (.aload_n 0, 1) := by decide +kernel
theorem d_M_findProduct_63 : decode b_M_findProduct 63 = .ok (.getfield 13, 3) := by decide +kernel
theorem d_M_findProduct_66 : decode b_M_findProduct 66 = .ok (.iload_n 3, 1) := by decide +kernel
theorem d_M_findProduct_67 : decode b_M_findProduct 67 = .ok (.iload 5, 2) := by decide +kernel
theorem d_M_findProduct_69 : decode b_M_findProduct 69 = .ok (.iadd, 1) := by decide +kernel
theorem d_M_findProduct_70 : decode b_M_findProduct 70 = .ok (.baload, 1) := by decide +kernel
theorem d_M_findProduct_71 : decode b_M_findProduct 71 = .ok (.istore 6, 2) := by decide +kernel
theorem d_M_findProduct_73 : decode b_M_findProduct 73 = .ok (.iload 5, 2) := by decide +kernel
theorem d_M_findProduct_75 : decode b_M_findProduct 75 = .ok (.sipush 128, 3) := by decide +kernel
theorem d_M_findProduct_78 : decode b_M_findProduct 78 = .ok (.if_icmp .ge 23, 3) := by decide +kernel
theorem d_M_findProduct_81 : decode b_M_findProduct 81 = .ok (.aload_n 0, 1) := by decide +kernel
theorem d_M_findProduct_82 : decode b_M_findProduct 82 = .ok (.getfield 7, 3) := by decide +kernel
theorem d_M_findProduct_85 : decode b_M_findProduct 85 = .ok (.sipush 128, 3) := by decide +kernel
theorem d_M_findProduct_88 : decode b_M_findProduct 88 = .ok (.iload_n 1, 1) := by decide +kernel
theorem d_M_findProduct_89 : decode b_M_findProduct 89 = .ok (.imul, 1) := by decide +kernel
theorem d_M_findProduct_90 : decode b_M_findProduct 90 = .ok (.iload 5, 2) := by decide +kernel
theorem d_M_findProduct_92 : decode b_M_findProduct 92 = .ok (.iadd, 1) := by decide +kernel
theorem d_M_findProduct_93 : decode b_M_findProduct 93 = .ok (.baload, 1) := by decide +kernel
theorem d_M_findProduct_94 : decode b_M_findProduct 94 = .ok (.ifCond .eq 7, 3) := by decide +kernel
theorem d_M_findProduct_97 : decode b_M_findProduct 97 = .ok (.iconst 1, 1) := by decide +kernel
theorem d_M_findProduct_98 : decode b_M_findProduct 98 = .ok (.goto 4, 3) := by decide +kernel
theorem d_M_findProduct_101 : decode b_M_findProduct 101 = .ok (.iconst 0, 1) := by decide +kernel
theorem d_M_findProduct_102 : decode b_M_findProduct 102 = .ok (.istore 7, 2) := by decide +kernel
theorem d_M_findProduct_104 : decode b_M_findProduct 104 = .ok (.aload_n 0, 1) := by decide +kernel
theorem d_M_findProduct_105 : decode b_M_findProduct 105 = .ok (.getfield 13, 3) := by decide +kernel
theorem d_M_findProduct_108 : decode b_M_findProduct 108 = .ok (.iload_n 3, 1) := by decide +kernel
theorem d_M_findProduct_109 : decode b_M_findProduct 109 = .ok (.iload 5, 2) := by decide +kernel
theorem d_M_findProduct_111 : decode b_M_findProduct 111 = .ok (.iadd, 1) := by decide +kernel
theorem d_M_findProduct_112 : decode b_M_findProduct 112 = .ok (.iload 6, 2) := by decide +kernel
theorem d_M_findProduct_114 : decode b_M_findProduct 114 = .ok (.iload 7, 2) := by decide +kernel
theorem d_M_findProduct_116 : decode b_M_findProduct 116 = .ok (.if_icmp .eq 7, 3) := by decide +kernel
theorem d_M_findProduct_119 : decode b_M_findProduct 119 = .ok (.iconst 1, 1) := by decide +kernel
theorem d_M_findProduct_120 : decode b_M_findProduct 120 = .ok (.goto 4, 3) := by decide +kernel
theorem d_M_findProduct_123 : decode b_M_findProduct 123 = .ok (.iconst 0, 1) := by decide +kernel
theorem d_M_findProduct_124 : decode b_M_findProduct 124 = .ok (.iload 4, 2) := by decide +kernel
theorem d_M_findProduct_126 : decode b_M_findProduct 126 = .ok (.if_icmp .eq 7, 3) := by decide +kernel
theorem d_M_findProduct_129 : decode b_M_findProduct 129 = .ok (.iconst 1, 1) := by decide +kernel
theorem d_M_findProduct_130 : decode b_M_findProduct 130 = .ok (.goto 4, 3) := by decide +kernel
theorem d_M_findProduct_133 : decode b_M_findProduct 133 = .ok (.iconst 0, 1) := by decide +kernel
theorem d_M_findProduct_134 : decode b_M_findProduct 134 = .ok (.bastore, 1) := by decide +kernel
theorem d_M_findProduct_135 : decode b_M_findProduct 135 = .ok (.iload 6, 2) := by decide +kernel
theorem d_M_findProduct_137 : decode b_M_findProduct 137 = .ok (.ifCond .eq 8, 3) := by decide +kernel
theorem d_M_findProduct_140 : decode b_M_findProduct 140 = .ok (.iload 7, 2) := by decide +kernel
theorem d_M_findProduct_142 : decode b_M_findProduct 142 = .ok (.ifCond .ne 23, 3) := by decide +kernel
theorem d_M_findProduct_145 : decode b_M_findProduct 145 = .ok (.iload 6, 2) := by decide +kernel
theorem d_M_findProduct_147 : decode b_M_findProduct 147 = .ok (.ifCond .eq 8, 3) := by decide +kernel
theorem d_M_findProduct_150 : decode b_M_findProduct 150 = .ok (.iload 4, 2) := by decide +kernel
theorem d_M_findProduct_152 : decode b_M_findProduct 152 = .ok (.ifCond .ne 13, 3) := by decide +kernel
theorem d_M_findProduct_155 : decode b_M_findProduct 155 = .ok (.iload 7, 2) := by decide +kernel
theorem d_M_findProduct_157 : decode b_M_findProduct 157 = .ok (.ifCond .eq 12, 3) := by decide +kernel
theorem d_M_findProduct_160 : decode b_M_findProduct 160 = .ok (.iload 4, 2) := by decide +kernel
theorem d_M_findProduct_162 : decode b_M_findProduct 162 = .ok (.ifCond .eq 7, 3) := by decide +kernel
theorem d_M_findProduct_165 : decode b_M_findProduct 165 = .ok (.iconst 1, 1) := by decide +kernel
theorem d_M_findProduct_166 : decode b_M_findProduct 166 = .ok (.goto 4, 3) := by decide +kernel
theorem d_M_findProduct_169 : decode b_M_findProduct 169 = .ok (.iconst 0, 1) := by decide +kernel
theorem d_M_findProduct_170 : decode b_M_findProduct 170 = .ok (.istore 4, 2) := by decide +kernel
theorem d_M_findProduct_172 : decode b_M_findProduct 172 = .ok (.iinc 5 1, 3) := by decide +kernel
theorem d_M_findProduct_175 : decode b_M_findProduct 175 = .ok (.goto (-123), 3) := by decide +kernel
theorem d_M_findProduct_178 : decode b_M_findProduct 178 = .ok (.iinc 3 1, 3) := by decide +kernel
theorem d_M_findProduct_181 : decode b_M_findProduct 181 = .ok (.goto (-157), 3) := by decide +kernel
theorem d_M_findProduct_184 : decode b_M_findProduct 184 = .ok (.return_, 1) := by decide +kernel
theorem d_M_take_0 : decode b_M_take 0 = .ok (.iconst 0, 1) := by decide +kernel
theorem d_M_take_1 : decode b_M_take 1 = .ok (.istore 4, 2) := by decide +kernel
theorem d_M_take_3 : decode b_M_take 3 = .ok (.iload 4, 2) := by decide +kernel
theorem d_M_take_5 : decode b_M_take 5 = .ok (.sipush 128, 3) := by decide +kernel
theorem d_M_take_8 : decode b_M_take 8 = .ok (.if_icmp .ge 28, 3) := by decide +kernel
theorem d_M_take_11 : decode b_M_take 11 = .ok (.aload_n 0, 1) := by decide +kernel
theorem d_M_take_12 : decode b_M_take 12 = .ok (.getfield 7, 3) := by decide +kernel
theorem d_M_take_15 : decode b_M_take 15 = .ok (.sipush 128, 3) := by decide +kernel
theorem d_M_take_18 : decode b_M_take 18 = .ok (.iload_n 3, 1) := by decide +kernel
theorem d_M_take_19 : decode b_M_take 19 = .ok (.imul, 1) := by decide +kernel
theorem d_M_take_20 : decode b_M_take 20 = .ok (.iload 4, 2) := by decide +kernel
theorem d_M_take_22 : decode b_M_take 22 = .ok (.iadd, 1) := by decide +kernel
theorem d_M_take_23 : decode b_M_take 23 = .ok (.aload_n 1, 1) := by decide +kernel
theorem d_M_take_24 : decode b_M_take 24 = .ok (.iload_n 2, 1) := by decide +kernel
theorem d_M_take_25 : decode b_M_take 25 = .ok (.iload 4, 2) := by decide +kernel
theorem d_M_take_27 : decode b_M_take 27 = .ok (.iadd, 1) := by decide +kernel
theorem d_M_take_28 : decode b_M_take 28 = .ok (.baload, 1) := by decide +kernel
theorem d_M_take_29 : decode b_M_take 29 = .ok (.bastore, 1) := by decide +kernel
theorem d_M_take_30 : decode b_M_take 30 = .ok (.iinc 4 1, 3) := by decide +kernel
theorem d_M_take_33 : decode b_M_take 33 = .ok (.goto (-30), 3) := by decide +kernel
theorem d_M_take_36 : decode b_M_take 36 = .ok (.return_, 1) := by decide +kernel
theorem d_M_divide_0 : decode b_M_divide 0 = .ok (.aload_n 0, 1) := by decide +kernel
theorem d_M_divide_1 : decode b_M_divide 1 = .ok (.iload_n 1, 1) := by decide +kernel
theorem d_M_divide_2 : decode b_M_divide 2 = .ok (.invokestatic 30, 3) := by decide +kernel
theorem d_M_divide_5 : decode b_M_divide 5 = .ok (.ifCond .ne 25, 3) := by decide +kernel
theorem d_M_divide_8 : decode b_M_divide 8 = .ok (.iload_n 2, 1) := by decide +kernel
theorem d_M_divide_9 : decode b_M_divide 9 = .ok (.invokestatic 30, 3) := by decide +kernel
theorem d_M_divide_12 : decode b_M_divide 12 = .ok (.ifCond .ne 18, 3) := by decide +kernel
theorem d_M_divide_15 : decode b_M_divide 15 = .ok (.iload_n 3, 1) := by decide +kernel
theorem d_M_divide_16 : decode b_M_divide 16 = .ok (.invokestatic 30, 3) := by decide +kernel
theorem d_M_divide_19 : decode b_M_divide 19 = .ok (.ifCond .ne 11, 3) := by decide +kernel
theorem d_M_divide_22 : decode b_M_divide 22 = .ok (.iload 4, 2) := by decide +kernel
theorem d_M_divide_24 : decode b_M_divide 24 = .ok (.invokestatic 30, 3) := by decide +kernel
theorem d_M_divide_27 : decode b_M_divide 27 = .ok (.ifCond .eq 7, 3) := by decide +kernel
theorem d_M_divide_30 : decode b_M_divide 30 = .ok (.iconst 1, 1) := by decide +kernel
theorem d_M_divide_31 : decode b_M_divide 31 = .ok (.goto 14, 3) := by decide +kernel
theorem d_M_divide_34 : decode b_M_divide 34 = .ok (.iload_n 3, 1) := by decide +kernel
theorem d_M_divide_35 : decode b_M_divide 35 = .ok (.iload 4, 2) := by decide +kernel
theorem d_M_divide_37 : decode b_M_divide 37 = .ok (.if_icmp .ne 7, 3) := by decide +kernel
theorem d_M_divide_40 : decode b_M_divide 40 = .ok (.iconst 2, 1) := by decide +kernel
theorem d_M_divide_41 : decode b_M_divide 41 = .ok (.goto 4, 3) := by decide +kernel
theorem d_M_divide_44 : decode b_M_divide 44 = .ok (.iconst 0, 1) := by decide +kernel
theorem d_M_divide_45 : decode b_M_divide 45 = .ok (.putfield 26, 3) := by decide +kernel
theorem d_M_divide_48 : decode b_M_divide 48 = .ok (.aload_n 0, 1) := by decide +kernel
theorem d_M_divide_49 : decode b_M_divide 49 = .ok (.getfield 26, 3) := by decide +kernel
theorem d_M_divide_52 : decode b_M_divide 52 = .ok (.ifCond .le 4, 3) := by decide +kernel
theorem d_M_divide_55 : decode b_M_divide 55 = .ok (.return_, 1) := by decide +kernel
theorem d_M_divide_56 : decode b_M_divide 56 = .ok (.iconst 1, 1) := by decide +kernel
theorem d_M_divide_57 : decode b_M_divide 57 = .ok (.istore 5, 2) := by decide +kernel
theorem d_M_divide_59 : decode b_M_divide 59 = .ok (.iconst 0, 1) := by decide +kernel
theorem d_M_divide_60 : decode b_M_divide 60 = .ok (.istore 6, 2) := by decide +kernel
theorem d_M_divide_62 : decode b_M_divide 62 = .ok (.iload 6, 2) := by decide +kernel
theorem d_M_divide_64 : decode b_M_divide 64 = .ok (.sipush 128, 3) := by decide +kernel
theorem d_M_divide_67 : decode b_M_divide 67 = .ok (.if_icmp .ge 37, 3) := by decide +kernel
theorem d_M_divide_70 : decode b_M_divide 70 = .ok (.iload 5, 2) := by decide +kernel
theorem d_M_divide_72 : decode b_M_divide 72 = .ok (.ifCond .eq 23, 3) := by decide +kernel
theorem d_M_divide_75 : decode b_M_divide 75 = .ok (.aload_n 0, 1) := by decide +kernel
theorem d_M_divide_76 : decode b_M_divide 76 = .ok (.getfield 7, 3) := by decide +kernel
theorem d_M_divide_79 : decode b_M_divide 79 = .ok (.sipush 128, 3) := by decide +kernel
theorem d_M_divide_82 : decode b_M_divide 82 = .ok (.iload_n 2, 1) := by decide +kernel
theorem d_M_divide_83 : decode b_M_divide 83 = .ok (.imul, 1) := by decide +kernel
theorem d_M_divide_84 : decode b_M_divide 84 = .ok (.iload 6, 2) := by decide +kernel
theorem d_M_divide_86 : decode b_M_divide 86 = .ok (.iadd, 1) := by decide +kernel
theorem d_M_divide_87 : decode b_M_divide 87 = .ok (.baload, 1) := by decide +kernel
theorem d_M_divide_88 : decode b_M_divide 88 = .ok (.ifCond .ne 7, 3) := by decide +kernel
theorem d_M_divide_91 : decode b_M_divide 91 = .ok (.iconst 1, 1) := by decide +kernel
theorem d_M_divide_92 : decode b_M_divide 92 = .ok (.goto 4, 3) := by decide +kernel
theorem d_M_divide_95 : decode b_M_divide 95 = .ok (.iconst 0, 1) := by decide +kernel
theorem d_M_divide_96 : decode b_M_divide 96 = .ok (.istore 5, 2) := by decide +kernel
theorem d_M_divide_98 : decode b_M_divide 98 = .ok (.iinc 6 1, 3) := by decide +kernel
theorem d_M_divide_101 : decode b_M_divide 101 = .ok (.goto (-39), 3) := by decide +kernel
theorem d_M_divide_104 : decode b_M_divide 104 = .ok (.aload_n 0, 1) := by decide +kernel
theorem d_M_divide_105 : decode b_M_divide 105 = .ok (.iload 5, 2) := by decide +kernel
theorem d_M_divide_107 : decode b_M_divide 107 = .ok (.ifCond .eq 7, 3) := by decide +kernel
theorem d_M_divide_110 : decode b_M_divide 110 = .ok (.iconst 3, 1) := by decide +kernel
theorem d_M_divide_111 : decode b_M_divide 111 = .ok (.goto 4, 3) := by decide +kernel
theorem d_M_divide_114 : decode b_M_divide 114 = .ok (.iconst 0, 1) := by decide +kernel
theorem d_M_divide_115 : decode b_M_divide 115 = .ok (.putfield 26, 3) := by decide +kernel
theorem d_M_divide_118 : decode b_M_divide 118 = .ok (.aload_n 0, 1) := by decide +kernel
theorem d_M_divide_119 : decode b_M_divide 119 = .ok (.getfield 26, 3) := by decide +kernel
theorem d_M_divide_122 : decode b_M_divide 122 = .ok (.ifCond .le 4, 3) := by decide +kernel
theorem d_M_divide_125 : decode b_M_divide 125 = .ok (.return_, 1) := by decide +kernel
theorem d_M_divide_126 : decode b_M_divide 126 = .ok (.aload_n 0, 1) := by decide +kernel
theorem d_M_divide_127 : decode b_M_divide 127 = .ok (.invokevirtual 55, 3) := by decide +kernel
theorem d_M_divide_130 : decode b_M_divide 130 = .ok (.bipush 127, 2) := by decide +kernel
theorem d_M_divide_132 : decode b_M_divide 132 = .ok (.istore 6, 2) := by decide +kernel
theorem d_M_divide_134 : decode b_M_divide 134 = .ok (.iload 6, 2) := by decide +kernel
theorem d_M_divide_136 : decode b_M_divide 136 = .ok (.ifCond .lt 38, 3) := by decide +kernel
theorem d_M_divide_139 : decode b_M_divide 139 = .ok (.aload_n 0, 1) := by decide +kernel
theorem d_M_divide_140 : decode b_M_divide 140 = .ok (.aload_n 0, 1) := by decide +kernel
theorem d_M_divide_141 : decode b_M_divide 141 = .ok (.getfield 7, 3) := by decide +kernel
theorem d_M_divide_144 : decode b_M_divide 144 = .ok (.sipush 128, 3) := by decide +kernel
theorem d_M_divide_147 : decode b_M_divide 147 = .ok (.iload_n 1, 1) := by decide +kernel
theorem d_M_divide_148 : decode b_M_divide 148 = .ok (.imul, 1) := by decide +kernel
theorem d_M_divide_149 : decode b_M_divide 149 = .ok (.iload 6, 2) := by decide +kernel
theorem d_M_divide_151 : decode b_M_divide 151 = .ok (.iadd, 1) := by decide +kernel
theorem d_M_divide_152 : decode b_M_divide 152 = .ok (.baload, 1) := by decide +kernel
theorem d_M_divide_153 : decode b_M_divide 153 = .ok (.invokevirtual 58, 3) := by decide +kernel
theorem d_M_divide_156 : decode b_M_divide 156 = .ok (.aload_n 0, 1) := by decide +kernel
theorem d_M_divide_157 : decode b_M_divide 157 = .ok (.getfield 16, 3) := by decide +kernel
theorem d_M_divide_160 : decode b_M_divide 160 = .ok (.iload 6, 2) := by decide +kernel
theorem d_M_divide_162 : decode b_M_divide 162 = .ok (.aload_n 0, 1) := by decide +kernel
theorem d_M_divide_163 : decode b_M_divide 163 = .ok (.iload_n 2, 1) := by decide +kernel
theorem d_M_divide_164 : decode b_M_divide 164 = .ok (.invokevirtual 62, 3) := by decide +kernel
theorem d_M_divide_167 : decode b_M_divide 167 = .ok (.bastore, 1) := by decide +kernel
theorem d_M_divide_168 : decode b_M_divide 168 = .ok (.iinc 6 (-1), 3) := by decide +kernel
theorem d_M_divide_171 : decode b_M_divide 171 = .ok (.goto (-37), 3) := by decide +kernel
theorem d_M_divide_174 : decode b_M_divide 174 = .ok (.aload_n 0, 1) := by decide +kernel
theorem d_M_divide_175 : decode b_M_divide 175 = .ok (.aload_n 0, 1) := by decide +kernel
theorem d_M_divide_176 : decode b_M_divide 176 = .ok (.getfield 16, 3) := by decide +kernel
theorem d_M_divide_179 : decode b_M_divide 179 = .ok (.iconst 0, 1) := by decide +kernel
theorem d_M_divide_180 : decode b_M_divide 180 = .ok (.iload_n 3, 1) := by decide +kernel
theorem d_M_divide_181 : decode b_M_divide 181 = .ok (.invokevirtual 47, 3) := by decide +kernel
theorem d_M_divide_184 : decode b_M_divide 184 = .ok (.aload_n 0, 1) := by decide +kernel
theorem d_M_divide_185 : decode b_M_divide 185 = .ok (.aload_n 0, 1) := by decide +kernel
theorem d_M_divide_186 : decode b_M_divide 186 = .ok (.getfield 19, 3) := by decide +kernel
theorem d_M_divide_189 : decode b_M_divide 189 = .ok (.iconst 0, 1) := by decide +kernel
theorem d_M_divide_190 : decode b_M_divide 190 = .ok (.iload 4, 2) := by decide +kernel
theorem d_M_divide_192 : decode b_M_divide 192 = .ok (.invokevirtual 47, 3) := by decide +kernel
theorem d_M_divide_195 : decode b_M_divide 195 = .ok (.return_, 1) := by decide +kernel
theorem d_M_clearRest_0 : decode b_M_clearRest 0 = .ok (.iconst 0, 1) := by decide +kernel
theorem d_M_clearRest_1 : decode b_M_clearRest 1 = .ok (.istore_n 1, 1) := by decide +kernel
theorem d_M_clearRest_2 : decode b_M_clearRest 2 = .ok (.iload_n 1, 1) := by decide +kernel
theorem d_M_clearRest_3 : decode b_M_clearRest 3 = .ok (.sipush 130, 3) := by decide +kernel
theorem d_M_clearRest_6 : decode b_M_clearRest 6 = .ok (.if_icmp .ge 16, 3) := by decide +kernel
theorem d_M_clearRest_9 : decode b_M_clearRest 9 = .ok (.aload_n 0, 1) := by decide +kernel
theorem d_M_clearRest_10 : decode b_M_clearRest 10 = .ok (.getfield 19, 3) := by decide +kernel
theorem d_M_clearRest_13 : decode b_M_clearRest 13 = .ok (.iload_n 1, 1) := by decide +kernel
theorem d_M_clearRest_14 : decode b_M_clearRest 14 = .ok (.iconst 0, 1) := by decide +kernel
theorem d_M_clearRest_15 : decode b_M_clearRest 15 = .ok (.bastore, 1) := by decide +kernel
theorem d_M_clearRest_16 : decode b_M_clearRest 16 = .ok (.iinc 1 1, 3) := by decide +kernel
theorem d_M_clearRest_19 : decode b_M_clearRest 19 = .ok (.goto (-17), 3) := by decide +kernel
theorem d_M_clearRest_22 : decode b_M_clearRest 22 = .ok (.iconst 0, 1) := by decide +kernel
theorem d_M_clearRest_23 : decode b_M_clearRest 23 = .ok (.istore_n 1, 1) := by decide +kernel
theorem d_M_clearRest_24 : decode b_M_clearRest 24 = .ok (.iload_n 1, 1) := by decide +kernel
theorem d_M_clearRest_25 : decode b_M_clearRest 25 = .ok (.sipush 128, 3) := by decide +kernel
theorem d_M_clearRest_28 : decode b_M_clearRest 28 = .ok (.if_icmp .ge 16, 3) := by decide +kernel
theorem d_M_clearRest_31 : decode b_M_clearRest 31 = .ok (.aload_n 0, 1) := by decide +kernel
theorem d_M_clearRest_32 : decode b_M_clearRest 32 = .ok (.getfield 16, 3) := by decide +kernel
theorem d_M_clearRest_35 : decode b_M_clearRest 35 = .ok (.iload_n 1, 1) := by decide +kernel
theorem d_M_clearRest_36 : decode b_M_clearRest 36 = .ok (.iconst 0, 1) := by decide +kernel
theorem d_M_clearRest_37 : decode b_M_clearRest 37 = .ok (.bastore, 1) := by decide +kernel
theorem d_M_clearRest_38 : decode b_M_clearRest 38 = .ok (.iinc 1 1, 3) := by decide +kernel
theorem d_M_clearRest_41 : decode b_M_clearRest 41 = .ok (.goto (-17), 3) := by decide +kernel
theorem d_M_clearRest_44 : decode b_M_clearRest 44 = .ok (.return_, 1) := by decide +kernel
theorem d_M_bring_0 : decode b_M_bring 0 = .ok (.sipush 129, 3) := by decide +kernel
theorem d_M_bring_3 : decode b_M_bring 3 = .ok (.istore_n 2, 1) := by decide +kernel
theorem d_M_bring_4 : decode b_M_bring 4 = .ok (.iload_n 2, 1) := by decide +kernel
theorem d_M_bring_5 : decode b_M_bring 5 = .ok (.ifCond .le 23, 3) := by decide +kernel
theorem d_M_bring_8 : decode b_M_bring 8 = .ok (.aload_n 0, 1) := by decide +kernel
theorem d_M_bring_9 : decode b_M_bring 9 = .ok (.getfield 19, 3) := by decide +kernel
theorem d_M_bring_12 : decode b_M_bring 12 = .ok (.iload_n 2, 1) := by decide +kernel
theorem d_M_bring_13 : decode b_M_bring 13 = .ok (.aload_n 0, 1) := by decide +kernel
theorem d_M_bring_14 : decode b_M_bring 14 = .ok (.getfield 19, 3) := by decide +kernel
theorem d_M_bring_17 : decode b_M_bring 17 = .ok (.iload_n 2, 1) := by decide +kernel
theorem d_M_bring_18 : decode b_M_bring 18 = .ok (.iconst 1, 1) := by decide +kernel
theorem d_M_bring_19 : decode b_M_bring 19 = .ok (.isub, 1) := by decide +kernel
theorem d_M_bring_20 : decode b_M_bring 20 = .ok (.baload, 1) := by decide +kernel
theorem d_M_bring_21 : decode b_M_bring 21 = .ok (.bastore, 1) := by decide +kernel
theorem d_M_bring_22 : decode b_M_bring 22 = .ok (.iinc 2 (-1), 3) := by decide +kernel
theorem d_M_bring_25 : decode b_M_bring 25 = .ok (.goto (-21), 3) := by decide +kernel
theorem d_M_bring_28 : decode b_M_bring 28 = .ok (.aload_n 0, 1) := by decide +kernel
theorem d_M_bring_29 : decode b_M_bring 29 = .ok (.getfield 19, 3) := by decide +kernel
theorem d_M_bring_32 : decode b_M_bring 32 = .ok (.iconst 0, 1) := by decide +kernel
theorem d_M_bring_33 : decode b_M_bring 33 = .ok (.iload_n 1, 1) := by decide +kernel
theorem d_M_bring_34 : decode b_M_bring 34 = .ok (.bastore, 1) := by decide +kernel
theorem d_M_bring_35 : decode b_M_bring 35 = .ok (.return_, 1) := by decide +kernel
theorem d_M_takeAway_0 : decode b_M_takeAway 0 = .ok (.iconst 1, 1) := by decide +kernel
theorem d_M_takeAway_1 : decode b_M_takeAway 1 = .ok (.istore_n 2, 1) := by decide +kernel
theorem d_M_takeAway_2 : decode b_M_takeAway 2 = .ok (.iconst 0, 1) := by decide +kernel
theorem d_M_takeAway_3 : decode b_M_takeAway 3 = .ok (.istore_n 3, 1) := by decide +kernel
theorem d_M_takeAway_4 : decode b_M_takeAway 4 = .ok (.iload_n 3, 1) := by decide +kernel
theorem d_M_takeAway_5 : decode b_M_takeAway 5 = .ok (.sipush 130, 3) := by decide +kernel
theorem d_M_takeAway_8 : decode b_M_takeAway 8 = .ok (.if_icmp .ge 35, 3) := by decide +kernel
theorem d_M_takeAway_11 : decode b_M_takeAway 11 = .ok (.aload_n 0, 1) := by decide +kernel
theorem d_M_takeAway_12 : decode b_M_takeAway 12 = .ok (.getfield 19, 3) := by decide +kernel
theorem d_M_takeAway_15 : decode b_M_takeAway 15 = .ok (.iload_n 3, 1) := by decide +kernel
theorem d_M_takeAway_16 : decode b_M_takeAway 16 = .ok (.baload, 1) := by decide +kernel
theorem d_M_takeAway_17 : decode b_M_takeAway 17 = .ok (.aload_n 0, 1) := by decide +kernel
theorem d_M_takeAway_18 : decode b_M_takeAway 18 = .ok (.iload_n 1, 1) := by decide +kernel
theorem d_M_takeAway_19 : decode b_M_takeAway 19 = .ok (.iload_n 3, 1) := by decide +kernel
theorem d_M_takeAway_20 : decode b_M_takeAway 20 = .ok (.invokevirtual 51, 3) := by decide +kernel
theorem d_M_takeAway_23 : decode b_M_takeAway 23 = .ok (.if_icmp .ne 7, 3) := by decide +kernel
theorem d_M_takeAway_26 : decode b_M_takeAway 26 = .ok (.iload_n 2, 1) := by decide +kernel
theorem d_M_takeAway_27 : decode b_M_takeAway 27 = .ok (.goto 9, 3) := by decide +kernel
theorem d_M_takeAway_30 : decode b_M_takeAway 30 = .ok (.aload_n 0, 1) := by decide +kernel
theorem d_M_takeAway_31 : decode b_M_takeAway 31 = .ok (.getfield 19, 3) := by decide +kernel
theorem d_M_takeAway_34 : decode b_M_takeAway 34 = .ok (.iload_n 3, 1) := by decide +kernel
theorem d_M_takeAway_35 : decode b_M_takeAway 35 = .ok (.baload, 1) := by decide +kernel
theorem d_M_takeAway_36 : decode b_M_takeAway 36 = .ok (.istore_n 2, 1) := by decide +kernel
theorem d_M_takeAway_37 : decode b_M_takeAway 37 = .ok (.iinc 3 1, 3) := by decide +kernel
theorem d_M_takeAway_40 : decode b_M_takeAway 40 = .ok (.goto (-36), 3) := by decide +kernel
theorem d_M_takeAway_43 : decode b_M_takeAway 43 = .ok (.iload_n 2, 1) := by decide +kernel
theorem d_M_takeAway_44 : decode b_M_takeAway 44 = .ok (.ifCond .ne 5, 3) := by decide +kernel
theorem d_M_takeAway_47 : decode b_M_takeAway 47 = .ok (.iconst 0, 1) := by decide +kernel
theorem d_M_takeAway_48 : decode b_M_takeAway 48 = .ok (.ireturn, 1) := by decide +kernel
theorem d_M_takeAway_49 : decode b_M_takeAway 49 = .ok (.iconst 0, 1) := by decide +kernel
theorem d_M_takeAway_50 : decode b_M_takeAway 50 = .ok (.istore_n 3, 1) := by decide +kernel
theorem d_M_takeAway_51 : decode b_M_takeAway 51 = .ok (.iconst 0, 1) := by decide +kernel
theorem d_M_takeAway_52 : decode b_M_takeAway 52 = .ok (.istore 4, 2) := by decide +kernel
theorem d_M_takeAway_54 : decode b_M_takeAway 54 = .ok (.iload 4, 2) := by decide +kernel
theorem d_M_takeAway_56 : decode b_M_takeAway 56 = .ok (.sipush 130, 3) := by decide +kernel
theorem d_M_takeAway_59 : decode b_M_takeAway 59 = .ok (.if_icmp .ge 84, 3) := by decide +kernel
theorem d_M_takeAway_62 : decode b_M_takeAway 62 = .ok (.aload_n 0, 1) := by decide +kernel
theorem d_M_takeAway_63 : decode b_M_takeAway 63 = .ok (.getfield 19, 3) := by decide +kernel
theorem d_M_takeAway_66 : decode b_M_takeAway 66 = .ok (.iload 4, 2) := by decide +kernel
theorem d_M_takeAway_68 : decode b_M_takeAway 68 = .ok (.baload, 1) := by decide +kernel
theorem d_M_takeAway_69 : decode b_M_takeAway 69 = .ok (.istore 5, 2) := by decide +kernel
theorem d_M_takeAway_71 : decode b_M_takeAway 71 = .ok (.aload_n 0, 1) := by decide +kernel
theorem d_M_takeAway_72 : decode b_M_takeAway 72 = .ok (.iload_n 1, 1) := by decide +kernel
theorem d_M_takeAway_73 : decode b_M_takeAway 73 = .ok (.iload 4, 2) := by decide +kernel
theorem d_M_takeAway_75 : decode b_M_takeAway 75 = .ok (.invokevirtual 51, 3) := by decide +kernel
theorem d_M_takeAway_78 : decode b_M_takeAway 78 = .ok (.istore 6, 2) := by decide +kernel
theorem d_M_takeAway_80 : decode b_M_takeAway 80 = .ok (.aload_n 0, 1) := by decide +kernel
theorem d_M_takeAway_81 : decode b_M_takeAway 81 = .ok (.getfield 19, 3) := by decide +kernel
theorem d_M_takeAway_84 : decode b_M_takeAway 84 = .ok (.iload 4, 2) := by decide +kernel
theorem d_M_takeAway_86 : decode b_M_takeAway 86 = .ok (.iload 5, 2) := by decide +kernel
theorem d_M_takeAway_88 : decode b_M_takeAway 88 = .ok (.iload 6, 2) := by decide +kernel
theorem d_M_takeAway_90 : decode b_M_takeAway 90 = .ok (.if_icmp .eq 7, 3) := by decide +kernel
theorem d_M_takeAway_93 : decode b_M_takeAway 93 = .ok (.iconst 1, 1) := by decide +kernel
theorem d_M_takeAway_94 : decode b_M_takeAway 94 = .ok (.goto 4, 3) := by decide +kernel
theorem d_M_takeAway_97 : decode b_M_takeAway 97 = .ok (.iconst 0, 1) := by decide +kernel
theorem d_M_takeAway_98 : decode b_M_takeAway 98 = .ok (.iload_n 3, 1) := by decide +kernel
theorem d_M_takeAway_99 : decode b_M_takeAway 99 = .ok (.if_icmp .eq 7, 3) := by decide +kernel
theorem d_M_takeAway_102 : decode b_M_takeAway 102 = .ok (.iconst 1, 1) := by decide +kernel
theorem d_M_takeAway_103 : decode b_M_takeAway 103 = .ok (.goto 4, 3) := by decide +kernel
theorem d_M_takeAway_106 : decode b_M_takeAway 106 = .ok (.iconst 0, 1) := by decide +kernel
theorem d_M_takeAway_107 : decode b_M_takeAway 107 = .ok (.bastore, 1) := by decide +kernel
theorem d_M_takeAway_108 : decode b_M_takeAway 108 = .ok (.iload 5, 2) := by decide +kernel
theorem d_M_takeAway_110 : decode b_M_takeAway 110 = .ok (.ifCond .ne 12, 3) := by decide +kernel
theorem d_M_takeAway_113 : decode b_M_takeAway 113 = .ok (.iload 6, 2) := by decide +kernel
theorem d_M_takeAway_115 : decode b_M_takeAway 115 = .ok (.ifCond .ne 16, 3) := by decide +kernel
theorem d_M_takeAway_118 : decode b_M_takeAway 118 = .ok (.iload_n 3, 1) := by decide +kernel
theorem d_M_takeAway_119 : decode b_M_takeAway 119 = .ok (.ifCond .ne 12, 3) := by decide +kernel
theorem d_M_takeAway_122 : decode b_M_takeAway 122 = .ok (.iload 6, 2) := by decide +kernel
theorem d_M_takeAway_124 : decode b_M_takeAway 124 = .ok (.ifCond .eq 11, 3) := by decide +kernel
theorem d_M_takeAway_127 : decode b_M_takeAway 127 = .ok (.iload_n 3, 1) := by decide +kernel
theorem d_M_takeAway_128 : decode b_M_takeAway 128 = .ok (.ifCond .eq 7, 3) := by decide +kernel
theorem d_M_takeAway_131 : decode b_M_takeAway 131 = .ok (.iconst 1, 1) := by decide +kernel
theorem d_M_takeAway_132 : decode b_M_takeAway 132 = .ok (.goto 4, 3) := by decide +kernel
theorem d_M_takeAway_135 : decode b_M_takeAway 135 = .ok (.iconst 0, 1) := by decide +kernel
theorem d_M_takeAway_136 : decode b_M_takeAway 136 = .ok (.istore_n 3, 1) := by decide +kernel
theorem d_M_takeAway_137 : decode b_M_takeAway 137 = .ok (.iinc 4 1, 3) := by decide +kernel
theorem d_M_takeAway_140 : decode b_M_takeAway 140 = .ok (.goto (-86), 3) := by decide +kernel
theorem d_M_takeAway_143 : decode b_M_takeAway 143 = .ok (.iconst 1, 1) := by decide +kernel
theorem d_M_takeAway_144 : decode b_M_takeAway 144 = .ok (.ireturn, 1) := by decide +kernel
theorem d_M_lower_0 : decode b_M_lower 0 = .ok (.iload_n 1, 1) := by decide +kernel
theorem d_M_lower_1 : decode b_M_lower 1 = .ok (.ifCond .lt 31, 3) := by decide +kernel
theorem d_M_lower_4 : decode b_M_lower 4 = .ok (.iload_n 2, 1) := by decide +kernel
theorem d_M_lower_5 : decode b_M_lower 5 = .ok (.sipush 128, 3) := by decide +kernel
theorem d_M_lower_8 : decode b_M_lower 8 = .ok (.if_icmp .ge 22, 3) := by decide +kernel
theorem d_M_lower_11 : decode b_M_lower 11 = .ok (.aload_n 0, 1) := by decide +kernel
theorem d_M_lower_12 : decode b_M_lower 12 = .ok (.getfield 7, 3) := by decide +kernel
theorem d_M_lower_15 : decode b_M_lower 15 = .ok (.sipush 128, 3) := by decide +kernel
theorem d_M_lower_18 : decode b_M_lower 18 = .ok (.iload_n 1, 1) := by decide +kernel
theorem d_M_lower_19 : decode b_M_lower 19 = .ok (.imul, 1) := by decide +kernel
theorem d_M_lower_20 : decode b_M_lower 20 = .ok (.iload_n 2, 1) := by decide +kernel
theorem d_M_lower_21 : decode b_M_lower 21 = .ok (.iadd, 1) := by decide +kernel
theorem d_M_lower_22 : decode b_M_lower 22 = .ok (.baload, 1) := by decide +kernel
theorem d_M_lower_23 : decode b_M_lower 23 = .ok (.ifCond .eq 7, 3) := by decide +kernel
theorem d_M_lower_26 : decode b_M_lower 26 = .ok (.iconst 1, 1) := by decide +kernel
theorem d_M_lower_27 : decode b_M_lower 27 = .ok (.goto 4, 3) := by decide +kernel
theorem d_M_lower_30 : decode b_M_lower 30 = .ok (.iconst 0, 1) := by decide +kernel
theorem d_M_lower_31 : decode b_M_lower 31 = .ok (.ireturn, 1) := by decide +kernel
theorem d_M_lower_32 : decode b_M_lower 32 = .ok (.iload_n 2, 1) := by decide +kernel
theorem d_M_lower_33 : decode b_M_lower 33 = .ok (.ifCond .eq 19, 3) := by decide +kernel
theorem d_M_lower_36 : decode b_M_lower 36 = .ok (.iload_n 2, 1) := by decide +kernel
theorem d_M_lower_37 : decode b_M_lower 37 = .ok (.iconst 1, 1) := by decide +kernel
theorem d_M_lower_38 : decode b_M_lower 38 = .ok (.if_icmp .le 18, 3) := by decide +kernel
theorem d_M_lower_41 : decode b_M_lower 41 = .ok (.aload_n 0, 1) := by decide +kernel
theorem d_M_lower_42 : decode b_M_lower 42 = .ok (.getfield 16, 3) := by decide +kernel
theorem d_M_lower_45 : decode b_M_lower 45 = .ok (.iload_n 2, 1) := by decide +kernel
theorem d_M_lower_46 : decode b_M_lower 46 = .ok (.iconst 2, 1) := by decide +kernel
theorem d_M_lower_47 : decode b_M_lower 47 = .ok (.isub, 1) := by decide +kernel
theorem d_M_lower_48 : decode b_M_lower 48 = .ok (.baload, 1) := by decide +kernel
theorem d_M_lower_49 : decode b_M_lower 49 = .ok (.ifCond .eq 7, 3) := by decide +kernel
theorem d_M_lower_52 : decode b_M_lower 52 = .ok (.iconst 1, 1) := by decide +kernel
theorem d_M_lower_53 : decode b_M_lower 53 = .ok (.goto 4, 3) := by decide +kernel
theorem d_M_lower_56 : decode b_M_lower 56 = .ok (.iconst 0, 1) := by decide +kernel
theorem d_M_lower_57 : decode b_M_lower 57 = .ok (.ireturn, 1) := by decide +kernel
theorem d_M_root_0 : decode b_M_root 0 = .ok (.aload_n 0, 1) := by decide +kernel
theorem d_M_root_1 : decode b_M_root 1 = .ok (.iload_n 1, 1) := by decide +kernel
theorem d_M_root_2 : decode b_M_root 2 = .ok (.invokestatic 30, 3) := by decide +kernel
theorem d_M_root_5 : decode b_M_root 5 = .ok (.ifCond .ne 17, 3) := by decide +kernel
theorem d_M_root_8 : decode b_M_root 8 = .ok (.iload_n 2, 1) := by decide +kernel
theorem d_M_root_9 : decode b_M_root 9 = .ok (.invokestatic 30, 3) := by decide +kernel
theorem d_M_root_12 : decode b_M_root 12 = .ok (.ifCond .ne 10, 3) := by decide +kernel
theorem d_M_root_15 : decode b_M_root 15 = .ok (.iload_n 3, 1) := by decide +kernel
theorem d_M_root_16 : decode b_M_root 16 = .ok (.invokestatic 30, 3) := by decide +kernel
theorem d_M_root_19 : decode b_M_root 19 = .ok (.ifCond .eq 7, 3) := by decide +kernel
theorem d_M_root_22 : decode b_M_root 22 = .ok (.iconst 1, 1) := by decide +kernel
theorem d_M_root_23 : decode b_M_root 23 = .ok (.goto 13, 3) := by decide +kernel
theorem d_M_root_26 : decode b_M_root 26 = .ok (.iload_n 2, 1) := by decide +kernel
theorem d_M_root_27 : decode b_M_root 27 = .ok (.iload_n 3, 1) := by decide +kernel
theorem d_M_root_28 : decode b_M_root 28 = .ok (.if_icmp .ne 7, 3) := by decide +kernel
theorem d_M_root_31 : decode b_M_root 31 = .ok (.iconst 2, 1) := by decide +kernel
theorem d_M_root_32 : decode b_M_root 32 = .ok (.goto 4, 3) := by decide +kernel
theorem d_M_root_35 : decode b_M_root 35 = .ok (.iconst 0, 1) := by decide +kernel
theorem d_M_root_36 : decode b_M_root 36 = .ok (.putfield 26, 3) := by decide +kernel
theorem d_M_root_39 : decode b_M_root 39 = .ok (.aload_n 0, 1) := by decide +kernel
theorem d_M_root_40 : decode b_M_root 40 = .ok (.getfield 26, 3) := by decide +kernel
theorem d_M_root_43 : decode b_M_root 43 = .ok (.ifCond .le 4, 3) := by decide +kernel
theorem d_M_root_46 : decode b_M_root 46 = .ok (.return_, 1) := by decide +kernel
theorem d_M_root_47 : decode b_M_root 47 = .ok (.aload_n 0, 1) := by decide +kernel
theorem d_M_root_48 : decode b_M_root 48 = .ok (.invokevirtual 55, 3) := by decide +kernel
theorem d_M_root_51 : decode b_M_root 51 = .ok (.bipush 63, 2) := by decide +kernel
theorem d_M_root_53 : decode b_M_root 53 = .ok (.istore 4, 2) := by decide +kernel
theorem d_M_root_55 : decode b_M_root 55 = .ok (.iload 4, 2) := by decide +kernel
theorem d_M_root_57 : decode b_M_root 57 = .ok (.ifCond .lt 95, 3) := by decide +kernel
theorem d_M_root_60 : decode b_M_root 60 = .ok (.aload_n 0, 1) := by decide +kernel
theorem d_M_root_61 : decode b_M_root 61 = .ok (.aload_n 0, 1) := by decide +kernel
theorem d_M_root_62 : decode b_M_root 62 = .ok (.getfield 7, 3) := by decide +kernel
theorem d_M_root_65 : decode b_M_root 65 = .ok (.sipush 128, 3) := by decide +kernel
theorem d_M_root_68 : decode b_M_root 68 = .ok (.iload_n 1, 1) := by decide +kernel
theorem d_M_root_69 : decode b_M_root 69 = .ok (.imul, 1) := by decide +kernel
theorem d_M_root_70 : decode b_M_root 70 = .ok (.iconst 2, 1) := by decide +kernel
theorem d_M_root_71 : decode b_M_root 71 = .ok (.iload 4, 2) := by decide +kernel
theorem d_M_root_73 : decode b_M_root 73 = .ok (.imul, 1) := by decide +kernel
theorem d_M_root_74 : decode b_M_root 74 = .ok (.iadd, 1) := by decide +kernel
theorem d_M_root_75 : decode b_M_root 75 = .ok (.iconst 1, 1) := by decide +kernel
theorem d_M_root_76 : decode b_M_root 76 = .ok (.iadd, 1) := by decide +kernel
theorem d_M_root_77 : decode b_M_root 77 = .ok (.baload, 1) := by decide +kernel
theorem d_M_root_78 : decode b_M_root 78 = .ok (.invokevirtual 58, 3) := by decide +kernel
theorem d_M_root_81 : decode b_M_root 81 = .ok (.aload_n 0, 1) := by decide +kernel
theorem d_M_root_82 : decode b_M_root 82 = .ok (.aload_n 0, 1) := by decide +kernel
theorem d_M_root_83 : decode b_M_root 83 = .ok (.getfield 7, 3) := by decide +kernel
theorem d_M_root_86 : decode b_M_root 86 = .ok (.sipush 128, 3) := by decide +kernel
theorem d_M_root_89 : decode b_M_root 89 = .ok (.iload_n 1, 1) := by decide +kernel
theorem d_M_root_90 : decode b_M_root 90 = .ok (.imul, 1) := by decide +kernel
theorem d_M_root_91 : decode b_M_root 91 = .ok (.iconst 2, 1) := by decide +kernel
theorem d_M_root_92 : decode b_M_root 92 = .ok (.iload 4, 2) := by decide +kernel
theorem d_M_root_94 : decode b_M_root 94 = .ok (.imul, 1) := by decide +kernel
theorem d_M_root_95 : decode b_M_root 95 = .ok (.iadd, 1) := by decide +kernel
theorem d_M_root_96 : decode b_M_root 96 = .ok (.baload, 1) := by decide +kernel
theorem d_M_root_97 : decode b_M_root 97 = .ok (.invokevirtual 58, 3) := by decide +kernel
theorem d_M_root_100 : decode b_M_root 100 = .ok (.aload_n 0, 1) := by decide +kernel
theorem d_M_root_101 : decode b_M_root 101 = .ok (.iconst (-1), 1) := by decide +kernel
theorem d_M_root_102 : decode b_M_root 102 = .ok (.invokevirtual 62, 3) := by decide +kernel
theorem d_M_root_105 : decode b_M_root 105 = .ok (.istore 5, 2) := by decide +kernel
theorem d_M_root_107 : decode b_M_root 107 = .ok (.bipush 127, 2) := by decide +kernel
theorem d_M_root_109 : decode b_M_root 109 = .ok (.istore 6, 2) := by decide +kernel
theorem d_M_root_111 : decode b_M_root 111 = .ok (.iload 6, 2) := by decide +kernel
theorem d_M_root_113 : decode b_M_root 113 = .ok (.ifCond .le 25, 3) := by decide +kernel
theorem d_M_root_116 : decode b_M_root 116 = .ok (.aload_n 0, 1) := by decide +kernel
theorem d_M_root_117 : decode b_M_root 117 = .ok (.getfield 16, 3) := by decide +kernel
theorem d_M_root_120 : decode b_M_root 120 = .ok (.iload 6, 2) := by decide +kernel
theorem d_M_root_122 : decode b_M_root 122 = .ok (.aload_n 0, 1) := by decide +kernel
theorem d_M_root_123 : decode b_M_root 123 = .ok (.getfield 16, 3) := by decide +kernel
theorem d_M_root_126 : decode b_M_root 126 = .ok (.iload 6, 2) := by decide +kernel
theorem d_M_root_128 : decode b_M_root 128 = .ok (.iconst 1, 1) := by decide +kernel
theorem d_M_root_129 : decode b_M_root 129 = .ok (.isub, 1) := by decide +kernel
theorem d_M_root_130 : decode b_M_root 130 = .ok (.baload, 1) := by decide +kernel
theorem d_M_root_131 : decode b_M_root 131 = .ok (.bastore, 1) := by decide +kernel
theorem d_M_root_132 : decode b_M_root 132 = .ok (.iinc 6 (-1), 3) := by decide +kernel
theorem d_M_root_135 : decode b_M_root 135 = .ok (.goto (-24), 3) := by decide +kernel
theorem d_M_root_138 : decode b_M_root 138 = .ok (.aload_n 0, 1) := by decide +kernel
theorem d_M_root_139 : decode b_M_root 139 = .ok (.getfield 16, 3) := by decide +kernel
theorem d_M_root_142 : decode b_M_root 142 = .ok (.iconst 0, 1) := by decide +kernel
theorem d_M_root_143 : decode b_M_root 143 = .ok (.iload 5, 2) := by decide +kernel
theorem d_M_root_145 : decode b_M_root 145 = .ok (.bastore, 1) := by decide +kernel
theorem d_M_root_146 : decode b_M_root 146 = .ok (.iinc 4 (-1), 3) := by decide +kernel
theorem d_M_root_149 : decode b_M_root 149 = .ok (.goto (-94), 3) := by decide +kernel
theorem d_M_root_152 : decode b_M_root 152 = .ok (.aload_n 0, 1) := by decide +kernel
theorem d_M_root_153 : decode b_M_root 153 = .ok (.aload_n 0, 1) := by decide +kernel
theorem d_M_root_154 : decode b_M_root 154 = .ok (.getfield 16, 3) := by decide +kernel
theorem d_M_root_157 : decode b_M_root 157 = .ok (.iconst 0, 1) := by decide +kernel
theorem d_M_root_158 : decode b_M_root 158 = .ok (.iload_n 2, 1) := by decide +kernel
theorem d_M_root_159 : decode b_M_root 159 = .ok (.invokevirtual 47, 3) := by decide +kernel
theorem d_M_root_162 : decode b_M_root 162 = .ok (.aload_n 0, 1) := by decide +kernel
theorem d_M_root_163 : decode b_M_root 163 = .ok (.aload_n 0, 1) := by decide +kernel
theorem d_M_root_164 : decode b_M_root 164 = .ok (.getfield 19, 3) := by decide +kernel
theorem d_M_root_167 : decode b_M_root 167 = .ok (.iconst 0, 1) := by decide +kernel
theorem d_M_root_168 : decode b_M_root 168 = .ok (.iload_n 3, 1) := by decide +kernel
theorem d_M_root_169 : decode b_M_root 169 = .ok (.invokevirtual 47, 3) := by decide +kernel
theorem d_M_root_172 : decode b_M_root 172 = .ok (.return_, 1) := by decide +kernel
theorem d_M_shift_0 : decode b_M_shift 0 = .ok (.aload_n 0, 1) := by decide +kernel
theorem d_M_shift_1 : decode b_M_shift 1 = .ok (.iload_n 1, 1) := by decide +kernel
theorem d_M_shift_2 : decode b_M_shift 2 = .ok (.invokestatic 30, 3) := by decide +kernel
theorem d_M_shift_5 : decode b_M_shift 5 = .ok (.ifCond .ne 10, 3) := by decide +kernel
theorem d_M_shift_8 : decode b_M_shift 8 = .ok (.iload_n 3, 1) := by decide +kernel
theorem d_M_shift_9 : decode b_M_shift 9 = .ok (.invokestatic 30, 3) := by decide +kernel
theorem d_M_shift_12 : decode b_M_shift 12 = .ok (.ifCond .eq 7, 3) := by decide +kernel
theorem d_M_shift_15 : decode b_M_shift 15 = .ok (.iconst 1, 1) := by decide +kernel
theorem d_M_shift_16 : decode b_M_shift 16 = .ok (.goto 4, 3) := by decide +kernel
theorem d_M_shift_19 : decode b_M_shift 19 = .ok (.iconst 0, 1) := by decide +kernel
theorem d_M_shift_20 : decode b_M_shift 20 = .ok (.putfield 26, 3) := by decide +kernel
theorem d_M_shift_23 : decode b_M_shift 23 = .ok (.aload_n 0, 1) := by decide +kernel
theorem d_M_shift_24 : decode b_M_shift 24 = .ok (.getfield 26, 3) := by decide +kernel
theorem d_M_shift_27 : decode b_M_shift 27 = .ok (.ifCond .ne 18, 3) := by decide +kernel
theorem d_M_shift_30 : decode b_M_shift 30 = .ok (.aload_n 0, 1) := by decide +kernel
theorem d_M_shift_31 : decode b_M_shift 31 = .ok (.iload_n 1, 1) := by decide +kernel
theorem d_M_shift_32 : decode b_M_shift 32 = .ok (.iload_n 2, 1) := by decide +kernel
theorem d_M_shift_33 : decode b_M_shift 33 = .ok (.i2l, 1) := by decide +kernel
theorem d_M_shift_34 : decode b_M_shift 34 = .ok (.iload_n 3, 1) := by decide +kernel
theorem d_M_shift_35 : decode b_M_shift 35 = .ok (.invokevirtual 67, 3) := by decide +kernel
theorem d_M_shift_38 : decode b_M_shift 38 = .ok (.ifCond .eq 7, 3) := by decide +kernel
theorem d_M_shift_41 : decode b_M_shift 41 = .ok (.iconst 1, 1) := by decide +kernel
theorem d_M_shift_42 : decode b_M_shift 42 = .ok (.goto 4, 3) := by decide +kernel
theorem d_M_shift_45 : decode b_M_shift 45 = .ok (.iconst 0, 1) := by decide +kernel
theorem d_M_shift_46 : decode b_M_shift 46 = .ok (.ireturn, 1) := by decide +kernel
theorem d_M_move_0 : decode b_M_move 0 = .ok (.iconst 0, 1) := by decide +kernel
theorem d_M_move_1 : decode b_M_move 1 = .ok (.istore 5, 2) := by decide +kernel
theorem d_M_move_3 : decode b_M_move 3 = .ok (.iconst 0, 1) := by decide +kernel
theorem d_M_move_4 : decode b_M_move 4 = .ok (.istore 6, 2) := by decide +kernel
theorem d_M_move_6 : decode b_M_move 6 = .ok (.iload 6, 2) := by decide +kernel
theorem d_M_move_8 : decode b_M_move 8 = .ok (.sipush 128, 3) := by decide +kernel
theorem d_M_move_11 : decode b_M_move 11 = .ok (.if_icmp .ge 68, 3) := by decide +kernel
theorem d_M_move_14 : decode b_M_move 14 = .ok (.iload 6, 2) := by decide +kernel
theorem d_M_move_16 : decode b_M_move 16 = .ok (.i2l, 1) := by decide +kernel
theorem d_M_move_17 : decode b_M_move 17 = .ok (.lload_n 2, 1) := by decide +kernel
theorem d_M_move_18 : decode b_M_move 18 = .ok (.ladd, 1) := by decide +kernel
theorem d_M_move_19 : decode b_M_move 19 = .ok (.lstore 7, 2) := by decide +kernel
theorem d_M_move_21 : decode b_M_move 21 = .ok (.aload_n 0, 1) := by decide +kernel
theorem d_M_move_22 : decode b_M_move 22 = .ok (.getfield 16, 3) := by decide +kernel
theorem d_M_move_25 : decode b_M_move 25 = .ok (.iload 6, 2) := by decide +kernel
theorem d_M_move_27 : decode b_M_move 27 = .ok (.iconst 0, 1) := by decide +kernel
theorem d_M_move_28 : decode b_M_move 28 = .ok (.bastore, 1) := by decide +kernel
theorem d_M_move_29 : decode b_M_move 29 = .ok (.iload 5, 2) := by decide +kernel
theorem d_M_move_31 : decode b_M_move 31 = .ok (.ifCond .ne 35, 3) := by decide +kernel
theorem d_M_move_34 : decode b_M_move 34 = .ok (.aload_n 0, 1) := by decide +kernel
theorem d_M_move_35 : decode b_M_move 35 = .ok (.getfield 7, 3) := by decide +kernel
theorem d_M_move_38 : decode b_M_move 38 = .ok (.sipush 128, 3) := by decide +kernel
theorem d_M_move_41 : decode b_M_move 41 = .ok (.iload_n 1, 1) := by decide +kernel
theorem d_M_move_42 : decode b_M_move 42 = .ok (.imul, 1) := by decide +kernel
theorem d_M_move_43 : decode b_M_move 43 = .ok (.iload 6, 2) := by decide +kernel
theorem d_M_move_45 : decode b_M_move 45 = .ok (.iadd, 1) := by decide +kernel
theorem d_M_move_46 : decode b_M_move 46 = .ok (.baload, 1) := by decide +kernel
theorem d_M_move_47 : decode b_M_move 47 = .ok (.ifCond .eq 23, 3) := by decide +kernel
theorem d_M_move_50 : decode b_M_move 50 = .ok (.lload 7, 2) := by decide +kernel
theorem d_M_move_52 : decode b_M_move 52 = .ok (.lconst 0, 1) := by decide +kernel
theorem d_M_move_53 : decode b_M_move 53 = .ok (.lcmp, 1) := by decide +kernel
theorem d_M_move_54 : decode b_M_move 54 = .ok (.ifCond .lt 12, 3) := by decide +kernel
theorem d_M_move_57 : decode b_M_move 57 = .ok (.lload 7, 2) := by decide +kernel
theorem d_M_move_59 : decode b_M_move 59 = .ok (.ldc2_w 65, 3) := by decide +kernel
theorem d_M_move_62 : decode b_M_move 62 = .ok (.lcmp, 1) := by decide +kernel
theorem d_M_move_63 : decode b_M_move 63 = .ok (.ifCond .lt 7, 3) := by decide +kernel
theorem d_M_move_66 : decode b_M_move 66 = .ok (.iconst 1, 1) := by decide +kernel
theorem d_M_move_67 : decode b_M_move 67 = .ok (.goto 4, 3) := by decide +kernel
theorem d_M_move_70 : decode b_M_move 70 = .ok (.iconst 0, 1) := by decide +kernel
theorem d_M_move_71 : decode b_M_move 71 = .ok (.istore 5, 2) := by decide +kernel
theorem d_M_move_73 : decode b_M_move 73 = .ok (.iinc 6 1, 3) := by decide +kernel
theorem d_M_move_76 : decode b_M_move 76 = .ok (.goto (-70), 3) := by decide +kernel
theorem d_M_move_79 : decode b_M_move 79 = .ok (.iconst 0, 1) := by decide +kernel
theorem d_M_move_80 : decode b_M_move 80 = .ok (.istore 6, 2) := by decide +kernel
theorem d_M_move_82 : decode b_M_move 82 = .ok (.iload 6, 2) := by decide +kernel
theorem d_M_move_84 : decode b_M_move 84 = .ok (.sipush 128, 3) := by decide +kernel
theorem d_M_move_87 : decode b_M_move 87 = .ok (.if_icmp .ge 53, 3) := by decide +kernel
theorem d_M_move_90 : decode b_M_move 90 = .ok (.iload 6, 2) := by decide +kernel
theorem d_M_move_92 : decode b_M_move 92 = .ok (.i2l, 1) := by decide +kernel
theorem d_M_move_93 : decode b_M_move 93 = .ok (.lload_n 2, 1) := by decide +kernel
theorem d_M_move_94 : decode b_M_move 94 = .ok (.ladd, 1) := by decide +kernel
theorem d_M_move_95 : decode b_M_move 95 = .ok (.lstore 7, 2) := by decide +kernel
theorem d_M_move_97 : decode b_M_move 97 = .ok (.lload 7, 2) := by decide +kernel
theorem d_M_move_99 : decode b_M_move 99 = .ok (.lconst 0, 1) := by decide +kernel
theorem d_M_move_100 : decode b_M_move 100 = .ok (.lcmp, 1) := by decide +kernel
theorem d_M_move_101 : decode b_M_move 101 = .ok (.ifCond .lt 33, 3) := by decide +kernel
theorem d_M_move_104 : decode b_M_move 104 = .ok (.lload 7, 2) := by decide +kernel
theorem d_M_move_106 : decode b_M_move 106 = .ok (.ldc2_w 65, 3) := by decide +kernel
theorem d_M_move_109 : decode b_M_move 109 = .ok (.lcmp, 1) := by decide +kernel
theorem d_M_move_110 : decode b_M_move 110 = .ok (.ifCond .ge 24, 3) := by decide +kernel
theorem d_M_move_113 : decode b_M_move 113 = .ok (.aload_n 0, 1) := by decide +kernel
theorem d_M_move_114 : decode b_M_move 114 = .ok (.getfield 16, 3) := by decide +kernel
theorem d_M_move_117 : decode b_M_move 117 = .ok (.lload 7, 2) := by decide +kernel
theorem d_M_move_119 : decode b_M_move 119 = .ok (.l2i, 1) := by decide +kernel
theorem d_M_move_120 : decode b_M_move 120 = .ok (.aload_n 0, 1) := by decide +kernel
theorem d_M_move_121 : decode b_M_move 121 = .ok (.getfield 7, 3) := by decide +kernel
theorem d_M_move_124 : decode b_M_move 124 = .ok (.sipush 128, 3) := by decide +kernel
theorem d_M_move_127 : decode b_M_move 127 = .ok (.iload_n 1, 1) := by decide +kernel
theorem d_M_move_128 : decode b_M_move 128 = .ok (.imul, 1) := by decide +kernel
theorem d_M_move_129 : decode b_M_move 129 = .ok (.iload 6, 2) := by decide +kernel
theorem d_M_move_131 : decode b_M_move 131 = .ok (.iadd, 1) := by decide +kernel
theorem d_M_move_132 : decode b_M_move 132 = .ok (.baload, 1) := by decide +kernel
theorem d_M_move_133 : decode b_M_move 133 = .ok (.bastore, 1) := by decide +kernel
theorem d_M_move_134 : decode b_M_move 134 = .ok (.iinc 6 1, 3) := by decide +kernel
theorem d_M_move_137 : decode b_M_move 137 = .ok (.goto (-55), 3) := by decide +kernel
theorem d_M_move_140 : decode b_M_move 140 = .ok (.aload_n 0, 1) := by decide +kernel
theorem d_M_move_141 : decode b_M_move 141 = .ok (.aload_n 0, 1) := by decide +kernel
theorem d_M_move_142 : decode b_M_move 142 = .ok (.getfield 16, 3) := by decide +kernel
theorem d_M_move_145 : decode b_M_move 145 = .ok (.iconst 0, 1) := by decide +kernel
theorem d_M_move_146 : decode b_M_move 146 = .ok (.iload 4, 2) := by decide +kernel
theorem d_M_move_148 : decode b_M_move 148 = .ok (.invokevirtual 47, 3) := by decide +kernel
theorem d_M_move_151 : decode b_M_move 151 = .ok (.iload 5, 2) := by decide +kernel
theorem d_M_move_153 : decode b_M_move 153 = .ok (.ireturn, 1) := by decide +kernel
theorem d_M_jam_0 : decode b_M_jam 0 = .ok (.aload_n 0, 1) := by decide +kernel
theorem d_M_jam_1 : decode b_M_jam 1 = .ok (.iload_n 1, 1) := by decide +kernel
theorem d_M_jam_2 : decode b_M_jam 2 = .ok (.invokestatic 30, 3) := by decide +kernel
theorem d_M_jam_5 : decode b_M_jam 5 = .ok (.ifCond .ne 10, 3) := by decide +kernel
theorem d_M_jam_8 : decode b_M_jam 8 = .ok (.iload_n 3, 1) := by decide +kernel
theorem d_M_jam_9 : decode b_M_jam 9 = .ok (.invokestatic 30, 3) := by decide +kernel
theorem d_M_jam_12 : decode b_M_jam 12 = .ok (.ifCond .eq 7, 3) := by decide +kernel
theorem d_M_jam_15 : decode b_M_jam 15 = .ok (.iconst 1, 1) := by decide +kernel
theorem d_M_jam_16 : decode b_M_jam 16 = .ok (.goto 12, 3) := by decide +kernel
theorem d_M_jam_19 : decode b_M_jam 19 = .ok (.iload_n 2, 1) := by decide +kernel
theorem d_M_jam_20 : decode b_M_jam 20 = .ok (.ifCond .ge 7, 3) := by decide +kernel
theorem d_M_jam_23 : decode b_M_jam 23 = .ok (.iconst 2, 1) := by decide +kernel
theorem d_M_jam_24 : decode b_M_jam 24 = .ok (.goto 4, 3) := by decide +kernel
theorem d_M_jam_27 : decode b_M_jam 27 = .ok (.iconst 0, 1) := by decide +kernel
theorem d_M_jam_28 : decode b_M_jam 28 = .ok (.putfield 26, 3) := by decide +kernel
theorem d_M_jam_31 : decode b_M_jam 31 = .ok (.aload_n 0, 1) := by decide +kernel
theorem d_M_jam_32 : decode b_M_jam 32 = .ok (.getfield 26, 3) := by decide +kernel
theorem d_M_jam_35 : decode b_M_jam 35 = .ok (.ifCond .ne 26, 3) := by decide +kernel
theorem d_M_jam_38 : decode b_M_jam 38 = .ok (.aload_n 0, 1) := by decide +kernel
theorem d_M_jam_39 : decode b_M_jam 39 = .ok (.iload_n 1, 1) := by decide +kernel
theorem d_M_jam_40 : decode b_M_jam 40 = .ok (.iload_n 2, 1) := by decide +kernel
theorem d_M_jam_41 : decode b_M_jam 41 = .ok (.i2l, 1) := by decide +kernel
theorem d_M_jam_42 : decode b_M_jam 42 = .ok (.lneg, 1) := by decide +kernel
theorem d_M_jam_43 : decode b_M_jam 43 = .ok (.iload_n 3, 1) := by decide +kernel
theorem d_M_jam_44 : decode b_M_jam 44 = .ok (.invokevirtual 67, 3) := by decide +kernel
theorem d_M_jam_47 : decode b_M_jam 47 = .ok (.ifCond .eq 14, 3) := by decide +kernel
theorem d_M_jam_50 : decode b_M_jam 50 = .ok (.aload_n 0, 1) := by decide +kernel
theorem d_M_jam_51 : decode b_M_jam 51 = .ok (.getfield 7, 3) := by decide +kernel
theorem d_M_jam_54 : decode b_M_jam 54 = .ok (.sipush 128, 3) := by decide +kernel
theorem d_M_jam_57 : decode b_M_jam 57 = .ok (.iload_n 3, 1) := by decide +kernel
theorem d_M_jam_58 : decode b_M_jam 58 = .ok (.imul, 1) := by decide +kernel
theorem d_M_jam_59 : decode b_M_jam 59 = .ok (.iconst 1, 1) := by decide +kernel
theorem d_M_jam_60 : decode b_M_jam 60 = .ok (.bastore, 1) := by decide +kernel
theorem d_M_jam_61 : decode b_M_jam 61 = .ok (.return_, 1) := by decide +kernel
theorem d_M_zeros_0 : decode b_M_zeros 0 = .ok (.aload_n 0, 1) := by decide +kernel
theorem d_M_zeros_1 : decode b_M_zeros 1 = .ok (.iload_n 1, 1) := by decide +kernel
theorem d_M_zeros_2 : decode b_M_zeros 2 = .ok (.invokestatic 30, 3) := by decide +kernel
theorem d_M_zeros_5 : decode b_M_zeros 5 = .ok (.ifCond .eq 7, 3) := by decide +kernel
theorem d_M_zeros_8 : decode b_M_zeros 8 = .ok (.iconst 1, 1) := by decide +kernel
theorem d_M_zeros_9 : decode b_M_zeros 9 = .ok (.goto 4, 3) := by decide +kernel
theorem d_M_zeros_12 : decode b_M_zeros 12 = .ok (.iconst 0, 1) := by decide +kernel
theorem d_M_zeros_13 : decode b_M_zeros 13 = .ok (.putfield 26, 3) := by decide +kernel
theorem d_M_zeros_16 : decode b_M_zeros 16 = .ok (.iconst 0, 1) := by decide +kernel
theorem d_M_zeros_17 : decode b_M_zeros 17 = .ok (.istore_n 2, 1) := by decide +kernel
theorem d_M_zeros_18 : decode b_M_zeros 18 = .ok (.aload_n 0, 1) := by decide +kernel
theorem d_M_zeros_19 : decode b_M_zeros 19 = .ok (.getfield 26, 3) := by decide +kernel
theorem d_M_zeros_22 : decode b_M_zeros 22 = .ok (.ifCond .ne 34, 3) := by decide +kernel
theorem d_M_zeros_25 : decode b_M_zeros 25 = .ok (.iload_n 2, 1) := by decide +kernel
theorem d_M_zeros_26 : decode b_M_zeros 26 = .ok (.sipush 128, 3) := by decide +kernel
theorem d_M_zeros_29 : decode b_M_zeros 29 = .ok (.if_icmp .ge 27, 3) := by decide +kernel
theorem d_M_zeros_32 : decode b_M_zeros 32 = .ok (.aload_n 0, 1) := by decide +kernel
theorem d_M_zeros_33 : decode b_M_zeros 33 = .ok (.getfield 7, 3) := by decide +kernel
theorem d_M_zeros_36 : decode b_M_zeros 36 = .ok (.sipush 128, 3) := by decide +kernel
theorem d_M_zeros_39 : decode b_M_zeros 39 = .ok (.iload_n 1, 1) := by decide +kernel
theorem d_M_zeros_40 : decode b_M_zeros 40 = .ok (.imul, 1) := by decide +kernel
theorem d_M_zeros_41 : decode b_M_zeros 41 = .ok (.bipush 127, 2) := by decide +kernel
theorem d_M_zeros_43 : decode b_M_zeros 43 = .ok (.iadd, 1) := by decide +kernel
theorem d_M_zeros_44 : decode b_M_zeros 44 = .ok (.iload_n 2, 1) := by decide +kernel
theorem d_M_zeros_45 : decode b_M_zeros 45 = .ok (.isub, 1) := by decide +kernel
theorem d_M_zeros_46 : decode b_M_zeros 46 = .ok (.baload, 1) := by decide +kernel
theorem d_M_zeros_47 : decode b_M_zeros 47 = .ok (.ifCond .ne 9, 3) := by decide +kernel
theorem d_M_zeros_50 : decode b_M_zeros 50 = .ok (.iinc 2 1, 3) := by decide +kernel
theorem d_M_zeros_53 : decode b_M_zeros 53 = .ok (.goto (-35), 3) := by decide +kernel
theorem d_M_zeros_56 : decode b_M_zeros 56 = .ok (.iload_n 2, 1) := by decide +kernel
theorem d_M_zeros_57 : decode b_M_zeros 57 = .ok (.ireturn, 1) := by decide +kernel
theorem d_M_compare_0 : decode b_M_compare 0 = .ok (.aload_n 0, 1) := by decide +kernel
theorem d_M_compare_1 : decode b_M_compare 1 = .ok (.iload_n 1, 1) := by decide +kernel
theorem d_M_compare_2 : decode b_M_compare 2 = .ok (.invokestatic 30, 3) := by decide +kernel
theorem d_M_compare_5 : decode b_M_compare 5 = .ok (.ifCond .ne 10, 3) := by decide +kernel
theorem d_M_compare_8 : decode b_M_compare 8 = .ok (.iload_n 2, 1) := by decide +kernel
theorem d_M_compare_9 : decode b_M_compare 9 = .ok (.invokestatic 30, 3) := by decide +kernel
theorem d_M_compare_12 : decode b_M_compare 12 = .ok (.ifCond .eq 7, 3) := by decide +kernel
theorem d_M_compare_15 : decode b_M_compare 15 = .ok (.iconst 1, 1) := by decide +kernel
theorem d_M_compare_16 : decode b_M_compare 16 = .ok (.goto 4, 3) := by decide +kernel
theorem d_M_compare_19 : decode b_M_compare 19 = .ok (.iconst 0, 1) := by decide +kernel
theorem d_M_compare_20 : decode b_M_compare 20 = .ok (.putfield 26, 3) := by decide +kernel
theorem d_M_compare_23 : decode b_M_compare 23 = .ok (.iconst 0, 1) := by decide +kernel
theorem d_M_compare_24 : decode b_M_compare 24 = .ok (.istore_n 3, 1) := by decide +kernel
theorem d_M_compare_25 : decode b_M_compare 25 = .ok (.iconst 0, 1) := by decide +kernel
theorem d_M_compare_26 : decode b_M_compare 26 = .ok (.istore 4, 2) := by decide +kernel
theorem d_M_compare_28 : decode b_M_compare 28 = .ok (.iload 4, 2) := by decide +kernel
theorem d_M_compare_30 : decode b_M_compare 30 = .ok (.sipush 128, 3) := by decide +kernel
theorem d_M_compare_33 : decode b_M_compare 33 = .ok (.if_icmp .ge 68, 3) := by decide +kernel
theorem d_M_compare_36 : decode b_M_compare 36 = .ok (.aload_n 0, 1) := by decide +kernel
theorem d_M_compare_37 : decode b_M_compare 37 = .ok (.getfield 26, 3) := by decide +kernel
theorem d_M_compare_40 : decode b_M_compare 40 = .ok (.ifCond .ne 61, 3) := by decide +kernel
theorem d_M_compare_43 : decode b_M_compare 43 = .ok (.aload_n 0, 1) := by decide +kernel
theorem d_M_compare_44 : decode b_M_compare 44 = .ok (.getfield 7, 3) := by decide +kernel
theorem d_M_compare_47 : decode b_M_compare 47 = .ok (.sipush 128, 3) := by decide +kernel
theorem d_M_compare_50 : decode b_M_compare 50 = .ok (.iload_n 1, 1) := by decide +kernel
theorem d_M_compare_51 : decode b_M_compare 51 = .ok (.imul, 1) := by decide +kernel
theorem d_M_compare_52 : decode b_M_compare 52 = .ok (.iload 4, 2) := by decide +kernel
theorem d_M_compare_54 : decode b_M_compare 54 = .ok (.iadd, 1) := by decide +kernel
theorem d_M_compare_55 : decode b_M_compare 55 = .ok (.baload, 1) := by decide +kernel
theorem d_M_compare_56 : decode b_M_compare 56 = .ok (.istore 5, 2) := by decide +kernel
theorem d_M_compare_58 : decode b_M_compare 58 = .ok (.aload_n 0, 1) := by decide +kernel
theorem d_M_compare_59 : decode b_M_compare 59 = .ok (.getfield 7, 3) := by decide +kernel
theorem d_M_compare_62 : decode b_M_compare 62 = .ok (.sipush 128, 3) := by decide +kernel
theorem d_M_compare_65 : decode b_M_compare 65 = .ok (.iload_n 2, 1) := by decide +kernel
theorem d_M_compare_66 : decode b_M_compare 66 = .ok (.imul, 1) := by decide +kernel
theorem d_M_compare_67 : decode b_M_compare 67 = .ok (.iload 4, 2) := by decide +kernel
theorem d_M_compare_69 : decode b_M_compare 69 = .ok (.iadd, 1) := by decide +kernel
theorem d_M_compare_70 : decode b_M_compare 70 = .ok (.baload, 1) := by decide +kernel
theorem d_M_compare_71 : decode b_M_compare 71 = .ok (.istore 6, 2) := by decide +kernel
theorem d_M_compare_73 : decode b_M_compare 73 = .ok (.iload 5, 2) := by decide +kernel
theorem d_M_compare_75 : decode b_M_compare 75 = .ok (.iload 6, 2) := by decide +kernel
theorem d_M_compare_77 : decode b_M_compare 77 = .ok (.if_icmp .ne 7, 3) := by decide +kernel
theorem d_M_compare_80 : decode b_M_compare 80 = .ok (.iload_n 3, 1) := by decide +kernel
theorem d_M_compare_81 : decode b_M_compare 81 = .ok (.goto 13, 3) := by decide +kernel
theorem d_M_compare_84 : decode b_M_compare 84 = .ok (.iload 5, 2) := by decide +kernel
theorem d_M_compare_86 : decode b_M_compare 86 = .ok (.ifCond .eq 7, 3) := by decide +kernel
theorem d_M_compare_89 : decode b_M_compare 89 = .ok (.iconst 1, 1) := by decide +kernel
theorem d_M_compare_90 : decode b_M_compare 90 = .ok (.goto 4, 3) := by decide +kernel
theorem d_M_compare_93 : decode b_M_compare 93 = .ok (.iconst (-1), 1) := by decide +kernel
theorem d_M_compare_94 : decode b_M_compare 94 = .ok (.istore_n 3, 1) := by decide +kernel
theorem d_M_compare_95 : decode b_M_compare 95 = .ok (.iinc 4 1, 3) := by decide +kernel
theorem d_M_compare_98 : decode b_M_compare 98 = .ok (.goto (-70), 3) := by decide +kernel
theorem d_M_compare_101 : decode b_M_compare 101 = .ok (.iload_n 3, 1) := by decide +kernel
theorem d_M_compare_102 : decode b_M_compare 102 = .ok (.ireturn, 1) := by decide +kernel
theorem d_M_digits_0 : decode b_M_digits 0 = .ok (.aload_n 0, 1) := by decide +kernel
theorem d_M_digits_1 : decode b_M_digits 1 = .ok (.iload_n 1, 1) := by decide +kernel
theorem d_M_digits_2 : decode b_M_digits 2 = .ok (.invokestatic 30, 3) := by decide +kernel
theorem d_M_digits_5 : decode b_M_digits 5 = .ok (.ifCond .eq 7, 3) := by decide +kernel
theorem d_M_digits_8 : decode b_M_digits 8 = .ok (.iconst 1, 1) := by decide +kernel
theorem d_M_digits_9 : decode b_M_digits 9 = .ok (.goto 4, 3) := by decide +kernel
theorem d_M_digits_12 : decode b_M_digits 12 = .ok (.iconst 0, 1) := by decide +kernel
theorem d_M_digits_13 : decode b_M_digits 13 = .ok (.putfield 26, 3) := by decide +kernel
theorem d_M_digits_16 : decode b_M_digits 16 = .ok (.aload_n 0, 1) := by decide +kernel
theorem d_M_digits_17 : decode b_M_digits 17 = .ok (.getfield 26, 3) := by decide +kernel
theorem d_M_digits_20 : decode b_M_digits 20 = .ok (.ifCond .le 5, 3) := by decide +kernel
theorem d_M_digits_23 : decode b_M_digits 23 = .ok (.iconst 0, 1) := by decide +kernel
theorem d_M_digits_24 : decode b_M_digits 24 = .ok (.ireturn, 1) := by decide +kernel
theorem d_M_digits_25 : decode b_M_digits 25 = .ok (.aload_n 0, 1) := by decide +kernel
theorem d_M_digits_26 : decode b_M_digits 26 = .ok (.iload_n 1, 1) := by decide +kernel
theorem d_M_digits_27 : decode b_M_digits 27 = .ok (.bipush 8, 2) := by decide +kernel
theorem d_M_digits_29 : decode b_M_digits 29 = .ok (.invokevirtual 36, 3) := by decide +kernel
theorem d_M_digits_32 : decode b_M_digits 32 = .ok (.aload_n 0, 1) := by decide +kernel
theorem d_M_digits_33 : decode b_M_digits 33 = .ok (.iconst 0, 1) := by decide +kernel
theorem d_M_digits_34 : decode b_M_digits 34 = .ok (.putfield 71, 3) := by decide +kernel
theorem d_M_digits_37 : decode b_M_digits 37 = .ok (.iconst 1, 1) := by decide +kernel
theorem d_M_digits_38 : decode b_M_digits 38 = .ok (.istore_n 2, 1) := by decide +kernel
theorem d_M_digits_39 : decode b_M_digits 39 = .ok (.iload_n 2, 1) := by decide +kernel
theorem d_M_digits_40 : decode b_M_digits 40 = .ok (.ifCond .eq 152, 3) := by decide +kernel
theorem d_M_digits_43 : decode b_M_digits 43 = .ok (.iconst 0, 1) := by decide +kernel
theorem d_M_digits_44 : decode b_M_digits 44 = .ok (.istore_n 3, 1) := by decide +kernel
theorem d_M_digits_45 : decode b_M_digits 45 = .ok (.iconst 0, 1) := by decide +kernel
theorem d_M_digits_46 : decode b_M_digits 46 = .ok (.istore_n 2, 1) := by decide +kernel
theorem d_M_digits_47 : decode b_M_digits 47 = .ok (.bipush 127, 2) := by decide +kernel
theorem d_M_digits_49 : decode b_M_digits 49 = .ok (.istore 4, 2) := by decide +kernel
theorem d_M_digits_51 : decode b_M_digits 51 = .ok (.iload 4, 2) := by decide +kernel
theorem d_M_digits_53 : decode b_M_digits 53 = .ok (.ifCond .lt 86, 3) := by decide +kernel
theorem d_M_digits_56 : decode b_M_digits 56 = .ok (.iconst 2, 1) := by decide +kernel
theorem d_M_digits_57 : decode b_M_digits 57 = .ok (.iload_n 3, 1) := by decide +kernel
theorem d_M_digits_58 : decode b_M_digits 58 = .ok (.imul, 1) := by decide +kernel
theorem d_M_digits_59 : decode b_M_digits 59 = .ok (.aload_n 0, 1) := by decide +kernel
theorem d_M_digits_60 : decode b_M_digits 60 = .ok (.getfield 7, 3) := by decide +kernel
theorem d_M_digits_63 : decode b_M_digits 63 = .ok (.sipush 1024, 3) := by decide +kernel
theorem d_M_digits_66 : decode b_M_digits 66 = .ok (.iload 4, 2) := by decide +kernel
theorem d_M_digits_68 : decode b_M_digits 68 = .ok (.iadd, 1) := by decide +kernel
theorem d_M_digits_69 : decode b_M_digits 69 = .ok (.baload, 1) := by decide +kernel
theorem d_M_digits_70 : decode b_M_digits 70 = .ok (.ifCond .eq 7, 3) := by decide +kernel
theorem d_M_digits_73 : decode b_M_digits 73 = .ok (.iconst 1, 1) := by decide +kernel
theorem d_M_digits_74 : decode b_M_digits 74 = .ok (.goto 4, 3) := by decide +kernel
theorem d_M_digits_77 : decode b_M_digits 77 = .ok (.iconst 0, 1) := by decide +kernel
theorem d_M_digits_78 : decode b_M_digits 78 = .ok (.iadd, 1) := by decide +kernel
theorem d_M_digits_79 : decode b_M_digits 79 = .ok (.istore_n 3, 1) := by decide +kernel
theorem d_M_digits_80 : decode b_M_digits 80 = .ok (.aload_n 0, 1) := by decide +kernel
theorem d_M_digits_81 : decode b_M_digits 81 = .ok (.getfield 7, 3) := by decide +kernel
theorem d_M_digits_84 : decode b_M_digits 84 = .ok (.sipush 1024, 3) := by decide +kernel
theorem d_M_digits_87 : decode b_M_digits 87 = .ok (.iload 4, 2) := by decide +kernel
theorem d_M_digits_89 : decode b_M_digits 89 = .ok (.iadd, 1) := by decide +kernel
theorem d_M_digits_90 : decode b_M_digits 90 = .ok (.iload_n 3, 1) := by decide +kernel
theorem d_M_digits_91 : decode b_M_digits 91 = .ok (.bipush 10, 2) := by decide +kernel
theorem d_M_digits_93 : decode b_M_digits 93 = .ok (.if_icmp .lt 7, 3) := by decide +kernel
theorem d_M_digits_96 : decode b_M_digits 96 = .ok (.iconst 1, 1) := by decide +kernel
theorem d_M_digits_97 : decode b_M_digits 97 = .ok (.goto 4, 3) := by decide +kernel
theorem d_M_digits_100 : decode b_M_digits 100 = .ok (.iconst 0, 1) := by decide +kernel
theorem d_M_digits_101 : decode b_M_digits 101 = .ok (.bastore, 1) := by decide +kernel
theorem d_M_digits_102 : decode b_M_digits 102 = .ok (.iload_n 2, 1) := by decide +kernel
theorem d_M_digits_103 : decode b_M_digits 103 = .ok (.ifCond .ne 9, 3) := by decide +kernel
theorem d_M_digits_106 : decode b_M_digits 106 = .ok (.iload_n 3, 1) := by decide +kernel
theorem d_M_digits_107 : decode b_M_digits 107 = .ok (.bipush 10, 2) := by decide +kernel
theorem d_M_digits_109 : decode b_M_digits 109 = .ok (.if_icmp .lt 7, 3) := by decide +kernel
theorem d_M_digits_112 : decode b_M_digits 112 = .ok (.iconst 1, 1) := by decide +kernel
theorem d_M_digits_113 : decode b_M_digits 113 = .ok (.goto 4, 3) := by decide +kernel
theorem d_M_digits_116 : decode b_M_digits 116 = .ok (.iconst 0, 1) := by decide +kernel
theorem d_M_digits_117 : decode b_M_digits 117 = .ok (.istore_n 2, 1) := by decide +kernel
theorem d_M_digits_118 : decode b_M_digits 118 = .ok (.iload_n 3, 1) := by decide +kernel
theorem d_M_digits_119 : decode b_M_digits 119 = .ok (.bipush 10, 2) := by decide +kernel
theorem d_M_digits_121 : decode b_M_digits 121 = .ok (.if_icmp .lt 10, 3) := by decide +kernel
theorem d_M_digits_124 : decode b_M_digits 124 = .ok (.iload_n 3, 1) := by decide +kernel
theorem d_M_digits_125 : decode b_M_digits 125 = .ok (.bipush 10, 2) := by decide +kernel
theorem d_M_digits_127 : decode b_M_digits 127 = .ok (.isub, 1) := by decide +kernel
theorem d_M_digits_128 : decode b_M_digits 128 = .ok (.goto 4, 3) := by decide +kernel
theorem d_M_digits_131 : decode b_M_digits 131 = .ok (.iload_n 3, 1) := by decide +kernel
theorem d_M_digits_132 : decode b_M_digits 132 = .ok (.istore_n 3, 1) := by decide +kernel
theorem d_M_digits_133 : decode b_M_digits 133 = .ok (.iinc 4 (-1), 3) := by decide +kernel
theorem d_M_digits_136 : decode b_M_digits 136 = .ok (.goto (-85), 3) := by decide +kernel
theorem d_M_digits_139 : decode b_M_digits 139 = .ok (.aload_n 0, 1) := by decide +kernel
theorem d_M_digits_140 : decode b_M_digits 140 = .ok (.getfield 71, 3) := by decide +kernel
theorem d_M_digits_143 : decode b_M_digits 143 = .ok (.istore 4, 2) := by decide +kernel
theorem d_M_digits_145 : decode b_M_digits 145 = .ok (.iload 4, 2) := by decide +kernel
theorem d_M_digits_147 : decode b_M_digits 147 = .ok (.ifCond .le 25, 3) := by decide +kernel
theorem d_M_digits_150 : decode b_M_digits 150 = .ok (.aload_n 0, 1) := by decide +kernel
theorem d_M_digits_151 : decode b_M_digits 151 = .ok (.getfield 22, 3) := by decide +kernel
theorem d_M_digits_154 : decode b_M_digits 154 = .ok (.iload 4, 2) := by decide +kernel
theorem d_M_digits_156 : decode b_M_digits 156 = .ok (.aload_n 0, 1) := by decide +kernel
theorem d_M_digits_157 : decode b_M_digits 157 = .ok (.getfield 22, 3) := by decide +kernel
theorem d_M_digits_160 : decode b_M_digits 160 = .ok (.iload 4, 2) := by decide +kernel
theorem d_M_digits_162 : decode b_M_digits 162 = .ok (.iconst 1, 1) := by decide +kernel
theorem d_M_digits_163 : decode b_M_digits 163 = .ok (.isub, 1) := by decide +kernel
theorem d_M_digits_164 : decode b_M_digits 164 = .ok (.iaload, 1) := by decide +kernel
theorem d_M_digits_165 : decode b_M_digits 165 = .ok (.iastore, 1) := by decide +kernel
theorem d_M_digits_166 : decode b_M_digits 166 = .ok (.iinc 4 (-1), 3) := by decide +kernel
theorem d_M_digits_169 : decode b_M_digits 169 = .ok (.goto (-24), 3) := by decide +kernel
theorem d_M_digits_172 : decode b_M_digits 172 = .ok (.aload_n 0, 1) := by decide +kernel
theorem d_M_digits_173 : decode b_M_digits 173 = .ok (.getfield 22, 3) := by decide +kernel
theorem d_M_digits_176 : decode b_M_digits 176 = .ok (.iconst 0, 1) := by decide +kernel
theorem d_M_digits_177 : decode b_M_digits 177 = .ok (.iload_n 3, 1) := by decide +kernel
theorem d_M_digits_178 : decode b_M_digits 178 = .ok (.iastore, 1) := by decide +kernel
theorem d_M_digits_179 : decode b_M_digits 179 = .ok (.aload_n 0, 1) := by decide +kernel
theorem d_M_digits_180 : decode b_M_digits 180 = .ok (.dup, 1) := by decide +kernel
theorem d_M_digits_181 : decode b_M_digits 181 = .ok (.getfield 71, 3) := by decide +kernel
theorem d_M_digits_184 : decode b_M_digits 184 = .ok (.iconst 1, 1) := by decide +kernel
theorem d_M_digits_185 : decode b_M_digits 185 = .ok (.iadd, 1) := by decide +kernel
theorem d_M_digits_186 : decode b_M_digits 186 = .ok (.putfield 71, 3) := by decide +kernel
theorem d_M_digits_189 : decode b_M_digits 189 = .ok (.goto (-150), 3) := by decide +kernel
theorem d_M_digits_192 : decode b_M_digits 192 = .ok (.aload_n 0, 1) := by decide +kernel
theorem d_M_digits_193 : decode b_M_digits 193 = .ok (.getfield 71, 3) := by decide +kernel
theorem d_M_digits_196 : decode b_M_digits 196 = .ok (.ireturn, 1) := by decide +kernel
theorem d_M_digit_0 : decode b_M_digit 0 = .ok (.aload_n 0, 1) := by decide +kernel
theorem d_M_digit_1 : decode b_M_digit 1 = .ok (.iconst 0, 1) := by decide +kernel
theorem d_M_digit_2 : decode b_M_digit 2 = .ok (.putfield 26, 3) := by decide +kernel
theorem d_M_digit_5 : decode b_M_digit 5 = .ok (.iload_n 1, 1) := by decide +kernel
theorem d_M_digit_6 : decode b_M_digit 6 = .ok (.ifCond .lt 11, 3) := by decide +kernel
theorem d_M_digit_9 : decode b_M_digit 9 = .ok (.iload_n 1, 1) := by decide +kernel
theorem d_M_digit_10 : decode b_M_digit 10 = .ok (.aload_n 0, 1) := by decide +kernel
theorem d_M_digit_11 : decode b_M_digit 11 = .ok (.getfield 71, 3) := by decide +kernel
theorem d_M_digit_14 : decode b_M_digit 14 = .ok (.if_icmp .lt 7, 3) := by decide +kernel
theorem d_M_digit_17 : decode b_M_digit 17 = .ok (.iconst (-1), 1) := by decide +kernel
theorem d_M_digit_18 : decode b_M_digit 18 = .ok (.goto 9, 3) := by decide +kernel
theorem d_M_digit_21 : decode b_M_digit 21 = .ok (.aload_n 0, 1) := by decide +kernel
theorem d_M_digit_22 : decode b_M_digit 22 = .ok (.getfield 22, 3) := by decide +kernel
theorem d_M_digit_25 : decode b_M_digit 25 = .ok (.iload_n 1, 1) := by decide +kernel
theorem d_M_digit_26 : decode b_M_digit 26 = .ok (.iaload, 1) := by decide +kernel
theorem d_M_digit_27 : decode b_M_digit 27 = .ok (.ireturn, 1) := by decide +kernel
theorem d_M_next_0 : decode b_M_next 0 = .ok (.aload_n 0, 1) := by decide +kernel
theorem d_M_next_1 : decode b_M_next 1 = .ok (.iload_n 1, 1) := by decide +kernel
theorem d_M_next_2 : decode b_M_next 2 = .ok (.invokestatic 30, 3) := by decide +kernel
theorem d_M_next_5 : decode b_M_next 5 = .ok (.ifCond .eq 7, 3) := by decide +kernel
theorem d_M_next_8 : decode b_M_next 8 = .ok (.iconst 1, 1) := by decide +kernel
theorem d_M_next_9 : decode b_M_next 9 = .ok (.goto 18, 3) := by decide +kernel
theorem d_M_next_12 : decode b_M_next 12 = .ok (.iload_n 2, 1) := by decide +kernel
theorem d_M_next_13 : decode b_M_next 13 = .ok (.ifCond .lt 9, 3) := by decide +kernel
theorem d_M_next_16 : decode b_M_next 16 = .ok (.iload_n 2, 1) := by decide +kernel
theorem d_M_next_17 : decode b_M_next 17 = .ok (.bipush 9, 2) := by decide +kernel
theorem d_M_next_19 : decode b_M_next 19 = .ok (.if_icmp .le 7, 3) := by decide +kernel
theorem d_M_next_22 : decode b_M_next 22 = .ok (.iconst 2, 1) := by decide +kernel
theorem d_M_next_23 : decode b_M_next 23 = .ok (.goto 4, 3) := by decide +kernel
theorem d_M_next_26 : decode b_M_next 26 = .ok (.iconst 0, 1) := by decide +kernel
theorem d_M_next_27 : decode b_M_next 27 = .ok (.putfield 26, 3) := by decide +kernel
theorem d_M_next_30 : decode b_M_next 30 = .ok (.aload_n 0, 1) := by decide +kernel
theorem d_M_next_31 : decode b_M_next 31 = .ok (.getfield 26, 3) := by decide +kernel
theorem d_M_next_34 : decode b_M_next 34 = .ok (.ifCond .le 5, 3) := by decide +kernel
theorem d_M_next_37 : decode b_M_next 37 = .ok (.iconst 0, 1) := by decide +kernel
theorem d_M_next_38 : decode b_M_next 38 = .ok (.ireturn, 1) := by decide +kernel
theorem d_M_next_39 : decode b_M_next 39 = .ok (.iload_n 2, 1) := by decide +kernel
theorem d_M_next_40 : decode b_M_next 40 = .ok (.istore_n 3, 1) := by decide +kernel
theorem d_M_next_41 : decode b_M_next 41 = .ok (.iconst 0, 1) := by decide +kernel
theorem d_M_next_42 : decode b_M_next 42 = .ok (.istore 4, 2) := by decide +kernel
theorem d_M_next_44 : decode b_M_next 44 = .ok (.iload 4, 2) := by decide +kernel
theorem d_M_next_46 : decode b_M_next 46 = .ok (.sipush 128, 3) := by decide +kernel
theorem d_M_next_49 : decode b_M_next 49 = .ok (.if_icmp .ge 57, 3) := by decide +kernel
theorem d_M_next_52 : decode b_M_next 52 = .ok (.iload_n 3, 1) := by decide +kernel
theorem d_M_next_53 : decode b_M_next 53 = .ok (.aload_n 0, 1) := by decide +kernel
theorem d_M_next_54 : decode b_M_next 54 = .ok (.getfield 7, 3) := by decide +kernel
theorem d_M_next_57 : decode b_M_next 57 = .ok (.sipush 128, 3) := by decide +kernel
theorem d_M_next_60 : decode b_M_next 60 = .ok (.iload_n 1, 1) := by decide +kernel
theorem d_M_next_61 : decode b_M_next 61 = .ok (.imul, 1) := by decide +kernel
theorem d_M_next_62 : decode b_M_next 62 = .ok (.iload 4, 2) := by decide +kernel
theorem d_M_next_64 : decode b_M_next 64 = .ok (.iadd, 1) := by decide +kernel
theorem d_M_next_65 : decode b_M_next 65 = .ok (.baload, 1) := by decide +kernel
theorem d_M_next_66 : decode b_M_next 66 = .ok (.ifCond .eq 8, 3) := by decide +kernel
theorem d_M_next_69 : decode b_M_next 69 = .ok (.bipush 10, 2) := by decide +kernel
theorem d_M_next_71 : decode b_M_next 71 = .ok (.goto 4, 3) := by decide +kernel
theorem d_M_next_74 : decode b_M_next 74 = .ok (.iconst 0, 1) := by decide +kernel
theorem d_M_next_75 : decode b_M_next 75 = .ok (.iadd, 1) := by decide +kernel
theorem d_M_next_76 : decode b_M_next 76 = .ok (.istore_n 3, 1) := by decide +kernel
theorem d_M_next_77 : decode b_M_next 77 = .ok (.aload_n 0, 1) := by decide +kernel
theorem d_M_next_78 : decode b_M_next 78 = .ok (.getfield 16, 3) := by decide +kernel
theorem d_M_next_81 : decode b_M_next 81 = .ok (.iload 4, 2) := by decide +kernel
theorem d_M_next_83 : decode b_M_next 83 = .ok (.iload_n 3, 1) := by decide +kernel
theorem d_M_next_84 : decode b_M_next 84 = .ok (.iconst 2, 1) := by decide +kernel
theorem d_M_next_85 : decode b_M_next 85 = .ok (.irem, 1) := by decide +kernel
theorem d_M_next_86 : decode b_M_next 86 = .ok (.iconst 1, 1) := by decide +kernel
theorem d_M_next_87 : decode b_M_next 87 = .ok (.if_icmp .ne 7, 3) := by decide +kernel
theorem d_M_next_90 : decode b_M_next 90 = .ok (.iconst 1, 1) := by decide +kernel
theorem d_M_next_91 : decode b_M_next 91 = .ok (.goto 4, 3) := by decide +kernel
theorem d_M_next_94 : decode b_M_next 94 = .ok (.iconst 0, 1) := by decide +kernel
theorem d_M_next_95 : decode b_M_next 95 = .ok (.bastore, 1) := by decide +kernel
theorem d_M_next_96 : decode b_M_next 96 = .ok (.iload_n 3, 1) := by decide +kernel
theorem d_M_next_97 : decode b_M_next 97 = .ok (.iconst 2, 1) := by decide +kernel
theorem d_M_next_98 : decode b_M_next 98 = .ok (.idiv, 1) := by decide +kernel
theorem d_M_next_99 : decode b_M_next 99 = .ok (.istore_n 3, 1) := by decide +kernel
theorem d_M_next_100 : decode b_M_next 100 = .ok (.iinc 4 1, 3) := by decide +kernel
theorem d_M_next_103 : decode b_M_next 103 = .ok (.goto (-59), 3) := by decide +kernel
theorem d_M_next_106 : decode b_M_next 106 = .ok (.iload_n 3, 1) := by decide +kernel
theorem d_M_next_107 : decode b_M_next 107 = .ok (.ifCond .le 5, 3) := by decide +kernel
theorem d_M_next_110 : decode b_M_next 110 = .ok (.iconst 0, 1) := by decide +kernel
theorem d_M_next_111 : decode b_M_next 111 = .ok (.ireturn, 1) := by decide +kernel
theorem d_M_next_112 : decode b_M_next 112 = .ok (.aload_n 0, 1) := by decide +kernel
theorem d_M_next_113 : decode b_M_next 113 = .ok (.aload_n 0, 1) := by decide +kernel
theorem d_M_next_114 : decode b_M_next 114 = .ok (.getfield 16, 3) := by decide +kernel
theorem d_M_next_117 : decode b_M_next 117 = .ok (.iconst 0, 1) := by decide +kernel
theorem d_M_next_118 : decode b_M_next 118 = .ok (.iload_n 1, 1) := by decide +kernel
theorem d_M_next_119 : decode b_M_next 119 = .ok (.invokevirtual 47, 3) := by decide +kernel
theorem d_M_next_122 : decode b_M_next 122 = .ok (.iconst 1, 1) := by decide +kernel
theorem d_M_next_123 : decode b_M_next 123 = .ok (.ireturn, 1) := by decide +kernel
end
section
theorem d_L_set_0 : decode b_L_set 0 = .ok (.aload_n 0, 1) := by decide +kernel
theorem d_L_set_1 : decode b_L_set 1 = .ok (.iload_n 1, 1) := by decide +kernel
theorem d_L_set_2 : decode b_L_set 2 = .ok (.lload_n 2, 1) := by decide +kernel
theorem d_L_set_3 : decode b_L_set 3 = .ok (.lload 4, 2) := by decide +kernel
theorem d_L_set_5 : decode b_L_set 5 = .ok (.invokevirtual 7, 3) := by decide +kernel
theorem d_L_set_8 : decode b_L_set 8 = .ok (.goto 7, 3) := by decide +kernel
theorem d_L_set_11 : decode b_L_set 11 = .ok (.astore 6, 2) := by decide +kernel
theorem d_L_set_13 : decode b_L_set 13 = .ok (.iconst 1, 1) := by decide +kernel
theorem d_L_set_14 : decode b_L_set 14 = .ok (.ireturn, 1) := by decide +kernel
theorem d_L_set_15 : decode b_L_set 15 = .ok (.iconst 0, 1) := by decide +kernel
theorem d_L_set_16 : decode b_L_set 16 = .ok (.ireturn, 1) := by decide +kernel
theorem d_L_half_0 : decode b_L_half 0 = .ok (.aload_n 3, 1) := by decide +kernel
theorem d_L_half_1 : decode b_L_half 1 = .ok (.iconst 0, 1) := by decide +kernel
theorem d_L_half_2 : decode b_L_half 2 = .ok (.aload_n 0, 1) := by decide +kernel
theorem d_L_half_3 : decode b_L_half 3 = .ok (.iload_n 1, 1) := by decide +kernel
theorem d_L_half_4 : decode b_L_half 4 = .ok (.iload_n 2, 1) := by decide +kernel
theorem d_L_half_5 : decode b_L_half 5 = .ok (.invokevirtual 15, 3) := by decide +kernel
theorem d_L_half_8 : decode b_L_half 8 = .ok (.lastore, 1) := by decide +kernel
theorem d_L_half_9 : decode b_L_half 9 = .ok (.goto 7, 3) := by decide +kernel
theorem d_L_half_12 : decode b_L_half 12 = .ok (.astore 4, 2) := by decide +kernel
theorem d_L_half_14 : decode b_L_half 14 = .ok (.iconst 1, 1) := by decide +kernel
theorem d_L_half_15 : decode b_L_half 15 = .ok (.ireturn, 1) := by decide +kernel
theorem d_L_half_16 : decode b_L_half 16 = .ok (.iconst 0, 1) := by decide +kernel
theorem d_L_half_17 : decode b_L_half 17 = .ok (.ireturn, 1) := by decide +kernel
theorem d_L_add_0 : decode b_L_add 0 = .ok (.aload 4, 2) := by decide +kernel
theorem d_L_add_2 : decode b_L_add 2 = .ok (.iconst 0, 1) := by decide +kernel
theorem d_L_add_3 : decode b_L_add 3 = .ok (.aload_n 0, 1) := by decide +kernel
theorem d_L_add_4 : decode b_L_add 4 = .ok (.iload_n 1, 1) := by decide +kernel
theorem d_L_add_5 : decode b_L_add 5 = .ok (.iload_n 2, 1) := by decide +kernel
theorem d_L_add_6 : decode b_L_add 6 = .ok (.iload_n 3, 1) := by decide +kernel
theorem d_L_add_7 : decode b_L_add 7 = .ok (.invokevirtual 19, 3) := by decide +kernel
theorem d_L_add_10 : decode b_L_add 10 = .ok (.ifCond .eq 7, 3) := by decide +kernel
theorem d_L_add_13 : decode b_L_add 13 = .ok (.lconst 1, 1) := by decide +kernel
theorem d_L_add_14 : decode b_L_add 14 = .ok (.goto 4, 3) := by decide +kernel
theorem d_L_add_17 : decode b_L_add 17 = .ok (.lconst 0, 1) := by decide +kernel
theorem d_L_add_18 : decode b_L_add 18 = .ok (.lastore, 1) := by decide +kernel
theorem d_L_add_19 : decode b_L_add 19 = .ok (.goto 7, 3) := by decide +kernel
theorem d_L_add_22 : decode b_L_add 22 = .ok (.astore 5, 2) := by decide +kernel
theorem d_L_add_24 : decode b_L_add 24 = .ok (.iconst 1, 1) := by decide +kernel
theorem d_L_add_25 : decode b_L_add 25 = .ok (.ireturn, 1) := by decide +kernel
theorem d_L_add_26 : decode b_L_add 26 = .ok (.iconst 0, 1) := by decide +kernel
theorem d_L_add_27 : decode b_L_add 27 = .ok (.ireturn, 1) := by decide +kernel
theorem d_L_subtract_0 : decode b_L_subtract 0 = .ok (.aload 4, 2) := by decide +kernel
theorem d_L_subtract_2 : decode b_L_subtract 2 = .ok (.iconst 0, 1) := by decide +kernel
theorem d_L_subtract_3 : decode b_L_subtract 3 = .ok (.aload_n 0, 1) := by decide +kernel
theorem d_L_subtract_4 : decode b_L_subtract 4 = .ok (.iload_n 1, 1) := by decide +kernel
theorem d_L_subtract_5 : decode b_L_subtract 5 = .ok (.iload_n 2, 1) := by decide +kernel
theorem d_L_subtract_6 : decode b_L_subtract 6 = .ok (.iload_n 3, 1) := by decide +kernel
theorem d_L_subtract_7 : decode b_L_subtract 7 = .ok (.invokevirtual 23, 3) := by decide +kernel
theorem d_L_subtract_10 : decode b_L_subtract 10 = .ok (.ifCond .eq 7, 3) := by decide +kernel
theorem d_L_subtract_13 : decode b_L_subtract 13 = .ok (.lconst 1, 1) := by decide +kernel
theorem d_L_subtract_14 : decode b_L_subtract 14 = .ok (.goto 4, 3) := by decide +kernel
theorem d_L_subtract_17 : decode b_L_subtract 17 = .ok (.lconst 0, 1) := by decide +kernel
theorem d_L_subtract_18 : decode b_L_subtract 18 = .ok (.lastore, 1) := by decide +kernel
theorem d_L_subtract_19 : decode b_L_subtract 19 = .ok (.goto 7, 3) := by decide +kernel
theorem d_L_subtract_22 : decode b_L_subtract 22 = .ok (.astore 5, 2) := by decide +kernel
theorem d_L_subtract_24 : decode b_L_subtract 24 = .ok (.iconst 1, 1) := by decide +kernel
theorem d_L_subtract_25 : decode b_L_subtract 25 = .ok (.ireturn, 1) := by decide +kernel
theorem d_L_subtract_26 : decode b_L_subtract 26 = .ok (.iconst 0, 1) := by decide +kernel
theorem d_L_subtract_27 : decode b_L_subtract 27 = .ok (.ireturn, 1) := by decide +kernel
theorem d_L_multiply_0 : decode b_L_multiply 0 = .ok (.aload_n 0, 1) := by decide +kernel
theorem d_L_multiply_1 : decode b_L_multiply 1 = .ok (.iload_n 1, 1) := by decide +kernel
theorem d_L_multiply_2 : decode b_L_multiply 2 = .ok (.iload_n 2, 1) := by decide +kernel
theorem d_L_multiply_3 : decode b_L_multiply 3 = .ok (.iload_n 3, 1) := by decide +kernel
theorem d_L_multiply_4 : decode b_L_multiply 4 = .ok (.iload 4, 2) := by decide +kernel
theorem d_L_multiply_6 : decode b_L_multiply 6 = .ok (.invokevirtual 26, 3) := by decide +kernel
theorem d_L_multiply_9 : decode b_L_multiply 9 = .ok (.goto 11, 3) := by decide +kernel
theorem d_L_multiply_12 : decode b_L_multiply 12 = .ok (.astore 5, 2) := by decide +kernel
theorem d_L_multiply_14 : decode b_L_multiply 14 = .ok (.iconst 1, 1) := by decide +kernel
theorem d_L_multiply_15 : decode b_L_multiply 15 = .ok (.ireturn, 1) := by decide +kernel
theorem d_L_multiply_16 : decode b_L_multiply 16 = .ok (.astore 5, 2) := by decide +kernel
theorem d_L_multiply_18 : decode b_L_multiply 18 = .ok (.iconst 2, 1) := by decide +kernel
theorem d_L_multiply_19 : decode b_L_multiply 19 = .ok (.ireturn, 1) := by decide +kernel
theorem d_L_multiply_20 : decode b_L_multiply 20 = .ok (.iconst 0, 1) := by decide +kernel
theorem d_L_multiply_21 : decode b_L_multiply 21 = .ok (.ireturn, 1) := by decide +kernel
theorem d_L_divide_0 : decode b_L_divide 0 = .ok (.aload_n 0, 1) := by decide +kernel
theorem d_L_divide_1 : decode b_L_divide 1 = .ok (.iload_n 1, 1) := by decide +kernel
theorem d_L_divide_2 : decode b_L_divide 2 = .ok (.iload_n 2, 1) := by decide +kernel
theorem d_L_divide_3 : decode b_L_divide 3 = .ok (.iload_n 3, 1) := by decide +kernel
theorem d_L_divide_4 : decode b_L_divide 4 = .ok (.iload 4, 2) := by decide +kernel
theorem d_L_divide_6 : decode b_L_divide 6 = .ok (.invokevirtual 32, 3) := by decide +kernel
theorem d_L_divide_9 : decode b_L_divide 9 = .ok (.goto 15, 3) := by decide +kernel
theorem d_L_divide_12 : decode b_L_divide 12 = .ok (.astore 5, 2) := by decide +kernel
theorem d_L_divide_14 : decode b_L_divide 14 = .ok (.iconst 1, 1) := by decide +kernel
theorem d_L_divide_15 : decode b_L_divide 15 = .ok (.ireturn, 1) := by decide +kernel
theorem d_L_divide_16 : decode b_L_divide 16 = .ok (.astore 5, 2) := by decide +kernel
theorem d_L_divide_18 : decode b_L_divide 18 = .ok (.iconst 2, 1) := by decide +kernel
theorem d_L_divide_19 : decode b_L_divide 19 = .ok (.ireturn, 1) := by decide +kernel
theorem d_L_divide_20 : decode b_L_divide 20 = .ok (.astore 5, 2) := by decide +kernel
theorem d_L_divide_22 : decode b_L_divide 22 = .ok (.iconst 3, 1) := by decide +kernel
theorem d_L_divide_23 : decode b_L_divide 23 = .ok (.ireturn, 1) := by decide +kernel
theorem d_L_divide_24 : decode b_L_divide 24 = .ok (.iconst 0, 1) := by decide +kernel
theorem d_L_divide_25 : decode b_L_divide 25 = .ok (.ireturn, 1) := by decide +kernel
theorem d_L_root_0 : decode b_L_root 0 = .ok (.aload_n 0, 1) := by decide +kernel
theorem d_L_root_1 : decode b_L_root 1 = .ok (.iload_n 1, 1) := by decide +kernel
theorem d_L_root_2 : decode b_L_root 2 = .ok (.iload_n 2, 1) := by decide +kernel
theorem d_L_root_3 : decode b_L_root 3 = .ok (.iload_n 3, 1) := by decide +kernel
theorem d_L_root_4 : decode b_L_root 4 = .ok (.invokevirtual 37, 3) := by decide +kernel
theorem d_L_root_7 : decode b_L_root 7 = .ok (.goto 11, 3) := by decide +kernel
theorem d_L_root_10 : decode b_L_root 10 = .ok (.astore 4, 2) := by decide +kernel
theorem d_L_root_12 : decode b_L_root 12 = .ok (.iconst 1, 1) := by decide +kernel
theorem d_L_root_13 : decode b_L_root 13 = .ok (.ireturn, 1) := by decide +kernel
theorem d_L_root_14 : decode b_L_root 14 = .ok (.astore 4, 2) := by decide +kernel
theorem d_L_root_16 : decode b_L_root 16 = .ok (.iconst 2, 1) := by decide +kernel
theorem d_L_root_17 : decode b_L_root 17 = .ok (.ireturn, 1) := by decide +kernel
theorem d_L_root_18 : decode b_L_root 18 = .ok (.iconst 0, 1) := by decide +kernel
theorem d_L_root_19 : decode b_L_root 19 = .ok (.ireturn, 1) := by decide +kernel
theorem d_L_shift_0 : decode b_L_shift 0 = .ok (.aload 4, 2) := by decide +kernel
theorem d_L_shift_2 : decode b_L_shift 2 = .ok (.iconst 0, 1) := by decide +kernel
theorem d_L_shift_3 : decode b_L_shift 3 = .ok (.aload_n 0, 1) := by decide +kernel
theorem d_L_shift_4 : decode b_L_shift 4 = .ok (.iload_n 1, 1) := by decide +kernel
theorem d_L_shift_5 : decode b_L_shift 5 = .ok (.iload_n 2, 1) := by decide +kernel
theorem d_L_shift_6 : decode b_L_shift 6 = .ok (.iload_n 3, 1) := by decide +kernel
theorem d_L_shift_7 : decode b_L_shift 7 = .ok (.invokevirtual 41, 3) := by decide +kernel
theorem d_L_shift_10 : decode b_L_shift 10 = .ok (.ifCond .eq 7, 3) := by decide +kernel
theorem d_L_shift_13 : decode b_L_shift 13 = .ok (.lconst 1, 1) := by decide +kernel
theorem d_L_shift_14 : decode b_L_shift 14 = .ok (.goto 4, 3) := by decide +kernel
theorem d_L_shift_17 : decode b_L_shift 17 = .ok (.lconst 0, 1) := by decide +kernel
theorem d_L_shift_18 : decode b_L_shift 18 = .ok (.lastore, 1) := by decide +kernel
theorem d_L_shift_19 : decode b_L_shift 19 = .ok (.goto 7, 3) := by decide +kernel
theorem d_L_shift_22 : decode b_L_shift 22 = .ok (.astore 5, 2) := by decide +kernel
theorem d_L_shift_24 : decode b_L_shift 24 = .ok (.iconst 1, 1) := by decide +kernel
theorem d_L_shift_25 : decode b_L_shift 25 = .ok (.ireturn, 1) := by decide +kernel
theorem d_L_shift_26 : decode b_L_shift 26 = .ok (.iconst 0, 1) := by decide +kernel
theorem d_L_shift_27 : decode b_L_shift 27 = .ok (.ireturn, 1) := by decide +kernel
theorem d_L_jam_0 : decode b_L_jam 0 = .ok (.aload_n 0, 1) := by decide +kernel
theorem d_L_jam_1 : decode b_L_jam 1 = .ok (.iload_n 1, 1) := by decide +kernel
theorem d_L_jam_2 : decode b_L_jam 2 = .ok (.iload_n 2, 1) := by decide +kernel
theorem d_L_jam_3 : decode b_L_jam 3 = .ok (.iload_n 3, 1) := by decide +kernel
theorem d_L_jam_4 : decode b_L_jam 4 = .ok (.invokevirtual 44, 3) := by decide +kernel
theorem d_L_jam_7 : decode b_L_jam 7 = .ok (.goto 11, 3) := by decide +kernel
theorem d_L_jam_10 : decode b_L_jam 10 = .ok (.astore 4, 2) := by decide +kernel
theorem d_L_jam_12 : decode b_L_jam 12 = .ok (.iconst 1, 1) := by decide +kernel
theorem d_L_jam_13 : decode b_L_jam 13 = .ok (.ireturn, 1) := by decide +kernel
theorem d_L_jam_14 : decode b_L_jam 14 = .ok (.astore 4, 2) := by decide +kernel
theorem d_L_jam_16 : decode b_L_jam 16 = .ok (.iconst 2, 1) := by decide +kernel
theorem d_L_jam_17 : decode b_L_jam 17 = .ok (.ireturn, 1) := by decide +kernel
theorem d_L_jam_18 : decode b_L_jam 18 = .ok (.iconst 0, 1) := by decide +kernel
theorem d_L_jam_19 : decode b_L_jam 19 = .ok (.ireturn, 1) := by decide +kernel
theorem d_L_zeros_0 : decode b_L_zeros 0 = .ok (.aload_n 2, 1) := by decide +kernel
theorem d_L_zeros_1 : decode b_L_zeros 1 = .ok (.iconst 0, 1) := by decide +kernel
theorem d_L_zeros_2 : decode b_L_zeros 2 = .ok (.aload_n 0, 1) := by decide +kernel
theorem d_L_zeros_3 : decode b_L_zeros 3 = .ok (.iload_n 1, 1) := by decide +kernel
theorem d_L_zeros_4 : decode b_L_zeros 4 = .ok (.invokevirtual 47, 3) := by decide +kernel
theorem d_L_zeros_7 : decode b_L_zeros 7 = .ok (.i2l, 1) := by decide +kernel
theorem d_L_zeros_8 : decode b_L_zeros 8 = .ok (.lastore, 1) := by decide +kernel
theorem d_L_zeros_9 : decode b_L_zeros 9 = .ok (.goto 6, 3) := by decide +kernel
theorem d_L_zeros_12 : decode b_L_zeros 12 = .ok (.astore_n 3, 1) := by decide +kernel
theorem d_L_zeros_13 : decode b_L_zeros 13 = .ok (.iconst 1, 1) := by decide +kernel
theorem d_L_zeros_14 : decode b_L_zeros 14 = .ok (.ireturn, 1) := by decide +kernel
theorem d_L_zeros_15 : decode b_L_zeros 15 = .ok (.iconst 0, 1) := by decide +kernel
theorem d_L_zeros_16 : decode b_L_zeros 16 = .ok (.ireturn, 1) := by decide +kernel
theorem d_L_compare_0 : decode b_L_compare 0 = .ok (.aload_n 3, 1) := by decide +kernel
theorem d_L_compare_1 : decode b_L_compare 1 = .ok (.iconst 0, 1) := by decide +kernel
theorem d_L_compare_2 : decode b_L_compare 2 = .ok (.aload_n 0, 1) := by decide +kernel
theorem d_L_compare_3 : decode b_L_compare 3 = .ok (.iload_n 1, 1) := by decide +kernel
theorem d_L_compare_4 : decode b_L_compare 4 = .ok (.iload_n 2, 1) := by decide +kernel
theorem d_L_compare_5 : decode b_L_compare 5 = .ok (.invokevirtual 51, 3) := by decide +kernel
theorem d_L_compare_8 : decode b_L_compare 8 = .ok (.i2l, 1) := by decide +kernel
theorem d_L_compare_9 : decode b_L_compare 9 = .ok (.lastore, 1) := by decide +kernel
theorem d_L_compare_10 : decode b_L_compare 10 = .ok (.goto 7, 3) := by decide +kernel
theorem d_L_compare_13 : decode b_L_compare 13 = .ok (.astore 4, 2) := by decide +kernel
theorem d_L_compare_15 : decode b_L_compare 15 = .ok (.iconst 1, 1) := by decide +kernel
theorem d_L_compare_16 : decode b_L_compare 16 = .ok (.ireturn, 1) := by decide +kernel
theorem d_L_compare_17 : decode b_L_compare 17 = .ok (.iconst 0, 1) := by decide +kernel
theorem d_L_compare_18 : decode b_L_compare 18 = .ok (.ireturn, 1) := by decide +kernel
theorem d_L_digits_0 : decode b_L_digits 0 = .ok (.aload_n 2, 1) := by decide +kernel
theorem d_L_digits_1 : decode b_L_digits 1 = .ok (.iconst 0, 1) := by decide +kernel
theorem d_L_digits_2 : decode b_L_digits 2 = .ok (.aload_n 0, 1) := by decide +kernel
theorem d_L_digits_3 : decode b_L_digits 3 = .ok (.iload_n 1, 1) := by decide +kernel
theorem d_L_digits_4 : decode b_L_digits 4 = .ok (.invokevirtual 55, 3) := by decide +kernel
theorem d_L_digits_7 : decode b_L_digits 7 = .ok (.i2l, 1) := by decide +kernel
theorem d_L_digits_8 : decode b_L_digits 8 = .ok (.lastore, 1) := by decide +kernel
theorem d_L_digits_9 : decode b_L_digits 9 = .ok (.goto 6, 3) := by decide +kernel
theorem d_L_digits_12 : decode b_L_digits 12 = .ok (.astore_n 3, 1) := by decide +kernel
theorem d_L_digits_13 : decode b_L_digits 13 = .ok (.iconst 1, 1) := by decide +kernel
theorem d_L_digits_14 : decode b_L_digits 14 = .ok (.ireturn, 1) := by decide +kernel
theorem d_L_digits_15 : decode b_L_digits 15 = .ok (.iconst 0, 1) := by decide +kernel
theorem d_L_digits_16 : decode b_L_digits 16 = .ok (.ireturn, 1) := by decide +kernel
theorem d_L_next_0 : decode b_L_next 0 = .ok (.aload_n 3, 1) := by decide +kernel
theorem d_L_next_1 : decode b_L_next 1 = .ok (.iconst 0, 1) := by decide +kernel
theorem d_L_next_2 : decode b_L_next 2 = .ok (.aload_n 0, 1) := by decide +kernel
theorem d_L_next_3 : decode b_L_next 3 = .ok (.iload_n 1, 1) := by decide +kernel
theorem d_L_next_4 : decode b_L_next 4 = .ok (.iload_n 2, 1) := by decide +kernel
theorem d_L_next_5 : decode b_L_next 5 = .ok (.invokevirtual 58, 3) := by decide +kernel
theorem d_L_next_8 : decode b_L_next 8 = .ok (.ifCond .eq 7, 3) := by decide +kernel
theorem d_L_next_11 : decode b_L_next 11 = .ok (.lconst 1, 1) := by decide +kernel
theorem d_L_next_12 : decode b_L_next 12 = .ok (.goto 4, 3) := by decide +kernel
theorem d_L_next_15 : decode b_L_next 15 = .ok (.lconst 0, 1) := by decide +kernel
theorem d_L_next_16 : decode b_L_next 16 = .ok (.lastore, 1) := by decide +kernel
theorem d_L_next_17 : decode b_L_next 17 = .ok (.goto 11, 3) := by decide +kernel
theorem d_L_next_20 : decode b_L_next 20 = .ok (.astore 4, 2) := by decide +kernel
theorem d_L_next_22 : decode b_L_next 22 = .ok (.iconst 1, 1) := by decide +kernel
theorem d_L_next_23 : decode b_L_next 23 = .ok (.ireturn, 1) := by decide +kernel
theorem d_L_next_24 : decode b_L_next 24 = .ok (.astore 4, 2) := by decide +kernel
theorem d_L_next_26 : decode b_L_next 26 = .ok (.iconst 2, 1) := by decide +kernel
theorem d_L_next_27 : decode b_L_next 27 = .ok (.ireturn, 1) := by decide +kernel
theorem d_L_next_28 : decode b_L_next 28 = .ok (.iconst 0, 1) := by decide +kernel
theorem d_L_next_29 : decode b_L_next 29 = .ok (.ireturn, 1) := by decide +kernel
end
section
/-! ===== the two worlds: the class's object and the reference's ===== -/
def FX : u_T := fun k => match k with
  | 0 => ("WideFractions", "highs", "[J", true)
  | 1 => ("WideFractions", "lows", "[J", true)
  | 2 => ("WideFractions", "parts", "[J", true)
  | 3 => ("WideFractions", "digitRow", "[I", true)
  | _ => ("WideFractions", "firstDigit", "I", false)
def tX : Nat → FieldType := fun k => match k with
  | 0 => .array .long
  | 1 => .array .long
  | 2 => .array .long
  | 3 => .array .int
  | _ => .int
def FM : u_T := fun k => match k with
  | 0 => ("WideFractionsModel", "code", "I", false)
  | 1 => ("WideFractionsModel", "bits", "[Z", true)
  | 2 => ("WideFractionsModel", "product", "[Z", true)
  | 3 => ("WideFractionsModel", "answer", "[Z", true)
  | 4 => ("WideFractionsModel", "rest", "[Z", true)
  | 5 => ("WideFractionsModel", "digits", "[I", true)
  | _ => ("WideFractionsModel", "written", "I", false)
def tM : Nat → FieldType := fun k => match k with
  | 0 => .int
  | 1 => .array .boolean
  | 2 => .array .boolean
  | 3 => .array .boolean
  | 4 => .array .boolean
  | 5 => .array .int
  | _ => .int
abbrev vwCl : List vw_C := [(RX, FX, 5), (RM, FM, 7)]
theorem nX : ∀ a, a < 5 → ∀ b, b < 5 → a ≠ b → (FX a).2.1 ≠ (FX b).2.1 := by decide +kernel
theorem tX_ok : ∀ k, k < 5 → parseFieldDescriptor (FX k).2.2.1 = some (tX k) := by decide +kernel
theorem nM : ∀ a, a < 7 → ∀ b, b < 7 → a ≠ b → (FM a).2.1 ≠ (FM b).2.1 := by decide +kernel
theorem tM_ok : ∀ k, k < 7 → parseFieldDescriptor (FM k).2.2.1 = some (tM k) := by decide +kernel
theorem iX : ∀ w ∈ u_ws RX FX 5, w ∈ wG := by decide +kernel
theorem iM : ∀ w ∈ u_ws RM FM 7, w ∈ wG := by decide +kernel
/-- highs, lows, parts, digitRow, firstDigit -/
abbrev SX : Type := (Nat → Int64) × (Nat → Int64) × (Nat → Int64) × (Nat → Int32) × Int32
abbrev wX (q : Nat → Nat) (κ : Nat → ClassId) (u : SX) : va_W := [(q 0, .inr (0, [.ref (q 1), .ref (q 2), .ref (q 3), .ref (q 4), .int u.2.2.2.2])), (q 1, .inl (κ 1, 8, .inr (.inl u.1))), (q 2, .inl (κ 2, 8, .inr (.inl u.2.1))), (q 3, .inl (κ 3, 4, .inr (.inl u.2.2.1))), (q 4, .inl (κ 4, 39, .inl u.2.2.2.1))]
abbrev tyX (κ : Nat → ClassId) : List (ClassId × FieldType) := [(κ 1, .long), (κ 2, .long), (κ 3, .long), (κ 4, .int)]
/-- code, bits, product, answer, rest, digits, written -/
abbrev SM : Type := Int32 × (Nat → Bool) × (Nat → Bool) × (Nat → Bool) × (Nat → Bool) × (Nat → Int32) × Int32
abbrev wM (q : Nat → Nat) (κ : Nat → ClassId) (u : SM) : va_W := [(q 0, .inr (1, [.int u.1, .ref (q 1), .ref (q 2), .ref (q 3), .ref (q 4), .ref (q 5), .int u.2.2.2.2.2.2])), (q 1, .inl (κ 1, 1280, .inl (fun j => wf_bi (u.2.1 j)))), (q 2, .inl (κ 2, 256, .inl (fun j => wf_bi (u.2.2.1 j)))), (q 3, .inl (κ 3, 128, .inl (fun j => wf_bi (u.2.2.2.1 j)))), (q 4, .inl (κ 4, 130, .inl (fun j => wf_bi (u.2.2.2.2.1 j)))), (q 5, .inl (κ 5, 39, .inl u.2.2.2.2.2.1))]
abbrev tyM (κ : Nat → ClassId) : List (ClassId × FieldType) := [(κ 1, .boolean), (κ 2, .boolean), (κ 3, .boolean), (κ 4, .boolean), (κ 5, .int)]
section WXM
variable {p : Program} {l : Launch} {e : Env} {R : Room} {s : State} {m : MethodId} {args : Array Value} {below : List Frame} {meth : Method} {c : Code} {H : Heap} {locs : List Loc} {cells slots : Nat} {Q : State → Prop}
variable {cc : ByteArray} {pc nL : Nat} {ls : Array Slot} {rest : List Value} {D : va_G} {A : Nat → Prop} {tys : List (ClassId × FieldType)} {H0 : Heap} {ws : va_W} {a : Nat}
theorem gX (C : CallFix p m c cc nL s args wG RX) (hK : va_K D vwCl tys s) (hP : va_P D vwCl ws H) (q0 : Nat) {fs : List Value} (he : ws[q0]? = some (a, .inr (0, fs))) (k : Nat) (hk : k < 5) {idx : Nat} (hl : Cond.fieldLink RX idx RX (FX k).2.1 (FX k).2.2.1 ∈ wG) {v : Value} (hv : fs[k]? = some v) (hdg : decode cc pc = .ok (.getfield idx, 3))
    (kk : W p l e R s m args below meth c H locs cells slots Q (F0 m (pc + 3) ls (v :: rest))) : W p l e R s m args below meth c H locs cells slots Q (F0 m pc ls (.ref a :: rest)) :=
  va_get (D := D) (ci := 0) (C := RX) (T := FX) (N := 5) C.1 C.2.1 C.2.2.2.2 iX C.2.2.2.1 hK hP q0 he rfl k hk (C.2.2.2.2 _ hl) (fun x h => by
    have e : (FX k).1 = RX := by rcases (show k = 0 ∨ k = 1 ∨ k = 2 ∨ k = 3 ∨ k = 4 by omega) with rfl | rfl | rfl | rfl | rfl <;> rfl
    rw [e] at h; exact h) hv hdg kk
theorem gM (C : CallFix p m c cc nL s args wG RM) (hK : va_K D vwCl tys s) (hP : va_P D vwCl ws H) (q0 : Nat) {fs : List Value} (he : ws[q0]? = some (a, .inr (1, fs))) (k : Nat) (hk : k < 7) {idx : Nat} (hl : Cond.fieldLink RM idx RM (FM k).2.1 (FM k).2.2.1 ∈ wG) {v : Value} (hv : fs[k]? = some v) (hdg : decode cc pc = .ok (.getfield idx, 3))
    (kk : W p l e R s m args below meth c H locs cells slots Q (F0 m (pc + 3) ls (v :: rest))) : W p l e R s m args below meth c H locs cells slots Q (F0 m pc ls (.ref a :: rest)) :=
  va_get (D := D) (ci := 1) (C := RM) (T := FM) (N := 7) C.1 C.2.1 C.2.2.2.2 iM C.2.2.2.1 hK hP q0 he rfl k hk (C.2.2.2.2 _ hl) (fun x h => by
    have e : (FM k).1 = RM := by rcases (show k = 0 ∨ k = 1 ∨ k = 2 ∨ k = 3 ∨ k = 4 ∨ k = 5 ∨ k = 6 by omega) with rfl | rfl | rfl | rfl | rfl | rfl | rfl <;> rfl
    rw [e] at h; exact h) hv hdg kk
theorem pX_first (C : CallFix p m c cc nL s args wG RX) (hK : va_K D vwCl tys s) (hP : va_P D vwCl ws H) (hD : va_D A ws) (hS : va_S A H0 H locs) (q0 : Nat) {fs : List Value} (he : ws[q0]? = some (a, .inr (0, fs))) (hl : 4 < fs.length) {v : Int32} (hdg : decode cc pc = .ok (.putfield 23, 3))
    (kk : ∀ (H1 : Heap) (locs1 : List Loc), va_P D vwCl (ws.set q0 (a, .inr (0, fs.set 4 (.int v)))) H1 → va_D A (ws.set q0 (a, .inr (0, fs.set 4 (.int v)))) → va_S A H0 H1 locs1 → W p l e R s m args below meth c H1 locs1 cells slots Q (F0 m (pc + 3) ls rest)) : W p l e R s m args below meth c H locs cells slots Q (F0 m pc ls (.int v :: .ref a :: rest)) :=
  va_put (D := D) (ci := 0) (C := RX) (T := FX) (N := 5) (ty := .int) (v := .int v) C.1 C.2.1 C.2.2.2.2 iX tX tX_ok nX C.2.2.2.1 hK hP hD hS q0 he rfl 4 (by decide) (C.2.2.2.2 _ k_fl_X_firstDigit) (fun _ h => h) rfl (by decide +kernel) rfl rfl hl hdg kk
theorem pM_code (C : CallFix p m c cc nL s args wG RM) (hK : va_K D vwCl tys s) (hP : va_P D vwCl ws H) (hD : va_D A ws) (hS : va_S A H0 H locs) (q0 : Nat) {fs : List Value} (he : ws[q0]? = some (a, .inr (1, fs))) (hl : 0 < fs.length) {v : Int32} (hdg : decode cc pc = .ok (.putfield 26, 3))
    (kk : ∀ (H1 : Heap) (locs1 : List Loc), va_P D vwCl (ws.set q0 (a, .inr (1, fs.set 0 (.int v)))) H1 → va_D A (ws.set q0 (a, .inr (1, fs.set 0 (.int v)))) → va_S A H0 H1 locs1 → W p l e R s m args below meth c H1 locs1 cells slots Q (F0 m (pc + 3) ls rest)) : W p l e R s m args below meth c H locs cells slots Q (F0 m pc ls (.int v :: .ref a :: rest)) :=
  va_put (D := D) (ci := 1) (C := RM) (T := FM) (N := 7) (ty := .int) (v := .int v) C.1 C.2.1 C.2.2.2.2 iM tM tM_ok nM C.2.2.2.1 hK hP hD hS q0 he rfl 0 (by decide) (C.2.2.2.2 _ k_fl_M_code) (fun _ h => h) rfl (by decide +kernel) rfl rfl hl hdg kk
theorem pM_written (C : CallFix p m c cc nL s args wG RM) (hK : va_K D vwCl tys s) (hP : va_P D vwCl ws H) (hD : va_D A ws) (hS : va_S A H0 H locs) (q0 : Nat) {fs : List Value} (he : ws[q0]? = some (a, .inr (1, fs))) (hl : 6 < fs.length) {v : Int32} (hdg : decode cc pc = .ok (.putfield 71, 3))
    (kk : ∀ (H1 : Heap) (locs1 : List Loc), va_P D vwCl (ws.set q0 (a, .inr (1, fs.set 6 (.int v)))) H1 → va_D A (ws.set q0 (a, .inr (1, fs.set 6 (.int v)))) → va_S A H0 H1 locs1 → W p l e R s m args below meth c H1 locs1 cells slots Q (F0 m (pc + 3) ls rest)) : W p l e R s m args below meth c H locs cells slots Q (F0 m pc ls (.int v :: .ref a :: rest)) :=
  va_put (D := D) (ci := 1) (C := RM) (T := FM) (N := 7) (ty := .int) (v := .int v) C.1 C.2.1 C.2.2.2.2 iM tM tM_ok nM C.2.2.2.1 hK hP hD hS q0 he rfl 6 (by decide) (C.2.2.2.2 _ k_fl_M_written) (fun _ h => h) rfl (by decide +kernel) rfl rfl hl hdg kk
end WXM
end
section
/-! ===== Long.compare, compareUnsigned; oneIfBelow, isBelow ===== -/
set_option maxHeartbeats 4000000 in
set_option maxRecDepth 100000 in
/-- Long.compare -/
theorem c_Jl_compare (l : Launch) (x y : Int64) : Met l y_Jl_compare (.code y_Jl_compare b_Jl_compare 4 (some .int) :: wG) (wf_rm 0 0 0 0) (fun v _ => v = ([.long x, .long y] : List Value).toArray) (vp_Si (fun r => r = if x < y then -1 else if x = y then 0 else 1)) 0 0 (fun _ => False) := by
  refine wf_openS (by decide) (Nat.le_of_ble_eq_true rfl) ?_
  intro p e s m below meth c ls C hr hlocks hl
  have hx := C.1
  have hb := C.2.1
  have hml := C.2.2.1
  have hown := C.2.2.2.1
  have hts := C.2.2.2.2
  have hl : lv_has ls 4 [(0, .long (x)), (2, .long (y))] := hl
  refine lv_lload_n hx hb d_Jl_compare_0 rfl (lv_at hl 0 rfl) ?_
  refine lv_lload_n hx hb d_Jl_compare_1 rfl (lv_at hl 1 rfl) ?_
  refine W.lcmp hx hb d_Jl_compare_2 ?_
  refine lv_if_ge (tgt := 10) hx hb d_Jl_compare_3 (by decide) (fun c_1 => ?_) (fun c_1 => ?_)
  · refine lv_lload_n hx hb d_Jl_compare_10 rfl (lv_at hl 0 rfl) ?_
    refine lv_lload_n hx hb d_Jl_compare_11 rfl (lv_at hl 1 rfl) ?_
    refine W.lcmp hx hb d_Jl_compare_12 ?_
    refine lv_if_ne (tgt := 20) hx hb d_Jl_compare_13 (by decide) (fun c_2 => ?_) (fun c_2 => ?_)
    · refine lv_iconst (v := 1) hx hb d_Jl_compare_20 (by decide) ?_
      exact W.iret hx hb hr (fun t ht hW => ⟨_, rfl, by rw [lg_cmp_ge] at c_1; rw [lg_cmp_eq] at c_2; rw [if_neg (Int64.not_lt.mpr c_1), if_neg c_2], ht⟩) (fun q h => by cases h) d_Jl_compare_21 hlocks
    · refine lv_iconst (v := 0) hx hb d_Jl_compare_16 (by decide) ?_
      refine lv_goto (tgt := 21) hx hb d_Jl_compare_17 (by decide) ?_
      exact W.iret hx hb hr (fun t ht hW => ⟨_, rfl, by rw [lg_cmp_ge] at c_1; rw [lg_cmp_eq] at c_2; rw [if_neg (Int64.not_lt.mpr c_1), if_pos c_2], ht⟩) (fun q h => by cases h) d_Jl_compare_21 hlocks
  · refine lv_iconst (v := (-1)) hx hb d_Jl_compare_6 (by decide) ?_
    refine lv_goto (tgt := 21) hx hb d_Jl_compare_7 (by decide) ?_
    exact W.iret hx hb hr (fun t ht hW => ⟨_, rfl, by rw [lg_cmp_ge] at c_1; rw [if_pos (Int64.not_le.mp c_1)], ht⟩) (fun q h => by cases h) d_Jl_compare_21 hlocks

set_option maxHeartbeats 4000000 in
set_option maxRecDepth 100000 in
theorem kJ_compare {p : Program} {l : Launch} {e : Env} {R : Room} {s : State} {m : MethodId} {args : Array Value} {below : List Frame} {meth : Method} {c : Code} {H : Heap} {locs : List Loc} {cells slots : Nat} {Q : State → Prop} {cc : ByteArray} {pc nL : Nat} {ls : Array Slot} {rest : List Value} {x y : Int64} (C : CallFix p m c cc nL s args wG RJl) (hsz : ls.size = nL) (hR : 1 ≤ R.frames ∧ 23 ≤ R.locals) (hw : (rest.map fun v => v.category).sum ≤ 8) (hc : cells ≤ R.cells ∧ slots ≤ R.slots) (hdg : decode cc pc = .ok (.invokestatic 302, 3)) (kk : W p l e R s m args below meth c H locs cells slots Q (F0 m (pc + 3) ls (.int (if x < y then -1 else if x = y then 0 else 1) :: rest))) : W p l e R s m args below meth c H locs cells slots Q (F0 m pc ls (.long y :: .long x :: rest)) := by
  refine vp_callSi (W.runS (As := [.long x, .long y]) (rest := rest) C (c_Jl_compare l x y) (va_cwS 2 C.2.2.2.2 (wG_S (fun _ h => h) k_ml_Jl_302 k_st_Jl_compare k_in_Jl k_Jl_compare) rfl rfl rfl (by decide +kernel) ⟨hR.1, hR.2⟩) preEq rfl rfl hsz rfl (lv_room hw) hdg ⟨hc.1, hc.2⟩) (fun r hr => ?_)
  rw [hr]
  exact kk

set_option maxHeartbeats 4000000 in
set_option maxRecDepth 100000 in
/-- Long.compareUnsigned -/
theorem c_Jl_compareUnsigned (l : Launch) (x y : Int64) : Met l y_Jl_compareUnsigned (.code y_Jl_compareUnsigned b_Jl_compareUnsigned 4 (some .int) :: wG) (wf_rm 1 30 0 0) (fun v _ => v = ([.long x, .long y] : List Value).toArray) (vp_Si (fun r => r = if uN x < uN y then -1 else if uN x = uN y then 0 else 1)) 0 0 (fun _ => False) := by
  refine wf_openS (by decide) (Nat.le_of_ble_eq_true rfl) ?_
  intro p e s m below meth c ls C hr hlocks hl
  have hx := C.1
  have hb := C.2.1
  have hml := C.2.2.1
  have hown := C.2.2.2.1
  have hts := C.2.2.2.2
  have hl : lv_has ls 4 [(0, .long (x)), (2, .long (y))] := hl
  refine lv_lload_n hx hb d_Jl_compareUnsigned_0 rfl (lv_at hl 0 rfl) ?_
  refine lv_ldc2 (v := (-9223372036854775808)) hx hb hown (hts _ (k_cl_Jl_168)) d_Jl_compareUnsigned_1 ?_
  refine lv_ladd hx hb d_Jl_compareUnsigned_4 ?_
  refine lv_lload_n hx hb d_Jl_compareUnsigned_5 rfl (lv_at hl 1 rfl) ?_
  refine lv_ldc2 (v := (-9223372036854775808)) hx hb hown (hts _ (k_cl_Jl_168)) d_Jl_compareUnsigned_6 ?_
  refine lv_ladd hx hb d_Jl_compareUnsigned_9 ?_
  refine kJ_compare C hl.1 ⟨Nat.le_of_ble_eq_true rfl, Nat.le_of_ble_eq_true rfl⟩ (Nat.le_of_ble_eq_true rfl) ⟨Nat.le_of_ble_eq_true rfl, Nat.le_of_ble_eq_true rfl⟩ d_Jl_compareUnsigned_10 ?_
  exact W.iret hx hb hr (fun t ht hW => ⟨_, rfl, by simp only [wf_ult, wf_ueq], ht⟩) (fun q h => by cases h) d_Jl_compareUnsigned_13 hlocks

set_option maxHeartbeats 4000000 in
set_option maxRecDepth 100000 in
theorem kX_cu {p : Program} {l : Launch} {e : Env} {R : Room} {s : State} {m : MethodId} {args : Array Value} {below : List Frame} {meth : Method} {c : Code} {H : Heap} {locs : List Loc} {cells slots : Nat} {Q : State → Prop} {cc : ByteArray} {pc nL : Nat} {ls : Array Slot} {rest : List Value} {x y : Int64} (C : CallFix p m c cc nL s args wG RX) (hsz : ls.size = nL) (hR : 2 ≤ R.frames ∧ 53 ≤ R.locals) (hw : (rest.map fun v => v.category).sum ≤ 8) (hc : cells ≤ R.cells ∧ slots ≤ R.slots) (hdg : decode cc pc = .ok (.invokestatic 107, 3)) (kk : W p l e R s m args below meth c H locs cells slots Q (F0 m (pc + 3) ls (.int (if uN x < uN y then -1 else if uN x = uN y then 0 else 1) :: rest))) : W p l e R s m args below meth c H locs cells slots Q (F0 m pc ls (.long y :: .long x :: rest)) := by
  refine vp_callSi (W.runS (As := [.long x, .long y]) (rest := rest) C (c_Jl_compareUnsigned l x y) (va_cwS 2 C.2.2.2.2 (wG_S (fun _ h => h) k_ml_X_107 k_st_Jl_compareUnsigned k_in_Jl k_Jl_compareUnsigned) rfl rfl rfl (by decide +kernel) ⟨hR.1, hR.2⟩) preEq rfl rfl hsz rfl (lv_room hw) hdg ⟨hc.1, hc.2⟩) (fun r hr => ?_)
  rw [hr]
  exact kk

theorem wf_cu_ge (x y : Int64) : (0 : Int32) ≤ (if uN x < uN y then -1 else if uN x = uN y then 0 else 1) ↔ ¬ uN x < uN y := by
  by_cases h : uN x < uN y
  · rw [if_pos h]; exact ⟨fun z => absurd z (by decide), fun z => absurd h z⟩
  · rw [if_neg h]; refine ⟨fun _ => h, fun _ => ?_⟩; split <;> decide
theorem wf_cu_lt (x y : Int64) : (if uN x < uN y then -1 else if uN x = uN y then 0 else 1 : Int32) < 0 ↔ uN x < uN y := by
  by_cases h : uN x < uN y
  · rw [if_pos h]; exact ⟨fun _ => h, fun _ => by decide⟩
  · rw [if_neg h]; refine ⟨fun z => ?_, fun z => absurd z h⟩; split at z <;> exact absurd z (by decide)
theorem wf_cu_eq (x y : Int64) : (if uN x < uN y then -1 else if uN x = uN y then 0 else 1 : Int32) = 0 ↔ uN x = uN y := by
  by_cases h : uN x < uN y
  · rw [if_pos h]; exact ⟨fun z => absurd z (by decide), fun z => by omega⟩
  · rw [if_neg h]
    by_cases h2 : uN x = uN y
    · rw [if_pos h2]; exact ⟨fun _ => h2, fun _ => rfl⟩
    · rw [if_neg h2]; exact ⟨fun z => absurd z (by decide), fun z => absurd z h2⟩

set_option maxHeartbeats 4000000 in
set_option maxRecDepth 100000 in
/-- oneIfBelow -/
theorem c_X_oneIfBelow (l : Launch) (x y : Int64) : Met l y_X_oneIfBelow (.code y_X_oneIfBelow b_X_oneIfBelow 4 (some .long) :: wG) (wf_rm 2 60 0 0) (fun v _ => v = ([.long x, .long y] : List Value).toArray) (vp_Sl (fun r => r = wf_ob x y)) 0 0 (fun _ => False) := by
  refine wf_openS (by decide) (Nat.le_of_ble_eq_true rfl) ?_
  intro p e s m below meth c ls C hr hlocks hl
  have hx := C.1
  have hb := C.2.1
  have hml := C.2.2.1
  have hown := C.2.2.2.1
  have hts := C.2.2.2.2
  have hl : lv_has ls 4 [(0, .long (x)), (2, .long (y))] := hl
  refine lv_lload_n hx hb d_X_oneIfBelow_0 rfl (lv_at hl 0 rfl) ?_
  refine lv_lload_n hx hb d_X_oneIfBelow_1 rfl (lv_at hl 1 rfl) ?_
  refine kX_cu C hl.1 ⟨Nat.le_of_ble_eq_true rfl, Nat.le_of_ble_eq_true rfl⟩ (Nat.le_of_ble_eq_true rfl) ⟨Nat.le_of_ble_eq_true rfl, Nat.le_of_ble_eq_true rfl⟩ d_X_oneIfBelow_2 ?_
  refine lv_if_ge (tgt := 12) hx hb d_X_oneIfBelow_5 (by decide) (fun c_1 => ?_) (fun c_1 => ?_)
  · refine lv_lconst (v := 0) hx hb d_X_oneIfBelow_12 (by decide) ?_
    exact W.lret hx hb hr (fun t ht hW => ⟨_, rfl, by rw [wf_cu_ge] at c_1; unfold wf_ob; rw [if_neg c_1], ht⟩) (fun q h => by cases h) d_X_oneIfBelow_13 hlocks
  · refine lv_lconst (v := 1) hx hb d_X_oneIfBelow_8 (by decide) ?_
    refine lv_goto (tgt := 13) hx hb d_X_oneIfBelow_9 (by decide) ?_
    exact W.lret hx hb hr (fun t ht hW => ⟨_, rfl, by rw [wf_cu_ge] at c_1; unfold wf_ob; rw [if_pos (Decidable.not_not.mp c_1)], ht⟩) (fun q h => by cases h) d_X_oneIfBelow_13 hlocks

set_option maxHeartbeats 4000000 in
set_option maxRecDepth 100000 in
theorem kX_one {p : Program} {l : Launch} {e : Env} {R : Room} {s : State} {m : MethodId} {args : Array Value} {below : List Frame} {meth : Method} {c : Code} {H : Heap} {locs : List Loc} {cells slots : Nat} {Q : State → Prop} {cc : ByteArray} {pc nL : Nat} {ls : Array Slot} {rest : List Value} {x y : Int64} (C : CallFix p m c cc nL s args wG RX) (hsz : ls.size = nL) (hR : 3 ≤ R.frames ∧ 83 ≤ R.locals) (hw : (rest.map fun v => v.category).sum ≤ 8) (hc : cells ≤ R.cells ∧ slots ≤ R.slots) (hdg : decode cc pc = .ok (.invokestatic 35, 3)) (kk : W p l e R s m args below meth c H locs cells slots Q (F0 m (pc + 3) ls (.long (wf_ob x y) :: rest))) : W p l e R s m args below meth c H locs cells slots Q (F0 m pc ls (.long y :: .long x :: rest)) := by
  refine vp_callSl (W.runS (As := [.long x, .long y]) (rest := rest) C (c_X_oneIfBelow l x y) (va_cwS 2 C.2.2.2.2 (wG_S (fun _ h => h) k_ml_X_35 k_st_X_oneIfBelow k_in_X k_X_oneIfBelow) rfl rfl rfl (by decide +kernel) ⟨hR.1, hR.2⟩) preEq rfl rfl hsz rfl (lv_room hw) hdg ⟨hc.1, hc.2⟩) (fun r hr => ?_)
  rw [hr]
  exact kk

set_option maxHeartbeats 4000000 in
set_option maxRecDepth 100000 in
/-- isBelow -/
theorem c_X_isBelow (l : Launch) (xh xl yh yl : Int64) : Met l y_X_isBelow (.code y_X_isBelow b_X_isBelow 9 (some .boolean) :: wG) (wf_rm 2 60 0 0) (fun v _ => v = ([.long xh, .long xl, .long yh, .long yl] : List Value).toArray) (vp_Si (fun r => r = wf_bi (decide (wf_V xh xl < wf_V yh yl)))) 0 0 (fun _ => False) := by
  refine wf_openS (by decide) (Nat.le_of_ble_eq_true rfl) ?_
  intro p e s m below meth c ls C hr hlocks hl
  have hx := C.1
  have hb := C.2.1
  have hml := C.2.2.1
  have hown := C.2.2.2.1
  have hts := C.2.2.2.2
  have hl : lv_has ls 9 [(0, .long (xh)), (2, .long (xl)), (4, .long (yh)), (6, .long (yl))] := hl
  refine lv_lload_n hx hb d_X_isBelow_0 rfl (lv_at hl 0 rfl) ?_
  refine lv_lload hx hb d_X_isBelow_1 (lv_at hl 2 rfl) ?_
  refine kX_cu C hl.1 ⟨Nat.le_of_ble_eq_true rfl, Nat.le_of_ble_eq_true rfl⟩ (Nat.le_of_ble_eq_true rfl) ⟨Nat.le_of_ble_eq_true rfl, Nat.le_of_ble_eq_true rfl⟩ d_X_isBelow_3 ?_
  refine lv_topi (fun o1 eo1 => ?_)
  refine lv_istore (lv' := [(8, .int (o1)), (0, .long (xh)), (2, .long (xl)), (4, .long (yh)), (6, .long (yl))]) hx hb d_X_isBelow_6 hl (by decide) rfl (fun ls hl => ?_)
  refine lv_iload hx hb d_X_isBelow_8 (lv_at hl 0 rfl) ?_
  refine lv_if_lt (tgt := 27) hx hb d_X_isBelow_10 (by decide) (fun c_1 => ?_) (fun c_1 => ?_)
  · refine lv_iconst (v := 1) hx hb d_X_isBelow_27 (by decide) ?_
    refine lv_goto (tgt := 32) hx hb d_X_isBelow_28 (by decide) ?_
    exact W.zret hx hb hr rfl (fun t ht hW => ⟨_, rfl, by
      simp only [eo1, wf_cu_lt, wf_cu_eq, wf_cu_ge] at *
      have h1 := uN_lt xl
      have h2 := uN_lt yl
      have h3 :  wf_V xh xl < wf_V yh yl := by unfold wf_V; omega
      rw [decide_eq_true h3]; rfl, ht⟩) (fun q h => by cases h) d_X_isBelow_32 hlocks
  · refine lv_iload hx hb d_X_isBelow_13 (lv_at hl 0 rfl) ?_
    refine lv_if_ne (tgt := 31) hx hb d_X_isBelow_15 (by decide) (fun c_2 => ?_) (fun c_2 => ?_)
    · refine lv_iconst (v := 0) hx hb d_X_isBelow_31 (by decide) ?_
      exact W.zret hx hb hr rfl (fun t ht hW => ⟨_, rfl, by
        simp only [eo1, wf_cu_lt, wf_cu_eq, wf_cu_ge] at *
        have h1 := uN_lt xl
        have h2 := uN_lt yl
        have h3 : ¬ wf_V xh xl < wf_V yh yl := by unfold wf_V; omega
        rw [decide_eq_false h3]; rfl, ht⟩) (fun q h => by cases h) d_X_isBelow_32 hlocks
    · refine lv_lload_n hx hb d_X_isBelow_18 rfl (lv_at hl 2 rfl) ?_
      refine lv_lload hx hb d_X_isBelow_19 (lv_at hl 4 rfl) ?_
      refine kX_cu C hl.1 ⟨Nat.le_of_ble_eq_true rfl, Nat.le_of_ble_eq_true rfl⟩ (Nat.le_of_ble_eq_true rfl) ⟨Nat.le_of_ble_eq_true rfl, Nat.le_of_ble_eq_true rfl⟩ d_X_isBelow_21 ?_
      refine lv_if_ge (tgt := 31) hx hb d_X_isBelow_24 (by decide) (fun c_3 => ?_) (fun c_3 => ?_)
      · refine lv_iconst (v := 0) hx hb d_X_isBelow_31 (by decide) ?_
        exact W.zret hx hb hr rfl (fun t ht hW => ⟨_, rfl, by
          simp only [eo1, wf_cu_lt, wf_cu_eq, wf_cu_ge] at *
          have h1 := uN_lt xl
          have h2 := uN_lt yl
          have h3 : ¬ wf_V xh xl < wf_V yh yl := by unfold wf_V; omega
          rw [decide_eq_false h3]; rfl, ht⟩) (fun q h => by cases h) d_X_isBelow_32 hlocks
      · refine lv_iconst (v := 1) hx hb d_X_isBelow_27 (by decide) ?_
        refine lv_goto (tgt := 32) hx hb d_X_isBelow_28 (by decide) ?_
        exact W.zret hx hb hr rfl (fun t ht hW => ⟨_, rfl, by
          simp only [eo1, wf_cu_lt, wf_cu_eq, wf_cu_ge] at *
          have h1 := uN_lt xl
          have h2 := uN_lt yl
          have h3 :  wf_V xh xl < wf_V yh yl := by unfold wf_V; omega
          rw [decide_eq_true h3]; rfl, ht⟩) (fun q h => by cases h) d_X_isBelow_32 hlocks

set_option maxHeartbeats 4000000 in
set_option maxRecDepth 100000 in
theorem kX_below {p : Program} {l : Launch} {e : Env} {R : Room} {s : State} {m : MethodId} {args : Array Value} {below : List Frame} {meth : Method} {c : Code} {H : Heap} {locs : List Loc} {cells slots : Nat} {Q : State → Prop} {cc : ByteArray} {pc nL : Nat} {ls : Array Slot} {rest : List Value} {xh xl yh yl : Int64} (C : CallFix p m c cc nL s args wG RX) (hsz : ls.size = nL) (hR : 3 ≤ R.frames ∧ 88 ≤ R.locals) (hw : (rest.map fun v => v.category).sum ≤ 8) (hc : cells ≤ R.cells ∧ slots ≤ R.slots) (hdg : decode cc pc = .ok (.invokestatic 39, 3)) (kk : W p l e R s m args below meth c H locs cells slots Q (F0 m (pc + 3) ls (.int (wf_bi (decide (wf_V xh xl < wf_V yh yl))) :: rest))) : W p l e R s m args below meth c H locs cells slots Q (F0 m pc ls (.long yl :: .long yh :: .long xl :: .long xh :: rest)) := by
  refine vp_callSi (W.runS (As := [.long xh, .long xl, .long yh, .long yl]) (rest := rest) C (c_X_isBelow l xh xl yh yl) (va_cwS 4 C.2.2.2.2 (wG_S (fun _ h => h) k_ml_X_39 k_st_X_isBelow k_in_X k_X_isBelow) rfl rfl rfl (by decide +kernel) ⟨hR.1, hR.2⟩) preEq rfl rfl hsz rfl (lv_room hw) hdg ⟨hc.1, hc.2⟩) (fun r hr => ?_)
  rw [hr]
  exact kk
end
section
/-! ===== productOver, checkRegister, checkApart, store, storeProduct ===== -/
theorem wf_pover {x y v1 v2 v3 v4 v5 v6 : Int64} (e1 : uN v1 = uN x / 4294967296) (e2 : uN v2 = uN x % 4294967296) (e3 : uN v3 = uN y / 4294967296) (e4 : uN v4 = uN y % 4294967296)
    (e5 : uN v5 = (uN v1 * uN v4 % 18446744073709551616 + uN v2 * uN v4 % 18446744073709551616 / 4294967296) % 18446744073709551616) (e6 : uN v6 = (uN v2 * uN v3 % 18446744073709551616 + uN v5 % 4294967296) % 18446744073709551616) :
    ((uN v1 * uN v3 % 18446744073709551616 + uN v5 / 4294967296) % 18446744073709551616 + uN v6 / 4294967296) % 18446744073709551616 = uN x * uN y / wf_N := by
  have hx := uN_lt x
  have hy := uN_lt y
  obtain ⟨h1, h2, h3⟩ := wf_over (a := uN v1) (b := uN v2) (c := uN v3) (d := uN v4) (by omega) (by omega) (by omega) (by omega)
  have hxx : uN x = uN v1 * 4294967296 + uN v2 := by omega
  have hyy : uN y = uN v3 * 4294967296 + uN v4 := by omega
  have m1 : uN v1 * uN v3 ≤ 4294967295 * 4294967295 := wf_le_mul (by omega) (by omega)
  have m2 : uN v1 * uN v4 ≤ 4294967295 * 4294967295 := wf_le_mul (by omega) (by omega)
  have m3 : uN v2 * uN v3 ≤ 4294967295 * 4294967295 := wf_le_mul (by omega) (by omega)
  have m4 : uN v2 * uN v4 ≤ 4294967295 * 4294967295 := wf_le_mul (by omega) (by omega)
  rw [hxx, hyy]
  unfold wf_N
  rw [← h3]
  generalize uN v1 * uN v3 = p1 at *
  generalize uN v1 * uN v4 = p2 at *
  generalize uN v2 * uN v3 = p3 at *
  generalize uN v2 * uN v4 = p4 at *
  rw [Nat.mod_eq_of_lt (show p2 < 18446744073709551616 by omega), Nat.mod_eq_of_lt (show p4 < 18446744073709551616 by omega), Nat.mod_eq_of_lt h1] at e5
  rw [Nat.mod_eq_of_lt (show p3 < 18446744073709551616 by omega), e5, Nat.mod_eq_of_lt h2] at e6
  rw [e6, e5]
  omega

set_option maxHeartbeats 4000000 in
set_option maxRecDepth 100000 in
/-- productOver -/
theorem c_X_productOver (l : Launch) (x y : Int64) : Met l y_X_productOver (.code y_X_productOver b_X_productOver 16 (some .long) :: wG) (wf_rm 0 0 0 0) (fun v _ => v = ([.long x, .long y] : List Value).toArray) (vp_Sl (fun r => uN r = uN x * uN y / wf_N)) 0 0 (fun _ => False) := by
  refine wf_openS (by decide) (Nat.le_of_ble_eq_true rfl) ?_
  intro p e s m below meth c ls C hr hlocks hl
  have hx := C.1
  have hb := C.2.1
  have hml := C.2.2.1
  have hown := C.2.2.2.1
  have hts := C.2.2.2.2
  have hl : lv_has ls 16 [(0, .long (x)), (2, .long (y))] := hl
  refine lv_lload_n hx hb d_X_productOver_0 rfl (lv_at hl 0 rfl) ?_
  refine lv_bipush (v := 32) hx hb d_X_productOver_1 (by decide) ?_
  refine lv_lushr hx hb d_X_productOver_3 rfl ?_
  refine lv_topl (fun v_1 ev_1 => ?_)
  refine lv_lstore (lv' := [(4, .long (v_1)), (0, .long (x)), (2, .long (y))]) hx hb d_X_productOver_4 hl (by decide) rfl (fun ls hl => ?_)
  refine lv_lload_n hx hb d_X_productOver_6 rfl (lv_at hl 1 rfl) ?_
  refine lv_ldc2 (v := 4294967295) hx hb hown (hts _ (k_cl_X_112)) d_X_productOver_7 ?_
  refine lv_land hx hb d_X_productOver_10 ?_
  refine lv_topl (fun v_2 ev_2 => ?_)
  refine lv_lstore (lv' := [(6, .long (v_2)), (4, .long (v_1)), (0, .long (x)), (2, .long (y))]) hx hb d_X_productOver_11 hl (by decide) rfl (fun ls hl => ?_)
  refine lv_lload_n hx hb d_X_productOver_13 rfl (lv_at hl 3 rfl) ?_
  refine lv_bipush (v := 32) hx hb d_X_productOver_14 (by decide) ?_
  refine lv_lushr hx hb d_X_productOver_16 rfl ?_
  refine lv_topl (fun v_3 ev_3 => ?_)
  refine lv_lstore (lv' := [(8, .long (v_3)), (6, .long (v_2)), (4, .long (v_1)), (0, .long (x)), (2, .long (y))]) hx hb d_X_productOver_17 hl (by decide) rfl (fun ls hl => ?_)
  refine lv_lload_n hx hb d_X_productOver_19 rfl (lv_at hl 4 rfl) ?_
  refine lv_ldc2 (v := 4294967295) hx hb hown (hts _ (k_cl_X_112)) d_X_productOver_20 ?_
  refine lv_land hx hb d_X_productOver_23 ?_
  refine lv_topl (fun v_4 ev_4 => ?_)
  refine lv_lstore (lv' := [(10, .long (v_4)), (8, .long (v_3)), (6, .long (v_2)), (4, .long (v_1)), (0, .long (x)), (2, .long (y))]) hx hb d_X_productOver_24 hl (by decide) rfl (fun ls hl => ?_)
  refine lv_lload hx hb d_X_productOver_26 (lv_at hl 3 rfl) ?_
  refine lv_lload hx hb d_X_productOver_28 (lv_at hl 0 rfl) ?_
  refine lv_lmul hx hb d_X_productOver_30 ?_
  refine lv_lload hx hb d_X_productOver_31 (lv_at hl 2 rfl) ?_
  refine lv_lload hx hb d_X_productOver_33 (lv_at hl 0 rfl) ?_
  refine lv_lmul hx hb d_X_productOver_35 ?_
  refine lv_bipush (v := 32) hx hb d_X_productOver_36 (by decide) ?_
  refine lv_lushr hx hb d_X_productOver_38 rfl ?_
  refine lv_ladd hx hb d_X_productOver_39 ?_
  refine lv_topl (fun v_5 ev_5 => ?_)
  refine lv_lstore (lv' := [(12, .long (v_5)), (10, .long (v_4)), (8, .long (v_3)), (6, .long (v_2)), (4, .long (v_1)), (0, .long (x)), (2, .long (y))]) hx hb d_X_productOver_40 hl (by decide) rfl (fun ls hl => ?_)
  refine lv_lload hx hb d_X_productOver_42 (lv_at hl 3 rfl) ?_
  refine lv_lload hx hb d_X_productOver_44 (lv_at hl 2 rfl) ?_
  refine lv_lmul hx hb d_X_productOver_46 ?_
  refine lv_lload hx hb d_X_productOver_47 (lv_at hl 0 rfl) ?_
  refine lv_ldc2 (v := 4294967295) hx hb hown (hts _ (k_cl_X_112)) d_X_productOver_49 ?_
  refine lv_land hx hb d_X_productOver_52 ?_
  refine lv_ladd hx hb d_X_productOver_53 ?_
  refine lv_topl (fun v_6 ev_6 => ?_)
  refine lv_lstore (lv' := [(14, .long (v_6)), (12, .long (v_5)), (10, .long (v_4)), (8, .long (v_3)), (6, .long (v_2)), (4, .long (v_1)), (0, .long (x)), (2, .long (y))]) hx hb d_X_productOver_54 hl (by decide) rfl (fun ls hl => ?_)
  refine lv_lload hx hb d_X_productOver_56 (lv_at hl 5 rfl) ?_
  refine lv_lload hx hb d_X_productOver_58 (lv_at hl 3 rfl) ?_
  refine lv_lmul hx hb d_X_productOver_60 ?_
  refine lv_lload hx hb d_X_productOver_61 (lv_at hl 1 rfl) ?_
  refine lv_bipush (v := 32) hx hb d_X_productOver_63 (by decide) ?_
  refine lv_lushr hx hb d_X_productOver_65 rfl ?_
  refine lv_ladd hx hb d_X_productOver_66 ?_
  refine lv_lload hx hb d_X_productOver_67 (lv_at hl 0 rfl) ?_
  refine lv_bipush (v := 32) hx hb d_X_productOver_69 (by decide) ?_
  refine lv_lushr hx hb d_X_productOver_71 rfl ?_
  refine lv_ladd hx hb d_X_productOver_72 ?_
  exact W.lret hx hb hr (fun t ht hW => ⟨_, rfl, by show uN _ = uN x * uN y / wf_N; rw [uN_add, uN_add, uN_mul, uN_s32, uN_s32]; exact wf_pover (x := x) (y := y) (v1 := v_1) (v2 := v_2) (v3 := v_3) (v4 := v_4) (v5 := v_5) (v6 := v_6) (by rw [ev_1, uN_s32]) (by rw [ev_2, uN_lo]) (by rw [ev_3, uN_s32]) (by rw [ev_4, uN_lo]) (by rw [ev_5, uN_add, uN_mul, uN_s32, uN_mul]) (by rw [ev_6, uN_add, uN_mul, uN_lo]), ht⟩) (fun q h => by cases h) d_X_productOver_73 hlocks

set_option maxHeartbeats 4000000 in
set_option maxRecDepth 100000 in
theorem kX_over {p : Program} {l : Launch} {e : Env} {R : Room} {s : State} {m : MethodId} {args : Array Value} {below : List Frame} {meth : Method} {c : Code} {H : Heap} {locs : List Loc} {cells slots : Nat} {Q : State → Prop} {cc : ByteArray} {pc nL : Nat} {ls : Array Slot} {rest : List Value} {x y : Int64} (C : CallFix p m c cc nL s args wG RX) (hsz : ls.size = nL) (hR : 1 ≤ R.frames ∧ 35 ≤ R.locals) (hw : (rest.map fun v => v.category).sum ≤ 8) (hc : cells ≤ R.cells ∧ slots ≤ R.slots) (hdg : decode cc pc = .ok (.invokestatic 97, 3)) (kk : ∀ r : Int64, uN r = uN x * uN y / wf_N → W p l e R s m args below meth c H locs cells slots Q (F0 m (pc + 3) ls (.long r :: rest))) : W p l e R s m args below meth c H locs cells slots Q (F0 m pc ls (.long y :: .long x :: rest)) := by
  exact vp_callSl (W.runS (As := [.long x, .long y]) (rest := rest) C (c_X_productOver l x y) (va_cwS 2 C.2.2.2.2 (wG_S (fun _ h => h) k_ml_X_97 k_st_X_productOver k_in_X k_X_productOver) rfl rfl rfl (by decide +kernel) ⟨hR.1, hR.2⟩) preEq rfl rfl hsz rfl (lv_room hw) hdg ⟨hc.1, hc.2⟩) (fun r hr => kk r hr)

set_option maxHeartbeats 4000000 in
set_option maxRecDepth 100000 in
/-- checkRegister of a register -/
theorem c_X_checkRegister (l : Launch) (r : Nat) (hr8 : r < 8) : Met l y_X_checkRegister (.code y_X_checkRegister b_X_checkRegister 1 none :: wG) (wf_rm 0 0 0 0) (fun v _ => v = ([.int (nI r)] : List Value).toArray) (va_Sv (fun _ => True)) 0 0 (fun _ => False) := by
  refine wf_openS (by decide) (Nat.le_of_ble_eq_true rfl) ?_
  intro p e s m below meth c ls C hr hlocks hl
  have hx := C.1
  have hb := C.2.1
  have hml := C.2.2.1
  have hown := C.2.2.2.1
  have hts := C.2.2.2.2
  have hl : lv_has ls 1 [(0, .int (nI r))] := hl
  refine lv_iload_n hx hb d_X_checkRegister_0 rfl (lv_at hl 0 rfl) ?_
  refine lv_if_lt (tgt := 10) hx hb d_X_checkRegister_1 (by decide) (fun c_1 => False.elim (by first | exact absurd c_1 (nI_pos (by omega)) | exact absurd (nI_pos (by omega)) c_1)) (fun c_1 => ?_)
  refine lv_iload_n hx hb d_X_checkRegister_4 rfl (lv_at hl 0 rfl) ?_
  refine lv_bipush (v := 8) hx hb d_X_checkRegister_5 (by decide) ?_
  refine lv_icmp_lt (tgt := 20) hx hb d_X_checkRegister_7 (by decide) (fun c_2 => ?_) (fun c_2 => False.elim (by first | exact absurd (nI_lt hr8 (by decide)) c_2 | exact absurd c_2 (nI_lt hr8 (by decide))))
  exact W.vret hx hb hr (fun t ht hW => ⟨rfl, trivial, ht⟩) (fun q h => by cases h) d_X_checkRegister_20 hlocks

set_option maxHeartbeats 4000000 in
set_option maxRecDepth 100000 in
theorem kX_chk {p : Program} {l : Launch} {e : Env} {R : Room} {s : State} {m : MethodId} {args : Array Value} {below : List Frame} {meth : Method} {c : Code} {H : Heap} {locs : List Loc} {cells slots : Nat} {Q : State → Prop} {cc : ByteArray} {pc nL : Nat} {ls : Array Slot} {rest : List Value} {r : Nat} (hr8 : r < 8) (C : CallFix p m c cc nL s args wG RX) (hsz : ls.size = nL) (hR : 1 ≤ R.frames ∧ 20 ≤ R.locals) (hw : (rest.map fun v => v.category).sum ≤ 8) (hc : cells ≤ R.cells ∧ slots ≤ R.slots) (hdg : decode cc pc = .ok (.invokestatic 27, 3)) (kk : W p l e R s m args below meth c H locs cells slots Q (F0 m (pc + 3) ls rest)) : W p l e R s m args below meth c H locs cells slots Q (F0 m pc ls (.int (nI r) :: rest)) := by
  exact va_csv (W.runS (As := [.int (nI r)]) (rest := rest) C (c_X_checkRegister l r hr8) (va_cwS 1 C.2.2.2.2 (wG_S (fun _ h => h) k_ml_X_27 k_st_X_checkRegister k_in_X k_X_checkRegister) rfl rfl rfl (by decide +kernel) ⟨hR.1, hR.2⟩) preEq rfl rfl hsz rfl (lv_room hw) hdg ⟨hc.1, hc.2⟩) (fun _ => kk)

set_option maxHeartbeats 4000000 in
set_option maxRecDepth 100000 in
/-- checkApart of two registers -/
theorem c_X_checkApart (l : Launch) (x y : Int32) (hne : ¬ x = y) : Met l y_X_checkApart (.code y_X_checkApart b_X_checkApart 2 none :: wG) (wf_rm 0 0 0 0) (fun v _ => v = ([.int x, .int y] : List Value).toArray) (va_Sv (fun _ => True)) 0 0 (fun _ => False) := by
  refine wf_openS (by decide) (Nat.le_of_ble_eq_true rfl) ?_
  intro p e s m below meth c ls C hr hlocks hl
  have hx := C.1
  have hb := C.2.1
  have hml := C.2.2.1
  have hown := C.2.2.2.1
  have hts := C.2.2.2.2
  have hl : lv_has ls 2 [(0, .int (x)), (1, .int (y))] := hl
  refine lv_iload_n hx hb d_X_checkApart_0 rfl (lv_at hl 0 rfl) ?_
  refine lv_iload_n hx hb d_X_checkApart_1 rfl (lv_at hl 1 rfl) ?_
  refine lv_icmp_ne (tgt := 15) hx hb d_X_checkApart_2 (by decide) (fun c_1 => ?_) (fun c_1 => False.elim (by first | exact absurd (hne) c_1 | exact absurd c_1 (hne)))
  exact W.vret hx hb hr (fun t ht hW => ⟨rfl, trivial, ht⟩) (fun q h => by cases h) d_X_checkApart_15 hlocks

set_option maxHeartbeats 4000000 in
set_option maxRecDepth 100000 in
theorem kX_apart {p : Program} {l : Launch} {e : Env} {R : Room} {s : State} {m : MethodId} {args : Array Value} {below : List Frame} {meth : Method} {c : Code} {H : Heap} {locs : List Loc} {cells slots : Nat} {Q : State → Prop} {cc : ByteArray} {pc nL : Nat} {ls : Array Slot} {rest : List Value} {x y : Int32} (hne : ¬ x = y) (C : CallFix p m c cc nL s args wG RX) (hsz : ls.size = nL) (hR : 1 ≤ R.frames ∧ 21 ≤ R.locals) (hw : (rest.map fun v => v.category).sum ≤ 8) (hc : cells ≤ R.cells ∧ slots ≤ R.slots) (hdg : decode cc pc = .ok (.invokestatic 43, 3)) (kk : W p l e R s m args below meth c H locs cells slots Q (F0 m (pc + 3) ls rest)) : W p l e R s m args below meth c H locs cells slots Q (F0 m pc ls (.int y :: .int x :: rest)) := by
  exact va_csv (W.runS (As := [.int x, .int y]) (rest := rest) C (c_X_checkApart l x y hne) (va_cwS 2 C.2.2.2.2 (wG_S (fun _ h => h) k_ml_X_43 k_st_X_checkApart k_in_X k_X_checkApart) rfl rfl rfl (by decide +kernel) ⟨hR.1, hR.2⟩) preEq rfl rfl hsz rfl (lv_room hw) hdg ⟨hc.1, hc.2⟩) (fun _ => kk)

set_option maxHeartbeats 4000000 in
set_option maxRecDepth 100000 in
/-- store -/
theorem c_X_store (l : Launch) (D : va_G) (q : Nat → Nat) (κ : Nat → ClassId) (u : SX) (r : Nat) (hr8 : r < 8) (h lo : Int64) (sz : Nat) : Met l y_X_store (.code y_X_store b_X_store 6 none :: wG) (wf_rm 0 0 0 0) (wf_Pc D vwCl (wX q κ u) (tyX κ) ([.ref (q 0), .int (nI r), .long h, .long lo]) sz) (va_Qv (fun v => v = (va_up u.1 r h, va_up u.2.1 r lo, u.2.2)) (wf_B D vwCl (wX q κ) (tyX κ) (va_A (wX q κ u) sz)) (va_A (wX q κ u) sz)) 0 0 (va_A (wX q κ u) sz) := by
  refine wf_open (by decide) (Nat.le_of_ble_eq_true rfl) k_X_store ?_
  intro p e s m below meth c ls hsz C hr hlocks hnm hex hP hK hD hl
  subst hsz
  have hx := C.1
  have hb := C.2.1
  have hml := C.2.2.1
  have hown := C.2.2.2.1
  have hts := C.2.2.2.2
  have hA : ∀ j : Nat, s.heap.size ≤ j → va_A (wX q κ u) s.heap.size j := fun j h => Or.inr h
  have hS : va_S (va_A (wX q κ u) s.heap.size) s.heap s.heap [] := va_S.rf
  generalize hAe : va_A (wX q κ u) s.heap.size = A at hA hS hD ⊢
  have hl : lv_has ls 6 [(0, .ref (q 0)), (1, .int (nI r)), (2, .long (h)), (4, .long (lo))] := hl
  refine lv_aload_n hx hb d_X_store_0 rfl (lv_at hl 0 rfl) ?_
  refine gX C hK hP 0 rfl 0 (by decide) k_fl_X_highs rfl d_X_store_1 ?_
  refine lv_iload_n hx hb d_X_store_4 rfl (lv_at hl 1 rfl) ?_
  refine lv_lload_n hx hb d_X_store_5 rfl (lv_at hl 2 rfl) ?_
  refine wf_last C hK hP hD hS 1 0 rfl rfl (k := r) rfl hr8 (by decide) d_X_store_6 (fun H locs hP hD hS => ?_)
  have hP : va_P D vwCl (wX q κ (va_up u.1 r h, u.2)) H := hP
  have hD : va_D A (wX q κ (va_up u.1 r h, u.2)) := hD
  generalize eu_1 : ((va_up u.1 r h, u.2) : SX) = u_1 at hP hD
  refine lv_aload_n hx hb d_X_store_7 rfl (lv_at hl 0 rfl) ?_
  refine gX C hK hP 0 rfl 1 (by decide) k_fl_X_lows rfl d_X_store_8 ?_
  refine lv_iload_n hx hb d_X_store_11 rfl (lv_at hl 1 rfl) ?_
  refine lv_lload hx hb d_X_store_12 (lv_at hl 3 rfl) ?_
  refine wf_last C hK hP hD hS 2 1 rfl rfl (k := r) rfl hr8 (by decide) d_X_store_14 (fun H locs hP hD hS => ?_)
  have hP : va_P D vwCl (wX q κ (u_1.1, va_up u_1.2.1 r lo, u_1.2.2)) H := hP
  have hD : va_D A (wX q κ (u_1.1, va_up u_1.2.1 r lo, u_1.2.2)) := hD
  generalize eu_2 : ((u_1.1, va_up u_1.2.1 r lo, u_1.2.2) : SX) = u_2 at hP hD
  exact wf_retv C hr hlocks u_2 (by subst eu_1; exact eu_2.symm) hP hK hD hS (fun _ h => h) d_X_store_15

set_option maxHeartbeats 4000000 in
set_option maxRecDepth 100000 in
theorem kX_store {p : Program} {l : Launch} {e : Env} {R : Room} {s : State} {m : MethodId} {args : Array Value} {below : List Frame} {meth : Method} {c : Code} {H : Heap} {locs : List Loc} {cells slots : Nat} {Q : State → Prop} {cc : ByteArray} {pc nL : Nat} {ls : Array Slot} {rest : List Value} {D : va_G} {q : Nat → Nat} {κ : Nat → ClassId} {A : Nat → Prop} {u : SX} {r : Nat} (hr8 : r < 8) {h lo : Int64} (C : CallFix p m c cc nL s args wG RX) (hsz : ls.size = nL) (hR : 1 ≤ R.frames ∧ 25 ≤ R.locals) (hw : (rest.map fun v => v.category).sum ≤ 8) (hc : cells + 0 ≤ R.cells ∧ slots + 0 ≤ R.slots) (hP : va_P D vwCl (wX q κ u) H) (hK : va_K D vwCl (tyX κ) s) (hD : va_D A (wX q κ u)) (hS : va_S A s.heap H locs) (hA : ∀ q, s.heap.size ≤ q → A q) (hdg : decode cc pc = .ok (.invokevirtual 31, 3)) (kk : ∀ (v : SX) (H1 : Heap) (locs1 : List Loc), v = (va_up u.1 r h, va_up u.2.1 r lo, u.2.2) → va_P D vwCl (wX q κ v) H1 → va_D A (wX q κ v) → va_S A s.heap H1 locs1 → W p l e R s m args below meth c H1 locs1 (cells) (slots) Q (F0 m (pc + 3) ls (rest))) : W p l e R s m args below meth c H locs cells slots Q (F0 m pc ls (.long lo :: .long h :: .int (nI r) :: .ref (q 0) :: rest)) := by
  exact wf_cv (va_runV (As := [.int (nI r), .long h, .long lo]) (rest := rest) C (c_X_store l D q κ u r hr8 h lo H.size) (cwV 3 C.2.2.2.2 (wG_V (fun _ h => h) k_ml_X_31 k_im_X_store k_se_X_store k_in_X k_X_store) rfl rfl rfl (by decide +kernel) ⟨hR.1, hR.2⟩) ⟨wf_blind, va_recv hK hP (ci := 0) (q0 := 0) rfl rfl, wf_pre hP hK hD⟩ rfl rfl hsz rfl (lv_room hw) hdg ⟨hc.1, hc.2⟩) (fun _ h => h) hS hD hA kk
end
section
/-! ===== storeProduct, storeQuotient, storeRoot ===== -/
/-- register r becomes n, all else stays -/
def wf_st (u v : SX) (r n : Nat) : Prop := ∃ h lo : Int64, v = (va_up u.1 r h, va_up u.2.1 r lo, u.2.2) ∧ wf_V h lo = n
def wf_Rx (u : SX) (r : Nat) : Nat := wf_V (u.1 r) (u.2.1 r)
theorem wf_st_R {u v : SX} {r n : Nat} (h : wf_st u v r n) (k : Nat) : wf_Rx v k = if k = r then n else wf_Rx u k := by
  obtain ⟨a, b, rfl, e⟩ := h
  unfold wf_Rx
  by_cases hk : k = r
  · subst hk
    rw [if_pos rfl]
    show wf_V (va_up u.1 k a k) (va_up u.2.1 k b k) = n
    rw [va_up_self, va_up_self]
    exact e
  · rw [if_neg hk]
    show wf_V (va_up u.1 r a k) (va_up u.2.1 r b k) = _
    rw [va_up_ne _ _ hk, va_up_ne _ _ hk]
theorem wf_st_r {u v : SX} {r n : Nat} (h : wf_st u v r n) : v.2.2 = u.2.2 := by
  obtain ⟨a, b, rfl, e⟩ := h
  rfl
theorem wf_Rx_lt (u : SX) (r : Nat) : wf_Rx u r < wf_NN := wf_V_lt _ _

set_option maxHeartbeats 4000000 in
set_option maxRecDepth 100000 in
/-- storeProduct -/
theorem c_X_storeProduct (l : Launch) (D : va_G) (q : Nat → Nat) (κ : Nat → ClassId) (u : SX) (ah al bh bl : Int64) (o : Nat) (ho : o < 8) (t : Nat) (ht : t < 8) (sz : Nat) : Met l y_X_storeProduct (.code y_X_storeProduct b_X_storeProduct 31 none :: wG) (wf_rm 3 90 0 0) (wf_Pc D vwCl (wX q κ u) (tyX κ) ([.ref (q 0), .long ah, .long al, .long bh, .long bl, .int (nI o), .int (nI t)]) sz) (va_Qv (fun v => ∃ w : SX, wf_st u w o (wf_V ah al * wf_V bh bl / wf_NN) ∧ wf_st w v t (wf_V ah al * wf_V bh bl % wf_NN)) (wf_B D vwCl (wX q κ) (tyX κ) (va_A (wX q κ u) sz)) (va_A (wX q κ u) sz)) 0 0 (va_A (wX q κ u) sz) := by
  refine wf_open (by decide) (Nat.le_of_ble_eq_true rfl) k_X_storeProduct ?_
  intro p e s m below meth c ls hsz C hr hlocks hnm hex hP hK hD hl
  subst hsz
  have hx := C.1
  have hb := C.2.1
  have hml := C.2.2.1
  have hown := C.2.2.2.1
  have hts := C.2.2.2.2
  have hA : ∀ j : Nat, s.heap.size ≤ j → va_A (wX q κ u) s.heap.size j := fun j h => Or.inr h
  have hS : va_S (va_A (wX q κ u) s.heap.size) s.heap s.heap [] := va_S.rf
  generalize hAe : va_A (wX q κ u) s.heap.size = A at hA hS hD ⊢
  have hl : lv_has ls 31 [(0, .ref (q 0)), (1, .long (ah)), (3, .long (al)), (5, .long (bh)), (7, .long (bl)), (9, .int (nI o)), (10, .int (nI t))] := hl
  refine lv_lload_n hx hb d_X_storeProduct_0 rfl (lv_at hl 1 rfl) ?_
  refine lv_lload hx hb d_X_storeProduct_1 (lv_at hl 4 rfl) ?_
  refine lv_lmul hx hb d_X_storeProduct_3 ?_
  refine lv_topl (fun v_1 ev_1 => ?_)
  refine lv_lstore (lv' := [(11, .long (v_1)), (0, .ref (q 0)), (1, .long (ah)), (3, .long (al)), (5, .long (bh)), (7, .long (bl)), (9, .int (nI o)), (10, .int (nI t))]) hx hb d_X_storeProduct_4 hl (by decide) rfl (fun ls hl => ?_)
  refine lv_lload_n hx hb d_X_storeProduct_6 rfl (lv_at hl 3 rfl) ?_
  refine lv_lload hx hb d_X_storeProduct_7 (lv_at hl 4 rfl) ?_
  refine lv_lmul hx hb d_X_storeProduct_9 ?_
  refine lv_topl (fun v_2 ev_2 => ?_)
  refine lv_lstore (lv' := [(13, .long (v_2)), (11, .long (v_1)), (0, .ref (q 0)), (1, .long (ah)), (3, .long (al)), (5, .long (bh)), (7, .long (bl)), (9, .int (nI o)), (10, .int (nI t))]) hx hb d_X_storeProduct_10 hl (by decide) rfl (fun ls hl => ?_)
  refine lv_lload hx hb d_X_storeProduct_12 (lv_at hl 1 rfl) ?_
  refine lv_lload hx hb d_X_storeProduct_14 (lv_at hl 0 rfl) ?_
  refine lv_ladd hx hb d_X_storeProduct_16 ?_
  refine lv_topl (fun v_3 ev_3 => ?_)
  refine lv_lstore (lv' := [(15, .long (v_3)), (13, .long (v_2)), (11, .long (v_1)), (0, .ref (q 0)), (1, .long (ah)), (3, .long (al)), (5, .long (bh)), (7, .long (bl)), (9, .int (nI o)), (10, .int (nI t))]) hx hb d_X_storeProduct_17 hl (by decide) rfl (fun ls hl => ?_)
  refine lv_lload hx hb d_X_storeProduct_19 (lv_at hl 0 rfl) ?_
  refine lv_lload_n hx hb d_X_storeProduct_21 rfl (lv_at hl 5 rfl) ?_
  refine lv_lload hx hb d_X_storeProduct_22 (lv_at hl 7 rfl) ?_
  refine kX_over C hl.1 ⟨Nat.le_of_ble_eq_true rfl, Nat.le_of_ble_eq_true rfl⟩ (Nat.le_of_ble_eq_true rfl) ⟨Nat.le_of_ble_eq_true rfl, Nat.le_of_ble_eq_true rfl⟩ d_X_storeProduct_24 (fun r_4 hr_4 => ?_)
  refine lv_ladd hx hb d_X_storeProduct_27 ?_
  refine lv_topl (fun v_5 ev_5 => ?_)
  refine lv_lstore (lv' := [(17, .long (v_5)), (15, .long (v_3)), (13, .long (v_2)), (11, .long (v_1)), (0, .ref (q 0)), (1, .long (ah)), (3, .long (al)), (5, .long (bh)), (7, .long (bl)), (9, .int (nI o)), (10, .int (nI t))]) hx hb d_X_storeProduct_28 hl (by decide) rfl (fun ls hl => ?_)
  refine lv_lload hx hb d_X_storeProduct_30 (lv_at hl 1 rfl) ?_
  refine lv_lload hx hb d_X_storeProduct_32 (lv_at hl 3 rfl) ?_
  refine kX_one C hl.1 ⟨Nat.le_of_ble_eq_true rfl, Nat.le_of_ble_eq_true rfl⟩ (Nat.le_of_ble_eq_true rfl) ⟨Nat.le_of_ble_eq_true rfl, Nat.le_of_ble_eq_true rfl⟩ d_X_storeProduct_34 ?_
  refine lv_lload hx hb d_X_storeProduct_37 (lv_at hl 0 rfl) ?_
  refine lv_lload hx hb d_X_storeProduct_39 (lv_at hl 1 rfl) ?_
  refine kX_one C hl.1 ⟨Nat.le_of_ble_eq_true rfl, Nat.le_of_ble_eq_true rfl⟩ (Nat.le_of_ble_eq_true rfl) ⟨Nat.le_of_ble_eq_true rfl, Nat.le_of_ble_eq_true rfl⟩ d_X_storeProduct_41 ?_
  refine lv_ladd hx hb d_X_storeProduct_44 ?_
  refine lv_topl (fun v_6 ev_6 => ?_)
  refine lv_lstore (lv' := [(19, .long (v_6)), (17, .long (v_5)), (15, .long (v_3)), (13, .long (v_2)), (11, .long (v_1)), (0, .ref (q 0)), (1, .long (ah)), (3, .long (al)), (5, .long (bh)), (7, .long (bl)), (9, .int (nI o)), (10, .int (nI t))]) hx hb d_X_storeProduct_45 hl (by decide) rfl (fun ls hl => ?_)
  refine lv_lload_n hx hb d_X_storeProduct_47 rfl (lv_at hl 6 rfl) ?_
  refine lv_lload hx hb d_X_storeProduct_48 (lv_at hl 9 rfl) ?_
  refine kX_over C hl.1 ⟨Nat.le_of_ble_eq_true rfl, Nat.le_of_ble_eq_true rfl⟩ (Nat.le_of_ble_eq_true rfl) ⟨Nat.le_of_ble_eq_true rfl, Nat.le_of_ble_eq_true rfl⟩ d_X_storeProduct_50 (fun r_7 hr_7 => ?_)
  refine lv_lstore (lv' := [(21, .long (r_7)), (19, .long (v_6)), (17, .long (v_5)), (15, .long (v_3)), (13, .long (v_2)), (11, .long (v_1)), (0, .ref (q 0)), (1, .long (ah)), (3, .long (al)), (5, .long (bh)), (7, .long (bl)), (9, .int (nI o)), (10, .int (nI t))]) hx hb d_X_storeProduct_53 hl (by decide) rfl (fun ls hl => ?_)
  refine lv_lload hx hb d_X_storeProduct_55 (lv_at hl 0 rfl) ?_
  refine lv_lload_n hx hb d_X_storeProduct_57 rfl (lv_at hl 8 rfl) ?_
  refine lv_lload hx hb d_X_storeProduct_58 (lv_at hl 9 rfl) ?_
  refine kX_over C hl.1 ⟨Nat.le_of_ble_eq_true rfl, Nat.le_of_ble_eq_true rfl⟩ (Nat.le_of_ble_eq_true rfl) ⟨Nat.le_of_ble_eq_true rfl, Nat.le_of_ble_eq_true rfl⟩ d_X_storeProduct_60 (fun r_8 hr_8 => ?_)
  refine lv_ladd hx hb d_X_storeProduct_63 ?_
  refine lv_topl (fun v_9 ev_9 => ?_)
  refine lv_lstore (lv' := [(23, .long (v_9)), (21, .long (r_7)), (19, .long (v_6)), (17, .long (v_5)), (15, .long (v_3)), (13, .long (v_2)), (11, .long (v_1)), (0, .ref (q 0)), (1, .long (ah)), (3, .long (al)), (5, .long (bh)), (7, .long (bl)), (9, .int (nI o)), (10, .int (nI t))]) hx hb d_X_storeProduct_64 hl (by decide) rfl (fun ls hl => ?_)
  refine lv_lload hx hb d_X_storeProduct_66 (lv_at hl 0 rfl) ?_
  refine lv_lload hx hb d_X_storeProduct_68 (lv_at hl 2 rfl) ?_
  refine lv_ladd hx hb d_X_storeProduct_70 ?_
  refine lv_topl (fun v_10 ev_10 => ?_)
  refine lv_lstore (lv' := [(25, .long (v_10)), (23, .long (v_9)), (21, .long (r_7)), (19, .long (v_6)), (17, .long (v_5)), (15, .long (v_3)), (13, .long (v_2)), (11, .long (v_1)), (0, .ref (q 0)), (1, .long (ah)), (3, .long (al)), (5, .long (bh)), (7, .long (bl)), (9, .int (nI o)), (10, .int (nI t))]) hx hb d_X_storeProduct_71 hl (by decide) rfl (fun ls hl => ?_)
  refine lv_lload hx hb d_X_storeProduct_73 (lv_at hl 0 rfl) ?_
  refine lv_lload_n hx hb d_X_storeProduct_75 rfl (lv_at hl 9 rfl) ?_
  refine lv_lload hx hb d_X_storeProduct_76 (lv_at hl 11 rfl) ?_
  refine lv_lmul hx hb d_X_storeProduct_78 ?_
  refine lv_ladd hx hb d_X_storeProduct_79 ?_
  refine lv_topl (fun v_11 ev_11 => ?_)
  refine lv_lstore (lv' := [(27, .long (v_11)), (25, .long (v_10)), (23, .long (v_9)), (21, .long (r_7)), (19, .long (v_6)), (17, .long (v_5)), (15, .long (v_3)), (13, .long (v_2)), (11, .long (v_1)), (0, .ref (q 0)), (1, .long (ah)), (3, .long (al)), (5, .long (bh)), (7, .long (bl)), (9, .int (nI o)), (10, .int (nI t))]) hx hb d_X_storeProduct_80 hl (by decide) rfl (fun ls hl => ?_)
  refine lv_lload hx hb d_X_storeProduct_82 (lv_at hl 2 rfl) ?_
  refine lv_lload hx hb d_X_storeProduct_84 (lv_at hl 3 rfl) ?_
  refine kX_one C hl.1 ⟨Nat.le_of_ble_eq_true rfl, Nat.le_of_ble_eq_true rfl⟩ (Nat.le_of_ble_eq_true rfl) ⟨Nat.le_of_ble_eq_true rfl, Nat.le_of_ble_eq_true rfl⟩ d_X_storeProduct_86 ?_
  refine lv_lload hx hb d_X_storeProduct_89 (lv_at hl 1 rfl) ?_
  refine lv_lload hx hb d_X_storeProduct_91 (lv_at hl 4 rfl) ?_
  refine kX_one C hl.1 ⟨Nat.le_of_ble_eq_true rfl, Nat.le_of_ble_eq_true rfl⟩ (Nat.le_of_ble_eq_true rfl) ⟨Nat.le_of_ble_eq_true rfl, Nat.le_of_ble_eq_true rfl⟩ d_X_storeProduct_93 ?_
  refine lv_ladd hx hb d_X_storeProduct_96 ?_
  refine lv_lload hx hb d_X_storeProduct_97 (lv_at hl 0 rfl) ?_
  refine lv_lload hx hb d_X_storeProduct_99 (lv_at hl 1 rfl) ?_
  refine kX_one C hl.1 ⟨Nat.le_of_ble_eq_true rfl, Nat.le_of_ble_eq_true rfl⟩ (Nat.le_of_ble_eq_true rfl) ⟨Nat.le_of_ble_eq_true rfl, Nat.le_of_ble_eq_true rfl⟩ d_X_storeProduct_101 ?_
  refine lv_ladd hx hb d_X_storeProduct_104 ?_
  refine lv_topl (fun v_12 ev_12 => ?_)
  refine lv_lstore (lv' := [(29, .long (v_12)), (27, .long (v_11)), (25, .long (v_10)), (23, .long (v_9)), (21, .long (r_7)), (19, .long (v_6)), (17, .long (v_5)), (15, .long (v_3)), (13, .long (v_2)), (11, .long (v_1)), (0, .ref (q 0)), (1, .long (ah)), (3, .long (al)), (5, .long (bh)), (7, .long (bl)), (9, .int (nI o)), (10, .int (nI t))]) hx hb d_X_storeProduct_105 hl (by decide) rfl (fun ls hl => ?_)
  refine lv_aload_n hx hb d_X_storeProduct_107 rfl (lv_at hl 10 rfl) ?_
  refine lv_iload hx hb d_X_storeProduct_108 (lv_at hl 15 rfl) ?_
  refine lv_lload_n hx hb d_X_storeProduct_110 rfl (lv_at hl 11 rfl) ?_
  refine lv_lload hx hb d_X_storeProduct_111 (lv_at hl 13 rfl) ?_
  refine kX_over C hl.1 ⟨Nat.le_of_ble_eq_true rfl, Nat.le_of_ble_eq_true rfl⟩ (Nat.le_of_ble_eq_true rfl) ⟨Nat.le_of_ble_eq_true rfl, Nat.le_of_ble_eq_true rfl⟩ d_X_storeProduct_113 (fun r_13 hr_13 => ?_)
  refine lv_lload hx hb d_X_storeProduct_116 (lv_at hl 0 rfl) ?_
  refine lv_ladd hx hb d_X_storeProduct_118 ?_
  refine lv_lload hx hb d_X_storeProduct_119 (lv_at hl 1 rfl) ?_
  refine kX_store (r := o) ho C hl.1 ⟨Nat.le_of_ble_eq_true rfl, Nat.le_of_ble_eq_true rfl⟩ (Nat.le_of_ble_eq_true rfl) ⟨Nat.le_of_ble_eq_true rfl, Nat.le_of_ble_eq_true rfl⟩ hP hK hD hS hA d_X_storeProduct_121 (fun u_14 H locs eu_14 hP hD hS => ?_)
  refine lv_aload_n hx hb d_X_storeProduct_124 rfl (lv_at hl 10 rfl) ?_
  refine lv_iload hx hb d_X_storeProduct_125 (lv_at hl 16 rfl) ?_
  refine lv_lload hx hb d_X_storeProduct_127 (lv_at hl 6 rfl) ?_
  refine lv_lload_n hx hb d_X_storeProduct_129 rfl (lv_at hl 12 rfl) ?_
  refine lv_lload hx hb d_X_storeProduct_130 (lv_at hl 14 rfl) ?_
  refine lv_lmul hx hb d_X_storeProduct_132 ?_
  refine kX_store (r := t) ht C hl.1 ⟨Nat.le_of_ble_eq_true rfl, Nat.le_of_ble_eq_true rfl⟩ (Nat.le_of_ble_eq_true rfl) ⟨Nat.le_of_ble_eq_true rfl, Nat.le_of_ble_eq_true rfl⟩ hP hK hD hS hA d_X_storeProduct_133 (fun u_15 H locs eu_15 hP hD hS => ?_)
  exact wf_retv C hr hlocks u_15 (⟨u_14, ⟨_, _, eu_14, (wf_prod (P := r_13) (Q := r_7) (U := r_8) (V := r_4) hr_13 hr_7 hr_8 hr_4 (by rw [ev_3, ev_1, ev_2]) ev_5 (by rw [ev_6, ev_1]) ev_9 ev_10 ev_11 ev_12).1⟩, ⟨_, _, eu_15, (wf_prod (P := r_13) (Q := r_7) (U := r_8) (V := r_4) hr_13 hr_7 hr_8 hr_4 (by rw [ev_3, ev_1, ev_2]) ev_5 (by rw [ev_6, ev_1]) ev_9 ev_10 ev_11 ev_12).2⟩⟩) hP hK hD hS (fun _ h => h) d_X_storeProduct_136

set_option maxHeartbeats 4000000 in
set_option maxRecDepth 100000 in
theorem kX_product {p : Program} {l : Launch} {e : Env} {R : Room} {s : State} {m : MethodId} {args : Array Value} {below : List Frame} {meth : Method} {c : Code} {H : Heap} {locs : List Loc} {cells slots : Nat} {Q : State → Prop} {cc : ByteArray} {pc nL : Nat} {ls : Array Slot} {rest : List Value} {D : va_G} {q : Nat → Nat} {κ : Nat → ClassId} {A : Nat → Prop} {u : SX} {ah al bh bl : Int64} {o : Nat} (ho : o < 8) {t : Nat} (ht : t < 8) (C : CallFix p m c cc nL s args wG RX) (hsz : ls.size = nL) (hR : 4 ≤ R.frames ∧ 140 ≤ R.locals) (hw : (rest.map fun v => v.category).sum ≤ 8) (hc : cells + 0 ≤ R.cells ∧ slots + 0 ≤ R.slots) (hP : va_P D vwCl (wX q κ u) H) (hK : va_K D vwCl (tyX κ) s) (hD : va_D A (wX q κ u)) (hS : va_S A s.heap H locs) (hA : ∀ q, s.heap.size ≤ q → A q) (hdg : decode cc pc = .ok (.invokevirtual 47, 3)) (kk : ∀ (v : SX) (H1 : Heap) (locs1 : List Loc), (∃ w : SX, wf_st u w o (wf_V ah al * wf_V bh bl / wf_NN) ∧ wf_st w v t (wf_V ah al * wf_V bh bl % wf_NN)) → va_P D vwCl (wX q κ v) H1 → va_D A (wX q κ v) → va_S A s.heap H1 locs1 → W p l e R s m args below meth c H1 locs1 (cells) (slots) Q (F0 m (pc + 3) ls (rest))) : W p l e R s m args below meth c H locs cells slots Q (F0 m pc ls (.int (nI t) :: .int (nI o) :: .long bl :: .long bh :: .long al :: .long ah :: .ref (q 0) :: rest)) := by
  exact wf_cv (va_runV (As := [.long ah, .long al, .long bh, .long bl, .int (nI o), .int (nI t)]) (rest := rest) C (c_X_storeProduct l D q κ u ah al bh bl o ho t ht H.size) (cwV 6 C.2.2.2.2 (wG_V (fun _ h => h) k_ml_X_47 k_im_X_storeProduct k_se_X_storeProduct k_in_X k_X_storeProduct) rfl rfl rfl (by decide +kernel) ⟨hR.1, hR.2⟩) ⟨wf_blind, va_recv hK hP (ci := 0) (q0 := 0) rfl rfl, wf_pre hP hK hD⟩ rfl rfl hsz rfl (lv_room hw) hdg ⟨hc.1, hc.2⟩) (fun _ h => h) hS hD hA kk
end
section
/-! ===== storeQuotient, storeRoot ===== -/
theorem wf_V_0 : wf_V 0 0 = 0 := by decide +kernel

set_option maxHeartbeats 4000000 in
set_option maxRecDepth 100000 in
/-- storeQuotient -/
theorem c_X_storeQuotient (l : Launch) (D : va_G) (q : Nat → Nat) (κ : Nat → ClassId) (u : SX) (ah al bh bl : Int64) (o : Nat) (ho : o < 8) (t : Nat) (ht : t < 8) (hb0 : 0 < wf_V bh bl) (sz : Nat) : Met l y_X_storeQuotient (.code y_X_storeQuotient b_X_storeQuotient 21 none :: wG) (wf_rm 3 90 0 0) (wf_Pc D vwCl (wX q κ u) (tyX κ) ([.ref (q 0), .long ah, .long al, .long bh, .long bl, .int (nI o), .int (nI t)]) sz) (va_Qv (fun v => ∃ w : SX, wf_st u w o (wf_V ah al / wf_V bh bl) ∧ wf_st w v t (wf_V ah al % wf_V bh bl)) (wf_B D vwCl (wX q κ) (tyX κ) (va_A (wX q κ u) sz)) (va_A (wX q κ u) sz)) 0 0 (va_A (wX q κ u) sz) := by
  refine wf_open (by decide) (Nat.le_of_ble_eq_true rfl) k_X_storeQuotient ?_
  intro p e s m below meth c ls hsz C hr hlocks hnm hex hP hK hD hl
  subst hsz
  have hx := C.1
  have hb := C.2.1
  have hml := C.2.2.1
  have hown := C.2.2.2.1
  have hts := C.2.2.2.2
  have hA : ∀ j : Nat, s.heap.size ≤ j → va_A (wX q κ u) s.heap.size j := fun j h => Or.inr h
  have hS : va_S (va_A (wX q κ u) s.heap.size) s.heap s.heap [] := va_S.rf
  generalize hAe : va_A (wX q κ u) s.heap.size = A at hA hS hD ⊢
  have hl : lv_has ls 21 [(0, .ref (q 0)), (1, .long (ah)), (3, .long (al)), (5, .long (bh)), (7, .long (bl)), (9, .int (nI o)), (10, .int (nI t))] := hl
  refine lv_lload_n hx hb d_X_storeQuotient_0 rfl (lv_at hl 1 rfl) ?_
  refine lv_lstore (lv' := [(11, .long (ah)), (0, .ref (q 0)), (1, .long (ah)), (3, .long (al)), (5, .long (bh)), (7, .long (bl)), (9, .int (nI o)), (10, .int (nI t))]) hx hb d_X_storeQuotient_1 hl (by decide) rfl (fun ls hl => ?_)
  refine lv_lload_n hx hb d_X_storeQuotient_3 rfl (lv_at hl 3 rfl) ?_
  refine lv_lstore (lv' := [(13, .long (al)), (11, .long (ah)), (0, .ref (q 0)), (1, .long (ah)), (3, .long (al)), (5, .long (bh)), (7, .long (bl)), (9, .int (nI o)), (10, .int (nI t))]) hx hb d_X_storeQuotient_4 hl (by decide) rfl (fun ls hl => ?_)
  refine lv_lconst (v := 0) hx hb d_X_storeQuotient_6 (by decide) ?_
  refine lv_lstore (lv' := [(15, .long (0)), (13, .long (al)), (11, .long (ah)), (0, .ref (q 0)), (1, .long (ah)), (3, .long (al)), (5, .long (bh)), (7, .long (bl)), (9, .int (nI o)), (10, .int (nI t))]) hx hb d_X_storeQuotient_7 hl (by decide) rfl (fun ls hl => ?_)
  refine lv_lconst (v := 0) hx hb d_X_storeQuotient_9 (by decide) ?_
  refine lv_lstore (lv' := [(17, .long (0)), (15, .long (0)), (13, .long (al)), (11, .long (ah)), (0, .ref (q 0)), (1, .long (ah)), (3, .long (al)), (5, .long (bh)), (7, .long (bl)), (9, .int (nI o)), (10, .int (nI t))]) hx hb d_X_storeQuotient_10 hl (by decide) rfl (fun ls hl => ?_)
  refine lv_iconst (v := 0) hx hb d_X_storeQuotient_12 (by decide) ?_
  refine lv_istore (lv' := [(19, .int (0)), (17, .long (0)), (15, .long (0)), (13, .long (al)), (11, .long (ah)), (0, .ref (q 0)), (1, .long (ah)), (3, .long (al)), (5, .long (bh)), (7, .long (bl)), (9, .int (nI o)), (10, .int (nI t))]) hx hb d_X_storeQuotient_13 hl (by decide) rfl (fun ls hl => ?_)
  refine wf_for (σ := Nat × Int64 × Int64 × Int64 × Int64) 128 (fun i x => wf_DI (wf_V ah al) (wf_V bh bl) i x.1 (wf_V x.2.2.2.1 x.2.2.2.2) (wf_V x.2.1 x.2.2.1)) (fun i x => [(19, .int (nI i)), (17, .long (x.2.2.2.2)), (15, .long (x.2.2.2.1)), (13, .long (x.2.2.1)), (11, .long (x.2.1)), (0, .ref (q 0)), (1, .long (ah)), (3, .long (al)), (5, .long (bh)), (7, .long (bl)), (9, .int (nI o)), (10, .int (nI t))]) (fun i x ls hi hI hl ih => ?_) (fun x ls hI hl => ?_) (0, ah, al, 0, 0) (by show wf_DI (wf_V ah al) (wf_V bh bl) 0 0 (wf_V 0 0) (wf_V ah al); rw [wf_V_0]; exact wf_DI_0 (by rw [wf_p128]; exact wf_V_lt _ _) hb0) (lv_sub hl [0, 1, 2, 3, 4, 5, 6, 7, 8, 9, 10, 11] rfl)
  · obtain ⟨q1, hh, hlo, fh, fl⟩ := x
    have hl : lv_has ls 21 [(19, .int (nI i)), (17, .long (fl)), (15, .long (fh)), (13, .long (hlo)), (11, .long (hh)), (0, .ref (q 0)), (1, .long (ah)), (3, .long (al)), (5, .long (bh)), (7, .long (bl)), (9, .int (nI o)), (10, .int (nI t))] := hl
    have hI : wf_DI (wf_V ah al) (wf_V bh bl) i q1 (wf_V fh fl) (wf_V hh hlo) := hI
    refine lv_iload hx hb d_X_storeQuotient_15 (lv_at hl 0 rfl) ?_
    refine lv_sipush (v := 128) hx hb d_X_storeQuotient_17 (by decide) ?_
    refine lv_icmp_ge (tgt := 132) hx hb d_X_storeQuotient_20 (by decide) (fun c_1 => False.elim (by first | exact absurd c_1 (nI_ge hi (by decide)) | exact absurd (nI_ge hi (by decide)) c_1)) (fun c_1 => ?_)
    refine wf_cutI (pcj := 35) (ls := ls) (rest := []) (fun z => z = wf_bi (decide (9223372036854775808 ≤ uN fh))) (fun z_2 ez_2 => ?_) (fun jn => ?_)
    · refine lv_istore (lv' := [(20, .int (z_2)), (19, .int (nI i)), (17, .long (fl)), (15, .long (fh)), (13, .long (hlo)), (11, .long (hh)), (0, .ref (q 0)), (1, .long (ah)), (3, .long (al)), (5, .long (bh)), (7, .long (bl)), (9, .int (nI o)), (10, .int (nI t))]) hx hb d_X_storeQuotient_35 hl (by decide) rfl (fun ls hl => ?_)
      refine lv_lload hx hb d_X_storeQuotient_37 (lv_at hl 3 rfl) ?_
      refine lv_iconst (v := 1) hx hb d_X_storeQuotient_39 (by decide) ?_
      refine lv_lshl hx hb d_X_storeQuotient_40 rfl ?_
      refine lv_lload hx hb d_X_storeQuotient_41 (lv_at hl 2 rfl) ?_
      refine lv_bipush (v := 63) hx hb d_X_storeQuotient_43 (by decide) ?_
      refine lv_lushr hx hb d_X_storeQuotient_45 rfl ?_
      refine lv_lor hx hb d_X_storeQuotient_46 ?_
      refine lv_topl (fun v_3 ev_3 => ?_)
      refine lv_lstore (lv' := [(15, .long (v_3)), (20, .int (z_2)), (19, .int (nI i)), (17, .long (fl)), (13, .long (hlo)), (11, .long (hh)), (0, .ref (q 0)), (1, .long (ah)), (3, .long (al)), (5, .long (bh)), (7, .long (bl)), (9, .int (nI o)), (10, .int (nI t))]) hx hb d_X_storeQuotient_47 hl (by decide) rfl (fun ls hl => ?_)
      refine lv_lload hx hb d_X_storeQuotient_49 (lv_at hl 3 rfl) ?_
      refine lv_iconst (v := 1) hx hb d_X_storeQuotient_51 (by decide) ?_
      refine lv_lshl hx hb d_X_storeQuotient_52 rfl ?_
      refine lv_lload hx hb d_X_storeQuotient_53 (lv_at hl 5 rfl) ?_
      refine lv_bipush (v := 63) hx hb d_X_storeQuotient_55 (by decide) ?_
      refine lv_lushr hx hb d_X_storeQuotient_57 rfl ?_
      refine lv_lor hx hb d_X_storeQuotient_58 ?_
      refine lv_topl (fun v_4 ev_4 => ?_)
      refine lv_lstore (lv' := [(17, .long (v_4)), (15, .long (v_3)), (20, .int (z_2)), (19, .int (nI i)), (13, .long (hlo)), (11, .long (hh)), (0, .ref (q 0)), (1, .long (ah)), (3, .long (al)), (5, .long (bh)), (7, .long (bl)), (9, .int (nI o)), (10, .int (nI t))]) hx hb d_X_storeQuotient_59 hl (by decide) rfl (fun ls hl => ?_)
      refine lv_lload hx hb d_X_storeQuotient_61 (lv_at hl 5 rfl) ?_
      refine lv_iconst (v := 1) hx hb d_X_storeQuotient_63 (by decide) ?_
      refine lv_lshl hx hb d_X_storeQuotient_64 rfl ?_
      refine lv_lload hx hb d_X_storeQuotient_65 (lv_at hl 4 rfl) ?_
      refine lv_bipush (v := 63) hx hb d_X_storeQuotient_67 (by decide) ?_
      refine lv_lushr hx hb d_X_storeQuotient_69 rfl ?_
      refine lv_lor hx hb d_X_storeQuotient_70 ?_
      refine lv_topl (fun v_5 ev_5 => ?_)
      refine lv_lstore (lv' := [(11, .long (v_5)), (17, .long (v_4)), (15, .long (v_3)), (20, .int (z_2)), (19, .int (nI i)), (13, .long (hlo)), (0, .ref (q 0)), (1, .long (ah)), (3, .long (al)), (5, .long (bh)), (7, .long (bl)), (9, .int (nI o)), (10, .int (nI t))]) hx hb d_X_storeQuotient_71 hl (by decide) rfl (fun ls hl => ?_)
      refine lv_lload hx hb d_X_storeQuotient_73 (lv_at hl 5 rfl) ?_
      refine lv_iconst (v := 1) hx hb d_X_storeQuotient_75 (by decide) ?_
      refine lv_lshl hx hb d_X_storeQuotient_76 rfl ?_
      refine lv_topl (fun v_6 ev_6 => ?_)
      refine lv_lstore (lv' := [(13, .long (v_6)), (11, .long (v_5)), (17, .long (v_4)), (15, .long (v_3)), (20, .int (z_2)), (19, .int (nI i)), (0, .ref (q 0)), (1, .long (ah)), (3, .long (al)), (5, .long (bh)), (7, .long (bl)), (9, .int (nI o)), (10, .int (nI t))]) hx hb d_X_storeQuotient_77 hl (by decide) rfl (fun ls hl => ?_)
      refine lv_iload hx hb d_X_storeQuotient_79 (lv_at hl 4 rfl) ?_
      refine lv_if_ne (tgt := 98) hx hb d_X_storeQuotient_81 (by decide) (fun c_7 => ?_) (fun c_7 => ?_)
      · refine lv_lload hx hb d_X_storeQuotient_98 (lv_at hl 3 rfl) ?_
        refine lv_lload hx hb d_X_storeQuotient_100 (lv_at hl 9 rfl) ?_
        refine lv_lsub hx hb d_X_storeQuotient_102 ?_
        refine lv_lload hx hb d_X_storeQuotient_103 (lv_at hl 2 rfl) ?_
        refine lv_lload hx hb d_X_storeQuotient_105 (lv_at hl 10 rfl) ?_
        refine kX_one C hl.1 ⟨Nat.le_of_ble_eq_true rfl, Nat.le_of_ble_eq_true rfl⟩ (Nat.le_of_ble_eq_true rfl) ⟨Nat.le_of_ble_eq_true rfl, Nat.le_of_ble_eq_true rfl⟩ d_X_storeQuotient_107 ?_
        refine lv_lsub hx hb d_X_storeQuotient_110 ?_
        refine lv_topl (fun v_8 ev_8 => ?_)
        refine lv_lstore (lv' := [(15, .long (v_8)), (13, .long (v_6)), (11, .long (v_5)), (17, .long (v_4)), (20, .int (z_2)), (19, .int (nI i)), (0, .ref (q 0)), (1, .long (ah)), (3, .long (al)), (5, .long (bh)), (7, .long (bl)), (9, .int (nI o)), (10, .int (nI t))]) hx hb d_X_storeQuotient_111 hl (by decide) rfl (fun ls hl => ?_)
        refine lv_lload hx hb d_X_storeQuotient_113 (lv_at hl 3 rfl) ?_
        refine lv_lload hx hb d_X_storeQuotient_115 (lv_at hl 10 rfl) ?_
        refine lv_lsub hx hb d_X_storeQuotient_117 ?_
        refine lv_topl (fun v_9 ev_9 => ?_)
        refine lv_lstore (lv' := [(17, .long (v_9)), (15, .long (v_8)), (13, .long (v_6)), (11, .long (v_5)), (20, .int (z_2)), (19, .int (nI i)), (0, .ref (q 0)), (1, .long (ah)), (3, .long (al)), (5, .long (bh)), (7, .long (bl)), (9, .int (nI o)), (10, .int (nI t))]) hx hb d_X_storeQuotient_118 hl (by decide) rfl (fun ls hl => ?_)
        refine lv_lload hx hb d_X_storeQuotient_120 (lv_at hl 2 rfl) ?_
        refine lv_lconst (v := 1) hx hb d_X_storeQuotient_122 (by decide) ?_
        refine lv_lor hx hb d_X_storeQuotient_123 ?_
        refine lv_topl (fun v_10 ev_10 => ?_)
        refine lv_lstore (lv' := [(13, .long (v_10)), (17, .long (v_9)), (15, .long (v_8)), (11, .long (v_5)), (20, .int (z_2)), (19, .int (nI i)), (0, .ref (q 0)), (1, .long (ah)), (3, .long (al)), (5, .long (bh)), (7, .long (bl)), (9, .int (nI o)), (10, .int (nI t))]) hx hb d_X_storeQuotient_124 hl (by decide) rfl (fun ls hl => ?_)
        refine lv_iinc (v := nI (i + 1)) (lv' := [(19, .int (nI (i + 1))), (13, .long (v_10)), (17, .long (v_9)), (15, .long (v_8)), (11, .long (v_5)), (20, .int (z_2)), (0, .ref (q 0)), (1, .long (ah)), (3, .long (al)), (5, .long (bh)), (7, .long (bl)), (9, .int (nI o)), (10, .int (nI t))]) hx hb d_X_storeQuotient_126 hl (k := 5) rfl (nI_1 _) (by decide) rfl (fun ls hl => ?_)
        refine lv_goto (tgt := 15) hx hb d_X_storeQuotient_129 (by decide) ?_
        exact ih (2 * q1 + 1, v_5, v_10, v_8, v_9) ls (by
          show wf_DI (wf_V ah al) (wf_V bh bl) (i + 1) (2 * q1 + 1) (wf_V v_8 v_9) (wf_V v_5 v_10)
          rw [ev_8, ev_9, ev_10]
          exact wf_q_yes hi hI (by rw [ev_3]; exact wf_s1 _ _) (by rw [ev_4]; exact wf_s1 _ _) (by rw [ev_5]; exact wf_s1 _ _) (by rw [ev_6]; exact uN_shl _) (Or.inl (of_decide_eq_true ((wf_bi1 _).mp (by rw [← ez_2]; exact c_7))))) (lv_sub hl [0, 2, 3, 1, 4, 6, 7, 8, 9, 10, 11, 12] rfl)
      · refine lv_lload hx hb d_X_storeQuotient_84 (lv_at hl 3 rfl) ?_
        refine lv_lload hx hb d_X_storeQuotient_86 (lv_at hl 2 rfl) ?_
        refine lv_lload hx hb d_X_storeQuotient_88 (lv_at hl 9 rfl) ?_
        refine lv_lload hx hb d_X_storeQuotient_90 (lv_at hl 10 rfl) ?_
        refine kX_below C hl.1 ⟨Nat.le_of_ble_eq_true rfl, Nat.le_of_ble_eq_true rfl⟩ (Nat.le_of_ble_eq_true rfl) ⟨Nat.le_of_ble_eq_true rfl, Nat.le_of_ble_eq_true rfl⟩ d_X_storeQuotient_92 ?_
        refine lv_if_ne (tgt := 126) hx hb d_X_storeQuotient_95 (by decide) (fun c_11 => ?_) (fun c_11 => ?_)
        · refine lv_iinc (v := nI (i + 1)) (lv' := [(19, .int (nI (i + 1))), (13, .long (v_6)), (11, .long (v_5)), (17, .long (v_4)), (15, .long (v_3)), (20, .int (z_2)), (0, .ref (q 0)), (1, .long (ah)), (3, .long (al)), (5, .long (bh)), (7, .long (bl)), (9, .int (nI o)), (10, .int (nI t))]) hx hb d_X_storeQuotient_126 hl (k := 5) rfl (nI_1 _) (by decide) rfl (fun ls hl => ?_)
          refine lv_goto (tgt := 15) hx hb d_X_storeQuotient_129 (by decide) ?_
          exact ih (2 * q1, v_5, v_6, v_3, v_4) ls (by
            show wf_DI (wf_V ah al) (wf_V bh bl) (i + 1) (2 * q1) (wf_V v_3 v_4) (wf_V v_5 v_6)
            exact wf_q_no hi hI (by rw [ev_3]; exact wf_s1 _ _) (by rw [ev_4]; exact wf_s1 _ _) (by rw [ev_5]; exact wf_s1 _ _) (by rw [ev_6]; exact uN_shl _) (of_decide_eq_false ((wf_bi0 _).mp (by rw [← ez_2]; exact c_7))) (of_decide_eq_true ((wf_bi1 _).mp c_11))) (lv_sub hl [0, 3, 4, 1, 2, 6, 7, 8, 9, 10, 11, 12] rfl)
        · refine lv_lload hx hb d_X_storeQuotient_98 (lv_at hl 3 rfl) ?_
          refine lv_lload hx hb d_X_storeQuotient_100 (lv_at hl 9 rfl) ?_
          refine lv_lsub hx hb d_X_storeQuotient_102 ?_
          refine lv_lload hx hb d_X_storeQuotient_103 (lv_at hl 2 rfl) ?_
          refine lv_lload hx hb d_X_storeQuotient_105 (lv_at hl 10 rfl) ?_
          refine kX_one C hl.1 ⟨Nat.le_of_ble_eq_true rfl, Nat.le_of_ble_eq_true rfl⟩ (Nat.le_of_ble_eq_true rfl) ⟨Nat.le_of_ble_eq_true rfl, Nat.le_of_ble_eq_true rfl⟩ d_X_storeQuotient_107 ?_
          refine lv_lsub hx hb d_X_storeQuotient_110 ?_
          refine lv_topl (fun v_12 ev_12 => ?_)
          refine lv_lstore (lv' := [(15, .long (v_12)), (13, .long (v_6)), (11, .long (v_5)), (17, .long (v_4)), (20, .int (z_2)), (19, .int (nI i)), (0, .ref (q 0)), (1, .long (ah)), (3, .long (al)), (5, .long (bh)), (7, .long (bl)), (9, .int (nI o)), (10, .int (nI t))]) hx hb d_X_storeQuotient_111 hl (by decide) rfl (fun ls hl => ?_)
          refine lv_lload hx hb d_X_storeQuotient_113 (lv_at hl 3 rfl) ?_
          refine lv_lload hx hb d_X_storeQuotient_115 (lv_at hl 10 rfl) ?_
          refine lv_lsub hx hb d_X_storeQuotient_117 ?_
          refine lv_topl (fun v_13 ev_13 => ?_)
          refine lv_lstore (lv' := [(17, .long (v_13)), (15, .long (v_12)), (13, .long (v_6)), (11, .long (v_5)), (20, .int (z_2)), (19, .int (nI i)), (0, .ref (q 0)), (1, .long (ah)), (3, .long (al)), (5, .long (bh)), (7, .long (bl)), (9, .int (nI o)), (10, .int (nI t))]) hx hb d_X_storeQuotient_118 hl (by decide) rfl (fun ls hl => ?_)
          refine lv_lload hx hb d_X_storeQuotient_120 (lv_at hl 2 rfl) ?_
          refine lv_lconst (v := 1) hx hb d_X_storeQuotient_122 (by decide) ?_
          refine lv_lor hx hb d_X_storeQuotient_123 ?_
          refine lv_topl (fun v_14 ev_14 => ?_)
          refine lv_lstore (lv' := [(13, .long (v_14)), (17, .long (v_13)), (15, .long (v_12)), (11, .long (v_5)), (20, .int (z_2)), (19, .int (nI i)), (0, .ref (q 0)), (1, .long (ah)), (3, .long (al)), (5, .long (bh)), (7, .long (bl)), (9, .int (nI o)), (10, .int (nI t))]) hx hb d_X_storeQuotient_124 hl (by decide) rfl (fun ls hl => ?_)
          refine lv_iinc (v := nI (i + 1)) (lv' := [(19, .int (nI (i + 1))), (13, .long (v_14)), (17, .long (v_13)), (15, .long (v_12)), (11, .long (v_5)), (20, .int (z_2)), (0, .ref (q 0)), (1, .long (ah)), (3, .long (al)), (5, .long (bh)), (7, .long (bl)), (9, .int (nI o)), (10, .int (nI t))]) hx hb d_X_storeQuotient_126 hl (k := 5) rfl (nI_1 _) (by decide) rfl (fun ls hl => ?_)
          refine lv_goto (tgt := 15) hx hb d_X_storeQuotient_129 (by decide) ?_
          exact ih (2 * q1 + 1, v_5, v_14, v_12, v_13) ls (by
            show wf_DI (wf_V ah al) (wf_V bh bl) (i + 1) (2 * q1 + 1) (wf_V v_12 v_13) (wf_V v_5 v_14)
            rw [ev_12, ev_13, ev_14]
            exact wf_q_yes hi hI (by rw [ev_3]; exact wf_s1 _ _) (by rw [ev_4]; exact wf_s1 _ _) (by rw [ev_5]; exact wf_s1 _ _) (by rw [ev_6]; exact uN_shl _) (Or.inr (of_decide_eq_false ((wf_bi0 _).mp c_11)))) (lv_sub hl [0, 2, 3, 1, 4, 6, 7, 8, 9, 10, 11, 12] rfl)
    · refine lv_lload hx hb d_X_storeQuotient_23 (lv_at hl 2 rfl) ?_
      refine lv_lconst (v := 0) hx hb d_X_storeQuotient_25 (by decide) ?_
      refine W.lcmp hx hb d_X_storeQuotient_26 ?_
      refine lv_if_ge (tgt := 34) hx hb d_X_storeQuotient_27 (by decide) (fun c_15 => ?_) (fun c_15 => ?_)
      · refine lv_iconst (v := 0) hx hb d_X_storeQuotient_34 (by decide) ?_
        exact jn _ (by rw [decide_eq_false (by have h := c_15; rw [lg_cmp_ge, wf_neg] at h; exact h)]; rfl)
      · refine lv_iconst (v := 1) hx hb d_X_storeQuotient_30 (by decide) ?_
        refine lv_goto (tgt := 35) hx hb d_X_storeQuotient_31 (by decide) ?_
        exact jn _ (by rw [decide_eq_true (by have h := c_15; rw [lg_cmp_ge, wf_neg] at h; exact Decidable.not_not.mp h)]; rfl)
  · obtain ⟨q1, hh, hlo, fh, fl⟩ := x
    have hl : lv_has ls 21 [(19, .int (nI 128)), (17, .long (fl)), (15, .long (fh)), (13, .long (hlo)), (11, .long (hh)), (0, .ref (q 0)), (1, .long (ah)), (3, .long (al)), (5, .long (bh)), (7, .long (bl)), (9, .int (nI o)), (10, .int (nI t))] := hl
    have hI : wf_DI (wf_V ah al) (wf_V bh bl) 128 q1 (wf_V fh fl) (wf_V hh hlo) := hI
    refine lv_iload hx hb d_X_storeQuotient_15 (lv_at hl 0 rfl) ?_
    refine lv_sipush (v := 128) hx hb d_X_storeQuotient_17 (by decide) ?_
    refine lv_icmp_ge (tgt := 132) hx hb d_X_storeQuotient_20 (by decide) (fun c_16 => ?_) (fun c_16 => False.elim (by first | exact absurd (nI_le (Nat.le_refl 128) (by decide)) c_16 | exact absurd c_16 (nI_le (Nat.le_refl 128) (by decide))))
    refine lv_aload_n hx hb d_X_storeQuotient_132 rfl (lv_at hl 5 rfl) ?_
    refine lv_iload hx hb d_X_storeQuotient_133 (lv_at hl 10 rfl) ?_
    refine lv_lload hx hb d_X_storeQuotient_135 (lv_at hl 4 rfl) ?_
    refine lv_lload hx hb d_X_storeQuotient_137 (lv_at hl 3 rfl) ?_
    refine kX_store (r := o) ho C hl.1 ⟨Nat.le_of_ble_eq_true rfl, Nat.le_of_ble_eq_true rfl⟩ (Nat.le_of_ble_eq_true rfl) ⟨Nat.le_of_ble_eq_true rfl, Nat.le_of_ble_eq_true rfl⟩ hP hK hD hS hA d_X_storeQuotient_139 (fun u_17 H locs eu_17 hP hD hS => ?_)
    refine lv_aload_n hx hb d_X_storeQuotient_142 rfl (lv_at hl 5 rfl) ?_
    refine lv_iload hx hb d_X_storeQuotient_143 (lv_at hl 11 rfl) ?_
    refine lv_lload hx hb d_X_storeQuotient_145 (lv_at hl 2 rfl) ?_
    refine lv_lload hx hb d_X_storeQuotient_147 (lv_at hl 1 rfl) ?_
    refine kX_store (r := t) ht C hl.1 ⟨Nat.le_of_ble_eq_true rfl, Nat.le_of_ble_eq_true rfl⟩ (Nat.le_of_ble_eq_true rfl) ⟨Nat.le_of_ble_eq_true rfl, Nat.le_of_ble_eq_true rfl⟩ hP hK hD hS hA d_X_storeQuotient_149 (fun u_18 H locs eu_18 hP hD hS => ?_)
    exact wf_retv C hr hlocks u_18 (⟨u_17, ⟨_, _, eu_17, (wf_DI_end hI).1⟩, ⟨_, _, eu_18, (wf_DI_end hI).2⟩⟩) hP hK hD hS (fun _ h => h) d_X_storeQuotient_152

set_option maxHeartbeats 4000000 in
set_option maxRecDepth 100000 in
theorem kX_quotient {p : Program} {l : Launch} {e : Env} {R : Room} {s : State} {m : MethodId} {args : Array Value} {below : List Frame} {meth : Method} {c : Code} {H : Heap} {locs : List Loc} {cells slots : Nat} {Q : State → Prop} {cc : ByteArray} {pc nL : Nat} {ls : Array Slot} {rest : List Value} {D : va_G} {q : Nat → Nat} {κ : Nat → ClassId} {A : Nat → Prop} {u : SX} {ah al bh bl : Int64} {o : Nat} (ho : o < 8) {t : Nat} (ht : t < 8) (hb0 : 0 < wf_V bh bl) (C : CallFix p m c cc nL s args wG RX) (hsz : ls.size = nL) (hR : 4 ≤ R.frames ∧ 130 ≤ R.locals) (hw : (rest.map fun v => v.category).sum ≤ 8) (hc : cells + 0 ≤ R.cells ∧ slots + 0 ≤ R.slots) (hP : va_P D vwCl (wX q κ u) H) (hK : va_K D vwCl (tyX κ) s) (hD : va_D A (wX q κ u)) (hS : va_S A s.heap H locs) (hA : ∀ q, s.heap.size ≤ q → A q) (hdg : decode cc pc = .ok (.invokevirtual 58, 3)) (kk : ∀ (v : SX) (H1 : Heap) (locs1 : List Loc), (∃ w : SX, wf_st u w o (wf_V ah al / wf_V bh bl) ∧ wf_st w v t (wf_V ah al % wf_V bh bl)) → va_P D vwCl (wX q κ v) H1 → va_D A (wX q κ v) → va_S A s.heap H1 locs1 → W p l e R s m args below meth c H1 locs1 (cells) (slots) Q (F0 m (pc + 3) ls (rest))) : W p l e R s m args below meth c H locs cells slots Q (F0 m pc ls (.int (nI t) :: .int (nI o) :: .long bl :: .long bh :: .long al :: .long ah :: .ref (q 0) :: rest)) := by
  exact wf_cv (va_runV (As := [.long ah, .long al, .long bh, .long bl, .int (nI o), .int (nI t)]) (rest := rest) C (c_X_storeQuotient l D q κ u ah al bh bl o ho t ht hb0 H.size) (cwV 6 C.2.2.2.2 (wG_V (fun _ h => h) k_ml_X_58 k_im_X_storeQuotient k_se_X_storeQuotient k_in_X k_X_storeQuotient) rfl rfl rfl (by decide +kernel) ⟨hR.1, hR.2⟩) ⟨wf_blind, va_recv hK hP (ci := 0) (q0 := 0) rfl rfl, wf_pre hP hK hD⟩ rfl rfl hsz rfl (lv_room hw) hdg ⟨hc.1, hc.2⟩) (fun _ h => h) hS hD hA kk

set_option maxHeartbeats 4000000 in
set_option maxRecDepth 100000 in
/-- storeRoot -/
theorem c_X_storeRoot (l : Launch) (D : va_G) (q : Nat → Nat) (κ : Nat → ClassId) (u : SX) (ah al : Int64) (o : Nat) (ho : o < 8) (t : Nat) (ht : t < 8) (sz : Nat) : Met l y_X_storeRoot (.code y_X_storeRoot b_X_storeRoot 22 none :: wG) (wf_rm 3 90 0 0) (wf_Pc D vwCl (wX q κ u) (tyX κ) ([.ref (q 0), .long ah, .long al, .int (nI o), .int (nI t)]) sz) (va_Qv (fun v => (∃ (g r : Nat), (wf_V ah al = g * g + r ∧ r ≤ 2 * g ∧ g < 2 ^ 64) ∧ ∃ w : SX, wf_st u w o g ∧ wf_st w v t r)) (wf_B D vwCl (wX q κ) (tyX κ) (va_A (wX q κ u) sz)) (va_A (wX q κ u) sz)) 0 0 (va_A (wX q κ u) sz) := by
  refine wf_open (by decide) (Nat.le_of_ble_eq_true rfl) k_X_storeRoot ?_
  intro p e s m below meth c ls hsz C hr hlocks hnm hex hP hK hD hl
  subst hsz
  have hx := C.1
  have hb := C.2.1
  have hml := C.2.2.1
  have hown := C.2.2.2.1
  have hts := C.2.2.2.2
  have hA : ∀ j : Nat, s.heap.size ≤ j → va_A (wX q κ u) s.heap.size j := fun j h => Or.inr h
  have hS : va_S (va_A (wX q κ u) s.heap.size) s.heap s.heap [] := va_S.rf
  generalize hAe : va_A (wX q κ u) s.heap.size = A at hA hS hD ⊢
  have hl : lv_has ls 22 [(0, .ref (q 0)), (1, .long (ah)), (3, .long (al)), (5, .int (nI o)), (6, .int (nI t))] := hl
  refine lv_lload_n hx hb d_X_storeRoot_0 rfl (lv_at hl 1 rfl) ?_
  refine lv_lstore (lv' := [(7, .long (ah)), (0, .ref (q 0)), (1, .long (ah)), (3, .long (al)), (5, .int (nI o)), (6, .int (nI t))]) hx hb d_X_storeRoot_1 hl (by decide) rfl (fun ls hl => ?_)
  refine lv_lload_n hx hb d_X_storeRoot_3 rfl (lv_at hl 3 rfl) ?_
  refine lv_lstore (lv' := [(9, .long (al)), (7, .long (ah)), (0, .ref (q 0)), (1, .long (ah)), (3, .long (al)), (5, .int (nI o)), (6, .int (nI t))]) hx hb d_X_storeRoot_4 hl (by decide) rfl (fun ls hl => ?_)
  refine lv_lconst (v := 0) hx hb d_X_storeRoot_6 (by decide) ?_
  refine lv_lstore (lv' := [(11, .long (0)), (9, .long (al)), (7, .long (ah)), (0, .ref (q 0)), (1, .long (ah)), (3, .long (al)), (5, .int (nI o)), (6, .int (nI t))]) hx hb d_X_storeRoot_7 hl (by decide) rfl (fun ls hl => ?_)
  refine lv_lconst (v := 0) hx hb d_X_storeRoot_9 (by decide) ?_
  refine lv_lstore (lv' := [(13, .long (0)), (11, .long (0)), (9, .long (al)), (7, .long (ah)), (0, .ref (q 0)), (1, .long (ah)), (3, .long (al)), (5, .int (nI o)), (6, .int (nI t))]) hx hb d_X_storeRoot_10 hl (by decide) rfl (fun ls hl => ?_)
  refine lv_lconst (v := 0) hx hb d_X_storeRoot_12 (by decide) ?_
  refine lv_lstore (lv' := [(15, .long (0)), (13, .long (0)), (11, .long (0)), (9, .long (al)), (7, .long (ah)), (0, .ref (q 0)), (1, .long (ah)), (3, .long (al)), (5, .int (nI o)), (6, .int (nI t))]) hx hb d_X_storeRoot_13 hl (by decide) rfl (fun ls hl => ?_)
  refine lv_iconst (v := 0) hx hb d_X_storeRoot_15 (by decide) ?_
  refine lv_istore (lv' := [(17, .int (0)), (15, .long (0)), (13, .long (0)), (11, .long (0)), (9, .long (al)), (7, .long (ah)), (0, .ref (q 0)), (1, .long (ah)), (3, .long (al)), (5, .int (nI o)), (6, .int (nI t))]) hx hb d_X_storeRoot_16 hl (by decide) rfl (fun ls hl => ?_)
  refine wf_for (σ := Int64 × Int64 × Int64 × Int64 × Int64) 64 (fun i x => wf_RI (wf_V ah al) i (uN x.2.2.1) (wf_V x.2.2.2.1 x.2.2.2.2) (wf_V x.1 x.2.1)) (fun i x => [(17, .int (nI i)), (15, .long (x.2.2.2.2)), (13, .long (x.2.2.2.1)), (11, .long (x.2.2.1)), (9, .long (x.2.1)), (7, .long (x.1)), (0, .ref (q 0)), (1, .long (ah)), (3, .long (al)), (5, .int (nI o)), (6, .int (nI t))]) (fun i x ls hi hI hl ih => ?_) (fun x ls hI hl => ?_) (ah, al, 0, 0, 0) (by show wf_RI (wf_V ah al) 0 (uN 0) (wf_V 0 0) (wf_V ah al); rw [wf_V_0, show uN (0 : Int64) = 0 from by decide]; exact wf_RI_0 (by rw [wf_p128]; exact wf_V_lt _ _)) (lv_sub hl [0, 1, 2, 3, 4, 5, 6, 7, 8, 9, 10] rfl)
  · obtain ⟨hh, hlo, f, fh, fl⟩ := x
    have hl : lv_has ls 22 [(17, .int (nI i)), (15, .long (fl)), (13, .long (fh)), (11, .long (f)), (9, .long (hlo)), (7, .long (hh)), (0, .ref (q 0)), (1, .long (ah)), (3, .long (al)), (5, .int (nI o)), (6, .int (nI t))] := hl
    have hI : wf_RI (wf_V ah al) i (uN f) (wf_V fh fl) (wf_V hh hlo) := hI
    refine lv_iload hx hb d_X_storeRoot_18 (lv_at hl 0 rfl) ?_
    refine lv_bipush (v := 64) hx hb d_X_storeRoot_20 (by decide) ?_
    refine lv_icmp_ge (tgt := 136) hx hb d_X_storeRoot_22 (by decide) (fun c_1 => False.elim (by first | exact absurd c_1 (nI_ge hi (by decide)) | exact absurd (nI_ge hi (by decide)) c_1)) (fun c_1 => ?_)
    refine lv_lload hx hb d_X_storeRoot_25 (lv_at hl 2 rfl) ?_
    refine lv_iconst (v := 2) hx hb d_X_storeRoot_27 (by decide) ?_
    refine lv_lshl hx hb d_X_storeRoot_28 rfl ?_
    refine lv_lload hx hb d_X_storeRoot_29 (lv_at hl 1 rfl) ?_
    refine lv_bipush (v := 62) hx hb d_X_storeRoot_31 (by decide) ?_
    refine lv_lushr hx hb d_X_storeRoot_33 rfl ?_
    refine lv_lor hx hb d_X_storeRoot_34 ?_
    refine lv_topl (fun v_2 ev_2 => ?_)
    refine lv_lstore (lv' := [(13, .long (v_2)), (17, .int (nI i)), (15, .long (fl)), (11, .long (f)), (9, .long (hlo)), (7, .long (hh)), (0, .ref (q 0)), (1, .long (ah)), (3, .long (al)), (5, .int (nI o)), (6, .int (nI t))]) hx hb d_X_storeRoot_35 hl (by decide) rfl (fun ls hl => ?_)
    refine lv_lload hx hb d_X_storeRoot_37 (lv_at hl 2 rfl) ?_
    refine lv_iconst (v := 2) hx hb d_X_storeRoot_39 (by decide) ?_
    refine lv_lshl hx hb d_X_storeRoot_40 rfl ?_
    refine lv_lload hx hb d_X_storeRoot_41 (lv_at hl 5 rfl) ?_
    refine lv_bipush (v := 62) hx hb d_X_storeRoot_43 (by decide) ?_
    refine lv_lushr hx hb d_X_storeRoot_45 rfl ?_
    refine lv_lor hx hb d_X_storeRoot_46 ?_
    refine lv_topl (fun v_3 ev_3 => ?_)
    refine lv_lstore (lv' := [(15, .long (v_3)), (13, .long (v_2)), (17, .int (nI i)), (11, .long (f)), (9, .long (hlo)), (7, .long (hh)), (0, .ref (q 0)), (1, .long (ah)), (3, .long (al)), (5, .int (nI o)), (6, .int (nI t))]) hx hb d_X_storeRoot_47 hl (by decide) rfl (fun ls hl => ?_)
    refine lv_lload hx hb d_X_storeRoot_49 (lv_at hl 5 rfl) ?_
    refine lv_iconst (v := 2) hx hb d_X_storeRoot_51 (by decide) ?_
    refine lv_lshl hx hb d_X_storeRoot_52 rfl ?_
    refine lv_lload hx hb d_X_storeRoot_53 (lv_at hl 4 rfl) ?_
    refine lv_bipush (v := 62) hx hb d_X_storeRoot_55 (by decide) ?_
    refine lv_lushr hx hb d_X_storeRoot_57 rfl ?_
    refine lv_lor hx hb d_X_storeRoot_58 ?_
    refine lv_topl (fun v_4 ev_4 => ?_)
    refine lv_lstore (lv' := [(7, .long (v_4)), (15, .long (v_3)), (13, .long (v_2)), (17, .int (nI i)), (11, .long (f)), (9, .long (hlo)), (0, .ref (q 0)), (1, .long (ah)), (3, .long (al)), (5, .int (nI o)), (6, .int (nI t))]) hx hb d_X_storeRoot_59 hl (by decide) rfl (fun ls hl => ?_)
    refine lv_lload hx hb d_X_storeRoot_61 (lv_at hl 5 rfl) ?_
    refine lv_iconst (v := 2) hx hb d_X_storeRoot_63 (by decide) ?_
    refine lv_lshl hx hb d_X_storeRoot_64 rfl ?_
    refine lv_topl (fun v_5 ev_5 => ?_)
    refine lv_lstore (lv' := [(9, .long (v_5)), (7, .long (v_4)), (15, .long (v_3)), (13, .long (v_2)), (17, .int (nI i)), (11, .long (f)), (0, .ref (q 0)), (1, .long (ah)), (3, .long (al)), (5, .int (nI o)), (6, .int (nI t))]) hx hb d_X_storeRoot_65 hl (by decide) rfl (fun ls hl => ?_)
    refine lv_lload hx hb d_X_storeRoot_67 (lv_at hl 5 rfl) ?_
    refine lv_bipush (v := 62) hx hb d_X_storeRoot_69 (by decide) ?_
    refine lv_lushr hx hb d_X_storeRoot_71 rfl ?_
    refine lv_topl (fun v_6 ev_6 => ?_)
    refine lv_lstore (lv' := [(18, .long (v_6)), (9, .long (v_5)), (7, .long (v_4)), (15, .long (v_3)), (13, .long (v_2)), (17, .int (nI i)), (11, .long (f)), (0, .ref (q 0)), (1, .long (ah)), (3, .long (al)), (5, .int (nI o)), (6, .int (nI t))]) hx hb d_X_storeRoot_72 hl (by decide) rfl (fun ls hl => ?_)
    refine lv_lload hx hb d_X_storeRoot_74 (lv_at hl 6 rfl) ?_
    refine lv_iconst (v := 2) hx hb d_X_storeRoot_76 (by decide) ?_
    refine lv_lshl hx hb d_X_storeRoot_77 rfl ?_
    refine lv_lconst (v := 1) hx hb d_X_storeRoot_78 (by decide) ?_
    refine lv_lor hx hb d_X_storeRoot_79 ?_
    refine lv_topl (fun v_7 ev_7 => ?_)
    refine lv_lstore (lv' := [(20, .long (v_7)), (18, .long (v_6)), (9, .long (v_5)), (7, .long (v_4)), (15, .long (v_3)), (13, .long (v_2)), (17, .int (nI i)), (11, .long (f)), (0, .ref (q 0)), (1, .long (ah)), (3, .long (al)), (5, .int (nI o)), (6, .int (nI t))]) hx hb d_X_storeRoot_80 hl (by decide) rfl (fun ls hl => ?_)
    refine lv_lload hx hb d_X_storeRoot_82 (lv_at hl 7 rfl) ?_
    refine lv_iconst (v := 1) hx hb d_X_storeRoot_84 (by decide) ?_
    refine lv_lshl hx hb d_X_storeRoot_85 rfl ?_
    refine lv_topl (fun v_8 ev_8 => ?_)
    refine lv_lstore (lv' := [(11, .long (v_8)), (20, .long (v_7)), (18, .long (v_6)), (9, .long (v_5)), (7, .long (v_4)), (15, .long (v_3)), (13, .long (v_2)), (17, .int (nI i)), (0, .ref (q 0)), (1, .long (ah)), (3, .long (al)), (5, .int (nI o)), (6, .int (nI t))]) hx hb d_X_storeRoot_86 hl (by decide) rfl (fun ls hl => ?_)
    refine lv_lload hx hb d_X_storeRoot_88 (lv_at hl 6 rfl) ?_
    refine lv_lload hx hb d_X_storeRoot_90 (lv_at hl 5 rfl) ?_
    refine lv_lload hx hb d_X_storeRoot_92 (lv_at hl 2 rfl) ?_
    refine lv_lload hx hb d_X_storeRoot_94 (lv_at hl 1 rfl) ?_
    refine kX_below C hl.1 ⟨Nat.le_of_ble_eq_true rfl, Nat.le_of_ble_eq_true rfl⟩ (Nat.le_of_ble_eq_true rfl) ⟨Nat.le_of_ble_eq_true rfl, Nat.le_of_ble_eq_true rfl⟩ d_X_storeRoot_96 ?_
    refine lv_if_ne (tgt := 130) hx hb d_X_storeRoot_99 (by decide) (fun c_9 => ?_) (fun c_9 => ?_)
    · refine lv_iinc (v := nI (i + 1)) (lv' := [(17, .int (nI (i + 1))), (11, .long (v_8)), (20, .long (v_7)), (18, .long (v_6)), (9, .long (v_5)), (7, .long (v_4)), (15, .long (v_3)), (13, .long (v_2)), (0, .ref (q 0)), (1, .long (ah)), (3, .long (al)), (5, .int (nI o)), (6, .int (nI t))]) hx hb d_X_storeRoot_130 hl (k := 7) rfl (nI_1 _) (by decide) rfl (fun ls hl => ?_)
      refine lv_goto (tgt := 18) hx hb d_X_storeRoot_133 (by decide) ?_
      exact ih (v_4, v_5, v_8, v_2, v_3) ls (by
        show wf_RI (wf_V ah al) (i + 1) (uN v_8) (wf_V v_2 v_3) (wf_V v_4 v_5)
        exact wf_r_no hi hI (by rw [ev_2]; exact wf_s2 _ _) (by rw [ev_3]; exact wf_s2 _ _) (by rw [ev_4]; exact wf_s2 _ _) (by rw [ev_5]; exact wf_sh2 _) (by rw [ev_6]; exact wf_u62 _) (by rw [ev_7, wf_or1 _ (a := 2 * (uN f % 4611686018427387904)) (by rw [wf_sh2]; omega), wf_sh2]) (by rw [ev_8]; exact uN_shl _) (of_decide_eq_true ((wf_bi1 _).mp c_9))) (lv_sub hl [0, 6, 7, 1, 4, 5, 8, 9, 10, 11, 12] rfl)
    · refine lv_lload hx hb d_X_storeRoot_102 (lv_at hl 6 rfl) ?_
      refine lv_lload hx hb d_X_storeRoot_104 (lv_at hl 2 rfl) ?_
      refine lv_lsub hx hb d_X_storeRoot_106 ?_
      refine lv_lload hx hb d_X_storeRoot_107 (lv_at hl 5 rfl) ?_
      refine lv_lload hx hb d_X_storeRoot_109 (lv_at hl 1 rfl) ?_
      refine kX_one C hl.1 ⟨Nat.le_of_ble_eq_true rfl, Nat.le_of_ble_eq_true rfl⟩ (Nat.le_of_ble_eq_true rfl) ⟨Nat.le_of_ble_eq_true rfl, Nat.le_of_ble_eq_true rfl⟩ d_X_storeRoot_111 ?_
      refine lv_lsub hx hb d_X_storeRoot_114 ?_
      refine lv_topl (fun v_10 ev_10 => ?_)
      refine lv_lstore (lv' := [(13, .long (v_10)), (11, .long (v_8)), (20, .long (v_7)), (18, .long (v_6)), (9, .long (v_5)), (7, .long (v_4)), (15, .long (v_3)), (17, .int (nI i)), (0, .ref (q 0)), (1, .long (ah)), (3, .long (al)), (5, .int (nI o)), (6, .int (nI t))]) hx hb d_X_storeRoot_115 hl (by decide) rfl (fun ls hl => ?_)
      refine lv_lload hx hb d_X_storeRoot_117 (lv_at hl 6 rfl) ?_
      refine lv_lload hx hb d_X_storeRoot_119 (lv_at hl 2 rfl) ?_
      refine lv_lsub hx hb d_X_storeRoot_121 ?_
      refine lv_topl (fun v_11 ev_11 => ?_)
      refine lv_lstore (lv' := [(15, .long (v_11)), (13, .long (v_10)), (11, .long (v_8)), (20, .long (v_7)), (18, .long (v_6)), (9, .long (v_5)), (7, .long (v_4)), (17, .int (nI i)), (0, .ref (q 0)), (1, .long (ah)), (3, .long (al)), (5, .int (nI o)), (6, .int (nI t))]) hx hb d_X_storeRoot_122 hl (by decide) rfl (fun ls hl => ?_)
      refine lv_lload hx hb d_X_storeRoot_124 (lv_at hl 2 rfl) ?_
      refine lv_lconst (v := 1) hx hb d_X_storeRoot_126 (by decide) ?_
      refine lv_lor hx hb d_X_storeRoot_127 ?_
      refine lv_topl (fun v_12 ev_12 => ?_)
      refine lv_lstore (lv' := [(11, .long (v_12)), (15, .long (v_11)), (13, .long (v_10)), (20, .long (v_7)), (18, .long (v_6)), (9, .long (v_5)), (7, .long (v_4)), (17, .int (nI i)), (0, .ref (q 0)), (1, .long (ah)), (3, .long (al)), (5, .int (nI o)), (6, .int (nI t))]) hx hb d_X_storeRoot_128 hl (by decide) rfl (fun ls hl => ?_)
      refine lv_iinc (v := nI (i + 1)) (lv' := [(17, .int (nI (i + 1))), (11, .long (v_12)), (15, .long (v_11)), (13, .long (v_10)), (20, .long (v_7)), (18, .long (v_6)), (9, .long (v_5)), (7, .long (v_4)), (0, .ref (q 0)), (1, .long (ah)), (3, .long (al)), (5, .int (nI o)), (6, .int (nI t))]) hx hb d_X_storeRoot_130 hl (k := 7) rfl (nI_1 _) (by decide) rfl (fun ls hl => ?_)
      refine lv_goto (tgt := 18) hx hb d_X_storeRoot_133 (by decide) ?_
      exact ih (v_4, v_5, v_12, v_10, v_11) ls (by
        show wf_RI (wf_V ah al) (i + 1) (uN v_12) (wf_V v_10 v_11) (wf_V v_4 v_5)
        rw [ev_12, ev_10, ev_11]
        exact wf_r_yes hi hI (by rw [ev_2]; exact wf_s2 _ _) (by rw [ev_3]; exact wf_s2 _ _) (by rw [ev_4]; exact wf_s2 _ _) (by rw [ev_5]; exact wf_sh2 _) (by rw [ev_6]; exact wf_u62 _) (by rw [ev_7, wf_or1 _ (a := 2 * (uN f % 4611686018427387904)) (by rw [wf_sh2]; omega), wf_sh2]) (by rw [ev_8]; exact uN_shl _) (of_decide_eq_false ((wf_bi0 _).mp c_9))) (lv_sub hl [0, 2, 3, 1, 6, 7, 8, 9, 10, 11, 12] rfl)
  · obtain ⟨hh, hlo, f, fh, fl⟩ := x
    have hl : lv_has ls 22 [(17, .int (nI 64)), (15, .long (fl)), (13, .long (fh)), (11, .long (f)), (9, .long (hlo)), (7, .long (hh)), (0, .ref (q 0)), (1, .long (ah)), (3, .long (al)), (5, .int (nI o)), (6, .int (nI t))] := hl
    have hI : wf_RI (wf_V ah al) 64 (uN f) (wf_V fh fl) (wf_V hh hlo) := hI
    refine lv_iload hx hb d_X_storeRoot_18 (lv_at hl 0 rfl) ?_
    refine lv_bipush (v := 64) hx hb d_X_storeRoot_20 (by decide) ?_
    refine lv_icmp_ge (tgt := 136) hx hb d_X_storeRoot_22 (by decide) (fun c_13 => ?_) (fun c_13 => False.elim (by first | exact absurd (nI_le (Nat.le_refl 64) (by decide)) c_13 | exact absurd c_13 (nI_le (Nat.le_refl 64) (by decide))))
    refine lv_aload_n hx hb d_X_storeRoot_136 rfl (lv_at hl 6 rfl) ?_
    refine lv_iload hx hb d_X_storeRoot_137 (lv_at hl 9 rfl) ?_
    refine lv_lconst (v := 0) hx hb d_X_storeRoot_139 (by decide) ?_
    refine lv_lload hx hb d_X_storeRoot_140 (lv_at hl 3 rfl) ?_
    refine kX_store (r := o) ho C hl.1 ⟨Nat.le_of_ble_eq_true rfl, Nat.le_of_ble_eq_true rfl⟩ (Nat.le_of_ble_eq_true rfl) ⟨Nat.le_of_ble_eq_true rfl, Nat.le_of_ble_eq_true rfl⟩ hP hK hD hS hA d_X_storeRoot_142 (fun u_14 H locs eu_14 hP hD hS => ?_)
    refine lv_aload_n hx hb d_X_storeRoot_145 rfl (lv_at hl 6 rfl) ?_
    refine lv_iload hx hb d_X_storeRoot_146 (lv_at hl 10 rfl) ?_
    refine lv_lload hx hb d_X_storeRoot_148 (lv_at hl 2 rfl) ?_
    refine lv_lload hx hb d_X_storeRoot_150 (lv_at hl 1 rfl) ?_
    refine kX_store (r := t) ht C hl.1 ⟨Nat.le_of_ble_eq_true rfl, Nat.le_of_ble_eq_true rfl⟩ (Nat.le_of_ble_eq_true rfl) ⟨Nat.le_of_ble_eq_true rfl, Nat.le_of_ble_eq_true rfl⟩ hP hK hD hS hA d_X_storeRoot_152 (fun u_15 H locs eu_15 hP hD hS => ?_)
    exact wf_retv C hr hlocks u_15 (⟨uN f, wf_V fh fl, wf_RI_end hI, u_14, ⟨_, _, eu_14, by show uN (0 : Int64) * _ + uN f = uN f; rw [show uN (0 : Int64) = 0 from by decide, Nat.zero_mul, Nat.zero_add]⟩, ⟨_, _, eu_15, rfl⟩⟩) hP hK hD hS (fun _ h => h) d_X_storeRoot_155

set_option maxHeartbeats 4000000 in
set_option maxRecDepth 100000 in
theorem kX_root {p : Program} {l : Launch} {e : Env} {R : Room} {s : State} {m : MethodId} {args : Array Value} {below : List Frame} {meth : Method} {c : Code} {H : Heap} {locs : List Loc} {cells slots : Nat} {Q : State → Prop} {cc : ByteArray} {pc nL : Nat} {ls : Array Slot} {rest : List Value} {D : va_G} {q : Nat → Nat} {κ : Nat → ClassId} {A : Nat → Prop} {u : SX} {ah al : Int64} {o : Nat} (ho : o < 8) {t : Nat} (ht : t < 8) (C : CallFix p m c cc nL s args wG RX) (hsz : ls.size = nL) (hR : 4 ≤ R.frames ∧ 131 ≤ R.locals) (hw : (rest.map fun v => v.category).sum ≤ 8) (hc : cells + 0 ≤ R.cells ∧ slots + 0 ≤ R.slots) (hP : va_P D vwCl (wX q κ u) H) (hK : va_K D vwCl (tyX κ) s) (hD : va_D A (wX q κ u)) (hS : va_S A s.heap H locs) (hA : ∀ q, s.heap.size ≤ q → A q) (hdg : decode cc pc = .ok (.invokevirtual 61, 3)) (kk : ∀ (v : SX) (H1 : Heap) (locs1 : List Loc), (∃ (g r : Nat), (wf_V ah al = g * g + r ∧ r ≤ 2 * g ∧ g < 2 ^ 64) ∧ ∃ w : SX, wf_st u w o g ∧ wf_st w v t r) → va_P D vwCl (wX q κ v) H1 → va_D A (wX q κ v) → va_S A s.heap H1 locs1 → W p l e R s m args below meth c H1 locs1 (cells) (slots) Q (F0 m (pc + 3) ls (rest))) : W p l e R s m args below meth c H locs cells slots Q (F0 m pc ls (.int (nI t) :: .int (nI o) :: .long al :: .long ah :: .ref (q 0) :: rest)) := by
  exact wf_cv (va_runV (As := [.long ah, .long al, .int (nI o), .int (nI t)]) (rest := rest) C (c_X_storeRoot l D q κ u ah al o ho t ht H.size) (cwV 4 C.2.2.2.2 (wG_V (fun _ h => h) k_ml_X_61 k_im_X_storeRoot k_se_X_storeRoot k_in_X k_X_storeRoot) rfl rfl rfl (by decide +kernel) ⟨hR.1, hR.2⟩) ⟨wf_blind, va_recv hK hP (ci := 0) (q0 := 0) rfl rfl, wf_pre hP hK hD⟩ rfl rfl hsz rfl (lv_room hw) hdg ⟨hc.1, hc.2⟩) (fun _ h => h) hS hD hA kk
end
section
/-! ===== zeros above and below, as numbers ===== -/
section WCF
variable {p : Program} {l : Launch} {e : Env} {R : Room} {s : State} {m : MethodId} {args : Array Value} {below : List Frame} {meth : Method} {c : Code} {H : Heap} {locs : List Loc} {cells slots : Nat} {Q : State → Prop}
/-- branches meet with other locals -/
theorem wf_cutF {σ : Type} {pc pcj nL : Nat} {ls' : Array Slot} {st0 : List Value} (P : σ → Prop) (F : σ → List (Nat × Value)) (k : ∀ (x : σ) (ls : Array Slot), P x → lv_has ls nL (F x) → W p l e R s m args below meth c H locs cells slots Q (F0 m pcj ls [])) (g : (∀ (x : σ) (ls : Array Slot), P x → lv_has ls nL (F x) → W p l e R s m args below meth c H locs cells slots Q (F0 m pcj ls [])) → W p l e R s m args below meth c H locs cells slots Q (F0 m pc ls' st0)) : W p l e R s m args below meth c H locs cells slots Q (F0 m pc ls' st0) := g k
end WCF
/-- z zeros above the highest one of w bits -/
def wf_LZ (w N z : Nat) : Prop := (N = 0 ∧ z = w) ∨ (z < w ∧ 2 ^ (w - 1 - z) ≤ N ∧ N < 2 ^ (w - z))
/-- t zeros below the lowest one of w bits -/
def wf_TZ (w N t : Nat) : Prop := (N = 0 ∧ t = w) ∨ (t < w ∧ N % 2 ^ (t + 1) = 2 ^ t)
theorem wf_pw {a b : Nat} (h : a ≤ b) : (2 : Nat) ^ a ≤ 2 ^ b := Nat.pow_le_pow_right (by decide) h
theorem wf_LZ_one {w N y z : Nat} (h1 : wf_LZ w N y) (h2 : wf_LZ w N z) : y = z := by
  have key : ∀ y z : Nat, y < w → z < w → 2 ^ (w - 1 - y) ≤ N → N < 2 ^ (w - z) → z ≤ y := by
    intro y z hy hz ha hb
    rcases Nat.lt_or_ge y z with h | h
    · exfalso
      have := wf_pw (show w - z ≤ w - 1 - y by omega)
      omega
    · exact h
  have pos : ∀ k : Nat, 0 < (2 : Nat) ^ k := fun k => Nat.two_pow_pos k
  rcases h1 with ⟨a, b⟩ | ⟨a, b, c⟩ <;> rcases h2 with ⟨a', b'⟩ | ⟨a', b', c'⟩
  · omega
  · have := pos (w - 1 - z); omega
  · have := pos (w - 1 - y); omega
  · exact Nat.le_antisymm (key z y a' a b' c) (key y z a a' b c')
theorem wf_lz_fin {N z0 M : Nat} (hN : N < 2 ^ 31) (hz : z0 ≤ 31) (hM : M = N / 2 ^ (31 - z0)) (h0 : 0 < M) (h4 : M < 4) : M / 2 ≤ z0 ∧ wf_LZ 32 N (z0 - M / 2) := by
  have hP : 0 < (2 : Nat) ^ (31 - z0) := Nat.two_pow_pos _
  have h1 : M * 2 ^ (31 - z0) ≤ N := by rw [hM]; exact Nat.div_mul_le_self _ _
  have h2 : N < (M + 1) * 2 ^ (31 - z0) := by
    have h3 := Nat.div_add_mod' N (2 ^ (31 - z0))
    have h4 := Nat.mod_lt N hP
    rw [← hM] at h3
    rw [Nat.add_mul, Nat.one_mul]
    omega
  have hz1 : M / 2 ≤ z0 := by
    rcases Nat.eq_zero_or_pos z0 with h | h
    · subst h
      exfalso
      have : N / 2 ^ (31 - 0) = 0 := Nat.div_eq_of_lt hN
      omega
    · omega
  refine ⟨hz1, Or.inr ⟨by omega, ?_, ?_⟩⟩
  · rcases (show M = 1 ∨ M = 2 ∨ M = 3 by omega) with h | h | h <;> subst h
    · rw [show 32 - 1 - (z0 - 1 / 2) = 31 - z0 by omega]; omega
    · rw [show 32 - 1 - (z0 - 2 / 2) = (31 - z0) + 1 by omega, Nat.pow_succ]; omega
    · rw [show 32 - 1 - (z0 - 3 / 2) = (31 - z0) + 1 by omega, Nat.pow_succ]; omega
  · rcases (show M = 1 ∨ M = 2 ∨ M = 3 by omega) with h | h | h <;> subst h
    · rw [show 32 - (z0 - 1 / 2) = (31 - z0) + 1 by omega, Nat.pow_succ]; omega
    · rw [show 32 - (z0 - 2 / 2) = (31 - z0) + 1 + 1 by omega, Nat.pow_succ, Nat.pow_succ]; omega
    · rw [show 32 - (z0 - 3 / 2) = (31 - z0) + 1 + 1 by omega, Nat.pow_succ, Nat.pow_succ]; omega
/-- one stage of the search: a shift by k -/
theorem wf_lz_st {N z0 M k : Nat} (hN : N < 2 ^ 31) (hz : z0 ≤ 31) (hM : M = N / 2 ^ (31 - z0)) (hk : 2 ^ k ≤ M) : k ≤ z0 ∧ M / 2 ^ k = N / 2 ^ (31 - (z0 - k)) ∧ 0 < M / 2 ^ k := by
  have h1 : k ≤ z0 := by
    rcases Nat.lt_or_ge z0 k with h | h
    · exfalso
      have h2 : N / 2 ^ (31 - z0) < 2 ^ z0 := (Nat.div_lt_iff_lt_mul (Nat.two_pow_pos _)).mpr (by rw [← Nat.pow_add, show z0 + (31 - z0) = 31 by omega]; exact hN)
      have := wf_pw (show z0 ≤ k by omega)
      omega
    · exact h
  refine ⟨h1, ?_, Nat.div_pos hk (Nat.two_pow_pos _)⟩
  rw [hM, Nat.div_div_eq_div_mul, ← Nat.pow_add, show 31 - z0 + k = 31 - (z0 - k) by omega]
theorem wf_nI_mod (n : Nat) : nI n = nI (n % 4294967296) := by
  unfold nI
  refine Int32.toBitVec_inj.mp ?_
  show BitVec.ofNat 32 n = BitVec.ofNat 32 (n % 4294967296)
  refine BitVec.eq_of_toNat_eq ?_
  rw [BitVec.toNat_ofNat, BitVec.toNat_ofNat]
  omega
theorem wf_lN_uN (x : Int64) : lN (uN x) = x := uN_inj (by rw [uN_ofNat]; exact Nat.mod_eq_of_lt (uN_lt x))
theorem wf_l2i (x : Int64) : x.toInt32 = nI (uN x % 4294967296) := by
  rw [← wf_nI_mod, ← lN_i, wf_lN_uN]
theorem wf_of32 (x : Int32) : x = nI x.toBitVec.toNat := by
  refine Int32.toBitVec_inj.mp ?_
  show x.toBitVec = BitVec.ofNat 32 x.toBitVec.toNat
  refine BitVec.eq_of_toNat_eq ?_
  rw [BitVec.toNat_ofNat, Nat.mod_eq_of_lt x.toBitVec.isLt]
theorem wf_nI_t {n : Nat} (h : n < 4294967296) : (nI n).toBitVec.toNat = n := pk_tn h
theorem wf_nI_big {n : Nat} (h1 : 2147483648 ≤ n) (h2 : n < 4294967296) : (nI n).toInt = (n : Int) - 4294967296 := by
  show (nI n).toBitVec.toInt = _
  rw [BitVec.toInt_eq_toNat_cond, wf_nI_t h2]
  split <;> omega
theorem wf_nI_big0 {n : Nat} (h1 : 2147483648 ≤ n) (h2 : n < 4294967296) : nI n < 0 := by
  rw [Int32.lt_iff_toInt_lt, wf_nI_big h1 h2]
  show _ < (0 : Int)
  omega
theorem wf_nI_n0 {n : Nat} (h1 : 0 < n) (h2 : n < 4294967296) : ¬ nI n = 0 := fun h => by
  have := congrArg (fun z : Int32 => z.toBitVec.toNat) h
  have h3 : (Int32.toBitVec 0).toNat = 0 := rfl
  have h4 : (nI n).toBitVec.toNat = (Int32.toBitVec 0).toNat := this
  rw [wf_nI_t h2] at h4
  omega
/-- two words side by side -/
theorem wf_LZ_hi {w h l z : Nat} (hl : l < 2 ^ w) (h0 : h ≠ 0) (hz : wf_LZ w h z) : wf_LZ (w + w) (h * 2 ^ w + l) z := by
  rcases hz with ⟨a, b⟩ | ⟨a, b, c⟩
  · exact absurd a h0
  · refine Or.inr ⟨by omega, ?_, ?_⟩
    · have h1 : 2 ^ (w - 1 - z) * 2 ^ w ≤ h * 2 ^ w := Nat.mul_le_mul_right _ b
      rw [← Nat.pow_add, show w - 1 - z + w = w + w - 1 - z by omega] at h1
      omega
    · have h1 : (h + 1) * 2 ^ w ≤ 2 ^ (w - z) * 2 ^ w := Nat.mul_le_mul_right _ c
      rw [← Nat.pow_add, show w - z + w = w + w - z by omega, Nat.add_mul] at h1
      omega
theorem wf_LZ_lo {w l z : Nat} (hz : wf_LZ w l z) : wf_LZ (w + w) l (w + z) := by
  rcases hz with ⟨a, b⟩ | ⟨a, b, c⟩
  · exact Or.inl ⟨a, by omega⟩
  · refine Or.inr ⟨by omega, ?_, ?_⟩
    · rw [show w + w - 1 - (w + z) = w - 1 - z by omega]; exact b
    · rw [show w + w - (w + z) = w - z by omega]; exact c
theorem wf_TZ_lo {w h l t : Nat} (h0 : l ≠ 0) (ht : wf_TZ w l t) : wf_TZ (w + w) (h * 2 ^ w + l) t := by
  rcases ht with ⟨a, b⟩ | ⟨a, b⟩
  · exact absurd a h0
  · refine Or.inr ⟨by omega, ?_⟩
    rw [show (2 : Nat) ^ w = 2 ^ (t + 1) * 2 ^ (w - (t + 1)) by rw [← Nat.pow_add]; congr 1; omega, Nat.mul_left_comm, Nat.mul_add_mod]
    exact b
theorem wf_TZ_hi {w h t : Nat} (ht : wf_TZ w h t) : wf_TZ (w + w) (h * 2 ^ w) (w + t) := by
  rcases ht with ⟨a, b⟩ | ⟨a, b⟩
  · subst a; exact Or.inl ⟨Nat.zero_mul _, by omega⟩
  · refine Or.inr ⟨by omega, ?_⟩
    rw [show w + t + 1 = (t + 1) + w by omega, Nat.pow_add, Nat.mul_mod_mul_right, b, ← Nat.pow_add, Nat.add_comm]
/-- ~x & (x - 1): ones where the zeros below the lowest one were -/
theorem wf_low (N : Nat) (h : 0 < N) : ∃ t k, N = 2 ^ t * (2 * k + 1) := by
  induction N using Nat.strongRecOn with
  | _ N ih =>
    rcases Nat.mod_two_eq_zero_or_one N with h2 | h2
    · obtain ⟨t, k, e⟩ := ih (N / 2) (by omega) (by omega)
      exact ⟨t + 1, k, by rw [Nat.pow_succ, Nat.mul_right_comm, ← e]; omega⟩
    · exact ⟨0, N / 2, by rw [Nat.pow_zero, Nat.one_mul]; omega⟩
theorem wf_mask {N : Nat} (h0 : 0 < N) (hN : N < 4294967296) : ∃ t, t < 32 ∧ N % 2 ^ (t + 1) = 2 ^ t ∧ (nI N ^^^ (-1)) &&& (nI N - 1) = nI (2 ^ t - 1) := by
  obtain ⟨t, k, e⟩ := wf_low N h0
  have hp : 0 < (2 : Nat) ^ t := Nat.two_pow_pos t
  have ht : t < 32 := by
    rcases Nat.lt_or_ge t 32 with h | h
    · exact h
    · exfalso
      have h1 := wf_pw h
      have h2 : 2 ^ t * 1 ≤ 2 ^ t * (2 * k + 1) := Nat.mul_le_mul_left _ (by omega)
      rw [show (2 : Nat) ^ 32 = 4294967296 from by decide] at h1
      omega
  have e2 : N = 2 ^ (t + 1) * k + 2 ^ t := by rw [e, Nat.pow_succ, Nat.mul_add, Nat.mul_one, Nat.mul_assoc]
  have e3 : N - 1 = 2 ^ t * (2 * k) + (2 ^ t - 1) := by rw [e, Nat.mul_add, Nat.mul_one]; omega
  refine ⟨t, ht, ?_, ?_⟩
  · rw [e2, Nat.mul_add_mod, Nat.mod_eq_of_lt (by rw [Nat.pow_succ]; omega)]
  · refine Int32.toBitVec_inj.mp (BitVec.eq_of_toNat_eq ?_)
    have l1 : (2 : Nat) ^ t - 1 < 4294967296 := by
      have := wf_pw (show t ≤ 31 by omega)
      rw [show (2 : Nat) ^ 31 = 2147483648 from by decide] at this
      omega
    rw [wf_nI_t l1]
    have q1 : (nI N ^^^ (-1)).toBitVec.toNat = 2 ^ 32 - (N + 1) := by
      show ((nI N).toBitVec ^^^ (-1 : Int32).toBitVec).toNat = _
      rw [show (-1 : Int32).toBitVec = BitVec.allOnes 32 from by decide, BitVec.xor_allOnes, BitVec.toNat_not, wf_nI_t hN]
      omega
    have q2 : (nI N - 1).toBitVec.toNat = N - 1 := by
      obtain ⟨n, rfl⟩ : ∃ n, N = n + 1 := ⟨N - 1, by omega⟩
      rw [nI_pred, wf_nI_t (by omega)]
      rfl
    show ((nI N ^^^ (-1)).toBitVec &&& (nI N - 1).toBitVec).toNat = _
    rw [BitVec.toNat_and, q1, q2]
    refine Nat.eq_of_testBit_eq (fun j => ?_)
    rw [Nat.testBit_and, Nat.testBit_two_pow_sub_succ (by rw [show (2 : Nat) ^ 32 = 4294967296 from by decide]; exact hN), e3, Nat.testBit_two_pow_mul_add _ (by omega), Nat.testBit_two_pow_sub_one]
    have e4 : N.testBit j = if j < t then false else (2 * k + 1).testBit (j - t) := by
      have := Nat.testBit_two_pow_mul_add (2 * k + 1) (show 0 < 2 ^ t from hp) j
      rw [Nat.add_zero, ← e] at this
      rw [this]
      simp
    rw [e4]
    by_cases h1 : j < t
    · simp [h1, show j < 32 by omega]
    · simp only [h1, if_false]
      rcases Nat.eq_zero_or_pos (j - t) with h3 | h3
      · rw [h3]
        simp [Nat.testBit_zero]
      · obtain ⟨i, hi⟩ : ∃ i, j - t = i + 1 := ⟨j - t - 1, by omega⟩
        rw [hi, Nat.testBit_succ, Nat.testBit_succ, show (2 * k + 1) / 2 = k by omega, show 2 * k / 2 = k by omega]
        cases k.testBit i <;> simp
end
section
/-! ===== numberOfLeadingZeros, numberOfTrailingZeros, zerosAbove, zerosBelow ===== -/
theorem wf_dec {a k : Nat} {n : Int} (hn : n = -(k : Int)) (h : k ≤ a) : nI a + Int32.ofInt n = nI (a - k) := by
  subst hn
  have e : nI a = nI (a - k) + nI k := by rw [nI_add, Nat.sub_add_cancel h]
  have e2 : nI k = Int32.ofInt (k : Int) := rfl
  rw [e, Int32.add_assoc, e2, ← Int32.ofInt_add, Int.add_right_neg]
  exact Int32.add_zero _
theorem wf_nI_big1 {n : Nat} (h1 : 2147483648 ≤ n) (h2 : n < 4294967296) : ¬ (0 : Int32) < nI n := by
  rw [Int32.lt_iff_toInt_lt, wf_nI_big h1 h2]
  show ¬ (0 : Int) < _
  omega
theorem wf_tz_le {a k : Nat} (ha : a ≤ 31) (hk : k ≤ 16) (hk1 : 1 ≤ k) : nI (2 ^ a - 1) ≤ nI (2 ^ k) ↔ a ≤ k := by
  have p1 := wf_pw ha
  have p2 := wf_pw hk
  rw [show (2 : Nat) ^ 31 = 2147483648 from by decide] at p1
  rw [show (2 : Nat) ^ 16 = 65536 from by decide] at p2
  rw [nI_leI (by omega) (by omega)]
  constructor
  · intro h
    rcases Nat.lt_or_ge k a with h2 | h2
    · exfalso
      have p3 := wf_pw (show k + 1 ≤ a by omega)
      have p4 := wf_pw hk1
      rw [Nat.pow_succ] at p3
      omega
    · exact h2
  · intro h
    exact Nat.le_trans (Nat.sub_le _ _) (wf_pw h)
theorem wf_tz_div {a k : Nat} (h : k ≤ a) : (2 ^ a - 1) / 2 ^ k = 2 ^ (a - k) - 1 := by
  have hp : 0 < (2 : Nat) ^ k := Nat.two_pow_pos k
  have hq : 0 < (2 : Nat) ^ (a - k) := Nat.two_pow_pos _
  have e : (2 : Nat) ^ a = 2 ^ k * 2 ^ (a - k) := by rw [← Nat.pow_add, Nat.add_sub_cancel' h]
  obtain ⟨m, hm⟩ : ∃ m, (2 : Nat) ^ (a - k) = m + 1 := ⟨2 ^ (a - k) - 1, by omega⟩
  have e2 : 2 ^ a - 1 = 2 ^ k * m + (2 ^ k - 1) := by rw [e, hm, Nat.mul_add, Nat.mul_one]; omega
  rw [e2, hm, Nat.mul_add_div hp, Nat.div_eq_of_lt (show 2 ^ k - 1 < 2 ^ k by omega)]
  omega

set_option maxHeartbeats 4000000 in
set_option maxRecDepth 100000 in
/-- Integer.numberOfLeadingZeros -/
theorem c_Ji_numberOfLeadingZeros (l : Launch) (N : Nat) (hN : N < 4294967296) : Met l y_Ji_numberOfLeadingZeros (.code y_Ji_numberOfLeadingZeros b_Ji_numberOfLeadingZeros 2 (some .int) :: wG) (wf_rm 0 0 0 0) (fun v _ => v = ([.int (nI N)] : List Value).toArray) (vp_Si (fun r => ∃ z, r = nI z ∧ wf_LZ 32 N z)) 0 0 (fun _ => False) := by
  refine wf_openS (by decide) (Nat.le_of_ble_eq_true rfl) ?_
  intro p e s m below meth c ls C hr hlocks hl
  have hx := C.1
  have hb := C.2.1
  have hml := C.2.2.1
  have hown := C.2.2.2.1
  have hts := C.2.2.2.2
  have hl : lv_has ls 2 [(0, .int (nI N))] := hl
  rcases (show N = 0 ∨ (0 < N ∧ N < 2147483648) ∨ 2147483648 ≤ N by omega) with h0 | h1 | h1
  · subst h0
    refine lv_iload_n hx hb d_Ji_numberOfLeadingZeros_0 rfl (lv_at hl 0 rfl) ?_
    refine lv_if_gt (tgt := 15) hx hb d_Ji_numberOfLeadingZeros_1 (by decide) (fun c_1 => False.elim (by first | exact absurd c_1 ((by decide : ¬ (0 : Int32) < nI 0)) | exact absurd ((by decide : ¬ (0 : Int32) < nI 0)) c_1)) (fun c_1 => ?_)
    refine lv_iload_n hx hb d_Ji_numberOfLeadingZeros_4 rfl (lv_at hl 0 rfl) ?_
    refine lv_if_ne (tgt := 13) hx hb d_Ji_numberOfLeadingZeros_5 (by decide) (fun c_2 => False.elim (by first | exact absurd c_2 ((rfl : nI 0 = 0)) | exact absurd ((rfl : nI 0 = 0)) c_2)) (fun c_2 => ?_)
    refine lv_bipush (v := 32) hx hb d_Ji_numberOfLeadingZeros_8 (by decide) ?_
    refine lv_goto (tgt := 14) hx hb d_Ji_numberOfLeadingZeros_10 (by decide) ?_
    exact W.iret hx hb hr (fun t ht hW => ⟨_, rfl, ⟨32, rfl, Or.inl ⟨rfl, rfl⟩⟩, ht⟩) (fun q h => by cases h) d_Ji_numberOfLeadingZeros_14 hlocks
  · refine lv_iload_n hx hb d_Ji_numberOfLeadingZeros_0 rfl (lv_at hl 0 rfl) ?_
    refine lv_if_gt (tgt := 15) hx hb d_Ji_numberOfLeadingZeros_1 (by decide) (fun c_3 => ?_) (fun c_3 => False.elim (by first | exact absurd (nI_lt h1.1 h1.2) c_3 | exact absurd c_3 (nI_lt h1.1 h1.2)))
    refine lv_bipush (v := 31) hx hb d_Ji_numberOfLeadingZeros_15 (by decide) ?_
    refine lv_istore_n (lv' := [(1, .int (31)), (0, .int (nI N))]) hx hb d_Ji_numberOfLeadingZeros_17 rfl hl (by decide) rfl (fun ls hl => ?_)
    refine wf_cutF (σ := Nat × Nat) (pcj := 73) (nL := 2) (fun x => x.1 ≤ 31 ∧ x.2 = N / 2 ^ (31 - x.1) ∧ 0 < x.2 ∧ x.2 < 4) (fun x => [(1, .int (nI x.1)), (0, .int (nI x.2))]) (fun x ls hI hl => ?_) (fun j73 => ?_)
    · obtain ⟨z0, M⟩ := x
      have hl : lv_has ls 2 [(1, .int (nI z0)), (0, .int (nI M))] := hl
      obtain ⟨i1, i2, i3, i4⟩ : z0 ≤ 31 ∧ M = N / 2 ^ (31 - z0) ∧ 0 < M ∧ M < 4 := hI
      refine lv_iload_n hx hb d_Ji_numberOfLeadingZeros_73 rfl (lv_at hl 0 rfl) ?_
      refine lv_iload_n hx hb d_Ji_numberOfLeadingZeros_74 rfl (lv_at hl 1 rfl) ?_
      refine lv_iconst (v := 1) hx hb d_Ji_numberOfLeadingZeros_75 (by decide) ?_
      refine lv_iushr hx hb d_Ji_numberOfLeadingZeros_76 (pk_ushrN (n := M) (by omega) 1 1 (by decide)) ?_
      refine lv_isub hx hb d_Ji_numberOfLeadingZeros_77 ?_
      exact W.iret hx hb hr (fun t ht hW => ⟨_, rfl, by have h := wf_lz_fin h1.2 i1 i2 i3 i4; rw [Nat.pow_one]; exact ⟨_, pk_sub h.1, h.2⟩, ht⟩) (fun q h => by cases h) d_Ji_numberOfLeadingZeros_78 hlocks
    · refine wf_cutF (σ := Nat × Nat) (pcj := 61) (nL := 2) (fun x => x.1 ≤ 31 ∧ x.2 = N / 2 ^ (31 - x.1) ∧ 0 < x.2 ∧ x.2 < 16) (fun x => [(1, .int (nI x.1)), (0, .int (nI x.2))]) (fun x ls hI hl => ?_) (fun j61 => ?_)
      · obtain ⟨z0, M⟩ := x
        have hl : lv_has ls 2 [(1, .int (nI z0)), (0, .int (nI M))] := hl
        obtain ⟨i1, i2, i3, i4⟩ : z0 ≤ 31 ∧ M = N / 2 ^ (31 - z0) ∧ 0 < M ∧ M < 16 := hI
        refine lv_iload_n hx hb d_Ji_numberOfLeadingZeros_61 rfl (lv_at hl 1 rfl) ?_
        refine lv_iconst (v := 4) hx hb d_Ji_numberOfLeadingZeros_62 (by decide) ?_
        refine lv_icmp_lt (tgt := 73) hx hb d_Ji_numberOfLeadingZeros_63 (by decide) (fun c_4 => ?_) (fun c_4 => ?_)
        · exact j73 (z0, M) ls ⟨i1, i2, i3, (nI_ltI (a := M) (b := 4) (by omega) (by decide)).mp c_4⟩ (lv_sub hl [0, 1] rfl)
        · have hc : 4 ≤ M := Nat.not_lt.mp (fun h => c_4 (nI_lt h (by decide)))
          obtain ⟨k1, k2, k3⟩ := wf_lz_st (k := 2) h1.2 i1 i2 hc
          refine lv_iinc (v := nI (z0 - 2)) (lv' := [(1, .int (nI (z0 - 2))), (0, .int (nI M))]) hx hb d_Ji_numberOfLeadingZeros_66 hl (k := 0) rfl (wf_dec (k := 2) (by decide) k1) (by decide) rfl (fun ls hl => ?_)
          refine lv_iload_n hx hb d_Ji_numberOfLeadingZeros_69 rfl (lv_at hl 1 rfl) ?_
          refine lv_iconst (v := 2) hx hb d_Ji_numberOfLeadingZeros_70 (by decide) ?_
          refine lv_iushr hx hb d_Ji_numberOfLeadingZeros_71 (pk_ushrN (n := M) (by omega) 2 2 (by decide)) ?_
          refine lv_istore_n (lv' := [(0, .int (nI (M / 2 ^ 2))), (1, .int (nI (z0 - 2)))]) hx hb d_Ji_numberOfLeadingZeros_72 rfl hl (by decide) rfl (fun ls hl => ?_)
          exact j73 (z0 - 2, M / 2 ^ 2) ls ⟨by omega, k2, k3, by have h := i4; show M / 2 ^ 2 < 4; omega⟩ (lv_sub hl [1, 0] rfl)
      · refine wf_cutF (σ := Nat × Nat) (pcj := 48) (nL := 2) (fun x => x.1 ≤ 31 ∧ x.2 = N / 2 ^ (31 - x.1) ∧ 0 < x.2 ∧ x.2 < 256) (fun x => [(1, .int (nI x.1)), (0, .int (nI x.2))]) (fun x ls hI hl => ?_) (fun j48 => ?_)
        · obtain ⟨z0, M⟩ := x
          have hl : lv_has ls 2 [(1, .int (nI z0)), (0, .int (nI M))] := hl
          obtain ⟨i1, i2, i3, i4⟩ : z0 ≤ 31 ∧ M = N / 2 ^ (31 - z0) ∧ 0 < M ∧ M < 256 := hI
          refine lv_iload_n hx hb d_Ji_numberOfLeadingZeros_48 rfl (lv_at hl 1 rfl) ?_
          refine lv_bipush (v := 16) hx hb d_Ji_numberOfLeadingZeros_49 (by decide) ?_
          refine lv_icmp_lt (tgt := 61) hx hb d_Ji_numberOfLeadingZeros_51 (by decide) (fun c_5 => ?_) (fun c_5 => ?_)
          · exact j61 (z0, M) ls ⟨i1, i2, i3, (nI_ltI (a := M) (b := 16) (by omega) (by decide)).mp c_5⟩ (lv_sub hl [0, 1] rfl)
          · have hc : 16 ≤ M := Nat.not_lt.mp (fun h => c_5 (nI_lt h (by decide)))
            obtain ⟨k1, k2, k3⟩ := wf_lz_st (k := 4) h1.2 i1 i2 hc
            refine lv_iinc (v := nI (z0 - 4)) (lv' := [(1, .int (nI (z0 - 4))), (0, .int (nI M))]) hx hb d_Ji_numberOfLeadingZeros_54 hl (k := 0) rfl (wf_dec (k := 4) (by decide) k1) (by decide) rfl (fun ls hl => ?_)
            refine lv_iload_n hx hb d_Ji_numberOfLeadingZeros_57 rfl (lv_at hl 1 rfl) ?_
            refine lv_iconst (v := 4) hx hb d_Ji_numberOfLeadingZeros_58 (by decide) ?_
            refine lv_iushr hx hb d_Ji_numberOfLeadingZeros_59 (pk_ushrN (n := M) (by omega) 4 4 (by decide)) ?_
            refine lv_istore_n (lv' := [(0, .int (nI (M / 2 ^ 4))), (1, .int (nI (z0 - 4)))]) hx hb d_Ji_numberOfLeadingZeros_60 rfl hl (by decide) rfl (fun ls hl => ?_)
            exact j61 (z0 - 4, M / 2 ^ 4) ls ⟨by omega, k2, k3, by have h := i4; show M / 2 ^ 4 < 16; omega⟩ (lv_sub hl [1, 0] rfl)
        · refine wf_cutF (σ := Nat × Nat) (pcj := 33) (nL := 2) (fun x => x.1 ≤ 31 ∧ x.2 = N / 2 ^ (31 - x.1) ∧ 0 < x.2 ∧ x.2 < 65536) (fun x => [(1, .int (nI x.1)), (0, .int (nI x.2))]) (fun x ls hI hl => ?_) (fun j33 => ?_)
          · obtain ⟨z0, M⟩ := x
            have hl : lv_has ls 2 [(1, .int (nI z0)), (0, .int (nI M))] := hl
            obtain ⟨i1, i2, i3, i4⟩ : z0 ≤ 31 ∧ M = N / 2 ^ (31 - z0) ∧ 0 < M ∧ M < 65536 := hI
            refine lv_iload_n hx hb d_Ji_numberOfLeadingZeros_33 rfl (lv_at hl 1 rfl) ?_
            refine lv_sipush (v := 256) hx hb d_Ji_numberOfLeadingZeros_34 (by decide) ?_
            refine lv_icmp_lt (tgt := 48) hx hb d_Ji_numberOfLeadingZeros_37 (by decide) (fun c_6 => ?_) (fun c_6 => ?_)
            · exact j48 (z0, M) ls ⟨i1, i2, i3, (nI_ltI (a := M) (b := 256) (by omega) (by decide)).mp c_6⟩ (lv_sub hl [0, 1] rfl)
            · have hc : 256 ≤ M := Nat.not_lt.mp (fun h => c_6 (nI_lt h (by decide)))
              obtain ⟨k1, k2, k3⟩ := wf_lz_st (k := 8) h1.2 i1 i2 hc
              refine lv_iinc (v := nI (z0 - 8)) (lv' := [(1, .int (nI (z0 - 8))), (0, .int (nI M))]) hx hb d_Ji_numberOfLeadingZeros_40 hl (k := 0) rfl (wf_dec (k := 8) (by decide) k1) (by decide) rfl (fun ls hl => ?_)
              refine lv_iload_n hx hb d_Ji_numberOfLeadingZeros_43 rfl (lv_at hl 1 rfl) ?_
              refine lv_bipush (v := 8) hx hb d_Ji_numberOfLeadingZeros_44 (by decide) ?_
              refine lv_iushr hx hb d_Ji_numberOfLeadingZeros_46 (pk_ushrN (n := M) (by omega) 8 8 (by decide)) ?_
              refine lv_istore_n (lv' := [(0, .int (nI (M / 2 ^ 8))), (1, .int (nI (z0 - 8)))]) hx hb d_Ji_numberOfLeadingZeros_47 rfl hl (by decide) rfl (fun ls hl => ?_)
              exact j48 (z0 - 8, M / 2 ^ 8) ls ⟨by omega, k2, k3, by have h := i4; show M / 2 ^ 8 < 256; omega⟩ (lv_sub hl [1, 0] rfl)
          · refine lv_iload_n hx hb d_Ji_numberOfLeadingZeros_18 rfl (lv_at hl 1 rfl) ?_
            refine lv_ldcw (v := 65536) hx hb hown (hts _ k_ci_Ji_264) d_Ji_numberOfLeadingZeros_19 ?_
            refine lv_icmp_lt (tgt := 33) hx hb d_Ji_numberOfLeadingZeros_22 (by decide) (fun c_7 => ?_) (fun c_7 => ?_)
            · exact j33 (31, N) ls ⟨Nat.le_refl 31, by show N = N / 2 ^ (31 - 31); rw [Nat.sub_self, Nat.pow_zero, Nat.div_one], h1.1, (nI_ltI (a := N) (b := 65536) (by omega) (by decide)).mp c_7⟩ (lv_sub hl [0, 1] rfl)
            · have hc : 65536 ≤ N := Nat.not_lt.mp (fun h => c_7 (nI_lt h (by decide)))
              obtain ⟨k1, k2, k3⟩ := wf_lz_st (k := 16) h1.2 (by decide) (show N = N / 2 ^ (31 - 31) by rw [Nat.sub_self, Nat.pow_zero, Nat.div_one]) hc
              refine lv_iinc (v := nI (31 - 16)) (lv' := [(1, .int (nI (31 - 16))), (0, .int (nI N))]) hx hb d_Ji_numberOfLeadingZeros_25 hl (k := 0) rfl (wf_dec (k := 16) (by decide) k1) (by decide) rfl (fun ls hl => ?_)
              refine lv_iload_n hx hb d_Ji_numberOfLeadingZeros_28 rfl (lv_at hl 1 rfl) ?_
              refine lv_bipush (v := 16) hx hb d_Ji_numberOfLeadingZeros_29 (by decide) ?_
              refine lv_iushr hx hb d_Ji_numberOfLeadingZeros_31 (pk_ushrN (n := N) (by omega) 16 16 (by decide)) ?_
              refine lv_istore_n (lv' := [(0, .int (nI (N / 2 ^ 16))), (1, .int (nI (31 - 16)))]) hx hb d_Ji_numberOfLeadingZeros_32 rfl hl (by decide) rfl (fun ls hl => ?_)
              exact j33 (31 - 16, N / 2 ^ 16) ls ⟨by omega, k2, k3, by have h := h1.2; show N / 2 ^ 16 < 65536; omega⟩ (lv_sub hl [1, 0] rfl)
  · refine lv_iload_n hx hb d_Ji_numberOfLeadingZeros_0 rfl (lv_at hl 0 rfl) ?_
    refine lv_if_gt (tgt := 15) hx hb d_Ji_numberOfLeadingZeros_1 (by decide) (fun c_8 => False.elim (by first | exact absurd c_8 (wf_nI_big1 h1 hN) | exact absurd (wf_nI_big1 h1 hN) c_8)) (fun c_8 => ?_)
    refine lv_iload_n hx hb d_Ji_numberOfLeadingZeros_4 rfl (lv_at hl 0 rfl) ?_
    refine lv_if_ne (tgt := 13) hx hb d_Ji_numberOfLeadingZeros_5 (by decide) (fun c_9 => ?_) (fun c_9 => False.elim (by first | exact absurd (wf_nI_n0 (by omega) hN) c_9 | exact absurd c_9 (wf_nI_n0 (by omega) hN)))
    refine lv_iconst (v := 0) hx hb d_Ji_numberOfLeadingZeros_13 (by decide) ?_
    exact W.iret hx hb hr (fun t ht hW => ⟨_, rfl, ⟨0, rfl, Or.inr ⟨by decide, h1, hN⟩⟩, ht⟩) (fun q h => by cases h) d_Ji_numberOfLeadingZeros_14 hlocks

set_option maxHeartbeats 4000000 in
set_option maxRecDepth 100000 in
theorem kJ_nlz {p : Program} {l : Launch} {e : Env} {R : Room} {s : State} {m : MethodId} {args : Array Value} {below : List Frame} {meth : Method} {c : Code} {H : Heap} {locs : List Loc} {cells slots : Nat} {Q : State → Prop} {cc : ByteArray} {pc nL : Nat} {ls : Array Slot} {rest : List Value} {N : Nat} (hN : N < 4294967296) (C : CallFix p m c cc nL s args wG RJl) (hsz : ls.size = nL) (hR : 1 ≤ R.frames ∧ 21 ≤ R.locals) (hw : (rest.map fun v => v.category).sum ≤ 8) (hc : cells ≤ R.cells ∧ slots ≤ R.slots) (hdg : decode cc pc = .ok (.invokestatic 308, 3)) (kk : ∀ r : Int32, (∃ z, r = nI z ∧ wf_LZ 32 N z) → W p l e R s m args below meth c H locs cells slots Q (F0 m (pc + 3) ls (.int r :: rest))) : W p l e R s m args below meth c H locs cells slots Q (F0 m pc ls (.int (nI N) :: rest)) := by
  exact vp_callSi (W.runS (As := [.int (nI N)]) (rest := rest) C (c_Ji_numberOfLeadingZeros l N hN) (va_cwS 1 C.2.2.2.2 (wG_S (fun _ h => h) k_ml_Jl_308 k_st_Ji_numberOfLeadingZeros k_in_Ji k_Ji_numberOfLeadingZeros) rfl rfl rfl (by decide +kernel) ⟨hR.1, hR.2⟩) preEq rfl rfl hsz rfl (lv_room hw) hdg ⟨hc.1, hc.2⟩) (fun r hr => kk r hr)

set_option maxHeartbeats 4000000 in
set_option maxRecDepth 100000 in
/-- Integer.numberOfTrailingZeros -/
theorem c_Ji_numberOfTrailingZeros (l : Launch) (N : Nat) (hN : N < 4294967296) : Met l y_Ji_numberOfTrailingZeros (.code y_Ji_numberOfTrailingZeros b_Ji_numberOfTrailingZeros 2 (some .int) :: wG) (wf_rm 0 0 0 0) (fun v _ => v = ([.int (nI N)] : List Value).toArray) (vp_Si (fun r => ∃ z, r = nI z ∧ wf_TZ 32 N z)) 0 0 (fun _ => False) := by
  refine wf_openS (by decide) (Nat.le_of_ble_eq_true rfl) ?_
  intro p e s m below meth c ls C hr hlocks hl
  have hx := C.1
  have hb := C.2.1
  have hml := C.2.2.1
  have hown := C.2.2.2.1
  have hts := C.2.2.2.2
  have hl : lv_has ls 2 [(0, .int (nI N))] := hl
  rcases Nat.eq_zero_or_pos N with h0 | h0
  · subst h0
    refine lv_iload_n hx hb d_Ji_numberOfTrailingZeros_0 rfl (lv_at hl 0 rfl) ?_
    refine lv_iconst (v := (-1)) hx hb d_Ji_numberOfTrailingZeros_1 (by decide) ?_
    refine lv_ixor hx hb d_Ji_numberOfTrailingZeros_2 ?_
    refine lv_iload_n hx hb d_Ji_numberOfTrailingZeros_3 rfl (lv_at hl 0 rfl) ?_
    refine lv_iconst (v := 1) hx hb d_Ji_numberOfTrailingZeros_4 (by decide) ?_
    refine lv_isub hx hb d_Ji_numberOfTrailingZeros_5 ?_
    refine lv_iand hx hb d_Ji_numberOfTrailingZeros_6 ?_
    refine lv_topi (fun v_1 ev_1 => ?_)
    refine lv_istore_n (lv' := [(0, .int (v_1))]) hx hb d_Ji_numberOfTrailingZeros_7 rfl hl (by decide) rfl (fun ls hl => ?_)
    have hv : v_1 = -1 := ev_1.trans (by decide)
    subst hv
    refine lv_iload_n hx hb d_Ji_numberOfTrailingZeros_8 rfl (lv_at hl 0 rfl) ?_
    refine lv_if_gt (tgt := 17) hx hb d_Ji_numberOfTrailingZeros_9 (by decide) (fun c_2 => False.elim (by first | exact absurd c_2 ((by decide : ¬ (0 : Int32) < -1)) | exact absurd ((by decide : ¬ (0 : Int32) < -1)) c_2)) (fun c_2 => ?_)
    refine lv_iload_n hx hb d_Ji_numberOfTrailingZeros_12 rfl (lv_at hl 0 rfl) ?_
    refine lv_bipush (v := 32) hx hb d_Ji_numberOfTrailingZeros_13 (by decide) ?_
    refine lv_iand hx hb d_Ji_numberOfTrailingZeros_15 ?_
    exact W.iret hx hb hr (fun t ht hW => ⟨_, rfl, ⟨32, by decide, Or.inl ⟨rfl, rfl⟩⟩, ht⟩) (fun q h => by cases h) d_Ji_numberOfTrailingZeros_16 hlocks
  · obtain ⟨t, ht32, hmod, hm⟩ := wf_mask h0 hN
    refine lv_iload_n hx hb d_Ji_numberOfTrailingZeros_0 rfl (lv_at hl 0 rfl) ?_
    refine lv_iconst (v := (-1)) hx hb d_Ji_numberOfTrailingZeros_1 (by decide) ?_
    refine lv_ixor hx hb d_Ji_numberOfTrailingZeros_2 ?_
    refine lv_iload_n hx hb d_Ji_numberOfTrailingZeros_3 rfl (lv_at hl 0 rfl) ?_
    refine lv_iconst (v := 1) hx hb d_Ji_numberOfTrailingZeros_4 (by decide) ?_
    refine lv_isub hx hb d_Ji_numberOfTrailingZeros_5 ?_
    refine lv_iand hx hb d_Ji_numberOfTrailingZeros_6 ?_
    refine lv_topi (fun v_3 ev_3 => ?_)
    refine lv_istore_n (lv' := [(0, .int (v_3))]) hx hb d_Ji_numberOfTrailingZeros_7 rfl hl (by decide) rfl (fun ls hl => ?_)
    have hv : v_3 = nI (2 ^ t - 1) := ev_3.trans hm
    subst hv
    have p31 := wf_pw (show t ≤ 31 by omega)
    rw [show (2 : Nat) ^ 31 = 2147483648 from by decide] at p31
    rcases Nat.eq_zero_or_pos t with t0 | t0
    · subst t0
      refine lv_iload_n hx hb d_Ji_numberOfTrailingZeros_8 rfl (lv_at hl 0 rfl) ?_
      refine lv_if_gt (tgt := 17) hx hb d_Ji_numberOfTrailingZeros_9 (by decide) (fun c_4 => False.elim (by first | exact absurd c_4 ((by decide : ¬ (0 : Int32) < nI (2 ^ 0 - 1))) | exact absurd ((by decide : ¬ (0 : Int32) < nI (2 ^ 0 - 1))) c_4)) (fun c_4 => ?_)
      refine lv_iload_n hx hb d_Ji_numberOfTrailingZeros_12 rfl (lv_at hl 0 rfl) ?_
      refine lv_bipush (v := 32) hx hb d_Ji_numberOfTrailingZeros_13 (by decide) ?_
      refine lv_iand hx hb d_Ji_numberOfTrailingZeros_15 ?_
      exact W.iret hx hb hr (fun t ht hW => ⟨_, rfl, ⟨0, by decide, Or.inr ⟨by decide, hmod⟩⟩, ht⟩) (fun q h => by cases h) d_Ji_numberOfTrailingZeros_16 hlocks
    · have p1 := wf_pw (show 1 ≤ t by omega)
      refine lv_iload_n hx hb d_Ji_numberOfTrailingZeros_8 rfl (lv_at hl 0 rfl) ?_
      refine lv_if_gt (tgt := 17) hx hb d_Ji_numberOfTrailingZeros_9 (by decide) (fun c_5 => ?_) (fun c_5 => False.elim (by first | exact absurd (nI_lt (a := 0) (b := 2 ^ t - 1) (by omega) (by omega)) c_5 | exact absurd c_5 (nI_lt (a := 0) (b := 2 ^ t - 1) (by omega) (by omega))))
      refine lv_iconst (v := 1) hx hb d_Ji_numberOfTrailingZeros_17 (by decide) ?_
      refine lv_istore_n (lv' := [(1, .int (1)), (0, .int (nI (2 ^ t - 1)))]) hx hb d_Ji_numberOfTrailingZeros_18 rfl hl (by decide) rfl (fun ls hl => ?_)
      refine wf_cutF (σ := Nat) (pcj := 74) (nL := 2) (fun a => 1 ≤ a ∧ a ≤ t ∧ a ≤ 2) (fun a => [(1, .int (nI (1 + t - a))), (0, .int (nI (2 ^ a - 1)))]) (fun a ls hI hl => ?_) (fun j74 => ?_)
      · obtain ⟨i1, i2, i3⟩ := hI
        have pa := wf_pw (show a ≤ 31 by omega)
        rw [show (2 : Nat) ^ 31 = 2147483648 from by decide] at pa
        refine lv_iload_n hx hb d_Ji_numberOfTrailingZeros_74 rfl (lv_at hl 0 rfl) ?_
        refine lv_iload_n hx hb d_Ji_numberOfTrailingZeros_75 rfl (lv_at hl 1 rfl) ?_
        refine lv_iconst (v := 1) hx hb d_Ji_numberOfTrailingZeros_76 (by decide) ?_
        refine lv_iushr hx hb d_Ji_numberOfTrailingZeros_77 (pk_ushrN (n := (2 ^ a - 1)) (by omega) 1 1 (by decide)) ?_
        refine lv_iadd hx hb d_Ji_numberOfTrailingZeros_78 ?_
        exact W.iret hx hb hr (fun u hu hW => ⟨_, rfl, ⟨t, by rw [wf_tz_div i1, nI_add]; rcases (show a = 1 ∨ a = 2 by omega) with rfl | rfl <;> congr 1 <;> omega, Or.inr ⟨ht32, hmod⟩⟩, hu⟩) (fun q h => by cases h) d_Ji_numberOfTrailingZeros_79 hlocks
      · refine wf_cutF (σ := Nat) (pcj := 62) (nL := 2) (fun a => 1 ≤ a ∧ a ≤ t ∧ a ≤ 4) (fun a => [(1, .int (nI (1 + t - a))), (0, .int (nI (2 ^ a - 1)))]) (fun a ls hI hl => ?_) (fun j62 => ?_)
        · obtain ⟨i1, i2, i3⟩ := hI
          have pa := wf_pw (show a ≤ 31 by omega)
          rw [show (2 : Nat) ^ 31 = 2147483648 from by decide] at pa
          refine lv_iload_n hx hb d_Ji_numberOfTrailingZeros_62 rfl (lv_at hl 1 rfl) ?_
          refine lv_iconst (v := 4) hx hb d_Ji_numberOfTrailingZeros_63 (by decide) ?_
          refine lv_icmp_le (tgt := 74) hx hb d_Ji_numberOfTrailingZeros_64 (by decide) (fun c_6 => ?_) (fun c_6 => ?_)
          · exact j74 a ls ⟨i1, i2, (wf_tz_le (a := a) (k := 2) (by omega) (by decide) (by decide)).mp c_6⟩ (lv_sub hl [0, 1] rfl)
          · have hc : 2 < a := Nat.not_le.mp (fun h => c_6 ((wf_tz_le (a := a) (k := 2) (by omega) (by decide) (by decide)).mpr h))
            refine lv_iinc (v := nI (1 + t - (a - 2))) (lv' := [(1, .int (nI (1 + t - (a - 2)))), (0, .int (nI (2 ^ a - 1)))]) hx hb d_Ji_numberOfTrailingZeros_67 hl (k := 0) rfl (show nI _ + nI 2 = _ by rw [nI_add]; congr 1; omega) (by decide) rfl (fun ls hl => ?_)
            refine lv_iload_n hx hb d_Ji_numberOfTrailingZeros_70 rfl (lv_at hl 1 rfl) ?_
            refine lv_iconst (v := 2) hx hb d_Ji_numberOfTrailingZeros_71 (by decide) ?_
            refine lv_iushr hx hb d_Ji_numberOfTrailingZeros_72 (pk_ushrN (n := (2 ^ a - 1)) (by omega) 2 2 (by decide)) ?_
            refine lv_istore_n (lv' := [(0, .int (nI ((2 ^ a - 1) / 2 ^ 2))), (1, .int (nI (1 + t - (a - 2))))]) hx hb d_Ji_numberOfTrailingZeros_73 rfl hl (by decide) rfl (fun ls hl => ?_)
            rw [wf_tz_div (show 2 ≤ a by omega)] at hl
            exact j74 (a - 2) ls ⟨by omega, by omega, by omega⟩ (lv_sub hl [1, 0] rfl)
        · refine wf_cutF (σ := Nat) (pcj := 49) (nL := 2) (fun a => 1 ≤ a ∧ a ≤ t ∧ a ≤ 8) (fun a => [(1, .int (nI (1 + t - a))), (0, .int (nI (2 ^ a - 1)))]) (fun a ls hI hl => ?_) (fun j49 => ?_)
          · obtain ⟨i1, i2, i3⟩ := hI
            have pa := wf_pw (show a ≤ 31 by omega)
            rw [show (2 : Nat) ^ 31 = 2147483648 from by decide] at pa
            refine lv_iload_n hx hb d_Ji_numberOfTrailingZeros_49 rfl (lv_at hl 1 rfl) ?_
            refine lv_bipush (v := 16) hx hb d_Ji_numberOfTrailingZeros_50 (by decide) ?_
            refine lv_icmp_le (tgt := 62) hx hb d_Ji_numberOfTrailingZeros_52 (by decide) (fun c_7 => ?_) (fun c_7 => ?_)
            · exact j62 a ls ⟨i1, i2, (wf_tz_le (a := a) (k := 4) (by omega) (by decide) (by decide)).mp c_7⟩ (lv_sub hl [0, 1] rfl)
            · have hc : 4 < a := Nat.not_le.mp (fun h => c_7 ((wf_tz_le (a := a) (k := 4) (by omega) (by decide) (by decide)).mpr h))
              refine lv_iinc (v := nI (1 + t - (a - 4))) (lv' := [(1, .int (nI (1 + t - (a - 4)))), (0, .int (nI (2 ^ a - 1)))]) hx hb d_Ji_numberOfTrailingZeros_55 hl (k := 0) rfl (show nI _ + nI 4 = _ by rw [nI_add]; congr 1; omega) (by decide) rfl (fun ls hl => ?_)
              refine lv_iload_n hx hb d_Ji_numberOfTrailingZeros_58 rfl (lv_at hl 1 rfl) ?_
              refine lv_iconst (v := 4) hx hb d_Ji_numberOfTrailingZeros_59 (by decide) ?_
              refine lv_iushr hx hb d_Ji_numberOfTrailingZeros_60 (pk_ushrN (n := (2 ^ a - 1)) (by omega) 4 4 (by decide)) ?_
              refine lv_istore_n (lv' := [(0, .int (nI ((2 ^ a - 1) / 2 ^ 4))), (1, .int (nI (1 + t - (a - 4))))]) hx hb d_Ji_numberOfTrailingZeros_61 rfl hl (by decide) rfl (fun ls hl => ?_)
              rw [wf_tz_div (show 4 ≤ a by omega)] at hl
              exact j62 (a - 4) ls ⟨by omega, by omega, by omega⟩ (lv_sub hl [1, 0] rfl)
          · refine wf_cutF (σ := Nat) (pcj := 34) (nL := 2) (fun a => 1 ≤ a ∧ a ≤ t ∧ a ≤ 16) (fun a => [(1, .int (nI (1 + t - a))), (0, .int (nI (2 ^ a - 1)))]) (fun a ls hI hl => ?_) (fun j34 => ?_)
            · obtain ⟨i1, i2, i3⟩ := hI
              have pa := wf_pw (show a ≤ 31 by omega)
              rw [show (2 : Nat) ^ 31 = 2147483648 from by decide] at pa
              refine lv_iload_n hx hb d_Ji_numberOfTrailingZeros_34 rfl (lv_at hl 1 rfl) ?_
              refine lv_sipush (v := 256) hx hb d_Ji_numberOfTrailingZeros_35 (by decide) ?_
              refine lv_icmp_le (tgt := 49) hx hb d_Ji_numberOfTrailingZeros_38 (by decide) (fun c_8 => ?_) (fun c_8 => ?_)
              · exact j49 a ls ⟨i1, i2, (wf_tz_le (a := a) (k := 8) (by omega) (by decide) (by decide)).mp c_8⟩ (lv_sub hl [0, 1] rfl)
              · have hc : 8 < a := Nat.not_le.mp (fun h => c_8 ((wf_tz_le (a := a) (k := 8) (by omega) (by decide) (by decide)).mpr h))
                refine lv_iinc (v := nI (1 + t - (a - 8))) (lv' := [(1, .int (nI (1 + t - (a - 8)))), (0, .int (nI (2 ^ a - 1)))]) hx hb d_Ji_numberOfTrailingZeros_41 hl (k := 0) rfl (show nI _ + nI 8 = _ by rw [nI_add]; congr 1; omega) (by decide) rfl (fun ls hl => ?_)
                refine lv_iload_n hx hb d_Ji_numberOfTrailingZeros_44 rfl (lv_at hl 1 rfl) ?_
                refine lv_bipush (v := 8) hx hb d_Ji_numberOfTrailingZeros_45 (by decide) ?_
                refine lv_iushr hx hb d_Ji_numberOfTrailingZeros_47 (pk_ushrN (n := (2 ^ a - 1)) (by omega) 8 8 (by decide)) ?_
                refine lv_istore_n (lv' := [(0, .int (nI ((2 ^ a - 1) / 2 ^ 8))), (1, .int (nI (1 + t - (a - 8))))]) hx hb d_Ji_numberOfTrailingZeros_48 rfl hl (by decide) rfl (fun ls hl => ?_)
                rw [wf_tz_div (show 8 ≤ a by omega)] at hl
                exact j49 (a - 8) ls ⟨by omega, by omega, by omega⟩ (lv_sub hl [1, 0] rfl)
            · have hl : lv_has ls 2 [(1, .int (nI (1 + t - t))), (0, .int (nI (2 ^ t - 1)))] := by rw [show 1 + t - t = 1 by omega]; exact hl
              refine lv_iload_n hx hb d_Ji_numberOfTrailingZeros_19 rfl (lv_at hl 1 rfl) ?_
              refine lv_ldcw (v := 65536) hx hb hown (hts _ k_ci_Ji_264) d_Ji_numberOfTrailingZeros_20 ?_
              refine lv_icmp_le (tgt := 34) hx hb d_Ji_numberOfTrailingZeros_23 (by decide) (fun c_9 => ?_) (fun c_9 => ?_)
              · exact j34 t ls ⟨t0, Nat.le_refl t, (wf_tz_le (a := t) (k := 16) (by omega) (by decide) (by decide)).mp c_9⟩ (lv_sub hl [0, 1] rfl)
              · have hc : 16 < t := Nat.not_le.mp (fun h => c_9 ((wf_tz_le (a := t) (k := 16) (by omega) (by decide) (by decide)).mpr h))
                refine lv_iinc (v := nI (1 + t - (t - 16))) (lv' := [(1, .int (nI (1 + t - (t - 16)))), (0, .int (nI (2 ^ t - 1)))]) hx hb d_Ji_numberOfTrailingZeros_26 hl (k := 0) rfl (show nI _ + nI 16 = _ by rw [nI_add]; congr 1; omega) (by decide) rfl (fun ls hl => ?_)
                refine lv_iload_n hx hb d_Ji_numberOfTrailingZeros_29 rfl (lv_at hl 1 rfl) ?_
                refine lv_bipush (v := 16) hx hb d_Ji_numberOfTrailingZeros_30 (by decide) ?_
                refine lv_iushr hx hb d_Ji_numberOfTrailingZeros_32 (pk_ushrN (n := (2 ^ t - 1)) (by omega) 16 16 (by decide)) ?_
                refine lv_istore_n (lv' := [(0, .int (nI ((2 ^ t - 1) / 2 ^ 16))), (1, .int (nI (1 + t - (t - 16))))]) hx hb d_Ji_numberOfTrailingZeros_33 rfl hl (by decide) rfl (fun ls hl => ?_)
                rw [wf_tz_div (show 16 ≤ t by omega)] at hl
                exact j34 (t - 16) ls ⟨by omega, by omega, by omega⟩ (lv_sub hl [1, 0] rfl)

set_option maxHeartbeats 4000000 in
set_option maxRecDepth 100000 in
theorem kJ_ntz {p : Program} {l : Launch} {e : Env} {R : Room} {s : State} {m : MethodId} {args : Array Value} {below : List Frame} {meth : Method} {c : Code} {H : Heap} {locs : List Loc} {cells slots : Nat} {Q : State → Prop} {cc : ByteArray} {pc nL : Nat} {ls : Array Slot} {rest : List Value} {N : Nat} (hN : N < 4294967296) (C : CallFix p m c cc nL s args wG RJl) (hsz : ls.size = nL) (hR : 1 ≤ R.frames ∧ 21 ≤ R.locals) (hw : (rest.map fun v => v.category).sum ≤ 8) (hc : cells ≤ R.cells ∧ slots ≤ R.slots) (hdg : decode cc pc = .ok (.invokestatic 311, 3)) (kk : ∀ r : Int32, (∃ z, r = nI z ∧ wf_TZ 32 N z) → W p l e R s m args below meth c H locs cells slots Q (F0 m (pc + 3) ls (.int r :: rest))) : W p l e R s m args below meth c H locs cells slots Q (F0 m pc ls (.int (nI N) :: rest)) := by
  exact vp_callSi (W.runS (As := [.int (nI N)]) (rest := rest) C (c_Ji_numberOfTrailingZeros l N hN) (va_cwS 1 C.2.2.2.2 (wG_S (fun _ h => h) k_ml_Jl_311 k_st_Ji_numberOfTrailingZeros k_in_Ji k_Ji_numberOfTrailingZeros) rfl rfl rfl (by decide +kernel) ⟨hR.1, hR.2⟩) preEq rfl rfl hsz rfl (lv_room hw) hdg ⟨hc.1, hc.2⟩) (fun r hr => kk r hr)
end
section
/-! ===== shifts of 128 bits, as numbers ===== -/
section WCW
variable {p : Program} {l : Launch} {e : Env} {R : Room} {s : State} {m : MethodId} {args : Array Value} {below : List Frame} {meth : Method} {c : Code} {H : Heap} {locs : List Loc} {cells slots : Nat} {Q : State → Prop} {D : va_G} {cl : List vw_C} {A : Nat → Prop} {H0 : Heap}
/-- branches meet with another world -/
theorem wf_cutW {σ : Type} {pc pcj : Nat} {ls ls' : Array Slot} {st0 : List Value} (P : σ → Prop) (mk : σ → va_W) (k : ∀ (x : σ) (H : Heap) (locs : List Loc), P x → va_P D cl (mk x) H → va_D A (mk x) → va_S A H0 H locs → W p l e R s m args below meth c H locs cells slots Q (F0 m pcj ls [])) (g : (∀ (x : σ) (H : Heap) (locs : List Loc), P x → va_P D cl (mk x) H → va_D A (mk x) → va_S A H0 H locs → W p l e R s m args below meth c H locs cells slots Q (F0 m pcj ls [])) → W p l e R s m args below meth c H locs cells slots Q (F0 m pc ls' st0)) : W p l e R s m args below meth c H locs cells slots Q (F0 m pc ls' st0) := g k
end WCW
theorem wf_LZ64_hi {x : Int64} {z : Nat} (h0 : ¬ nI (uN x / 4294967296) = 0) (hz : wf_LZ 32 (uN x / 4294967296) z) : wf_LZ 64 (uN x) z := by
  have hx := uN_lt x
  have h := wf_LZ_hi (w := 32) (h := uN x / 4294967296) (l := uN x % 4294967296) (by omega) (fun h => h0 (by rw [h]; rfl)) hz
  rw [show uN x / 4294967296 * 2 ^ 32 + uN x % 4294967296 = uN x by omega] at h
  exact h
theorem wf_32z {x : Int64} (h0 : nI (uN x / 4294967296) = 0) : uN x / 4294967296 = 0 := by
  have hx := uN_lt x
  rcases Nat.eq_zero_or_pos (uN x / 4294967296) with h | h
  · exact h
  · exact absurd h0 (wf_nI_n0 h (by omega))
theorem wf_LZ64_lo {x : Int64} {z : Nat} (h0 : nI (uN x / 4294967296) = 0) (hz : wf_LZ 32 (uN x % 4294967296) z) : wf_LZ 64 (uN x) (32 + z) := by
  have h1 := wf_32z h0
  have h := wf_LZ_lo (w := 32) hz
  rw [show uN x % 4294967296 = uN x by omega] at h
  exact h
theorem wf_32l {x : Int64} (h0 : nI (uN x % 4294967296) = 0) : uN x % 4294967296 = 0 := by
  rcases Nat.eq_zero_or_pos (uN x % 4294967296) with h | h
  · exact h
  · exact absurd h0 (wf_nI_n0 h (by omega))
theorem wf_TZ64_lo {x : Int64} {t : Nat} (h0 : ¬ nI (uN x % 4294967296) = 0) (ht : wf_TZ 32 (uN x % 4294967296) t) : wf_TZ 64 (uN x) t := by
  have h := wf_TZ_lo (w := 32) (h := uN x / 4294967296) (l := uN x % 4294967296) (fun h => h0 (by rw [h]; rfl)) ht
  rw [show uN x / 4294967296 * 2 ^ 32 + uN x % 4294967296 = uN x by omega] at h
  exact h
theorem wf_TZ64_hi {x : Int64} {t : Nat} (h0 : nI (uN x % 4294967296) = 0) (ht : wf_TZ 32 (uN x / 4294967296) t) : wf_TZ 64 (uN x) (32 + t) := by
  have h1 := wf_32l h0
  have h := wf_TZ_hi (w := 32) ht
  rw [show uN x / 4294967296 * 2 ^ 32 = uN x by omega] at h
  exact h
theorem wf_LZ128_hi {h l : Int64} {z : Nat} (h0 : ¬ uN h = 0) (hz : wf_LZ 64 (uN h) z) : wf_LZ 128 (wf_V h l) z := wf_LZ_hi (w := 64) (uN_lt l) h0 hz
theorem wf_V_z {h l : Int64} (h0 : uN h = 0) : wf_V h l = uN l := by show uN h * _ + _ = _; rw [h0, Nat.zero_mul, Nat.zero_add]
theorem wf_LZ128_lo {h l : Int64} {z : Nat} (h0 : uN h = 0) (hz : wf_LZ 64 (uN l) z) : wf_LZ 128 (wf_V h l) (64 + z) := by
  rw [wf_V_z h0]
  exact wf_LZ_lo (w := 64) hz
theorem wf_TZ128_lo {h l : Int64} {t : Nat} (h0 : ¬ uN l = 0) (ht : wf_TZ 64 (uN l) t) : wf_TZ 128 (wf_V h l) t := wf_TZ_lo (w := 64) h0 ht
theorem wf_TZ128_hi {h l : Int64} {t : Nat} (h0 : uN l = 0) (ht : wf_TZ 64 (uN h) t) : wf_TZ 128 (wf_V h l) (64 + t) := by
  have e : wf_V h l = uN h * 2 ^ 64 := by show uN h * _ + uN l = _; rw [h0, Nat.add_zero]
  rw [e]
  exact wf_TZ_hi (w := 64) ht
/-- whether a shift loses something -/
theorem wf_up_lost {V n z : Nat} (hz : wf_LZ 128 V z) : (V ≠ 0 ∧ z < n) ↔ wf_NN ≤ V * 2 ^ n := by
  have e : wf_NN = 2 ^ 128 := wf_p128.symm
  rw [e]
  rcases hz with ⟨a, b⟩ | ⟨a, b, c⟩
  · subst a
    rw [Nat.zero_mul]
    have := Nat.two_pow_pos 128
    exact ⟨fun h => absurd rfl h.1, fun h => absurd h (Nat.not_le.mpr this)⟩
  · constructor
    · intro h
      have h1 : 2 ^ (128 - 1 - z) * 2 ^ n ≤ V * 2 ^ n := Nat.mul_le_mul_right _ b
      rw [← Nat.pow_add] at h1
      exact Nat.le_trans (wf_pw (by omega)) h1
    · intro h
      refine ⟨fun h0 => ?_, ?_⟩
      · have := Nat.two_pow_pos (128 - 1 - z)
        rw [h0] at b
        omega
      · rcases Nat.lt_or_ge z n with h1 | h1
        · exact h1
        · exfalso
          have h2 : V * 2 ^ n < 2 ^ (128 - z) * 2 ^ n := Nat.mul_lt_mul_of_pos_right c (Nat.two_pow_pos n)
          rw [← Nat.pow_add] at h2
          exact absurd (Nat.lt_of_lt_of_le h2 (wf_pw (show 128 - z + n ≤ 128 by omega))) (Nat.not_lt.mpr h)
theorem wf_dn_lost {V n t : Nat} (hV : V < wf_NN) (ht : wf_TZ 128 V t) : (V ≠ 0 ∧ t < n) ↔ V % 2 ^ n ≠ 0 := by
  rcases ht with ⟨a, b⟩ | ⟨a, b⟩
  · subst a
    rw [Nat.zero_mod]
    exact ⟨fun h => h.1, fun h => absurd rfl h⟩
  · have hp := Nat.two_pow_pos t
    constructor
    · intro h h0
      have h1 : V % 2 ^ n % 2 ^ (t + 1) = V % 2 ^ (t + 1) := Nat.mod_mod_of_dvd V (Nat.pow_dvd_pow 2 (by omega))
      rw [h0, Nat.zero_mod, b] at h1
      omega
    · intro h
      refine ⟨fun h0 => h (by rw [h0, Nat.zero_mod]), ?_⟩
      rcases Nat.lt_or_ge t n with h1 | h1
      · exact h1
      · exfalso
        refine h ?_
        have h2 : V % 2 ^ (t + 1) % 2 ^ n = V % 2 ^ n := Nat.mod_mod_of_dvd V (Nat.pow_dvd_pow 2 (by omega))
        rw [b] at h2
        rw [← h2]
        exact Nat.mod_eq_zero_of_dvd (Nat.pow_dvd_pow 2 h1)
/-- what a shift leaves -/
theorem wf_up_far {V n : Nat} (h : 128 ≤ n) : V * 2 ^ n % wf_NN = 0 := by
  rw [show wf_NN = 2 ^ 128 from wf_p128.symm, show (2 : Nat) ^ n = 2 ^ (n - 128) * 2 ^ 128 by rw [← Nat.pow_add]; congr 1; omega, ← Nat.mul_assoc]
  exact Nat.mul_mod_left _ _
theorem wf_up_mid {h l k : Nat} : (h * wf_N + l) * 2 ^ (k + 64) % wf_NN = l * 2 ^ k % wf_N * wf_N := by
  have e : (2 : Nat) ^ 64 = wf_N := by decide
  rw [Nat.pow_add, e, ← Nat.mul_assoc, show wf_NN = wf_N * wf_N from by decide, Nat.mul_mod_mul_right, Nat.add_mul, Nat.mul_right_comm h wf_N, Nat.mul_comm (h * 2 ^ k) wf_N, Nat.mul_add_mod]
theorem wf_up_low {h l k : Nat} (hk : k ≤ 64) (hl : l < wf_N) : (h * wf_N + l) * 2 ^ k % wf_NN = (h * 2 ^ k % wf_N + l / 2 ^ (64 - k)) * wf_N + l * 2 ^ k % wf_N := by
  have e : wf_N = 2 ^ (64 - k) * 2 ^ k := by rw [← Nat.pow_add, Nat.sub_add_cancel hk]
  have hp := Nat.two_pow_pos k
  have hq := Nat.two_pow_pos (64 - k)
  -- l = a * 2^(64-k) + b
  have hl1 : l / 2 ^ (64 - k) * 2 ^ (64 - k) + l % 2 ^ (64 - k) = l := Nat.div_add_mod' l _
  have hl2 : l % 2 ^ (64 - k) < 2 ^ (64 - k) := Nat.mod_lt _ hq
  have hl3 : l / 2 ^ (64 - k) < 2 ^ k := by
    refine (Nat.div_lt_iff_lt_mul hq).mpr ?_
    rw [Nat.mul_comm, ← e]
    exact hl
  have m1 : l * 2 ^ k = l / 2 ^ (64 - k) * wf_N + l % 2 ^ (64 - k) * 2 ^ k := by
    have : (l / 2 ^ (64 - k) * 2 ^ (64 - k) + l % 2 ^ (64 - k)) * 2 ^ k = l / 2 ^ (64 - k) * wf_N + l % 2 ^ (64 - k) * 2 ^ k := by rw [Nat.add_mul, Nat.mul_assoc, ← e]
    rw [hl1] at this
    exact this
  have m2 : l % 2 ^ (64 - k) * 2 ^ k < wf_N := by rw [e]; exact Nat.mul_lt_mul_of_pos_right hl2 hp
  have m3 : l * 2 ^ k % wf_N = l % 2 ^ (64 - k) * 2 ^ k := by rw [m1, Nat.mul_comm _ wf_N, Nat.mul_add_mod, Nat.mod_eq_of_lt m2]
  have m4 : h * 2 ^ k % wf_N = (h % 2 ^ (64 - k)) * 2 ^ k := by rw [e, Nat.mul_mod_mul_right]
  have m5 : h % 2 ^ (64 - k) < 2 ^ (64 - k) := Nat.mod_lt _ hq
  have m6 : (h % 2 ^ (64 - k) + 1) * 2 ^ k ≤ wf_N := by rw [e]; exact Nat.mul_le_mul_right _ m5
  rw [Nat.add_mul, Nat.one_mul, ← m4] at m6
  have m7 : h * 2 ^ k / wf_N * wf_N + h * 2 ^ k % wf_N = h * 2 ^ k := Nat.div_add_mod' _ _
  have m8 : l * 2 ^ k % wf_N < wf_N := by rw [m3]; exact m2
  have m1' : l * 2 ^ k = l / 2 ^ (64 - k) * wf_N + l * 2 ^ k % wf_N := by rw [m3]; exact m1
  rw [Nat.add_mul, Nat.mul_right_comm h wf_N]
  clear m1 m2 m3 m4 m5 hl1 hl2 e
  revert hl3 m6 m7 m8 m1'
  generalize l / 2 ^ (64 - k) = y
  generalize l * 2 ^ k = LL
  generalize LL % wf_N = w
  generalize h * 2 ^ k = HH
  generalize HH / wf_N = t
  generalize HH % wf_N = x
  intro hl3 m6 m7 m8 m1'
  subst m1' m7
  have m9 : (t * wf_N + x) * wf_N + (y * wf_N + w) = wf_NN * t + ((x + y) * wf_N + w) := by
    rw [show wf_NN = wf_N * wf_N from by decide, Nat.add_mul, Nat.mul_right_comm t, Nat.add_mul, Nat.mul_comm (t * wf_N) wf_N, Nat.mul_comm t wf_N, ← Nat.mul_assoc]
    omega
  rw [m9, Nat.mul_add_mod]
  refine Nat.mod_eq_of_lt ?_
  have hxy : x + y + 1 ≤ wf_N := by omega
  have h10 : (x + y + 1) * wf_N ≤ wf_N * wf_N := Nat.mul_le_mul_right _ hxy
  rw [Nat.add_mul, Nat.one_mul] at h10
  rw [show wf_NN = wf_N * wf_N from by decide]
  omega
theorem wf_down_far {V n : Nat} (hV : V < wf_NN) (h : 128 ≤ n) : V / 2 ^ n = 0 := Nat.div_eq_of_lt (Nat.lt_of_lt_of_le hV (by rw [show wf_NN = 2 ^ 128 from wf_p128.symm]; exact wf_pw h))
theorem wf_down_mid {h l k : Nat} (hl : l < wf_N) : (h * wf_N + l) / 2 ^ (k + 64) = h / 2 ^ k := by
  have e : (2 : Nat) ^ 64 = wf_N := by decide
  rw [Nat.add_comm k 64, Nat.pow_add, e, ← Nat.div_div_eq_div_mul, Nat.mul_comm, Nat.mul_add_div (by decide), Nat.div_eq_of_lt hl, Nat.add_zero]
theorem wf_down_low {h l k : Nat} (hk : k ≤ 64) : (h * wf_N + l) / 2 ^ k = h / 2 ^ k * wf_N + (h * 2 ^ (64 - k) % wf_N + l / 2 ^ k) := by
  have e : wf_N = 2 ^ k * 2 ^ (64 - k) := by rw [← Nat.pow_add, Nat.add_sub_cancel' hk]
  have hp := Nat.two_pow_pos k
  have hh : h / 2 ^ k * 2 ^ k + h % 2 ^ k = h := Nat.div_add_mod' h _
  have m1 : h * wf_N = 2 ^ k * (h * 2 ^ (64 - k)) := by rw [e, Nat.mul_left_comm]
  have m2 : h * 2 ^ (64 - k) % wf_N = (h % 2 ^ k) * 2 ^ (64 - k) := by rw [e, Nat.mul_mod_mul_right]
  have m3 : h * 2 ^ (64 - k) = h / 2 ^ k * wf_N + (h % 2 ^ k) * 2 ^ (64 - k) := by
    have : (h / 2 ^ k * 2 ^ k + h % 2 ^ k) * 2 ^ (64 - k) = h / 2 ^ k * wf_N + (h % 2 ^ k) * 2 ^ (64 - k) := by rw [Nat.add_mul, Nat.mul_assoc, ← e]
    rw [hh] at this
    exact this
  rw [m1, Nat.mul_add_div hp, m2, m3, Nat.add_assoc]
end
section
/-! ===== Long's zeros, zerosAbove, zerosBelow, storeShiftedUp, storeShiftedDown ===== -/
theorem wf_lo0 (x : Int64) : lg_cmp x 0 = 0 ↔ uN x = 0 := by rw [lg_cmp_eq, uN_eq0]
theorem wf_or0 (h l : Int64) : lg_cmp (h ||| l) 0 = 0 ↔ wf_V h l = 0 := by
  rw [wf_lo0, uN_or', Nat.or_eq_zero_iff]
  unfold wf_V
  omega
theorem wf_z0 : uN (0 : Int64) = 0 := by decide
theorem wf_Vl (x : Int64) : wf_V 0 x = uN x := wf_V_z wf_z0
theorem wf_upA {ah al : Int64} {n : Nat} (h : 128 ≤ n) : wf_V 0 0 = wf_V ah al * 2 ^ n % wf_NN := by rw [wf_up_far h, wf_V_0]
theorem wf_upB {ah al : Int64} {n : Nat} (h : 64 ≤ n) (h2 : n < 128) : wf_V (al <<< ((nI (n - 64)).toInt64 &&& 63)) 0 = wf_V ah al * 2 ^ n % wf_NN := by
  show uN _ * wf_N + uN (0 : Int64) = (uN ah * wf_N + uN al) * 2 ^ n % wf_NN
  rw [wf_z0, Nat.add_zero, wf_shl al (show n - 64 < 64 by omega)]
  have e := wf_up_mid (h := uN ah) (l := uN al) (k := n - 64)
  rw [Nat.sub_add_cancel h] at e
  exact e.symm
theorem wf_upC {ah al : Int64} {n : Nat} (h : 0 < n) (h2 : n < 64) : wf_V (ah <<< ((nI n).toInt64 &&& 63) ||| (al.toUInt64 >>> ((nI (64 - n)).toInt64.toUInt64 &&& Int64.toUInt64 63)).toInt64) (al <<< ((nI n).toInt64 &&& 63)) = wf_V ah al * 2 ^ n % wf_NN := by
  show uN _ * wf_N + uN (al <<< ((nI n).toInt64 &&& 63)) = (uN ah * wf_N + uN al) * 2 ^ n % wf_NN
  rw [uN_or', wf_shl ah h2, wf_shl al h2, uN_sk al (show 64 - n < 64 by omega), wf_shlor (uN_lt al) (show n ≤ 64 by omega)]
  exact (wf_up_low (show n ≤ 64 by omega) (uN_lt al)).symm
theorem wf_upD {ah al : Int64} : wf_V ah al = wf_V ah al * 2 ^ 0 % wf_NN := by rw [Nat.pow_zero, Nat.mul_one, Nat.mod_eq_of_lt (wf_V_lt ah al)]
theorem wf_dnA {ah al : Int64} {n : Nat} (h : 128 ≤ n) : wf_V 0 0 = wf_V ah al / 2 ^ n := by rw [wf_down_far (wf_V_lt ah al) h, wf_V_0]
theorem wf_dnB {ah al : Int64} {n : Nat} (h : 64 ≤ n) (h2 : n < 128) : wf_V 0 (ah.toUInt64 >>> ((nI (n - 64)).toInt64.toUInt64 &&& Int64.toUInt64 63)).toInt64 = wf_V ah al / 2 ^ n := by
  rw [wf_Vl, uN_sk ah (show n - 64 < 64 by omega)]
  have e := wf_down_mid (h := uN ah) (l := uN al) (k := n - 64) (uN_lt al)
  rw [Nat.sub_add_cancel h] at e
  exact e.symm
theorem wf_dnC {ah al : Int64} {n : Nat} (h : 0 < n) (h2 : n < 64) : wf_V (ah.toUInt64 >>> ((nI n).toInt64.toUInt64 &&& Int64.toUInt64 63)).toInt64 ((al.toUInt64 >>> ((nI n).toInt64.toUInt64 &&& Int64.toUInt64 63)).toInt64 ||| ah <<< ((nI (64 - n)).toInt64 &&& 63)) = wf_V ah al / 2 ^ n := by
  show uN _ * wf_N + uN _ = (uN ah * wf_N + uN al) / 2 ^ n
  have e := wf_shlor (x := uN ah) (uN_lt al) (k := 64 - n) (by omega)
  rw [show 64 - (64 - n) = n by omega] at e
  rw [uN_or', wf_shl ah (show 64 - n < 64 by omega), uN_sk ah h2, uN_sk al h2, Nat.or_comm, e]
  exact (wf_down_low (show n ≤ 64 by omega)).symm
theorem wf_dnD {ah al : Int64} : wf_V ah al = wf_V ah al / 2 ^ 0 := by rw [Nat.pow_zero, Nat.div_one]

set_option maxHeartbeats 4000000 in
set_option maxRecDepth 100000 in
/-- Jl_numberOfLeadingZeros -/
theorem c_Jl_numberOfLeadingZeros (l : Launch) (x : Int64) : Met l y_Jl_numberOfLeadingZeros (.code y_Jl_numberOfLeadingZeros b_Jl_numberOfLeadingZeros 3 (some .int) :: wG) (wf_rm 1 30 0 0) (fun v _ => v = ([.long x] : List Value).toArray) (vp_Si (fun r => ∃ z, r = nI z ∧ wf_LZ 64 (uN x) z)) 0 0 (fun _ => False) := by
  refine wf_openS (by decide) (Nat.le_of_ble_eq_true rfl) ?_
  intro p e s m below meth c ls C hr hlocks hl
  have hx := C.1
  have hb := C.2.1
  have hml := C.2.2.1
  have hown := C.2.2.2.1
  have hts := C.2.2.2.2
  have hl : lv_has ls 3 [(0, .long (x))] := hl
  refine lv_lload_n hx hb d_Jl_numberOfLeadingZeros_0 rfl (lv_at hl 0 rfl) ?_
  refine lv_bipush (v := 32) hx hb d_Jl_numberOfLeadingZeros_1 (by decide) ?_
  refine lv_lushr hx hb d_Jl_numberOfLeadingZeros_3 rfl ?_
  refine lv_l2i hx hb d_Jl_numberOfLeadingZeros_4 (wf_l2i _) ?_
  refine lv_topi (fun k_1 ek_1 => ?_)
  have ek_1 : k_1 = nI (uN x / 4294967296) := ek_1.trans (by rw [uN_s32, Nat.mod_eq_of_lt (by have := uN_lt x; omega)])
  subst ek_1
  refine lv_istore_n (lv' := [(2, .int (nI (uN x / 4294967296))), (0, .long (x))]) hx hb d_Jl_numberOfLeadingZeros_5 rfl hl (by decide) rfl (fun ls hl => ?_)
  refine lv_iload_n hx hb d_Jl_numberOfLeadingZeros_6 rfl (lv_at hl 0 rfl) ?_
  refine lv_if_ne (tgt := 21) hx hb d_Jl_numberOfLeadingZeros_7 (by decide) (fun c_2 => ?_) (fun c_2 => ?_)
  · refine lv_iload_n hx hb d_Jl_numberOfLeadingZeros_21 rfl (lv_at hl 0 rfl) ?_
    refine kJ_nlz (N := uN x / 4294967296) (by have := uN_lt x; omega) C hl.1 ⟨Nat.le_of_ble_eq_true rfl, Nat.le_of_ble_eq_true rfl⟩ (Nat.le_of_ble_eq_true rfl) ⟨Nat.le_of_ble_eq_true rfl, Nat.le_of_ble_eq_true rfl⟩ d_Jl_numberOfLeadingZeros_22 (fun r_3 hr_3 => ?_)
    obtain ⟨z, er_3, hz⟩ := hr_3
    subst er_3
    exact W.iret hx hb hr (fun t ht hW => ⟨_, rfl, ⟨z, rfl, wf_LZ64_hi c_2 hz⟩, ht⟩) (fun q h => by cases h) d_Jl_numberOfLeadingZeros_25 hlocks
  · refine lv_bipush (v := 32) hx hb d_Jl_numberOfLeadingZeros_10 (by decide) ?_
    refine lv_lload_n hx hb d_Jl_numberOfLeadingZeros_12 rfl (lv_at hl 1 rfl) ?_
    refine lv_l2i hx hb d_Jl_numberOfLeadingZeros_13 (wf_l2i _) ?_
    refine kJ_nlz (N := uN x % 4294967296) (by omega) C hl.1 ⟨Nat.le_of_ble_eq_true rfl, Nat.le_of_ble_eq_true rfl⟩ (Nat.le_of_ble_eq_true rfl) ⟨Nat.le_of_ble_eq_true rfl, Nat.le_of_ble_eq_true rfl⟩ d_Jl_numberOfLeadingZeros_14 (fun r_4 hr_4 => ?_)
    obtain ⟨z, er_4, hz⟩ := hr_4
    subst er_4
    refine lv_iadd hx hb d_Jl_numberOfLeadingZeros_17 ?_
    refine lv_goto (tgt := 25) hx hb d_Jl_numberOfLeadingZeros_18 (by decide) ?_
    exact W.iret hx hb hr (fun t ht hW => ⟨_, rfl, ⟨32 + z, nI_add 32 z, wf_LZ64_lo c_2 hz⟩, ht⟩) (fun q h => by cases h) d_Jl_numberOfLeadingZeros_25 hlocks

set_option maxHeartbeats 4000000 in
set_option maxRecDepth 100000 in
theorem kX_nlz {p : Program} {l : Launch} {e : Env} {R : Room} {s : State} {m : MethodId} {args : Array Value} {below : List Frame} {meth : Method} {c : Code} {H : Heap} {locs : List Loc} {cells slots : Nat} {Q : State → Prop} {cc : ByteArray} {pc nL : Nat} {ls : Array Slot} {rest : List Value} {x : Int64} (C : CallFix p m c cc nL s args wG RX) (hsz : ls.size = nL) (hR : 2 ≤ R.frames ∧ 52 ≤ R.locals) (hw : (rest.map fun v => v.category).sum ≤ 8) (hc : cells ≤ R.cells ∧ slots ≤ R.slots) (hdg : decode cc pc = .ok (.invokestatic 117, 3)) (kk : ∀ r : Int32, (∃ z, r = nI z ∧ wf_LZ 64 (uN x) z) → W p l e R s m args below meth c H locs cells slots Q (F0 m (pc + 3) ls (.int r :: rest))) : W p l e R s m args below meth c H locs cells slots Q (F0 m pc ls (.long x :: rest)) := by
  exact vp_callSi (W.runS (As := [.long x]) (rest := rest) C (c_Jl_numberOfLeadingZeros l x) (va_cwS 1 C.2.2.2.2 (wG_S (fun _ h => h) k_ml_X_117 k_st_Jl_numberOfLeadingZeros k_in_Jl k_Jl_numberOfLeadingZeros) rfl rfl rfl (by decide +kernel) ⟨hR.1, hR.2⟩) preEq rfl rfl hsz rfl (lv_room hw) hdg ⟨hc.1, hc.2⟩) (fun r hr => kk r hr)

set_option maxHeartbeats 4000000 in
set_option maxRecDepth 100000 in
/-- Jl_numberOfTrailingZeros -/
theorem c_Jl_numberOfTrailingZeros (l : Launch) (x : Int64) : Met l y_Jl_numberOfTrailingZeros (.code y_Jl_numberOfTrailingZeros b_Jl_numberOfTrailingZeros 3 (some .int) :: wG) (wf_rm 1 30 0 0) (fun v _ => v = ([.long x] : List Value).toArray) (vp_Si (fun r => ∃ z, r = nI z ∧ wf_TZ 64 (uN x) z)) 0 0 (fun _ => False) := by
  refine wf_openS (by decide) (Nat.le_of_ble_eq_true rfl) ?_
  intro p e s m below meth c ls C hr hlocks hl
  have hx := C.1
  have hb := C.2.1
  have hml := C.2.2.1
  have hown := C.2.2.2.1
  have hts := C.2.2.2.2
  have hl : lv_has ls 3 [(0, .long (x))] := hl
  refine lv_lload_n hx hb d_Jl_numberOfTrailingZeros_0 rfl (lv_at hl 0 rfl) ?_
  refine lv_l2i hx hb d_Jl_numberOfTrailingZeros_1 (wf_l2i _) ?_
  refine lv_istore_n (lv' := [(2, .int (nI (uN x % 4294967296))), (0, .long (x))]) hx hb d_Jl_numberOfTrailingZeros_2 rfl hl (by decide) rfl (fun ls hl => ?_)
  refine lv_iload_n hx hb d_Jl_numberOfTrailingZeros_3 rfl (lv_at hl 0 rfl) ?_
  refine lv_if_ne (tgt := 21) hx hb d_Jl_numberOfTrailingZeros_4 (by decide) (fun c_1 => ?_) (fun c_1 => ?_)
  · refine lv_iload_n hx hb d_Jl_numberOfTrailingZeros_21 rfl (lv_at hl 0 rfl) ?_
    refine kJ_ntz (N := uN x % 4294967296) (by omega) C hl.1 ⟨Nat.le_of_ble_eq_true rfl, Nat.le_of_ble_eq_true rfl⟩ (Nat.le_of_ble_eq_true rfl) ⟨Nat.le_of_ble_eq_true rfl, Nat.le_of_ble_eq_true rfl⟩ d_Jl_numberOfTrailingZeros_22 (fun r_2 hr_2 => ?_)
    obtain ⟨z, er_2, hz⟩ := hr_2
    subst er_2
    exact W.iret hx hb hr (fun t ht hW => ⟨_, rfl, ⟨z, rfl, wf_TZ64_lo c_1 hz⟩, ht⟩) (fun q h => by cases h) d_Jl_numberOfTrailingZeros_25 hlocks
  · refine lv_bipush (v := 32) hx hb d_Jl_numberOfTrailingZeros_7 (by decide) ?_
    refine lv_lload_n hx hb d_Jl_numberOfTrailingZeros_9 rfl (lv_at hl 1 rfl) ?_
    refine lv_bipush (v := 32) hx hb d_Jl_numberOfTrailingZeros_10 (by decide) ?_
    refine lv_lushr hx hb d_Jl_numberOfTrailingZeros_12 rfl ?_
    refine lv_l2i hx hb d_Jl_numberOfTrailingZeros_13 (wf_l2i _) ?_
    refine lv_topi (fun k_3 ek_3 => ?_)
    have ek_3 : k_3 = nI (uN x / 4294967296) := ek_3.trans (by rw [uN_s32, Nat.mod_eq_of_lt (by have := uN_lt x; omega)])
    subst ek_3
    refine kJ_ntz (N := uN x / 4294967296) (by have := uN_lt x; omega) C hl.1 ⟨Nat.le_of_ble_eq_true rfl, Nat.le_of_ble_eq_true rfl⟩ (Nat.le_of_ble_eq_true rfl) ⟨Nat.le_of_ble_eq_true rfl, Nat.le_of_ble_eq_true rfl⟩ d_Jl_numberOfTrailingZeros_14 (fun r_4 hr_4 => ?_)
    obtain ⟨z, er_4, hz⟩ := hr_4
    subst er_4
    refine lv_iadd hx hb d_Jl_numberOfTrailingZeros_17 ?_
    refine lv_goto (tgt := 25) hx hb d_Jl_numberOfTrailingZeros_18 (by decide) ?_
    exact W.iret hx hb hr (fun t ht hW => ⟨_, rfl, ⟨32 + z, nI_add 32 z, wf_TZ64_hi c_1 hz⟩, ht⟩) (fun q h => by cases h) d_Jl_numberOfTrailingZeros_25 hlocks

set_option maxHeartbeats 4000000 in
set_option maxRecDepth 100000 in
theorem kX_ntz {p : Program} {l : Launch} {e : Env} {R : Room} {s : State} {m : MethodId} {args : Array Value} {below : List Frame} {meth : Method} {c : Code} {H : Heap} {locs : List Loc} {cells slots : Nat} {Q : State → Prop} {cc : ByteArray} {pc nL : Nat} {ls : Array Slot} {rest : List Value} {x : Int64} (C : CallFix p m c cc nL s args wG RX) (hsz : ls.size = nL) (hR : 2 ≤ R.frames ∧ 52 ≤ R.locals) (hw : (rest.map fun v => v.category).sum ≤ 8) (hc : cells ≤ R.cells ∧ slots ≤ R.slots) (hdg : decode cc pc = .ok (.invokestatic 121, 3)) (kk : ∀ r : Int32, (∃ z, r = nI z ∧ wf_TZ 64 (uN x) z) → W p l e R s m args below meth c H locs cells slots Q (F0 m (pc + 3) ls (.int r :: rest))) : W p l e R s m args below meth c H locs cells slots Q (F0 m pc ls (.long x :: rest)) := by
  exact vp_callSi (W.runS (As := [.long x]) (rest := rest) C (c_Jl_numberOfTrailingZeros l x) (va_cwS 1 C.2.2.2.2 (wG_S (fun _ h => h) k_ml_X_121 k_st_Jl_numberOfTrailingZeros k_in_Jl k_Jl_numberOfTrailingZeros) rfl rfl rfl (by decide +kernel) ⟨hR.1, hR.2⟩) preEq rfl rfl hsz rfl (lv_room hw) hdg ⟨hc.1, hc.2⟩) (fun r hr => kk r hr)

set_option maxHeartbeats 4000000 in
set_option maxRecDepth 100000 in
/-- X_zerosAbove -/
theorem c_X_zerosAbove (l : Launch) (h lo : Int64) : Met l y_X_zerosAbove (.code y_X_zerosAbove b_X_zerosAbove 4 (some .int) :: wG) (wf_rm 2 60 0 0) (fun v _ => v = ([.long h, .long lo] : List Value).toArray) (vp_Si (fun r => ∃ z, r = nI z ∧ wf_LZ 128 (wf_V h lo) z)) 0 0 (fun _ => False) := by
  refine wf_openS (by decide) (Nat.le_of_ble_eq_true rfl) ?_
  intro p e s m below meth c ls C hr hlocks hl
  have hx := C.1
  have hb := C.2.1
  have hml := C.2.2.1
  have hown := C.2.2.2.1
  have hts := C.2.2.2.2
  have hl : lv_has ls 4 [(0, .long (h)), (2, .long (lo))] := hl
  refine lv_lload_n hx hb d_X_zerosAbove_0 rfl (lv_at hl 0 rfl) ?_
  refine lv_lconst (v := 0) hx hb d_X_zerosAbove_1 (by decide) ?_
  refine W.lcmp hx hb d_X_zerosAbove_2 ?_
  refine lv_if_eq (tgt := 13) hx hb d_X_zerosAbove_3 (by decide) (fun c_1 => ?_) (fun c_1 => ?_)
  · refine lv_bipush (v := 64) hx hb d_X_zerosAbove_13 (by decide) ?_
    refine lv_lload_n hx hb d_X_zerosAbove_15 rfl (lv_at hl 1 rfl) ?_
    refine kX_nlz C hl.1 ⟨Nat.le_of_ble_eq_true rfl, Nat.le_of_ble_eq_true rfl⟩ (Nat.le_of_ble_eq_true rfl) ⟨Nat.le_of_ble_eq_true rfl, Nat.le_of_ble_eq_true rfl⟩ d_X_zerosAbove_16 (fun r_2 hr_2 => ?_)
    obtain ⟨z, er_2, hz⟩ := hr_2
    subst er_2
    refine lv_iadd hx hb d_X_zerosAbove_19 ?_
    exact W.iret hx hb hr (fun t ht hW => ⟨_, rfl, ⟨64 + z, nI_add 64 z, wf_LZ128_lo ((wf_lo0 _).mp c_1) hz⟩, ht⟩) (fun q h => by cases h) d_X_zerosAbove_20 hlocks
  · refine lv_lload_n hx hb d_X_zerosAbove_6 rfl (lv_at hl 0 rfl) ?_
    refine kX_nlz C hl.1 ⟨Nat.le_of_ble_eq_true rfl, Nat.le_of_ble_eq_true rfl⟩ (Nat.le_of_ble_eq_true rfl) ⟨Nat.le_of_ble_eq_true rfl, Nat.le_of_ble_eq_true rfl⟩ d_X_zerosAbove_7 (fun r_3 hr_3 => ?_)
    obtain ⟨z, er_3, hz⟩ := hr_3
    subst er_3
    refine lv_goto (tgt := 20) hx hb d_X_zerosAbove_10 (by decide) ?_
    exact W.iret hx hb hr (fun t ht hW => ⟨_, rfl, ⟨z, rfl, wf_LZ128_hi (fun h => c_1 ((wf_lo0 _).mpr h)) hz⟩, ht⟩) (fun q h => by cases h) d_X_zerosAbove_20 hlocks

set_option maxHeartbeats 4000000 in
set_option maxRecDepth 100000 in
theorem kX_above {p : Program} {l : Launch} {e : Env} {R : Room} {s : State} {m : MethodId} {args : Array Value} {below : List Frame} {meth : Method} {c : Code} {H : Heap} {locs : List Loc} {cells slots : Nat} {Q : State → Prop} {cc : ByteArray} {pc nL : Nat} {ls : Array Slot} {rest : List Value} {h lo : Int64} (C : CallFix p m c cc nL s args wG RX) (hsz : ls.size = nL) (hR : 3 ≤ R.frames ∧ 83 ≤ R.locals) (hw : (rest.map fun v => v.category).sum ≤ 8) (hc : cells ≤ R.cells ∧ slots ≤ R.slots) (hdg : decode cc pc = .ok (.invokestatic 77, 3)) (kk : ∀ r : Int32, (∃ z, r = nI z ∧ wf_LZ 128 (wf_V h lo) z) → W p l e R s m args below meth c H locs cells slots Q (F0 m (pc + 3) ls (.int r :: rest))) : W p l e R s m args below meth c H locs cells slots Q (F0 m pc ls (.long lo :: .long h :: rest)) := by
  exact vp_callSi (W.runS (As := [.long h, .long lo]) (rest := rest) C (c_X_zerosAbove l h lo) (va_cwS 2 C.2.2.2.2 (wG_S (fun _ h => h) k_ml_X_77 k_st_X_zerosAbove k_in_X k_X_zerosAbove) rfl rfl rfl (by decide +kernel) ⟨hR.1, hR.2⟩) preEq rfl rfl hsz rfl (lv_room hw) hdg ⟨hc.1, hc.2⟩) (fun r hr => kk r hr)

set_option maxHeartbeats 4000000 in
set_option maxRecDepth 100000 in
/-- X_zerosBelow -/
theorem c_X_zerosBelow (l : Launch) (h lo : Int64) : Met l y_X_zerosBelow (.code y_X_zerosBelow b_X_zerosBelow 4 (some .int) :: wG) (wf_rm 2 60 0 0) (fun v _ => v = ([.long h, .long lo] : List Value).toArray) (vp_Si (fun r => ∃ z, r = nI z ∧ wf_TZ 128 (wf_V h lo) z)) 0 0 (fun _ => False) := by
  refine wf_openS (by decide) (Nat.le_of_ble_eq_true rfl) ?_
  intro p e s m below meth c ls C hr hlocks hl
  have hx := C.1
  have hb := C.2.1
  have hml := C.2.2.1
  have hown := C.2.2.2.1
  have hts := C.2.2.2.2
  have hl : lv_has ls 4 [(0, .long (h)), (2, .long (lo))] := hl
  refine lv_lload_n hx hb d_X_zerosBelow_0 rfl (lv_at hl 1 rfl) ?_
  refine lv_lconst (v := 0) hx hb d_X_zerosBelow_1 (by decide) ?_
  refine W.lcmp hx hb d_X_zerosBelow_2 ?_
  refine lv_if_eq (tgt := 13) hx hb d_X_zerosBelow_3 (by decide) (fun c_1 => ?_) (fun c_1 => ?_)
  · refine lv_bipush (v := 64) hx hb d_X_zerosBelow_13 (by decide) ?_
    refine lv_lload_n hx hb d_X_zerosBelow_15 rfl (lv_at hl 0 rfl) ?_
    refine kX_ntz C hl.1 ⟨Nat.le_of_ble_eq_true rfl, Nat.le_of_ble_eq_true rfl⟩ (Nat.le_of_ble_eq_true rfl) ⟨Nat.le_of_ble_eq_true rfl, Nat.le_of_ble_eq_true rfl⟩ d_X_zerosBelow_16 (fun r_2 hr_2 => ?_)
    obtain ⟨z, er_2, hz⟩ := hr_2
    subst er_2
    refine lv_iadd hx hb d_X_zerosBelow_19 ?_
    exact W.iret hx hb hr (fun t ht hW => ⟨_, rfl, ⟨64 + z, nI_add 64 z, wf_TZ128_hi ((wf_lo0 _).mp c_1) hz⟩, ht⟩) (fun q h => by cases h) d_X_zerosBelow_20 hlocks
  · refine lv_lload_n hx hb d_X_zerosBelow_6 rfl (lv_at hl 1 rfl) ?_
    refine kX_ntz C hl.1 ⟨Nat.le_of_ble_eq_true rfl, Nat.le_of_ble_eq_true rfl⟩ (Nat.le_of_ble_eq_true rfl) ⟨Nat.le_of_ble_eq_true rfl, Nat.le_of_ble_eq_true rfl⟩ d_X_zerosBelow_7 (fun r_3 hr_3 => ?_)
    obtain ⟨z, er_3, hz⟩ := hr_3
    subst er_3
    refine lv_goto (tgt := 20) hx hb d_X_zerosBelow_10 (by decide) ?_
    exact W.iret hx hb hr (fun t ht hW => ⟨_, rfl, ⟨z, rfl, wf_TZ128_lo (fun h => c_1 ((wf_lo0 _).mpr h)) hz⟩, ht⟩) (fun q h => by cases h) d_X_zerosBelow_20 hlocks

set_option maxHeartbeats 4000000 in
set_option maxRecDepth 100000 in
theorem kX_zbelow {p : Program} {l : Launch} {e : Env} {R : Room} {s : State} {m : MethodId} {args : Array Value} {below : List Frame} {meth : Method} {c : Code} {H : Heap} {locs : List Loc} {cells slots : Nat} {Q : State → Prop} {cc : ByteArray} {pc nL : Nat} {ls : Array Slot} {rest : List Value} {h lo : Int64} (C : CallFix p m c cc nL s args wG RX) (hsz : ls.size = nL) (hR : 3 ≤ R.frames ∧ 83 ≤ R.locals) (hw : (rest.map fun v => v.category).sum ≤ 8) (hc : cells ≤ R.cells ∧ slots ≤ R.slots) (hdg : decode cc pc = .ok (.invokestatic 114, 3)) (kk : ∀ r : Int32, (∃ z, r = nI z ∧ wf_TZ 128 (wf_V h lo) z) → W p l e R s m args below meth c H locs cells slots Q (F0 m (pc + 3) ls (.int r :: rest))) : W p l e R s m args below meth c H locs cells slots Q (F0 m pc ls (.long lo :: .long h :: rest)) := by
  exact vp_callSi (W.runS (As := [.long h, .long lo]) (rest := rest) C (c_X_zerosBelow l h lo) (va_cwS 2 C.2.2.2.2 (wG_S (fun _ h => h) k_ml_X_114 k_st_X_zerosBelow k_in_X k_X_zerosBelow) rfl rfl rfl (by decide +kernel) ⟨hR.1, hR.2⟩) preEq rfl rfl hsz rfl (lv_room hw) hdg ⟨hc.1, hc.2⟩) (fun r hr => kk r hr)

set_option maxHeartbeats 4000000 in
set_option maxRecDepth 100000 in
/-- X_storeShiftedUp -/
theorem c_X_storeShiftedUp (l : Launch) (D : va_G) (q : Nat → Nat) (κ : Nat → ClassId) (u : SX) (ah al : Int64) (n : Nat) (hn : n < 2 ^ 31) (t : Nat) (ht : t < 8) (sz : Nat) : Met l y_X_storeShiftedUp (.code y_X_storeShiftedUp b_X_storeShiftedUp 7 (some .boolean) :: wG) (wf_rm 3 90 0 0) (wf_Pc D vwCl (wX q κ u) (tyX κ) ([.ref (q 0), .long ah, .long al, .int (nI n), .int (nI t)]) sz) (va_Qi (fun r v => r = wf_bi (decide (wf_NN ≤ wf_V ah al * 2 ^ n)) ∧ wf_st u v t (wf_V ah al * 2 ^ n % wf_NN)) (wf_B D vwCl (wX q κ) (tyX κ) (va_A (wX q κ u) sz)) (va_A (wX q κ u) sz)) 0 0 (va_A (wX q κ u) sz) := by
  refine wf_open (by decide) (Nat.le_of_ble_eq_true rfl) k_X_storeShiftedUp ?_
  intro p e s m below meth c ls hsz C hr hlocks hnm hex hP hK hD hl
  subst hsz
  have hx := C.1
  have hb := C.2.1
  have hml := C.2.2.1
  have hown := C.2.2.2.1
  have hts := C.2.2.2.2
  have hA : ∀ j : Nat, s.heap.size ≤ j → va_A (wX q κ u) s.heap.size j := fun j h => Or.inr h
  have hS : va_S (va_A (wX q κ u) s.heap.size) s.heap s.heap [] := va_S.rf
  generalize hAe : va_A (wX q κ u) s.heap.size = A at hA hS hD ⊢
  have hl : lv_has ls 7 [(0, .ref (q 0)), (1, .long (ah)), (3, .long (al)), (5, .int (nI n)), (6, .int (nI t))] := hl
  refine wf_cutW (D := D) (cl := vwCl) (A := A) (H0 := s.heap) (pcj := 81) (ls := ls) (fun v => wf_st u v t (wf_V ah al * 2 ^ n % wf_NN)) (wX q κ) (fun v H locs hst hP hD hS => ?_) (fun jn => ?_)
  · refine lv_lload_n hx hb d_X_storeShiftedUp_81 rfl (lv_at hl 1 rfl) ?_
    refine lv_lload_n hx hb d_X_storeShiftedUp_82 rfl (lv_at hl 2 rfl) ?_
    refine lv_lor hx hb d_X_storeShiftedUp_83 ?_
    refine lv_lconst (v := 0) hx hb d_X_storeShiftedUp_84 (by decide) ?_
    refine W.lcmp hx hb d_X_storeShiftedUp_85 ?_
    refine lv_if_eq (tgt := 103) hx hb d_X_storeShiftedUp_86 (by decide) (fun c1 => ?_) (fun c1 => ?_)
    · refine lv_iconst (v := 0) hx hb d_X_storeShiftedUp_103 (by decide) ?_
      exact wf_retz C hr (rfl) hlocks v (⟨by rw [decide_eq_false (show ¬ (wf_NN ≤ wf_V ah al * 2 ^ n) by rw [(wf_or0 _ _).mp c1, Nat.zero_mul]; decide)]; rfl, hst⟩) hP hK hD hS (fun _ h => h) d_X_storeShiftedUp_104
    · refine lv_iload hx hb d_X_storeShiftedUp_89 (lv_at hl 3 rfl) ?_
      refine lv_lload_n hx hb d_X_storeShiftedUp_91 rfl (lv_at hl 1 rfl) ?_
      refine lv_lload_n hx hb d_X_storeShiftedUp_92 rfl (lv_at hl 2 rfl) ?_
      refine kX_above C hl.1 ⟨Nat.le_of_ble_eq_true rfl, Nat.le_of_ble_eq_true rfl⟩ (Nat.le_of_ble_eq_true rfl) ⟨Nat.le_of_ble_eq_true rfl, Nat.le_of_ble_eq_true rfl⟩ d_X_storeShiftedUp_93 (fun r_1 hr_1 => ?_)
      obtain ⟨z, er_1, hz⟩ := hr_1
      subst er_1
      have hz9 : z ≤ 128 := by rcases hz with h | h <;> omega
      have hlost := wf_up_lost (n := n) hz
      refine lv_icmp_le (tgt := 103) hx hb d_X_storeShiftedUp_96 (by decide) (fun c2 => ?_) (fun c2 => ?_)
      · refine lv_iconst (v := 0) hx hb d_X_storeShiftedUp_103 (by decide) ?_
        exact wf_retz C hr (rfl) hlocks v (⟨by rw [decide_eq_false (fun h => Nat.not_lt.mpr ((nI_leI hn (by omega)).mp c2) (hlost.mpr h).2)]; rfl, hst⟩) hP hK hD hS (fun _ h => h) d_X_storeShiftedUp_104
      · refine lv_iconst (v := 1) hx hb d_X_storeShiftedUp_99 (by decide) ?_
        refine lv_goto (tgt := 104) hx hb d_X_storeShiftedUp_100 (by decide) ?_
        exact wf_retz C hr (rfl) hlocks v (⟨by rw [decide_eq_true (hlost.mp ⟨fun h => c1 ((wf_or0 _ _).mpr h), Nat.not_le.mp (fun h => c2 (nI_le h (by omega)))⟩)]; rfl, hst⟩) hP hK hD hS (fun _ h => h) d_X_storeShiftedUp_104
  · refine lv_iload hx hb d_X_storeShiftedUp_0 (lv_at hl 3 rfl) ?_
    refine lv_sipush (v := 128) hx hb d_X_storeShiftedUp_2 (by decide) ?_
    refine lv_icmp_lt (tgt := 19) hx hb d_X_storeShiftedUp_5 (by decide) (fun c1 => ?_) (fun c1 => ?_)
    · have h1 : n < 128 := (nI_ltI hn (by decide)).mp c1
      refine lv_iload hx hb d_X_storeShiftedUp_19 (lv_at hl 3 rfl) ?_
      refine lv_bipush (v := 64) hx hb d_X_storeShiftedUp_21 (by decide) ?_
      refine lv_icmp_lt (tgt := 43) hx hb d_X_storeShiftedUp_23 (by decide) (fun c1 => ?_) (fun c1 => ?_)
      · have h2 : n < 64 := (nI_ltI hn (by decide)).mp c1
        refine lv_iload hx hb d_X_storeShiftedUp_43 (lv_at hl 3 rfl) ?_
        refine lv_if_le (tgt := 73) hx hb d_X_storeShiftedUp_45 (by decide) (fun c1 => ?_) (fun c1 => ?_)
        · have h3 : n = 0 := Nat.le_zero.mp ((nI_leI hn (by decide)).mp c1)
          subst h3
          refine lv_aload_n hx hb d_X_storeShiftedUp_73 rfl (lv_at hl 0 rfl) ?_
          refine lv_iload hx hb d_X_storeShiftedUp_74 (lv_at hl 4 rfl) ?_
          refine lv_lload_n hx hb d_X_storeShiftedUp_76 rfl (lv_at hl 1 rfl) ?_
          refine lv_lload_n hx hb d_X_storeShiftedUp_77 rfl (lv_at hl 2 rfl) ?_
          refine kX_store (r := t) ht C hl.1 ⟨Nat.le_of_ble_eq_true rfl, Nat.le_of_ble_eq_true rfl⟩ (Nat.le_of_ble_eq_true rfl) ⟨Nat.le_of_ble_eq_true rfl, Nat.le_of_ble_eq_true rfl⟩ hP hK hD hS hA d_X_storeShiftedUp_78 (fun u_2 H locs eu_2 hP hD hS => ?_)
          exact jn u_2 H locs ⟨_, _, eu_2, wf_upD ⟩ hP hD hS
        · have h3 : 0 < n := Nat.pos_of_ne_zero (fun h => c1 (by rw [h]; decide))
          refine lv_aload_n hx hb d_X_storeShiftedUp_48 rfl (lv_at hl 0 rfl) ?_
          refine lv_iload hx hb d_X_storeShiftedUp_49 (lv_at hl 4 rfl) ?_
          refine lv_lload_n hx hb d_X_storeShiftedUp_51 rfl (lv_at hl 1 rfl) ?_
          refine lv_iload hx hb d_X_storeShiftedUp_52 (lv_at hl 3 rfl) ?_
          refine lv_lshl hx hb d_X_storeShiftedUp_54 rfl ?_
          refine lv_lload_n hx hb d_X_storeShiftedUp_55 rfl (lv_at hl 2 rfl) ?_
          refine lv_bipush (v := 64) hx hb d_X_storeShiftedUp_56 (by decide) ?_
          refine lv_iload hx hb d_X_storeShiftedUp_58 (lv_at hl 3 rfl) ?_
          refine lv_isub hx hb d_X_storeShiftedUp_60 ?_
          refine lv_topi (fun k_3 ek_3 => ?_)
          have ek_3 : k_3 = nI (64 - n) := ek_3.trans (pk_sub (a := 64) (by omega))
          subst ek_3
          refine lv_lushr hx hb d_X_storeShiftedUp_61 rfl ?_
          refine lv_lor hx hb d_X_storeShiftedUp_62 ?_
          refine lv_lload_n hx hb d_X_storeShiftedUp_63 rfl (lv_at hl 2 rfl) ?_
          refine lv_iload hx hb d_X_storeShiftedUp_64 (lv_at hl 3 rfl) ?_
          refine lv_lshl hx hb d_X_storeShiftedUp_66 rfl ?_
          refine kX_store (r := t) ht C hl.1 ⟨Nat.le_of_ble_eq_true rfl, Nat.le_of_ble_eq_true rfl⟩ (Nat.le_of_ble_eq_true rfl) ⟨Nat.le_of_ble_eq_true rfl, Nat.le_of_ble_eq_true rfl⟩ hP hK hD hS hA d_X_storeShiftedUp_67 (fun u_4 H locs eu_4 hP hD hS => ?_)
          refine lv_goto (tgt := 81) hx hb d_X_storeShiftedUp_70 (by decide) ?_
          exact jn u_4 H locs ⟨_, _, eu_4, wf_upC h3 h2⟩ hP hD hS
      · have h2 : 64 ≤ n := Nat.not_lt.mp (fun h => c1 (nI_lt h (by decide)))
        refine lv_aload_n hx hb d_X_storeShiftedUp_26 rfl (lv_at hl 0 rfl) ?_
        refine lv_iload hx hb d_X_storeShiftedUp_27 (lv_at hl 4 rfl) ?_
        refine lv_lload_n hx hb d_X_storeShiftedUp_29 rfl (lv_at hl 2 rfl) ?_
        refine lv_iload hx hb d_X_storeShiftedUp_30 (lv_at hl 3 rfl) ?_
        refine lv_bipush (v := 64) hx hb d_X_storeShiftedUp_32 (by decide) ?_
        refine lv_isub hx hb d_X_storeShiftedUp_34 ?_
        refine lv_topi (fun k_5 ek_5 => ?_)
        have ek_5 : k_5 = nI (n - 64) := ek_5.trans (pk_sub h2)
        subst ek_5
        refine lv_lshl hx hb d_X_storeShiftedUp_35 rfl ?_
        refine lv_lconst (v := 0) hx hb d_X_storeShiftedUp_36 (by decide) ?_
        refine kX_store (r := t) ht C hl.1 ⟨Nat.le_of_ble_eq_true rfl, Nat.le_of_ble_eq_true rfl⟩ (Nat.le_of_ble_eq_true rfl) ⟨Nat.le_of_ble_eq_true rfl, Nat.le_of_ble_eq_true rfl⟩ hP hK hD hS hA d_X_storeShiftedUp_37 (fun u_6 H locs eu_6 hP hD hS => ?_)
        refine lv_goto (tgt := 81) hx hb d_X_storeShiftedUp_40 (by decide) ?_
        exact jn u_6 H locs ⟨_, _, eu_6, wf_upB h2 h1⟩ hP hD hS
    · have h1 : 128 ≤ n := Nat.not_lt.mp (fun h => c1 (nI_lt h (by decide)))
      refine lv_aload_n hx hb d_X_storeShiftedUp_8 rfl (lv_at hl 0 rfl) ?_
      refine lv_iload hx hb d_X_storeShiftedUp_9 (lv_at hl 4 rfl) ?_
      refine lv_lconst (v := 0) hx hb d_X_storeShiftedUp_11 (by decide) ?_
      refine lv_lconst (v := 0) hx hb d_X_storeShiftedUp_12 (by decide) ?_
      refine kX_store (r := t) ht C hl.1 ⟨Nat.le_of_ble_eq_true rfl, Nat.le_of_ble_eq_true rfl⟩ (Nat.le_of_ble_eq_true rfl) ⟨Nat.le_of_ble_eq_true rfl, Nat.le_of_ble_eq_true rfl⟩ hP hK hD hS hA d_X_storeShiftedUp_13 (fun u_7 H locs eu_7 hP hD hS => ?_)
      refine lv_goto (tgt := 81) hx hb d_X_storeShiftedUp_16 (by decide) ?_
      exact jn u_7 H locs ⟨_, _, eu_7, wf_upA h1⟩ hP hD hS

set_option maxHeartbeats 4000000 in
set_option maxRecDepth 100000 in
theorem kX_up {p : Program} {l : Launch} {e : Env} {R : Room} {s : State} {m : MethodId} {args : Array Value} {below : List Frame} {meth : Method} {c : Code} {H : Heap} {locs : List Loc} {cells slots : Nat} {Q : State → Prop} {cc : ByteArray} {pc nL : Nat} {ls : Array Slot} {rest : List Value} {D : va_G} {q : Nat → Nat} {κ : Nat → ClassId} {A : Nat → Prop} {u : SX} {ah al : Int64} {n : Nat} (hn : n < 2 ^ 31) {t : Nat} (ht : t < 8) (C : CallFix p m c cc nL s args wG RX) (hsz : ls.size = nL) (hR : 4 ≤ R.frames ∧ 116 ≤ R.locals) (hw : (rest.map fun v => v.category).sum ≤ 8) (hc : cells + 0 ≤ R.cells ∧ slots + 0 ≤ R.slots) (hP : va_P D vwCl (wX q κ u) H) (hK : va_K D vwCl (tyX κ) s) (hD : va_D A (wX q κ u)) (hS : va_S A s.heap H locs) (hA : ∀ q, s.heap.size ≤ q → A q) (hdg : decode cc pc = .ok (.invokevirtual 65, 3)) (kk : ∀ (r : Int32) (v : SX) (H1 : Heap) (locs1 : List Loc), (r = wf_bi (decide (wf_NN ≤ wf_V ah al * 2 ^ n)) ∧ wf_st u v t (wf_V ah al * 2 ^ n % wf_NN)) → va_P D vwCl (wX q κ v) H1 → va_D A (wX q κ v) → va_S A s.heap H1 locs1 → W p l e R s m args below meth c H1 locs1 (cells) (slots) Q (F0 m (pc + 3) ls (.int r :: rest))) : W p l e R s m args below meth c H locs cells slots Q (F0 m pc ls (.int (nI t) :: .int (nI n) :: .long al :: .long ah :: .ref (q 0) :: rest)) := by
  exact wf_ci (va_runV (As := [.long ah, .long al, .int (nI n), .int (nI t)]) (rest := rest) C (c_X_storeShiftedUp l D q κ u ah al n hn t ht H.size) (cwV 4 C.2.2.2.2 (wG_V (fun _ h => h) k_ml_X_65 k_im_X_storeShiftedUp k_se_X_storeShiftedUp k_in_X k_X_storeShiftedUp) rfl rfl rfl (by decide +kernel) ⟨hR.1, hR.2⟩) ⟨wf_blind, va_recv hK hP (ci := 0) (q0 := 0) rfl rfl, wf_pre hP hK hD⟩ rfl rfl hsz rfl (lv_room hw) hdg ⟨hc.1, hc.2⟩) (fun _ h => h) hS hD hA kk

set_option maxHeartbeats 4000000 in
set_option maxRecDepth 100000 in
/-- X_storeShiftedDown -/
theorem c_X_storeShiftedDown (l : Launch) (D : va_G) (q : Nat → Nat) (κ : Nat → ClassId) (u : SX) (ah al : Int64) (n : Nat) (hn : n < 2 ^ 31) (t : Nat) (ht : t < 8) (sz : Nat) : Met l y_X_storeShiftedDown (.code y_X_storeShiftedDown b_X_storeShiftedDown 7 (some .boolean) :: wG) (wf_rm 3 90 0 0) (wf_Pc D vwCl (wX q κ u) (tyX κ) ([.ref (q 0), .long ah, .long al, .int (nI n), .int (nI t)]) sz) (va_Qi (fun r v => r = wf_bi (decide (wf_V ah al % 2 ^ n ≠ 0)) ∧ wf_st u v t (wf_V ah al / 2 ^ n)) (wf_B D vwCl (wX q κ) (tyX κ) (va_A (wX q κ u) sz)) (va_A (wX q κ u) sz)) 0 0 (va_A (wX q κ u) sz) := by
  refine wf_open (by decide) (Nat.le_of_ble_eq_true rfl) k_X_storeShiftedDown ?_
  intro p e s m below meth c ls hsz C hr hlocks hnm hex hP hK hD hl
  subst hsz
  have hx := C.1
  have hb := C.2.1
  have hml := C.2.2.1
  have hown := C.2.2.2.1
  have hts := C.2.2.2.2
  have hA : ∀ j : Nat, s.heap.size ≤ j → va_A (wX q κ u) s.heap.size j := fun j h => Or.inr h
  have hS : va_S (va_A (wX q κ u) s.heap.size) s.heap s.heap [] := va_S.rf
  generalize hAe : va_A (wX q κ u) s.heap.size = A at hA hS hD ⊢
  have hl : lv_has ls 7 [(0, .ref (q 0)), (1, .long (ah)), (3, .long (al)), (5, .int (nI n)), (6, .int (nI t))] := hl
  refine wf_cutW (D := D) (cl := vwCl) (A := A) (H0 := s.heap) (pcj := 81) (ls := ls) (fun v => wf_st u v t (wf_V ah al / 2 ^ n)) (wX q κ) (fun v H locs hst hP hD hS => ?_) (fun jn => ?_)
  · refine lv_lload_n hx hb d_X_storeShiftedDown_81 rfl (lv_at hl 1 rfl) ?_
    refine lv_lload_n hx hb d_X_storeShiftedDown_82 rfl (lv_at hl 2 rfl) ?_
    refine lv_lor hx hb d_X_storeShiftedDown_83 ?_
    refine lv_lconst (v := 0) hx hb d_X_storeShiftedDown_84 (by decide) ?_
    refine W.lcmp hx hb d_X_storeShiftedDown_85 ?_
    refine lv_if_eq (tgt := 103) hx hb d_X_storeShiftedDown_86 (by decide) (fun c1 => ?_) (fun c1 => ?_)
    · refine lv_iconst (v := 0) hx hb d_X_storeShiftedDown_103 (by decide) ?_
      exact wf_retz C hr (rfl) hlocks v (⟨by rw [decide_eq_false (show ¬ (wf_V ah al % 2 ^ n ≠ 0) by rw [(wf_or0 _ _).mp c1, Nat.zero_mod]; exact fun h => h rfl)]; rfl, hst⟩) hP hK hD hS (fun _ h => h) d_X_storeShiftedDown_104
    · refine lv_iload hx hb d_X_storeShiftedDown_89 (lv_at hl 3 rfl) ?_
      refine lv_lload_n hx hb d_X_storeShiftedDown_91 rfl (lv_at hl 1 rfl) ?_
      refine lv_lload_n hx hb d_X_storeShiftedDown_92 rfl (lv_at hl 2 rfl) ?_
      refine kX_zbelow C hl.1 ⟨Nat.le_of_ble_eq_true rfl, Nat.le_of_ble_eq_true rfl⟩ (Nat.le_of_ble_eq_true rfl) ⟨Nat.le_of_ble_eq_true rfl, Nat.le_of_ble_eq_true rfl⟩ d_X_storeShiftedDown_93 (fun r_1 hr_1 => ?_)
      obtain ⟨z, er_1, hz⟩ := hr_1
      subst er_1
      have hz9 : z ≤ 128 := by rcases hz with h | h <;> omega
      have hlost := wf_dn_lost (n := n) (wf_V_lt ah al) hz
      refine lv_icmp_le (tgt := 103) hx hb d_X_storeShiftedDown_96 (by decide) (fun c2 => ?_) (fun c2 => ?_)
      · refine lv_iconst (v := 0) hx hb d_X_storeShiftedDown_103 (by decide) ?_
        exact wf_retz C hr (rfl) hlocks v (⟨by rw [decide_eq_false (fun h => Nat.not_lt.mpr ((nI_leI hn (by omega)).mp c2) (hlost.mpr h).2)]; rfl, hst⟩) hP hK hD hS (fun _ h => h) d_X_storeShiftedDown_104
      · refine lv_iconst (v := 1) hx hb d_X_storeShiftedDown_99 (by decide) ?_
        refine lv_goto (tgt := 104) hx hb d_X_storeShiftedDown_100 (by decide) ?_
        exact wf_retz C hr (rfl) hlocks v (⟨by rw [decide_eq_true (hlost.mp ⟨fun h => c1 ((wf_or0 _ _).mpr h), Nat.not_le.mp (fun h => c2 (nI_le h (by omega)))⟩)]; rfl, hst⟩) hP hK hD hS (fun _ h => h) d_X_storeShiftedDown_104
  · refine lv_iload hx hb d_X_storeShiftedDown_0 (lv_at hl 3 rfl) ?_
    refine lv_sipush (v := 128) hx hb d_X_storeShiftedDown_2 (by decide) ?_
    refine lv_icmp_lt (tgt := 19) hx hb d_X_storeShiftedDown_5 (by decide) (fun c1 => ?_) (fun c1 => ?_)
    · have h1 : n < 128 := (nI_ltI hn (by decide)).mp c1
      refine lv_iload hx hb d_X_storeShiftedDown_19 (lv_at hl 3 rfl) ?_
      refine lv_bipush (v := 64) hx hb d_X_storeShiftedDown_21 (by decide) ?_
      refine lv_icmp_lt (tgt := 43) hx hb d_X_storeShiftedDown_23 (by decide) (fun c1 => ?_) (fun c1 => ?_)
      · have h2 : n < 64 := (nI_ltI hn (by decide)).mp c1
        refine lv_iload hx hb d_X_storeShiftedDown_43 (lv_at hl 3 rfl) ?_
        refine lv_if_le (tgt := 73) hx hb d_X_storeShiftedDown_45 (by decide) (fun c1 => ?_) (fun c1 => ?_)
        · have h3 : n = 0 := Nat.le_zero.mp ((nI_leI hn (by decide)).mp c1)
          subst h3
          refine lv_aload_n hx hb d_X_storeShiftedDown_73 rfl (lv_at hl 0 rfl) ?_
          refine lv_iload hx hb d_X_storeShiftedDown_74 (lv_at hl 4 rfl) ?_
          refine lv_lload_n hx hb d_X_storeShiftedDown_76 rfl (lv_at hl 1 rfl) ?_
          refine lv_lload_n hx hb d_X_storeShiftedDown_77 rfl (lv_at hl 2 rfl) ?_
          refine kX_store (r := t) ht C hl.1 ⟨Nat.le_of_ble_eq_true rfl, Nat.le_of_ble_eq_true rfl⟩ (Nat.le_of_ble_eq_true rfl) ⟨Nat.le_of_ble_eq_true rfl, Nat.le_of_ble_eq_true rfl⟩ hP hK hD hS hA d_X_storeShiftedDown_78 (fun u_2 H locs eu_2 hP hD hS => ?_)
          exact jn u_2 H locs ⟨_, _, eu_2, wf_dnD ⟩ hP hD hS
        · have h3 : 0 < n := Nat.pos_of_ne_zero (fun h => c1 (by rw [h]; decide))
          refine lv_aload_n hx hb d_X_storeShiftedDown_48 rfl (lv_at hl 0 rfl) ?_
          refine lv_iload hx hb d_X_storeShiftedDown_49 (lv_at hl 4 rfl) ?_
          refine lv_lload_n hx hb d_X_storeShiftedDown_51 rfl (lv_at hl 1 rfl) ?_
          refine lv_iload hx hb d_X_storeShiftedDown_52 (lv_at hl 3 rfl) ?_
          refine lv_lushr hx hb d_X_storeShiftedDown_54 rfl ?_
          refine lv_lload_n hx hb d_X_storeShiftedDown_55 rfl (lv_at hl 2 rfl) ?_
          refine lv_iload hx hb d_X_storeShiftedDown_56 (lv_at hl 3 rfl) ?_
          refine lv_lushr hx hb d_X_storeShiftedDown_58 rfl ?_
          refine lv_lload_n hx hb d_X_storeShiftedDown_59 rfl (lv_at hl 1 rfl) ?_
          refine lv_bipush (v := 64) hx hb d_X_storeShiftedDown_60 (by decide) ?_
          refine lv_iload hx hb d_X_storeShiftedDown_62 (lv_at hl 3 rfl) ?_
          refine lv_isub hx hb d_X_storeShiftedDown_64 ?_
          refine lv_topi (fun k_3 ek_3 => ?_)
          have ek_3 : k_3 = nI (64 - n) := ek_3.trans (pk_sub (a := 64) (by omega))
          subst ek_3
          refine lv_lshl hx hb d_X_storeShiftedDown_65 rfl ?_
          refine lv_lor hx hb d_X_storeShiftedDown_66 ?_
          refine kX_store (r := t) ht C hl.1 ⟨Nat.le_of_ble_eq_true rfl, Nat.le_of_ble_eq_true rfl⟩ (Nat.le_of_ble_eq_true rfl) ⟨Nat.le_of_ble_eq_true rfl, Nat.le_of_ble_eq_true rfl⟩ hP hK hD hS hA d_X_storeShiftedDown_67 (fun u_4 H locs eu_4 hP hD hS => ?_)
          refine lv_goto (tgt := 81) hx hb d_X_storeShiftedDown_70 (by decide) ?_
          exact jn u_4 H locs ⟨_, _, eu_4, wf_dnC h3 h2⟩ hP hD hS
      · have h2 : 64 ≤ n := Nat.not_lt.mp (fun h => c1 (nI_lt h (by decide)))
        refine lv_aload_n hx hb d_X_storeShiftedDown_26 rfl (lv_at hl 0 rfl) ?_
        refine lv_iload hx hb d_X_storeShiftedDown_27 (lv_at hl 4 rfl) ?_
        refine lv_lconst (v := 0) hx hb d_X_storeShiftedDown_29 (by decide) ?_
        refine lv_lload_n hx hb d_X_storeShiftedDown_30 rfl (lv_at hl 1 rfl) ?_
        refine lv_iload hx hb d_X_storeShiftedDown_31 (lv_at hl 3 rfl) ?_
        refine lv_bipush (v := 64) hx hb d_X_storeShiftedDown_33 (by decide) ?_
        refine lv_isub hx hb d_X_storeShiftedDown_35 ?_
        refine lv_topi (fun k_5 ek_5 => ?_)
        have ek_5 : k_5 = nI (n - 64) := ek_5.trans (pk_sub h2)
        subst ek_5
        refine lv_lushr hx hb d_X_storeShiftedDown_36 rfl ?_
        refine kX_store (r := t) ht C hl.1 ⟨Nat.le_of_ble_eq_true rfl, Nat.le_of_ble_eq_true rfl⟩ (Nat.le_of_ble_eq_true rfl) ⟨Nat.le_of_ble_eq_true rfl, Nat.le_of_ble_eq_true rfl⟩ hP hK hD hS hA d_X_storeShiftedDown_37 (fun u_6 H locs eu_6 hP hD hS => ?_)
        refine lv_goto (tgt := 81) hx hb d_X_storeShiftedDown_40 (by decide) ?_
        exact jn u_6 H locs ⟨_, _, eu_6, wf_dnB h2 h1⟩ hP hD hS
    · have h1 : 128 ≤ n := Nat.not_lt.mp (fun h => c1 (nI_lt h (by decide)))
      refine lv_aload_n hx hb d_X_storeShiftedDown_8 rfl (lv_at hl 0 rfl) ?_
      refine lv_iload hx hb d_X_storeShiftedDown_9 (lv_at hl 4 rfl) ?_
      refine lv_lconst (v := 0) hx hb d_X_storeShiftedDown_11 (by decide) ?_
      refine lv_lconst (v := 0) hx hb d_X_storeShiftedDown_12 (by decide) ?_
      refine kX_store (r := t) ht C hl.1 ⟨Nat.le_of_ble_eq_true rfl, Nat.le_of_ble_eq_true rfl⟩ (Nat.le_of_ble_eq_true rfl) ⟨Nat.le_of_ble_eq_true rfl, Nat.le_of_ble_eq_true rfl⟩ hP hK hD hS hA d_X_storeShiftedDown_13 (fun u_7 H locs eu_7 hP hD hS => ?_)
      refine lv_goto (tgt := 81) hx hb d_X_storeShiftedDown_16 (by decide) ?_
      exact jn u_7 H locs ⟨_, _, eu_7, wf_dnA h1⟩ hP hD hS

set_option maxHeartbeats 4000000 in
set_option maxRecDepth 100000 in
theorem kX_down {p : Program} {l : Launch} {e : Env} {R : Room} {s : State} {m : MethodId} {args : Array Value} {below : List Frame} {meth : Method} {c : Code} {H : Heap} {locs : List Loc} {cells slots : Nat} {Q : State → Prop} {cc : ByteArray} {pc nL : Nat} {ls : Array Slot} {rest : List Value} {D : va_G} {q : Nat → Nat} {κ : Nat → ClassId} {A : Nat → Prop} {u : SX} {ah al : Int64} {n : Nat} (hn : n < 2 ^ 31) {t : Nat} (ht : t < 8) (C : CallFix p m c cc nL s args wG RX) (hsz : ls.size = nL) (hR : 4 ≤ R.frames ∧ 116 ≤ R.locals) (hw : (rest.map fun v => v.category).sum ≤ 8) (hc : cells + 0 ≤ R.cells ∧ slots + 0 ≤ R.slots) (hP : va_P D vwCl (wX q κ u) H) (hK : va_K D vwCl (tyX κ) s) (hD : va_D A (wX q κ u)) (hS : va_S A s.heap H locs) (hA : ∀ q, s.heap.size ≤ q → A q) (hdg : decode cc pc = .ok (.invokevirtual 69, 3)) (kk : ∀ (r : Int32) (v : SX) (H1 : Heap) (locs1 : List Loc), (r = wf_bi (decide (wf_V ah al % 2 ^ n ≠ 0)) ∧ wf_st u v t (wf_V ah al / 2 ^ n)) → va_P D vwCl (wX q κ v) H1 → va_D A (wX q κ v) → va_S A s.heap H1 locs1 → W p l e R s m args below meth c H1 locs1 (cells) (slots) Q (F0 m (pc + 3) ls (.int r :: rest))) : W p l e R s m args below meth c H locs cells slots Q (F0 m pc ls (.int (nI t) :: .int (nI n) :: .long al :: .long ah :: .ref (q 0) :: rest)) := by
  exact wf_ci (va_runV (As := [.long ah, .long al, .int (nI n), .int (nI t)]) (rest := rest) C (c_X_storeShiftedDown l D q κ u ah al n hn t ht H.size) (cwV 4 C.2.2.2.2 (wG_V (fun _ h => h) k_ml_X_69 k_im_X_storeShiftedDown k_se_X_storeShiftedDown k_in_X k_X_storeShiftedDown) rfl rfl rfl (by decide +kernel) ⟨hR.1, hR.2⟩) ⟨wf_blind, va_recv hK hP (ci := 0) (q0 := 0) rfl rfl, wf_pre hP hK hD⟩ rfl rfl hsz rfl (lv_room hw) hdg ⟨hc.1, hc.2⟩) (fun _ h => h) hS hD hA kk
end
section
/-! ===== decimal digits: splitIntoParts, takeLowestDigit, partsAreZero, digits ===== -/
section WWH
variable {p : Program} {l : Launch} {e : Env} {R : Room} {s : State} {m : MethodId} {args : Array Value} {below : List Frame} {meth : Method} {c : Code} {cells slots : Nat} {Q : State → Prop} {D : va_G} {cl : List vw_C} {A : Nat → Prop} {H0 : Heap}
/-- a loop that changes its world, by a measure -/
theorem wf_whileH {σ : Type} {pc nL : Nat} (I : σ → Prop) (μ : σ → Nat) (mk : σ → va_W) (F : σ → List (Nat × Value))
    (step : ∀ (x : σ) (H : Heap) (locs : List Loc) (ls : Array Slot), I x → va_P D cl (mk x) H → va_D A (mk x) → va_S A H0 H locs → lv_has ls nL (F x) →
      (∀ (x' : σ) (H' : Heap) (locs' : List Loc) (ls' : Array Slot), I x' → μ x' < μ x → va_P D cl (mk x') H' → va_D A (mk x') → va_S A H0 H' locs' → lv_has ls' nL (F x') → W p l e R s m args below meth c H' locs' cells slots Q (F0 m pc ls' [])) → W p l e R s m args below meth c H locs cells slots Q (F0 m pc ls []))
    (x0 : σ) (h0 : I x0) {H : Heap} {locs : List Loc} {ls : Array Slot} (hP : va_P D cl (mk x0) H) (hD : va_D A (mk x0)) (hS : va_S A H0 H locs) (hl : lv_has ls nL (F x0)) : W p l e R s m args below meth c H locs cells slots Q (F0 m pc ls []) := by
  have key : ∀ (n : Nat) (x : σ) (H : Heap) (locs : List Loc) (ls : Array Slot), μ x < n → I x → va_P D cl (mk x) H → va_D A (mk x) → va_S A H0 H locs → lv_has ls nL (F x) → W p l e R s m args below meth c H locs cells slots Q (F0 m pc ls []) := by
    intro n
    induction n with
    | zero => intro x H locs ls h; omega
    | succ n ih =>
      intro x H locs ls hn hI h1 h2 h3 hl
      exact step x H locs ls hI h1 h2 h3 hl (fun x' H' locs' ls' k0 kμ k1 k2 k3 k4 => ih x' H' locs' ls' (by omega) k0 k1 k2 k3 k4)
  exact key (μ x0 + 1) x0 H locs ls (by omega) h0 hP hD hS hl
end WWH
/-- the first i parts of 32 bits, as a number -/
def wf_T (f : Nat → Int64) : Nat → Nat
  | 0 => 0
  | i + 1 => wf_T f i * 4294967296 + uN (f i)
def wf_PB (f : Nat → Int64) : Prop := ∀ k, k < 4 → uN (f k) < 4294967296
theorem wf_T_congr {f g : Nat → Int64} {i : Nat} (h : ∀ k, k < i → f k = g k) : wf_T f i = wf_T g i := by
  induction i with
  | zero => rfl
  | succ i ih => show wf_T f i * _ + _ = wf_T g i * _ + _; rw [ih (fun k hk => h k (by omega)), h i (by omega)]
theorem wf_T_up (f : Nat → Int64) (i : Nat) (x : Int64) : wf_T (va_up f i x) (i + 1) = wf_T f i * 4294967296 + uN x := by
  show wf_T (va_up f i x) i * _ + uN (va_up f i x i) = _
  rw [va_up_self, wf_T_congr (fun k hk => va_up_ne f x (show k ≠ i by omega))]
theorem wf_T4 (f : Nat → Int64) : wf_T f 4 = ((uN (f 0) * 4294967296 + uN (f 1)) * 4294967296 + uN (f 2)) * 4294967296 + uN (f 3) := by
  show (((0 * 4294967296 + uN (f 0)) * 4294967296 + uN (f 1)) * 4294967296 + uN (f 2)) * 4294967296 + uN (f 3) = _
  rw [Nat.zero_mul, Nat.zero_add]
theorem wf_div10 {x : Int64} (h : uN x < 9223372036854775808) : uN (x / 10) = uN x / 10 ∧ uN (x - x / 10 * 10) = uN x % 10 := by
  have e : x = lN (uN x) := (wf_lN_uN x).symm
  have h2 : uN x < 2 ^ 63 := h
  have d := pk_lDiv (a := uN x) (b := 10) h2 (by decide) (by decide)
  have r := pk_lRem (a := uN x) (b := 10) h2 (by decide) (by decide)
  rw [← e] at d r
  have d' : x / 10 = lN (uN x / 10) := d
  have r' : x - x / 10 * 10 = lN (uN x % 10) := r
  rw [r', d', uN_ofNat, uN_ofNat]
  omega
theorem wf_now {a b : Int64} (ha : uN a < 10) (hb : uN b < 4294967296) : uN ((a <<< ((32 : Int32).toInt64 &&& 63)) ||| b) = uN a * 4294967296 + uN b := by
  have h := wf_shl a (k := 32) (by decide)
  rw [show nI 32 = (32 : Int32) from rfl, show (2 : Nat) ^ 32 = 4294967296 from by decide, Nat.mod_eq_of_lt (by omega)] at h
  rw [uN_or', h]
  exact wf_or (k := 32) hb
theorem wf_or4 (a b c d : Int64) : lg_cmp (a ||| b ||| c ||| d) 0 = 0 ↔ ((uN a * 4294967296 + uN b) * 4294967296 + uN c) * 4294967296 + uN d = 0 := by
  rw [wf_lo0, uN_or', uN_or', uN_or', Nat.or_eq_zero_iff, Nat.or_eq_zero_iff, Nat.or_eq_zero_iff]
  omega
theorem wf_tl_step {a b n i : Nat} (h : a = 10 * b + i) : a * 4294967296 + n = 10 * (b * 4294967296 + (i * 4294967296 + n) / 10) + (i * 4294967296 + n) % 10 := by omega
theorem wf_4 {f0 : Nat → Int64} {a b c d : Int64} (ha : uN a < 4294967296) (hb : uN b < 4294967296) (hc : uN c < 4294967296) (hd : uN d < 4294967296) :
    wf_PB (va_up (va_up (va_up (va_up f0 0 a) 1 b) 2 c) 3 d) ∧ wf_T (va_up (va_up (va_up (va_up f0 0 a) 1 b) 2 c) 3 d) 4 = ((uN a * 4294967296 + uN b) * 4294967296 + uN c) * 4294967296 + uN d := by
  have e0 : va_up (va_up (va_up (va_up f0 0 a) 1 b) 2 c) 3 d 0 = a := rfl
  have e1 : va_up (va_up (va_up (va_up f0 0 a) 1 b) 2 c) 3 d 1 = b := rfl
  have e2 : va_up (va_up (va_up (va_up f0 0 a) 1 b) 2 c) 3 d 2 = c := rfl
  have e3 : va_up (va_up (va_up (va_up f0 0 a) 1 b) 2 c) 3 d 3 = d := rfl
  refine ⟨fun k hk => ?_, by rw [wf_T4, e0, e1, e2, e3]⟩
  rcases (show k = 0 ∨ k = 1 ∨ k = 2 ∨ k = 3 by omega) with rfl | rfl | rfl | rfl
  · rw [e0]; exact ha
  · rw [e1]; exact hb
  · rw [e2]; exact hc
  · rw [e3]; exact hd
theorem wf_split (h l : Int64) : ((uN h / 4294967296 * 4294967296 + uN h % 4294967296) * 4294967296 + uN l / 4294967296) * 4294967296 + uN l % 4294967296 = wf_V h l := by
  unfold wf_V
  omega
theorem wf_split4 (h l : Int64) (f0 : Nat → Int64) : wf_PB (va_up (va_up (va_up (va_up f0 0 (h.toUInt64 >>> ((32 : Int32).toInt64.toUInt64 &&& Int64.toUInt64 63)).toInt64) 1 (h &&& 4294967295)) 2 (l.toUInt64 >>> ((32 : Int32).toInt64.toUInt64 &&& Int64.toUInt64 63)).toInt64) 3 (l &&& 4294967295)) ∧
    wf_T (va_up (va_up (va_up (va_up f0 0 (h.toUInt64 >>> ((32 : Int32).toInt64.toUInt64 &&& Int64.toUInt64 63)).toInt64) 1 (h &&& 4294967295)) 2 (l.toUInt64 >>> ((32 : Int32).toInt64.toUInt64 &&& Int64.toUInt64 63)).toInt64) 3 (l &&& 4294967295)) 4 = wf_V h l := by
  have hh := uN_lt h
  have hl := uN_lt l
  obtain ⟨h1, h2⟩ := wf_4 (f0 := f0) (a := (h.toUInt64 >>> ((32 : Int32).toInt64.toUInt64 &&& Int64.toUInt64 63)).toInt64) (b := h &&& 4294967295) (c := (l.toUInt64 >>> ((32 : Int32).toInt64.toUInt64 &&& Int64.toUInt64 63)).toInt64) (d := l &&& 4294967295) (by rw [uN_s32]; omega) (by rw [uN_lo]; omega) (by rw [uN_s32]; omega) (by rw [uN_lo]; omega)
  refine ⟨h1, h2.trans ?_⟩
  rw [uN_s32, uN_lo, uN_s32, uN_lo]
  exact wf_split h l

set_option maxHeartbeats 4000000 in
set_option maxRecDepth 100000 in
/-- X_splitIntoParts -/
theorem c_X_splitIntoParts (l : Launch) (D : va_G) (q : Nat → Nat) (κ : Nat → ClassId) (u : SX) (h lo : Int64) (sz : Nat) : Met l y_X_splitIntoParts (.code y_X_splitIntoParts b_X_splitIntoParts 5 none :: wG) (wf_rm 0 0 0 0) (wf_Pc D vwCl (wX q κ u) (tyX κ) ([.ref (q 0), .long h, .long lo]) sz) (va_Qv (fun v => ∃ f : Nat → Int64, v = (u.1, u.2.1, f, u.2.2.2) ∧ wf_PB f ∧ wf_T f 4 = wf_V h lo) (wf_B D vwCl (wX q κ) (tyX κ) (va_A (wX q κ u) sz)) (va_A (wX q κ u) sz)) 0 0 (va_A (wX q κ u) sz) := by
  refine wf_open (by decide) (Nat.le_of_ble_eq_true rfl) k_X_splitIntoParts ?_
  intro p e s m below meth c ls hsz C hr hlocks hnm hex hP hK hD hl
  subst hsz
  have hx := C.1
  have hb := C.2.1
  have hml := C.2.2.1
  have hown := C.2.2.2.1
  have hts := C.2.2.2.2
  have hA : ∀ j : Nat, s.heap.size ≤ j → va_A (wX q κ u) s.heap.size j := fun j h => Or.inr h
  have hS : va_S (va_A (wX q κ u) s.heap.size) s.heap s.heap [] := va_S.rf
  generalize hAe : va_A (wX q κ u) s.heap.size = A at hA hS hD ⊢
  have hl : lv_has ls 5 [(0, .ref (q 0)), (1, .long (h)), (3, .long (lo))] := hl
  refine lv_aload_n hx hb d_X_splitIntoParts_0 rfl (lv_at hl 0 rfl) ?_
  refine gX C hK hP 0 rfl 2 (by decide) k_fl_X_parts rfl d_X_splitIntoParts_1 ?_
  refine lv_iconst (v := 0) hx hb d_X_splitIntoParts_4 (by decide) ?_
  refine lv_lload_n hx hb d_X_splitIntoParts_5 rfl (lv_at hl 1 rfl) ?_
  refine lv_bipush (v := 32) hx hb d_X_splitIntoParts_6 (by decide) ?_
  refine lv_lushr hx hb d_X_splitIntoParts_8 rfl ?_
  refine wf_last C hK hP hD hS 3 2 rfl rfl (k := 0) rfl (by decide) (by decide) d_X_splitIntoParts_9 (fun H locs hP hD hS => ?_)
  have hP : va_P D vwCl (wX q κ (u.1, u.2.1, va_up u.2.2.1 0 ((h.toUInt64 >>> ((Int32.toInt64 32).toUInt64 &&& Int64.toUInt64 63)).toInt64), u.2.2.2)) H := hP
  have hD : va_D A (wX q κ (u.1, u.2.1, va_up u.2.2.1 0 ((h.toUInt64 >>> ((Int32.toInt64 32).toUInt64 &&& Int64.toUInt64 63)).toInt64), u.2.2.2)) := hD
  generalize eu_1 : ((u.1, u.2.1, va_up u.2.2.1 0 ((h.toUInt64 >>> ((Int32.toInt64 32).toUInt64 &&& Int64.toUInt64 63)).toInt64), u.2.2.2) : SX) = u_1 at hP hD
  refine lv_aload_n hx hb d_X_splitIntoParts_10 rfl (lv_at hl 0 rfl) ?_
  refine gX C hK hP 0 rfl 2 (by decide) k_fl_X_parts rfl d_X_splitIntoParts_11 ?_
  refine lv_iconst (v := 1) hx hb d_X_splitIntoParts_14 (by decide) ?_
  refine lv_lload_n hx hb d_X_splitIntoParts_15 rfl (lv_at hl 1 rfl) ?_
  refine lv_ldc2 (v := 4294967295) hx hb hown (hts _ (k_cl_X_112)) d_X_splitIntoParts_16 ?_
  refine lv_land hx hb d_X_splitIntoParts_19 ?_
  refine wf_last C hK hP hD hS 3 2 rfl rfl (k := 1) rfl (by decide) (by decide) d_X_splitIntoParts_20 (fun H locs hP hD hS => ?_)
  have hP : va_P D vwCl (wX q κ (u_1.1, u_1.2.1, va_up u_1.2.2.1 1 (h &&& 4294967295), u_1.2.2.2)) H := hP
  have hD : va_D A (wX q κ (u_1.1, u_1.2.1, va_up u_1.2.2.1 1 (h &&& 4294967295), u_1.2.2.2)) := hD
  generalize eu_2 : ((u_1.1, u_1.2.1, va_up u_1.2.2.1 1 (h &&& 4294967295), u_1.2.2.2) : SX) = u_2 at hP hD
  refine lv_aload_n hx hb d_X_splitIntoParts_21 rfl (lv_at hl 0 rfl) ?_
  refine gX C hK hP 0 rfl 2 (by decide) k_fl_X_parts rfl d_X_splitIntoParts_22 ?_
  refine lv_iconst (v := 2) hx hb d_X_splitIntoParts_25 (by decide) ?_
  refine lv_lload_n hx hb d_X_splitIntoParts_26 rfl (lv_at hl 2 rfl) ?_
  refine lv_bipush (v := 32) hx hb d_X_splitIntoParts_27 (by decide) ?_
  refine lv_lushr hx hb d_X_splitIntoParts_29 rfl ?_
  refine wf_last C hK hP hD hS 3 2 rfl rfl (k := 2) rfl (by decide) (by decide) d_X_splitIntoParts_30 (fun H locs hP hD hS => ?_)
  have hP : va_P D vwCl (wX q κ (u_2.1, u_2.2.1, va_up u_2.2.2.1 2 ((lo.toUInt64 >>> ((Int32.toInt64 32).toUInt64 &&& Int64.toUInt64 63)).toInt64), u_2.2.2.2)) H := hP
  have hD : va_D A (wX q κ (u_2.1, u_2.2.1, va_up u_2.2.2.1 2 ((lo.toUInt64 >>> ((Int32.toInt64 32).toUInt64 &&& Int64.toUInt64 63)).toInt64), u_2.2.2.2)) := hD
  generalize eu_3 : ((u_2.1, u_2.2.1, va_up u_2.2.2.1 2 ((lo.toUInt64 >>> ((Int32.toInt64 32).toUInt64 &&& Int64.toUInt64 63)).toInt64), u_2.2.2.2) : SX) = u_3 at hP hD
  refine lv_aload_n hx hb d_X_splitIntoParts_31 rfl (lv_at hl 0 rfl) ?_
  refine gX C hK hP 0 rfl 2 (by decide) k_fl_X_parts rfl d_X_splitIntoParts_32 ?_
  refine lv_iconst (v := 3) hx hb d_X_splitIntoParts_35 (by decide) ?_
  refine lv_lload_n hx hb d_X_splitIntoParts_36 rfl (lv_at hl 2 rfl) ?_
  refine lv_ldc2 (v := 4294967295) hx hb hown (hts _ (k_cl_X_112)) d_X_splitIntoParts_37 ?_
  refine lv_land hx hb d_X_splitIntoParts_40 ?_
  refine wf_last C hK hP hD hS 3 2 rfl rfl (k := 3) rfl (by decide) (by decide) d_X_splitIntoParts_41 (fun H locs hP hD hS => ?_)
  have hP : va_P D vwCl (wX q κ (u_3.1, u_3.2.1, va_up u_3.2.2.1 3 (lo &&& 4294967295), u_3.2.2.2)) H := hP
  have hD : va_D A (wX q κ (u_3.1, u_3.2.1, va_up u_3.2.2.1 3 (lo &&& 4294967295), u_3.2.2.2)) := hD
  generalize eu_4 : ((u_3.1, u_3.2.1, va_up u_3.2.2.1 3 (lo &&& 4294967295), u_3.2.2.2) : SX) = u_4 at hP hD
  exact wf_retv C hr hlocks u_4 (⟨_, (by subst eu_1 eu_2 eu_3 eu_4; rfl : u_4 = (u.1, u.2.1, va_up (va_up (va_up (va_up u.2.2.1 0 _) 1 _) 2 _) 3 _, u.2.2.2)), wf_split4 h lo _⟩) hP hK hD hS (fun _ h => h) d_X_splitIntoParts_42

set_option maxHeartbeats 4000000 in
set_option maxRecDepth 100000 in
theorem kX_split {p : Program} {l : Launch} {e : Env} {R : Room} {s : State} {m : MethodId} {args : Array Value} {below : List Frame} {meth : Method} {c : Code} {H : Heap} {locs : List Loc} {cells slots : Nat} {Q : State → Prop} {cc : ByteArray} {pc nL : Nat} {ls : Array Slot} {rest : List Value} {D : va_G} {q : Nat → Nat} {κ : Nat → ClassId} {A : Nat → Prop} {u : SX} {h lo : Int64} (C : CallFix p m c cc nL s args wG RX) (hsz : ls.size = nL) (hR : 1 ≤ R.frames ∧ 24 ≤ R.locals) (hw : (rest.map fun v => v.category).sum ≤ 8) (hc : cells + 0 ≤ R.cells ∧ slots + 0 ≤ R.slots) (hP : va_P D vwCl (wX q κ u) H) (hK : va_K D vwCl (tyX κ) s) (hD : va_D A (wX q κ u)) (hS : va_S A s.heap H locs) (hA : ∀ q, s.heap.size ≤ q → A q) (hdg : decode cc pc = .ok (.invokevirtual 81, 3)) (kk : ∀ (v : SX) (H1 : Heap) (locs1 : List Loc), (∃ f : Nat → Int64, v = (u.1, u.2.1, f, u.2.2.2) ∧ wf_PB f ∧ wf_T f 4 = wf_V h lo) → va_P D vwCl (wX q κ v) H1 → va_D A (wX q κ v) → va_S A s.heap H1 locs1 → W p l e R s m args below meth c H1 locs1 (cells) (slots) Q (F0 m (pc + 3) ls (rest))) : W p l e R s m args below meth c H locs cells slots Q (F0 m pc ls (.long lo :: .long h :: .ref (q 0) :: rest)) := by
  exact wf_cv (va_runV (As := [.long h, .long lo]) (rest := rest) C (c_X_splitIntoParts l D q κ u h lo H.size) (cwV 2 C.2.2.2.2 (wG_V (fun _ h => h) k_ml_X_81 k_im_X_splitIntoParts k_se_X_splitIntoParts k_in_X k_X_splitIntoParts) rfl rfl rfl (by decide +kernel) ⟨hR.1, hR.2⟩) ⟨wf_blind, va_recv hK hP (ci := 0) (q0 := 0) rfl rfl, wf_pre hP hK hD⟩ rfl rfl hsz rfl (lv_room hw) hdg ⟨hc.1, hc.2⟩) (fun _ h => h) hS hD hA kk
end
section
/-! ===== takeLowestDigit, partsAreZero, digits, digit ===== -/
def wf_TI (u : SX) (i : Nat) (x : SX × Int64) : Prop := x.1 = (u.1, u.2.1, x.1.2.2.1, u.2.2.2) ∧ wf_PB x.1.2.2.1 ∧ (∀ k, i ≤ k → k < 4 → x.1.2.2.1 k = u.2.2.1 k) ∧ uN x.2 < 10 ∧ wf_T u.2.2.1 i = 10 * wf_T x.1.2.2.1 i + uN x.2
theorem wf_TI_S {u w v : SX} {lf now lf' : Int64} {i : Nat} (hi : i < 4) (h : wf_TI u i (w, lf)) (e1 : now = (lf <<< ((32 : Int32).toInt64 &&& 63)) ||| w.2.2.1 i) (e2 : (w.1, w.2.1, va_up w.2.2.1 i (now / 10), w.2.2.2) = v) (e3 : lf' = now - now / 10 * 10) : wf_TI u (i + 1) (v, lf') := by
  obtain ⟨i1, i2, i3, i4, i5⟩ := h
  have i1 : w = (u.1, u.2.1, w.2.2.1, u.2.2.2) := i1
  have i2 : wf_PB w.2.2.1 := i2
  have i3 : ∀ k, i ≤ k → k < 4 → w.2.2.1 k = u.2.2.1 k := i3
  have i4 : uN lf < 10 := i4
  have i5 : wf_T u.2.2.1 i = 10 * wf_T w.2.2.1 i + uN lf := i5
  have hb := i2 i hi
  have hn : uN now = uN lf * 4294967296 + uN (w.2.2.1 i) := by rw [e1]; exact wf_now i4 hb
  obtain ⟨d1, d2⟩ := wf_div10 (x := now) (by omega)
  subst e2 e3
  refine ⟨?_, fun k hk => ?_, fun k h1 h2 => ?_, ?_, ?_⟩
  · show (w.1, w.2.1, va_up w.2.2.1 i (now / 10), w.2.2.2) = (u.1, u.2.1, va_up w.2.2.1 i (now / 10), u.2.2.2)
    rw [i1]
  · show uN (va_up w.2.2.1 i (now / 10) k) < _
    by_cases hki : k = i
    · subst hki; rw [va_up_self, d1]; omega
    · rw [va_up_ne _ _ hki]; exact i2 k hk
  · show va_up w.2.2.1 i (now / 10) k = _
    rw [va_up_ne _ _ (show k ≠ i by omega)]
    exact i3 k (by omega) h2
  · show uN (now - now / 10 * 10) < 10
    rw [d2]; omega
  · show wf_T u.2.2.1 i * 4294967296 + uN (u.2.2.1 i) = 10 * wf_T (va_up w.2.2.1 i (now / 10)) (i + 1) + uN (now - now / 10 * 10)
    rw [wf_T_up, d1, d2, hn, ← i3 i (Nat.le_refl i) hi]
    exact wf_tl_step i5
theorem wf_TI_end {u w : SX} {lf : Int64} (h : wf_TI u 4 (w, lf)) : nI (uN lf % 4294967296) = nI (wf_T u.2.2.1 4 % 10) ∧ ∃ f : Nat → Int64, w = (u.1, u.2.1, f, u.2.2.2) ∧ wf_PB f ∧ wf_T f 4 = wf_T u.2.2.1 4 / 10 := by
  obtain ⟨i1, i2, i3, i4, i5⟩ := h
  have i4 : uN lf < 10 := i4
  have i5 : wf_T u.2.2.1 4 = 10 * wf_T w.2.2.1 4 + uN lf := i5
  refine ⟨by congr 1; omega, w.2.2.1, i1, i2, by omega⟩

set_option maxHeartbeats 4000000 in
set_option maxRecDepth 100000 in
/-- X_takeLowestDigit -/
theorem c_X_takeLowestDigit (l : Launch) (D : va_G) (q : Nat → Nat) (κ : Nat → ClassId) (u : SX) (hB : wf_PB u.2.2.1) (sz : Nat) : Met l y_X_takeLowestDigit (.code y_X_takeLowestDigit b_X_takeLowestDigit 6 (some .int) :: wG) (wf_rm 0 0 0 0) (wf_Pc D vwCl (wX q κ u) (tyX κ) ([.ref (q 0)]) sz) (va_Qi (fun r v => r = nI (wf_T u.2.2.1 4 % 10) ∧ ∃ f : Nat → Int64, v = (u.1, u.2.1, f, u.2.2.2) ∧ wf_PB f ∧ wf_T f 4 = wf_T u.2.2.1 4 / 10) (wf_B D vwCl (wX q κ) (tyX κ) (va_A (wX q κ u) sz)) (va_A (wX q κ u) sz)) 0 0 (va_A (wX q κ u) sz) := by
  refine wf_open (by decide) (Nat.le_of_ble_eq_true rfl) k_X_takeLowestDigit ?_
  intro p e s m below meth c ls hsz C hr hlocks hnm hex hP hK hD hl
  subst hsz
  have hx := C.1
  have hb := C.2.1
  have hml := C.2.2.1
  have hown := C.2.2.2.1
  have hts := C.2.2.2.2
  have hA : ∀ j : Nat, s.heap.size ≤ j → va_A (wX q κ u) s.heap.size j := fun j h => Or.inr h
  have hS : va_S (va_A (wX q κ u) s.heap.size) s.heap s.heap [] := va_S.rf
  generalize hAe : va_A (wX q κ u) s.heap.size = A at hA hS hD ⊢
  have hl : lv_has ls 6 [(0, .ref (q 0))] := hl
  refine lv_lconst (v := 0) hx hb d_X_takeLowestDigit_0 (by decide) ?_
  refine lv_lstore_n (lv' := [(1, .long (0)), (0, .ref (q 0))]) hx hb d_X_takeLowestDigit_1 rfl hl (by decide) rfl (fun ls hl => ?_)
  refine lv_iconst (v := 0) hx hb d_X_takeLowestDigit_2 (by decide) ?_
  refine lv_istore_n (lv' := [(3, .int (0)), (1, .long (0)), (0, .ref (q 0))]) hx hb d_X_takeLowestDigit_3 rfl hl (by decide) rfl (fun ls hl => ?_)
  refine wf_forH (σ := SX × Int64) 4 (fun i x => wf_TI u i x) (fun x => wX q κ x.1) (fun i x => [(3, .int (nI i)), (1, .long (x.2)), (0, .ref (q 0))]) (fun i x H locs ls hi hI hP hD hS hl ih => ?_) (fun x H locs ls hI hP hD hS hl => ?_) (u, 0) (⟨rfl, hB, fun _ _ _ => rfl, (show uN (0 : Int64) < 10 by decide), rfl⟩) hP hD hS (lv_sub hl [0, 1, 2] rfl)
  · obtain ⟨w0, lf⟩ := x
    have hP : va_P D vwCl (wX q κ w0) H := hP
    have hD : va_D A (wX q κ w0) := hD
    have hl : lv_has ls 6 [(3, .int (nI i)), (1, .long (lf)), (0, .ref (q 0))] := hl
    have hI : wf_TI u i (w0, lf) := hI
    refine lv_iload_n hx hb d_X_takeLowestDigit_4 rfl (lv_at hl 0 rfl) ?_
    refine lv_iconst (v := 4) hx hb d_X_takeLowestDigit_5 (by decide) ?_
    refine lv_icmp_ge (tgt := 47) hx hb d_X_takeLowestDigit_6 (by decide) (fun c_1 => False.elim (by first | exact absurd c_1 (nI_ge hi (by decide)) | exact absurd (nI_ge hi (by decide)) c_1)) (fun c_1 => ?_)
    refine lv_lload_n hx hb d_X_takeLowestDigit_9 rfl (lv_at hl 1 rfl) ?_
    refine lv_bipush (v := 32) hx hb d_X_takeLowestDigit_10 (by decide) ?_
    refine lv_lshl hx hb d_X_takeLowestDigit_12 rfl ?_
    refine lv_aload_n hx hb d_X_takeLowestDigit_13 rfl (lv_at hl 2 rfl) ?_
    refine gX C hK hP 0 rfl 2 (by decide) k_fl_X_parts rfl d_X_takeLowestDigit_14 ?_
    refine lv_iload_n hx hb d_X_takeLowestDigit_17 rfl (lv_at hl 0 rfl) ?_
    refine wf_lald C hK hP 3 2 rfl rfl (k := i) rfl hi (by decide) d_X_takeLowestDigit_18 ?_
    refine lv_lor hx hb d_X_takeLowestDigit_19 ?_
    refine lv_topl (fun v_2 ev_2 => ?_)
    refine lv_lstore (lv' := [(4, .long (v_2)), (3, .int (nI i)), (1, .long (lf)), (0, .ref (q 0))]) hx hb d_X_takeLowestDigit_20 hl (by decide) rfl (fun ls hl => ?_)
    refine lv_aload_n hx hb d_X_takeLowestDigit_22 rfl (lv_at hl 3 rfl) ?_
    refine gX C hK hP 0 rfl 2 (by decide) k_fl_X_parts rfl d_X_takeLowestDigit_23 ?_
    refine lv_iload_n hx hb d_X_takeLowestDigit_26 rfl (lv_at hl 1 rfl) ?_
    refine lv_lload hx hb d_X_takeLowestDigit_27 (lv_at hl 0 rfl) ?_
    refine lv_ldc2 (v := 10) hx hb hown (hts _ (k_cl_X_93)) d_X_takeLowestDigit_29 ?_
    refine lv_ldiv hx hb d_X_takeLowestDigit_32 (by decide) ?_
    refine wf_last C hK hP hD hS 3 2 rfl rfl (k := i) rfl hi (by decide) d_X_takeLowestDigit_33 (fun H locs hP hD hS => ?_)
    have hP : va_P D vwCl (wX q κ (w0.1, w0.2.1, va_up w0.2.2.1 i (v_2 / 10), w0.2.2.2)) H := hP
    have hD : va_D A (wX q κ (w0.1, w0.2.1, va_up w0.2.2.1 i (v_2 / 10), w0.2.2.2)) := hD
    generalize eu_3 : ((w0.1, w0.2.1, va_up w0.2.2.1 i (v_2 / 10), w0.2.2.2) : SX) = u_3 at hP hD
    refine lv_lload hx hb d_X_takeLowestDigit_34 (lv_at hl 0 rfl) ?_
    refine lv_ldc2 (v := 10) hx hb hown (hts _ (k_cl_X_93)) d_X_takeLowestDigit_36 ?_
    refine lv_lrem hx hb d_X_takeLowestDigit_39 (by decide) ?_
    refine lv_topl (fun v_4 ev_4 => ?_)
    refine lv_lstore_n (lv' := [(1, .long (v_4)), (4, .long (v_2)), (3, .int (nI i)), (0, .ref (q 0))]) hx hb d_X_takeLowestDigit_40 rfl hl (by decide) rfl (fun ls hl => ?_)
    refine lv_iinc (v := nI (i + 1)) (lv' := [(3, .int (nI (i + 1))), (1, .long (v_4)), (4, .long (v_2)), (0, .ref (q 0))]) hx hb d_X_takeLowestDigit_41 hl (k := 2) rfl (nI_1 _) (by decide) rfl (fun ls hl => ?_)
    refine lv_goto (tgt := 4) hx hb d_X_takeLowestDigit_44 (by decide) ?_
    exact ih (u_3, v_4) H locs ls (wf_TI_S hi hI ev_2 eu_3 ev_4) hP hD hS (lv_sub hl [0, 1, 3] rfl)
  · obtain ⟨w0, lf⟩ := x
    have hP : va_P D vwCl (wX q κ w0) H := hP
    have hD : va_D A (wX q κ w0) := hD
    have hl : lv_has ls 6 [(3, .int (nI 4)), (1, .long (lf)), (0, .ref (q 0))] := hl
    have hI : wf_TI u 4 (w0, lf) := hI
    refine lv_iload_n hx hb d_X_takeLowestDigit_4 rfl (lv_at hl 0 rfl) ?_
    refine lv_iconst (v := 4) hx hb d_X_takeLowestDigit_5 (by decide) ?_
    refine lv_icmp_ge (tgt := 47) hx hb d_X_takeLowestDigit_6 (by decide) (fun c_5 => ?_) (fun c_5 => False.elim (by first | exact absurd (nI_le (Nat.le_refl 4) (by decide)) c_5 | exact absurd c_5 (nI_le (Nat.le_refl 4) (by decide))))
    refine lv_lload_n hx hb d_X_takeLowestDigit_47 rfl (lv_at hl 1 rfl) ?_
    refine lv_l2i hx hb d_X_takeLowestDigit_48 (wf_l2i _) ?_
    exact wf_reti C hr hlocks w0 (wf_TI_end hI) hP hK hD hS (fun _ h => h) d_X_takeLowestDigit_49

set_option maxHeartbeats 4000000 in
set_option maxRecDepth 100000 in
theorem kX_take {p : Program} {l : Launch} {e : Env} {R : Room} {s : State} {m : MethodId} {args : Array Value} {below : List Frame} {meth : Method} {c : Code} {H : Heap} {locs : List Loc} {cells slots : Nat} {Q : State → Prop} {cc : ByteArray} {pc nL : Nat} {ls : Array Slot} {rest : List Value} {D : va_G} {q : Nat → Nat} {κ : Nat → ClassId} {A : Nat → Prop} {u : SX} (hB : wf_PB u.2.2.1) (C : CallFix p m c cc nL s args wG RX) (hsz : ls.size = nL) (hR : 1 ≤ R.frames ∧ 25 ≤ R.locals) (hw : (rest.map fun v => v.category).sum ≤ 8) (hc : cells + 0 ≤ R.cells ∧ slots + 0 ≤ R.slots) (hP : va_P D vwCl (wX q κ u) H) (hK : va_K D vwCl (tyX κ) s) (hD : va_D A (wX q κ u)) (hS : va_S A s.heap H locs) (hA : ∀ q, s.heap.size ≤ q → A q) (hdg : decode cc pc = .ok (.invokevirtual 85, 3)) (kk : ∀ (r : Int32) (v : SX) (H1 : Heap) (locs1 : List Loc), (r = nI (wf_T u.2.2.1 4 % 10) ∧ ∃ f : Nat → Int64, v = (u.1, u.2.1, f, u.2.2.2) ∧ wf_PB f ∧ wf_T f 4 = wf_T u.2.2.1 4 / 10) → va_P D vwCl (wX q κ v) H1 → va_D A (wX q κ v) → va_S A s.heap H1 locs1 → W p l e R s m args below meth c H1 locs1 (cells) (slots) Q (F0 m (pc + 3) ls (.int r :: rest))) : W p l e R s m args below meth c H locs cells slots Q (F0 m pc ls (.ref (q 0) :: rest)) := by
  exact wf_ci (va_runV (As := []) (rest := rest) C (c_X_takeLowestDigit l D q κ u hB H.size) (cwV 0 C.2.2.2.2 (wG_V (fun _ h => h) k_ml_X_85 k_im_X_takeLowestDigit k_se_X_takeLowestDigit k_in_X k_X_takeLowestDigit) rfl rfl rfl (by decide +kernel) ⟨hR.1, hR.2⟩) ⟨wf_blind, va_recv hK hP (ci := 0) (q0 := 0) rfl rfl, wf_pre hP hK hD⟩ rfl rfl hsz rfl (lv_room hw) hdg ⟨hc.1, hc.2⟩) (fun _ h => h) hS hD hA kk

set_option maxHeartbeats 4000000 in
set_option maxRecDepth 100000 in
/-- X_partsAreZero -/
theorem c_X_partsAreZero (l : Launch) (D : va_G) (q : Nat → Nat) (κ : Nat → ClassId) (u : SX)  (sz : Nat) : Met l y_X_partsAreZero (.code y_X_partsAreZero b_X_partsAreZero 1 (some .boolean) :: wG) (wf_rm 0 0 0 0) (wf_Pc D vwCl (wX q κ u) (tyX κ) ([.ref (q 0)]) sz) (vp_Si (fun r => r = wf_bi (decide (wf_T u.2.2.1 4 = 0)))) 0 0 (fun _ => False) := by
  refine wf_open (by decide) (Nat.le_of_ble_eq_true rfl) k_X_partsAreZero ?_
  intro p e s m below meth c ls hsz C hr hlocks hnm hex hP hK hD hl
  subst hsz
  have hx := C.1
  have hb := C.2.1
  have hml := C.2.2.1
  have hown := C.2.2.2.1
  have hts := C.2.2.2.2
  have hA : ∀ j : Nat, s.heap.size ≤ j → va_A (wX q κ u) s.heap.size j := fun j h => Or.inr h
  have hS : va_S (va_A (wX q κ u) s.heap.size) s.heap s.heap [] := va_S.rf
  generalize hAe : va_A (wX q κ u) s.heap.size = A at hA hS hD ⊢
  have hl : lv_has ls 1 [(0, .ref (q 0))] := hl
  refine lv_aload_n hx hb d_X_partsAreZero_0 rfl (lv_at hl 0 rfl) ?_
  refine gX C hK hP 0 rfl 2 (by decide) k_fl_X_parts rfl d_X_partsAreZero_1 ?_
  refine lv_iconst (v := 0) hx hb d_X_partsAreZero_4 (by decide) ?_
  refine wf_lald C hK hP 3 2 rfl rfl (k := 0) rfl (by decide) (by decide) d_X_partsAreZero_5 ?_
  refine lv_aload_n hx hb d_X_partsAreZero_6 rfl (lv_at hl 0 rfl) ?_
  refine gX C hK hP 0 rfl 2 (by decide) k_fl_X_parts rfl d_X_partsAreZero_7 ?_
  refine lv_iconst (v := 1) hx hb d_X_partsAreZero_10 (by decide) ?_
  refine wf_lald C hK hP 3 2 rfl rfl (k := 1) rfl (by decide) (by decide) d_X_partsAreZero_11 ?_
  refine lv_lor hx hb d_X_partsAreZero_12 ?_
  refine lv_aload_n hx hb d_X_partsAreZero_13 rfl (lv_at hl 0 rfl) ?_
  refine gX C hK hP 0 rfl 2 (by decide) k_fl_X_parts rfl d_X_partsAreZero_14 ?_
  refine lv_iconst (v := 2) hx hb d_X_partsAreZero_17 (by decide) ?_
  refine wf_lald C hK hP 3 2 rfl rfl (k := 2) rfl (by decide) (by decide) d_X_partsAreZero_18 ?_
  refine lv_lor hx hb d_X_partsAreZero_19 ?_
  refine lv_aload_n hx hb d_X_partsAreZero_20 rfl (lv_at hl 0 rfl) ?_
  refine gX C hK hP 0 rfl 2 (by decide) k_fl_X_parts rfl d_X_partsAreZero_21 ?_
  refine lv_iconst (v := 3) hx hb d_X_partsAreZero_24 (by decide) ?_
  refine wf_lald C hK hP 3 2 rfl rfl (k := 3) rfl (by decide) (by decide) d_X_partsAreZero_25 ?_
  refine lv_lor hx hb d_X_partsAreZero_26 ?_
  refine lv_lconst (v := 0) hx hb d_X_partsAreZero_27 (by decide) ?_
  refine W.lcmp hx hb d_X_partsAreZero_28 ?_
  refine lv_if_ne (tgt := 36) hx hb d_X_partsAreZero_29 (by decide) (fun c_1 => ?_) (fun c_1 => ?_)
  · refine lv_iconst (v := 0) hx hb d_X_partsAreZero_36 (by decide) ?_
    exact W.zret hx hb hr (rfl) (fun t ht hW => ⟨_, rfl, by rw [decide_eq_false (by rw [wf_T4]; exact fun h => c_1 ((wf_or4 _ _ _ _).mpr h))]; rfl, ht⟩) (fun q h => by cases h) d_X_partsAreZero_37 hlocks
  · refine lv_iconst (v := 1) hx hb d_X_partsAreZero_32 (by decide) ?_
    refine lv_goto (tgt := 37) hx hb d_X_partsAreZero_33 (by decide) ?_
    exact W.zret hx hb hr (rfl) (fun t ht hW => ⟨_, rfl, by rw [decide_eq_true (by rw [wf_T4]; exact (wf_or4 _ _ _ _).mp c_1)]; rfl, ht⟩) (fun q h => by cases h) d_X_partsAreZero_37 hlocks

set_option maxHeartbeats 4000000 in
set_option maxRecDepth 100000 in
theorem kX_pz {p : Program} {l : Launch} {e : Env} {R : Room} {s : State} {m : MethodId} {args : Array Value} {below : List Frame} {meth : Method} {c : Code} {H : Heap} {locs : List Loc} {cells slots : Nat} {Q : State → Prop} {cc : ByteArray} {pc nL : Nat} {ls : Array Slot} {rest : List Value} {D : va_G} {q : Nat → Nat} {κ : Nat → ClassId} {A : Nat → Prop} {u : SX}  (C : CallFix p m c cc nL s args wG RX) (hsz : ls.size = nL) (hR : 1 ≤ R.frames ∧ 20 ≤ R.locals) (hw : (rest.map fun v => v.category).sum ≤ 8) (hc : cells ≤ R.cells ∧ slots ≤ R.slots) (hP : va_P D vwCl (wX q κ u) H) (hK : va_K D vwCl (tyX κ) s) (hD : va_D A (wX q κ u)) (hdg : decode cc pc = .ok (.invokevirtual 89, 3)) (kk : ∀ r : Int32, r = wf_bi (decide (wf_T u.2.2.1 4 = 0)) → W p l e R s m args below meth c H locs cells slots Q (F0 m (pc + 3) ls (.int r :: rest))) : W p l e R s m args below meth c H locs cells slots Q (F0 m pc ls (.ref (q 0) :: rest)) := by
  exact vp_callSi (W.runV (As := []) (rest := rest) C (c_X_partsAreZero l D q κ u H.size) (cwV 0 C.2.2.2.2 (wG_V (fun _ h => h) k_ml_X_89 k_im_X_partsAreZero k_se_X_partsAreZero k_in_X k_X_partsAreZero) rfl rfl rfl (by decide +kernel) ⟨hR.1, hR.2⟩) ⟨wf_blind, va_recv hK hP (ci := 0) (q0 := 0) rfl rfl, wf_pre hP hK hD⟩ rfl rfl hsz rfl (lv_room hw) hdg ⟨hc.1, hc.2⟩) kk

/-- behind c digits written -/
def wf_GI (u : SX) (n : Nat) (x : SX × Nat) : Prop := x.2 ≤ 38 ∧ (x.2 = 0 ∨ n / 10 ^ x.2 ≠ 0) ∧ x.1.1 = u.1 ∧ x.1.2.1 = u.2.1 ∧ wf_PB x.1.2.2.1 ∧ wf_T x.1.2.2.1 4 = n / 10 ^ x.2 ∧ ∀ i, i < x.2 → x.1.2.2.2.1 (39 - x.2 + i) = nI (n / 10 ^ (x.2 - 1 - i) % 10)
/-- the digits of n in the row from its end -/
def wf_GE (u v : SX) (n c : Nat) : Prop := 1 ≤ c ∧ c ≤ 39 ∧ v.1 = u.1 ∧ v.2.1 = u.2.1 ∧ wf_PB v.2.2.1 ∧ wf_T v.2.2.1 4 = n / 10 ^ c ∧ (c = 1 ∨ 10 ^ (c - 1) ≤ n) ∧ ∀ i, i < c → v.2.2.2.1 (39 - c + i) = nI (n / 10 ^ (c - 1 - i) % 10)
theorem wf_GI_S {u w v z : SX} {n c : Nat} {f : Nat → Int64} (h : wf_GI u n (w, c)) (e1 : v = (w.1, w.2.1, f, w.2.2.2)) (hf : wf_PB f) (hT : wf_T f 4 = wf_T w.2.2.1 4 / 10) (e2 : (v.1, v.2.1, v.2.2.1, va_up v.2.2.2.1 (39 - c - 1) (nI (wf_T w.2.2.1 4 % 10)), v.2.2.2.2) = z) : wf_GE u z n (c + 1) := by
  obtain ⟨i1, i2, i3, i4, i5, i6, i7⟩ := h
  have i1 : c ≤ 38 := i1
  have i2 : c = 0 ∨ n / 10 ^ c ≠ 0 := i2
  have i3 : w.1 = u.1 := i3
  have i4 : w.2.1 = u.2.1 := i4
  have i6 : wf_T w.2.2.1 4 = n / 10 ^ c := i6
  have i7 : ∀ i, i < c → w.2.2.2.1 (39 - c + i) = nI (n / 10 ^ (c - 1 - i) % 10) := i7
  subst e1 e2
  refine ⟨by omega, by omega, i3, i4, hf, ?_, ?_, fun i hi => ?_⟩
  · show wf_T f 4 = _
    rw [hT, i6, Nat.div_div_eq_div_mul, ← Nat.pow_succ]
  · rcases i2 with h | h
    · left; omega
    · right
      rw [Nat.add_sub_cancel]
      rcases Nat.lt_or_ge n (10 ^ c) with h1 | h1
      · exact absurd (Nat.div_eq_of_lt h1) h
      · exact h1
  · show va_up w.2.2.2.1 (39 - c - 1) (nI (wf_T w.2.2.1 4 % 10)) (39 - (c + 1) + i) = _
    rcases Nat.eq_zero_or_pos i with h0 | h0
    · subst h0
      rw [show 39 - (c + 1) + 0 = 39 - c - 1 by omega, va_up_self, i6, show c + 1 - 1 - 0 = c by omega]
    · rw [va_up_ne _ _ (by omega), show 39 - (c + 1) + i = 39 - c + (i - 1) by omega, i7 (i - 1) (by omega), show c - 1 - (i - 1) = c + 1 - 1 - i by omega]
theorem wf_GE_I {u v : SX} {n c : Nat} (h : wf_GE u v n c) (hc : c ≤ 38) (h0 : n / 10 ^ c ≠ 0) : wf_GI u n (v, c) := ⟨hc, Or.inr h0, h.2.2.1, h.2.2.2.1, h.2.2.2.2.1, h.2.2.2.2.2.1, h.2.2.2.2.2.2.2⟩
theorem wf_GE_D {u v : SX} {n c : Nat} (hn : n < wf_NN) (h : wf_GE u v n c) (he : c = 39 ∨ n / 10 ^ c = 0) : wf_DG n c (fun i => n / 10 ^ (c - 1 - i) % 10) := by
  refine ⟨h.1, ?_, h.2.2.2.2.2.2.1, fun i _ => rfl⟩
  rcases he with h | h
  · subst h
    exact Nat.lt_of_lt_of_le hn (by decide +kernel)
  · rcases Nat.lt_or_ge n (10 ^ c) with h1 | h1
    · exact h1
    · exact absurd h (Nat.ne_of_gt (Nat.div_pos h1 (Nat.pow_pos (by decide))))

set_option maxHeartbeats 4000000 in
set_option maxRecDepth 100000 in
/-- X_digits -/
theorem c_X_digits (l : Launch) (D : va_G) (q : Nat → Nat) (κ : Nat → ClassId) (u : SX) (k : Nat) (hk : k < 8) (sz : Nat) : Met l y_X_digits (.code y_X_digits b_X_digits 3 (some .int) :: wG) (wf_rm 4 150 0 0) (wf_Pc D vwCl (wX q κ u) (tyX κ) ([.ref (q 0), .int (nI k)]) sz) (va_Qi (fun r v => ∃ (c : Nat) (G : Nat → Nat), r = nI c ∧ c ≤ 39 ∧ wf_DG (wf_Rx u k) c G ∧ v.1 = u.1 ∧ v.2.1 = u.2.1 ∧ v.2.2.2.2 = nI (39 - c) ∧ ∀ i, i < c → v.2.2.2.1 (39 - c + i) = nI (G i)) (wf_B D vwCl (wX q κ) (tyX κ) (va_A (wX q κ u) sz)) (va_A (wX q κ u) sz)) 0 0 (va_A (wX q κ u) sz) := by
  refine wf_open (by decide) (Nat.le_of_ble_eq_true rfl) k_X_digits ?_
  intro p e s m below meth c ls hsz C hr hlocks hnm hex hP hK hD hl
  subst hsz
  have hx := C.1
  have hb := C.2.1
  have hml := C.2.2.1
  have hown := C.2.2.2.1
  have hts := C.2.2.2.2
  have hA : ∀ j : Nat, s.heap.size ≤ j → va_A (wX q κ u) s.heap.size j := fun j h => Or.inr h
  have hS : va_S (va_A (wX q κ u) s.heap.size) s.heap s.heap [] := va_S.rf
  generalize hAe : va_A (wX q κ u) s.heap.size = A at hA hS hD ⊢
  have hl : lv_has ls 3 [(0, .ref (q 0)), (1, .int (nI k))] := hl
  refine lv_iload_n hx hb d_X_digits_0 rfl (lv_at hl 1 rfl) ?_
  refine kX_chk (r := k) hk C hl.1 ⟨Nat.le_of_ble_eq_true rfl, Nat.le_of_ble_eq_true rfl⟩ (Nat.le_of_ble_eq_true rfl) ⟨Nat.le_of_ble_eq_true rfl, Nat.le_of_ble_eq_true rfl⟩ d_X_digits_1 ?_
  refine lv_aload_n hx hb d_X_digits_4 rfl (lv_at hl 0 rfl) ?_
  refine lv_aload_n hx hb d_X_digits_5 rfl (lv_at hl 0 rfl) ?_
  refine gX C hK hP 0 rfl 0 (by decide) k_fl_X_highs rfl d_X_digits_6 ?_
  refine lv_iload_n hx hb d_X_digits_9 rfl (lv_at hl 1 rfl) ?_
  refine wf_lald C hK hP 1 0 rfl rfl (k := k) rfl hk (by decide) d_X_digits_10 ?_
  refine lv_aload_n hx hb d_X_digits_11 rfl (lv_at hl 0 rfl) ?_
  refine gX C hK hP 0 rfl 1 (by decide) k_fl_X_lows rfl d_X_digits_12 ?_
  refine lv_iload_n hx hb d_X_digits_15 rfl (lv_at hl 1 rfl) ?_
  refine wf_lald C hK hP 2 1 rfl rfl (k := k) rfl hk (by decide) d_X_digits_16 ?_
  refine kX_split C hl.1 ⟨Nat.le_of_ble_eq_true rfl, Nat.le_of_ble_eq_true rfl⟩ (Nat.le_of_ble_eq_true rfl) ⟨Nat.le_of_ble_eq_true rfl, Nat.le_of_ble_eq_true rfl⟩ hP hK hD hS hA d_X_digits_17 (fun u_1 H locs eu_1 hP hD hS => ?_)
  obtain ⟨f0, e0, hf0, hT0⟩ := eu_1
  refine lv_bipush (v := 39) hx hb d_X_digits_20 (by decide) ?_
  refine lv_istore_n (lv' := [(2, .int (39)), (0, .ref (q 0)), (1, .int (nI k))]) hx hb d_X_digits_22 rfl hl (by decide) rfl (fun ls hl => ?_)
  refine wf_whileH (σ := SX × Nat) (fun x => wf_GI u (wf_Rx u k) x) (fun x => 39 - x.2) (fun x => wX q κ x.1) (fun x => [(2, .int (nI (39 - x.2))), (0, .ref (q 0)), (1, .int (nI k))]) (fun x H locs ls hI hP hD hS hl ih => ?_) (u_1, 0) ?_ hP hD hS (lv_sub hl [0, 1, 2] rfl)
  · obtain ⟨w0, c⟩ := x
    have hI : wf_GI u (wf_Rx u k) (w0, c) := hI
    have hc38 : c ≤ 38 := hI.1
    have hP : va_P D vwCl (wX q κ w0) H := hP
    have hD : va_D A (wX q κ w0) := hD
    have hl : lv_has ls 3 [(2, .int (nI (39 - c))), (0, .ref (q 0)), (1, .int (nI k))] := hl
    refine lv_iinc (v := nI (39 - c - 1)) (lv' := [(2, .int (nI (39 - c - 1))), (0, .ref (q 0)), (1, .int (nI k))]) hx hb d_X_digits_23 hl (k := 0) rfl (wf_dec (k := 1) (by decide) (by omega)) (by decide) rfl (fun ls hl => ?_)
    refine lv_aload_n hx hb d_X_digits_26 rfl (lv_at hl 1 rfl) ?_
    refine gX C hK hP 0 rfl 3 (by decide) k_fl_X_digitRow rfl d_X_digits_27 ?_
    refine lv_iload_n hx hb d_X_digits_30 rfl (lv_at hl 0 rfl) ?_
    refine lv_aload_n hx hb d_X_digits_31 rfl (lv_at hl 1 rfl) ?_
    refine kX_take hI.2.2.2.2.1 C hl.1 ⟨Nat.le_of_ble_eq_true rfl, Nat.le_of_ble_eq_true rfl⟩ (Nat.le_of_ble_eq_true rfl) ⟨Nat.le_of_ble_eq_true rfl, Nat.le_of_ble_eq_true rfl⟩ hP hK hD hS hA d_X_digits_32 (fun ru_2 u_2 H locs eu_2 hP hD hS => ?_)
    obtain ⟨er, f1, e1, hf1, hT1⟩ := eu_2
    subst er
    refine wf_iast C hK hP hD hS 4 3 rfl rfl (k := (39 - c - 1)) rfl (by omega) (by decide) d_X_digits_35 (fun H locs hP hD hS => ?_)
    have hP : va_P D vwCl (wX q κ (u_2.1, u_2.2.1, u_2.2.2.1, va_up u_2.2.2.2.1 (39 - c - 1) (nI (wf_T w0.2.2.1 4 % 10)), u_2.2.2.2.2)) H := hP
    have hD : va_D A (wX q κ (u_2.1, u_2.2.1, u_2.2.2.1, va_up u_2.2.2.2.1 (39 - c - 1) (nI (wf_T w0.2.2.1 4 % 10)), u_2.2.2.2.2)) := hD
    generalize eu_3 : ((u_2.1, u_2.2.1, u_2.2.2.1, va_up u_2.2.2.2.1 (39 - c - 1) (nI (wf_T w0.2.2.1 4 % 10)), u_2.2.2.2.2) : SX) = u_3 at hP hD
    have hE := wf_GI_S hI e1 hf1 hT1 eu_3
    refine lv_iload_n hx hb d_X_digits_36 rfl (lv_at hl 0 rfl) ?_
    refine lv_if_le (tgt := 47) hx hb d_X_digits_37 (by decide) (fun c1 => ?_) (fun c1 => ?_)
    · have he : c + 1 = 39 ∨ wf_Rx u k / 10 ^ (c + 1) = 0 := Or.inl (by have := (nI_leI (a := 39 - c - 1) (b := 0) (by omega) (by decide)).mp c1; omega)
      refine lv_aload_n hx hb d_X_digits_47 rfl (lv_at hl 1 rfl) ?_
      refine lv_iload_n hx hb d_X_digits_48 rfl (lv_at hl 0 rfl) ?_
      refine pX_first C hK hP hD hS 0 rfl (Nat.le_of_ble_eq_true rfl) d_X_digits_49 (fun H locs hP hD hS => ?_)
      have hP : va_P D vwCl (wX q κ (u_3.1, u_3.2.1, u_3.2.2.1, u_3.2.2.2.1, nI (39 - c - 1))) H := hP
      have hD : va_D A (wX q κ (u_3.1, u_3.2.1, u_3.2.2.1, u_3.2.2.2.1, nI (39 - c - 1))) := hD
      generalize eu_4 : ((u_3.1, u_3.2.1, u_3.2.2.1, u_3.2.2.2.1, nI (39 - c - 1)) : SX) = u_4 at hP hD
      refine lv_bipush (v := 39) hx hb d_X_digits_52 (by decide) ?_
      refine lv_iload_n hx hb d_X_digits_54 rfl (lv_at hl 0 rfl) ?_
      refine lv_isub hx hb d_X_digits_55 ?_
      have hG := wf_GE_D (wf_Rx_lt u k) hE he
      exact wf_reti C hr hlocks u_4 (⟨c + 1, _, (pk_sub (a := 39) (by omega)).trans (congrArg nI (by omega)), hE.2.1, hG, by rw [← eu_4]; exact hE.2.2.1, by rw [← eu_4]; exact hE.2.2.2.1, by rw [← eu_4]; exact congrArg nI (by omega), by rw [← eu_4]; exact hE.2.2.2.2.2.2.2⟩) hP hK hD hS (fun _ h => h) d_X_digits_56
    · refine lv_aload_n hx hb d_X_digits_40 rfl (lv_at hl 1 rfl) ?_
      refine kX_pz  C hl.1 ⟨Nat.le_of_ble_eq_true rfl, Nat.le_of_ble_eq_true rfl⟩ (Nat.le_of_ble_eq_true rfl) ⟨Nat.le_of_ble_eq_true rfl, Nat.le_of_ble_eq_true rfl⟩ hP hK hD d_X_digits_41 (fun r_5 hr_5 => ?_)
      refine lv_if_eq (tgt := 23) hx hb d_X_digits_44 (by decide) (fun c2 => ?_) (fun c2 => ?_)
      · refine ih (u_3, c + 1) H locs ls (wf_GE_I hE ?_ ?_) (show 39 - (c + 1) < 39 - c by omega) hP hD hS (lv_sub hl [0, 1, 2] rfl)
        · have : ¬ (39 - c - 1 ≤ 0) := fun h => c1 ((nI_leI (by omega) (by decide)).mpr h)
          omega
        · rw [hr_5, wf_bi0, decide_eq_false_iff_not, hE.2.2.2.2.2.1] at c2
          exact c2
      · have he : c + 1 = 39 ∨ wf_Rx u k / 10 ^ (c + 1) = 0 := Or.inr (by rw [hr_5, wf_bi1, decide_eq_true_iff, hE.2.2.2.2.2.1] at c2; exact c2)
        refine lv_aload_n hx hb d_X_digits_47 rfl (lv_at hl 1 rfl) ?_
        refine lv_iload_n hx hb d_X_digits_48 rfl (lv_at hl 0 rfl) ?_
        refine pX_first C hK hP hD hS 0 rfl (Nat.le_of_ble_eq_true rfl) d_X_digits_49 (fun H locs hP hD hS => ?_)
        have hP : va_P D vwCl (wX q κ (u_3.1, u_3.2.1, u_3.2.2.1, u_3.2.2.2.1, nI (39 - c - 1))) H := hP
        have hD : va_D A (wX q κ (u_3.1, u_3.2.1, u_3.2.2.1, u_3.2.2.2.1, nI (39 - c - 1))) := hD
        generalize eu_6 : ((u_3.1, u_3.2.1, u_3.2.2.1, u_3.2.2.2.1, nI (39 - c - 1)) : SX) = u_6 at hP hD
        refine lv_bipush (v := 39) hx hb d_X_digits_52 (by decide) ?_
        refine lv_iload_n hx hb d_X_digits_54 rfl (lv_at hl 0 rfl) ?_
        refine lv_isub hx hb d_X_digits_55 ?_
        have hG := wf_GE_D (wf_Rx_lt u k) hE he
        exact wf_reti C hr hlocks u_6 (⟨c + 1, _, (pk_sub (a := 39) (by omega)).trans (congrArg nI (by omega)), hE.2.1, hG, by rw [← eu_6]; exact hE.2.2.1, by rw [← eu_6]; exact hE.2.2.2.1, by rw [← eu_6]; exact congrArg nI (by omega), by rw [← eu_6]; exact hE.2.2.2.2.2.2.2⟩) hP hK hD hS (fun _ h => h) d_X_digits_56
  · subst e0
    exact ⟨by show (0 : Nat) ≤ 38; omega, Or.inl rfl, rfl, rfl, hf0, by show wf_T f0 4 = _ / 10 ^ 0; rw [hT0, Nat.pow_zero, Nat.div_one]; rfl, fun i hi => absurd hi (Nat.not_lt_zero i)⟩
end
section
/-! ===== the face of the class, where nothing is thrown ===== -/

set_option maxHeartbeats 4000000 in
set_option maxRecDepth 100000 in
/-- X_set -/
theorem c_X_set (l : Launch) (D : va_G) (q : Nat → Nat) (κ : Nat → ClassId) (u : SX) (ra : Nat) (hra : ra < 8) (h lo : Int64) (sz : Nat) : Met l y_X_set (.code y_X_set b_X_set 6 none :: wG) (wf_rm 4 150 0 0) (wf_Pc D vwCl (wX q κ u) (tyX κ) ([.ref (q 0), .int (nI ra), .long h, .long lo]) sz) (va_Qv (fun v => wf_st u v ra (wf_V h lo)) (wf_B D vwCl (wX q κ) (tyX κ) (va_A (wX q κ u) sz)) (va_A (wX q κ u) sz)) 0 0 (va_A (wX q κ u) sz) := by
  refine wf_open (by decide) (Nat.le_of_ble_eq_true rfl) k_X_set ?_
  intro p e s m below meth c ls hsz C hr hlocks hnm hex hP hK hD hl
  subst hsz
  have hx := C.1
  have hb := C.2.1
  have hml := C.2.2.1
  have hown := C.2.2.2.1
  have hts := C.2.2.2.2
  have hA : ∀ j : Nat, s.heap.size ≤ j → va_A (wX q κ u) s.heap.size j := fun j h => Or.inr h
  have hS : va_S (va_A (wX q κ u) s.heap.size) s.heap s.heap [] := va_S.rf
  generalize hAe : va_A (wX q κ u) s.heap.size = A at hA hS hD ⊢
  have hl : lv_has ls 6 [(0, .ref (q 0)), (1, .int (nI ra)), (2, .long (h)), (4, .long (lo))] := hl
  refine lv_iload_n hx hb d_X_set_0 rfl (lv_at hl 1 rfl) ?_
  refine kX_chk (r := ra) hra C hl.1 ⟨Nat.le_of_ble_eq_true rfl, Nat.le_of_ble_eq_true rfl⟩ (Nat.le_of_ble_eq_true rfl) ⟨Nat.le_of_ble_eq_true rfl, Nat.le_of_ble_eq_true rfl⟩ d_X_set_1 ?_
  refine lv_aload_n hx hb d_X_set_4 rfl (lv_at hl 0 rfl) ?_
  refine lv_iload_n hx hb d_X_set_5 rfl (lv_at hl 1 rfl) ?_
  refine lv_lload_n hx hb d_X_set_6 rfl (lv_at hl 2 rfl) ?_
  refine lv_lload hx hb d_X_set_7 (lv_at hl 3 rfl) ?_
  refine kX_store (r := ra) hra C hl.1 ⟨Nat.le_of_ble_eq_true rfl, Nat.le_of_ble_eq_true rfl⟩ (Nat.le_of_ble_eq_true rfl) ⟨Nat.le_of_ble_eq_true rfl, Nat.le_of_ble_eq_true rfl⟩ hP hK hD hS hA d_X_set_9 (fun u_1 H locs eu_1 hP hD hS => ?_)
  exact wf_retv C hr hlocks u_1 (⟨_, _, eu_1, rfl⟩) hP hK hD hS (fun _ h => h) d_X_set_12

set_option maxHeartbeats 4000000 in
set_option maxRecDepth 100000 in
/-- X_half -/
theorem c_X_half (l : Launch) (D : va_G) (q : Nat → Nat) (κ : Nat → ClassId) (u : SX) (ra : Nat) (hra : ra < 8) (z : Int32) (sz : Nat) : Met l y_X_half (.code y_X_half b_X_half 3 (some .long) :: wG) (wf_rm 4 150 0 0) (wf_Pc D vwCl (wX q κ u) (tyX κ) ([.ref (q 0), .int (nI ra), .int z]) sz) (vp_Sl (fun r => r = if z = 0 then u.2.1 ra else u.1 ra)) 0 0 (fun _ => False) := by
  refine wf_open (by decide) (Nat.le_of_ble_eq_true rfl) k_X_half ?_
  intro p e s m below meth c ls hsz C hr hlocks hnm hex hP hK hD hl
  subst hsz
  have hx := C.1
  have hb := C.2.1
  have hml := C.2.2.1
  have hown := C.2.2.2.1
  have hts := C.2.2.2.2
  have hA : ∀ j : Nat, s.heap.size ≤ j → va_A (wX q κ u) s.heap.size j := fun j h => Or.inr h
  have hS : va_S (va_A (wX q κ u) s.heap.size) s.heap s.heap [] := va_S.rf
  generalize hAe : va_A (wX q κ u) s.heap.size = A at hA hS hD ⊢
  have hl : lv_has ls 3 [(0, .ref (q 0)), (1, .int (nI ra)), (2, .int (z))] := hl
  refine lv_iload_n hx hb d_X_half_0 rfl (lv_at hl 1 rfl) ?_
  refine kX_chk (r := ra) hra C hl.1 ⟨Nat.le_of_ble_eq_true rfl, Nat.le_of_ble_eq_true rfl⟩ (Nat.le_of_ble_eq_true rfl) ⟨Nat.le_of_ble_eq_true rfl, Nat.le_of_ble_eq_true rfl⟩ d_X_half_1 ?_
  refine lv_iload_n hx hb d_X_half_4 rfl (lv_at hl 2 rfl) ?_
  refine lv_if_eq (tgt := 17) hx hb d_X_half_5 (by decide) (fun c_1 => ?_) (fun c_1 => ?_)
  · refine lv_aload_n hx hb d_X_half_17 rfl (lv_at hl 0 rfl) ?_
    refine gX C hK hP 0 rfl 1 (by decide) k_fl_X_lows rfl d_X_half_18 ?_
    refine lv_iload_n hx hb d_X_half_21 rfl (lv_at hl 1 rfl) ?_
    refine wf_lald C hK hP 2 1 rfl rfl (k := ra) rfl hra (by decide) d_X_half_22 ?_
    exact W.lret hx hb hr (fun t ht hW => ⟨_, rfl, by rw [if_pos c_1], ht⟩) (fun q h => by cases h) d_X_half_23 hlocks
  · refine lv_aload_n hx hb d_X_half_8 rfl (lv_at hl 0 rfl) ?_
    refine gX C hK hP 0 rfl 0 (by decide) k_fl_X_highs rfl d_X_half_9 ?_
    refine lv_iload_n hx hb d_X_half_12 rfl (lv_at hl 1 rfl) ?_
    refine wf_lald C hK hP 1 0 rfl rfl (k := ra) rfl hra (by decide) d_X_half_13 ?_
    refine lv_goto (tgt := 23) hx hb d_X_half_14 (by decide) ?_
    exact W.lret hx hb hr (fun t ht hW => ⟨_, rfl, by rw [if_neg c_1], ht⟩) (fun q h => by cases h) d_X_half_23 hlocks

set_option maxHeartbeats 4000000 in
set_option maxRecDepth 100000 in
/-- X_add -/
theorem c_X_add (l : Launch) (D : va_G) (q : Nat → Nat) (κ : Nat → ClassId) (u : SX) (ra : Nat) (hra : ra < 8) (rb : Nat) (hrb : rb < 8) (rt : Nat) (hrt : rt < 8) (sz : Nat) : Met l y_X_add (.code y_X_add b_X_add 13 (some .boolean) :: wG) (wf_rm 4 150 0 0) (wf_Pc D vwCl (wX q κ u) (tyX κ) ([.ref (q 0), .int (nI ra), .int (nI rb), .int (nI rt)]) sz) (va_Qi (fun r v => r = wf_bi (decide (wf_NN ≤ wf_Rx u ra + wf_Rx u rb)) ∧ wf_st u v rt ((wf_Rx u ra + wf_Rx u rb) % wf_NN)) (wf_B D vwCl (wX q κ) (tyX κ) (va_A (wX q κ u) sz)) (va_A (wX q κ u) sz)) 0 0 (va_A (wX q κ u) sz) := by
  refine wf_open (by decide) (Nat.le_of_ble_eq_true rfl) k_X_add ?_
  intro p e s m below meth c ls hsz C hr hlocks hnm hex hP hK hD hl
  subst hsz
  have hx := C.1
  have hb := C.2.1
  have hml := C.2.2.1
  have hown := C.2.2.2.1
  have hts := C.2.2.2.2
  have hA : ∀ j : Nat, s.heap.size ≤ j → va_A (wX q κ u) s.heap.size j := fun j h => Or.inr h
  have hS : va_S (va_A (wX q κ u) s.heap.size) s.heap s.heap [] := va_S.rf
  generalize hAe : va_A (wX q κ u) s.heap.size = A at hA hS hD ⊢
  have hl : lv_has ls 13 [(0, .ref (q 0)), (1, .int (nI ra)), (2, .int (nI rb)), (3, .int (nI rt))] := hl
  refine lv_iload_n hx hb d_X_add_0 rfl (lv_at hl 1 rfl) ?_
  refine kX_chk (r := ra) hra C hl.1 ⟨Nat.le_of_ble_eq_true rfl, Nat.le_of_ble_eq_true rfl⟩ (Nat.le_of_ble_eq_true rfl) ⟨Nat.le_of_ble_eq_true rfl, Nat.le_of_ble_eq_true rfl⟩ d_X_add_1 ?_
  refine lv_iload_n hx hb d_X_add_4 rfl (lv_at hl 2 rfl) ?_
  refine kX_chk (r := rb) hrb C hl.1 ⟨Nat.le_of_ble_eq_true rfl, Nat.le_of_ble_eq_true rfl⟩ (Nat.le_of_ble_eq_true rfl) ⟨Nat.le_of_ble_eq_true rfl, Nat.le_of_ble_eq_true rfl⟩ d_X_add_5 ?_
  refine lv_iload_n hx hb d_X_add_8 rfl (lv_at hl 3 rfl) ?_
  refine kX_chk (r := rt) hrt C hl.1 ⟨Nat.le_of_ble_eq_true rfl, Nat.le_of_ble_eq_true rfl⟩ (Nat.le_of_ble_eq_true rfl) ⟨Nat.le_of_ble_eq_true rfl, Nat.le_of_ble_eq_true rfl⟩ d_X_add_9 ?_
  refine lv_aload_n hx hb d_X_add_12 rfl (lv_at hl 0 rfl) ?_
  refine gX C hK hP 0 rfl 1 (by decide) k_fl_X_lows rfl d_X_add_13 ?_
  refine lv_iload_n hx hb d_X_add_16 rfl (lv_at hl 1 rfl) ?_
  refine wf_lald C hK hP 2 1 rfl rfl (k := ra) rfl hra (by decide) d_X_add_17 ?_
  refine lv_aload_n hx hb d_X_add_18 rfl (lv_at hl 0 rfl) ?_
  refine gX C hK hP 0 rfl 1 (by decide) k_fl_X_lows rfl d_X_add_19 ?_
  refine lv_iload_n hx hb d_X_add_22 rfl (lv_at hl 2 rfl) ?_
  refine wf_lald C hK hP 2 1 rfl rfl (k := rb) rfl hrb (by decide) d_X_add_23 ?_
  refine lv_ladd hx hb d_X_add_24 ?_
  refine lv_topl (fun v_1 ev_1 => ?_)
  refine lv_lstore (lv' := [(4, .long (v_1)), (0, .ref (q 0)), (1, .int (nI ra)), (2, .int (nI rb)), (3, .int (nI rt))]) hx hb d_X_add_25 hl (by decide) rfl (fun ls hl => ?_)
  refine lv_lload hx hb d_X_add_27 (lv_at hl 0 rfl) ?_
  refine lv_aload_n hx hb d_X_add_29 rfl (lv_at hl 1 rfl) ?_
  refine gX C hK hP 0 rfl 1 (by decide) k_fl_X_lows rfl d_X_add_30 ?_
  refine lv_iload_n hx hb d_X_add_33 rfl (lv_at hl 2 rfl) ?_
  refine wf_lald C hK hP 2 1 rfl rfl (k := ra) rfl hra (by decide) d_X_add_34 ?_
  refine kX_one C hl.1 ⟨Nat.le_of_ble_eq_true rfl, Nat.le_of_ble_eq_true rfl⟩ (Nat.le_of_ble_eq_true rfl) ⟨Nat.le_of_ble_eq_true rfl, Nat.le_of_ble_eq_true rfl⟩ d_X_add_35 ?_
  refine lv_topl (fun v_2 ev_2 => ?_)
  refine lv_lstore (lv' := [(6, .long (v_2)), (4, .long (v_1)), (0, .ref (q 0)), (1, .int (nI ra)), (2, .int (nI rb)), (3, .int (nI rt))]) hx hb d_X_add_38 hl (by decide) rfl (fun ls hl => ?_)
  refine lv_aload_n hx hb d_X_add_40 rfl (lv_at hl 2 rfl) ?_
  refine gX C hK hP 0 rfl 0 (by decide) k_fl_X_highs rfl d_X_add_41 ?_
  refine lv_iload_n hx hb d_X_add_44 rfl (lv_at hl 3 rfl) ?_
  refine wf_lald C hK hP 1 0 rfl rfl (k := ra) rfl hra (by decide) d_X_add_45 ?_
  refine lv_aload_n hx hb d_X_add_46 rfl (lv_at hl 2 rfl) ?_
  refine gX C hK hP 0 rfl 0 (by decide) k_fl_X_highs rfl d_X_add_47 ?_
  refine lv_iload_n hx hb d_X_add_50 rfl (lv_at hl 4 rfl) ?_
  refine wf_lald C hK hP 1 0 rfl rfl (k := rb) rfl hrb (by decide) d_X_add_51 ?_
  refine lv_ladd hx hb d_X_add_52 ?_
  refine lv_topl (fun v_3 ev_3 => ?_)
  refine lv_lstore (lv' := [(8, .long (v_3)), (6, .long (v_2)), (4, .long (v_1)), (0, .ref (q 0)), (1, .int (nI ra)), (2, .int (nI rb)), (3, .int (nI rt))]) hx hb d_X_add_53 hl (by decide) rfl (fun ls hl => ?_)
  refine lv_lload hx hb d_X_add_55 (lv_at hl 0 rfl) ?_
  refine lv_lload hx hb d_X_add_57 (lv_at hl 1 rfl) ?_
  refine lv_ladd hx hb d_X_add_59 ?_
  refine lv_topl (fun v_4 ev_4 => ?_)
  refine lv_lstore (lv' := [(10, .long (v_4)), (8, .long (v_3)), (6, .long (v_2)), (4, .long (v_1)), (0, .ref (q 0)), (1, .int (nI ra)), (2, .int (nI rb)), (3, .int (nI rt))]) hx hb d_X_add_60 hl (by decide) rfl (fun ls hl => ?_)
  refine lv_lload hx hb d_X_add_62 (lv_at hl 1 rfl) ?_
  refine lv_aload_n hx hb d_X_add_64 rfl (lv_at hl 4 rfl) ?_
  refine gX C hK hP 0 rfl 0 (by decide) k_fl_X_highs rfl d_X_add_65 ?_
  refine lv_iload_n hx hb d_X_add_68 rfl (lv_at hl 5 rfl) ?_
  refine wf_lald C hK hP 1 0 rfl rfl (k := ra) rfl hra (by decide) d_X_add_69 ?_
  refine kX_one C hl.1 ⟨Nat.le_of_ble_eq_true rfl, Nat.le_of_ble_eq_true rfl⟩ (Nat.le_of_ble_eq_true rfl) ⟨Nat.le_of_ble_eq_true rfl, Nat.le_of_ble_eq_true rfl⟩ d_X_add_70 ?_
  refine lv_lload hx hb d_X_add_73 (lv_at hl 0 rfl) ?_
  refine lv_lload hx hb d_X_add_75 (lv_at hl 2 rfl) ?_
  refine kX_one C hl.1 ⟨Nat.le_of_ble_eq_true rfl, Nat.le_of_ble_eq_true rfl⟩ (Nat.le_of_ble_eq_true rfl) ⟨Nat.le_of_ble_eq_true rfl, Nat.le_of_ble_eq_true rfl⟩ d_X_add_77 ?_
  refine lv_ladd hx hb d_X_add_80 ?_
  refine lv_lconst (v := 0) hx hb d_X_add_81 (by decide) ?_
  refine W.lcmp hx hb d_X_add_82 ?_
  refine lv_if_eq (tgt := 90) hx hb d_X_add_83 (by decide) (fun c_5 => ?_) (fun c_5 => ?_)
  · refine lv_iconst (v := 0) hx hb d_X_add_90 (by decide) ?_
    refine lv_istore (lv' := [(12, .int (0)), (10, .long (v_4)), (8, .long (v_3)), (6, .long (v_2)), (4, .long (v_1)), (0, .ref (q 0)), (1, .int (nI ra)), (2, .int (nI rb)), (3, .int (nI rt))]) hx hb d_X_add_91 hl (by decide) rfl (fun ls hl => ?_)
    refine lv_aload_n hx hb d_X_add_93 rfl (lv_at hl 5 rfl) ?_
    refine lv_iload_n hx hb d_X_add_94 rfl (lv_at hl 8 rfl) ?_
    refine lv_lload hx hb d_X_add_95 (lv_at hl 1 rfl) ?_
    refine lv_lload hx hb d_X_add_97 (lv_at hl 4 rfl) ?_
    refine kX_store (r := rt) hrt C hl.1 ⟨Nat.le_of_ble_eq_true rfl, Nat.le_of_ble_eq_true rfl⟩ (Nat.le_of_ble_eq_true rfl) ⟨Nat.le_of_ble_eq_true rfl, Nat.le_of_ble_eq_true rfl⟩ hP hK hD hS hA d_X_add_99 (fun u_6 H locs eu_6 hP hD hS => ?_)
    refine lv_iload hx hb d_X_add_102 (lv_at hl 0 rfl) ?_
    subst ev_1 ev_2 ev_3 ev_4
    exact wf_retz C hr (rfl) hlocks u_6 (⟨by rw [decide_eq_false (show ¬ wf_NN ≤ wf_Rx u ra + wf_Rx u rb from fun h => (wf_add _ _ _ _).2.mpr h ((lg_cmp_eq _ _).mp c_5))]; rfl, ⟨_, _, eu_6, (wf_add _ _ _ _).1⟩⟩) hP hK hD hS (fun _ h => h) d_X_add_104
  · refine lv_iconst (v := 1) hx hb d_X_add_86 (by decide) ?_
    refine lv_goto (tgt := 91) hx hb d_X_add_87 (by decide) ?_
    refine lv_istore (lv' := [(12, .int (1)), (10, .long (v_4)), (8, .long (v_3)), (6, .long (v_2)), (4, .long (v_1)), (0, .ref (q 0)), (1, .int (nI ra)), (2, .int (nI rb)), (3, .int (nI rt))]) hx hb d_X_add_91 hl (by decide) rfl (fun ls hl => ?_)
    refine lv_aload_n hx hb d_X_add_93 rfl (lv_at hl 5 rfl) ?_
    refine lv_iload_n hx hb d_X_add_94 rfl (lv_at hl 8 rfl) ?_
    refine lv_lload hx hb d_X_add_95 (lv_at hl 1 rfl) ?_
    refine lv_lload hx hb d_X_add_97 (lv_at hl 4 rfl) ?_
    refine kX_store (r := rt) hrt C hl.1 ⟨Nat.le_of_ble_eq_true rfl, Nat.le_of_ble_eq_true rfl⟩ (Nat.le_of_ble_eq_true rfl) ⟨Nat.le_of_ble_eq_true rfl, Nat.le_of_ble_eq_true rfl⟩ hP hK hD hS hA d_X_add_99 (fun u_7 H locs eu_7 hP hD hS => ?_)
    refine lv_iload hx hb d_X_add_102 (lv_at hl 0 rfl) ?_
    subst ev_1 ev_2 ev_3 ev_4
    exact wf_retz C hr (rfl) hlocks u_7 (⟨by rw [decide_eq_true (show wf_NN ≤ wf_Rx u ra + wf_Rx u rb from (wf_add _ _ _ _).2.mp (fun h => c_5 ((lg_cmp_eq _ _).mpr h)))]; rfl, ⟨_, _, eu_7, (wf_add _ _ _ _).1⟩⟩) hP hK hD hS (fun _ h => h) d_X_add_104

set_option maxHeartbeats 4000000 in
set_option maxRecDepth 100000 in
/-- X_subtract -/
theorem c_X_subtract (l : Launch) (D : va_G) (q : Nat → Nat) (κ : Nat → ClassId) (u : SX) (ra : Nat) (hra : ra < 8) (rb : Nat) (hrb : rb < 8) (rt : Nat) (hrt : rt < 8) (sz : Nat) : Met l y_X_subtract (.code y_X_subtract b_X_subtract 7 (some .boolean) :: wG) (wf_rm 4 150 0 0) (wf_Pc D vwCl (wX q κ u) (tyX κ) ([.ref (q 0), .int (nI ra), .int (nI rb), .int (nI rt)]) sz) (va_Qi (fun r v => r = wf_bi (decide (wf_Rx u ra < wf_Rx u rb)) ∧ wf_st u v rt ((wf_Rx u ra + wf_NN - wf_Rx u rb) % wf_NN)) (wf_B D vwCl (wX q κ) (tyX κ) (va_A (wX q κ u) sz)) (va_A (wX q κ u) sz)) 0 0 (va_A (wX q κ u) sz) := by
  refine wf_open (by decide) (Nat.le_of_ble_eq_true rfl) k_X_subtract ?_
  intro p e s m below meth c ls hsz C hr hlocks hnm hex hP hK hD hl
  subst hsz
  have hx := C.1
  have hb := C.2.1
  have hml := C.2.2.1
  have hown := C.2.2.2.1
  have hts := C.2.2.2.2
  have hA : ∀ j : Nat, s.heap.size ≤ j → va_A (wX q κ u) s.heap.size j := fun j h => Or.inr h
  have hS : va_S (va_A (wX q κ u) s.heap.size) s.heap s.heap [] := va_S.rf
  generalize hAe : va_A (wX q κ u) s.heap.size = A at hA hS hD ⊢
  have hl : lv_has ls 7 [(0, .ref (q 0)), (1, .int (nI ra)), (2, .int (nI rb)), (3, .int (nI rt))] := hl
  refine lv_iload_n hx hb d_X_subtract_0 rfl (lv_at hl 1 rfl) ?_
  refine kX_chk (r := ra) hra C hl.1 ⟨Nat.le_of_ble_eq_true rfl, Nat.le_of_ble_eq_true rfl⟩ (Nat.le_of_ble_eq_true rfl) ⟨Nat.le_of_ble_eq_true rfl, Nat.le_of_ble_eq_true rfl⟩ d_X_subtract_1 ?_
  refine lv_iload_n hx hb d_X_subtract_4 rfl (lv_at hl 2 rfl) ?_
  refine kX_chk (r := rb) hrb C hl.1 ⟨Nat.le_of_ble_eq_true rfl, Nat.le_of_ble_eq_true rfl⟩ (Nat.le_of_ble_eq_true rfl) ⟨Nat.le_of_ble_eq_true rfl, Nat.le_of_ble_eq_true rfl⟩ d_X_subtract_5 ?_
  refine lv_iload_n hx hb d_X_subtract_8 rfl (lv_at hl 3 rfl) ?_
  refine kX_chk (r := rt) hrt C hl.1 ⟨Nat.le_of_ble_eq_true rfl, Nat.le_of_ble_eq_true rfl⟩ (Nat.le_of_ble_eq_true rfl) ⟨Nat.le_of_ble_eq_true rfl, Nat.le_of_ble_eq_true rfl⟩ d_X_subtract_9 ?_
  refine lv_aload_n hx hb d_X_subtract_12 rfl (lv_at hl 0 rfl) ?_
  refine gX C hK hP 0 rfl 0 (by decide) k_fl_X_highs rfl d_X_subtract_13 ?_
  refine lv_iload_n hx hb d_X_subtract_16 rfl (lv_at hl 1 rfl) ?_
  refine wf_lald C hK hP 1 0 rfl rfl (k := ra) rfl hra (by decide) d_X_subtract_17 ?_
  refine lv_aload_n hx hb d_X_subtract_18 rfl (lv_at hl 0 rfl) ?_
  refine gX C hK hP 0 rfl 1 (by decide) k_fl_X_lows rfl d_X_subtract_19 ?_
  refine lv_iload_n hx hb d_X_subtract_22 rfl (lv_at hl 1 rfl) ?_
  refine wf_lald C hK hP 2 1 rfl rfl (k := ra) rfl hra (by decide) d_X_subtract_23 ?_
  refine lv_aload_n hx hb d_X_subtract_24 rfl (lv_at hl 0 rfl) ?_
  refine gX C hK hP 0 rfl 0 (by decide) k_fl_X_highs rfl d_X_subtract_25 ?_
  refine lv_iload_n hx hb d_X_subtract_28 rfl (lv_at hl 2 rfl) ?_
  refine wf_lald C hK hP 1 0 rfl rfl (k := rb) rfl hrb (by decide) d_X_subtract_29 ?_
  refine lv_aload_n hx hb d_X_subtract_30 rfl (lv_at hl 0 rfl) ?_
  refine gX C hK hP 0 rfl 1 (by decide) k_fl_X_lows rfl d_X_subtract_31 ?_
  refine lv_iload_n hx hb d_X_subtract_34 rfl (lv_at hl 2 rfl) ?_
  refine wf_lald C hK hP 2 1 rfl rfl (k := rb) rfl hrb (by decide) d_X_subtract_35 ?_
  refine kX_below C hl.1 ⟨Nat.le_of_ble_eq_true rfl, Nat.le_of_ble_eq_true rfl⟩ (Nat.le_of_ble_eq_true rfl) ⟨Nat.le_of_ble_eq_true rfl, Nat.le_of_ble_eq_true rfl⟩ d_X_subtract_36 ?_
  refine lv_istore (lv' := [(4, .int (wf_bi (decide (wf_V (u.1 ra) (u.2.1 ra) < wf_V (u.1 rb) (u.2.1 rb))))), (0, .ref (q 0)), (1, .int (nI ra)), (2, .int (nI rb)), (3, .int (nI rt))]) hx hb d_X_subtract_39 hl (by decide) rfl (fun ls hl => ?_)
  refine lv_aload_n hx hb d_X_subtract_41 rfl (lv_at hl 1 rfl) ?_
  refine gX C hK hP 0 rfl 0 (by decide) k_fl_X_highs rfl d_X_subtract_42 ?_
  refine lv_iload_n hx hb d_X_subtract_45 rfl (lv_at hl 2 rfl) ?_
  refine wf_lald C hK hP 1 0 rfl rfl (k := ra) rfl hra (by decide) d_X_subtract_46 ?_
  refine lv_aload_n hx hb d_X_subtract_47 rfl (lv_at hl 1 rfl) ?_
  refine gX C hK hP 0 rfl 0 (by decide) k_fl_X_highs rfl d_X_subtract_48 ?_
  refine lv_iload_n hx hb d_X_subtract_51 rfl (lv_at hl 3 rfl) ?_
  refine wf_lald C hK hP 1 0 rfl rfl (k := rb) rfl hrb (by decide) d_X_subtract_52 ?_
  refine lv_lsub hx hb d_X_subtract_53 ?_
  refine lv_aload_n hx hb d_X_subtract_54 rfl (lv_at hl 1 rfl) ?_
  refine gX C hK hP 0 rfl 1 (by decide) k_fl_X_lows rfl d_X_subtract_55 ?_
  refine lv_iload_n hx hb d_X_subtract_58 rfl (lv_at hl 2 rfl) ?_
  refine wf_lald C hK hP 2 1 rfl rfl (k := ra) rfl hra (by decide) d_X_subtract_59 ?_
  refine lv_aload_n hx hb d_X_subtract_60 rfl (lv_at hl 1 rfl) ?_
  refine gX C hK hP 0 rfl 1 (by decide) k_fl_X_lows rfl d_X_subtract_61 ?_
  refine lv_iload_n hx hb d_X_subtract_64 rfl (lv_at hl 3 rfl) ?_
  refine wf_lald C hK hP 2 1 rfl rfl (k := rb) rfl hrb (by decide) d_X_subtract_65 ?_
  refine kX_one C hl.1 ⟨Nat.le_of_ble_eq_true rfl, Nat.le_of_ble_eq_true rfl⟩ (Nat.le_of_ble_eq_true rfl) ⟨Nat.le_of_ble_eq_true rfl, Nat.le_of_ble_eq_true rfl⟩ d_X_subtract_66 ?_
  refine lv_lsub hx hb d_X_subtract_69 ?_
  refine lv_topl (fun v_1 ev_1 => ?_)
  refine lv_lstore (lv' := [(5, .long (v_1)), (4, .int (wf_bi (decide (wf_V (u.1 ra) (u.2.1 ra) < wf_V (u.1 rb) (u.2.1 rb))))), (0, .ref (q 0)), (1, .int (nI ra)), (2, .int (nI rb)), (3, .int (nI rt))]) hx hb d_X_subtract_70 hl (by decide) rfl (fun ls hl => ?_)
  refine lv_aload_n hx hb d_X_subtract_72 rfl (lv_at hl 2 rfl) ?_
  refine lv_iload_n hx hb d_X_subtract_73 rfl (lv_at hl 5 rfl) ?_
  refine lv_lload hx hb d_X_subtract_74 (lv_at hl 0 rfl) ?_
  refine lv_aload_n hx hb d_X_subtract_76 rfl (lv_at hl 2 rfl) ?_
  refine gX C hK hP 0 rfl 1 (by decide) k_fl_X_lows rfl d_X_subtract_77 ?_
  refine lv_iload_n hx hb d_X_subtract_80 rfl (lv_at hl 3 rfl) ?_
  refine wf_lald C hK hP 2 1 rfl rfl (k := ra) rfl hra (by decide) d_X_subtract_81 ?_
  refine lv_aload_n hx hb d_X_subtract_82 rfl (lv_at hl 2 rfl) ?_
  refine gX C hK hP 0 rfl 1 (by decide) k_fl_X_lows rfl d_X_subtract_83 ?_
  refine lv_iload_n hx hb d_X_subtract_86 rfl (lv_at hl 4 rfl) ?_
  refine wf_lald C hK hP 2 1 rfl rfl (k := rb) rfl hrb (by decide) d_X_subtract_87 ?_
  refine lv_lsub hx hb d_X_subtract_88 ?_
  refine kX_store (r := rt) hrt C hl.1 ⟨Nat.le_of_ble_eq_true rfl, Nat.le_of_ble_eq_true rfl⟩ (Nat.le_of_ble_eq_true rfl) ⟨Nat.le_of_ble_eq_true rfl, Nat.le_of_ble_eq_true rfl⟩ hP hK hD hS hA d_X_subtract_89 (fun u_2 H locs eu_2 hP hD hS => ?_)
  refine lv_iload hx hb d_X_subtract_92 (lv_at hl 1 rfl) ?_
  subst ev_1
  exact wf_retz C hr (wf_bi_ret _) hlocks u_2 (⟨rfl, ⟨_, _, eu_2, wf_sub _ _ _ _⟩⟩) hP hK hD hS (fun _ h => h) d_X_subtract_94

set_option maxHeartbeats 4000000 in
set_option maxRecDepth 100000 in
/-- X_multiply -/
theorem c_X_multiply (l : Launch) (D : va_G) (q : Nat → Nat) (κ : Nat → ClassId) (u : SX) (ra : Nat) (hra : ra < 8) (rb : Nat) (hrb : rb < 8) (ro : Nat) (hro : ro < 8) (rt : Nat) (hrt : rt < 8) (hne : ¬ nI ro = nI rt) (sz : Nat) : Met l y_X_multiply (.code y_X_multiply b_X_multiply 5 none :: wG) (wf_rm 4 150 0 0) (wf_Pc D vwCl (wX q κ u) (tyX κ) ([.ref (q 0), .int (nI ra), .int (nI rb), .int (nI ro), .int (nI rt)]) sz) (va_Qv (fun v => ∃ w : SX, wf_st u w ro (wf_Rx u ra * wf_Rx u rb / wf_NN) ∧ wf_st w v rt (wf_Rx u ra * wf_Rx u rb % wf_NN)) (wf_B D vwCl (wX q κ) (tyX κ) (va_A (wX q κ u) sz)) (va_A (wX q κ u) sz)) 0 0 (va_A (wX q κ u) sz) := by
  refine wf_open (by decide) (Nat.le_of_ble_eq_true rfl) k_X_multiply ?_
  intro p e s m below meth c ls hsz C hr hlocks hnm hex hP hK hD hl
  subst hsz
  have hx := C.1
  have hb := C.2.1
  have hml := C.2.2.1
  have hown := C.2.2.2.1
  have hts := C.2.2.2.2
  have hA : ∀ j : Nat, s.heap.size ≤ j → va_A (wX q κ u) s.heap.size j := fun j h => Or.inr h
  have hS : va_S (va_A (wX q κ u) s.heap.size) s.heap s.heap [] := va_S.rf
  generalize hAe : va_A (wX q κ u) s.heap.size = A at hA hS hD ⊢
  have hl : lv_has ls 5 [(0, .ref (q 0)), (1, .int (nI ra)), (2, .int (nI rb)), (3, .int (nI ro)), (4, .int (nI rt))] := hl
  refine lv_iload_n hx hb d_X_multiply_0 rfl (lv_at hl 1 rfl) ?_
  refine kX_chk (r := ra) hra C hl.1 ⟨Nat.le_of_ble_eq_true rfl, Nat.le_of_ble_eq_true rfl⟩ (Nat.le_of_ble_eq_true rfl) ⟨Nat.le_of_ble_eq_true rfl, Nat.le_of_ble_eq_true rfl⟩ d_X_multiply_1 ?_
  refine lv_iload_n hx hb d_X_multiply_4 rfl (lv_at hl 2 rfl) ?_
  refine kX_chk (r := rb) hrb C hl.1 ⟨Nat.le_of_ble_eq_true rfl, Nat.le_of_ble_eq_true rfl⟩ (Nat.le_of_ble_eq_true rfl) ⟨Nat.le_of_ble_eq_true rfl, Nat.le_of_ble_eq_true rfl⟩ d_X_multiply_5 ?_
  refine lv_iload_n hx hb d_X_multiply_8 rfl (lv_at hl 3 rfl) ?_
  refine kX_chk (r := ro) hro C hl.1 ⟨Nat.le_of_ble_eq_true rfl, Nat.le_of_ble_eq_true rfl⟩ (Nat.le_of_ble_eq_true rfl) ⟨Nat.le_of_ble_eq_true rfl, Nat.le_of_ble_eq_true rfl⟩ d_X_multiply_9 ?_
  refine lv_iload hx hb d_X_multiply_12 (lv_at hl 4 rfl) ?_
  refine kX_chk (r := rt) hrt C hl.1 ⟨Nat.le_of_ble_eq_true rfl, Nat.le_of_ble_eq_true rfl⟩ (Nat.le_of_ble_eq_true rfl) ⟨Nat.le_of_ble_eq_true rfl, Nat.le_of_ble_eq_true rfl⟩ d_X_multiply_14 ?_
  refine lv_iload_n hx hb d_X_multiply_17 rfl (lv_at hl 3 rfl) ?_
  refine lv_iload hx hb d_X_multiply_18 (lv_at hl 4 rfl) ?_
  refine kX_apart hne C hl.1 ⟨Nat.le_of_ble_eq_true rfl, Nat.le_of_ble_eq_true rfl⟩ (Nat.le_of_ble_eq_true rfl) ⟨Nat.le_of_ble_eq_true rfl, Nat.le_of_ble_eq_true rfl⟩ d_X_multiply_20 ?_
  refine lv_aload_n hx hb d_X_multiply_23 rfl (lv_at hl 0 rfl) ?_
  refine lv_aload_n hx hb d_X_multiply_24 rfl (lv_at hl 0 rfl) ?_
  refine gX C hK hP 0 rfl 0 (by decide) k_fl_X_highs rfl d_X_multiply_25 ?_
  refine lv_iload_n hx hb d_X_multiply_28 rfl (lv_at hl 1 rfl) ?_
  refine wf_lald C hK hP 1 0 rfl rfl (k := ra) rfl hra (by decide) d_X_multiply_29 ?_
  refine lv_aload_n hx hb d_X_multiply_30 rfl (lv_at hl 0 rfl) ?_
  refine gX C hK hP 0 rfl 1 (by decide) k_fl_X_lows rfl d_X_multiply_31 ?_
  refine lv_iload_n hx hb d_X_multiply_34 rfl (lv_at hl 1 rfl) ?_
  refine wf_lald C hK hP 2 1 rfl rfl (k := ra) rfl hra (by decide) d_X_multiply_35 ?_
  refine lv_aload_n hx hb d_X_multiply_36 rfl (lv_at hl 0 rfl) ?_
  refine gX C hK hP 0 rfl 0 (by decide) k_fl_X_highs rfl d_X_multiply_37 ?_
  refine lv_iload_n hx hb d_X_multiply_40 rfl (lv_at hl 2 rfl) ?_
  refine wf_lald C hK hP 1 0 rfl rfl (k := rb) rfl hrb (by decide) d_X_multiply_41 ?_
  refine lv_aload_n hx hb d_X_multiply_42 rfl (lv_at hl 0 rfl) ?_
  refine gX C hK hP 0 rfl 1 (by decide) k_fl_X_lows rfl d_X_multiply_43 ?_
  refine lv_iload_n hx hb d_X_multiply_46 rfl (lv_at hl 2 rfl) ?_
  refine wf_lald C hK hP 2 1 rfl rfl (k := rb) rfl hrb (by decide) d_X_multiply_47 ?_
  refine lv_iload_n hx hb d_X_multiply_48 rfl (lv_at hl 3 rfl) ?_
  refine lv_iload hx hb d_X_multiply_49 (lv_at hl 4 rfl) ?_
  refine kX_product hro hrt C hl.1 ⟨Nat.le_of_ble_eq_true rfl, Nat.le_of_ble_eq_true rfl⟩ (Nat.le_of_ble_eq_true rfl) ⟨Nat.le_of_ble_eq_true rfl, Nat.le_of_ble_eq_true rfl⟩ hP hK hD hS hA d_X_multiply_51 (fun u_1 H locs eu_1 hP hD hS => ?_)
  exact wf_retv C hr hlocks u_1 (eu_1) hP hK hD hS (fun _ h => h) d_X_multiply_54

set_option maxHeartbeats 4000000 in
set_option maxRecDepth 100000 in
/-- X_divide -/
theorem c_X_divide (l : Launch) (D : va_G) (q : Nat → Nat) (κ : Nat → ClassId) (u : SX) (ra : Nat) (hra : ra < 8) (rb : Nat) (hrb : rb < 8) (ro : Nat) (hro : ro < 8) (rt : Nat) (hrt : rt < 8) (hne : ¬ nI ro = nI rt) (hb0 : 0 < wf_Rx u rb) (sz : Nat) : Met l y_X_divide (.code y_X_divide b_X_divide 5 none :: wG) (wf_rm 4 150 0 0) (wf_Pc D vwCl (wX q κ u) (tyX κ) ([.ref (q 0), .int (nI ra), .int (nI rb), .int (nI ro), .int (nI rt)]) sz) (va_Qv (fun v => ∃ w : SX, wf_st u w ro (wf_Rx u ra / wf_Rx u rb) ∧ wf_st w v rt (wf_Rx u ra % wf_Rx u rb)) (wf_B D vwCl (wX q κ) (tyX κ) (va_A (wX q κ u) sz)) (va_A (wX q κ u) sz)) 0 0 (va_A (wX q κ u) sz) := by
  refine wf_open (by decide) (Nat.le_of_ble_eq_true rfl) k_X_divide ?_
  intro p e s m below meth c ls hsz C hr hlocks hnm hex hP hK hD hl
  subst hsz
  have hx := C.1
  have hb := C.2.1
  have hml := C.2.2.1
  have hown := C.2.2.2.1
  have hts := C.2.2.2.2
  have hA : ∀ j : Nat, s.heap.size ≤ j → va_A (wX q κ u) s.heap.size j := fun j h => Or.inr h
  have hS : va_S (va_A (wX q κ u) s.heap.size) s.heap s.heap [] := va_S.rf
  generalize hAe : va_A (wX q κ u) s.heap.size = A at hA hS hD ⊢
  have hl : lv_has ls 5 [(0, .ref (q 0)), (1, .int (nI ra)), (2, .int (nI rb)), (3, .int (nI ro)), (4, .int (nI rt))] := hl
  refine lv_iload_n hx hb d_X_divide_0 rfl (lv_at hl 1 rfl) ?_
  refine kX_chk (r := ra) hra C hl.1 ⟨Nat.le_of_ble_eq_true rfl, Nat.le_of_ble_eq_true rfl⟩ (Nat.le_of_ble_eq_true rfl) ⟨Nat.le_of_ble_eq_true rfl, Nat.le_of_ble_eq_true rfl⟩ d_X_divide_1 ?_
  refine lv_iload_n hx hb d_X_divide_4 rfl (lv_at hl 2 rfl) ?_
  refine kX_chk (r := rb) hrb C hl.1 ⟨Nat.le_of_ble_eq_true rfl, Nat.le_of_ble_eq_true rfl⟩ (Nat.le_of_ble_eq_true rfl) ⟨Nat.le_of_ble_eq_true rfl, Nat.le_of_ble_eq_true rfl⟩ d_X_divide_5 ?_
  refine lv_iload_n hx hb d_X_divide_8 rfl (lv_at hl 3 rfl) ?_
  refine kX_chk (r := ro) hro C hl.1 ⟨Nat.le_of_ble_eq_true rfl, Nat.le_of_ble_eq_true rfl⟩ (Nat.le_of_ble_eq_true rfl) ⟨Nat.le_of_ble_eq_true rfl, Nat.le_of_ble_eq_true rfl⟩ d_X_divide_9 ?_
  refine lv_iload hx hb d_X_divide_12 (lv_at hl 4 rfl) ?_
  refine kX_chk (r := rt) hrt C hl.1 ⟨Nat.le_of_ble_eq_true rfl, Nat.le_of_ble_eq_true rfl⟩ (Nat.le_of_ble_eq_true rfl) ⟨Nat.le_of_ble_eq_true rfl, Nat.le_of_ble_eq_true rfl⟩ d_X_divide_14 ?_
  refine lv_iload_n hx hb d_X_divide_17 rfl (lv_at hl 3 rfl) ?_
  refine lv_iload hx hb d_X_divide_18 (lv_at hl 4 rfl) ?_
  refine kX_apart hne C hl.1 ⟨Nat.le_of_ble_eq_true rfl, Nat.le_of_ble_eq_true rfl⟩ (Nat.le_of_ble_eq_true rfl) ⟨Nat.le_of_ble_eq_true rfl, Nat.le_of_ble_eq_true rfl⟩ d_X_divide_20 ?_
  refine lv_aload_n hx hb d_X_divide_23 rfl (lv_at hl 0 rfl) ?_
  refine gX C hK hP 0 rfl 0 (by decide) k_fl_X_highs rfl d_X_divide_24 ?_
  refine lv_iload_n hx hb d_X_divide_27 rfl (lv_at hl 2 rfl) ?_
  refine wf_lald C hK hP 1 0 rfl rfl (k := rb) rfl hrb (by decide) d_X_divide_28 ?_
  refine lv_lconst (v := 0) hx hb d_X_divide_29 (by decide) ?_
  refine W.lcmp hx hb d_X_divide_30 ?_
  refine lv_if_ne (tgt := 55) hx hb d_X_divide_31 (by decide) (fun c_1 => ?_) (fun c_1 => ?_)
  · refine lv_aload_n hx hb d_X_divide_55 rfl (lv_at hl 0 rfl) ?_
    refine lv_aload_n hx hb d_X_divide_56 rfl (lv_at hl 0 rfl) ?_
    refine gX C hK hP 0 rfl 0 (by decide) k_fl_X_highs rfl d_X_divide_57 ?_
    refine lv_iload_n hx hb d_X_divide_60 rfl (lv_at hl 1 rfl) ?_
    refine wf_lald C hK hP 1 0 rfl rfl (k := ra) rfl hra (by decide) d_X_divide_61 ?_
    refine lv_aload_n hx hb d_X_divide_62 rfl (lv_at hl 0 rfl) ?_
    refine gX C hK hP 0 rfl 1 (by decide) k_fl_X_lows rfl d_X_divide_63 ?_
    refine lv_iload_n hx hb d_X_divide_66 rfl (lv_at hl 1 rfl) ?_
    refine wf_lald C hK hP 2 1 rfl rfl (k := ra) rfl hra (by decide) d_X_divide_67 ?_
    refine lv_aload_n hx hb d_X_divide_68 rfl (lv_at hl 0 rfl) ?_
    refine gX C hK hP 0 rfl 0 (by decide) k_fl_X_highs rfl d_X_divide_69 ?_
    refine lv_iload_n hx hb d_X_divide_72 rfl (lv_at hl 2 rfl) ?_
    refine wf_lald C hK hP 1 0 rfl rfl (k := rb) rfl hrb (by decide) d_X_divide_73 ?_
    refine lv_aload_n hx hb d_X_divide_74 rfl (lv_at hl 0 rfl) ?_
    refine gX C hK hP 0 rfl 1 (by decide) k_fl_X_lows rfl d_X_divide_75 ?_
    refine lv_iload_n hx hb d_X_divide_78 rfl (lv_at hl 2 rfl) ?_
    refine wf_lald C hK hP 2 1 rfl rfl (k := rb) rfl hrb (by decide) d_X_divide_79 ?_
    refine lv_iload_n hx hb d_X_divide_80 rfl (lv_at hl 3 rfl) ?_
    refine lv_iload hx hb d_X_divide_81 (lv_at hl 4 rfl) ?_
    refine kX_quotient hro hrt hb0 C hl.1 ⟨Nat.le_of_ble_eq_true rfl, Nat.le_of_ble_eq_true rfl⟩ (Nat.le_of_ble_eq_true rfl) ⟨Nat.le_of_ble_eq_true rfl, Nat.le_of_ble_eq_true rfl⟩ hP hK hD hS hA d_X_divide_83 (fun u_2 H locs eu_2 hP hD hS => ?_)
    exact wf_retv C hr hlocks u_2 (eu_2) hP hK hD hS (fun _ h => h) d_X_divide_86
  · refine lv_aload_n hx hb d_X_divide_34 rfl (lv_at hl 0 rfl) ?_
    refine gX C hK hP 0 rfl 1 (by decide) k_fl_X_lows rfl d_X_divide_35 ?_
    refine lv_iload_n hx hb d_X_divide_38 rfl (lv_at hl 2 rfl) ?_
    refine wf_lald C hK hP 2 1 rfl rfl (k := rb) rfl hrb (by decide) d_X_divide_39 ?_
    refine lv_lconst (v := 0) hx hb d_X_divide_40 (by decide) ?_
    refine W.lcmp hx hb d_X_divide_41 ?_
    refine lv_if_ne (tgt := 55) hx hb d_X_divide_42 (by decide) (fun c_3 => ?_) (fun c_3 => ?_)
    · refine lv_aload_n hx hb d_X_divide_55 rfl (lv_at hl 0 rfl) ?_
      refine lv_aload_n hx hb d_X_divide_56 rfl (lv_at hl 0 rfl) ?_
      refine gX C hK hP 0 rfl 0 (by decide) k_fl_X_highs rfl d_X_divide_57 ?_
      refine lv_iload_n hx hb d_X_divide_60 rfl (lv_at hl 1 rfl) ?_
      refine wf_lald C hK hP 1 0 rfl rfl (k := ra) rfl hra (by decide) d_X_divide_61 ?_
      refine lv_aload_n hx hb d_X_divide_62 rfl (lv_at hl 0 rfl) ?_
      refine gX C hK hP 0 rfl 1 (by decide) k_fl_X_lows rfl d_X_divide_63 ?_
      refine lv_iload_n hx hb d_X_divide_66 rfl (lv_at hl 1 rfl) ?_
      refine wf_lald C hK hP 2 1 rfl rfl (k := ra) rfl hra (by decide) d_X_divide_67 ?_
      refine lv_aload_n hx hb d_X_divide_68 rfl (lv_at hl 0 rfl) ?_
      refine gX C hK hP 0 rfl 0 (by decide) k_fl_X_highs rfl d_X_divide_69 ?_
      refine lv_iload_n hx hb d_X_divide_72 rfl (lv_at hl 2 rfl) ?_
      refine wf_lald C hK hP 1 0 rfl rfl (k := rb) rfl hrb (by decide) d_X_divide_73 ?_
      refine lv_aload_n hx hb d_X_divide_74 rfl (lv_at hl 0 rfl) ?_
      refine gX C hK hP 0 rfl 1 (by decide) k_fl_X_lows rfl d_X_divide_75 ?_
      refine lv_iload_n hx hb d_X_divide_78 rfl (lv_at hl 2 rfl) ?_
      refine wf_lald C hK hP 2 1 rfl rfl (k := rb) rfl hrb (by decide) d_X_divide_79 ?_
      refine lv_iload_n hx hb d_X_divide_80 rfl (lv_at hl 3 rfl) ?_
      refine lv_iload hx hb d_X_divide_81 (lv_at hl 4 rfl) ?_
      refine kX_quotient hro hrt hb0 C hl.1 ⟨Nat.le_of_ble_eq_true rfl, Nat.le_of_ble_eq_true rfl⟩ (Nat.le_of_ble_eq_true rfl) ⟨Nat.le_of_ble_eq_true rfl, Nat.le_of_ble_eq_true rfl⟩ hP hK hD hS hA d_X_divide_83 (fun u_4 H locs eu_4 hP hD hS => ?_)
      exact wf_retv C hr hlocks u_4 (eu_4) hP hK hD hS (fun _ h => h) d_X_divide_86
    · exact absurd hb0 (by rw [wf_lo0] at c_1 c_3; show ¬ 0 < uN (u.1 rb) * _ + uN (u.2.1 rb); rw [c_1, c_3, Nat.zero_mul]; exact Nat.lt_irrefl 0)

set_option maxHeartbeats 4000000 in
set_option maxRecDepth 100000 in
/-- X_root -/
theorem c_X_root (l : Launch) (D : va_G) (q : Nat → Nat) (κ : Nat → ClassId) (u : SX) (ra : Nat) (hra : ra < 8) (ro : Nat) (hro : ro < 8) (rt : Nat) (hrt : rt < 8) (hne : ¬ nI ro = nI rt) (sz : Nat) : Met l y_X_root (.code y_X_root b_X_root 4 none :: wG) (wf_rm 4 150 0 0) (wf_Pc D vwCl (wX q κ u) (tyX κ) ([.ref (q 0), .int (nI ra), .int (nI ro), .int (nI rt)]) sz) (va_Qv (fun v => ∃ (g r : Nat), (wf_Rx u ra = g * g + r ∧ r ≤ 2 * g ∧ g < 2 ^ 64) ∧ ∃ w : SX, wf_st u w ro g ∧ wf_st w v rt r) (wf_B D vwCl (wX q κ) (tyX κ) (va_A (wX q κ u) sz)) (va_A (wX q κ u) sz)) 0 0 (va_A (wX q κ u) sz) := by
  refine wf_open (by decide) (Nat.le_of_ble_eq_true rfl) k_X_root ?_
  intro p e s m below meth c ls hsz C hr hlocks hnm hex hP hK hD hl
  subst hsz
  have hx := C.1
  have hb := C.2.1
  have hml := C.2.2.1
  have hown := C.2.2.2.1
  have hts := C.2.2.2.2
  have hA : ∀ j : Nat, s.heap.size ≤ j → va_A (wX q κ u) s.heap.size j := fun j h => Or.inr h
  have hS : va_S (va_A (wX q κ u) s.heap.size) s.heap s.heap [] := va_S.rf
  generalize hAe : va_A (wX q κ u) s.heap.size = A at hA hS hD ⊢
  have hl : lv_has ls 4 [(0, .ref (q 0)), (1, .int (nI ra)), (2, .int (nI ro)), (3, .int (nI rt))] := hl
  refine lv_iload_n hx hb d_X_root_0 rfl (lv_at hl 1 rfl) ?_
  refine kX_chk (r := ra) hra C hl.1 ⟨Nat.le_of_ble_eq_true rfl, Nat.le_of_ble_eq_true rfl⟩ (Nat.le_of_ble_eq_true rfl) ⟨Nat.le_of_ble_eq_true rfl, Nat.le_of_ble_eq_true rfl⟩ d_X_root_1 ?_
  refine lv_iload_n hx hb d_X_root_4 rfl (lv_at hl 2 rfl) ?_
  refine kX_chk (r := ro) hro C hl.1 ⟨Nat.le_of_ble_eq_true rfl, Nat.le_of_ble_eq_true rfl⟩ (Nat.le_of_ble_eq_true rfl) ⟨Nat.le_of_ble_eq_true rfl, Nat.le_of_ble_eq_true rfl⟩ d_X_root_5 ?_
  refine lv_iload_n hx hb d_X_root_8 rfl (lv_at hl 3 rfl) ?_
  refine kX_chk (r := rt) hrt C hl.1 ⟨Nat.le_of_ble_eq_true rfl, Nat.le_of_ble_eq_true rfl⟩ (Nat.le_of_ble_eq_true rfl) ⟨Nat.le_of_ble_eq_true rfl, Nat.le_of_ble_eq_true rfl⟩ d_X_root_9 ?_
  refine lv_iload_n hx hb d_X_root_12 rfl (lv_at hl 2 rfl) ?_
  refine lv_iload_n hx hb d_X_root_13 rfl (lv_at hl 3 rfl) ?_
  refine kX_apart hne C hl.1 ⟨Nat.le_of_ble_eq_true rfl, Nat.le_of_ble_eq_true rfl⟩ (Nat.le_of_ble_eq_true rfl) ⟨Nat.le_of_ble_eq_true rfl, Nat.le_of_ble_eq_true rfl⟩ d_X_root_14 ?_
  refine lv_aload_n hx hb d_X_root_17 rfl (lv_at hl 0 rfl) ?_
  refine lv_aload_n hx hb d_X_root_18 rfl (lv_at hl 0 rfl) ?_
  refine gX C hK hP 0 rfl 0 (by decide) k_fl_X_highs rfl d_X_root_19 ?_
  refine lv_iload_n hx hb d_X_root_22 rfl (lv_at hl 1 rfl) ?_
  refine wf_lald C hK hP 1 0 rfl rfl (k := ra) rfl hra (by decide) d_X_root_23 ?_
  refine lv_aload_n hx hb d_X_root_24 rfl (lv_at hl 0 rfl) ?_
  refine gX C hK hP 0 rfl 1 (by decide) k_fl_X_lows rfl d_X_root_25 ?_
  refine lv_iload_n hx hb d_X_root_28 rfl (lv_at hl 1 rfl) ?_
  refine wf_lald C hK hP 2 1 rfl rfl (k := ra) rfl hra (by decide) d_X_root_29 ?_
  refine lv_iload_n hx hb d_X_root_30 rfl (lv_at hl 2 rfl) ?_
  refine lv_iload_n hx hb d_X_root_31 rfl (lv_at hl 3 rfl) ?_
  refine kX_root hro hrt C hl.1 ⟨Nat.le_of_ble_eq_true rfl, Nat.le_of_ble_eq_true rfl⟩ (Nat.le_of_ble_eq_true rfl) ⟨Nat.le_of_ble_eq_true rfl, Nat.le_of_ble_eq_true rfl⟩ hP hK hD hS hA d_X_root_32 (fun u_1 H locs eu_1 hP hD hS => ?_)
  exact wf_retv C hr hlocks u_1 (eu_1) hP hK hD hS (fun _ h => h) d_X_root_35

set_option maxHeartbeats 4000000 in
set_option maxRecDepth 100000 in
/-- X_zeros -/
theorem c_X_zeros (l : Launch) (D : va_G) (q : Nat → Nat) (κ : Nat → ClassId) (u : SX) (ra : Nat) (hra : ra < 8) (sz : Nat) : Met l y_X_zeros (.code y_X_zeros b_X_zeros 2 (some .int) :: wG) (wf_rm 4 150 0 0) (wf_Pc D vwCl (wX q κ u) (tyX κ) ([.ref (q 0), .int (nI ra)]) sz) (vp_Si (fun r => ∃ z, r = nI z ∧ wf_LZ 128 (wf_Rx u ra) z)) 0 0 (fun _ => False) := by
  refine wf_open (by decide) (Nat.le_of_ble_eq_true rfl) k_X_zeros ?_
  intro p e s m below meth c ls hsz C hr hlocks hnm hex hP hK hD hl
  subst hsz
  have hx := C.1
  have hb := C.2.1
  have hml := C.2.2.1
  have hown := C.2.2.2.1
  have hts := C.2.2.2.2
  have hA : ∀ j : Nat, s.heap.size ≤ j → va_A (wX q κ u) s.heap.size j := fun j h => Or.inr h
  have hS : va_S (va_A (wX q κ u) s.heap.size) s.heap s.heap [] := va_S.rf
  generalize hAe : va_A (wX q κ u) s.heap.size = A at hA hS hD ⊢
  have hl : lv_has ls 2 [(0, .ref (q 0)), (1, .int (nI ra))] := hl
  refine lv_iload_n hx hb d_X_zeros_0 rfl (lv_at hl 1 rfl) ?_
  refine kX_chk (r := ra) hra C hl.1 ⟨Nat.le_of_ble_eq_true rfl, Nat.le_of_ble_eq_true rfl⟩ (Nat.le_of_ble_eq_true rfl) ⟨Nat.le_of_ble_eq_true rfl, Nat.le_of_ble_eq_true rfl⟩ d_X_zeros_1 ?_
  refine lv_aload_n hx hb d_X_zeros_4 rfl (lv_at hl 0 rfl) ?_
  refine gX C hK hP 0 rfl 0 (by decide) k_fl_X_highs rfl d_X_zeros_5 ?_
  refine lv_iload_n hx hb d_X_zeros_8 rfl (lv_at hl 1 rfl) ?_
  refine wf_lald C hK hP 1 0 rfl rfl (k := ra) rfl hra (by decide) d_X_zeros_9 ?_
  refine lv_aload_n hx hb d_X_zeros_10 rfl (lv_at hl 0 rfl) ?_
  refine gX C hK hP 0 rfl 1 (by decide) k_fl_X_lows rfl d_X_zeros_11 ?_
  refine lv_iload_n hx hb d_X_zeros_14 rfl (lv_at hl 1 rfl) ?_
  refine wf_lald C hK hP 2 1 rfl rfl (k := ra) rfl hra (by decide) d_X_zeros_15 ?_
  refine kX_above C hl.1 ⟨Nat.le_of_ble_eq_true rfl, Nat.le_of_ble_eq_true rfl⟩ (Nat.le_of_ble_eq_true rfl) ⟨Nat.le_of_ble_eq_true rfl, Nat.le_of_ble_eq_true rfl⟩ d_X_zeros_16 (fun r_1 hr_1 => ?_)
  exact W.iret hx hb hr (fun t ht hW => ⟨_, rfl, hr_1, ht⟩) (fun q h => by cases h) d_X_zeros_19 hlocks

set_option maxHeartbeats 4000000 in
set_option maxRecDepth 100000 in
/-- X_compare -/
theorem c_X_compare (l : Launch) (D : va_G) (q : Nat → Nat) (κ : Nat → ClassId) (u : SX) (ra : Nat) (hra : ra < 8) (rb : Nat) (hrb : rb < 8) (sz : Nat) : Met l y_X_compare (.code y_X_compare b_X_compare 3 (some .int) :: wG) (wf_rm 4 150 0 0) (wf_Pc D vwCl (wX q κ u) (tyX κ) ([.ref (q 0), .int (nI ra), .int (nI rb)]) sz) (vp_Si (fun r => r = if wf_Rx u ra < wf_Rx u rb then -1 else if wf_Rx u rb < wf_Rx u ra then 1 else 0)) 0 0 (fun _ => False) := by
  refine wf_open (by decide) (Nat.le_of_ble_eq_true rfl) k_X_compare ?_
  intro p e s m below meth c ls hsz C hr hlocks hnm hex hP hK hD hl
  subst hsz
  have hx := C.1
  have hb := C.2.1
  have hml := C.2.2.1
  have hown := C.2.2.2.1
  have hts := C.2.2.2.2
  have hA : ∀ j : Nat, s.heap.size ≤ j → va_A (wX q κ u) s.heap.size j := fun j h => Or.inr h
  have hS : va_S (va_A (wX q κ u) s.heap.size) s.heap s.heap [] := va_S.rf
  generalize hAe : va_A (wX q κ u) s.heap.size = A at hA hS hD ⊢
  have hl : lv_has ls 3 [(0, .ref (q 0)), (1, .int (nI ra)), (2, .int (nI rb))] := hl
  refine lv_iload_n hx hb d_X_compare_0 rfl (lv_at hl 1 rfl) ?_
  refine kX_chk (r := ra) hra C hl.1 ⟨Nat.le_of_ble_eq_true rfl, Nat.le_of_ble_eq_true rfl⟩ (Nat.le_of_ble_eq_true rfl) ⟨Nat.le_of_ble_eq_true rfl, Nat.le_of_ble_eq_true rfl⟩ d_X_compare_1 ?_
  refine lv_iload_n hx hb d_X_compare_4 rfl (lv_at hl 2 rfl) ?_
  refine kX_chk (r := rb) hrb C hl.1 ⟨Nat.le_of_ble_eq_true rfl, Nat.le_of_ble_eq_true rfl⟩ (Nat.le_of_ble_eq_true rfl) ⟨Nat.le_of_ble_eq_true rfl, Nat.le_of_ble_eq_true rfl⟩ d_X_compare_5 ?_
  refine lv_aload_n hx hb d_X_compare_8 rfl (lv_at hl 0 rfl) ?_
  refine gX C hK hP 0 rfl 0 (by decide) k_fl_X_highs rfl d_X_compare_9 ?_
  refine lv_iload_n hx hb d_X_compare_12 rfl (lv_at hl 1 rfl) ?_
  refine wf_lald C hK hP 1 0 rfl rfl (k := ra) rfl hra (by decide) d_X_compare_13 ?_
  refine lv_aload_n hx hb d_X_compare_14 rfl (lv_at hl 0 rfl) ?_
  refine gX C hK hP 0 rfl 1 (by decide) k_fl_X_lows rfl d_X_compare_15 ?_
  refine lv_iload_n hx hb d_X_compare_18 rfl (lv_at hl 1 rfl) ?_
  refine wf_lald C hK hP 2 1 rfl rfl (k := ra) rfl hra (by decide) d_X_compare_19 ?_
  refine lv_aload_n hx hb d_X_compare_20 rfl (lv_at hl 0 rfl) ?_
  refine gX C hK hP 0 rfl 0 (by decide) k_fl_X_highs rfl d_X_compare_21 ?_
  refine lv_iload_n hx hb d_X_compare_24 rfl (lv_at hl 2 rfl) ?_
  refine wf_lald C hK hP 1 0 rfl rfl (k := rb) rfl hrb (by decide) d_X_compare_25 ?_
  refine lv_aload_n hx hb d_X_compare_26 rfl (lv_at hl 0 rfl) ?_
  refine gX C hK hP 0 rfl 1 (by decide) k_fl_X_lows rfl d_X_compare_27 ?_
  refine lv_iload_n hx hb d_X_compare_30 rfl (lv_at hl 2 rfl) ?_
  refine wf_lald C hK hP 2 1 rfl rfl (k := rb) rfl hrb (by decide) d_X_compare_31 ?_
  refine kX_below C hl.1 ⟨Nat.le_of_ble_eq_true rfl, Nat.le_of_ble_eq_true rfl⟩ (Nat.le_of_ble_eq_true rfl) ⟨Nat.le_of_ble_eq_true rfl, Nat.le_of_ble_eq_true rfl⟩ d_X_compare_32 ?_
  refine lv_if_eq (tgt := 40) hx hb d_X_compare_35 (by decide) (fun c_1 => ?_) (fun c_1 => ?_)
  · refine lv_aload_n hx hb d_X_compare_40 rfl (lv_at hl 0 rfl) ?_
    refine gX C hK hP 0 rfl 0 (by decide) k_fl_X_highs rfl d_X_compare_41 ?_
    refine lv_iload_n hx hb d_X_compare_44 rfl (lv_at hl 2 rfl) ?_
    refine wf_lald C hK hP 1 0 rfl rfl (k := rb) rfl hrb (by decide) d_X_compare_45 ?_
    refine lv_aload_n hx hb d_X_compare_46 rfl (lv_at hl 0 rfl) ?_
    refine gX C hK hP 0 rfl 1 (by decide) k_fl_X_lows rfl d_X_compare_47 ?_
    refine lv_iload_n hx hb d_X_compare_50 rfl (lv_at hl 2 rfl) ?_
    refine wf_lald C hK hP 2 1 rfl rfl (k := rb) rfl hrb (by decide) d_X_compare_51 ?_
    refine lv_aload_n hx hb d_X_compare_52 rfl (lv_at hl 0 rfl) ?_
    refine gX C hK hP 0 rfl 0 (by decide) k_fl_X_highs rfl d_X_compare_53 ?_
    refine lv_iload_n hx hb d_X_compare_56 rfl (lv_at hl 1 rfl) ?_
    refine wf_lald C hK hP 1 0 rfl rfl (k := ra) rfl hra (by decide) d_X_compare_57 ?_
    refine lv_aload_n hx hb d_X_compare_58 rfl (lv_at hl 0 rfl) ?_
    refine gX C hK hP 0 rfl 1 (by decide) k_fl_X_lows rfl d_X_compare_59 ?_
    refine lv_iload_n hx hb d_X_compare_62 rfl (lv_at hl 1 rfl) ?_
    refine wf_lald C hK hP 2 1 rfl rfl (k := ra) rfl hra (by decide) d_X_compare_63 ?_
    refine kX_below C hl.1 ⟨Nat.le_of_ble_eq_true rfl, Nat.le_of_ble_eq_true rfl⟩ (Nat.le_of_ble_eq_true rfl) ⟨Nat.le_of_ble_eq_true rfl, Nat.le_of_ble_eq_true rfl⟩ d_X_compare_64 ?_
    refine lv_if_eq (tgt := 74) hx hb d_X_compare_67 (by decide) (fun c_2 => ?_) (fun c_2 => ?_)
    · refine lv_iconst (v := 0) hx hb d_X_compare_74 (by decide) ?_
      exact W.iret hx hb hr (fun t ht hW => ⟨_, rfl, by have h := of_decide_eq_false ((wf_bi0 _).mp c_1); have h2 := of_decide_eq_false ((wf_bi0 _).mp c_2); exact ((if_neg h).trans (if_neg h2)).symm, ht⟩) (fun q h => by cases h) d_X_compare_75 hlocks
    · refine lv_iconst (v := 1) hx hb d_X_compare_70 (by decide) ?_
      refine lv_goto (tgt := 75) hx hb d_X_compare_71 (by decide) ?_
      exact W.iret hx hb hr (fun t ht hW => ⟨_, rfl, by have h := of_decide_eq_false ((wf_bi0 _).mp c_1); have h2 := of_decide_eq_true ((wf_bi1 _).mp c_2); exact ((if_neg h).trans (if_pos h2)).symm, ht⟩) (fun q h => by cases h) d_X_compare_75 hlocks
  · refine lv_iconst (v := (-1)) hx hb d_X_compare_38 (by decide) ?_
    exact W.iret hx hb hr (fun t ht hW => ⟨_, rfl, by have h := of_decide_eq_true ((wf_bi1 _).mp c_1); exact (if_pos h).symm, ht⟩) (fun q h => by cases h) d_X_compare_39 hlocks
end
section
/-! ===== shift, jam, digit, next, where nothing is thrown ===== -/
theorem wf_neg_toInt {k : Nat} (hk : k ≤ 2147483648) : (-nI k).toInt = -(k : Int) := by
  rcases Nat.lt_or_ge k 2147483648 with h | h
  · exact sb_negT h
  · rw [show k = 2147483648 by omega]; decide
theorem wf_neg_lt {k : Nat} (h0 : 0 < k) (hk : k ≤ 2147483648) : -nI k < 0 := by
  rw [Int32.lt_iff_toInt_lt, wf_neg_toInt hk]
  show _ < (0 : Int)
  omega
theorem wf_neg_128 {k : Nat} (hk : k ≤ 2147483648) : (-128 : Int32) < -nI k ↔ k < 128 := by
  rw [Int32.lt_iff_toInt_lt, wf_neg_toInt hk, show (-128 : Int32).toInt = -128 from by decide]
  omega
theorem wf_far {V k : Nat} (hV : V < wf_NN) (hk : 128 ≤ k) : V / 2 ^ 128 = V / 2 ^ k ∧ (V % 2 ^ 128 ≠ 0 ↔ V % 2 ^ k ≠ 0) := by
  have h1 : V < 2 ^ 128 := by rw [wf_p128]; exact hV
  have h2 : V < 2 ^ k := Nat.lt_of_lt_of_le h1 (wf_pw hk)
  rw [Nat.div_eq_of_lt h1, Nat.div_eq_of_lt h2, Nat.mod_eq_of_lt h1, Nat.mod_eq_of_lt h2]
  exact ⟨rfl, Iff.rfl⟩
theorem wf_or_1 (x : Int64) : uN (x ||| 1) = 2 * (uN x / 2) + 1 := by
  rw [uN_or', show uN (1 : Int64) = 1 from by decide]
  have h1 : (uN x ||| 1) / 2 = uN x / 2 := by rw [Nat.or_div_two]; show uN x / 2 ||| 0 = _; rw [Nat.or_zero]
  have h2 : (uN x ||| 1) % 2 = 1 := Nat.or_mod_two_eq_one.mpr (Or.inr rfl)
  omega
theorem wf_V_or (h l : Int64) : wf_V h (l ||| 1) = 2 * (wf_V h l / 2) + 1 := by
  show uN h * _ + uN (l ||| 1) = 2 * ((uN h * _ + uN l) / 2) + 1
  rw [wf_or_1]
  omega
/-- jam: with the lowest bit 1 if something is lost -/
def wf_jam (V n : Nat) : Nat := if V % 2 ^ n ≠ 0 then 2 * (V / 2 ^ n / 2) + 1 else V / 2 ^ n
theorem wf_i2l {d : Nat} (hd : d < 10) : uN (Int32.toInt64 (nI d)) = d ∧ Int32.toInt64 (nI d) < 10 := by
  rw [nI_l (by omega)]
  refine ⟨by rw [uN_ofNat]; omega, ?_⟩
  exact (lN_lt (a := d) (b := 10) (by omega) (by decide)).mpr hd

set_option maxHeartbeats 4000000 in
set_option maxRecDepth 100000 in
/-- X_shift -/
theorem c_X_shiftUp (l : Launch) (D : va_G) (q : Nat → Nat) (κ : Nat → ClassId) (u : SX) (ra : Nat) (hra : ra < 8) (n : Nat) (hn : n < 2 ^ 31) (rt : Nat) (hrt : rt < 8) (sz : Nat) : Met l y_X_shift (.code y_X_shift b_X_shift 5 (some .boolean) :: wG) (wf_rm 4 150 0 0) (wf_Pc D vwCl (wX q κ u) (tyX κ) ([.ref (q 0), .int (nI ra), .int (nI n), .int (nI rt)]) sz) (va_Qi (fun r v => r = wf_bi (decide (wf_NN ≤ wf_Rx u ra * 2 ^ n)) ∧ wf_st u v rt (wf_Rx u ra * 2 ^ n % wf_NN)) (wf_B D vwCl (wX q κ) (tyX κ) (va_A (wX q κ u) sz)) (va_A (wX q κ u) sz)) 0 0 (va_A (wX q κ u) sz) := by
  refine wf_open (by decide) (Nat.le_of_ble_eq_true rfl) k_X_shift ?_
  intro p e s m below meth c ls hsz C hr hlocks hnm hex hP hK hD hl
  subst hsz
  have hx := C.1
  have hb := C.2.1
  have hml := C.2.2.1
  have hown := C.2.2.2.1
  have hts := C.2.2.2.2
  have hA : ∀ j : Nat, s.heap.size ≤ j → va_A (wX q κ u) s.heap.size j := fun j h => Or.inr h
  have hS : va_S (va_A (wX q κ u) s.heap.size) s.heap s.heap [] := va_S.rf
  generalize hAe : va_A (wX q κ u) s.heap.size = A at hA hS hD ⊢
  have hl : lv_has ls 5 [(0, .ref (q 0)), (1, .int (nI ra)), (2, .int (nI n)), (3, .int (nI rt))] := hl
  refine lv_iload_n hx hb d_X_shift_0 rfl (lv_at hl 1 rfl) ?_
  refine kX_chk (r := ra) hra C hl.1 ⟨Nat.le_of_ble_eq_true rfl, Nat.le_of_ble_eq_true rfl⟩ (Nat.le_of_ble_eq_true rfl) ⟨Nat.le_of_ble_eq_true rfl, Nat.le_of_ble_eq_true rfl⟩ d_X_shift_1 ?_
  refine lv_iload_n hx hb d_X_shift_4 rfl (lv_at hl 3 rfl) ?_
  refine kX_chk (r := rt) hrt C hl.1 ⟨Nat.le_of_ble_eq_true rfl, Nat.le_of_ble_eq_true rfl⟩ (Nat.le_of_ble_eq_true rfl) ⟨Nat.le_of_ble_eq_true rfl, Nat.le_of_ble_eq_true rfl⟩ d_X_shift_5 ?_
  refine lv_iload_n hx hb d_X_shift_8 rfl (lv_at hl 2 rfl) ?_
  refine lv_if_lt (tgt := 31) hx hb d_X_shift_9 (by decide) (fun c_1 => False.elim (by first | exact absurd c_1 (nI_pos hn) | exact absurd (nI_pos hn) c_1)) (fun c_1 => ?_)
  refine lv_aload_n hx hb d_X_shift_12 rfl (lv_at hl 0 rfl) ?_
  refine lv_aload_n hx hb d_X_shift_13 rfl (lv_at hl 0 rfl) ?_
  refine gX C hK hP 0 rfl 0 (by decide) k_fl_X_highs rfl d_X_shift_14 ?_
  refine lv_iload_n hx hb d_X_shift_17 rfl (lv_at hl 1 rfl) ?_
  refine wf_lald C hK hP 1 0 rfl rfl (k := ra) rfl hra (by decide) d_X_shift_18 ?_
  refine lv_aload_n hx hb d_X_shift_19 rfl (lv_at hl 0 rfl) ?_
  refine gX C hK hP 0 rfl 1 (by decide) k_fl_X_lows rfl d_X_shift_20 ?_
  refine lv_iload_n hx hb d_X_shift_23 rfl (lv_at hl 1 rfl) ?_
  refine wf_lald C hK hP 2 1 rfl rfl (k := ra) rfl hra (by decide) d_X_shift_24 ?_
  refine lv_iload_n hx hb d_X_shift_25 rfl (lv_at hl 2 rfl) ?_
  refine lv_iload_n hx hb d_X_shift_26 rfl (lv_at hl 3 rfl) ?_
  refine kX_up hn hrt C hl.1 ⟨Nat.le_of_ble_eq_true rfl, Nat.le_of_ble_eq_true rfl⟩ (Nat.le_of_ble_eq_true rfl) ⟨Nat.le_of_ble_eq_true rfl, Nat.le_of_ble_eq_true rfl⟩ hP hK hD hS hA d_X_shift_27 (fun ru_2 u_2 H locs eu_2 hP hD hS => ?_)
  exact wf_retz C hr (by rw [eu_2.1]; exact wf_bi_ret _) hlocks u_2 (eu_2) hP hK hD hS (fun _ h => h) d_X_shift_30

set_option maxHeartbeats 4000000 in
set_option maxRecDepth 100000 in
/-- X_shift -/
theorem c_X_shiftDown (l : Launch) (D : va_G) (q : Nat → Nat) (κ : Nat → ClassId) (u : SX) (ra : Nat) (hra : ra < 8) (n : Nat) (hn0 : 0 < n) (hn : n ≤ 2147483648) (rt : Nat) (hrt : rt < 8) (sz : Nat) : Met l y_X_shift (.code y_X_shift b_X_shift 5 (some .boolean) :: wG) (wf_rm 4 150 0 0) (wf_Pc D vwCl (wX q κ u) (tyX κ) ([.ref (q 0), .int (nI ra), .int (-nI n), .int (nI rt)]) sz) (va_Qi (fun r v => r = wf_bi (decide (wf_Rx u ra % 2 ^ n ≠ 0)) ∧ wf_st u v rt (wf_Rx u ra / 2 ^ n)) (wf_B D vwCl (wX q κ) (tyX κ) (va_A (wX q κ u) sz)) (va_A (wX q κ u) sz)) 0 0 (va_A (wX q κ u) sz) := by
  refine wf_open (by decide) (Nat.le_of_ble_eq_true rfl) k_X_shift ?_
  intro p e s m below meth c ls hsz C hr hlocks hnm hex hP hK hD hl
  subst hsz
  have hx := C.1
  have hb := C.2.1
  have hml := C.2.2.1
  have hown := C.2.2.2.1
  have hts := C.2.2.2.2
  have hA : ∀ j : Nat, s.heap.size ≤ j → va_A (wX q κ u) s.heap.size j := fun j h => Or.inr h
  have hS : va_S (va_A (wX q κ u) s.heap.size) s.heap s.heap [] := va_S.rf
  generalize hAe : va_A (wX q κ u) s.heap.size = A at hA hS hD ⊢
  have hl : lv_has ls 5 [(0, .ref (q 0)), (1, .int (nI ra)), (2, .int (-nI n)), (3, .int (nI rt))] := hl
  refine lv_iload_n hx hb d_X_shift_0 rfl (lv_at hl 1 rfl) ?_
  refine kX_chk (r := ra) hra C hl.1 ⟨Nat.le_of_ble_eq_true rfl, Nat.le_of_ble_eq_true rfl⟩ (Nat.le_of_ble_eq_true rfl) ⟨Nat.le_of_ble_eq_true rfl, Nat.le_of_ble_eq_true rfl⟩ d_X_shift_1 ?_
  refine lv_iload_n hx hb d_X_shift_4 rfl (lv_at hl 3 rfl) ?_
  refine kX_chk (r := rt) hrt C hl.1 ⟨Nat.le_of_ble_eq_true rfl, Nat.le_of_ble_eq_true rfl⟩ (Nat.le_of_ble_eq_true rfl) ⟨Nat.le_of_ble_eq_true rfl, Nat.le_of_ble_eq_true rfl⟩ d_X_shift_5 ?_
  refine lv_iload_n hx hb d_X_shift_8 rfl (lv_at hl 2 rfl) ?_
  refine lv_if_lt (tgt := 31) hx hb d_X_shift_9 (by decide) (fun c_1 => ?_) (fun c_1 => False.elim (by first | exact absurd (wf_neg_lt hn0 hn) c_1 | exact absurd c_1 (wf_neg_lt hn0 hn)))
  refine lv_iload_n hx hb d_X_shift_31 rfl (lv_at hl 2 rfl) ?_
  refine lv_bipush (v := (-128)) hx hb d_X_shift_32 (by decide) ?_
  refine lv_icmp_gt (tgt := 43) hx hb d_X_shift_34 (by decide) (fun c1 => ?_) (fun c1 => ?_)
  · have h1 : n < 128 := (wf_neg_128 hn).mp c1
    refine lv_iload_n hx hb d_X_shift_43 rfl (lv_at hl 2 rfl) ?_
    refine lv_ineg hx hb d_X_shift_44 ?_
    refine lv_topi (fun k_2 ek_2 => ?_)
    have ek_2 : k_2 = nI n := ek_2.trans (Int32.neg_neg)
    subst ek_2
    refine lv_istore (lv' := [(4, .int (nI n)), (0, .ref (q 0)), (1, .int (nI ra)), (2, .int (-nI n)), (3, .int (nI rt))]) hx hb d_X_shift_45 hl (by decide) rfl (fun ls hl => ?_)
    refine lv_aload_n hx hb d_X_shift_47 rfl (lv_at hl 1 rfl) ?_
    refine lv_aload_n hx hb d_X_shift_48 rfl (lv_at hl 1 rfl) ?_
    refine gX C hK hP 0 rfl 0 (by decide) k_fl_X_highs rfl d_X_shift_49 ?_
    refine lv_iload_n hx hb d_X_shift_52 rfl (lv_at hl 2 rfl) ?_
    refine wf_lald C hK hP 1 0 rfl rfl (k := ra) rfl hra (by decide) d_X_shift_53 ?_
    refine lv_aload_n hx hb d_X_shift_54 rfl (lv_at hl 1 rfl) ?_
    refine gX C hK hP 0 rfl 1 (by decide) k_fl_X_lows rfl d_X_shift_55 ?_
    refine lv_iload_n hx hb d_X_shift_58 rfl (lv_at hl 2 rfl) ?_
    refine wf_lald C hK hP 2 1 rfl rfl (k := ra) rfl hra (by decide) d_X_shift_59 ?_
    refine lv_iload hx hb d_X_shift_60 (lv_at hl 0 rfl) ?_
    refine lv_iload_n hx hb d_X_shift_62 rfl (lv_at hl 4 rfl) ?_
    refine kX_down (by omega) hrt C hl.1 ⟨Nat.le_of_ble_eq_true rfl, Nat.le_of_ble_eq_true rfl⟩ (Nat.le_of_ble_eq_true rfl) ⟨Nat.le_of_ble_eq_true rfl, Nat.le_of_ble_eq_true rfl⟩ hP hK hD hS hA d_X_shift_63 (fun ru_3 u_3 H locs eu_3 hP hD hS => ?_)
    exact wf_retz C hr (by rw [eu_3.1]; exact wf_bi_ret _) hlocks u_3 (eu_3) hP hK hD hS (fun _ h => h) d_X_shift_66
  · have h1 : 128 ≤ n := Nat.not_lt.mp (fun h => c1 ((wf_neg_128 hn).mpr h))
    refine lv_sipush (v := nI 128) hx hb d_X_shift_37 (by decide) ?_
    refine lv_goto (tgt := 45) hx hb d_X_shift_40 (by decide) ?_
    refine lv_istore (lv' := [(4, .int (nI 128)), (0, .ref (q 0)), (1, .int (nI ra)), (2, .int (-nI n)), (3, .int (nI rt))]) hx hb d_X_shift_45 hl (by decide) rfl (fun ls hl => ?_)
    refine lv_aload_n hx hb d_X_shift_47 rfl (lv_at hl 1 rfl) ?_
    refine lv_aload_n hx hb d_X_shift_48 rfl (lv_at hl 1 rfl) ?_
    refine gX C hK hP 0 rfl 0 (by decide) k_fl_X_highs rfl d_X_shift_49 ?_
    refine lv_iload_n hx hb d_X_shift_52 rfl (lv_at hl 2 rfl) ?_
    refine wf_lald C hK hP 1 0 rfl rfl (k := ra) rfl hra (by decide) d_X_shift_53 ?_
    refine lv_aload_n hx hb d_X_shift_54 rfl (lv_at hl 1 rfl) ?_
    refine gX C hK hP 0 rfl 1 (by decide) k_fl_X_lows rfl d_X_shift_55 ?_
    refine lv_iload_n hx hb d_X_shift_58 rfl (lv_at hl 2 rfl) ?_
    refine wf_lald C hK hP 2 1 rfl rfl (k := ra) rfl hra (by decide) d_X_shift_59 ?_
    refine lv_iload hx hb d_X_shift_60 (lv_at hl 0 rfl) ?_
    refine lv_iload_n hx hb d_X_shift_62 rfl (lv_at hl 4 rfl) ?_
    refine kX_down (by omega) hrt C hl.1 ⟨Nat.le_of_ble_eq_true rfl, Nat.le_of_ble_eq_true rfl⟩ (Nat.le_of_ble_eq_true rfl) ⟨Nat.le_of_ble_eq_true rfl, Nat.le_of_ble_eq_true rfl⟩ hP hK hD hS hA d_X_shift_63 (fun ru_4 u_4 H locs eu_4 hP hD hS => ?_)
    exact wf_retz C hr (by rw [eu_4.1]; exact wf_bi_ret _) hlocks u_4 (⟨eu_4.1.trans (congrArg wf_bi (decide_eq_decide.mpr (wf_far (wf_Rx_lt u ra) h1).2)), by rw [← (wf_far (wf_Rx_lt u ra) h1).1]; exact eu_4.2⟩) hP hK hD hS (fun _ h => h) d_X_shift_66

set_option maxHeartbeats 4000000 in
set_option maxRecDepth 100000 in
/-- X_jam -/
theorem c_X_jam (l : Launch) (D : va_G) (q : Nat → Nat) (κ : Nat → ClassId) (u : SX) (ra : Nat) (hra : ra < 8) (n : Nat) (hn : n < 2 ^ 31) (rt : Nat) (hrt : rt < 8) (sz : Nat) : Met l y_X_jam (.code y_X_jam b_X_jam 4 none :: wG) (wf_rm 4 150 0 0) (wf_Pc D vwCl (wX q κ u) (tyX κ) ([.ref (q 0), .int (nI ra), .int (nI n), .int (nI rt)]) sz) (va_Qv (fun v => wf_st u v rt (wf_jam (wf_Rx u ra) n)) (wf_B D vwCl (wX q κ) (tyX κ) (va_A (wX q κ u) sz)) (va_A (wX q κ u) sz)) 0 0 (va_A (wX q κ u) sz) := by
  refine wf_open (by decide) (Nat.le_of_ble_eq_true rfl) k_X_jam ?_
  intro p e s m below meth c ls hsz C hr hlocks hnm hex hP hK hD hl
  subst hsz
  have hx := C.1
  have hb := C.2.1
  have hml := C.2.2.1
  have hown := C.2.2.2.1
  have hts := C.2.2.2.2
  have hA : ∀ j : Nat, s.heap.size ≤ j → va_A (wX q κ u) s.heap.size j := fun j h => Or.inr h
  have hS : va_S (va_A (wX q κ u) s.heap.size) s.heap s.heap [] := va_S.rf
  generalize hAe : va_A (wX q κ u) s.heap.size = A at hA hS hD ⊢
  have hl : lv_has ls 4 [(0, .ref (q 0)), (1, .int (nI ra)), (2, .int (nI n)), (3, .int (nI rt))] := hl
  refine lv_iload_n hx hb d_X_jam_0 rfl (lv_at hl 1 rfl) ?_
  refine kX_chk (r := ra) hra C hl.1 ⟨Nat.le_of_ble_eq_true rfl, Nat.le_of_ble_eq_true rfl⟩ (Nat.le_of_ble_eq_true rfl) ⟨Nat.le_of_ble_eq_true rfl, Nat.le_of_ble_eq_true rfl⟩ d_X_jam_1 ?_
  refine lv_iload_n hx hb d_X_jam_4 rfl (lv_at hl 3 rfl) ?_
  refine kX_chk (r := rt) hrt C hl.1 ⟨Nat.le_of_ble_eq_true rfl, Nat.le_of_ble_eq_true rfl⟩ (Nat.le_of_ble_eq_true rfl) ⟨Nat.le_of_ble_eq_true rfl, Nat.le_of_ble_eq_true rfl⟩ d_X_jam_5 ?_
  refine lv_iload_n hx hb d_X_jam_8 rfl (lv_at hl 2 rfl) ?_
  refine lv_if_ge (tgt := 22) hx hb d_X_jam_9 (by decide) (fun c_1 => ?_) (fun c_1 => False.elim (by first | exact absurd (nI_pos' hn) c_1 | exact absurd c_1 (nI_pos' hn)))
  refine lv_aload_n hx hb d_X_jam_22 rfl (lv_at hl 0 rfl) ?_
  refine lv_aload_n hx hb d_X_jam_23 rfl (lv_at hl 0 rfl) ?_
  refine gX C hK hP 0 rfl 0 (by decide) k_fl_X_highs rfl d_X_jam_24 ?_
  refine lv_iload_n hx hb d_X_jam_27 rfl (lv_at hl 1 rfl) ?_
  refine wf_lald C hK hP 1 0 rfl rfl (k := ra) rfl hra (by decide) d_X_jam_28 ?_
  refine lv_aload_n hx hb d_X_jam_29 rfl (lv_at hl 0 rfl) ?_
  refine gX C hK hP 0 rfl 1 (by decide) k_fl_X_lows rfl d_X_jam_30 ?_
  refine lv_iload_n hx hb d_X_jam_33 rfl (lv_at hl 1 rfl) ?_
  refine wf_lald C hK hP 2 1 rfl rfl (k := ra) rfl hra (by decide) d_X_jam_34 ?_
  refine lv_iload_n hx hb d_X_jam_35 rfl (lv_at hl 2 rfl) ?_
  refine lv_iload_n hx hb d_X_jam_36 rfl (lv_at hl 3 rfl) ?_
  refine kX_down hn hrt C hl.1 ⟨Nat.le_of_ble_eq_true rfl, Nat.le_of_ble_eq_true rfl⟩ (Nat.le_of_ble_eq_true rfl) ⟨Nat.le_of_ble_eq_true rfl, Nat.le_of_ble_eq_true rfl⟩ hP hK hD hS hA d_X_jam_37 (fun ru_2 u_2 H locs eu_2 hP hD hS => ?_)
  obtain ⟨er, h1, l1, e1, hv⟩ := eu_2
  refine lv_if_eq (tgt := 53) hx hb d_X_jam_40 (by decide) (fun c1 => ?_) (fun c1 => ?_)
  · exact wf_retv C hr hlocks u_2 (⟨h1, l1, e1, by unfold wf_jam; rw [er, wf_bi0] at c1; rw [if_neg (show ¬ wf_Rx u ra % 2 ^ n ≠ 0 from of_decide_eq_false c1)]; exact hv⟩) hP hK hD hS (fun _ h => h) d_X_jam_53
  · refine lv_aload_n hx hb d_X_jam_43 rfl (lv_at hl 0 rfl) ?_
    refine gX C hK hP 0 rfl 1 (by decide) k_fl_X_lows rfl d_X_jam_44 ?_
    refine lv_iload_n hx hb d_X_jam_47 rfl (lv_at hl 3 rfl) ?_
    refine lv_dup2_11 hx hb d_X_jam_48 rfl rfl ?_
    refine wf_lald C hK hP 2 1 rfl rfl (k := rt) rfl hrt (by decide) d_X_jam_49 ?_
    refine lv_lconst (v := 1) hx hb d_X_jam_50 (by decide) ?_
    refine lv_lor hx hb d_X_jam_51 ?_
    refine wf_last C hK hP hD hS 2 1 rfl rfl (k := rt) rfl hrt (by decide) d_X_jam_52 (fun H locs hP hD hS => ?_)
    have hP : va_P D vwCl (wX q κ (u_2.1, va_up u_2.2.1 rt ((u_2.2.1 rt) ||| 1), u_2.2.2)) H := hP
    have hD : va_D A (wX q κ (u_2.1, va_up u_2.2.1 rt ((u_2.2.1 rt) ||| 1), u_2.2.2)) := hD
    generalize eu_3 : ((u_2.1, va_up u_2.2.1 rt ((u_2.2.1 rt) ||| 1), u_2.2.2) : SX) = u_3 at hP hD
    exact wf_retv C hr hlocks u_3 (⟨h1, l1 ||| 1, by subst e1; rw [← eu_3]; show (va_up u.1 rt h1, va_up (va_up u.2.1 rt l1) rt (va_up u.2.1 rt l1 rt ||| 1), u.2.2) = _; rw [bx_uu, va_up_self], by unfold wf_jam; rw [er, wf_bi1] at c1; rw [if_pos (show wf_Rx u ra % 2 ^ n ≠ 0 from of_decide_eq_true c1), wf_V_or, show wf_V h1 l1 = wf_Rx u ra / 2 ^ n from hv]⟩) hP hK hD hS (fun _ h => h) d_X_jam_53

set_option maxHeartbeats 4000000 in
set_option maxRecDepth 100000 in
/-- X_digit -/
theorem c_X_digitIn (l : Launch) (D : va_G) (q : Nat → Nat) (κ : Nat → ClassId) (u : SX) (f : Nat) (hf9 : f ≤ 39) (hf : u.2.2.2.2 = nI f) (j : Nat) (hj : f + j < 39) (sz : Nat) : Met l y_X_digit (.code y_X_digit b_X_digit 2 (some .int) :: wG) (wf_rm 0 0 0 0) (wf_Pc D vwCl (wX q κ u) (tyX κ) ([.ref (q 0), .int (nI j)]) sz) (vp_Si (fun r => r = u.2.2.2.1 (f + j))) 0 0 (fun _ => False) := by
  refine wf_open (by decide) (Nat.le_of_ble_eq_true rfl) k_X_digit ?_
  intro p e s m below meth c ls hsz C hr hlocks hnm hex hP hK hD hl
  subst hsz
  have hx := C.1
  have hb := C.2.1
  have hml := C.2.2.1
  have hown := C.2.2.2.1
  have hts := C.2.2.2.2
  have hA : ∀ j : Nat, s.heap.size ≤ j → va_A (wX q κ u) s.heap.size j := fun j h => Or.inr h
  have hS : va_S (va_A (wX q κ u) s.heap.size) s.heap s.heap [] := va_S.rf
  generalize hAe : va_A (wX q κ u) s.heap.size = A at hA hS hD ⊢
  have hl : lv_has ls 2 [(0, .ref (q 0)), (1, .int (nI j))] := hl
  refine lv_iload_n hx hb d_X_digit_0 rfl (lv_at hl 1 rfl) ?_
  refine lv_if_lt (tgt := 15) hx hb d_X_digit_1 (by decide) (fun c_1 => False.elim (by first | exact absurd c_1 (nI_pos (by omega)) | exact absurd (nI_pos (by omega)) c_1)) (fun c_1 => ?_)
  refine lv_iload_n hx hb d_X_digit_4 rfl (lv_at hl 1 rfl) ?_
  refine lv_bipush (v := 39) hx hb d_X_digit_5 (by decide) ?_
  refine lv_aload_n hx hb d_X_digit_7 rfl (lv_at hl 0 rfl) ?_
  refine gX C hK hP 0 rfl 4 (by decide) k_fl_X_firstDigit rfl d_X_digit_8 ?_
  refine lv_topi (fun k_2 ek_2 => ?_)
  have ek_2 : k_2 = nI f := ek_2.trans (hf)
  subst ek_2
  refine lv_isub hx hb d_X_digit_11 ?_
  refine lv_topi (fun k_3 ek_3 => ?_)
  have ek_3 : k_3 = nI (39 - f) := ek_3.trans (pk_sub (a := 39) hf9)
  subst ek_3
  refine lv_icmp_lt (tgt := 17) hx hb d_X_digit_12 (by decide) (fun c_4 => ?_) (fun c_4 => False.elim (by first | exact absurd (nI_lt (by omega) (by omega)) c_4 | exact absurd c_4 (nI_lt (by omega) (by omega))))
  refine lv_aload_n hx hb d_X_digit_17 rfl (lv_at hl 0 rfl) ?_
  refine gX C hK hP 0 rfl 3 (by decide) k_fl_X_digitRow rfl d_X_digit_18 ?_
  refine lv_aload_n hx hb d_X_digit_21 rfl (lv_at hl 0 rfl) ?_
  refine gX C hK hP 0 rfl 4 (by decide) k_fl_X_firstDigit rfl d_X_digit_22 ?_
  refine lv_topi (fun k_5 ek_5 => ?_)
  have ek_5 : k_5 = nI f := ek_5.trans (hf)
  subst ek_5
  refine lv_iload_n hx hb d_X_digit_25 rfl (lv_at hl 1 rfl) ?_
  refine lv_iadd hx hb d_X_digit_26 ?_
  refine lv_topi (fun k_6 ek_6 => ?_)
  have ek_6 : k_6 = nI (f + j) := ek_6.trans (nI_add f j)
  subst ek_6
  refine wf_iald C hK hP 4 3 rfl rfl (k := f + j) rfl hj (by decide) d_X_digit_27 ?_
  exact W.iret hx hb hr (fun t ht hW => ⟨_, rfl, rfl, ht⟩) (fun q h => by cases h) d_X_digit_28 hlocks

set_option maxHeartbeats 4000000 in
set_option maxRecDepth 100000 in
/-- X_digit -/
theorem c_X_digitBig (l : Launch) (D : va_G) (q : Nat → Nat) (κ : Nat → ClassId) (u : SX) (f : Nat) (hf9 : f ≤ 39) (hf : u.2.2.2.2 = nI f) (j : Nat) (hj31 : j < 2 ^ 31) (hj : 39 ≤ f + j) (sz : Nat) : Met l y_X_digit (.code y_X_digit b_X_digit 2 (some .int) :: wG) (wf_rm 0 0 0 0) (wf_Pc D vwCl (wX q κ u) (tyX κ) ([.ref (q 0), .int (nI j)]) sz) (vp_Si (fun r => r = -1)) 0 0 (fun _ => False) := by
  refine wf_open (by decide) (Nat.le_of_ble_eq_true rfl) k_X_digit ?_
  intro p e s m below meth c ls hsz C hr hlocks hnm hex hP hK hD hl
  subst hsz
  have hx := C.1
  have hb := C.2.1
  have hml := C.2.2.1
  have hown := C.2.2.2.1
  have hts := C.2.2.2.2
  have hA : ∀ j : Nat, s.heap.size ≤ j → va_A (wX q κ u) s.heap.size j := fun j h => Or.inr h
  have hS : va_S (va_A (wX q κ u) s.heap.size) s.heap s.heap [] := va_S.rf
  generalize hAe : va_A (wX q κ u) s.heap.size = A at hA hS hD ⊢
  have hl : lv_has ls 2 [(0, .ref (q 0)), (1, .int (nI j))] := hl
  refine lv_iload_n hx hb d_X_digit_0 rfl (lv_at hl 1 rfl) ?_
  refine lv_if_lt (tgt := 15) hx hb d_X_digit_1 (by decide) (fun c_1 => False.elim (by first | exact absurd c_1 (nI_pos hj31) | exact absurd (nI_pos hj31) c_1)) (fun c_1 => ?_)
  refine lv_iload_n hx hb d_X_digit_4 rfl (lv_at hl 1 rfl) ?_
  refine lv_bipush (v := 39) hx hb d_X_digit_5 (by decide) ?_
  refine lv_aload_n hx hb d_X_digit_7 rfl (lv_at hl 0 rfl) ?_
  refine gX C hK hP 0 rfl 4 (by decide) k_fl_X_firstDigit rfl d_X_digit_8 ?_
  refine lv_topi (fun k_2 ek_2 => ?_)
  have ek_2 : k_2 = nI f := ek_2.trans (hf)
  subst ek_2
  refine lv_isub hx hb d_X_digit_11 ?_
  refine lv_topi (fun k_3 ek_3 => ?_)
  have ek_3 : k_3 = nI (39 - f) := ek_3.trans (pk_sub (a := 39) hf9)
  subst ek_3
  refine lv_icmp_lt (tgt := 17) hx hb d_X_digit_12 (by decide) (fun c_4 => False.elim (by first | exact absurd c_4 (nI_nlt (by omega) (by omega)) | exact absurd (nI_nlt (by omega) (by omega)) c_4)) (fun c_4 => ?_)
  refine lv_iconst (v := (-1)) hx hb d_X_digit_15 (by decide) ?_
  exact W.iret hx hb hr (fun t ht hW => ⟨_, rfl, rfl, ht⟩) (fun q h => by cases h) d_X_digit_16 hlocks

set_option maxHeartbeats 4000000 in
set_option maxRecDepth 100000 in
/-- X_digit -/
theorem c_X_digitNeg (l : Launch) (D : va_G) (q : Nat → Nat) (κ : Nat → ClassId) (u : SX) (i : Int32) (hi0 : i < 0) (sz : Nat) : Met l y_X_digit (.code y_X_digit b_X_digit 2 (some .int) :: wG) (wf_rm 0 0 0 0) (wf_Pc D vwCl (wX q κ u) (tyX κ) ([.ref (q 0), .int i]) sz) (vp_Si (fun r => r = -1)) 0 0 (fun _ => False) := by
  refine wf_open (by decide) (Nat.le_of_ble_eq_true rfl) k_X_digit ?_
  intro p e s m below meth c ls hsz C hr hlocks hnm hex hP hK hD hl
  subst hsz
  have hx := C.1
  have hb := C.2.1
  have hml := C.2.2.1
  have hown := C.2.2.2.1
  have hts := C.2.2.2.2
  have hA : ∀ j : Nat, s.heap.size ≤ j → va_A (wX q κ u) s.heap.size j := fun j h => Or.inr h
  have hS : va_S (va_A (wX q κ u) s.heap.size) s.heap s.heap [] := va_S.rf
  generalize hAe : va_A (wX q κ u) s.heap.size = A at hA hS hD ⊢
  have hl : lv_has ls 2 [(0, .ref (q 0)), (1, .int (i))] := hl
  refine lv_iload_n hx hb d_X_digit_0 rfl (lv_at hl 1 rfl) ?_
  refine lv_if_lt (tgt := 15) hx hb d_X_digit_1 (by decide) (fun c_1 => ?_) (fun c_1 => False.elim (by first | exact absurd (hi0) c_1 | exact absurd c_1 (hi0)))
  refine lv_iconst (v := (-1)) hx hb d_X_digit_15 (by decide) ?_
  exact W.iret hx hb hr (fun t ht hW => ⟨_, rfl, rfl, ht⟩) (fun q h => by cases h) d_X_digit_16 hlocks

set_option maxHeartbeats 4000000 in
set_option maxRecDepth 100000 in
/-- X_next -/
theorem c_X_next (l : Launch) (D : va_G) (q : Nat → Nat) (κ : Nat → ClassId) (u : SX) (rk : Nat) (hrk : rk < 8) (d : Nat) (hd : d < 10) (sz : Nat) : Met l y_X_next (.code y_X_next b_X_next 11 (some .boolean) :: wG) (wf_rm 4 150 0 0) (wf_Pc D vwCl (wX q κ u) (tyX κ) ([.ref (q 0), .int (nI rk), .int (nI d)]) sz) (va_Qi (fun r v => (r = 1 ∧ wf_Rx u rk * 10 + d < wf_NN ∧ wf_st u v rk (wf_Rx u rk * 10 + d)) ∨ (r = 0 ∧ wf_NN ≤ wf_Rx u rk * 10 + d ∧ v = u)) (wf_B D vwCl (wX q κ) (tyX κ) (va_A (wX q κ u) sz)) (va_A (wX q κ u) sz)) 0 0 (va_A (wX q κ u) sz) := by
  refine wf_open (by decide) (Nat.le_of_ble_eq_true rfl) k_X_next ?_
  intro p e s m below meth c ls hsz C hr hlocks hnm hex hP hK hD hl
  subst hsz
  have hx := C.1
  have hb := C.2.1
  have hml := C.2.2.1
  have hown := C.2.2.2.1
  have hts := C.2.2.2.2
  have hA : ∀ j : Nat, s.heap.size ≤ j → va_A (wX q κ u) s.heap.size j := fun j h => Or.inr h
  have hS : va_S (va_A (wX q κ u) s.heap.size) s.heap s.heap [] := va_S.rf
  generalize hAe : va_A (wX q κ u) s.heap.size = A at hA hS hD ⊢
  have hl : lv_has ls 11 [(0, .ref (q 0)), (1, .int (nI rk)), (2, .int (nI d))] := hl
  refine lv_iload_n hx hb d_X_next_0 rfl (lv_at hl 1 rfl) ?_
  refine kX_chk (r := rk) hrk C hl.1 ⟨Nat.le_of_ble_eq_true rfl, Nat.le_of_ble_eq_true rfl⟩ (Nat.le_of_ble_eq_true rfl) ⟨Nat.le_of_ble_eq_true rfl, Nat.le_of_ble_eq_true rfl⟩ d_X_next_1 ?_
  refine lv_iload_n hx hb d_X_next_4 rfl (lv_at hl 2 rfl) ?_
  refine lv_if_lt (tgt := 17) hx hb d_X_next_5 (by decide) (fun c_1 => False.elim (by first | exact absurd c_1 (nI_pos (by omega)) | exact absurd (nI_pos (by omega)) c_1)) (fun c_1 => ?_)
  refine lv_iload_n hx hb d_X_next_8 rfl (lv_at hl 2 rfl) ?_
  refine lv_i2l hx hb d_X_next_9 rfl ?_
  refine lv_ldc2 (v := 10) hx hb hown (hts _ (k_cl_X_93)) d_X_next_10 ?_
  refine W.lcmp hx hb d_X_next_13 ?_
  refine lv_if_lt (tgt := 27) hx hb d_X_next_14 (by decide) (fun c_2 => ?_) (fun c_2 => False.elim (by first | exact absurd ((lg_cmp_lt _ _).mpr (wf_i2l hd).2) c_2 | exact absurd c_2 ((lg_cmp_lt _ _).mpr (wf_i2l hd).2)))
  refine lv_aload_n hx hb d_X_next_27 rfl (lv_at hl 0 rfl) ?_
  refine gX C hK hP 0 rfl 1 (by decide) k_fl_X_lows rfl d_X_next_28 ?_
  refine lv_iload_n hx hb d_X_next_31 rfl (lv_at hl 1 rfl) ?_
  refine wf_lald C hK hP 2 1 rfl rfl (k := rk) rfl hrk (by decide) d_X_next_32 ?_
  refine lv_ldc2 (v := 10) hx hb hown (hts _ (k_cl_X_93)) d_X_next_33 ?_
  refine lv_lmul hx hb d_X_next_36 ?_
  refine lv_topl (fun v_3 ev_3 => ?_)
  refine lv_lstore_n (lv' := [(3, .long (v_3)), (0, .ref (q 0)), (1, .int (nI rk)), (2, .int (nI d))]) hx hb d_X_next_37 rfl hl (by decide) rfl (fun ls hl => ?_)
  refine lv_lload_n hx hb d_X_next_38 rfl (lv_at hl 0 rfl) ?_
  refine lv_iload_n hx hb d_X_next_39 rfl (lv_at hl 3 rfl) ?_
  refine lv_i2l hx hb d_X_next_40 rfl ?_
  refine lv_ladd hx hb d_X_next_41 ?_
  refine lv_topl (fun v_4 ev_4 => ?_)
  refine lv_lstore (lv' := [(5, .long (v_4)), (3, .long (v_3)), (0, .ref (q 0)), (1, .int (nI rk)), (2, .int (nI d))]) hx hb d_X_next_42 hl (by decide) rfl (fun ls hl => ?_)
  refine lv_aload_n hx hb d_X_next_44 rfl (lv_at hl 2 rfl) ?_
  refine gX C hK hP 0 rfl 1 (by decide) k_fl_X_lows rfl d_X_next_45 ?_
  refine lv_iload_n hx hb d_X_next_48 rfl (lv_at hl 3 rfl) ?_
  refine wf_lald C hK hP 2 1 rfl rfl (k := rk) rfl hrk (by decide) d_X_next_49 ?_
  refine lv_ldc2 (v := 10) hx hb hown (hts _ (k_cl_X_93)) d_X_next_50 ?_
  refine kX_over C hl.1 ⟨Nat.le_of_ble_eq_true rfl, Nat.le_of_ble_eq_true rfl⟩ (Nat.le_of_ble_eq_true rfl) ⟨Nat.le_of_ble_eq_true rfl, Nat.le_of_ble_eq_true rfl⟩ d_X_next_53 (fun r_5 hr_5 => ?_)
  refine lv_lload hx hb d_X_next_56 (lv_at hl 0 rfl) ?_
  refine lv_lload_n hx hb d_X_next_58 rfl (lv_at hl 1 rfl) ?_
  refine kX_one C hl.1 ⟨Nat.le_of_ble_eq_true rfl, Nat.le_of_ble_eq_true rfl⟩ (Nat.le_of_ble_eq_true rfl) ⟨Nat.le_of_ble_eq_true rfl, Nat.le_of_ble_eq_true rfl⟩ d_X_next_59 ?_
  refine lv_ladd hx hb d_X_next_62 ?_
  refine lv_topl (fun v_6 ev_6 => ?_)
  refine lv_lstore (lv' := [(7, .long (v_6)), (5, .long (v_4)), (3, .long (v_3)), (0, .ref (q 0)), (1, .int (nI rk)), (2, .int (nI d))]) hx hb d_X_next_63 hl (by decide) rfl (fun ls hl => ?_)
  refine lv_aload_n hx hb d_X_next_65 rfl (lv_at hl 3 rfl) ?_
  refine gX C hK hP 0 rfl 0 (by decide) k_fl_X_highs rfl d_X_next_66 ?_
  refine lv_iload_n hx hb d_X_next_69 rfl (lv_at hl 4 rfl) ?_
  refine wf_lald C hK hP 1 0 rfl rfl (k := rk) rfl hrk (by decide) d_X_next_70 ?_
  refine lv_ldc2 (v := 10) hx hb hown (hts _ (k_cl_X_93)) d_X_next_71 ?_
  refine lv_lmul hx hb d_X_next_74 ?_
  refine lv_lload hx hb d_X_next_75 (lv_at hl 0 rfl) ?_
  refine lv_ladd hx hb d_X_next_77 ?_
  refine lv_topl (fun v_7 ev_7 => ?_)
  refine lv_lstore (lv' := [(9, .long (v_7)), (7, .long (v_6)), (5, .long (v_4)), (3, .long (v_3)), (0, .ref (q 0)), (1, .int (nI rk)), (2, .int (nI d))]) hx hb d_X_next_78 hl (by decide) rfl (fun ls hl => ?_)
  refine lv_aload_n hx hb d_X_next_80 rfl (lv_at hl 4 rfl) ?_
  refine gX C hK hP 0 rfl 0 (by decide) k_fl_X_highs rfl d_X_next_81 ?_
  refine lv_iload_n hx hb d_X_next_84 rfl (lv_at hl 5 rfl) ?_
  refine wf_lald C hK hP 1 0 rfl rfl (k := rk) rfl hrk (by decide) d_X_next_85 ?_
  refine lv_ldc2 (v := 10) hx hb hown (hts _ (k_cl_X_93)) d_X_next_86 ?_
  refine kX_over C hl.1 ⟨Nat.le_of_ble_eq_true rfl, Nat.le_of_ble_eq_true rfl⟩ (Nat.le_of_ble_eq_true rfl) ⟨Nat.le_of_ble_eq_true rfl, Nat.le_of_ble_eq_true rfl⟩ d_X_next_89 (fun r_8 hr_8 => ?_)
  refine lv_lload hx hb d_X_next_92 (lv_at hl 0 rfl) ?_
  refine lv_lload hx hb d_X_next_94 (lv_at hl 1 rfl) ?_
  refine kX_one C hl.1 ⟨Nat.le_of_ble_eq_true rfl, Nat.le_of_ble_eq_true rfl⟩ (Nat.le_of_ble_eq_true rfl) ⟨Nat.le_of_ble_eq_true rfl, Nat.le_of_ble_eq_true rfl⟩ d_X_next_96 ?_
  refine lv_ladd hx hb d_X_next_99 ?_
  refine lv_lconst (v := 0) hx hb d_X_next_100 (by decide) ?_
  refine W.lcmp hx hb d_X_next_101 ?_
  have hten := wf_ten (h := u.1 rk) (l := u.2.1 rk) (d := Int32.toInt64 (nI d)) (P := r_5) (Q := r_8) (cy := v_6) (by rw [(wf_i2l hd).1]; exact hd) hr_5 hr_8 (by rw [ev_6, ev_4, ev_3])
  rw [(wf_i2l hd).1, ← ev_7] at hten
  refine lv_if_eq (tgt := 107) hx hb d_X_next_102 (by decide) (fun c1 => ?_) (fun c1 => ?_)
  · have h1 : wf_Rx u rk * 10 + d < wf_NN := Nat.not_le.mp (fun h => hten.1.mpr h ((lg_cmp_eq _ _).mp c1))
    refine lv_aload_n hx hb d_X_next_107 rfl (lv_at hl 4 rfl) ?_
    refine lv_iload_n hx hb d_X_next_108 rfl (lv_at hl 5 rfl) ?_
    refine lv_lload hx hb d_X_next_109 (lv_at hl 0 rfl) ?_
    refine lv_lload hx hb d_X_next_111 (lv_at hl 2 rfl) ?_
    refine kX_store (r := rk) hrk C hl.1 ⟨Nat.le_of_ble_eq_true rfl, Nat.le_of_ble_eq_true rfl⟩ (Nat.le_of_ble_eq_true rfl) ⟨Nat.le_of_ble_eq_true rfl, Nat.le_of_ble_eq_true rfl⟩ hP hK hD hS hA d_X_next_113 (fun u_9 H locs eu_9 hP hD hS => ?_)
    refine lv_iconst (v := 1) hx hb d_X_next_116 (by decide) ?_
    exact wf_retz C hr (rfl) hlocks u_9 (Or.inl ⟨rfl, h1, _, _, eu_9, by rw [ev_4, ev_3]; exact hten.2 h1⟩) hP hK hD hS (fun _ h => h) d_X_next_117
  · have h1 : wf_NN ≤ wf_Rx u rk * 10 + d := hten.1.mp (fun h => c1 ((lg_cmp_eq _ _).mpr h))
    refine lv_iconst (v := 0) hx hb d_X_next_105 (by decide) ?_
    exact wf_retz C hr (rfl) hlocks u (Or.inr ⟨rfl, h1, rfl⟩) hP hK hD hS (fun _ h => h) d_X_next_106
end
section
/-! ===== the reference: indices, copies, registers ===== -/
theorem wf_ia {a b : Int32} {x y : Nat} (h1 : a = nI x) (h2 : b = nI y) : a + b = nI (x + y) := by rw [h1, h2, nI_add]
theorem wf_im {a b : Int32} {x y : Nat} (h1 : a = nI x) (h2 : b = nI y) : a * b = nI (x * y) := by rw [h1, h2]; exact (Int32.ofNat_mul x y).symm
theorem wf_is {a b : Int32} {x y : Nat} (h1 : a = nI x) (h2 : b = nI y) (h : y ≤ x) : a - b = nI (x - y) := by rw [h1, h2]; exact pk_sub h
theorem wf_deI {k : Nat} (h : 0 < k) : nI k + Int32.ofInt (-1) = nI (k - 1) := by
  obtain ⟨j, rfl⟩ : ∃ j, k = j + 1 := ⟨k - 1, by omega⟩
  rw [Nat.add_sub_cancel, ← nI_pred j, Int32.sub_eq_add_neg]
  rfl
theorem wf_cpy0 {α : Type} (f g : Nat → α) (s d : Nat) : va_cpy f g s d 0 = g := funext fun j => pk_cpy_out (by omega)
theorem wf_cpyS {α : Type} (f g : Nat → α) (s d n : Nat) : va_up (va_cpy f g s d n) (d + n) (f (s + n)) = va_cpy f g s d (n + 1) := by
  funext j
  by_cases h : j = d + n
  · subst h
    rw [va_up_self, pk_cpy_in (by omega) (by omega), Nat.add_sub_cancel_left]
  · rw [va_up_ne _ _ h]
    by_cases h2 : d ≤ j ∧ j < d + n
    · rw [pk_cpy_in h2.1 h2.2, pk_cpy_in h2.1 (by omega)]
    · rw [pk_cpy_out (by omega), pk_cpy_out (by omega)]
theorem wf_R_cpy (S B : Nat → Bool) (s r r' : Nat) : wf_R (va_cpy S B s (128 * r) 128) r' = if r' = r then wf_sm (fun k => S (s + k)) 128 else wf_R B r' := by
  unfold wf_R
  split
  · next h =>
    subst h
    exact wf_sm_congr (fun k hk => by rw [pk_cpy_in (by omega) (by omega), Nat.add_sub_cancel_left])
  · next h => exact wf_sm_congr (fun k hk => pk_cpy_out (by omega))
theorem wf_R_self (S B : Nat → Bool) (s r : Nat) : wf_R (va_cpy S B s (128 * r) 128) r = wf_sm (fun k => S (s + k)) 128 := by rw [wf_R_cpy, if_pos rfl]
theorem wf_R_else (S B : Nat → Bool) {s r r' : Nat} (h : r' ≠ r) : wf_R (va_cpy S B s (128 * r) 128) r' = wf_R B r' := by rw [wf_R_cpy, if_neg h]
theorem wf_R_upd (S B : Nat → Bool) (s r : Nat) (W : Nat → Nat) {N j : Nat} (hN : wf_sm (fun k => S (s + k)) 128 = N) (hW : wf_R B j = W j) : wf_R (va_cpy S B s (128 * r) 128) j = va_up W r N j := by
  by_cases h : j = r
  · subst h; rw [wf_R_self, va_up_self, hN]
  · rw [wf_R_else _ _ h, va_up_ne _ _ h, hW]
theorem wf_copy_S {u w : SM} {ra rb i : Nat} (hi : i < 128) (hI : w = (u.1, va_cpy u.2.1 u.2.1 (128 * ra) (128 * rb) i, u.2.2)) : (w.1, va_up w.2.1 (128 * rb + i) (w.2.1 (128 * ra + i)), w.2.2) = (u.1, va_cpy u.2.1 u.2.1 (128 * ra) (128 * rb) (i + 1), u.2.2) := by
  subst hI
  show (u.1, va_up (va_cpy u.2.1 u.2.1 (128 * ra) (128 * rb) i) (128 * rb + i) (va_cpy u.2.1 u.2.1 (128 * ra) (128 * rb) i (128 * ra + i)), u.2.2) = _
  rw [pk_cpy_out (j := 128 * ra + i) (by omega), wf_cpyS]
/-- not a register -/
def wf_no (i : Int32) : Bool := decide (i < 0) || decide (7 < i)
theorem wf_no_ok {r : Nat} (h : r < 8) : wf_no (nI r) = false := by
  unfold wf_no
  rw [decide_eq_false (nI_pos (by omega)), decide_eq_false (show ¬ (7 : Int32) < nI r from nI_nlt (a := 7) (by omega) (by decide))]
  rfl
theorem wf_no_is {i : Int32} (h : wf_no i = false) : ∃ r : Nat, r < 8 ∧ i = nI r := by
  unfold wf_no at h
  obtain ⟨h1, h2⟩ := Bool.or_eq_false_iff.mp h
  obtain ⟨j, h3, h4⟩ := nI_of2 (x := i) (M := 7) (n := 7) (by decide) (of_decide_eq_false h1) (Int32.not_lt.mp (of_decide_eq_false h2))
  exact ⟨j, by omega, h4⟩
/-- what a method of the reference leaves: its code, the eight registers; the digits as they were -/
def wf_mW (u v : SM) (c : Int32) (W : Nat → Nat) : Prop := v.1 = c ∧ (∀ j, j < 8 → wf_R v.2.1 j = W j) ∧ v.2.2.2.2.2 = u.2.2.2.2.2
/-- a shift by one place upwards in a row of n -/
def wf_sh (F : Nat → Bool) (n i : Nat) : Nat → Bool := fun j => if n - i < j ∧ j ≤ n then F (j - 1) else F j
theorem wf_sh0 (F : Nat → Bool) (n : Nat) : wf_sh F n 0 = F := funext fun j => if_neg (by omega)
theorem wf_shS (F : Nat → Bool) {n i : Nat} (hi : i < n) : va_up (wf_sh F n i) (n - i) (wf_sh F n i (n - i - 1)) = wf_sh F n (i + 1) := by
  funext j
  have h0 : wf_sh F n i (n - i - 1) = F (n - i - 1) := if_neg (by omega)
  rw [h0]
  by_cases h : j = n - i
  · subst h
    rw [va_up_self]
    exact (if_pos (by omega)).symm
  · rw [va_up_ne _ _ h]
    unfold wf_sh
    by_cases h2 : n - i < j ∧ j ≤ n
    · rw [if_pos h2, if_pos (by omega)]
    · rw [if_neg h2, if_neg (by omega)]
theorem wf_sh_end (F : Nat → Bool) (n : Nat) (b : Bool) : wf_sm (va_up (wf_sh F n n) 0 b) (n + 1) = b.toNat + 2 * wf_sm F n := by
  rw [wf_sm_cons, va_up_self]
  congr 2
  refine wf_sm_congr (fun k hk => ?_)
  rw [va_up_ne _ _ (by omega)]
  exact if_pos (by omega)
/-- what takeAway takes away: a register, or 4 times the answer and 1 -/
def wf_lw (B : Nat → Bool) (r : Nat) : Nat → Bool := fun k => decide (k < 128) && B (128 * r + k)
def wf_lr (A : Nat → Bool) : Nat → Bool := fun k => decide (k = 0) || (decide (1 < k) && A (k - 2))
theorem wf_lw_sm (B : Nat → Bool) (r : Nat) {n : Nat} (h : 128 ≤ n) : wf_sm (wf_lw B r) n = wf_R B r := by
  rw [wf_sm_ext h (fun k h1 _ => by unfold wf_lw; rw [decide_eq_false (by omega)]; rfl)]
  exact wf_sm_congr (fun k hk => by unfold wf_lw; rw [decide_eq_true hk]; rfl)
theorem wf_lr_sm (A : Nat → Bool) : wf_sm (wf_lr A) 130 = 4 * wf_sm A 128 + 1 := by
  rw [wf_sm_cons, wf_sm_cons]
  have h : wf_sm (fun i => wf_lr A (i + 1 + 1)) 128 = wf_sm A 128 := wf_sm_congr (fun k hk => by
    unfold wf_lr
    rw [decide_eq_false (show ¬ k + 1 + 1 = 0 by omega), decide_eq_true (show 1 < k + 1 + 1 by omega), Nat.add_sub_cancel (k) 2]; rfl)
  rw [h]
  show 1 + 2 * (0 + 2 * _) = _
  omega
theorem wf_take_S {B P : Nat → Bool} {b d i : Nat} {B' : Nat → Bool} (h : B' = va_cpy P B b d i) : va_up B' (d + i) (P (b + i)) = va_cpy P B b d (i + 1) := by rw [h, wf_cpyS]
/-- comparing upwards: what fits -/
def wf_FI (L r : Nat → Bool) (i : Nat) (b : Bool) : Prop := b = decide (wf_sm L i ≤ wf_sm r i)
theorem wf_FI_0 (L r : Nat → Bool) : wf_FI L r 0 true := rfl
theorem wf_FI_S {L r : Nat → Bool} {i : Nat} {b : Bool} (h : wf_FI L r i b) : wf_FI L r (i + 1) (if r i = L i then b else r i) := by
  unfold wf_FI at h ⊢
  subst h
  rw [wf_smS, wf_smS]
  have hL := wf_sm_lt L i
  have hr := wf_sm_lt r i
  by_cases e : r i = L i
  · rw [if_pos e, e]
    exact decide_eq_decide.mpr (by omega)
  · rw [if_neg e]
    cases h1 : r i <;> cases h2 : L i
    · exact absurd (h1.trans h2.symm) e
    · refine (decide_eq_false ?_).symm
      simp only [Bool.toNat_false, Bool.toNat_true]; omega
    · refine (decide_eq_true ?_).symm
      simp only [Bool.toNat_false, Bool.toNat_true]; omega
    · exact absurd (h1.trans h2.symm) e
/-- subtracting upwards in a row of 130 -/
def wf_TI2 (L r r' : Nat → Bool) (i : Nat) (c : Bool) : Prop := (∀ j, i ≤ j → r' j = r j) ∧ wf_sm r' i + wf_sm L i = wf_sm r i + c.toNat * 2 ^ i
theorem wf_TI2_0 (L r : Nat → Bool) : wf_TI2 L r r 0 false := ⟨fun _ _ => rfl, rfl⟩
theorem wf_TI2_S {L r r' : Nat → Bool} {i : Nat} {x y c : Bool} (h : wf_TI2 L r r' i c) (ex : x = r' i) (ey : y = L i) : wf_TI2 L r (va_up r' i ((x != y) != c)) (i + 1) (!x && (y || c) || y && c) := by
  obtain ⟨h1, h2⟩ := h
  refine ⟨fun j hj => ?_, ?_⟩
  · rw [va_up_ne _ _ (by omega)]; exact h1 j (by omega)
  · have e := wf_sm_push r' 0 i ((x != y) != c)
    simp only [Nat.zero_add] at e
    rw [e, wf_smS L, wf_smS r, ← h1 i (Nat.le_refl i), ← ex, ← ey, Nat.pow_succ]
    exact wf_sub_step h2 (wf_fs x y c)
theorem wf_TI2_end {L r r' : Nat → Bool} {n : Nat} {c : Bool} (hn : 0 < n) (h : wf_TI2 L r r' n c) (hle : wf_sm L n ≤ wf_sm r n) : wf_sm r' n = wf_sm r n - wf_sm L n := by
  obtain ⟨-, h2⟩ := h
  have h3 := wf_sm_lt r' n
  cases c
  · simp only [Bool.toNat_false] at h2; omega
  · simp only [Bool.toNat_true] at h2; omega
/-- adding and subtracting registers 8 and 9 in place -/
def wf_JI (B B' : Nat → Bool) (i : Nat) : Prop := ∀ j, (j < 1024 ∨ 1024 + i ≤ j) → B' j = B j
def wf_JA (B B' : Nat → Bool) (i : Nat) (c : Bool) : Prop := wf_JI B B' i ∧ wf_sm (fun k => B' (1024 + k)) i + c.toNat * 2 ^ i = wf_sm (fun k => B (1024 + k)) i + wf_sm (fun k => B (1152 + k)) i
def wf_JS (B B' : Nat → Bool) (i : Nat) (c : Bool) : Prop := wf_JI B B' i ∧ wf_sm (fun k => B' (1024 + k)) i + wf_sm (fun k => B (1152 + k)) i = wf_sm (fun k => B (1024 + k)) i + c.toNat * 2 ^ i
theorem wf_JI_S {B B' : Nat → Bool} {i : Nat} (d : Bool) (h : wf_JI B B' i) : wf_JI B (va_up B' (1024 + i) d) (i + 1) := fun j hj => by
  rw [va_up_ne _ _ (by omega)]
  exact h j (by omega)
theorem wf_JA_S {B B' : Nat → Bool} {i : Nat} {a b c : Bool} (hi : i < 128) (h : wf_JA B B' i c) (ea : a = B' (1024 + i)) (eb : b = B' (1152 + i)) : wf_JA B (va_up B' (1024 + i) ((a != b) != c)) (i + 1) (a && b || a && c || b && c) := by
  obtain ⟨h1, h2⟩ := h
  refine ⟨wf_JI_S _ h1, ?_⟩
  rw [wf_sm_push B' 1024 i, wf_smS, wf_smS, ← h1 (1024 + i) (by omega), ← h1 (1152 + i) (by omega), ← ea, ← eb, Nat.pow_succ]
  exact wf_add_step h2 (wf_fa a b c)
theorem wf_JS_S {B B' : Nat → Bool} {i : Nat} {a b c : Bool} (hi : i < 128) (h : wf_JS B B' i c) (ea : a = B' (1024 + i)) (eb : b = B' (1152 + i)) : wf_JS B (va_up B' (1024 + i) ((a != b) != c)) (i + 1) (!a && (b || c) || b && c) := by
  obtain ⟨h1, h2⟩ := h
  refine ⟨wf_JI_S _ h1, ?_⟩
  rw [wf_sm_push B' 1024 i, wf_smS, wf_smS, ← h1 (1024 + i) (by omega), ← h1 (1152 + i) (by omega), ← ea, ← eb, Nat.pow_succ]
  exact wf_sub_step h2 (wf_fs a b c)
theorem wf_modof {S T N c : Nat} (h : S + c * N = T) (hS : S < N) : T % N = S := by rw [← h, Nat.add_mul_mod_self_right, Nat.mod_eq_of_lt hS]
theorem wf_JA_end {B B' : Nat → Bool} {c : Bool} (h : wf_JA B B' 128 c) : (∀ r, r < 8 → wf_R B' r = wf_R B r) ∧ c = decide (wf_NN ≤ wf_R B 8 + wf_R B 9) ∧ wf_R B' 8 = (wf_R B 8 + wf_R B 9) % wf_NN := by
  obtain ⟨h1, h2⟩ := h
  have h2 : wf_R B' 8 + c.toNat * 2 ^ 128 = wf_R B 8 + wf_R B 9 := h2
  rw [wf_p128] at h2
  have h3 := wf_R_lt B' 8
  refine ⟨fun r hr => wf_sm_congr (fun k hk => h1 _ (Or.inl (by omega))), ?_, ?_⟩
  · cases c
    · simp only [Bool.toNat_false] at h2
      refine (decide_eq_false ?_).symm
      show ¬ 340282366920938463463374607431768211456 ≤ _
      omega
    · simp only [Bool.toNat_true] at h2
      refine (decide_eq_true ?_).symm
      show 340282366920938463463374607431768211456 ≤ _
      omega
  · exact (wf_modof h2 h3).symm
theorem wf_JS_end {B B' : Nat → Bool} {c : Bool} (h : wf_JS B B' 128 c) : (∀ r, r < 8 → wf_R B' r = wf_R B r) ∧ c = decide (wf_R B 8 < wf_R B 9) ∧ wf_R B' 8 = (wf_R B 8 + wf_NN - wf_R B 9) % wf_NN := by
  obtain ⟨h1, h2⟩ := h
  have h2 : wf_R B' 8 + wf_R B 9 = wf_R B 8 + c.toNat * 2 ^ 128 := h2
  rw [wf_p128] at h2
  have h3 := wf_R_lt B' 8
  have h4 := wf_R_lt B 9
  have h5 := wf_R_lt B 8
  refine ⟨fun r hr => wf_sm_congr (fun k hk => h1 _ (Or.inl (by omega))), ?_, ?_⟩
  · cases c
    · simp only [Bool.toNat_false] at h2
      exact (decide_eq_false (by omega)).symm
    · simp only [Bool.toNat_true] at h2
      exact (decide_eq_true (by omega)).symm
  · show _ = (_ + 340282366920938463463374607431768211456 - _) % 340282366920938463463374607431768211456
    cases c
    · simp only [Bool.toNat_false] at h2; omega
    · simp only [Bool.toNat_true] at h2; omega
end
section
/-! ===== the reference: none, thrown, copy, take ===== -/

set_option maxHeartbeats 4000000 in
set_option maxRecDepth 100000 in
/-- none -/
theorem c_M_none (l : Launch) (i : Int32) : Met l y_M_none (.code y_M_none b_M_none 1 (some .boolean) :: wG) (wf_rm 0 0 0 0) (fun v _ => v = ([.int i] : List Value).toArray) (vp_Si (fun r => r = wf_bi (wf_no i))) 0 0 (fun _ => False) := by
  refine wf_openS (by decide) (Nat.le_of_ble_eq_true rfl) ?_
  intro p e s m below meth c ls C hr hlocks hl
  have hx := C.1
  have hb := C.2.1
  have hml := C.2.2.1
  have hown := C.2.2.2.1
  have hts := C.2.2.2.2
  have hl : lv_has ls 1 [(0, .int (i))] := hl
  refine lv_iload_n hx hb d_M_none_0 rfl (lv_at hl 0 rfl) ?_
  refine lv_if_lt (tgt := 10) hx hb d_M_none_1 (by decide) (fun c_1 => ?_) (fun c_1 => ?_)
  · refine lv_iconst (v := 1) hx hb d_M_none_10 (by decide) ?_
    refine lv_goto (tgt := 15) hx hb d_M_none_11 (by decide) ?_
    exact W.zret hx hb hr (rfl) (fun t ht hW => ⟨_, rfl, by unfold wf_no; rw [decide_eq_true c_1]; rfl, ht⟩) (fun q h => by cases h) d_M_none_15 hlocks
  · refine lv_iload_n hx hb d_M_none_4 rfl (lv_at hl 0 rfl) ?_
    refine lv_bipush (v := 7) hx hb d_M_none_5 (by decide) ?_
    refine lv_icmp_le (tgt := 14) hx hb d_M_none_7 (by decide) (fun c_2 => ?_) (fun c_2 => ?_)
    · refine lv_iconst (v := 0) hx hb d_M_none_14 (by decide) ?_
      exact W.zret hx hb hr (rfl) (fun t ht hW => ⟨_, rfl, by unfold wf_no; rw [decide_eq_false c_1, decide_eq_false (Int32.not_lt.mpr c_2)]; rfl, ht⟩) (fun q h => by cases h) d_M_none_15 hlocks
    · refine lv_iconst (v := 1) hx hb d_M_none_10 (by decide) ?_
      refine lv_goto (tgt := 15) hx hb d_M_none_11 (by decide) ?_
      exact W.zret hx hb hr (rfl) (fun t ht hW => ⟨_, rfl, by unfold wf_no; rw [decide_eq_false c_1, decide_eq_true (Int32.not_le.mp c_2)]; rfl, ht⟩) (fun q h => by cases h) d_M_none_15 hlocks

set_option maxHeartbeats 4000000 in
set_option maxRecDepth 100000 in
theorem kM_none {p : Program} {l : Launch} {e : Env} {R : Room} {s : State} {m : MethodId} {args : Array Value} {below : List Frame} {meth : Method} {c : Code} {H : Heap} {locs : List Loc} {cells slots : Nat} {Q : State → Prop} {cc : ByteArray} {pc nL : Nat} {ls : Array Slot} {rest : List Value} {i : Int32} (C : CallFix p m c cc nL s args wG RM) (hsz : ls.size = nL) (hR : 1 ≤ R.frames ∧ 20 ≤ R.locals) (hw : (rest.map fun v => v.category).sum ≤ 8) (hc : cells ≤ R.cells ∧ slots ≤ R.slots) (hdg : decode cc pc = .ok (.invokestatic 30, 3)) (kk : W p l e R s m args below meth c H locs cells slots Q (F0 m (pc + 3) ls (.int (wf_bi (wf_no i)) :: rest))) : W p l e R s m args below meth c H locs cells slots Q (F0 m pc ls (.int i :: rest)) := by
  refine vp_callSi (W.runS (As := [.int i]) (rest := rest) C (c_M_none l i) (va_cwS 1 C.2.2.2.2 (wG_S (fun _ h => h) k_ml_M_30 k_st_M_none k_in_M k_M_none) rfl rfl rfl (by decide +kernel) ⟨hR.1, hR.2⟩) preEq rfl rfl hsz rfl (lv_room hw) hdg ⟨hc.1, hc.2⟩) (fun r hr => ?_)
  rw [hr]
  exact kk

set_option maxHeartbeats 4000000 in
set_option maxRecDepth 100000 in
theorem kM_ok {p : Program} {l : Launch} {e : Env} {R : Room} {s : State} {m : MethodId} {args : Array Value} {below : List Frame} {meth : Method} {c : Code} {H : Heap} {locs : List Loc} {cells slots : Nat} {Q : State → Prop} {cc : ByteArray} {pc nL : Nat} {ls : Array Slot} {rest : List Value} {r : Nat} (hr8 : r < 8) (C : CallFix p m c cc nL s args wG RM) (hsz : ls.size = nL) (hR : 1 ≤ R.frames ∧ 20 ≤ R.locals) (hw : (rest.map fun v => v.category).sum ≤ 8) (hc : cells ≤ R.cells ∧ slots ≤ R.slots) (hdg : decode cc pc = .ok (.invokestatic 30, 3)) (kk : W p l e R s m args below meth c H locs cells slots Q (F0 m (pc + 3) ls (.int 0 :: rest))) : W p l e R s m args below meth c H locs cells slots Q (F0 m pc ls (.int (nI r) :: rest)) :=
  kM_none C hsz hR hw hc hdg (by rw [wf_no_ok hr8]; exact kk)

set_option maxHeartbeats 4000000 in
set_option maxRecDepth 100000 in
/-- M_thrown -/
theorem c_M_thrown (l : Launch) (D : va_G) (q : Nat → Nat) (κ : Nat → ClassId) (u : SM)  (sz : Nat) : Met l y_M_thrown (.code y_M_thrown b_M_thrown 1 (some .int) :: wG) (wf_rm 0 0 0 0) (wf_Pc D vwCl (wM q κ u) (tyM κ) ([.ref (q 0)]) sz) (vp_Si (fun r => r = u.1)) 0 0 (fun _ => False) := by
  refine wf_open (by decide) (Nat.le_of_ble_eq_true rfl) k_M_thrown ?_
  intro p e s m below meth c ls hsz C hr hlocks hnm hex hP hK hD hl
  subst hsz
  have hx := C.1
  have hb := C.2.1
  have hml := C.2.2.1
  have hown := C.2.2.2.1
  have hts := C.2.2.2.2
  have hA : ∀ j : Nat, s.heap.size ≤ j → va_A (wM q κ u) s.heap.size j := fun j h => Or.inr h
  have hS : va_S (va_A (wM q κ u) s.heap.size) s.heap s.heap [] := va_S.rf
  generalize hAe : va_A (wM q κ u) s.heap.size = A at hA hS hD ⊢
  have hl : lv_has ls 1 [(0, .ref (q 0))] := hl
  refine lv_aload_n hx hb d_M_thrown_0 rfl (lv_at hl 0 rfl) ?_
  refine gM C hK hP 0 rfl 0 (by decide) k_fl_M_code rfl d_M_thrown_1 ?_
  exact W.iret hx hb hr (fun t ht hW => ⟨_, rfl, rfl, ht⟩) (fun q h => by cases h) d_M_thrown_4 hlocks

set_option maxHeartbeats 4000000 in
set_option maxRecDepth 100000 in
/-- M_copy -/
theorem c_M_copy (l : Launch) (D : va_G) (q : Nat → Nat) (κ : Nat → ClassId) (u : SM) (ra rb : Nat) (hra : ra < 10) (hrb : rb < 10) (sz : Nat) : Met l y_M_copy (.code y_M_copy b_M_copy 4 none :: wG) (wf_rm 0 0 0 0) (wf_Pc D vwCl (wM q κ u) (tyM κ) ([.ref (q 0), .int (nI ra), .int (nI rb)]) sz) (va_Qv (fun v => v = (u.1, va_cpy u.2.1 u.2.1 (128 * ra) (128 * rb) 128, u.2.2)) (wf_B D vwCl (wM q κ) (tyM κ) (va_A (wM q κ u) sz)) (va_A (wM q κ u) sz)) 0 0 (va_A (wM q κ u) sz) := by
  refine wf_open (by decide) (Nat.le_of_ble_eq_true rfl) k_M_copy ?_
  intro p e s m below meth c ls hsz C hr hlocks hnm hex hP hK hD hl
  subst hsz
  have hx := C.1
  have hb := C.2.1
  have hml := C.2.2.1
  have hown := C.2.2.2.1
  have hts := C.2.2.2.2
  have hA : ∀ j : Nat, s.heap.size ≤ j → va_A (wM q κ u) s.heap.size j := fun j h => Or.inr h
  have hS : va_S (va_A (wM q κ u) s.heap.size) s.heap s.heap [] := va_S.rf
  generalize hAe : va_A (wM q κ u) s.heap.size = A at hA hS hD ⊢
  have hl : lv_has ls 4 [(0, .ref (q 0)), (1, .int (nI ra)), (2, .int (nI rb))] := hl
  refine lv_iconst (v := 0) hx hb d_M_copy_0 (by decide) ?_
  refine lv_istore_n (lv' := [(3, .int (0)), (0, .ref (q 0)), (1, .int (nI ra)), (2, .int (nI rb))]) hx hb d_M_copy_1 rfl hl (by decide) rfl (fun ls hl => ?_)
  refine wf_forH (σ := SM) 128 (fun i x => x = (u.1, va_cpy u.2.1 u.2.1 (128 * ra) (128 * rb) i, u.2.2)) (fun x => wM q κ x) (fun i x => [(3, .int (nI i)), (0, .ref (q 0)), (1, .int (nI ra)), (2, .int (nI rb))]) (fun i x H locs ls hi hI hP hD hS hl ih => ?_) (fun x H locs ls hI hP hD hS hl => ?_) u (by rw [wf_cpy0]) hP hD hS (lv_sub hl [0, 1, 2, 3] rfl)
  · have hP : va_P D vwCl (wM q κ x) H := hP
    have hD : va_D A (wM q κ x) := hD
    have hl : lv_has ls 4 [(3, .int (nI i)), (0, .ref (q 0)), (1, .int (nI ra)), (2, .int (nI rb))] := hl
    have hI : x = (u.1, va_cpy u.2.1 u.2.1 (128 * ra) (128 * rb) i, u.2.2) := hI
    refine lv_iload_n hx hb d_M_copy_2 rfl (lv_at hl 0 rfl) ?_
    refine lv_sipush (v := 128) hx hb d_M_copy_3 (by decide) ?_
    refine lv_icmp_ge (tgt := 39) hx hb d_M_copy_6 (by decide) (fun c_1 => False.elim (by first | exact absurd c_1 (nI_ge hi (by decide)) | exact absurd (nI_ge hi (by decide)) c_1)) (fun c_1 => ?_)
    refine lv_aload_n hx hb d_M_copy_9 rfl (lv_at hl 1 rfl) ?_
    refine gM C hK hP 0 rfl 1 (by decide) k_fl_M_bits rfl d_M_copy_10 ?_
    refine lv_sipush (v := 128) hx hb d_M_copy_13 (by decide) ?_
    refine lv_iload_n hx hb d_M_copy_16 rfl (lv_at hl 3 rfl) ?_
    refine lv_imul hx hb d_M_copy_17 ?_
    refine lv_iload_n hx hb d_M_copy_18 rfl (lv_at hl 0 rfl) ?_
    refine lv_iadd hx hb d_M_copy_19 ?_
    refine lv_aload_n hx hb d_M_copy_20 rfl (lv_at hl 1 rfl) ?_
    refine gM C hK hP 0 rfl 1 (by decide) k_fl_M_bits rfl d_M_copy_21 ?_
    refine lv_sipush (v := 128) hx hb d_M_copy_24 (by decide) ?_
    refine lv_iload_n hx hb d_M_copy_27 rfl (lv_at hl 2 rfl) ?_
    refine lv_imul hx hb d_M_copy_28 ?_
    refine lv_iload_n hx hb d_M_copy_29 rfl (lv_at hl 0 rfl) ?_
    refine lv_iadd hx hb d_M_copy_30 ?_
    refine wf_zald C hK hP 1 0 rfl rfl (k := 128 * ra + i) (wf_ia (wf_im rfl rfl) rfl) (by omega) (by decide) d_M_copy_31 ?_
    refine wf_zast C hK hP hD hS 1 0 rfl rfl (k := 128 * rb + i) (b := ((x.2.1 (128 * ra + i)))) (wf_ia (wf_im rfl rfl) rfl) (by omega) (by decide) d_M_copy_32 (fun H locs hP hD hS => ?_)
    have hP : va_P D vwCl (wM q κ (x.1, va_up x.2.1 (128 * rb + i) ((x.2.1 (128 * ra + i))), x.2.2)) H := hP
    have hD : va_D A (wM q κ (x.1, va_up x.2.1 (128 * rb + i) ((x.2.1 (128 * ra + i))), x.2.2)) := hD
    generalize eu_2 : ((x.1, va_up x.2.1 (128 * rb + i) ((x.2.1 (128 * ra + i))), x.2.2) : SM) = u_2 at hP hD
    refine lv_iinc (v := nI (i + 1)) (lv' := [(3, .int (nI (i + 1))), (0, .ref (q 0)), (1, .int (nI ra)), (2, .int (nI rb))]) hx hb d_M_copy_33 hl (k := 0) rfl (nI_1 _) (by decide) rfl (fun ls hl => ?_)
    refine lv_goto (tgt := 2) hx hb d_M_copy_36 (by decide) ?_
    exact ih u_2 H locs ls (eu_2.symm.trans (wf_copy_S hi hI)) hP hD hS (lv_sub hl [0, 1, 2, 3] rfl)
  · have hP : va_P D vwCl (wM q κ x) H := hP
    have hD : va_D A (wM q κ x) := hD
    have hl : lv_has ls 4 [(3, .int (nI 128)), (0, .ref (q 0)), (1, .int (nI ra)), (2, .int (nI rb))] := hl
    have hI : x = (u.1, va_cpy u.2.1 u.2.1 (128 * ra) (128 * rb) 128, u.2.2) := hI
    refine lv_iload_n hx hb d_M_copy_2 rfl (lv_at hl 0 rfl) ?_
    refine lv_sipush (v := 128) hx hb d_M_copy_3 (by decide) ?_
    refine lv_icmp_ge (tgt := 39) hx hb d_M_copy_6 (by decide) (fun c_3 => ?_) (fun c_3 => False.elim (by first | exact absurd (nI_le (Nat.le_refl 128) (by decide)) c_3 | exact absurd c_3 (nI_le (Nat.le_refl 128) (by decide))))
    exact wf_retv C hr hlocks x (hI) hP hK hD hS (fun _ h => h) d_M_copy_39

set_option maxHeartbeats 4000000 in
set_option maxRecDepth 100000 in
theorem kM_copy {p : Program} {l : Launch} {e : Env} {R : Room} {s : State} {m : MethodId} {args : Array Value} {below : List Frame} {meth : Method} {c : Code} {H : Heap} {locs : List Loc} {cells slots : Nat} {Q : State → Prop} {cc : ByteArray} {pc nL : Nat} {ls : Array Slot} {rest : List Value} {D : va_G} {q : Nat → Nat} {κ : Nat → ClassId} {A : Nat → Prop} {u : SM} {ra rb : Nat} (hra : ra < 10) (hrb : rb < 10) (C : CallFix p m c cc nL s args wG RM) (hsz : ls.size = nL) (hR : 1 ≤ R.frames ∧ 23 ≤ R.locals) (hw : (rest.map fun v => v.category).sum ≤ 8) (hc : cells + 0 ≤ R.cells ∧ slots + 0 ≤ R.slots) (hP : va_P D vwCl (wM q κ u) H) (hK : va_K D vwCl (tyM κ) s) (hD : va_D A (wM q κ u)) (hS : va_S A s.heap H locs) (hA : ∀ q, s.heap.size ≤ q → A q) (hdg : decode cc pc = .ok (.invokevirtual 36, 3)) (kk : ∀ (v : SM) (H1 : Heap) (locs1 : List Loc), v = (u.1, va_cpy u.2.1 u.2.1 (128 * ra) (128 * rb) 128, u.2.2) → va_P D vwCl (wM q κ v) H1 → va_D A (wM q κ v) → va_S A s.heap H1 locs1 → W p l e R s m args below meth c H1 locs1 (cells) (slots) Q (F0 m (pc + 3) ls (rest))) : W p l e R s m args below meth c H locs cells slots Q (F0 m pc ls (.int (nI rb) :: .int (nI ra) :: .ref (q 0) :: rest)) := by
  exact wf_cv (va_runV (As := [.int (nI ra), .int (nI rb)]) (rest := rest) C (c_M_copy l D q κ u ra rb hra hrb H.size) (cwV 2 C.2.2.2.2 (wG_V (fun _ h => h) k_ml_M_36 k_im_M_copy k_se_M_copy k_in_M k_M_copy) rfl rfl rfl (by decide +kernel) ⟨hR.1, hR.2⟩) ⟨wf_blind, va_recv hK hP (ci := 1) (q0 := 0) rfl rfl, wf_pre hP hK hD⟩ rfl rfl hsz rfl (lv_room hw) hdg ⟨hc.1, hc.2⟩) (fun _ h => h) hS hD hA kk

set_option maxHeartbeats 4000000 in
set_option maxRecDepth 100000 in
/-- M_take -/
theorem c_M_takeProduct (l : Launch) (D : va_G) (q : Nat → Nat) (κ : Nat → ClassId) (u : SM) (b rt : Nat) (hb : b + 128 ≤ 256) (hrt : rt < 8) (sz : Nat) : Met l y_M_take (.code y_M_take b_M_take 5 none :: wG) (wf_rm 0 0 0 0) (wf_Pc D vwCl (wM q κ u) (tyM κ) ([.ref (q 0), .ref (q 2), .int (nI b), .int (nI rt)]) sz) (va_Qv (fun v => v = (u.1, va_cpy u.2.2.1 u.2.1 b (128 * rt) 128, u.2.2)) (wf_B D vwCl (wM q κ) (tyM κ) (va_A (wM q κ u) sz)) (va_A (wM q κ u) sz)) 0 0 (va_A (wM q κ u) sz) := by
  refine wf_open (by decide) (Nat.le_of_ble_eq_true rfl) k_M_take ?_
  intro p e s m below meth c ls hsz C hr hlocks hnm hex hP hK hD hl
  subst hsz
  have hx := C.1
  have hbb := hb
  have hb := C.2.1
  have hml := C.2.2.1
  have hown := C.2.2.2.1
  have hts := C.2.2.2.2
  have hA : ∀ j : Nat, s.heap.size ≤ j → va_A (wM q κ u) s.heap.size j := fun j h => Or.inr h
  have hS : va_S (va_A (wM q κ u) s.heap.size) s.heap s.heap [] := va_S.rf
  generalize hAe : va_A (wM q κ u) s.heap.size = A at hA hS hD ⊢
  have hl : lv_has ls 5 [(0, .ref (q 0)), (1, .ref (q 2)), (2, .int (nI b)), (3, .int (nI rt))] := hl
  refine lv_iconst (v := 0) hx hb d_M_take_0 (by decide) ?_
  refine lv_istore (lv' := [(4, .int (0)), (0, .ref (q 0)), (1, .ref (q 2)), (2, .int (nI b)), (3, .int (nI rt))]) hx hb d_M_take_1 hl (by decide) rfl (fun ls hl => ?_)
  refine wf_forH (σ := SM) 128 (fun i x => x = (u.1, va_cpy u.2.2.1 u.2.1 b (128 * rt) i, u.2.2)) (fun x => wM q κ x) (fun i x => [(4, .int (nI i)), (0, .ref (q 0)), (1, .ref (q 2)), (2, .int (nI b)), (3, .int (nI rt))]) (fun i x H locs ls hi hI hP hD hS hl ih => ?_) (fun x H locs ls hI hP hD hS hl => ?_) u (by rw [wf_cpy0]) hP hD hS (lv_sub hl [0, 1, 2, 3, 4] rfl)
  · have hP : va_P D vwCl (wM q κ x) H := hP
    have hD : va_D A (wM q κ x) := hD
    have hl : lv_has ls 5 [(4, .int (nI i)), (0, .ref (q 0)), (1, .ref (q 2)), (2, .int (nI b)), (3, .int (nI rt))] := hl
    have hI : x = (u.1, va_cpy u.2.2.1 u.2.1 b (128 * rt) i, u.2.2) := hI
    refine lv_iload hx hb d_M_take_3 (lv_at hl 0 rfl) ?_
    refine lv_sipush (v := 128) hx hb d_M_take_5 (by decide) ?_
    refine lv_icmp_ge (tgt := 36) hx hb d_M_take_8 (by decide) (fun c_1 => False.elim (by first | exact absurd c_1 (nI_ge hi (by decide)) | exact absurd (nI_ge hi (by decide)) c_1)) (fun c_1 => ?_)
    refine lv_aload_n hx hb d_M_take_11 rfl (lv_at hl 1 rfl) ?_
    refine gM C hK hP 0 rfl 1 (by decide) k_fl_M_bits rfl d_M_take_12 ?_
    refine lv_sipush (v := 128) hx hb d_M_take_15 (by decide) ?_
    refine lv_iload_n hx hb d_M_take_18 rfl (lv_at hl 4 rfl) ?_
    refine lv_imul hx hb d_M_take_19 ?_
    refine lv_iload hx hb d_M_take_20 (lv_at hl 0 rfl) ?_
    refine lv_iadd hx hb d_M_take_22 ?_
    refine lv_aload_n hx hb d_M_take_23 rfl (lv_at hl 2 rfl) ?_
    refine lv_iload_n hx hb d_M_take_24 rfl (lv_at hl 3 rfl) ?_
    refine lv_iload hx hb d_M_take_25 (lv_at hl 0 rfl) ?_
    refine lv_iadd hx hb d_M_take_27 ?_
    refine wf_zald C hK hP 2 1 rfl rfl (k := b + i) (wf_ia rfl rfl) (by omega) (by decide) d_M_take_28 ?_
    refine wf_zast C hK hP hD hS 1 0 rfl rfl (k := 128 * rt + i) (b := ((x.2.2.1 (b + i)))) (wf_ia (wf_im rfl rfl) rfl) (by omega) (by decide) d_M_take_29 (fun H locs hP hD hS => ?_)
    have hP : va_P D vwCl (wM q κ (x.1, va_up x.2.1 (128 * rt + i) ((x.2.2.1 (b + i))), x.2.2)) H := hP
    have hD : va_D A (wM q κ (x.1, va_up x.2.1 (128 * rt + i) ((x.2.2.1 (b + i))), x.2.2)) := hD
    generalize eu_2 : ((x.1, va_up x.2.1 (128 * rt + i) ((x.2.2.1 (b + i))), x.2.2) : SM) = u_2 at hP hD
    refine lv_iinc (v := nI (i + 1)) (lv' := [(4, .int (nI (i + 1))), (0, .ref (q 0)), (1, .ref (q 2)), (2, .int (nI b)), (3, .int (nI rt))]) hx hb d_M_take_30 hl (k := 0) rfl (nI_1 _) (by decide) rfl (fun ls hl => ?_)
    refine lv_goto (tgt := 3) hx hb d_M_take_33 (by decide) ?_
    exact ih u_2 H locs ls (by rw [← eu_2, hI]; exact congrArg (fun z => (u.1, z, u.2.2)) (wf_cpyS _ _ _ _ _)) hP hD hS (lv_sub hl [0, 1, 2, 3, 4] rfl)
  · have hP : va_P D vwCl (wM q κ x) H := hP
    have hD : va_D A (wM q κ x) := hD
    have hl : lv_has ls 5 [(4, .int (nI 128)), (0, .ref (q 0)), (1, .ref (q 2)), (2, .int (nI b)), (3, .int (nI rt))] := hl
    have hI : x = (u.1, va_cpy u.2.2.1 u.2.1 b (128 * rt) 128, u.2.2) := hI
    refine lv_iload hx hb d_M_take_3 (lv_at hl 0 rfl) ?_
    refine lv_sipush (v := 128) hx hb d_M_take_5 (by decide) ?_
    refine lv_icmp_ge (tgt := 36) hx hb d_M_take_8 (by decide) (fun c_3 => ?_) (fun c_3 => False.elim (by first | exact absurd (nI_le (Nat.le_refl 128) (by decide)) c_3 | exact absurd c_3 (nI_le (Nat.le_refl 128) (by decide))))
    exact wf_retv C hr hlocks x (hI) hP hK hD hS (fun _ h => h) d_M_take_36

set_option maxHeartbeats 4000000 in
set_option maxRecDepth 100000 in
theorem kM_takeProduct {p : Program} {l : Launch} {e : Env} {R : Room} {s : State} {m : MethodId} {args : Array Value} {below : List Frame} {meth : Method} {c : Code} {H : Heap} {locs : List Loc} {cells slots : Nat} {Q : State → Prop} {cc : ByteArray} {pc nL : Nat} {ls : Array Slot} {rest : List Value} {D : va_G} {q : Nat → Nat} {κ : Nat → ClassId} {A : Nat → Prop} {u : SM} {b rt : Nat} (hb : b + 128 ≤ 256) (hrt : rt < 8) (C : CallFix p m c cc nL s args wG RM) (hsz : ls.size = nL) (hR : 1 ≤ R.frames ∧ 24 ≤ R.locals) (hw : (rest.map fun v => v.category).sum ≤ 8) (hc : cells + 0 ≤ R.cells ∧ slots + 0 ≤ R.slots) (hP : va_P D vwCl (wM q κ u) H) (hK : va_K D vwCl (tyM κ) s) (hD : va_D A (wM q κ u)) (hS : va_S A s.heap H locs) (hA : ∀ q, s.heap.size ≤ q → A q) (hdg : decode cc pc = .ok (.invokevirtual 47, 3)) (kk : ∀ (v : SM) (H1 : Heap) (locs1 : List Loc), v = (u.1, va_cpy u.2.2.1 u.2.1 b (128 * rt) 128, u.2.2) → va_P D vwCl (wM q κ v) H1 → va_D A (wM q κ v) → va_S A s.heap H1 locs1 → W p l e R s m args below meth c H1 locs1 (cells) (slots) Q (F0 m (pc + 3) ls (rest))) : W p l e R s m args below meth c H locs cells slots Q (F0 m pc ls (.int (nI rt) :: .int (nI b) :: .ref (q 2) :: .ref (q 0) :: rest)) := by
  exact wf_cv (va_runV (As := [.ref (q 2), .int (nI b), .int (nI rt)]) (rest := rest) C (c_M_takeProduct l D q κ u b rt hb hrt H.size) (cwV 3 C.2.2.2.2 (wG_V (fun _ h => h) k_ml_M_47 k_im_M_take k_se_M_take k_in_M k_M_take) rfl rfl rfl (by decide +kernel) ⟨hR.1, hR.2⟩) ⟨wf_blind, va_recv hK hP (ci := 1) (q0 := 0) rfl rfl, wf_pre hP hK hD⟩ rfl rfl hsz rfl (lv_room hw) hdg ⟨hc.1, hc.2⟩) (fun _ h => h) hS hD hA kk

set_option maxHeartbeats 4000000 in
set_option maxRecDepth 100000 in
/-- M_take -/
theorem c_M_takeAnswer (l : Launch) (D : va_G) (q : Nat → Nat) (κ : Nat → ClassId) (u : SM) (b rt : Nat) (hb : b + 128 ≤ 128) (hrt : rt < 8) (sz : Nat) : Met l y_M_take (.code y_M_take b_M_take 5 none :: wG) (wf_rm 0 0 0 0) (wf_Pc D vwCl (wM q κ u) (tyM κ) ([.ref (q 0), .ref (q 3), .int (nI b), .int (nI rt)]) sz) (va_Qv (fun v => v = (u.1, va_cpy u.2.2.2.1 u.2.1 b (128 * rt) 128, u.2.2)) (wf_B D vwCl (wM q κ) (tyM κ) (va_A (wM q κ u) sz)) (va_A (wM q κ u) sz)) 0 0 (va_A (wM q κ u) sz) := by
  refine wf_open (by decide) (Nat.le_of_ble_eq_true rfl) k_M_take ?_
  intro p e s m below meth c ls hsz C hr hlocks hnm hex hP hK hD hl
  subst hsz
  have hx := C.1
  have hbb := hb
  have hb := C.2.1
  have hml := C.2.2.1
  have hown := C.2.2.2.1
  have hts := C.2.2.2.2
  have hA : ∀ j : Nat, s.heap.size ≤ j → va_A (wM q κ u) s.heap.size j := fun j h => Or.inr h
  have hS : va_S (va_A (wM q κ u) s.heap.size) s.heap s.heap [] := va_S.rf
  generalize hAe : va_A (wM q κ u) s.heap.size = A at hA hS hD ⊢
  have hl : lv_has ls 5 [(0, .ref (q 0)), (1, .ref (q 3)), (2, .int (nI b)), (3, .int (nI rt))] := hl
  refine lv_iconst (v := 0) hx hb d_M_take_0 (by decide) ?_
  refine lv_istore (lv' := [(4, .int (0)), (0, .ref (q 0)), (1, .ref (q 3)), (2, .int (nI b)), (3, .int (nI rt))]) hx hb d_M_take_1 hl (by decide) rfl (fun ls hl => ?_)
  refine wf_forH (σ := SM) 128 (fun i x => x = (u.1, va_cpy u.2.2.2.1 u.2.1 b (128 * rt) i, u.2.2)) (fun x => wM q κ x) (fun i x => [(4, .int (nI i)), (0, .ref (q 0)), (1, .ref (q 3)), (2, .int (nI b)), (3, .int (nI rt))]) (fun i x H locs ls hi hI hP hD hS hl ih => ?_) (fun x H locs ls hI hP hD hS hl => ?_) u (by rw [wf_cpy0]) hP hD hS (lv_sub hl [0, 1, 2, 3, 4] rfl)
  · have hP : va_P D vwCl (wM q κ x) H := hP
    have hD : va_D A (wM q κ x) := hD
    have hl : lv_has ls 5 [(4, .int (nI i)), (0, .ref (q 0)), (1, .ref (q 3)), (2, .int (nI b)), (3, .int (nI rt))] := hl
    have hI : x = (u.1, va_cpy u.2.2.2.1 u.2.1 b (128 * rt) i, u.2.2) := hI
    refine lv_iload hx hb d_M_take_3 (lv_at hl 0 rfl) ?_
    refine lv_sipush (v := 128) hx hb d_M_take_5 (by decide) ?_
    refine lv_icmp_ge (tgt := 36) hx hb d_M_take_8 (by decide) (fun c_1 => False.elim (by first | exact absurd c_1 (nI_ge hi (by decide)) | exact absurd (nI_ge hi (by decide)) c_1)) (fun c_1 => ?_)
    refine lv_aload_n hx hb d_M_take_11 rfl (lv_at hl 1 rfl) ?_
    refine gM C hK hP 0 rfl 1 (by decide) k_fl_M_bits rfl d_M_take_12 ?_
    refine lv_sipush (v := 128) hx hb d_M_take_15 (by decide) ?_
    refine lv_iload_n hx hb d_M_take_18 rfl (lv_at hl 4 rfl) ?_
    refine lv_imul hx hb d_M_take_19 ?_
    refine lv_iload hx hb d_M_take_20 (lv_at hl 0 rfl) ?_
    refine lv_iadd hx hb d_M_take_22 ?_
    refine lv_aload_n hx hb d_M_take_23 rfl (lv_at hl 2 rfl) ?_
    refine lv_iload_n hx hb d_M_take_24 rfl (lv_at hl 3 rfl) ?_
    refine lv_iload hx hb d_M_take_25 (lv_at hl 0 rfl) ?_
    refine lv_iadd hx hb d_M_take_27 ?_
    refine wf_zald C hK hP 3 2 rfl rfl (k := b + i) (wf_ia rfl rfl) (by omega) (by decide) d_M_take_28 ?_
    refine wf_zast C hK hP hD hS 1 0 rfl rfl (k := 128 * rt + i) (b := ((x.2.2.2.1 (b + i)))) (wf_ia (wf_im rfl rfl) rfl) (by omega) (by decide) d_M_take_29 (fun H locs hP hD hS => ?_)
    have hP : va_P D vwCl (wM q κ (x.1, va_up x.2.1 (128 * rt + i) ((x.2.2.2.1 (b + i))), x.2.2)) H := hP
    have hD : va_D A (wM q κ (x.1, va_up x.2.1 (128 * rt + i) ((x.2.2.2.1 (b + i))), x.2.2)) := hD
    generalize eu_2 : ((x.1, va_up x.2.1 (128 * rt + i) ((x.2.2.2.1 (b + i))), x.2.2) : SM) = u_2 at hP hD
    refine lv_iinc (v := nI (i + 1)) (lv' := [(4, .int (nI (i + 1))), (0, .ref (q 0)), (1, .ref (q 3)), (2, .int (nI b)), (3, .int (nI rt))]) hx hb d_M_take_30 hl (k := 0) rfl (nI_1 _) (by decide) rfl (fun ls hl => ?_)
    refine lv_goto (tgt := 3) hx hb d_M_take_33 (by decide) ?_
    exact ih u_2 H locs ls (by rw [← eu_2, hI]; exact congrArg (fun z => (u.1, z, u.2.2)) (wf_cpyS _ _ _ _ _)) hP hD hS (lv_sub hl [0, 1, 2, 3, 4] rfl)
  · have hP : va_P D vwCl (wM q κ x) H := hP
    have hD : va_D A (wM q κ x) := hD
    have hl : lv_has ls 5 [(4, .int (nI 128)), (0, .ref (q 0)), (1, .ref (q 3)), (2, .int (nI b)), (3, .int (nI rt))] := hl
    have hI : x = (u.1, va_cpy u.2.2.2.1 u.2.1 b (128 * rt) 128, u.2.2) := hI
    refine lv_iload hx hb d_M_take_3 (lv_at hl 0 rfl) ?_
    refine lv_sipush (v := 128) hx hb d_M_take_5 (by decide) ?_
    refine lv_icmp_ge (tgt := 36) hx hb d_M_take_8 (by decide) (fun c_3 => ?_) (fun c_3 => False.elim (by first | exact absurd (nI_le (Nat.le_refl 128) (by decide)) c_3 | exact absurd c_3 (nI_le (Nat.le_refl 128) (by decide))))
    exact wf_retv C hr hlocks x (hI) hP hK hD hS (fun _ h => h) d_M_take_36

set_option maxHeartbeats 4000000 in
set_option maxRecDepth 100000 in
theorem kM_takeAnswer {p : Program} {l : Launch} {e : Env} {R : Room} {s : State} {m : MethodId} {args : Array Value} {below : List Frame} {meth : Method} {c : Code} {H : Heap} {locs : List Loc} {cells slots : Nat} {Q : State → Prop} {cc : ByteArray} {pc nL : Nat} {ls : Array Slot} {rest : List Value} {D : va_G} {q : Nat → Nat} {κ : Nat → ClassId} {A : Nat → Prop} {u : SM} {b rt : Nat} (hb : b + 128 ≤ 128) (hrt : rt < 8) (C : CallFix p m c cc nL s args wG RM) (hsz : ls.size = nL) (hR : 1 ≤ R.frames ∧ 24 ≤ R.locals) (hw : (rest.map fun v => v.category).sum ≤ 8) (hc : cells + 0 ≤ R.cells ∧ slots + 0 ≤ R.slots) (hP : va_P D vwCl (wM q κ u) H) (hK : va_K D vwCl (tyM κ) s) (hD : va_D A (wM q κ u)) (hS : va_S A s.heap H locs) (hA : ∀ q, s.heap.size ≤ q → A q) (hdg : decode cc pc = .ok (.invokevirtual 47, 3)) (kk : ∀ (v : SM) (H1 : Heap) (locs1 : List Loc), v = (u.1, va_cpy u.2.2.2.1 u.2.1 b (128 * rt) 128, u.2.2) → va_P D vwCl (wM q κ v) H1 → va_D A (wM q κ v) → va_S A s.heap H1 locs1 → W p l e R s m args below meth c H1 locs1 (cells) (slots) Q (F0 m (pc + 3) ls (rest))) : W p l e R s m args below meth c H locs cells slots Q (F0 m pc ls (.int (nI rt) :: .int (nI b) :: .ref (q 3) :: .ref (q 0) :: rest)) := by
  exact wf_cv (va_runV (As := [.ref (q 3), .int (nI b), .int (nI rt)]) (rest := rest) C (c_M_takeAnswer l D q κ u b rt hb hrt H.size) (cwV 3 C.2.2.2.2 (wG_V (fun _ h => h) k_ml_M_47 k_im_M_take k_se_M_take k_in_M k_M_take) rfl rfl rfl (by decide +kernel) ⟨hR.1, hR.2⟩) ⟨wf_blind, va_recv hK hP (ci := 1) (q0 := 0) rfl rfl, wf_pre hP hK hD⟩ rfl rfl hsz rfl (lv_room hw) hdg ⟨hc.1, hc.2⟩) (fun _ h => h) hS hD hA kk

set_option maxHeartbeats 4000000 in
set_option maxRecDepth 100000 in
/-- M_take -/
theorem c_M_takeRest (l : Launch) (D : va_G) (q : Nat → Nat) (κ : Nat → ClassId) (u : SM) (b rt : Nat) (hb : b + 128 ≤ 130) (hrt : rt < 8) (sz : Nat) : Met l y_M_take (.code y_M_take b_M_take 5 none :: wG) (wf_rm 0 0 0 0) (wf_Pc D vwCl (wM q κ u) (tyM κ) ([.ref (q 0), .ref (q 4), .int (nI b), .int (nI rt)]) sz) (va_Qv (fun v => v = (u.1, va_cpy u.2.2.2.2.1 u.2.1 b (128 * rt) 128, u.2.2)) (wf_B D vwCl (wM q κ) (tyM κ) (va_A (wM q κ u) sz)) (va_A (wM q κ u) sz)) 0 0 (va_A (wM q κ u) sz) := by
  refine wf_open (by decide) (Nat.le_of_ble_eq_true rfl) k_M_take ?_
  intro p e s m below meth c ls hsz C hr hlocks hnm hex hP hK hD hl
  subst hsz
  have hx := C.1
  have hbb := hb
  have hb := C.2.1
  have hml := C.2.2.1
  have hown := C.2.2.2.1
  have hts := C.2.2.2.2
  have hA : ∀ j : Nat, s.heap.size ≤ j → va_A (wM q κ u) s.heap.size j := fun j h => Or.inr h
  have hS : va_S (va_A (wM q κ u) s.heap.size) s.heap s.heap [] := va_S.rf
  generalize hAe : va_A (wM q κ u) s.heap.size = A at hA hS hD ⊢
  have hl : lv_has ls 5 [(0, .ref (q 0)), (1, .ref (q 4)), (2, .int (nI b)), (3, .int (nI rt))] := hl
  refine lv_iconst (v := 0) hx hb d_M_take_0 (by decide) ?_
  refine lv_istore (lv' := [(4, .int (0)), (0, .ref (q 0)), (1, .ref (q 4)), (2, .int (nI b)), (3, .int (nI rt))]) hx hb d_M_take_1 hl (by decide) rfl (fun ls hl => ?_)
  refine wf_forH (σ := SM) 128 (fun i x => x = (u.1, va_cpy u.2.2.2.2.1 u.2.1 b (128 * rt) i, u.2.2)) (fun x => wM q κ x) (fun i x => [(4, .int (nI i)), (0, .ref (q 0)), (1, .ref (q 4)), (2, .int (nI b)), (3, .int (nI rt))]) (fun i x H locs ls hi hI hP hD hS hl ih => ?_) (fun x H locs ls hI hP hD hS hl => ?_) u (by rw [wf_cpy0]) hP hD hS (lv_sub hl [0, 1, 2, 3, 4] rfl)
  · have hP : va_P D vwCl (wM q κ x) H := hP
    have hD : va_D A (wM q κ x) := hD
    have hl : lv_has ls 5 [(4, .int (nI i)), (0, .ref (q 0)), (1, .ref (q 4)), (2, .int (nI b)), (3, .int (nI rt))] := hl
    have hI : x = (u.1, va_cpy u.2.2.2.2.1 u.2.1 b (128 * rt) i, u.2.2) := hI
    refine lv_iload hx hb d_M_take_3 (lv_at hl 0 rfl) ?_
    refine lv_sipush (v := 128) hx hb d_M_take_5 (by decide) ?_
    refine lv_icmp_ge (tgt := 36) hx hb d_M_take_8 (by decide) (fun c_1 => False.elim (by first | exact absurd c_1 (nI_ge hi (by decide)) | exact absurd (nI_ge hi (by decide)) c_1)) (fun c_1 => ?_)
    refine lv_aload_n hx hb d_M_take_11 rfl (lv_at hl 1 rfl) ?_
    refine gM C hK hP 0 rfl 1 (by decide) k_fl_M_bits rfl d_M_take_12 ?_
    refine lv_sipush (v := 128) hx hb d_M_take_15 (by decide) ?_
    refine lv_iload_n hx hb d_M_take_18 rfl (lv_at hl 4 rfl) ?_
    refine lv_imul hx hb d_M_take_19 ?_
    refine lv_iload hx hb d_M_take_20 (lv_at hl 0 rfl) ?_
    refine lv_iadd hx hb d_M_take_22 ?_
    refine lv_aload_n hx hb d_M_take_23 rfl (lv_at hl 2 rfl) ?_
    refine lv_iload_n hx hb d_M_take_24 rfl (lv_at hl 3 rfl) ?_
    refine lv_iload hx hb d_M_take_25 (lv_at hl 0 rfl) ?_
    refine lv_iadd hx hb d_M_take_27 ?_
    refine wf_zald C hK hP 4 3 rfl rfl (k := b + i) (wf_ia rfl rfl) (by omega) (by decide) d_M_take_28 ?_
    refine wf_zast C hK hP hD hS 1 0 rfl rfl (k := 128 * rt + i) (b := ((x.2.2.2.2.1 (b + i)))) (wf_ia (wf_im rfl rfl) rfl) (by omega) (by decide) d_M_take_29 (fun H locs hP hD hS => ?_)
    have hP : va_P D vwCl (wM q κ (x.1, va_up x.2.1 (128 * rt + i) ((x.2.2.2.2.1 (b + i))), x.2.2)) H := hP
    have hD : va_D A (wM q κ (x.1, va_up x.2.1 (128 * rt + i) ((x.2.2.2.2.1 (b + i))), x.2.2)) := hD
    generalize eu_2 : ((x.1, va_up x.2.1 (128 * rt + i) ((x.2.2.2.2.1 (b + i))), x.2.2) : SM) = u_2 at hP hD
    refine lv_iinc (v := nI (i + 1)) (lv' := [(4, .int (nI (i + 1))), (0, .ref (q 0)), (1, .ref (q 4)), (2, .int (nI b)), (3, .int (nI rt))]) hx hb d_M_take_30 hl (k := 0) rfl (nI_1 _) (by decide) rfl (fun ls hl => ?_)
    refine lv_goto (tgt := 3) hx hb d_M_take_33 (by decide) ?_
    exact ih u_2 H locs ls (by rw [← eu_2, hI]; exact congrArg (fun z => (u.1, z, u.2.2)) (wf_cpyS _ _ _ _ _)) hP hD hS (lv_sub hl [0, 1, 2, 3, 4] rfl)
  · have hP : va_P D vwCl (wM q κ x) H := hP
    have hD : va_D A (wM q κ x) := hD
    have hl : lv_has ls 5 [(4, .int (nI 128)), (0, .ref (q 0)), (1, .ref (q 4)), (2, .int (nI b)), (3, .int (nI rt))] := hl
    have hI : x = (u.1, va_cpy u.2.2.2.2.1 u.2.1 b (128 * rt) 128, u.2.2) := hI
    refine lv_iload hx hb d_M_take_3 (lv_at hl 0 rfl) ?_
    refine lv_sipush (v := 128) hx hb d_M_take_5 (by decide) ?_
    refine lv_icmp_ge (tgt := 36) hx hb d_M_take_8 (by decide) (fun c_3 => ?_) (fun c_3 => False.elim (by first | exact absurd (nI_le (Nat.le_refl 128) (by decide)) c_3 | exact absurd c_3 (nI_le (Nat.le_refl 128) (by decide))))
    exact wf_retv C hr hlocks x (hI) hP hK hD hS (fun _ h => h) d_M_take_36

set_option maxHeartbeats 4000000 in
set_option maxRecDepth 100000 in
theorem kM_takeRest {p : Program} {l : Launch} {e : Env} {R : Room} {s : State} {m : MethodId} {args : Array Value} {below : List Frame} {meth : Method} {c : Code} {H : Heap} {locs : List Loc} {cells slots : Nat} {Q : State → Prop} {cc : ByteArray} {pc nL : Nat} {ls : Array Slot} {rest : List Value} {D : va_G} {q : Nat → Nat} {κ : Nat → ClassId} {A : Nat → Prop} {u : SM} {b rt : Nat} (hb : b + 128 ≤ 130) (hrt : rt < 8) (C : CallFix p m c cc nL s args wG RM) (hsz : ls.size = nL) (hR : 1 ≤ R.frames ∧ 24 ≤ R.locals) (hw : (rest.map fun v => v.category).sum ≤ 8) (hc : cells + 0 ≤ R.cells ∧ slots + 0 ≤ R.slots) (hP : va_P D vwCl (wM q κ u) H) (hK : va_K D vwCl (tyM κ) s) (hD : va_D A (wM q κ u)) (hS : va_S A s.heap H locs) (hA : ∀ q, s.heap.size ≤ q → A q) (hdg : decode cc pc = .ok (.invokevirtual 47, 3)) (kk : ∀ (v : SM) (H1 : Heap) (locs1 : List Loc), v = (u.1, va_cpy u.2.2.2.2.1 u.2.1 b (128 * rt) 128, u.2.2) → va_P D vwCl (wM q κ v) H1 → va_D A (wM q κ v) → va_S A s.heap H1 locs1 → W p l e R s m args below meth c H1 locs1 (cells) (slots) Q (F0 m (pc + 3) ls (rest))) : W p l e R s m args below meth c H locs cells slots Q (F0 m pc ls (.int (nI rt) :: .int (nI b) :: .ref (q 4) :: .ref (q 0) :: rest)) := by
  exact wf_cv (va_runV (As := [.ref (q 4), .int (nI b), .int (nI rt)]) (rest := rest) C (c_M_takeRest l D q κ u b rt hb hrt H.size) (cwV 3 C.2.2.2.2 (wG_V (fun _ h => h) k_ml_M_47 k_im_M_take k_se_M_take k_in_M k_M_take) rfl rfl rfl (by decide +kernel) ⟨hR.1, hR.2⟩) ⟨wf_blind, va_recv hK hP (ci := 1) (q0 := 0) rfl rfl, wf_pre hP hK hD⟩ rfl rfl hsz rfl (lv_room hw) hdg ⟨hc.1, hc.2⟩) (fun _ h => h) hS hD hA kk
end
section
/-! ===== the reference: clearRest, bring, lower, takeAway, join ===== -/

theorem wf_bi_inj {a b : Bool} (h : wf_bi a = wf_bi b) : a = b := by revert h; cases a <;> cases b <;> decide

theorem wf_cpyZ (g : Nat → Bool) (n : Nat) : va_up (va_cpy (fun _ => false) g 0 0 n) n false = va_cpy (fun _ => false) g 0 0 (n + 1) := by
  have h := wf_cpyS (fun _ => false) g 0 0 n
  rw [Nat.zero_add] at h
  exact h

set_option maxHeartbeats 4000000 in
set_option maxRecDepth 100000 in
/-- M_clearRest -/
theorem c_M_clearRest (l : Launch) (D : va_G) (q : Nat → Nat) (κ : Nat → ClassId) (u : SM)  (sz : Nat) : Met l y_M_clearRest (.code y_M_clearRest b_M_clearRest 2 none :: wG) (wf_rm 0 0 0 0) (wf_Pc D vwCl (wM q κ u) (tyM κ) ([.ref (q 0)]) sz) (va_Qv (fun v => v = (u.1, u.2.1, u.2.2.1, va_cpy (fun _ => false) u.2.2.2.1 0 0 128, va_cpy (fun _ => false) u.2.2.2.2.1 0 0 130, u.2.2.2.2.2)) (wf_B D vwCl (wM q κ) (tyM κ) (va_A (wM q κ u) sz)) (va_A (wM q κ u) sz)) 0 0 (va_A (wM q κ u) sz) := by
  refine wf_open (by decide) (Nat.le_of_ble_eq_true rfl) k_M_clearRest ?_
  intro p e s m below meth c ls hsz C hr hlocks hnm hex hP hK hD hl
  subst hsz
  have hx := C.1
  have hb := C.2.1
  have hml := C.2.2.1
  have hown := C.2.2.2.1
  have hts := C.2.2.2.2
  have hA : ∀ j : Nat, s.heap.size ≤ j → va_A (wM q κ u) s.heap.size j := fun j h => Or.inr h
  have hS : va_S (va_A (wM q κ u) s.heap.size) s.heap s.heap [] := va_S.rf
  generalize hAe : va_A (wM q κ u) s.heap.size = A at hA hS hD ⊢
  have hl : lv_has ls 2 [(0, .ref (q 0))] := hl
  refine lv_iconst (v := 0) hx hb d_M_clearRest_0 (by decide) ?_
  refine lv_istore_n (lv' := [(1, .int (0)), (0, .ref (q 0))]) hx hb d_M_clearRest_1 rfl hl (by decide) rfl (fun ls hl => ?_)
  refine wf_forH (σ := SM) 130 (fun i x => x = (u.1, u.2.1, u.2.2.1, u.2.2.2.1, va_cpy (fun _ => false) u.2.2.2.2.1 0 0 i, u.2.2.2.2.2)) (fun x => wM q κ x) (fun i x => [(1, .int (nI i)), (0, .ref (q 0))]) (fun i x H locs ls hi hI hP hD hS hl ih => ?_) (fun x H locs ls hI hP hD hS hl => ?_) u (by rw [wf_cpy0]) hP hD hS (lv_sub hl [0, 1] rfl)
  · have hP : va_P D vwCl (wM q κ x) H := hP
    have hD : va_D A (wM q κ x) := hD
    have hl : lv_has ls 2 [(1, .int (nI i)), (0, .ref (q 0))] := hl
    have hI : x = (u.1, u.2.1, u.2.2.1, u.2.2.2.1, va_cpy (fun _ => false) u.2.2.2.2.1 0 0 i, u.2.2.2.2.2) := hI
    refine lv_iload_n hx hb d_M_clearRest_2 rfl (lv_at hl 0 rfl) ?_
    refine lv_sipush (v := 130) hx hb d_M_clearRest_3 (by decide) ?_
    refine lv_icmp_ge (tgt := 22) hx hb d_M_clearRest_6 (by decide) (fun c_1 => False.elim (by first | exact absurd c_1 (nI_ge hi (by decide)) | exact absurd (nI_ge hi (by decide)) c_1)) (fun c_1 => ?_)
    refine lv_aload_n hx hb d_M_clearRest_9 rfl (lv_at hl 1 rfl) ?_
    refine gM C hK hP 0 rfl 4 (by decide) k_fl_M_rest rfl d_M_clearRest_10 ?_
    refine lv_iload_n hx hb d_M_clearRest_13 rfl (lv_at hl 0 rfl) ?_
    refine lv_iconst (v := 0) hx hb d_M_clearRest_14 (by decide) ?_
    refine wf_zast C hK hP hD hS 4 3 rfl rfl (k := i) (b := false) rfl (by omega) (by decide) d_M_clearRest_15 (fun H locs hP hD hS => ?_)
    have hP : va_P D vwCl (wM q κ (x.1, x.2.1, x.2.2.1, x.2.2.2.1, va_up x.2.2.2.2.1 i false, x.2.2.2.2.2)) H := hP
    have hD : va_D A (wM q κ (x.1, x.2.1, x.2.2.1, x.2.2.2.1, va_up x.2.2.2.2.1 i false, x.2.2.2.2.2)) := hD
    generalize eu_2 : ((x.1, x.2.1, x.2.2.1, x.2.2.2.1, va_up x.2.2.2.2.1 i false, x.2.2.2.2.2) : SM) = u_2 at hP hD
    refine lv_iinc (v := nI (i + 1)) (lv' := [(1, .int (nI (i + 1))), (0, .ref (q 0))]) hx hb d_M_clearRest_16 hl (k := 0) rfl (nI_1 _) (by decide) rfl (fun ls hl => ?_)
    refine lv_goto (tgt := 2) hx hb d_M_clearRest_19 (by decide) ?_
    exact ih u_2 H locs ls (by rw [← eu_2, hI]; exact congrArg (fun z => (u.1, u.2.1, u.2.2.1, u.2.2.2.1, z, u.2.2.2.2.2)) (wf_cpyZ _ _)) hP hD hS (lv_sub hl [0, 1] rfl)
  · have hP : va_P D vwCl (wM q κ x) H := hP
    have hD : va_D A (wM q κ x) := hD
    have hl : lv_has ls 2 [(1, .int (nI 130)), (0, .ref (q 0))] := hl
    have hI : x = (u.1, u.2.1, u.2.2.1, u.2.2.2.1, va_cpy (fun _ => false) u.2.2.2.2.1 0 0 130, u.2.2.2.2.2) := hI
    refine lv_iload_n hx hb d_M_clearRest_2 rfl (lv_at hl 0 rfl) ?_
    refine lv_sipush (v := 130) hx hb d_M_clearRest_3 (by decide) ?_
    refine lv_icmp_ge (tgt := 22) hx hb d_M_clearRest_6 (by decide) (fun c_3 => ?_) (fun c_3 => False.elim (by first | exact absurd (nI_le (Nat.le_refl 130) (by decide)) c_3 | exact absurd c_3 (nI_le (Nat.le_refl 130) (by decide))))
    refine lv_iconst (v := 0) hx hb d_M_clearRest_22 (by decide) ?_
    refine lv_istore_n (lv' := [(1, .int (0)), (0, .ref (q 0))]) hx hb d_M_clearRest_23 rfl hl (by decide) rfl (fun ls hl => ?_)
    refine wf_forH (σ := SM) 128 (fun i x => x = (u.1, u.2.1, u.2.2.1, va_cpy (fun _ => false) u.2.2.2.1 0 0 i, va_cpy (fun _ => false) u.2.2.2.2.1 0 0 130, u.2.2.2.2.2)) (fun x => wM q κ x) (fun i x => [(1, .int (nI i)), (0, .ref (q 0))]) (fun i x H locs ls hi hI hP hD hS hl ih => ?_) (fun x H locs ls hI hP hD hS hl => ?_) x (by rw [wf_cpy0]; exact hI) hP hD hS (lv_sub hl [0, 1] rfl)
    · have hP : va_P D vwCl (wM q κ x) H := hP
      have hD : va_D A (wM q κ x) := hD
      have hl : lv_has ls 2 [(1, .int (nI i)), (0, .ref (q 0))] := hl
      have hI : x = (u.1, u.2.1, u.2.2.1, va_cpy (fun _ => false) u.2.2.2.1 0 0 i, va_cpy (fun _ => false) u.2.2.2.2.1 0 0 130, u.2.2.2.2.2) := hI
      refine lv_iload_n hx hb d_M_clearRest_24 rfl (lv_at hl 0 rfl) ?_
      refine lv_sipush (v := 128) hx hb d_M_clearRest_25 (by decide) ?_
      refine lv_icmp_ge (tgt := 44) hx hb d_M_clearRest_28 (by decide) (fun c_4 => False.elim (by first | exact absurd c_4 (nI_ge hi (by decide)) | exact absurd (nI_ge hi (by decide)) c_4)) (fun c_4 => ?_)
      refine lv_aload_n hx hb d_M_clearRest_31 rfl (lv_at hl 1 rfl) ?_
      refine gM C hK hP 0 rfl 3 (by decide) k_fl_M_answer rfl d_M_clearRest_32 ?_
      refine lv_iload_n hx hb d_M_clearRest_35 rfl (lv_at hl 0 rfl) ?_
      refine lv_iconst (v := 0) hx hb d_M_clearRest_36 (by decide) ?_
      refine wf_zast C hK hP hD hS 3 2 rfl rfl (k := i) (b := false) rfl (by omega) (by decide) d_M_clearRest_37 (fun H locs hP hD hS => ?_)
      have hP : va_P D vwCl (wM q κ (x.1, x.2.1, x.2.2.1, va_up x.2.2.2.1 i false, x.2.2.2.2)) H := hP
      have hD : va_D A (wM q κ (x.1, x.2.1, x.2.2.1, va_up x.2.2.2.1 i false, x.2.2.2.2)) := hD
      generalize eu_5 : ((x.1, x.2.1, x.2.2.1, va_up x.2.2.2.1 i false, x.2.2.2.2) : SM) = u_5 at hP hD
      refine lv_iinc (v := nI (i + 1)) (lv' := [(1, .int (nI (i + 1))), (0, .ref (q 0))]) hx hb d_M_clearRest_38 hl (k := 0) rfl (nI_1 _) (by decide) rfl (fun ls hl => ?_)
      refine lv_goto (tgt := 24) hx hb d_M_clearRest_41 (by decide) ?_
      exact ih u_5 H locs ls (by rw [← eu_5, hI]; exact congrArg (fun z => (u.1, u.2.1, u.2.2.1, z, va_cpy (fun _ => false) u.2.2.2.2.1 0 0 130, u.2.2.2.2.2)) (wf_cpyZ _ _)) hP hD hS (lv_sub hl [0, 1] rfl)
    · have hP : va_P D vwCl (wM q κ x) H := hP
      have hD : va_D A (wM q κ x) := hD
      have hl : lv_has ls 2 [(1, .int (nI 128)), (0, .ref (q 0))] := hl
      have hI : x = (u.1, u.2.1, u.2.2.1, va_cpy (fun _ => false) u.2.2.2.1 0 0 128, va_cpy (fun _ => false) u.2.2.2.2.1 0 0 130, u.2.2.2.2.2) := hI
      refine lv_iload_n hx hb d_M_clearRest_24 rfl (lv_at hl 0 rfl) ?_
      refine lv_sipush (v := 128) hx hb d_M_clearRest_25 (by decide) ?_
      refine lv_icmp_ge (tgt := 44) hx hb d_M_clearRest_28 (by decide) (fun c_6 => ?_) (fun c_6 => False.elim (by first | exact absurd (nI_le (Nat.le_refl 128) (by decide)) c_6 | exact absurd c_6 (nI_le (Nat.le_refl 128) (by decide))))
      exact wf_retv C hr hlocks x (hI) hP hK hD hS (fun _ h => h) d_M_clearRest_44

set_option maxHeartbeats 4000000 in
set_option maxRecDepth 100000 in
theorem kM_clear {p : Program} {l : Launch} {e : Env} {R : Room} {s : State} {m : MethodId} {args : Array Value} {below : List Frame} {meth : Method} {c : Code} {H : Heap} {locs : List Loc} {cells slots : Nat} {Q : State → Prop} {cc : ByteArray} {pc nL : Nat} {ls : Array Slot} {rest : List Value} {D : va_G} {q : Nat → Nat} {κ : Nat → ClassId} {A : Nat → Prop} {u : SM}  (C : CallFix p m c cc nL s args wG RM) (hsz : ls.size = nL) (hR : 1 ≤ R.frames ∧ 21 ≤ R.locals) (hw : (rest.map fun v => v.category).sum ≤ 8) (hc : cells + 0 ≤ R.cells ∧ slots + 0 ≤ R.slots) (hP : va_P D vwCl (wM q κ u) H) (hK : va_K D vwCl (tyM κ) s) (hD : va_D A (wM q κ u)) (hS : va_S A s.heap H locs) (hA : ∀ q, s.heap.size ≤ q → A q) (hdg : decode cc pc = .ok (.invokevirtual 55, 3)) (kk : ∀ (v : SM) (H1 : Heap) (locs1 : List Loc), v = (u.1, u.2.1, u.2.2.1, va_cpy (fun _ => false) u.2.2.2.1 0 0 128, va_cpy (fun _ => false) u.2.2.2.2.1 0 0 130, u.2.2.2.2.2) → va_P D vwCl (wM q κ v) H1 → va_D A (wM q κ v) → va_S A s.heap H1 locs1 → W p l e R s m args below meth c H1 locs1 (cells) (slots) Q (F0 m (pc + 3) ls (rest))) : W p l e R s m args below meth c H locs cells slots Q (F0 m pc ls (.ref (q 0) :: rest)) := by
  exact wf_cv (va_runV (As := []) (rest := rest) C (c_M_clearRest l D q κ u H.size) (cwV 0 C.2.2.2.2 (wG_V (fun _ h => h) k_ml_M_55 k_im_M_clearRest k_se_M_clearRest k_in_M k_M_clearRest) rfl rfl rfl (by decide +kernel) ⟨hR.1, hR.2⟩) ⟨wf_blind, va_recv hK hP (ci := 1) (q0 := 0) rfl rfl, wf_pre hP hK hD⟩ rfl rfl hsz rfl (lv_room hw) hdg ⟨hc.1, hc.2⟩) (fun _ h => h) hS hD hA kk

set_option maxHeartbeats 4000000 in
set_option maxRecDepth 100000 in
/-- M_bring -/
theorem c_M_bring (l : Launch) (D : va_G) (q : Nat → Nat) (κ : Nat → ClassId) (u : SM) (y : Bool) (sz : Nat) : Met l y_M_bring (.code y_M_bring b_M_bring 3 none :: wG) (wf_rm 0 0 0 0) (wf_Pc D vwCl (wM q κ u) (tyM κ) ([.ref (q 0), .int (wf_bi y)]) sz) (va_Qv (fun v => v = (u.1, u.2.1, u.2.2.1, u.2.2.2.1, va_up (wf_sh u.2.2.2.2.1 129 129) 0 y, u.2.2.2.2.2)) (wf_B D vwCl (wM q κ) (tyM κ) (va_A (wM q κ u) sz)) (va_A (wM q κ u) sz)) 0 0 (va_A (wM q κ u) sz) := by
  refine wf_open (by decide) (Nat.le_of_ble_eq_true rfl) k_M_bring ?_
  intro p e s m below meth c ls hsz C hr hlocks hnm hex hP hK hD hl
  subst hsz
  have hx := C.1
  have hb := C.2.1
  have hml := C.2.2.1
  have hown := C.2.2.2.1
  have hts := C.2.2.2.2
  have hA : ∀ j : Nat, s.heap.size ≤ j → va_A (wM q κ u) s.heap.size j := fun j h => Or.inr h
  have hS : va_S (va_A (wM q κ u) s.heap.size) s.heap s.heap [] := va_S.rf
  generalize hAe : va_A (wM q κ u) s.heap.size = A at hA hS hD ⊢
  have hl : lv_has ls 3 [(0, .ref (q 0)), (1, .int (wf_bi y))] := hl
  refine lv_sipush (v := nI 129) hx hb d_M_bring_0 (by decide) ?_
  refine lv_istore_n (lv' := [(2, .int (nI 129)), (0, .ref (q 0)), (1, .int (wf_bi y))]) hx hb d_M_bring_3 rfl hl (by decide) rfl (fun ls hl => ?_)
  refine wf_forH (σ := SM) 129 (fun i x => x = (u.1, u.2.1, u.2.2.1, u.2.2.2.1, wf_sh u.2.2.2.2.1 129 i, u.2.2.2.2.2)) (fun x => wM q κ x) (fun i x => [(2, .int (nI (129 - i))), (0, .ref (q 0)), (1, .int (wf_bi y))]) (fun i x H locs ls hi hI hP hD hS hl ih => ?_) (fun x H locs ls hI hP hD hS hl => ?_) u (by rw [wf_sh0]) hP hD hS (lv_sub hl [0, 1, 2] rfl)
  · have hP : va_P D vwCl (wM q κ x) H := hP
    have hD : va_D A (wM q κ x) := hD
    have hl : lv_has ls 3 [(2, .int (nI (129 - i))), (0, .ref (q 0)), (1, .int (wf_bi y))] := hl
    have hI : x = (u.1, u.2.1, u.2.2.1, u.2.2.2.1, wf_sh u.2.2.2.2.1 129 i, u.2.2.2.2.2) := hI
    refine lv_iload_n hx hb d_M_bring_4 rfl (lv_at hl 0 rfl) ?_
    refine lv_if_le (tgt := 28) hx hb d_M_bring_5 (by decide) (fun c_1 => False.elim (by first | exact absurd c_1 (nI_nle (n := 129 - i) (by omega) (by omega)) | exact absurd (nI_nle (n := 129 - i) (by omega) (by omega)) c_1)) (fun c_1 => ?_)
    refine lv_aload_n hx hb d_M_bring_8 rfl (lv_at hl 1 rfl) ?_
    refine gM C hK hP 0 rfl 4 (by decide) k_fl_M_rest rfl d_M_bring_9 ?_
    refine lv_iload_n hx hb d_M_bring_12 rfl (lv_at hl 0 rfl) ?_
    refine lv_aload_n hx hb d_M_bring_13 rfl (lv_at hl 1 rfl) ?_
    refine gM C hK hP 0 rfl 4 (by decide) k_fl_M_rest rfl d_M_bring_14 ?_
    refine lv_iload_n hx hb d_M_bring_17 rfl (lv_at hl 0 rfl) ?_
    refine lv_iconst (v := 1) hx hb d_M_bring_18 (by decide) ?_
    refine lv_isub hx hb d_M_bring_19 ?_
    refine wf_zald C hK hP 4 3 rfl rfl (k := 129 - i - 1) (wf_is rfl rfl (by omega)) (by omega) (by decide) d_M_bring_20 ?_
    refine wf_zast C hK hP hD hS 4 3 rfl rfl (k := 129 - i) (b := ((x.2.2.2.2.1 (129 - i - 1)))) rfl (by omega) (by decide) d_M_bring_21 (fun H locs hP hD hS => ?_)
    have hP : va_P D vwCl (wM q κ (x.1, x.2.1, x.2.2.1, x.2.2.2.1, va_up x.2.2.2.2.1 (129 - i) ((x.2.2.2.2.1 (129 - i - 1))), x.2.2.2.2.2)) H := hP
    have hD : va_D A (wM q κ (x.1, x.2.1, x.2.2.1, x.2.2.2.1, va_up x.2.2.2.2.1 (129 - i) ((x.2.2.2.2.1 (129 - i - 1))), x.2.2.2.2.2)) := hD
    generalize eu_2 : ((x.1, x.2.1, x.2.2.1, x.2.2.2.1, va_up x.2.2.2.2.1 (129 - i) ((x.2.2.2.2.1 (129 - i - 1))), x.2.2.2.2.2) : SM) = u_2 at hP hD
    refine lv_iinc (v := nI (129 - (i + 1))) (lv' := [(2, .int (nI (129 - (i + 1)))), (0, .ref (q 0)), (1, .int (wf_bi y))]) hx hb d_M_bring_22 hl (k := 0) rfl ((wf_deI (k := 129 - i) (by omega)).trans (by rw [Nat.sub_sub])) (by decide) rfl (fun ls hl => ?_)
    refine lv_goto (tgt := 4) hx hb d_M_bring_25 (by decide) ?_
    exact ih u_2 H locs ls (by rw [← eu_2, hI]; exact congrArg (fun z => (u.1, u.2.1, u.2.2.1, u.2.2.2.1, z, u.2.2.2.2.2)) (wf_shS _ hi)) hP hD hS (lv_sub hl [0, 1, 2] rfl)
  · have hP : va_P D vwCl (wM q κ x) H := hP
    have hD : va_D A (wM q κ x) := hD
    have hl : lv_has ls 3 [(2, .int (nI (129 - 129))), (0, .ref (q 0)), (1, .int (wf_bi y))] := hl
    have hI : x = (u.1, u.2.1, u.2.2.1, u.2.2.2.1, wf_sh u.2.2.2.2.1 129 129, u.2.2.2.2.2) := hI
    refine lv_iload_n hx hb d_M_bring_4 rfl (lv_at hl 0 rfl) ?_
    refine lv_if_le (tgt := 28) hx hb d_M_bring_5 (by decide) (fun c_3 => ?_) (fun c_3 => False.elim (by first | exact absurd (by decide) c_3 | exact absurd c_3 (by decide)))
    refine lv_aload_n hx hb d_M_bring_28 rfl (lv_at hl 1 rfl) ?_
    refine gM C hK hP 0 rfl 4 (by decide) k_fl_M_rest rfl d_M_bring_29 ?_
    refine lv_iconst (v := 0) hx hb d_M_bring_32 (by decide) ?_
    refine lv_iload_n hx hb d_M_bring_33 rfl (lv_at hl 2 rfl) ?_
    refine wf_zast C hK hP hD hS 4 3 rfl rfl (k := 0) (b := y) rfl (by omega) (by decide) d_M_bring_34 (fun H locs hP hD hS => ?_)
    have hP : va_P D vwCl (wM q κ (x.1, x.2.1, x.2.2.1, x.2.2.2.1, va_up x.2.2.2.2.1 0 y, x.2.2.2.2.2)) H := hP
    have hD : va_D A (wM q κ (x.1, x.2.1, x.2.2.1, x.2.2.2.1, va_up x.2.2.2.2.1 0 y, x.2.2.2.2.2)) := hD
    generalize eu_4 : ((x.1, x.2.1, x.2.2.1, x.2.2.2.1, va_up x.2.2.2.2.1 0 y, x.2.2.2.2.2) : SM) = u_4 at hP hD
    exact wf_retv C hr hlocks u_4 (by rw [← eu_4, hI]) hP hK hD hS (fun _ h => h) d_M_bring_35

set_option maxHeartbeats 4000000 in
set_option maxRecDepth 100000 in
theorem kM_bring {p : Program} {l : Launch} {e : Env} {R : Room} {s : State} {m : MethodId} {args : Array Value} {below : List Frame} {meth : Method} {c : Code} {H : Heap} {locs : List Loc} {cells slots : Nat} {Q : State → Prop} {cc : ByteArray} {pc nL : Nat} {ls : Array Slot} {rest : List Value} {D : va_G} {q : Nat → Nat} {κ : Nat → ClassId} {A : Nat → Prop} {u : SM} {y : Bool} (C : CallFix p m c cc nL s args wG RM) (hsz : ls.size = nL) (hR : 1 ≤ R.frames ∧ 22 ≤ R.locals) (hw : (rest.map fun v => v.category).sum ≤ 8) (hc : cells + 0 ≤ R.cells ∧ slots + 0 ≤ R.slots) (hP : va_P D vwCl (wM q κ u) H) (hK : va_K D vwCl (tyM κ) s) (hD : va_D A (wM q κ u)) (hS : va_S A s.heap H locs) (hA : ∀ q, s.heap.size ≤ q → A q) (hdg : decode cc pc = .ok (.invokevirtual 58, 3)) (kk : ∀ (v : SM) (H1 : Heap) (locs1 : List Loc), v = (u.1, u.2.1, u.2.2.1, u.2.2.2.1, va_up (wf_sh u.2.2.2.2.1 129 129) 0 y, u.2.2.2.2.2) → va_P D vwCl (wM q κ v) H1 → va_D A (wM q κ v) → va_S A s.heap H1 locs1 → W p l e R s m args below meth c H1 locs1 (cells) (slots) Q (F0 m (pc + 3) ls (rest))) : W p l e R s m args below meth c H locs cells slots Q (F0 m pc ls (.int (wf_bi y) :: .ref (q 0) :: rest)) := by
  exact wf_cv (va_runV (As := [.int (wf_bi y)]) (rest := rest) C (c_M_bring l D q κ u y H.size) (cwV 1 C.2.2.2.2 (wG_V (fun _ h => h) k_ml_M_58 k_im_M_bring k_se_M_bring k_in_M k_M_bring) rfl rfl rfl (by decide +kernel) ⟨hR.1, hR.2⟩) ⟨wf_blind, va_recv hK hP (ci := 1) (q0 := 0) rfl rfl, wf_pre hP hK hD⟩ rfl rfl hsz rfl (lv_room hw) hdg ⟨hc.1, hc.2⟩) (fun _ h => h) hS hD hA kk

set_option maxHeartbeats 4000000 in
set_option maxRecDepth 100000 in
/-- M_lower -/
theorem c_M_lowerR (l : Launch) (D : va_G) (q : Nat → Nat) (κ : Nat → ClassId) (u : SM) (r k : Nat) (hr8 : r < 8) (hk : k < 130) (sz : Nat) : Met l y_M_lower (.code y_M_lower b_M_lower 3 (some .boolean) :: wG) (wf_rm 0 0 0 0) (wf_Pc D vwCl (wM q κ u) (tyM κ) ([.ref (q 0), .int (nI r), .int (nI k)]) sz) (vp_Si (fun r_ => r_ = wf_bi (wf_lw u.2.1 r k))) 0 0 (fun _ => False) := by
  refine wf_open (by decide) (Nat.le_of_ble_eq_true rfl) k_M_lower ?_
  intro p e s m below meth c ls hsz C hr hlocks hnm hex hP hK hD hl
  subst hsz
  have hx := C.1
  have hb := C.2.1
  have hml := C.2.2.1
  have hown := C.2.2.2.1
  have hts := C.2.2.2.2
  have hA : ∀ j : Nat, s.heap.size ≤ j → va_A (wM q κ u) s.heap.size j := fun j h => Or.inr h
  have hS : va_S (va_A (wM q κ u) s.heap.size) s.heap s.heap [] := va_S.rf
  generalize hAe : va_A (wM q κ u) s.heap.size = A at hA hS hD ⊢
  have hl : lv_has ls 3 [(0, .ref (q 0)), (1, .int (nI r)), (2, .int (nI k))] := hl
  refine lv_iload_n hx hb d_M_lower_0 rfl (lv_at hl 1 rfl) ?_
  refine lv_if_lt (tgt := 32) hx hb d_M_lower_1 (by decide) (fun c_1 => False.elim (by first | exact absurd c_1 (nI_pos (by omega)) | exact absurd (nI_pos (by omega)) c_1)) (fun c_1 => ?_)
  refine lv_iload_n hx hb d_M_lower_4 rfl (lv_at hl 2 rfl) ?_
  refine lv_sipush (v := 128) hx hb d_M_lower_5 (by decide) ?_
  refine lv_icmp_ge (tgt := 30) hx hb d_M_lower_8 (by decide) (fun c_2 => ?_) (fun c_2 => ?_)
  · refine lv_iconst (v := 0) hx hb d_M_lower_30 (by decide) ?_
    exact W.zret hx hb hr (rfl) (fun t ht hW => ⟨_, rfl, by unfold wf_lw; rw [decide_eq_false (show ¬ k < 128 from fun h => absurd c_2 (nI_ge h (by decide)))]; rfl, ht⟩) (fun q h => by cases h) d_M_lower_31 hlocks
  · refine lv_aload_n hx hb d_M_lower_11 rfl (lv_at hl 0 rfl) ?_
    refine gM C hK hP 0 rfl 1 (by decide) k_fl_M_bits rfl d_M_lower_12 ?_
    refine lv_sipush (v := 128) hx hb d_M_lower_15 (by decide) ?_
    refine lv_iload_n hx hb d_M_lower_18 rfl (lv_at hl 1 rfl) ?_
    refine lv_imul hx hb d_M_lower_19 ?_
    refine lv_iload_n hx hb d_M_lower_20 rfl (lv_at hl 2 rfl) ?_
    refine lv_iadd hx hb d_M_lower_21 ?_
    have hk8 : k < 128 := Nat.not_le.mp (fun h => c_2 (nI_le h (by omega)))
    refine wf_zald C hK hP 1 0 rfl rfl (k := 128 * r + k) (wf_ia (wf_im rfl rfl) rfl) (by omega) (by decide) d_M_lower_22 ?_
    refine lv_if_eq (tgt := 30) hx hb d_M_lower_23 (by decide) (fun c_3 => ?_) (fun c_3 => ?_)
    · refine lv_iconst (v := 0) hx hb d_M_lower_30 (by decide) ?_
      exact W.zret hx hb hr (rfl) (fun t ht hW => ⟨_, rfl, by unfold wf_lw; rw [(wf_bi0 _).mp c_3, Bool.and_false]; rfl, ht⟩) (fun q h => by cases h) d_M_lower_31 hlocks
    · refine lv_iconst (v := 1) hx hb d_M_lower_26 (by decide) ?_
      refine lv_goto (tgt := 31) hx hb d_M_lower_27 (by decide) ?_
      exact W.zret hx hb hr (rfl) (fun t ht hW => ⟨_, rfl, by unfold wf_lw; rw [decide_eq_true (show k < 128 from Nat.not_le.mp (fun h => c_2 (nI_le h (by omega)))), (wf_bi1 _).mp c_3]; rfl, ht⟩) (fun q h => by cases h) d_M_lower_31 hlocks

set_option maxHeartbeats 4000000 in
set_option maxRecDepth 100000 in
theorem kM_lowerR {p : Program} {l : Launch} {e : Env} {R : Room} {s : State} {m : MethodId} {args : Array Value} {below : List Frame} {meth : Method} {c : Code} {H : Heap} {locs : List Loc} {cells slots : Nat} {Q : State → Prop} {cc : ByteArray} {pc nL : Nat} {ls : Array Slot} {rest : List Value} {D : va_G} {q : Nat → Nat} {κ : Nat → ClassId} {A : Nat → Prop} {u : SM} {r k : Nat} (hr8 : r < 8) (hk : k < 130) (C : CallFix p m c cc nL s args wG RM) (hsz : ls.size = nL) (hR : 1 ≤ R.frames ∧ 22 ≤ R.locals) (hw : (rest.map fun v => v.category).sum ≤ 8) (hc : cells ≤ R.cells ∧ slots ≤ R.slots) (hP : va_P D vwCl (wM q κ u) H) (hK : va_K D vwCl (tyM κ) s) (hD : va_D A (wM q κ u)) (hdg : decode cc pc = .ok (.invokevirtual 51, 3)) (kk : ∀ r_ : Int32, r_ = wf_bi (wf_lw u.2.1 r k) → W p l e R s m args below meth c H locs cells slots Q (F0 m (pc + 3) ls (.int r_ :: rest))) : W p l e R s m args below meth c H locs cells slots Q (F0 m pc ls (.int (nI k) :: .int (nI r) :: .ref (q 0) :: rest)) := by
  exact vp_callSi (W.runV (As := [.int (nI r), .int (nI k)]) (rest := rest) C (c_M_lowerR l D q κ u r k hr8 hk H.size) (cwV 2 C.2.2.2.2 (wG_V (fun _ h => h) k_ml_M_51 k_im_M_lower k_se_M_lower k_in_M k_M_lower) rfl rfl rfl (by decide +kernel) ⟨hR.1, hR.2⟩) ⟨wf_blind, va_recv hK hP (ci := 1) (q0 := 0) rfl rfl, wf_pre hP hK hD⟩ rfl rfl hsz rfl (lv_room hw) hdg ⟨hc.1, hc.2⟩) kk

set_option maxHeartbeats 4000000 in
set_option maxRecDepth 100000 in
/-- M_lower -/
theorem c_M_lowerA (l : Launch) (D : va_G) (q : Nat → Nat) (κ : Nat → ClassId) (u : SM) (k : Nat) (hk : k < 130) (sz : Nat) : Met l y_M_lower (.code y_M_lower b_M_lower 3 (some .boolean) :: wG) (wf_rm 0 0 0 0) (wf_Pc D vwCl (wM q κ u) (tyM κ) ([.ref (q 0), .int (-1), .int (nI k)]) sz) (vp_Si (fun r => r = wf_bi (wf_lr u.2.2.2.1 k))) 0 0 (fun _ => False) := by
  refine wf_open (by decide) (Nat.le_of_ble_eq_true rfl) k_M_lower ?_
  intro p e s m below meth c ls hsz C hr hlocks hnm hex hP hK hD hl
  subst hsz
  have hx := C.1
  have hb := C.2.1
  have hml := C.2.2.1
  have hown := C.2.2.2.1
  have hts := C.2.2.2.2
  have hA : ∀ j : Nat, s.heap.size ≤ j → va_A (wM q κ u) s.heap.size j := fun j h => Or.inr h
  have hS : va_S (va_A (wM q κ u) s.heap.size) s.heap s.heap [] := va_S.rf
  generalize hAe : va_A (wM q κ u) s.heap.size = A at hA hS hD ⊢
  have hl : lv_has ls 3 [(0, .ref (q 0)), (1, .int ((-1))), (2, .int (nI k))] := hl
  refine lv_iload_n hx hb d_M_lower_0 rfl (lv_at hl 1 rfl) ?_
  refine lv_if_lt (tgt := 32) hx hb d_M_lower_1 (by decide) (fun _ => ?_) (fun c_1 => False.elim (absurd c_1 (by decide)))
  refine lv_iload_n hx hb d_M_lower_32 rfl (lv_at hl 2 rfl) ?_
  refine lv_if_eq (tgt := 52) hx hb d_M_lower_33 (by decide) (fun c_2 => ?_) (fun c_2 => ?_)
  · refine lv_iconst (v := 1) hx hb d_M_lower_52 (by decide) ?_
    refine lv_goto (tgt := 57) hx hb d_M_lower_53 (by decide) ?_
    exact W.zret hx hb hr (rfl) (fun t ht hW => ⟨_, rfl, by unfold wf_lr; rw [decide_eq_true (show k = 0 from (nI_eq (a := k) (b := 0) (by omega) (by decide)).mp c_2)]; rfl, ht⟩) (fun q h => by cases h) d_M_lower_57 hlocks
  · refine lv_iload_n hx hb d_M_lower_36 rfl (lv_at hl 2 rfl) ?_
    refine lv_iconst (v := 1) hx hb d_M_lower_37 (by decide) ?_
    refine lv_icmp_le (tgt := 56) hx hb d_M_lower_38 (by decide) (fun c_3 => ?_) (fun c_3 => ?_)
    · refine lv_iconst (v := 0) hx hb d_M_lower_56 (by decide) ?_
      exact W.zret hx hb hr (rfl) (fun t ht hW => ⟨_, rfl, by unfold wf_lr; rw [decide_eq_false (show ¬ k = 0 from fun h => c_2 (congrArg nI h)), decide_eq_false (show ¬ 1 < k from fun h => absurd c_3 (nI_ge (a := 1) h (by omega)))]; rfl, ht⟩) (fun q h => by cases h) d_M_lower_57 hlocks
    · have hk8 : 1 < k := Nat.not_le.mp (fun h => c_3 (nI_le h (by decide)))
      refine lv_aload_n hx hb d_M_lower_41 rfl (lv_at hl 0 rfl) ?_
      refine gM C hK hP 0 rfl 3 (by decide) k_fl_M_answer rfl d_M_lower_42 ?_
      refine lv_iload_n hx hb d_M_lower_45 rfl (lv_at hl 2 rfl) ?_
      refine lv_iconst (v := 2) hx hb d_M_lower_46 (by decide) ?_
      refine lv_isub hx hb d_M_lower_47 ?_
      refine wf_zald C hK hP 3 2 rfl rfl (k := k - 2) (wf_is rfl rfl (by omega)) (by omega) (by decide) d_M_lower_48 ?_
      refine lv_if_eq (tgt := 56) hx hb d_M_lower_49 (by decide) (fun c_4 => ?_) (fun c_4 => ?_)
      · refine lv_iconst (v := 0) hx hb d_M_lower_56 (by decide) ?_
        exact W.zret hx hb hr (rfl) (fun t ht hW => ⟨_, rfl, by unfold wf_lr; rw [decide_eq_false (show ¬ k = 0 from fun h => c_2 (congrArg nI h)), (wf_bi0 _).mp c_4, Bool.and_false]; rfl, ht⟩) (fun q h => by cases h) d_M_lower_57 hlocks
      · refine lv_iconst (v := 1) hx hb d_M_lower_52 (by decide) ?_
        refine lv_goto (tgt := 57) hx hb d_M_lower_53 (by decide) ?_
        exact W.zret hx hb hr (rfl) (fun t ht hW => ⟨_, rfl, by unfold wf_lr; rw [decide_eq_true (show 1 < k from Nat.not_le.mp (fun h => c_3 (nI_le h (by decide)))), (wf_bi1 _).mp c_4, Bool.and_true, Bool.or_true]; rfl, ht⟩) (fun q h => by cases h) d_M_lower_57 hlocks

set_option maxHeartbeats 4000000 in
set_option maxRecDepth 100000 in
theorem kM_lowerA {p : Program} {l : Launch} {e : Env} {R : Room} {s : State} {m : MethodId} {args : Array Value} {below : List Frame} {meth : Method} {c : Code} {H : Heap} {locs : List Loc} {cells slots : Nat} {Q : State → Prop} {cc : ByteArray} {pc nL : Nat} {ls : Array Slot} {rest : List Value} {D : va_G} {q : Nat → Nat} {κ : Nat → ClassId} {A : Nat → Prop} {u : SM} {k : Nat} (hk : k < 130) (C : CallFix p m c cc nL s args wG RM) (hsz : ls.size = nL) (hR : 1 ≤ R.frames ∧ 22 ≤ R.locals) (hw : (rest.map fun v => v.category).sum ≤ 8) (hc : cells ≤ R.cells ∧ slots ≤ R.slots) (hP : va_P D vwCl (wM q κ u) H) (hK : va_K D vwCl (tyM κ) s) (hD : va_D A (wM q κ u)) (hdg : decode cc pc = .ok (.invokevirtual 51, 3)) (kk : ∀ r : Int32, r = wf_bi (wf_lr u.2.2.2.1 k) → W p l e R s m args below meth c H locs cells slots Q (F0 m (pc + 3) ls (.int r :: rest))) : W p l e R s m args below meth c H locs cells slots Q (F0 m pc ls (.int (nI k) :: .int (-1) :: .ref (q 0) :: rest)) := by
  exact vp_callSi (W.runV (As := [.int (-1), .int (nI k)]) (rest := rest) C (c_M_lowerA l D q κ u k hk H.size) (cwV 2 C.2.2.2.2 (wG_V (fun _ h => h) k_ml_M_51 k_im_M_lower k_se_M_lower k_in_M k_M_lower) rfl rfl rfl (by decide +kernel) ⟨hR.1, hR.2⟩) ⟨wf_blind, va_recv hK hP (ci := 1) (q0 := 0) rfl rfl, wf_pre hP hK hD⟩ rfl rfl hsz rfl (lv_room hw) hdg ⟨hc.1, hc.2⟩) kk

set_option maxHeartbeats 4000000 in
set_option maxRecDepth 100000 in
/-- M_takeAway -/
theorem c_M_takeAwayR (l : Launch) (D : va_G) (q : Nat → Nat) (κ : Nat → ClassId) (u : SM) (r : Nat) (hr8 : r < 8) (sz : Nat) : Met l y_M_takeAway (.code y_M_takeAway b_M_takeAway 7 (some .boolean) :: wG) (wf_rm 1 60 0 0) (wf_Pc D vwCl (wM q κ u) (tyM κ) ([.ref (q 0), .int (nI r)]) sz) (va_Qi (fun r_ v => (r_ = 1 ∧ wf_sm (wf_lw u.2.1 r) 130 ≤ wf_sm u.2.2.2.2.1 130 ∧ ∃ f : Nat → Bool, v = (u.1, u.2.1, u.2.2.1, u.2.2.2.1, f, u.2.2.2.2.2) ∧ wf_sm f 130 = wf_sm u.2.2.2.2.1 130 - wf_sm (wf_lw u.2.1 r) 130) ∨ (r_ = 0 ∧ ¬ wf_sm (wf_lw u.2.1 r) 130 ≤ wf_sm u.2.2.2.2.1 130 ∧ v = u)) (wf_B D vwCl (wM q κ) (tyM κ) (va_A (wM q κ u) sz)) (va_A (wM q κ u) sz)) 0 0 (va_A (wM q κ u) sz) := by
  refine wf_open (by decide) (Nat.le_of_ble_eq_true rfl) k_M_takeAway ?_
  intro p e s m below meth c ls hsz C hr hlocks hnm hex hP hK hD hl
  subst hsz
  have hx := C.1
  have hb := C.2.1
  have hml := C.2.2.1
  have hown := C.2.2.2.1
  have hts := C.2.2.2.2
  have hA : ∀ j : Nat, s.heap.size ≤ j → va_A (wM q κ u) s.heap.size j := fun j h => Or.inr h
  have hS : va_S (va_A (wM q κ u) s.heap.size) s.heap s.heap [] := va_S.rf
  generalize hAe : va_A (wM q κ u) s.heap.size = A at hA hS hD ⊢
  have hl : lv_has ls 7 [(0, .ref (q 0)), (1, .int (nI r))] := hl
  refine lv_iconst (v := 1) hx hb d_M_takeAway_0 (by decide) ?_
  refine lv_istore_n (lv' := [(2, .int (1)), (0, .ref (q 0)), (1, .int (nI r))]) hx hb d_M_takeAway_1 rfl hl (by decide) rfl (fun ls hl => ?_)
  refine lv_iconst (v := 0) hx hb d_M_takeAway_2 (by decide) ?_
  refine lv_istore_n (lv' := [(3, .int (0)), (2, .int (1)), (0, .ref (q 0)), (1, .int (nI r))]) hx hb d_M_takeAway_3 rfl hl (by decide) rfl (fun ls hl => ?_)
  refine wf_for (σ := Bool) 130 (fun i x => wf_FI (wf_lw u.2.1 r) u.2.2.2.2.1 i x) (fun i x => [(3, .int (nI i)), (2, .int (wf_bi x)), (0, .ref (q 0)), (1, .int (nI r))]) (fun i x ls hi hI hl ih => ?_) (fun x ls hI hl => ?_) true (wf_FI_0 _ _) (lv_sub hl [0, 1, 2, 3] rfl)
  · have hl : lv_has ls 7 [(3, .int (nI i)), (2, .int (wf_bi x)), (0, .ref (q 0)), (1, .int (nI r))] := hl
    have hI : wf_FI (wf_lw u.2.1 r) u.2.2.2.2.1 i x := hI
    refine lv_iload_n hx hb d_M_takeAway_4 rfl (lv_at hl 0 rfl) ?_
    refine lv_sipush (v := 130) hx hb d_M_takeAway_5 (by decide) ?_
    refine lv_icmp_ge (tgt := 43) hx hb d_M_takeAway_8 (by decide) (fun c_1 => False.elim (by first | exact absurd c_1 (nI_ge hi (by decide)) | exact absurd (nI_ge hi (by decide)) c_1)) (fun c_1 => ?_)
    refine lv_aload_n hx hb d_M_takeAway_11 rfl (lv_at hl 2 rfl) ?_
    refine gM C hK hP 0 rfl 4 (by decide) k_fl_M_rest rfl d_M_takeAway_12 ?_
    refine lv_iload_n hx hb d_M_takeAway_15 rfl (lv_at hl 0 rfl) ?_
    refine wf_zald C hK hP 4 3 rfl rfl (k := i) rfl (by omega) (by decide) d_M_takeAway_16 ?_
    refine lv_aload_n hx hb d_M_takeAway_17 rfl (lv_at hl 2 rfl) ?_
    refine lv_iload_n hx hb d_M_takeAway_18 rfl (lv_at hl 3 rfl) ?_
    refine lv_iload_n hx hb d_M_takeAway_19 rfl (lv_at hl 0 rfl) ?_
    refine kM_lowerR hr8 (k := i) (by omega) C hl.1 ⟨Nat.le_of_ble_eq_true rfl, Nat.le_of_ble_eq_true rfl⟩ (Nat.le_of_ble_eq_true rfl) ⟨Nat.le_of_ble_eq_true rfl, Nat.le_of_ble_eq_true rfl⟩ hP hK hD d_M_takeAway_20 (fun r_2 hr_2 => ?_)
    subst hr_2
    refine wf_cutI (pcj := 36) (ls := ls) (rest := []) (fun z => z = wf_bi (if u.2.2.2.2.1 i = wf_lw u.2.1 r i then x else u.2.2.2.2.1 i)) (fun z_3 ez_3 => ?_) (fun jn => ?_)
    · subst ez_3
      refine lv_istore_n (lv' := [(2, .int (wf_bi (if u.2.2.2.2.1 i = wf_lw u.2.1 r i then x else u.2.2.2.2.1 i))), (3, .int (nI i)), (0, .ref (q 0)), (1, .int (nI r))]) hx hb d_M_takeAway_36 rfl hl (by decide) rfl (fun ls hl => ?_)
      refine lv_iinc (v := nI (i + 1)) (lv' := [(3, .int (nI (i + 1))), (2, .int (wf_bi (if u.2.2.2.2.1 i = wf_lw u.2.1 r i then x else u.2.2.2.2.1 i))), (0, .ref (q 0)), (1, .int (nI r))]) hx hb d_M_takeAway_37 hl (k := 1) rfl (nI_1 _) (by decide) rfl (fun ls hl => ?_)
      refine lv_goto (tgt := 4) hx hb d_M_takeAway_40 (by decide) ?_
      exact ih _ ls (wf_FI_S hI) (lv_sub hl [0, 1, 2, 3] rfl)
    · refine lv_icmp_ne (tgt := 30) hx hb d_M_takeAway_23 (by decide) (fun c_4 => ?_) (fun c_4 => ?_)
      · refine lv_aload_n hx hb d_M_takeAway_30 rfl (lv_at hl 2 rfl) ?_
        refine gM C hK hP 0 rfl 4 (by decide) k_fl_M_rest rfl d_M_takeAway_31 ?_
        refine lv_iload_n hx hb d_M_takeAway_34 rfl (lv_at hl 0 rfl) ?_
        refine wf_zald C hK hP 4 3 rfl rfl (k := i) rfl (by omega) (by decide) d_M_takeAway_35 ?_
        exact jn _ (by rw [if_neg (fun h => c_4 (congrArg wf_bi h))])
      · refine lv_iload_n hx hb d_M_takeAway_26 rfl (lv_at hl 1 rfl) ?_
        refine lv_goto (tgt := 36) hx hb d_M_takeAway_27 (by decide) ?_
        exact jn _ (by rw [if_pos (wf_bi_inj c_4)])
  · have hl : lv_has ls 7 [(3, .int (nI 130)), (2, .int (wf_bi x)), (0, .ref (q 0)), (1, .int (nI r))] := hl
    have hI : wf_FI (wf_lw u.2.1 r) u.2.2.2.2.1 130 x := hI
    refine lv_iload_n hx hb d_M_takeAway_4 rfl (lv_at hl 0 rfl) ?_
    refine lv_sipush (v := 130) hx hb d_M_takeAway_5 (by decide) ?_
    refine lv_icmp_ge (tgt := 43) hx hb d_M_takeAway_8 (by decide) (fun c_5 => ?_) (fun c_5 => False.elim (by first | exact absurd (nI_le (Nat.le_refl 130) (by decide)) c_5 | exact absurd c_5 (nI_le (Nat.le_refl 130) (by decide))))
    refine lv_iload_n hx hb d_M_takeAway_43 rfl (lv_at hl 1 rfl) ?_
    refine lv_if_ne (tgt := 49) hx hb d_M_takeAway_44 (by decide) (fun c1 => ?_) (fun c1 => ?_)
    · have h1 : wf_sm (wf_lw u.2.1 r) 130 ≤ wf_sm u.2.2.2.2.1 130 := of_decide_eq_true (hI.symm.trans ((wf_bi1 _).mp c1))
      refine lv_iconst (v := 0) hx hb d_M_takeAway_49 (by decide) ?_
      refine lv_istore_n (lv' := [(3, .int (0)), (2, .int (wf_bi x)), (0, .ref (q 0)), (1, .int (nI r))]) hx hb d_M_takeAway_50 rfl hl (by decide) rfl (fun ls hl => ?_)
      refine lv_iconst (v := 0) hx hb d_M_takeAway_51 (by decide) ?_
      refine lv_istore (lv' := [(4, .int (0)), (3, .int (0)), (2, .int (wf_bi x)), (0, .ref (q 0)), (1, .int (nI r))]) hx hb d_M_takeAway_52 hl (by decide) rfl (fun ls hl => ?_)
      refine wf_forH (σ := SM × Bool) 130 (fun i x => x.1 = (u.1, u.2.1, u.2.2.1, u.2.2.2.1, x.1.2.2.2.2.1, u.2.2.2.2.2) ∧ wf_TI2 (wf_lw u.2.1 r) u.2.2.2.2.1 x.1.2.2.2.2.1 i x.2) (fun x => wM q κ x.1) (fun i x => [(4, .int (nI i)), (3, .int (wf_bi x.2)), (0, .ref (q 0)), (1, .int (nI r))]) (fun i x H locs ls hi hI hP hD hS hl ih => ?_) (fun x H locs ls hI hP hD hS hl => ?_) (u, false) (⟨rfl, wf_TI2_0 _ _⟩) hP hD hS (lv_sub hl [0, 1, 3, 4] rfl)
      · obtain ⟨w0, cy⟩ := x
        have hP : va_P D vwCl (wM q κ w0) H := hP
        have hD : va_D A (wM q κ w0) := hD
        have hl : lv_has ls 7 [(4, .int (nI i)), (3, .int (wf_bi cy)), (0, .ref (q 0)), (1, .int (nI r))] := hl
        have hI : w0 = (u.1, u.2.1, u.2.2.1, u.2.2.2.1, w0.2.2.2.2.1, u.2.2.2.2.2) ∧ wf_TI2 (wf_lw u.2.1 r) u.2.2.2.2.1 w0.2.2.2.2.1 i cy := hI
        refine lv_iload hx hb d_M_takeAway_54 (lv_at hl 0 rfl) ?_
        refine lv_sipush (v := 130) hx hb d_M_takeAway_56 (by decide) ?_
        refine lv_icmp_ge (tgt := 143) hx hb d_M_takeAway_59 (by decide) (fun c_6 => False.elim (by first | exact absurd c_6 (nI_ge hi (by decide)) | exact absurd (nI_ge hi (by decide)) c_6)) (fun c_6 => ?_)
        refine lv_aload_n hx hb d_M_takeAway_62 rfl (lv_at hl 2 rfl) ?_
        refine gM C hK hP 0 rfl 4 (by decide) k_fl_M_rest rfl d_M_takeAway_63 ?_
        refine lv_iload hx hb d_M_takeAway_66 (lv_at hl 0 rfl) ?_
        refine wf_zald C hK hP 4 3 rfl rfl (k := i) rfl (by omega) (by decide) d_M_takeAway_68 ?_
        obtain ⟨x1, hx1⟩ : ∃ b : Bool, b = w0.2.2.2.2.1 i := ⟨_, rfl⟩
        rw [← hx1]
        refine lv_istore (lv' := [(5, .int (wf_bi x1)), (4, .int (nI i)), (3, .int (wf_bi cy)), (0, .ref (q 0)), (1, .int (nI r))]) hx hb d_M_takeAway_69 hl (by decide) rfl (fun ls hl => ?_)
        refine lv_aload_n hx hb d_M_takeAway_71 rfl (lv_at hl 3 rfl) ?_
        refine lv_iload_n hx hb d_M_takeAway_72 rfl (lv_at hl 4 rfl) ?_
        refine lv_iload hx hb d_M_takeAway_73 (lv_at hl 1 rfl) ?_
        refine kM_lowerR hr8 (k := i) (by omega) C hl.1 ⟨Nat.le_of_ble_eq_true rfl, Nat.le_of_ble_eq_true rfl⟩ (Nat.le_of_ble_eq_true rfl) ⟨Nat.le_of_ble_eq_true rfl, Nat.le_of_ble_eq_true rfl⟩ hP hK hD d_M_takeAway_75 (fun r_7 hr_7 => ?_)
        subst hr_7
        obtain ⟨y1, hy1⟩ : ∃ b : Bool, b = wf_lw w0.2.1 r i := ⟨_, rfl⟩
        rw [← hy1]
        refine lv_istore (lv' := [(6, .int (wf_bi y1)), (5, .int (wf_bi x1)), (4, .int (nI i)), (3, .int (wf_bi cy)), (0, .ref (q 0)), (1, .int (nI r))]) hx hb d_M_takeAway_78 hl (by decide) rfl (fun ls hl => ?_)
        refine lv_aload_n hx hb d_M_takeAway_80 rfl (lv_at hl 4 rfl) ?_
        refine gM C hK hP 0 rfl 4 (by decide) k_fl_M_rest rfl d_M_takeAway_81 ?_
        refine lv_iload hx hb d_M_takeAway_84 (lv_at hl 2 rfl) ?_
        refine lv_iload hx hb d_M_takeAway_86 (lv_at hl 1 rfl) ?_
        refine lv_iload hx hb d_M_takeAway_88 (lv_at hl 0 rfl) ?_
        refine wf_cutI (pcj := 98) (ls := ls) (rest := [.int (nI i), .ref (q 4)]) (fun z => z = wf_bi (x1 != y1)) (fun z_8 ez_8 => ?_) (fun jn => ?_)
        · subst ez_8
          refine lv_iload_n hx hb d_M_takeAway_98 rfl (lv_at hl 3 rfl) ?_
          refine wf_cutI (pcj := 107) (ls := ls) (rest := [.int (nI i), .ref (q 4)]) (fun z => z = wf_bi ((x1 != y1) != cy)) (fun z_9 ez_9 => ?_) (fun jn => ?_)
          · subst ez_9
            refine wf_zast C hK hP hD hS 4 3 rfl rfl (k := i) (b := (((x1 != y1) != cy))) rfl (by omega) (by decide) d_M_takeAway_107 (fun H locs hP hD hS => ?_)
            have hP : va_P D vwCl (wM q κ (w0.1, w0.2.1, w0.2.2.1, w0.2.2.2.1, va_up w0.2.2.2.2.1 i (((x1 != y1) != cy)), w0.2.2.2.2.2)) H := hP
            have hD : va_D A (wM q κ (w0.1, w0.2.1, w0.2.2.1, w0.2.2.2.1, va_up w0.2.2.2.2.1 i (((x1 != y1) != cy)), w0.2.2.2.2.2)) := hD
            generalize eu_10 : ((w0.1, w0.2.1, w0.2.2.1, w0.2.2.2.1, va_up w0.2.2.2.2.1 i (((x1 != y1) != cy)), w0.2.2.2.2.2) : SM) = u_10 at hP hD
            refine lv_iload hx hb d_M_takeAway_108 (lv_at hl 1 rfl) ?_
            refine wf_cutI (pcj := 136) (ls := ls) (rest := []) (fun z => z = wf_bi (!x1 && (y1 || cy) || y1 && cy)) (fun z_11 ez_11 => ?_) (fun jn => ?_)
            · subst ez_11
              refine lv_istore_n (lv' := [(3, .int (wf_bi (!x1 && (y1 || cy) || y1 && cy))), (6, .int (wf_bi y1)), (5, .int (wf_bi x1)), (4, .int (nI i)), (0, .ref (q 0)), (1, .int (nI r))]) hx hb d_M_takeAway_136 rfl hl (by decide) rfl (fun ls hl => ?_)
              refine lv_iinc (v := nI (i + 1)) (lv' := [(4, .int (nI (i + 1))), (3, .int (wf_bi (!x1 && (y1 || cy) || y1 && cy))), (6, .int (wf_bi y1)), (5, .int (wf_bi x1)), (0, .ref (q 0)), (1, .int (nI r))]) hx hb d_M_takeAway_137 hl (k := 3) rfl (nI_1 _) (by decide) rfl (fun ls hl => ?_)
              refine lv_goto (tgt := 54) hx hb d_M_takeAway_140 (by decide) ?_
              exact ih (u_10, _) H locs ls ⟨by rw [← eu_10, hI.1], by rw [← eu_10]; exact wf_TI2_S hI.2 hx1 (hy1.trans (by rw [hI.1]))⟩ hP hD hS (lv_sub hl [0, 1, 4, 5] rfl)
            · refine lv_if_ne (tgt := 122) hx hb d_M_takeAway_110 (by decide) (fun c_12 => ?_) (fun c_12 => ?_)
              · refine lv_iload hx hb d_M_takeAway_122 (lv_at hl 0 rfl) ?_
                refine lv_if_eq (tgt := 135) hx hb d_M_takeAway_124 (by decide) (fun c_13 => ?_) (fun c_13 => ?_)
                · refine lv_iconst (v := 0) hx hb d_M_takeAway_135 (by decide) ?_
                  exact jn _ (by revert c_12 c_13; cases x1 <;> cases y1 <;> cases cy <;> decide)
                · refine lv_iload_n hx hb d_M_takeAway_127 rfl (lv_at hl 3 rfl) ?_
                  refine lv_if_eq (tgt := 135) hx hb d_M_takeAway_128 (by decide) (fun c_14 => ?_) (fun c_14 => ?_)
                  · refine lv_iconst (v := 0) hx hb d_M_takeAway_135 (by decide) ?_
                    exact jn _ (by revert c_12 c_13 c_14; cases x1 <;> cases y1 <;> cases cy <;> decide)
                  · refine lv_iconst (v := 1) hx hb d_M_takeAway_131 (by decide) ?_
                    refine lv_goto (tgt := 136) hx hb d_M_takeAway_132 (by decide) ?_
                    exact jn _ (by revert c_12 c_13 c_14; cases x1 <;> cases y1 <;> cases cy <;> decide)
              · refine lv_iload hx hb d_M_takeAway_113 (lv_at hl 0 rfl) ?_
                refine lv_if_ne (tgt := 131) hx hb d_M_takeAway_115 (by decide) (fun c_15 => ?_) (fun c_15 => ?_)
                · refine lv_iconst (v := 1) hx hb d_M_takeAway_131 (by decide) ?_
                  refine lv_goto (tgt := 136) hx hb d_M_takeAway_132 (by decide) ?_
                  exact jn _ (by revert c_12 c_15; cases x1 <;> cases y1 <;> cases cy <;> decide)
                · refine lv_iload_n hx hb d_M_takeAway_118 rfl (lv_at hl 3 rfl) ?_
                  refine lv_if_ne (tgt := 131) hx hb d_M_takeAway_119 (by decide) (fun c_16 => ?_) (fun c_16 => ?_)
                  · refine lv_iconst (v := 1) hx hb d_M_takeAway_131 (by decide) ?_
                    refine lv_goto (tgt := 136) hx hb d_M_takeAway_132 (by decide) ?_
                    exact jn _ (by revert c_12 c_15 c_16; cases x1 <;> cases y1 <;> cases cy <;> decide)
                  · refine lv_iload hx hb d_M_takeAway_122 (lv_at hl 0 rfl) ?_
                    refine lv_if_eq (tgt := 135) hx hb d_M_takeAway_124 (by decide) (fun c_17 => ?_) (fun c_17 => ?_)
                    · refine lv_iconst (v := 0) hx hb d_M_takeAway_135 (by decide) ?_
                      exact jn _ (by revert c_12 c_15 c_16 c_17; cases x1 <;> cases y1 <;> cases cy <;> decide)
                    · refine lv_iload_n hx hb d_M_takeAway_127 rfl (lv_at hl 3 rfl) ?_
                      refine lv_if_eq (tgt := 135) hx hb d_M_takeAway_128 (by decide) (fun c_18 => ?_) (fun c_18 => ?_)
                      · refine lv_iconst (v := 0) hx hb d_M_takeAway_135 (by decide) ?_
                        exact jn _ (by revert c_12 c_15 c_16 c_17 c_18; cases x1 <;> cases y1 <;> cases cy <;> decide)
                      · refine lv_iconst (v := 1) hx hb d_M_takeAway_131 (by decide) ?_
                        refine lv_goto (tgt := 136) hx hb d_M_takeAway_132 (by decide) ?_
                        exact jn _ (by revert c_12 c_15 c_16 c_17 c_18; cases x1 <;> cases y1 <;> cases cy <;> decide)
          · refine lv_icmp_eq (tgt := 106) hx hb d_M_takeAway_99 (by decide) (fun c_19 => ?_) (fun c_19 => ?_)
            · refine lv_iconst (v := 0) hx hb d_M_takeAway_106 (by decide) ?_
              exact jn _ (by revert c_19; cases x1 <;> cases y1 <;> cases cy <;> decide)
            · refine lv_iconst (v := 1) hx hb d_M_takeAway_102 (by decide) ?_
              refine lv_goto (tgt := 107) hx hb d_M_takeAway_103 (by decide) ?_
              exact jn _ (by revert c_19; cases x1 <;> cases y1 <;> cases cy <;> decide)
        · refine lv_icmp_eq (tgt := 97) hx hb d_M_takeAway_90 (by decide) (fun c_20 => ?_) (fun c_20 => ?_)
          · refine lv_iconst (v := 0) hx hb d_M_takeAway_97 (by decide) ?_
            exact jn _ (by revert c_20; cases x1 <;> cases y1 <;> decide)
          · refine lv_iconst (v := 1) hx hb d_M_takeAway_93 (by decide) ?_
            refine lv_goto (tgt := 98) hx hb d_M_takeAway_94 (by decide) ?_
            exact jn _ (by revert c_20; cases x1 <;> cases y1 <;> decide)
      · obtain ⟨w0, cy⟩ := x
        have hP : va_P D vwCl (wM q κ w0) H := hP
        have hD : va_D A (wM q κ w0) := hD
        have hl : lv_has ls 7 [(4, .int (nI 130)), (3, .int (wf_bi cy)), (0, .ref (q 0)), (1, .int (nI r))] := hl
        have hI : w0 = (u.1, u.2.1, u.2.2.1, u.2.2.2.1, w0.2.2.2.2.1, u.2.2.2.2.2) ∧ wf_TI2 (wf_lw u.2.1 r) u.2.2.2.2.1 w0.2.2.2.2.1 130 cy := hI
        refine lv_iload hx hb d_M_takeAway_54 (lv_at hl 0 rfl) ?_
        refine lv_sipush (v := 130) hx hb d_M_takeAway_56 (by decide) ?_
        refine lv_icmp_ge (tgt := 143) hx hb d_M_takeAway_59 (by decide) (fun c_21 => ?_) (fun c_21 => False.elim (by first | exact absurd (nI_le (Nat.le_refl 130) (by decide)) c_21 | exact absurd c_21 (nI_le (Nat.le_refl 130) (by decide))))
        refine lv_iconst (v := 1) hx hb d_M_takeAway_143 (by decide) ?_
        exact wf_retz C hr (rfl) hlocks w0 (Or.inl ⟨rfl, h1, _, hI.1, wf_TI2_end (by decide) hI.2 h1⟩) hP hK hD hS (fun _ h => h) d_M_takeAway_144
    · have h1 : ¬ wf_sm (wf_lw u.2.1 r) 130 ≤ wf_sm u.2.2.2.2.1 130 := of_decide_eq_false (hI.symm.trans ((wf_bi0 _).mp c1))
      refine lv_iconst (v := 0) hx hb d_M_takeAway_47 (by decide) ?_
      exact wf_retz C hr (rfl) hlocks u (Or.inr ⟨rfl, h1, rfl⟩) hP hK hD hS (fun _ h => h) d_M_takeAway_48

set_option maxHeartbeats 4000000 in
set_option maxRecDepth 100000 in
theorem kM_awayR {p : Program} {l : Launch} {e : Env} {R : Room} {s : State} {m : MethodId} {args : Array Value} {below : List Frame} {meth : Method} {c : Code} {H : Heap} {locs : List Loc} {cells slots : Nat} {Q : State → Prop} {cc : ByteArray} {pc nL : Nat} {ls : Array Slot} {rest : List Value} {D : va_G} {q : Nat → Nat} {κ : Nat → ClassId} {A : Nat → Prop} {u : SM} {r : Nat} (hr8 : r < 8) (C : CallFix p m c cc nL s args wG RM) (hsz : ls.size = nL) (hR : 2 ≤ R.frames ∧ 86 ≤ R.locals) (hw : (rest.map fun v => v.category).sum ≤ 8) (hc : cells + 0 ≤ R.cells ∧ slots + 0 ≤ R.slots) (hP : va_P D vwCl (wM q κ u) H) (hK : va_K D vwCl (tyM κ) s) (hD : va_D A (wM q κ u)) (hS : va_S A s.heap H locs) (hA : ∀ q, s.heap.size ≤ q → A q) (hdg : decode cc pc = .ok (.invokevirtual 62, 3)) (kk : ∀ (r_ : Int32) (v : SM) (H1 : Heap) (locs1 : List Loc), (r_ = 1 ∧ wf_sm (wf_lw u.2.1 r) 130 ≤ wf_sm u.2.2.2.2.1 130 ∧ ∃ f : Nat → Bool, v = (u.1, u.2.1, u.2.2.1, u.2.2.2.1, f, u.2.2.2.2.2) ∧ wf_sm f 130 = wf_sm u.2.2.2.2.1 130 - wf_sm (wf_lw u.2.1 r) 130) ∨ (r_ = 0 ∧ ¬ wf_sm (wf_lw u.2.1 r) 130 ≤ wf_sm u.2.2.2.2.1 130 ∧ v = u) → va_P D vwCl (wM q κ v) H1 → va_D A (wM q κ v) → va_S A s.heap H1 locs1 → W p l e R s m args below meth c H1 locs1 (cells) (slots) Q (F0 m (pc + 3) ls (.int r_ :: rest))) : W p l e R s m args below meth c H locs cells slots Q (F0 m pc ls (.int (nI r) :: .ref (q 0) :: rest)) := by
  exact wf_ci (va_runV (As := [.int (nI r)]) (rest := rest) C (c_M_takeAwayR l D q κ u r hr8 H.size) (cwV 1 C.2.2.2.2 (wG_V (fun _ h => h) k_ml_M_62 k_im_M_takeAway k_se_M_takeAway k_in_M k_M_takeAway) rfl rfl rfl (by decide +kernel) ⟨hR.1, hR.2⟩) ⟨wf_blind, va_recv hK hP (ci := 1) (q0 := 0) rfl rfl, wf_pre hP hK hD⟩ rfl rfl hsz rfl (lv_room hw) hdg ⟨hc.1, hc.2⟩) (fun _ h => h) hS hD hA kk

set_option maxHeartbeats 4000000 in
set_option maxRecDepth 100000 in
/-- M_takeAway -/
theorem c_M_takeAwayA (l : Launch) (D : va_G) (q : Nat → Nat) (κ : Nat → ClassId) (u : SM)  (sz : Nat) : Met l y_M_takeAway (.code y_M_takeAway b_M_takeAway 7 (some .boolean) :: wG) (wf_rm 1 60 0 0) (wf_Pc D vwCl (wM q κ u) (tyM κ) ([.ref (q 0), .int ((-1))]) sz) (va_Qi (fun r_ v => (r_ = 1 ∧ wf_sm (wf_lr u.2.2.2.1) 130 ≤ wf_sm u.2.2.2.2.1 130 ∧ ∃ f : Nat → Bool, v = (u.1, u.2.1, u.2.2.1, u.2.2.2.1, f, u.2.2.2.2.2) ∧ wf_sm f 130 = wf_sm u.2.2.2.2.1 130 - wf_sm (wf_lr u.2.2.2.1) 130) ∨ (r_ = 0 ∧ ¬ wf_sm (wf_lr u.2.2.2.1) 130 ≤ wf_sm u.2.2.2.2.1 130 ∧ v = u)) (wf_B D vwCl (wM q κ) (tyM κ) (va_A (wM q κ u) sz)) (va_A (wM q κ u) sz)) 0 0 (va_A (wM q κ u) sz) := by
  refine wf_open (by decide) (Nat.le_of_ble_eq_true rfl) k_M_takeAway ?_
  intro p e s m below meth c ls hsz C hr hlocks hnm hex hP hK hD hl
  subst hsz
  have hx := C.1
  have hb := C.2.1
  have hml := C.2.2.1
  have hown := C.2.2.2.1
  have hts := C.2.2.2.2
  have hA : ∀ j : Nat, s.heap.size ≤ j → va_A (wM q κ u) s.heap.size j := fun j h => Or.inr h
  have hS : va_S (va_A (wM q κ u) s.heap.size) s.heap s.heap [] := va_S.rf
  generalize hAe : va_A (wM q κ u) s.heap.size = A at hA hS hD ⊢
  have hl : lv_has ls 7 [(0, .ref (q 0)), (1, .int ((-1)))] := hl
  refine lv_iconst (v := 1) hx hb d_M_takeAway_0 (by decide) ?_
  refine lv_istore_n (lv' := [(2, .int (1)), (0, .ref (q 0)), (1, .int ((-1)))]) hx hb d_M_takeAway_1 rfl hl (by decide) rfl (fun ls hl => ?_)
  refine lv_iconst (v := 0) hx hb d_M_takeAway_2 (by decide) ?_
  refine lv_istore_n (lv' := [(3, .int (0)), (2, .int (1)), (0, .ref (q 0)), (1, .int ((-1)))]) hx hb d_M_takeAway_3 rfl hl (by decide) rfl (fun ls hl => ?_)
  refine wf_for (σ := Bool) 130 (fun i x => wf_FI (wf_lr u.2.2.2.1) u.2.2.2.2.1 i x) (fun i x => [(3, .int (nI i)), (2, .int (wf_bi x)), (0, .ref (q 0)), (1, .int ((-1)))]) (fun i x ls hi hI hl ih => ?_) (fun x ls hI hl => ?_) true (wf_FI_0 _ _) (lv_sub hl [0, 1, 2, 3] rfl)
  · have hl : lv_has ls 7 [(3, .int (nI i)), (2, .int (wf_bi x)), (0, .ref (q 0)), (1, .int ((-1)))] := hl
    have hI : wf_FI (wf_lr u.2.2.2.1) u.2.2.2.2.1 i x := hI
    refine lv_iload_n hx hb d_M_takeAway_4 rfl (lv_at hl 0 rfl) ?_
    refine lv_sipush (v := 130) hx hb d_M_takeAway_5 (by decide) ?_
    refine lv_icmp_ge (tgt := 43) hx hb d_M_takeAway_8 (by decide) (fun c_1 => False.elim (by first | exact absurd c_1 (nI_ge hi (by decide)) | exact absurd (nI_ge hi (by decide)) c_1)) (fun c_1 => ?_)
    refine lv_aload_n hx hb d_M_takeAway_11 rfl (lv_at hl 2 rfl) ?_
    refine gM C hK hP 0 rfl 4 (by decide) k_fl_M_rest rfl d_M_takeAway_12 ?_
    refine lv_iload_n hx hb d_M_takeAway_15 rfl (lv_at hl 0 rfl) ?_
    refine wf_zald C hK hP 4 3 rfl rfl (k := i) rfl (by omega) (by decide) d_M_takeAway_16 ?_
    refine lv_aload_n hx hb d_M_takeAway_17 rfl (lv_at hl 2 rfl) ?_
    refine lv_iload_n hx hb d_M_takeAway_18 rfl (lv_at hl 3 rfl) ?_
    refine lv_iload_n hx hb d_M_takeAway_19 rfl (lv_at hl 0 rfl) ?_
    refine kM_lowerA (k := i) (by omega) C hl.1 ⟨Nat.le_of_ble_eq_true rfl, Nat.le_of_ble_eq_true rfl⟩ (Nat.le_of_ble_eq_true rfl) ⟨Nat.le_of_ble_eq_true rfl, Nat.le_of_ble_eq_true rfl⟩ hP hK hD d_M_takeAway_20 (fun r_2 hr_2 => ?_)
    subst hr_2
    refine wf_cutI (pcj := 36) (ls := ls) (rest := []) (fun z => z = wf_bi (if u.2.2.2.2.1 i = wf_lr u.2.2.2.1 i then x else u.2.2.2.2.1 i)) (fun z_3 ez_3 => ?_) (fun jn => ?_)
    · subst ez_3
      refine lv_istore_n (lv' := [(2, .int (wf_bi (if u.2.2.2.2.1 i = wf_lr u.2.2.2.1 i then x else u.2.2.2.2.1 i))), (3, .int (nI i)), (0, .ref (q 0)), (1, .int ((-1)))]) hx hb d_M_takeAway_36 rfl hl (by decide) rfl (fun ls hl => ?_)
      refine lv_iinc (v := nI (i + 1)) (lv' := [(3, .int (nI (i + 1))), (2, .int (wf_bi (if u.2.2.2.2.1 i = wf_lr u.2.2.2.1 i then x else u.2.2.2.2.1 i))), (0, .ref (q 0)), (1, .int ((-1)))]) hx hb d_M_takeAway_37 hl (k := 1) rfl (nI_1 _) (by decide) rfl (fun ls hl => ?_)
      refine lv_goto (tgt := 4) hx hb d_M_takeAway_40 (by decide) ?_
      exact ih _ ls (wf_FI_S hI) (lv_sub hl [0, 1, 2, 3] rfl)
    · refine lv_icmp_ne (tgt := 30) hx hb d_M_takeAway_23 (by decide) (fun c_4 => ?_) (fun c_4 => ?_)
      · refine lv_aload_n hx hb d_M_takeAway_30 rfl (lv_at hl 2 rfl) ?_
        refine gM C hK hP 0 rfl 4 (by decide) k_fl_M_rest rfl d_M_takeAway_31 ?_
        refine lv_iload_n hx hb d_M_takeAway_34 rfl (lv_at hl 0 rfl) ?_
        refine wf_zald C hK hP 4 3 rfl rfl (k := i) rfl (by omega) (by decide) d_M_takeAway_35 ?_
        exact jn _ (by rw [if_neg (fun h => c_4 (congrArg wf_bi h))])
      · refine lv_iload_n hx hb d_M_takeAway_26 rfl (lv_at hl 1 rfl) ?_
        refine lv_goto (tgt := 36) hx hb d_M_takeAway_27 (by decide) ?_
        exact jn _ (by rw [if_pos (wf_bi_inj c_4)])
  · have hl : lv_has ls 7 [(3, .int (nI 130)), (2, .int (wf_bi x)), (0, .ref (q 0)), (1, .int ((-1)))] := hl
    have hI : wf_FI (wf_lr u.2.2.2.1) u.2.2.2.2.1 130 x := hI
    refine lv_iload_n hx hb d_M_takeAway_4 rfl (lv_at hl 0 rfl) ?_
    refine lv_sipush (v := 130) hx hb d_M_takeAway_5 (by decide) ?_
    refine lv_icmp_ge (tgt := 43) hx hb d_M_takeAway_8 (by decide) (fun c_5 => ?_) (fun c_5 => False.elim (by first | exact absurd (nI_le (Nat.le_refl 130) (by decide)) c_5 | exact absurd c_5 (nI_le (Nat.le_refl 130) (by decide))))
    refine lv_iload_n hx hb d_M_takeAway_43 rfl (lv_at hl 1 rfl) ?_
    refine lv_if_ne (tgt := 49) hx hb d_M_takeAway_44 (by decide) (fun c1 => ?_) (fun c1 => ?_)
    · have h1 : wf_sm (wf_lr u.2.2.2.1) 130 ≤ wf_sm u.2.2.2.2.1 130 := of_decide_eq_true (hI.symm.trans ((wf_bi1 _).mp c1))
      refine lv_iconst (v := 0) hx hb d_M_takeAway_49 (by decide) ?_
      refine lv_istore_n (lv' := [(3, .int (0)), (2, .int (wf_bi x)), (0, .ref (q 0)), (1, .int ((-1)))]) hx hb d_M_takeAway_50 rfl hl (by decide) rfl (fun ls hl => ?_)
      refine lv_iconst (v := 0) hx hb d_M_takeAway_51 (by decide) ?_
      refine lv_istore (lv' := [(4, .int (0)), (3, .int (0)), (2, .int (wf_bi x)), (0, .ref (q 0)), (1, .int ((-1)))]) hx hb d_M_takeAway_52 hl (by decide) rfl (fun ls hl => ?_)
      refine wf_forH (σ := SM × Bool) 130 (fun i x => x.1 = (u.1, u.2.1, u.2.2.1, u.2.2.2.1, x.1.2.2.2.2.1, u.2.2.2.2.2) ∧ wf_TI2 (wf_lr u.2.2.2.1) u.2.2.2.2.1 x.1.2.2.2.2.1 i x.2) (fun x => wM q κ x.1) (fun i x => [(4, .int (nI i)), (3, .int (wf_bi x.2)), (0, .ref (q 0)), (1, .int ((-1)))]) (fun i x H locs ls hi hI hP hD hS hl ih => ?_) (fun x H locs ls hI hP hD hS hl => ?_) (u, false) (⟨rfl, wf_TI2_0 _ _⟩) hP hD hS (lv_sub hl [0, 1, 3, 4] rfl)
      · obtain ⟨w0, cy⟩ := x
        have hP : va_P D vwCl (wM q κ w0) H := hP
        have hD : va_D A (wM q κ w0) := hD
        have hl : lv_has ls 7 [(4, .int (nI i)), (3, .int (wf_bi cy)), (0, .ref (q 0)), (1, .int ((-1)))] := hl
        have hI : w0 = (u.1, u.2.1, u.2.2.1, u.2.2.2.1, w0.2.2.2.2.1, u.2.2.2.2.2) ∧ wf_TI2 (wf_lr u.2.2.2.1) u.2.2.2.2.1 w0.2.2.2.2.1 i cy := hI
        refine lv_iload hx hb d_M_takeAway_54 (lv_at hl 0 rfl) ?_
        refine lv_sipush (v := 130) hx hb d_M_takeAway_56 (by decide) ?_
        refine lv_icmp_ge (tgt := 143) hx hb d_M_takeAway_59 (by decide) (fun c_6 => False.elim (by first | exact absurd c_6 (nI_ge hi (by decide)) | exact absurd (nI_ge hi (by decide)) c_6)) (fun c_6 => ?_)
        refine lv_aload_n hx hb d_M_takeAway_62 rfl (lv_at hl 2 rfl) ?_
        refine gM C hK hP 0 rfl 4 (by decide) k_fl_M_rest rfl d_M_takeAway_63 ?_
        refine lv_iload hx hb d_M_takeAway_66 (lv_at hl 0 rfl) ?_
        refine wf_zald C hK hP 4 3 rfl rfl (k := i) rfl (by omega) (by decide) d_M_takeAway_68 ?_
        obtain ⟨x1, hx1⟩ : ∃ b : Bool, b = w0.2.2.2.2.1 i := ⟨_, rfl⟩
        rw [← hx1]
        refine lv_istore (lv' := [(5, .int (wf_bi x1)), (4, .int (nI i)), (3, .int (wf_bi cy)), (0, .ref (q 0)), (1, .int ((-1)))]) hx hb d_M_takeAway_69 hl (by decide) rfl (fun ls hl => ?_)
        refine lv_aload_n hx hb d_M_takeAway_71 rfl (lv_at hl 3 rfl) ?_
        refine lv_iload_n hx hb d_M_takeAway_72 rfl (lv_at hl 4 rfl) ?_
        refine lv_iload hx hb d_M_takeAway_73 (lv_at hl 1 rfl) ?_
        refine kM_lowerA (k := i) (by omega) C hl.1 ⟨Nat.le_of_ble_eq_true rfl, Nat.le_of_ble_eq_true rfl⟩ (Nat.le_of_ble_eq_true rfl) ⟨Nat.le_of_ble_eq_true rfl, Nat.le_of_ble_eq_true rfl⟩ hP hK hD d_M_takeAway_75 (fun r_7 hr_7 => ?_)
        subst hr_7
        obtain ⟨y1, hy1⟩ : ∃ b : Bool, b = wf_lr w0.2.2.2.1 i := ⟨_, rfl⟩
        rw [← hy1]
        refine lv_istore (lv' := [(6, .int (wf_bi y1)), (5, .int (wf_bi x1)), (4, .int (nI i)), (3, .int (wf_bi cy)), (0, .ref (q 0)), (1, .int ((-1)))]) hx hb d_M_takeAway_78 hl (by decide) rfl (fun ls hl => ?_)
        refine lv_aload_n hx hb d_M_takeAway_80 rfl (lv_at hl 4 rfl) ?_
        refine gM C hK hP 0 rfl 4 (by decide) k_fl_M_rest rfl d_M_takeAway_81 ?_
        refine lv_iload hx hb d_M_takeAway_84 (lv_at hl 2 rfl) ?_
        refine lv_iload hx hb d_M_takeAway_86 (lv_at hl 1 rfl) ?_
        refine lv_iload hx hb d_M_takeAway_88 (lv_at hl 0 rfl) ?_
        refine wf_cutI (pcj := 98) (ls := ls) (rest := [.int (nI i), .ref (q 4)]) (fun z => z = wf_bi (x1 != y1)) (fun z_8 ez_8 => ?_) (fun jn => ?_)
        · subst ez_8
          refine lv_iload_n hx hb d_M_takeAway_98 rfl (lv_at hl 3 rfl) ?_
          refine wf_cutI (pcj := 107) (ls := ls) (rest := [.int (nI i), .ref (q 4)]) (fun z => z = wf_bi ((x1 != y1) != cy)) (fun z_9 ez_9 => ?_) (fun jn => ?_)
          · subst ez_9
            refine wf_zast C hK hP hD hS 4 3 rfl rfl (k := i) (b := (((x1 != y1) != cy))) rfl (by omega) (by decide) d_M_takeAway_107 (fun H locs hP hD hS => ?_)
            have hP : va_P D vwCl (wM q κ (w0.1, w0.2.1, w0.2.2.1, w0.2.2.2.1, va_up w0.2.2.2.2.1 i (((x1 != y1) != cy)), w0.2.2.2.2.2)) H := hP
            have hD : va_D A (wM q κ (w0.1, w0.2.1, w0.2.2.1, w0.2.2.2.1, va_up w0.2.2.2.2.1 i (((x1 != y1) != cy)), w0.2.2.2.2.2)) := hD
            generalize eu_10 : ((w0.1, w0.2.1, w0.2.2.1, w0.2.2.2.1, va_up w0.2.2.2.2.1 i (((x1 != y1) != cy)), w0.2.2.2.2.2) : SM) = u_10 at hP hD
            refine lv_iload hx hb d_M_takeAway_108 (lv_at hl 1 rfl) ?_
            refine wf_cutI (pcj := 136) (ls := ls) (rest := []) (fun z => z = wf_bi (!x1 && (y1 || cy) || y1 && cy)) (fun z_11 ez_11 => ?_) (fun jn => ?_)
            · subst ez_11
              refine lv_istore_n (lv' := [(3, .int (wf_bi (!x1 && (y1 || cy) || y1 && cy))), (6, .int (wf_bi y1)), (5, .int (wf_bi x1)), (4, .int (nI i)), (0, .ref (q 0)), (1, .int ((-1)))]) hx hb d_M_takeAway_136 rfl hl (by decide) rfl (fun ls hl => ?_)
              refine lv_iinc (v := nI (i + 1)) (lv' := [(4, .int (nI (i + 1))), (3, .int (wf_bi (!x1 && (y1 || cy) || y1 && cy))), (6, .int (wf_bi y1)), (5, .int (wf_bi x1)), (0, .ref (q 0)), (1, .int ((-1)))]) hx hb d_M_takeAway_137 hl (k := 3) rfl (nI_1 _) (by decide) rfl (fun ls hl => ?_)
              refine lv_goto (tgt := 54) hx hb d_M_takeAway_140 (by decide) ?_
              exact ih (u_10, _) H locs ls ⟨by rw [← eu_10, hI.1], by rw [← eu_10]; exact wf_TI2_S hI.2 hx1 (hy1.trans (by rw [hI.1]))⟩ hP hD hS (lv_sub hl [0, 1, 4, 5] rfl)
            · refine lv_if_ne (tgt := 122) hx hb d_M_takeAway_110 (by decide) (fun c_12 => ?_) (fun c_12 => ?_)
              · refine lv_iload hx hb d_M_takeAway_122 (lv_at hl 0 rfl) ?_
                refine lv_if_eq (tgt := 135) hx hb d_M_takeAway_124 (by decide) (fun c_13 => ?_) (fun c_13 => ?_)
                · refine lv_iconst (v := 0) hx hb d_M_takeAway_135 (by decide) ?_
                  exact jn _ (by revert c_12 c_13; cases x1 <;> cases y1 <;> cases cy <;> decide)
                · refine lv_iload_n hx hb d_M_takeAway_127 rfl (lv_at hl 3 rfl) ?_
                  refine lv_if_eq (tgt := 135) hx hb d_M_takeAway_128 (by decide) (fun c_14 => ?_) (fun c_14 => ?_)
                  · refine lv_iconst (v := 0) hx hb d_M_takeAway_135 (by decide) ?_
                    exact jn _ (by revert c_12 c_13 c_14; cases x1 <;> cases y1 <;> cases cy <;> decide)
                  · refine lv_iconst (v := 1) hx hb d_M_takeAway_131 (by decide) ?_
                    refine lv_goto (tgt := 136) hx hb d_M_takeAway_132 (by decide) ?_
                    exact jn _ (by revert c_12 c_13 c_14; cases x1 <;> cases y1 <;> cases cy <;> decide)
              · refine lv_iload hx hb d_M_takeAway_113 (lv_at hl 0 rfl) ?_
                refine lv_if_ne (tgt := 131) hx hb d_M_takeAway_115 (by decide) (fun c_15 => ?_) (fun c_15 => ?_)
                · refine lv_iconst (v := 1) hx hb d_M_takeAway_131 (by decide) ?_
                  refine lv_goto (tgt := 136) hx hb d_M_takeAway_132 (by decide) ?_
                  exact jn _ (by revert c_12 c_15; cases x1 <;> cases y1 <;> cases cy <;> decide)
                · refine lv_iload_n hx hb d_M_takeAway_118 rfl (lv_at hl 3 rfl) ?_
                  refine lv_if_ne (tgt := 131) hx hb d_M_takeAway_119 (by decide) (fun c_16 => ?_) (fun c_16 => ?_)
                  · refine lv_iconst (v := 1) hx hb d_M_takeAway_131 (by decide) ?_
                    refine lv_goto (tgt := 136) hx hb d_M_takeAway_132 (by decide) ?_
                    exact jn _ (by revert c_12 c_15 c_16; cases x1 <;> cases y1 <;> cases cy <;> decide)
                  · refine lv_iload hx hb d_M_takeAway_122 (lv_at hl 0 rfl) ?_
                    refine lv_if_eq (tgt := 135) hx hb d_M_takeAway_124 (by decide) (fun c_17 => ?_) (fun c_17 => ?_)
                    · refine lv_iconst (v := 0) hx hb d_M_takeAway_135 (by decide) ?_
                      exact jn _ (by revert c_12 c_15 c_16 c_17; cases x1 <;> cases y1 <;> cases cy <;> decide)
                    · refine lv_iload_n hx hb d_M_takeAway_127 rfl (lv_at hl 3 rfl) ?_
                      refine lv_if_eq (tgt := 135) hx hb d_M_takeAway_128 (by decide) (fun c_18 => ?_) (fun c_18 => ?_)
                      · refine lv_iconst (v := 0) hx hb d_M_takeAway_135 (by decide) ?_
                        exact jn _ (by revert c_12 c_15 c_16 c_17 c_18; cases x1 <;> cases y1 <;> cases cy <;> decide)
                      · refine lv_iconst (v := 1) hx hb d_M_takeAway_131 (by decide) ?_
                        refine lv_goto (tgt := 136) hx hb d_M_takeAway_132 (by decide) ?_
                        exact jn _ (by revert c_12 c_15 c_16 c_17 c_18; cases x1 <;> cases y1 <;> cases cy <;> decide)
          · refine lv_icmp_eq (tgt := 106) hx hb d_M_takeAway_99 (by decide) (fun c_19 => ?_) (fun c_19 => ?_)
            · refine lv_iconst (v := 0) hx hb d_M_takeAway_106 (by decide) ?_
              exact jn _ (by revert c_19; cases x1 <;> cases y1 <;> cases cy <;> decide)
            · refine lv_iconst (v := 1) hx hb d_M_takeAway_102 (by decide) ?_
              refine lv_goto (tgt := 107) hx hb d_M_takeAway_103 (by decide) ?_
              exact jn _ (by revert c_19; cases x1 <;> cases y1 <;> cases cy <;> decide)
        · refine lv_icmp_eq (tgt := 97) hx hb d_M_takeAway_90 (by decide) (fun c_20 => ?_) (fun c_20 => ?_)
          · refine lv_iconst (v := 0) hx hb d_M_takeAway_97 (by decide) ?_
            exact jn _ (by revert c_20; cases x1 <;> cases y1 <;> decide)
          · refine lv_iconst (v := 1) hx hb d_M_takeAway_93 (by decide) ?_
            refine lv_goto (tgt := 98) hx hb d_M_takeAway_94 (by decide) ?_
            exact jn _ (by revert c_20; cases x1 <;> cases y1 <;> decide)
      · obtain ⟨w0, cy⟩ := x
        have hP : va_P D vwCl (wM q κ w0) H := hP
        have hD : va_D A (wM q κ w0) := hD
        have hl : lv_has ls 7 [(4, .int (nI 130)), (3, .int (wf_bi cy)), (0, .ref (q 0)), (1, .int ((-1)))] := hl
        have hI : w0 = (u.1, u.2.1, u.2.2.1, u.2.2.2.1, w0.2.2.2.2.1, u.2.2.2.2.2) ∧ wf_TI2 (wf_lr u.2.2.2.1) u.2.2.2.2.1 w0.2.2.2.2.1 130 cy := hI
        refine lv_iload hx hb d_M_takeAway_54 (lv_at hl 0 rfl) ?_
        refine lv_sipush (v := 130) hx hb d_M_takeAway_56 (by decide) ?_
        refine lv_icmp_ge (tgt := 143) hx hb d_M_takeAway_59 (by decide) (fun c_21 => ?_) (fun c_21 => False.elim (by first | exact absurd (nI_le (Nat.le_refl 130) (by decide)) c_21 | exact absurd c_21 (nI_le (Nat.le_refl 130) (by decide))))
        refine lv_iconst (v := 1) hx hb d_M_takeAway_143 (by decide) ?_
        exact wf_retz C hr (rfl) hlocks w0 (Or.inl ⟨rfl, h1, _, hI.1, wf_TI2_end (by decide) hI.2 h1⟩) hP hK hD hS (fun _ h => h) d_M_takeAway_144
    · have h1 : ¬ wf_sm (wf_lr u.2.2.2.1) 130 ≤ wf_sm u.2.2.2.2.1 130 := of_decide_eq_false (hI.symm.trans ((wf_bi0 _).mp c1))
      refine lv_iconst (v := 0) hx hb d_M_takeAway_47 (by decide) ?_
      exact wf_retz C hr (rfl) hlocks u (Or.inr ⟨rfl, h1, rfl⟩) hP hK hD hS (fun _ h => h) d_M_takeAway_48

set_option maxHeartbeats 4000000 in
set_option maxRecDepth 100000 in
theorem kM_awayA {p : Program} {l : Launch} {e : Env} {R : Room} {s : State} {m : MethodId} {args : Array Value} {below : List Frame} {meth : Method} {c : Code} {H : Heap} {locs : List Loc} {cells slots : Nat} {Q : State → Prop} {cc : ByteArray} {pc nL : Nat} {ls : Array Slot} {rest : List Value} {D : va_G} {q : Nat → Nat} {κ : Nat → ClassId} {A : Nat → Prop} {u : SM}  (C : CallFix p m c cc nL s args wG RM) (hsz : ls.size = nL) (hR : 2 ≤ R.frames ∧ 86 ≤ R.locals) (hw : (rest.map fun v => v.category).sum ≤ 8) (hc : cells + 0 ≤ R.cells ∧ slots + 0 ≤ R.slots) (hP : va_P D vwCl (wM q κ u) H) (hK : va_K D vwCl (tyM κ) s) (hD : va_D A (wM q κ u)) (hS : va_S A s.heap H locs) (hA : ∀ q, s.heap.size ≤ q → A q) (hdg : decode cc pc = .ok (.invokevirtual 62, 3)) (kk : ∀ (r_ : Int32) (v : SM) (H1 : Heap) (locs1 : List Loc), (r_ = 1 ∧ wf_sm (wf_lr u.2.2.2.1) 130 ≤ wf_sm u.2.2.2.2.1 130 ∧ ∃ f : Nat → Bool, v = (u.1, u.2.1, u.2.2.1, u.2.2.2.1, f, u.2.2.2.2.2) ∧ wf_sm f 130 = wf_sm u.2.2.2.2.1 130 - wf_sm (wf_lr u.2.2.2.1) 130) ∨ (r_ = 0 ∧ ¬ wf_sm (wf_lr u.2.2.2.1) 130 ≤ wf_sm u.2.2.2.2.1 130 ∧ v = u) → va_P D vwCl (wM q κ v) H1 → va_D A (wM q κ v) → va_S A s.heap H1 locs1 → W p l e R s m args below meth c H1 locs1 (cells) (slots) Q (F0 m (pc + 3) ls (.int r_ :: rest))) : W p l e R s m args below meth c H locs cells slots Q (F0 m pc ls (.int ((-1)) :: .ref (q 0) :: rest)) := by
  exact wf_ci (va_runV (As := [.int ((-1))]) (rest := rest) C (c_M_takeAwayA l D q κ u  H.size) (cwV 1 C.2.2.2.2 (wG_V (fun _ h => h) k_ml_M_62 k_im_M_takeAway k_se_M_takeAway k_in_M k_M_takeAway) rfl rfl rfl (by decide +kernel) ⟨hR.1, hR.2⟩) ⟨wf_blind, va_recv hK hP (ci := 1) (q0 := 0) rfl rfl, wf_pre hP hK hD⟩ rfl rfl hsz rfl (lv_room hw) hdg ⟨hc.1, hc.2⟩) (fun _ h => h) hS hD hA kk

set_option maxHeartbeats 4000000 in
set_option maxRecDepth 100000 in
/-- M_join -/
theorem c_M_joinAdd (l : Launch) (D : va_G) (q : Nat → Nat) (κ : Nat → ClassId) (u : SM)  (sz : Nat) : Met l y_M_join (.code y_M_join b_M_join 7 (some .boolean) :: wG) (wf_rm 0 0 0 0) (wf_Pc D vwCl (wM q κ u) (tyM κ) ([.ref (q 0), .int 0]) sz) (va_Qi (fun r v => ∃ c_ : Bool, r = wf_bi c_ ∧ v = (u.1, v.2.1, u.2.2) ∧ wf_JA u.2.1 v.2.1 128 c_) (wf_B D vwCl (wM q κ) (tyM κ) (va_A (wM q κ u) sz)) (va_A (wM q κ u) sz)) 0 0 (va_A (wM q κ u) sz) := by
  refine wf_open (by decide) (Nat.le_of_ble_eq_true rfl) k_M_join ?_
  intro p e s m below meth c ls hsz C hr hlocks hnm hex hP hK hD hl
  subst hsz
  have hx := C.1
  have hb := C.2.1
  have hml := C.2.2.1
  have hown := C.2.2.2.1
  have hts := C.2.2.2.2
  have hA : ∀ j : Nat, s.heap.size ≤ j → va_A (wM q κ u) s.heap.size j := fun j h => Or.inr h
  have hS : va_S (va_A (wM q κ u) s.heap.size) s.heap s.heap [] := va_S.rf
  generalize hAe : va_A (wM q κ u) s.heap.size = A at hA hS hD ⊢
  have hl : lv_has ls 7 [(0, .ref (q 0)), (1, .int (0))] := hl
  refine lv_iconst (v := 0) hx hb d_M_join_0 (by decide) ?_
  refine lv_istore_n (lv' := [(2, .int (0)), (0, .ref (q 0)), (1, .int (0))]) hx hb d_M_join_1 rfl hl (by decide) rfl (fun ls hl => ?_)
  refine lv_iconst (v := 0) hx hb d_M_join_2 (by decide) ?_
  refine lv_istore_n (lv' := [(3, .int (0)), (2, .int (0)), (0, .ref (q 0)), (1, .int (0))]) hx hb d_M_join_3 rfl hl (by decide) rfl (fun ls hl => ?_)
  refine wf_forH (σ := SM × Bool) 128 (fun i x => x.1 = (u.1, x.1.2.1, u.2.2) ∧ wf_JA u.2.1 x.1.2.1 i x.2) (fun x => wM q κ x.1) (fun i x => [(3, .int (nI i)), (2, .int (wf_bi x.2)), (0, .ref (q 0)), (1, .int (0))]) (fun i x H locs ls hi hI hP hD hS hl ih => ?_) (fun x H locs ls hI hP hD hS hl => ?_) (u, false) (⟨rfl, fun _ _ => rfl, rfl⟩) hP hD hS (lv_sub hl [0, 1, 2, 3] rfl)
  · obtain ⟨w0, cy⟩ := x
    have hP : va_P D vwCl (wM q κ w0) H := hP
    have hD : va_D A (wM q κ w0) := hD
    have hl : lv_has ls 7 [(3, .int (nI i)), (2, .int (wf_bi cy)), (0, .ref (q 0)), (1, .int (0))] := hl
    have hI : w0 = (u.1, w0.2.1, u.2.2) ∧ wf_JA u.2.1 w0.2.1 i cy := hI
    refine lv_iload_n hx hb d_M_join_4 rfl (lv_at hl 0 rfl) ?_
    refine lv_sipush (v := 128) hx hb d_M_join_5 (by decide) ?_
    refine lv_icmp_ge (tgt := 145) hx hb d_M_join_8 (by decide) (fun c_1 => False.elim (by first | exact absurd c_1 (nI_ge hi (by decide)) | exact absurd (nI_ge hi (by decide)) c_1)) (fun c_1 => ?_)
    refine lv_aload_n hx hb d_M_join_11 rfl (lv_at hl 2 rfl) ?_
    refine gM C hK hP 0 rfl 1 (by decide) k_fl_M_bits rfl d_M_join_12 ?_
    refine lv_sipush (v := 1024) hx hb d_M_join_15 (by decide) ?_
    refine lv_iload_n hx hb d_M_join_18 rfl (lv_at hl 0 rfl) ?_
    refine lv_iadd hx hb d_M_join_19 ?_
    refine wf_zald C hK hP 1 0 rfl rfl (k := 1024 + i) (wf_ia rfl rfl) (by omega) (by decide) d_M_join_20 ?_
    obtain ⟨a1, ha1⟩ : ∃ b : Bool, b = w0.2.1 (1024 + i) := ⟨_, rfl⟩
    rw [← ha1]
    refine lv_istore (lv' := [(4, .int (wf_bi a1)), (3, .int (nI i)), (2, .int (wf_bi cy)), (0, .ref (q 0)), (1, .int (0))]) hx hb d_M_join_21 hl (by decide) rfl (fun ls hl => ?_)
    refine lv_aload_n hx hb d_M_join_23 rfl (lv_at hl 3 rfl) ?_
    refine gM C hK hP 0 rfl 1 (by decide) k_fl_M_bits rfl d_M_join_24 ?_
    refine lv_sipush (v := 1152) hx hb d_M_join_27 (by decide) ?_
    refine lv_iload_n hx hb d_M_join_30 rfl (lv_at hl 1 rfl) ?_
    refine lv_iadd hx hb d_M_join_31 ?_
    refine wf_zald C hK hP 1 0 rfl rfl (k := 1152 + i) (wf_ia rfl rfl) (by omega) (by decide) d_M_join_32 ?_
    obtain ⟨b1, hb1⟩ : ∃ b : Bool, b = w0.2.1 (1152 + i) := ⟨_, rfl⟩
    rw [← hb1]
    refine lv_istore (lv' := [(5, .int (wf_bi b1)), (4, .int (wf_bi a1)), (3, .int (nI i)), (2, .int (wf_bi cy)), (0, .ref (q 0)), (1, .int (0))]) hx hb d_M_join_33 hl (by decide) rfl (fun ls hl => ?_)
    refine lv_iload hx hb d_M_join_35 (lv_at hl 1 rfl) ?_
    refine lv_iload hx hb d_M_join_37 (lv_at hl 0 rfl) ?_
    refine wf_cutI (pcj := 47) (ls := ls) (rest := []) (fun z => z = wf_bi (a1 != b1)) (fun z_2 ez_2 => ?_) (fun jn => ?_)
    · subst ez_2
      refine lv_iload_n hx hb d_M_join_47 rfl (lv_at hl 3 rfl) ?_
      refine wf_cutI (pcj := 56) (ls := ls) (rest := []) (fun z => z = wf_bi ((a1 != b1) != cy)) (fun z_3 ez_3 => ?_) (fun jn => ?_)
      · subst ez_3
        refine lv_istore (lv' := [(6, .int (wf_bi ((a1 != b1) != cy))), (5, .int (wf_bi b1)), (4, .int (wf_bi a1)), (3, .int (nI i)), (2, .int (wf_bi cy)), (0, .ref (q 0)), (1, .int (0))]) hx hb d_M_join_56 hl (by decide) rfl (fun ls hl => ?_)
        refine lv_iload_n hx hb d_M_join_58 rfl (lv_at hl 6 rfl) ?_
        refine lv_if_eq (tgt := 93) hx hb d_M_join_59 (by decide) (fun _ => ?_) (fun c_4 => False.elim (absurd c_4 (by decide)))
        refine lv_iload hx hb d_M_join_93 (lv_at hl 2 rfl) ?_
        refine wf_cutI (pcj := 126) (ls := ls) (rest := []) (fun z => z = wf_bi (a1 && b1 || a1 && cy || b1 && cy)) (fun z_5 ez_5 => ?_) (fun jn => ?_)
        · subst ez_5
          refine lv_istore_n (lv' := [(2, .int (wf_bi (a1 && b1 || a1 && cy || b1 && cy))), (6, .int (wf_bi ((a1 != b1) != cy))), (5, .int (wf_bi b1)), (4, .int (wf_bi a1)), (3, .int (nI i)), (0, .ref (q 0)), (1, .int (0))]) hx hb d_M_join_126 rfl hl (by decide) rfl (fun ls hl => ?_)
          refine lv_aload_n hx hb d_M_join_127 rfl (lv_at hl 5 rfl) ?_
          refine gM C hK hP 0 rfl 1 (by decide) k_fl_M_bits rfl d_M_join_128 ?_
          refine lv_sipush (v := 1024) hx hb d_M_join_131 (by decide) ?_
          refine lv_iload_n hx hb d_M_join_134 rfl (lv_at hl 4 rfl) ?_
          refine lv_iadd hx hb d_M_join_135 ?_
          refine lv_iload hx hb d_M_join_136 (lv_at hl 1 rfl) ?_
          refine wf_zast C hK hP hD hS 1 0 rfl rfl (k := 1024 + i) (b := (((a1 != b1) != cy))) (wf_ia rfl rfl) (by omega) (by decide) d_M_join_138 (fun H locs hP hD hS => ?_)
          have hP : va_P D vwCl (wM q κ (w0.1, va_up w0.2.1 (1024 + i) (((a1 != b1) != cy)), w0.2.2)) H := hP
          have hD : va_D A (wM q κ (w0.1, va_up w0.2.1 (1024 + i) (((a1 != b1) != cy)), w0.2.2)) := hD
          generalize eu_6 : ((w0.1, va_up w0.2.1 (1024 + i) (((a1 != b1) != cy)), w0.2.2) : SM) = u_6 at hP hD
          refine lv_iinc (v := nI (i + 1)) (lv' := [(3, .int (nI (i + 1))), (2, .int (wf_bi (a1 && b1 || a1 && cy || b1 && cy))), (6, .int (wf_bi ((a1 != b1) != cy))), (5, .int (wf_bi b1)), (4, .int (wf_bi a1)), (0, .ref (q 0)), (1, .int (0))]) hx hb d_M_join_139 hl (k := 4) rfl (nI_1 _) (by decide) rfl (fun ls hl => ?_)
          refine lv_goto (tgt := 4) hx hb d_M_join_142 (by decide) ?_
          exact ih (u_6, _) H locs ls ⟨by rw [← eu_6, hI.1], by rw [← eu_6]; exact wf_JA_S hi hI.2 ha1 hb1⟩ hP hD hS (lv_sub hl [0, 1, 5, 6] rfl)
        · refine lv_if_eq (tgt := 103) hx hb d_M_join_95 (by decide) (fun c_7 => ?_) (fun c_7 => ?_)
          · refine lv_iload hx hb d_M_join_103 (lv_at hl 2 rfl) ?_
            refine lv_if_eq (tgt := 112) hx hb d_M_join_105 (by decide) (fun c_8 => ?_) (fun c_8 => ?_)
            · refine lv_iload hx hb d_M_join_112 (lv_at hl 1 rfl) ?_
              refine lv_if_eq (tgt := 125) hx hb d_M_join_114 (by decide) (fun c_9 => ?_) (fun c_9 => ?_)
              · refine lv_iconst (v := 0) hx hb d_M_join_125 (by decide) ?_
                exact jn _ (by revert c_7 c_8 c_9; cases a1 <;> cases b1 <;> cases cy <;> decide)
              · refine lv_iload_n hx hb d_M_join_117 rfl (lv_at hl 4 rfl) ?_
                refine lv_if_eq (tgt := 125) hx hb d_M_join_118 (by decide) (fun c_10 => ?_) (fun c_10 => ?_)
                · refine lv_iconst (v := 0) hx hb d_M_join_125 (by decide) ?_
                  exact jn _ (by revert c_7 c_8 c_9 c_10; cases a1 <;> cases b1 <;> cases cy <;> decide)
                · refine lv_iconst (v := 1) hx hb d_M_join_121 (by decide) ?_
                  refine lv_goto (tgt := 126) hx hb d_M_join_122 (by decide) ?_
                  exact jn _ (by revert c_7 c_8 c_9 c_10; cases a1 <;> cases b1 <;> cases cy <;> decide)
            · refine lv_iload_n hx hb d_M_join_108 rfl (lv_at hl 4 rfl) ?_
              refine lv_if_ne (tgt := 121) hx hb d_M_join_109 (by decide) (fun c_11 => ?_) (fun c_11 => ?_)
              · refine lv_iconst (v := 1) hx hb d_M_join_121 (by decide) ?_
                refine lv_goto (tgt := 126) hx hb d_M_join_122 (by decide) ?_
                exact jn _ (by revert c_7 c_8 c_11; cases a1 <;> cases b1 <;> cases cy <;> decide)
              · refine lv_iload hx hb d_M_join_112 (lv_at hl 1 rfl) ?_
                refine lv_if_eq (tgt := 125) hx hb d_M_join_114 (by decide) (fun c_12 => ?_) (fun c_12 => ?_)
                · refine lv_iconst (v := 0) hx hb d_M_join_125 (by decide) ?_
                  exact jn _ (by revert c_7 c_8 c_11 c_12; cases a1 <;> cases b1 <;> cases cy <;> decide)
                · refine lv_iload_n hx hb d_M_join_117 rfl (lv_at hl 4 rfl) ?_
                  refine lv_if_eq (tgt := 125) hx hb d_M_join_118 (by decide) (fun c_13 => ?_) (fun c_13 => ?_)
                  · refine lv_iconst (v := 0) hx hb d_M_join_125 (by decide) ?_
                    exact jn _ (by revert c_7 c_8 c_11 c_12 c_13; cases a1 <;> cases b1 <;> cases cy <;> decide)
                  · refine lv_iconst (v := 1) hx hb d_M_join_121 (by decide) ?_
                    refine lv_goto (tgt := 126) hx hb d_M_join_122 (by decide) ?_
                    exact jn _ (by revert c_7 c_8 c_11 c_12 c_13; cases a1 <;> cases b1 <;> cases cy <;> decide)
          · refine lv_iload hx hb d_M_join_98 (lv_at hl 1 rfl) ?_
            refine lv_if_ne (tgt := 121) hx hb d_M_join_100 (by decide) (fun c_14 => ?_) (fun c_14 => ?_)
            · refine lv_iconst (v := 1) hx hb d_M_join_121 (by decide) ?_
              refine lv_goto (tgt := 126) hx hb d_M_join_122 (by decide) ?_
              exact jn _ (by revert c_7 c_14; cases a1 <;> cases b1 <;> cases cy <;> decide)
            · refine lv_iload hx hb d_M_join_103 (lv_at hl 2 rfl) ?_
              refine lv_if_eq (tgt := 112) hx hb d_M_join_105 (by decide) (fun c_15 => ?_) (fun c_15 => ?_)
              · refine lv_iload hx hb d_M_join_112 (lv_at hl 1 rfl) ?_
                refine lv_if_eq (tgt := 125) hx hb d_M_join_114 (by decide) (fun c_16 => ?_) (fun c_16 => ?_)
                · refine lv_iconst (v := 0) hx hb d_M_join_125 (by decide) ?_
                  exact jn _ (by revert c_7 c_14 c_15 c_16; cases a1 <;> cases b1 <;> cases cy <;> decide)
                · refine lv_iload_n hx hb d_M_join_117 rfl (lv_at hl 4 rfl) ?_
                  refine lv_if_eq (tgt := 125) hx hb d_M_join_118 (by decide) (fun c_17 => ?_) (fun c_17 => ?_)
                  · refine lv_iconst (v := 0) hx hb d_M_join_125 (by decide) ?_
                    exact jn _ (by revert c_7 c_14 c_15 c_16 c_17; cases a1 <;> cases b1 <;> cases cy <;> decide)
                  · refine lv_iconst (v := 1) hx hb d_M_join_121 (by decide) ?_
                    refine lv_goto (tgt := 126) hx hb d_M_join_122 (by decide) ?_
                    exact jn _ (by revert c_7 c_14 c_15 c_16 c_17; cases a1 <;> cases b1 <;> cases cy <;> decide)
              · refine lv_iload_n hx hb d_M_join_108 rfl (lv_at hl 4 rfl) ?_
                refine lv_if_ne (tgt := 121) hx hb d_M_join_109 (by decide) (fun c_18 => ?_) (fun c_18 => ?_)
                · refine lv_iconst (v := 1) hx hb d_M_join_121 (by decide) ?_
                  refine lv_goto (tgt := 126) hx hb d_M_join_122 (by decide) ?_
                  exact jn _ (by revert c_7 c_14 c_15 c_18; cases a1 <;> cases b1 <;> cases cy <;> decide)
                · refine lv_iload hx hb d_M_join_112 (lv_at hl 1 rfl) ?_
                  refine lv_if_eq (tgt := 125) hx hb d_M_join_114 (by decide) (fun c_19 => ?_) (fun c_19 => ?_)
                  · refine lv_iconst (v := 0) hx hb d_M_join_125 (by decide) ?_
                    exact jn _ (by revert c_7 c_14 c_15 c_18 c_19; cases a1 <;> cases b1 <;> cases cy <;> decide)
                  · refine lv_iload_n hx hb d_M_join_117 rfl (lv_at hl 4 rfl) ?_
                    refine lv_if_eq (tgt := 125) hx hb d_M_join_118 (by decide) (fun c_20 => ?_) (fun c_20 => ?_)
                    · refine lv_iconst (v := 0) hx hb d_M_join_125 (by decide) ?_
                      exact jn _ (by revert c_7 c_14 c_15 c_18 c_19 c_20; cases a1 <;> cases b1 <;> cases cy <;> decide)
                    · refine lv_iconst (v := 1) hx hb d_M_join_121 (by decide) ?_
                      refine lv_goto (tgt := 126) hx hb d_M_join_122 (by decide) ?_
                      exact jn _ (by revert c_7 c_14 c_15 c_18 c_19 c_20; cases a1 <;> cases b1 <;> cases cy <;> decide)
      · refine lv_icmp_eq (tgt := 55) hx hb d_M_join_48 (by decide) (fun c_21 => ?_) (fun c_21 => ?_)
        · refine lv_iconst (v := 0) hx hb d_M_join_55 (by decide) ?_
          exact jn _ (by revert c_21; cases a1 <;> cases b1 <;> cases cy <;> decide)
        · refine lv_iconst (v := 1) hx hb d_M_join_51 (by decide) ?_
          refine lv_goto (tgt := 56) hx hb d_M_join_52 (by decide) ?_
          exact jn _ (by revert c_21; cases a1 <;> cases b1 <;> cases cy <;> decide)
    · refine lv_icmp_eq (tgt := 46) hx hb d_M_join_39 (by decide) (fun c_22 => ?_) (fun c_22 => ?_)
      · refine lv_iconst (v := 0) hx hb d_M_join_46 (by decide) ?_
        exact jn _ (by revert c_22; cases a1 <;> cases b1 <;> decide)
      · refine lv_iconst (v := 1) hx hb d_M_join_42 (by decide) ?_
        refine lv_goto (tgt := 47) hx hb d_M_join_43 (by decide) ?_
        exact jn _ (by revert c_22; cases a1 <;> cases b1 <;> decide)
  · obtain ⟨w0, cy⟩ := x
    have hP : va_P D vwCl (wM q κ w0) H := hP
    have hD : va_D A (wM q κ w0) := hD
    have hl : lv_has ls 7 [(3, .int (nI 128)), (2, .int (wf_bi cy)), (0, .ref (q 0)), (1, .int (0))] := hl
    have hI : w0 = (u.1, w0.2.1, u.2.2) ∧ wf_JA u.2.1 w0.2.1 128 cy := hI
    refine lv_iload_n hx hb d_M_join_4 rfl (lv_at hl 0 rfl) ?_
    refine lv_sipush (v := 128) hx hb d_M_join_5 (by decide) ?_
    refine lv_icmp_ge (tgt := 145) hx hb d_M_join_8 (by decide) (fun c_23 => ?_) (fun c_23 => False.elim (by first | exact absurd (nI_le (Nat.le_refl 128) (by decide)) c_23 | exact absurd c_23 (nI_le (Nat.le_refl 128) (by decide))))
    refine lv_iload_n hx hb d_M_join_145 rfl (lv_at hl 1 rfl) ?_
    exact wf_retz C hr (wf_bi_ret _) hlocks w0 (⟨cy, rfl, hI.1, hI.2⟩) hP hK hD hS (fun _ h => h) d_M_join_146

set_option maxHeartbeats 4000000 in
set_option maxRecDepth 100000 in
theorem kM_joinAdd {p : Program} {l : Launch} {e : Env} {R : Room} {s : State} {m : MethodId} {args : Array Value} {below : List Frame} {meth : Method} {c : Code} {H : Heap} {locs : List Loc} {cells slots : Nat} {Q : State → Prop} {cc : ByteArray} {pc nL : Nat} {ls : Array Slot} {rest : List Value} {D : va_G} {q : Nat → Nat} {κ : Nat → ClassId} {A : Nat → Prop} {u : SM}  (C : CallFix p m c cc nL s args wG RM) (hsz : ls.size = nL) (hR : 1 ≤ R.frames ∧ 26 ≤ R.locals) (hw : (rest.map fun v => v.category).sum ≤ 8) (hc : cells + 0 ≤ R.cells ∧ slots + 0 ≤ R.slots) (hP : va_P D vwCl (wM q κ u) H) (hK : va_K D vwCl (tyM κ) s) (hD : va_D A (wM q κ u)) (hS : va_S A s.heap H locs) (hA : ∀ q, s.heap.size ≤ q → A q) (hdg : decode cc pc = .ok (.invokevirtual 40, 3)) (kk : ∀ (r : Int32) (v : SM) (H1 : Heap) (locs1 : List Loc), (∃ c_ : Bool, r = wf_bi c_ ∧ v = (u.1, v.2.1, u.2.2) ∧ wf_JA u.2.1 v.2.1 128 c_) → va_P D vwCl (wM q κ v) H1 → va_D A (wM q κ v) → va_S A s.heap H1 locs1 → W p l e R s m args below meth c H1 locs1 (cells) (slots) Q (F0 m (pc + 3) ls (.int r :: rest))) : W p l e R s m args below meth c H locs cells slots Q (F0 m pc ls (.int 0 :: .ref (q 0) :: rest)) := by
  exact wf_ci (va_runV (As := [.int 0]) (rest := rest) C (c_M_joinAdd l D q κ u H.size) (cwV 1 C.2.2.2.2 (wG_V (fun _ h => h) k_ml_M_40 k_im_M_join k_se_M_join k_in_M k_M_join) rfl rfl rfl (by decide +kernel) ⟨hR.1, hR.2⟩) ⟨wf_blind, va_recv hK hP (ci := 1) (q0 := 0) rfl rfl, wf_pre hP hK hD⟩ rfl rfl hsz rfl (lv_room hw) hdg ⟨hc.1, hc.2⟩) (fun _ h => h) hS hD hA kk

set_option maxHeartbeats 4000000 in
set_option maxRecDepth 100000 in
/-- M_join -/
theorem c_M_joinSub (l : Launch) (D : va_G) (q : Nat → Nat) (κ : Nat → ClassId) (u : SM)  (sz : Nat) : Met l y_M_join (.code y_M_join b_M_join 7 (some .boolean) :: wG) (wf_rm 0 0 0 0) (wf_Pc D vwCl (wM q κ u) (tyM κ) ([.ref (q 0), .int 1]) sz) (va_Qi (fun r v => ∃ c_ : Bool, r = wf_bi c_ ∧ v = (u.1, v.2.1, u.2.2) ∧ wf_JS u.2.1 v.2.1 128 c_) (wf_B D vwCl (wM q κ) (tyM κ) (va_A (wM q κ u) sz)) (va_A (wM q κ u) sz)) 0 0 (va_A (wM q κ u) sz) := by
  refine wf_open (by decide) (Nat.le_of_ble_eq_true rfl) k_M_join ?_
  intro p e s m below meth c ls hsz C hr hlocks hnm hex hP hK hD hl
  subst hsz
  have hx := C.1
  have hb := C.2.1
  have hml := C.2.2.1
  have hown := C.2.2.2.1
  have hts := C.2.2.2.2
  have hA : ∀ j : Nat, s.heap.size ≤ j → va_A (wM q κ u) s.heap.size j := fun j h => Or.inr h
  have hS : va_S (va_A (wM q κ u) s.heap.size) s.heap s.heap [] := va_S.rf
  generalize hAe : va_A (wM q κ u) s.heap.size = A at hA hS hD ⊢
  have hl : lv_has ls 7 [(0, .ref (q 0)), (1, .int (1))] := hl
  refine lv_iconst (v := 0) hx hb d_M_join_0 (by decide) ?_
  refine lv_istore_n (lv' := [(2, .int (0)), (0, .ref (q 0)), (1, .int (1))]) hx hb d_M_join_1 rfl hl (by decide) rfl (fun ls hl => ?_)
  refine lv_iconst (v := 0) hx hb d_M_join_2 (by decide) ?_
  refine lv_istore_n (lv' := [(3, .int (0)), (2, .int (0)), (0, .ref (q 0)), (1, .int (1))]) hx hb d_M_join_3 rfl hl (by decide) rfl (fun ls hl => ?_)
  refine wf_forH (σ := SM × Bool) 128 (fun i x => x.1 = (u.1, x.1.2.1, u.2.2) ∧ wf_JS u.2.1 x.1.2.1 i x.2) (fun x => wM q κ x.1) (fun i x => [(3, .int (nI i)), (2, .int (wf_bi x.2)), (0, .ref (q 0)), (1, .int (1))]) (fun i x H locs ls hi hI hP hD hS hl ih => ?_) (fun x H locs ls hI hP hD hS hl => ?_) (u, false) (⟨rfl, fun _ _ => rfl, rfl⟩) hP hD hS (lv_sub hl [0, 1, 2, 3] rfl)
  · obtain ⟨w0, cy⟩ := x
    have hP : va_P D vwCl (wM q κ w0) H := hP
    have hD : va_D A (wM q κ w0) := hD
    have hl : lv_has ls 7 [(3, .int (nI i)), (2, .int (wf_bi cy)), (0, .ref (q 0)), (1, .int (1))] := hl
    have hI : w0 = (u.1, w0.2.1, u.2.2) ∧ wf_JS u.2.1 w0.2.1 i cy := hI
    refine lv_iload_n hx hb d_M_join_4 rfl (lv_at hl 0 rfl) ?_
    refine lv_sipush (v := 128) hx hb d_M_join_5 (by decide) ?_
    refine lv_icmp_ge (tgt := 145) hx hb d_M_join_8 (by decide) (fun c_1 => False.elim (by first | exact absurd c_1 (nI_ge hi (by decide)) | exact absurd (nI_ge hi (by decide)) c_1)) (fun c_1 => ?_)
    refine lv_aload_n hx hb d_M_join_11 rfl (lv_at hl 2 rfl) ?_
    refine gM C hK hP 0 rfl 1 (by decide) k_fl_M_bits rfl d_M_join_12 ?_
    refine lv_sipush (v := 1024) hx hb d_M_join_15 (by decide) ?_
    refine lv_iload_n hx hb d_M_join_18 rfl (lv_at hl 0 rfl) ?_
    refine lv_iadd hx hb d_M_join_19 ?_
    refine wf_zald C hK hP 1 0 rfl rfl (k := 1024 + i) (wf_ia rfl rfl) (by omega) (by decide) d_M_join_20 ?_
    obtain ⟨a1, ha1⟩ : ∃ b : Bool, b = w0.2.1 (1024 + i) := ⟨_, rfl⟩
    rw [← ha1]
    refine lv_istore (lv' := [(4, .int (wf_bi a1)), (3, .int (nI i)), (2, .int (wf_bi cy)), (0, .ref (q 0)), (1, .int (1))]) hx hb d_M_join_21 hl (by decide) rfl (fun ls hl => ?_)
    refine lv_aload_n hx hb d_M_join_23 rfl (lv_at hl 3 rfl) ?_
    refine gM C hK hP 0 rfl 1 (by decide) k_fl_M_bits rfl d_M_join_24 ?_
    refine lv_sipush (v := 1152) hx hb d_M_join_27 (by decide) ?_
    refine lv_iload_n hx hb d_M_join_30 rfl (lv_at hl 1 rfl) ?_
    refine lv_iadd hx hb d_M_join_31 ?_
    refine wf_zald C hK hP 1 0 rfl rfl (k := 1152 + i) (wf_ia rfl rfl) (by omega) (by decide) d_M_join_32 ?_
    obtain ⟨b1, hb1⟩ : ∃ b : Bool, b = w0.2.1 (1152 + i) := ⟨_, rfl⟩
    rw [← hb1]
    refine lv_istore (lv' := [(5, .int (wf_bi b1)), (4, .int (wf_bi a1)), (3, .int (nI i)), (2, .int (wf_bi cy)), (0, .ref (q 0)), (1, .int (1))]) hx hb d_M_join_33 hl (by decide) rfl (fun ls hl => ?_)
    refine lv_iload hx hb d_M_join_35 (lv_at hl 1 rfl) ?_
    refine lv_iload hx hb d_M_join_37 (lv_at hl 0 rfl) ?_
    refine wf_cutI (pcj := 47) (ls := ls) (rest := []) (fun z => z = wf_bi (a1 != b1)) (fun z_2 ez_2 => ?_) (fun jn => ?_)
    · subst ez_2
      refine lv_iload_n hx hb d_M_join_47 rfl (lv_at hl 3 rfl) ?_
      refine wf_cutI (pcj := 56) (ls := ls) (rest := []) (fun z => z = wf_bi ((a1 != b1) != cy)) (fun z_3 ez_3 => ?_) (fun jn => ?_)
      · subst ez_3
        refine lv_istore (lv' := [(6, .int (wf_bi ((a1 != b1) != cy))), (5, .int (wf_bi b1)), (4, .int (wf_bi a1)), (3, .int (nI i)), (2, .int (wf_bi cy)), (0, .ref (q 0)), (1, .int (1))]) hx hb d_M_join_56 hl (by decide) rfl (fun ls hl => ?_)
        refine lv_iload_n hx hb d_M_join_58 rfl (lv_at hl 6 rfl) ?_
        refine lv_if_eq (tgt := 93) hx hb d_M_join_59 (by decide) (fun c_4 => False.elim (absurd c_4 (by decide))) (fun _ => ?_)
        refine lv_iload hx hb d_M_join_62 (lv_at hl 2 rfl) ?_
        refine wf_cutI (pcj := 126) (ls := ls) (rest := []) (fun z => z = wf_bi (!a1 && (b1 || cy) || b1 && cy)) (fun z_5 ez_5 => ?_) (fun jn => ?_)
        · subst ez_5
          refine lv_istore_n (lv' := [(2, .int (wf_bi (!a1 && (b1 || cy) || b1 && cy))), (6, .int (wf_bi ((a1 != b1) != cy))), (5, .int (wf_bi b1)), (4, .int (wf_bi a1)), (3, .int (nI i)), (0, .ref (q 0)), (1, .int (1))]) hx hb d_M_join_126 rfl hl (by decide) rfl (fun ls hl => ?_)
          refine lv_aload_n hx hb d_M_join_127 rfl (lv_at hl 5 rfl) ?_
          refine gM C hK hP 0 rfl 1 (by decide) k_fl_M_bits rfl d_M_join_128 ?_
          refine lv_sipush (v := 1024) hx hb d_M_join_131 (by decide) ?_
          refine lv_iload_n hx hb d_M_join_134 rfl (lv_at hl 4 rfl) ?_
          refine lv_iadd hx hb d_M_join_135 ?_
          refine lv_iload hx hb d_M_join_136 (lv_at hl 1 rfl) ?_
          refine wf_zast C hK hP hD hS 1 0 rfl rfl (k := 1024 + i) (b := (((a1 != b1) != cy))) (wf_ia rfl rfl) (by omega) (by decide) d_M_join_138 (fun H locs hP hD hS => ?_)
          have hP : va_P D vwCl (wM q κ (w0.1, va_up w0.2.1 (1024 + i) (((a1 != b1) != cy)), w0.2.2)) H := hP
          have hD : va_D A (wM q κ (w0.1, va_up w0.2.1 (1024 + i) (((a1 != b1) != cy)), w0.2.2)) := hD
          generalize eu_6 : ((w0.1, va_up w0.2.1 (1024 + i) (((a1 != b1) != cy)), w0.2.2) : SM) = u_6 at hP hD
          refine lv_iinc (v := nI (i + 1)) (lv' := [(3, .int (nI (i + 1))), (2, .int (wf_bi (!a1 && (b1 || cy) || b1 && cy))), (6, .int (wf_bi ((a1 != b1) != cy))), (5, .int (wf_bi b1)), (4, .int (wf_bi a1)), (0, .ref (q 0)), (1, .int (1))]) hx hb d_M_join_139 hl (k := 4) rfl (nI_1 _) (by decide) rfl (fun ls hl => ?_)
          refine lv_goto (tgt := 4) hx hb d_M_join_142 (by decide) ?_
          exact ih (u_6, _) H locs ls ⟨by rw [← eu_6, hI.1], by rw [← eu_6]; exact wf_JS_S hi hI.2 ha1 hb1⟩ hP hD hS (lv_sub hl [0, 1, 5, 6] rfl)
        · refine lv_if_ne (tgt := 76) hx hb d_M_join_64 (by decide) (fun c_7 => ?_) (fun c_7 => ?_)
          · refine lv_iload hx hb d_M_join_76 (lv_at hl 1 rfl) ?_
            refine lv_if_eq (tgt := 89) hx hb d_M_join_78 (by decide) (fun c_8 => ?_) (fun c_8 => ?_)
            · refine lv_iconst (v := 0) hx hb d_M_join_89 (by decide) ?_
              refine lv_goto (tgt := 126) hx hb d_M_join_90 (by decide) ?_
              exact jn _ (by revert c_7 c_8; cases a1 <;> cases b1 <;> cases cy <;> decide)
            · refine lv_iload_n hx hb d_M_join_81 rfl (lv_at hl 4 rfl) ?_
              refine lv_if_eq (tgt := 89) hx hb d_M_join_82 (by decide) (fun c_9 => ?_) (fun c_9 => ?_)
              · refine lv_iconst (v := 0) hx hb d_M_join_89 (by decide) ?_
                refine lv_goto (tgt := 126) hx hb d_M_join_90 (by decide) ?_
                exact jn _ (by revert c_7 c_8 c_9; cases a1 <;> cases b1 <;> cases cy <;> decide)
              · refine lv_iconst (v := 1) hx hb d_M_join_85 (by decide) ?_
                refine lv_goto (tgt := 126) hx hb d_M_join_86 (by decide) ?_
                exact jn _ (by revert c_7 c_8 c_9; cases a1 <;> cases b1 <;> cases cy <;> decide)
          · refine lv_iload hx hb d_M_join_67 (lv_at hl 1 rfl) ?_
            refine lv_if_ne (tgt := 85) hx hb d_M_join_69 (by decide) (fun c_10 => ?_) (fun c_10 => ?_)
            · refine lv_iconst (v := 1) hx hb d_M_join_85 (by decide) ?_
              refine lv_goto (tgt := 126) hx hb d_M_join_86 (by decide) ?_
              exact jn _ (by revert c_7 c_10; cases a1 <;> cases b1 <;> cases cy <;> decide)
            · refine lv_iload_n hx hb d_M_join_72 rfl (lv_at hl 4 rfl) ?_
              refine lv_if_ne (tgt := 85) hx hb d_M_join_73 (by decide) (fun c_11 => ?_) (fun c_11 => ?_)
              · refine lv_iconst (v := 1) hx hb d_M_join_85 (by decide) ?_
                refine lv_goto (tgt := 126) hx hb d_M_join_86 (by decide) ?_
                exact jn _ (by revert c_7 c_10 c_11; cases a1 <;> cases b1 <;> cases cy <;> decide)
              · refine lv_iload hx hb d_M_join_76 (lv_at hl 1 rfl) ?_
                refine lv_if_eq (tgt := 89) hx hb d_M_join_78 (by decide) (fun c_12 => ?_) (fun c_12 => ?_)
                · refine lv_iconst (v := 0) hx hb d_M_join_89 (by decide) ?_
                  refine lv_goto (tgt := 126) hx hb d_M_join_90 (by decide) ?_
                  exact jn _ (by revert c_7 c_10 c_11 c_12; cases a1 <;> cases b1 <;> cases cy <;> decide)
                · refine lv_iload_n hx hb d_M_join_81 rfl (lv_at hl 4 rfl) ?_
                  refine lv_if_eq (tgt := 89) hx hb d_M_join_82 (by decide) (fun c_13 => ?_) (fun c_13 => ?_)
                  · refine lv_iconst (v := 0) hx hb d_M_join_89 (by decide) ?_
                    refine lv_goto (tgt := 126) hx hb d_M_join_90 (by decide) ?_
                    exact jn _ (by revert c_7 c_10 c_11 c_12 c_13; cases a1 <;> cases b1 <;> cases cy <;> decide)
                  · refine lv_iconst (v := 1) hx hb d_M_join_85 (by decide) ?_
                    refine lv_goto (tgt := 126) hx hb d_M_join_86 (by decide) ?_
                    exact jn _ (by revert c_7 c_10 c_11 c_12 c_13; cases a1 <;> cases b1 <;> cases cy <;> decide)
      · refine lv_icmp_eq (tgt := 55) hx hb d_M_join_48 (by decide) (fun c_14 => ?_) (fun c_14 => ?_)
        · refine lv_iconst (v := 0) hx hb d_M_join_55 (by decide) ?_
          exact jn _ (by revert c_14; cases a1 <;> cases b1 <;> cases cy <;> decide)
        · refine lv_iconst (v := 1) hx hb d_M_join_51 (by decide) ?_
          refine lv_goto (tgt := 56) hx hb d_M_join_52 (by decide) ?_
          exact jn _ (by revert c_14; cases a1 <;> cases b1 <;> cases cy <;> decide)
    · refine lv_icmp_eq (tgt := 46) hx hb d_M_join_39 (by decide) (fun c_15 => ?_) (fun c_15 => ?_)
      · refine lv_iconst (v := 0) hx hb d_M_join_46 (by decide) ?_
        exact jn _ (by revert c_15; cases a1 <;> cases b1 <;> decide)
      · refine lv_iconst (v := 1) hx hb d_M_join_42 (by decide) ?_
        refine lv_goto (tgt := 47) hx hb d_M_join_43 (by decide) ?_
        exact jn _ (by revert c_15; cases a1 <;> cases b1 <;> decide)
  · obtain ⟨w0, cy⟩ := x
    have hP : va_P D vwCl (wM q κ w0) H := hP
    have hD : va_D A (wM q κ w0) := hD
    have hl : lv_has ls 7 [(3, .int (nI 128)), (2, .int (wf_bi cy)), (0, .ref (q 0)), (1, .int (1))] := hl
    have hI : w0 = (u.1, w0.2.1, u.2.2) ∧ wf_JS u.2.1 w0.2.1 128 cy := hI
    refine lv_iload_n hx hb d_M_join_4 rfl (lv_at hl 0 rfl) ?_
    refine lv_sipush (v := 128) hx hb d_M_join_5 (by decide) ?_
    refine lv_icmp_ge (tgt := 145) hx hb d_M_join_8 (by decide) (fun c_16 => ?_) (fun c_16 => False.elim (by first | exact absurd (nI_le (Nat.le_refl 128) (by decide)) c_16 | exact absurd c_16 (nI_le (Nat.le_refl 128) (by decide))))
    refine lv_iload_n hx hb d_M_join_145 rfl (lv_at hl 1 rfl) ?_
    exact wf_retz C hr (wf_bi_ret _) hlocks w0 (⟨cy, rfl, hI.1, hI.2⟩) hP hK hD hS (fun _ h => h) d_M_join_146

set_option maxHeartbeats 4000000 in
set_option maxRecDepth 100000 in
theorem kM_joinSub {p : Program} {l : Launch} {e : Env} {R : Room} {s : State} {m : MethodId} {args : Array Value} {below : List Frame} {meth : Method} {c : Code} {H : Heap} {locs : List Loc} {cells slots : Nat} {Q : State → Prop} {cc : ByteArray} {pc nL : Nat} {ls : Array Slot} {rest : List Value} {D : va_G} {q : Nat → Nat} {κ : Nat → ClassId} {A : Nat → Prop} {u : SM}  (C : CallFix p m c cc nL s args wG RM) (hsz : ls.size = nL) (hR : 1 ≤ R.frames ∧ 26 ≤ R.locals) (hw : (rest.map fun v => v.category).sum ≤ 8) (hc : cells + 0 ≤ R.cells ∧ slots + 0 ≤ R.slots) (hP : va_P D vwCl (wM q κ u) H) (hK : va_K D vwCl (tyM κ) s) (hD : va_D A (wM q κ u)) (hS : va_S A s.heap H locs) (hA : ∀ q, s.heap.size ≤ q → A q) (hdg : decode cc pc = .ok (.invokevirtual 40, 3)) (kk : ∀ (r : Int32) (v : SM) (H1 : Heap) (locs1 : List Loc), (∃ c_ : Bool, r = wf_bi c_ ∧ v = (u.1, v.2.1, u.2.2) ∧ wf_JS u.2.1 v.2.1 128 c_) → va_P D vwCl (wM q κ v) H1 → va_D A (wM q κ v) → va_S A s.heap H1 locs1 → W p l e R s m args below meth c H1 locs1 (cells) (slots) Q (F0 m (pc + 3) ls (.int r :: rest))) : W p l e R s m args below meth c H locs cells slots Q (F0 m pc ls (.int 1 :: .ref (q 0) :: rest)) := by
  exact wf_ci (va_runV (As := [.int 1]) (rest := rest) C (c_M_joinSub l D q κ u H.size) (cwV 1 C.2.2.2.2 (wG_V (fun _ h => h) k_ml_M_40 k_im_M_join k_se_M_join k_in_M k_M_join) rfl rfl rfl (by decide +kernel) ⟨hR.1, hR.2⟩) ⟨wf_blind, va_recv hK hP (ci := 1) (q0 := 0) rfl rfl, wf_pre hP hK hD⟩ rfl rfl hsz rfl (lv_room hw) hdg ⟨hc.1, hc.2⟩) (fun _ h => h) hS hD hA kk
end
section
/-! ===== the reference where it refuses ===== -/
/-- the code: a register that is none before all else -/
def wf_c2 (n e : Bool) : Int32 := if n then 1 else if e then 2 else 0
theorem wf_c2_pos {n e : Bool} (h : (n || e) = true) : ¬ wf_c2 n e ≤ 0 := by revert h; cases n <;> cases e <;> decide
theorem wf_c2_ne {n e : Bool} (h : (n || e) = true) : ¬ wf_c2 n e = 0 := by revert h; cases n <;> cases e <;> decide

set_option maxHeartbeats 4000000 in
set_option maxRecDepth 100000 in
/-- M_set -/
theorem c_M_setBad (l : Launch) (D : va_G) (q : Nat → Nat) (κ : Nat → ClassId) (u : SM) (a : Int32) (h : Int64) (lo : Int64) (hbad : ((wf_no a) || (false)) = true) (sz : Nat) : Met l y_M_set (.code y_M_set b_M_set 7 none :: wG) (wf_rm 1 30 0 0) (wf_Pc D vwCl (wM q κ u) (tyM κ) ([.ref (q 0), .int a, .long h, .long lo]) sz) (va_Qv (fun v => v = (wf_c2 (wf_no a) (false), u.2)) (wf_B D vwCl (wM q κ) (tyM κ) (va_A (wM q κ u) sz)) (va_A (wM q κ u) sz)) 0 0 (va_A (wM q κ u) sz) := by
  refine wf_open (by decide) (Nat.le_of_ble_eq_true rfl) k_M_set ?_
  intro p e s m below meth c ls hsz C hr hlocks hnm hex hP hK hD hl
  subst hsz
  have hx := C.1
  have hb := C.2.1
  have hml := C.2.2.1
  have hown := C.2.2.2.1
  have hts := C.2.2.2.2
  have hA : ∀ j : Nat, s.heap.size ≤ j → va_A (wM q κ u) s.heap.size j := fun j h => Or.inr h
  have hS : va_S (va_A (wM q κ u) s.heap.size) s.heap s.heap [] := va_S.rf
  generalize hAe : va_A (wM q κ u) s.heap.size = A at hA hS hD ⊢
  have hl : lv_has ls 7 [(0, .ref (q 0)), (1, .int (a)), (2, .long (h)), (4, .long (lo))] := hl
  refine lv_aload_n hx hb d_M_set_0 rfl (lv_at hl 0 rfl) ?_
  refine wf_cutI (pcj := 13) (ls := ls) (rest := [.ref (q 0)]) (fun z => z = wf_c2 (wf_no a) (false)) (fun z_1 ez_1 => ?_) (fun jn => ?_)
  · subst ez_1
    refine pM_code C hK hP hD hS 0 rfl (Nat.le_of_ble_eq_true rfl) d_M_set_13 (fun H locs hP hD hS => ?_)
    have hP : va_P D vwCl (wM q κ (wf_c2 (wf_no a) (false), u.2)) H := hP
    have hD : va_D A (wM q κ (wf_c2 (wf_no a) (false), u.2)) := hD
    generalize eu_2 : ((wf_c2 (wf_no a) (false), u.2) : SM) = u_2 at hP hD
    refine lv_iconst (v := 0) hx hb d_M_set_16 (by decide) ?_
    refine lv_istore (lv' := [(6, .int (0)), (0, .ref (q 0)), (1, .int (a)), (2, .long (h)), (4, .long (lo))]) hx hb d_M_set_17 hl (by decide) rfl (fun ls hl => ?_)
    refine lv_iload hx hb d_M_set_19 (lv_at hl 0 rfl) ?_
    refine lv_sipush (v := 128) hx hb d_M_set_21 (by decide) ?_
    refine lv_icmp_ge (tgt := 87) hx hb d_M_set_24 (by decide) (fun c_3 => False.elim (absurd c_3 (by decide))) (fun _ => ?_)
    refine lv_aload_n hx hb d_M_set_27 rfl (lv_at hl 1 rfl) ?_
    refine gM C hK hP 0 rfl 0 (by decide) k_fl_M_code rfl d_M_set_28 ?_
    refine lv_if_ne (tgt := 87) hx hb d_M_set_31 (by decide) (fun c_4 => ?_) (fun c_4 => False.elim (by first | exact absurd (by rw [← eu_2]; exact wf_c2_ne hbad) c_4 | exact absurd c_4 (by rw [← eu_2]; exact wf_c2_ne hbad)))
    exact wf_retv C hr hlocks u_2 (by first | exact eu_2.symm | rfl) hP hK hD hS (fun _ h => h) d_M_set_87
  · refine lv_iload_n hx hb d_M_set_1 rfl (lv_at hl 1 rfl) ?_
    refine kM_none C hl.1 ⟨Nat.le_of_ble_eq_true rfl, Nat.le_of_ble_eq_true rfl⟩ (Nat.le_of_ble_eq_true rfl) ⟨Nat.le_of_ble_eq_true rfl, Nat.le_of_ble_eq_true rfl⟩ d_M_set_2 ?_
    refine lv_if_eq (tgt := 12) hx hb d_M_set_5 (by decide) (fun c_5 => ?_) (fun c_5 => ?_)
    · refine lv_iconst (v := 0) hx hb d_M_set_12 (by decide) ?_
      exact jn _ (by revert c_5; cases (wf_no a) <;> decide)
    · refine lv_iconst (v := 1) hx hb d_M_set_8 (by decide) ?_
      refine lv_goto (tgt := 13) hx hb d_M_set_9 (by decide) ?_
      exact jn _ (by revert c_5; cases (wf_no a) <;> decide)

set_option maxHeartbeats 4000000 in
set_option maxRecDepth 100000 in
/-- M_half -/
theorem c_M_halfBad (l : Launch) (D : va_G) (q : Nat → Nat) (κ : Nat → ClassId) (u : SM) (a : Int32) (z : Int32) (hbad : ((wf_no a) || (false)) = true) (sz : Nat) : Met l y_M_half (.code y_M_half b_M_half 6 (some .long) :: wG) (wf_rm 1 30 0 0) (wf_Pc D vwCl (wM q κ u) (tyM κ) ([.ref (q 0), .int a, .int z]) sz) (va_Ql (fun r v => v = (wf_c2 (wf_no a) (false), u.2)) (wf_B D vwCl (wM q κ) (tyM κ) (va_A (wM q κ u) sz)) (va_A (wM q κ u) sz)) 0 0 (va_A (wM q κ u) sz) := by
  refine wf_open (by decide) (Nat.le_of_ble_eq_true rfl) k_M_half ?_
  intro p e s m below meth c ls hsz C hr hlocks hnm hex hP hK hD hl
  subst hsz
  have hx := C.1
  have hb := C.2.1
  have hml := C.2.2.1
  have hown := C.2.2.2.1
  have hts := C.2.2.2.2
  have hA : ∀ j : Nat, s.heap.size ≤ j → va_A (wM q κ u) s.heap.size j := fun j h => Or.inr h
  have hS : va_S (va_A (wM q κ u) s.heap.size) s.heap s.heap [] := va_S.rf
  generalize hAe : va_A (wM q κ u) s.heap.size = A at hA hS hD ⊢
  have hl : lv_has ls 6 [(0, .ref (q 0)), (1, .int (a)), (2, .int (z))] := hl
  refine lv_aload_n hx hb d_M_half_0 rfl (lv_at hl 0 rfl) ?_
  refine wf_cutI (pcj := 13) (ls := ls) (rest := [.ref (q 0)]) (fun z => z = wf_c2 (wf_no a) (false)) (fun z_1 ez_1 => ?_) (fun jn => ?_)
  · subst ez_1
    refine pM_code C hK hP hD hS 0 rfl (Nat.le_of_ble_eq_true rfl) d_M_half_13 (fun H locs hP hD hS => ?_)
    have hP : va_P D vwCl (wM q κ (wf_c2 (wf_no a) (false), u.2)) H := hP
    have hD : va_D A (wM q κ (wf_c2 (wf_no a) (false), u.2)) := hD
    generalize eu_2 : ((wf_c2 (wf_no a) (false), u.2) : SM) = u_2 at hP hD
    refine lv_lconst (v := 0) hx hb d_M_half_16 (by decide) ?_
    refine lv_lstore_n (lv' := [(3, .long (0)), (0, .ref (q 0)), (1, .int (a)), (2, .int (z))]) hx hb d_M_half_17 rfl hl (by decide) rfl (fun ls hl => ?_)
    refine lv_bipush (v := 63) hx hb d_M_half_18 (by decide) ?_
    refine lv_istore (lv' := [(5, .int (63)), (3, .long (0)), (0, .ref (q 0)), (1, .int (a)), (2, .int (z))]) hx hb d_M_half_20 hl (by decide) rfl (fun ls hl => ?_)
    refine lv_iload hx hb d_M_half_22 (lv_at hl 0 rfl) ?_
    refine lv_if_lt (tgt := 79) hx hb d_M_half_24 (by decide) (fun c_3 => False.elim (absurd c_3 (by decide))) (fun _ => ?_)
    refine lv_aload_n hx hb d_M_half_27 rfl (lv_at hl 2 rfl) ?_
    refine gM C hK hP 0 rfl 0 (by decide) k_fl_M_code rfl d_M_half_28 ?_
    refine lv_if_ne (tgt := 79) hx hb d_M_half_31 (by decide) (fun c_4 => ?_) (fun c_4 => False.elim (by first | exact absurd (by rw [← eu_2]; exact wf_c2_ne hbad) c_4 | exact absurd c_4 (by rw [← eu_2]; exact wf_c2_ne hbad)))
    refine lv_lload_n hx hb d_M_half_79 rfl (lv_at hl 1 rfl) ?_
    exact wf_retl C hr hlocks u_2 (by first | exact eu_2.symm | rfl) hP hK hD hS (fun _ h => h) d_M_half_80
  · refine lv_iload_n hx hb d_M_half_1 rfl (lv_at hl 1 rfl) ?_
    refine kM_none C hl.1 ⟨Nat.le_of_ble_eq_true rfl, Nat.le_of_ble_eq_true rfl⟩ (Nat.le_of_ble_eq_true rfl) ⟨Nat.le_of_ble_eq_true rfl, Nat.le_of_ble_eq_true rfl⟩ d_M_half_2 ?_
    refine lv_if_eq (tgt := 12) hx hb d_M_half_5 (by decide) (fun c_5 => ?_) (fun c_5 => ?_)
    · refine lv_iconst (v := 0) hx hb d_M_half_12 (by decide) ?_
      exact jn _ (by revert c_5; cases (wf_no a) <;> decide)
    · refine lv_iconst (v := 1) hx hb d_M_half_8 (by decide) ?_
      refine lv_goto (tgt := 13) hx hb d_M_half_9 (by decide) ?_
      exact jn _ (by revert c_5; cases (wf_no a) <;> decide)

set_option maxHeartbeats 4000000 in
set_option maxRecDepth 100000 in
/-- M_add -/
theorem c_M_addBad (l : Launch) (D : va_G) (q : Nat → Nat) (κ : Nat → ClassId) (u : SM) (a : Int32) (b : Int32) (t : Int32) (hbad : ((wf_no a || wf_no b || wf_no t) || (false)) = true) (sz : Nat) : Met l y_M_add (.code y_M_add b_M_add 5 (some .boolean) :: wG) (wf_rm 1 30 0 0) (wf_Pc D vwCl (wM q κ u) (tyM κ) ([.ref (q 0), .int a, .int b, .int t]) sz) (va_Qi (fun r v => v = (wf_c2 (wf_no a || wf_no b || wf_no t) (false), u.2)) (wf_B D vwCl (wM q κ) (tyM κ) (va_A (wM q κ u) sz)) (va_A (wM q κ u) sz)) 0 0 (va_A (wM q κ u) sz) := by
  refine wf_open (by decide) (Nat.le_of_ble_eq_true rfl) k_M_add ?_
  intro p e s m below meth c ls hsz C hr hlocks hnm hex hP hK hD hl
  subst hsz
  have hx := C.1
  have hb := C.2.1
  have hml := C.2.2.1
  have hown := C.2.2.2.1
  have hts := C.2.2.2.2
  have hA : ∀ j : Nat, s.heap.size ≤ j → va_A (wM q κ u) s.heap.size j := fun j h => Or.inr h
  have hS : va_S (va_A (wM q κ u) s.heap.size) s.heap s.heap [] := va_S.rf
  generalize hAe : va_A (wM q κ u) s.heap.size = A at hA hS hD ⊢
  have hl : lv_has ls 5 [(0, .ref (q 0)), (1, .int (a)), (2, .int (b)), (3, .int (t))] := hl
  refine lv_aload_n hx hb d_M_add_0 rfl (lv_at hl 0 rfl) ?_
  refine wf_cutI (pcj := 27) (ls := ls) (rest := [.ref (q 0)]) (fun z => z = wf_c2 (wf_no a || wf_no b || wf_no t) (false)) (fun z_1 ez_1 => ?_) (fun jn => ?_)
  · subst ez_1
    refine pM_code C hK hP hD hS 0 rfl (Nat.le_of_ble_eq_true rfl) d_M_add_27 (fun H locs hP hD hS => ?_)
    have hP : va_P D vwCl (wM q κ (wf_c2 (wf_no a || wf_no b || wf_no t) (false), u.2)) H := hP
    have hD : va_D A (wM q κ (wf_c2 (wf_no a || wf_no b || wf_no t) (false), u.2)) := hD
    generalize eu_2 : ((wf_c2 (wf_no a || wf_no b || wf_no t) (false), u.2) : SM) = u_2 at hP hD
    refine lv_aload_n hx hb d_M_add_30 rfl (lv_at hl 0 rfl) ?_
    refine gM C hK hP 0 rfl 0 (by decide) k_fl_M_code rfl d_M_add_31 ?_
    refine lv_if_le (tgt := 39) hx hb d_M_add_34 (by decide) (fun c_3 => False.elim (by first | exact absurd c_3 (by rw [← eu_2]; exact wf_c2_pos hbad) | exact absurd (by rw [← eu_2]; exact wf_c2_pos hbad) c_3)) (fun c_3 => ?_)
    refine lv_iconst (v := 0) hx hb d_M_add_37 (by decide) ?_
    exact wf_retz C hr (rfl) hlocks u_2 (by first | exact eu_2.symm | rfl) hP hK hD hS (fun _ h => h) d_M_add_38
  · refine lv_iload_n hx hb d_M_add_1 rfl (lv_at hl 1 rfl) ?_
    refine kM_none C hl.1 ⟨Nat.le_of_ble_eq_true rfl, Nat.le_of_ble_eq_true rfl⟩ (Nat.le_of_ble_eq_true rfl) ⟨Nat.le_of_ble_eq_true rfl, Nat.le_of_ble_eq_true rfl⟩ d_M_add_2 ?_
    refine lv_if_ne (tgt := 22) hx hb d_M_add_5 (by decide) (fun c_4 => ?_) (fun c_4 => ?_)
    · refine lv_iconst (v := 1) hx hb d_M_add_22 (by decide) ?_
      refine lv_goto (tgt := 27) hx hb d_M_add_23 (by decide) ?_
      exact jn _ (by revert c_4; cases (wf_no a) <;> cases (wf_no b) <;> cases (wf_no t) <;> decide)
    · refine lv_iload_n hx hb d_M_add_8 rfl (lv_at hl 2 rfl) ?_
      refine kM_none C hl.1 ⟨Nat.le_of_ble_eq_true rfl, Nat.le_of_ble_eq_true rfl⟩ (Nat.le_of_ble_eq_true rfl) ⟨Nat.le_of_ble_eq_true rfl, Nat.le_of_ble_eq_true rfl⟩ d_M_add_9 ?_
      refine lv_if_ne (tgt := 22) hx hb d_M_add_12 (by decide) (fun c_5 => ?_) (fun c_5 => ?_)
      · refine lv_iconst (v := 1) hx hb d_M_add_22 (by decide) ?_
        refine lv_goto (tgt := 27) hx hb d_M_add_23 (by decide) ?_
        exact jn _ (by revert c_4 c_5; cases (wf_no a) <;> cases (wf_no b) <;> cases (wf_no t) <;> decide)
      · refine lv_iload_n hx hb d_M_add_15 rfl (lv_at hl 3 rfl) ?_
        refine kM_none C hl.1 ⟨Nat.le_of_ble_eq_true rfl, Nat.le_of_ble_eq_true rfl⟩ (Nat.le_of_ble_eq_true rfl) ⟨Nat.le_of_ble_eq_true rfl, Nat.le_of_ble_eq_true rfl⟩ d_M_add_16 ?_
        refine lv_if_eq (tgt := 26) hx hb d_M_add_19 (by decide) (fun c_6 => ?_) (fun c_6 => ?_)
        · refine lv_iconst (v := 0) hx hb d_M_add_26 (by decide) ?_
          exact jn _ (by revert c_4 c_5 c_6; cases (wf_no a) <;> cases (wf_no b) <;> cases (wf_no t) <;> decide)
        · refine lv_iconst (v := 1) hx hb d_M_add_22 (by decide) ?_
          refine lv_goto (tgt := 27) hx hb d_M_add_23 (by decide) ?_
          exact jn _ (by revert c_4 c_5 c_6; cases (wf_no a) <;> cases (wf_no b) <;> cases (wf_no t) <;> decide)

set_option maxHeartbeats 4000000 in
set_option maxRecDepth 100000 in
/-- M_subtract -/
theorem c_M_subtractBad (l : Launch) (D : va_G) (q : Nat → Nat) (κ : Nat → ClassId) (u : SM) (a : Int32) (b : Int32) (t : Int32) (hbad : ((wf_no a || wf_no b || wf_no t) || (false)) = true) (sz : Nat) : Met l y_M_subtract (.code y_M_subtract b_M_subtract 5 (some .boolean) :: wG) (wf_rm 1 30 0 0) (wf_Pc D vwCl (wM q κ u) (tyM κ) ([.ref (q 0), .int a, .int b, .int t]) sz) (va_Qi (fun r v => v = (wf_c2 (wf_no a || wf_no b || wf_no t) (false), u.2)) (wf_B D vwCl (wM q κ) (tyM κ) (va_A (wM q κ u) sz)) (va_A (wM q κ u) sz)) 0 0 (va_A (wM q κ u) sz) := by
  refine wf_open (by decide) (Nat.le_of_ble_eq_true rfl) k_M_subtract ?_
  intro p e s m below meth c ls hsz C hr hlocks hnm hex hP hK hD hl
  subst hsz
  have hx := C.1
  have hb := C.2.1
  have hml := C.2.2.1
  have hown := C.2.2.2.1
  have hts := C.2.2.2.2
  have hA : ∀ j : Nat, s.heap.size ≤ j → va_A (wM q κ u) s.heap.size j := fun j h => Or.inr h
  have hS : va_S (va_A (wM q κ u) s.heap.size) s.heap s.heap [] := va_S.rf
  generalize hAe : va_A (wM q κ u) s.heap.size = A at hA hS hD ⊢
  have hl : lv_has ls 5 [(0, .ref (q 0)), (1, .int (a)), (2, .int (b)), (3, .int (t))] := hl
  refine lv_aload_n hx hb d_M_subtract_0 rfl (lv_at hl 0 rfl) ?_
  refine wf_cutI (pcj := 27) (ls := ls) (rest := [.ref (q 0)]) (fun z => z = wf_c2 (wf_no a || wf_no b || wf_no t) (false)) (fun z_1 ez_1 => ?_) (fun jn => ?_)
  · subst ez_1
    refine pM_code C hK hP hD hS 0 rfl (Nat.le_of_ble_eq_true rfl) d_M_subtract_27 (fun H locs hP hD hS => ?_)
    have hP : va_P D vwCl (wM q κ (wf_c2 (wf_no a || wf_no b || wf_no t) (false), u.2)) H := hP
    have hD : va_D A (wM q κ (wf_c2 (wf_no a || wf_no b || wf_no t) (false), u.2)) := hD
    generalize eu_2 : ((wf_c2 (wf_no a || wf_no b || wf_no t) (false), u.2) : SM) = u_2 at hP hD
    refine lv_aload_n hx hb d_M_subtract_30 rfl (lv_at hl 0 rfl) ?_
    refine gM C hK hP 0 rfl 0 (by decide) k_fl_M_code rfl d_M_subtract_31 ?_
    refine lv_if_le (tgt := 39) hx hb d_M_subtract_34 (by decide) (fun c_3 => False.elim (by first | exact absurd c_3 (by rw [← eu_2]; exact wf_c2_pos hbad) | exact absurd (by rw [← eu_2]; exact wf_c2_pos hbad) c_3)) (fun c_3 => ?_)
    refine lv_iconst (v := 0) hx hb d_M_subtract_37 (by decide) ?_
    exact wf_retz C hr (rfl) hlocks u_2 (by first | exact eu_2.symm | rfl) hP hK hD hS (fun _ h => h) d_M_subtract_38
  · refine lv_iload_n hx hb d_M_subtract_1 rfl (lv_at hl 1 rfl) ?_
    refine kM_none C hl.1 ⟨Nat.le_of_ble_eq_true rfl, Nat.le_of_ble_eq_true rfl⟩ (Nat.le_of_ble_eq_true rfl) ⟨Nat.le_of_ble_eq_true rfl, Nat.le_of_ble_eq_true rfl⟩ d_M_subtract_2 ?_
    refine lv_if_ne (tgt := 22) hx hb d_M_subtract_5 (by decide) (fun c_4 => ?_) (fun c_4 => ?_)
    · refine lv_iconst (v := 1) hx hb d_M_subtract_22 (by decide) ?_
      refine lv_goto (tgt := 27) hx hb d_M_subtract_23 (by decide) ?_
      exact jn _ (by revert c_4; cases (wf_no a) <;> cases (wf_no b) <;> cases (wf_no t) <;> decide)
    · refine lv_iload_n hx hb d_M_subtract_8 rfl (lv_at hl 2 rfl) ?_
      refine kM_none C hl.1 ⟨Nat.le_of_ble_eq_true rfl, Nat.le_of_ble_eq_true rfl⟩ (Nat.le_of_ble_eq_true rfl) ⟨Nat.le_of_ble_eq_true rfl, Nat.le_of_ble_eq_true rfl⟩ d_M_subtract_9 ?_
      refine lv_if_ne (tgt := 22) hx hb d_M_subtract_12 (by decide) (fun c_5 => ?_) (fun c_5 => ?_)
      · refine lv_iconst (v := 1) hx hb d_M_subtract_22 (by decide) ?_
        refine lv_goto (tgt := 27) hx hb d_M_subtract_23 (by decide) ?_
        exact jn _ (by revert c_4 c_5; cases (wf_no a) <;> cases (wf_no b) <;> cases (wf_no t) <;> decide)
      · refine lv_iload_n hx hb d_M_subtract_15 rfl (lv_at hl 3 rfl) ?_
        refine kM_none C hl.1 ⟨Nat.le_of_ble_eq_true rfl, Nat.le_of_ble_eq_true rfl⟩ (Nat.le_of_ble_eq_true rfl) ⟨Nat.le_of_ble_eq_true rfl, Nat.le_of_ble_eq_true rfl⟩ d_M_subtract_16 ?_
        refine lv_if_eq (tgt := 26) hx hb d_M_subtract_19 (by decide) (fun c_6 => ?_) (fun c_6 => ?_)
        · refine lv_iconst (v := 0) hx hb d_M_subtract_26 (by decide) ?_
          exact jn _ (by revert c_4 c_5 c_6; cases (wf_no a) <;> cases (wf_no b) <;> cases (wf_no t) <;> decide)
        · refine lv_iconst (v := 1) hx hb d_M_subtract_22 (by decide) ?_
          refine lv_goto (tgt := 27) hx hb d_M_subtract_23 (by decide) ?_
          exact jn _ (by revert c_4 c_5 c_6; cases (wf_no a) <;> cases (wf_no b) <;> cases (wf_no t) <;> decide)

set_option maxHeartbeats 4000000 in
set_option maxRecDepth 100000 in
/-- M_multiply -/
theorem c_M_multiplyBad (l : Launch) (D : va_G) (q : Nat → Nat) (κ : Nat → ClassId) (u : SM) (a : Int32) (b : Int32) (o_ : Int32) (t : Int32) (hbad : ((wf_no a || wf_no b || wf_no o_ || wf_no t) || (decide (o_ = t))) = true) (sz : Nat) : Met l y_M_multiply (.code y_M_multiply b_M_multiply 5 none :: wG) (wf_rm 1 30 0 0) (wf_Pc D vwCl (wM q κ u) (tyM κ) ([.ref (q 0), .int a, .int b, .int o_, .int t]) sz) (va_Qv (fun v => v = (wf_c2 (wf_no a || wf_no b || wf_no o_ || wf_no t) (decide (o_ = t)), u.2)) (wf_B D vwCl (wM q κ) (tyM κ) (va_A (wM q κ u) sz)) (va_A (wM q κ u) sz)) 0 0 (va_A (wM q κ u) sz) := by
  refine wf_open (by decide) (Nat.le_of_ble_eq_true rfl) k_M_multiply ?_
  intro p e s m below meth c ls hsz C hr hlocks hnm hex hP hK hD hl
  subst hsz
  have hx := C.1
  have hb := C.2.1
  have hml := C.2.2.1
  have hown := C.2.2.2.1
  have hts := C.2.2.2.2
  have hA : ∀ j : Nat, s.heap.size ≤ j → va_A (wM q κ u) s.heap.size j := fun j h => Or.inr h
  have hS : va_S (va_A (wM q κ u) s.heap.size) s.heap s.heap [] := va_S.rf
  generalize hAe : va_A (wM q κ u) s.heap.size = A at hA hS hD ⊢
  have hl : lv_has ls 5 [(0, .ref (q 0)), (1, .int (a)), (2, .int (b)), (3, .int (o_)), (4, .int (t))] := hl
  refine lv_aload_n hx hb d_M_multiply_0 rfl (lv_at hl 0 rfl) ?_
  refine wf_cutI (pcj := 45) (ls := ls) (rest := [.ref (q 0)]) (fun z => z = wf_c2 (wf_no a || wf_no b || wf_no o_ || wf_no t) (decide (o_ = t))) (fun z_1 ez_1 => ?_) (fun jn => ?_)
  · subst ez_1
    refine pM_code C hK hP hD hS 0 rfl (Nat.le_of_ble_eq_true rfl) d_M_multiply_45 (fun H locs hP hD hS => ?_)
    have hP : va_P D vwCl (wM q κ (wf_c2 (wf_no a || wf_no b || wf_no o_ || wf_no t) (decide (o_ = t)), u.2)) H := hP
    have hD : va_D A (wM q κ (wf_c2 (wf_no a || wf_no b || wf_no o_ || wf_no t) (decide (o_ = t)), u.2)) := hD
    generalize eu_2 : ((wf_c2 (wf_no a || wf_no b || wf_no o_ || wf_no t) (decide (o_ = t)), u.2) : SM) = u_2 at hP hD
    refine lv_aload_n hx hb d_M_multiply_48 rfl (lv_at hl 0 rfl) ?_
    refine gM C hK hP 0 rfl 0 (by decide) k_fl_M_code rfl d_M_multiply_49 ?_
    refine lv_if_le (tgt := 56) hx hb d_M_multiply_52 (by decide) (fun c_3 => False.elim (by first | exact absurd c_3 (by rw [← eu_2]; exact wf_c2_pos hbad) | exact absurd (by rw [← eu_2]; exact wf_c2_pos hbad) c_3)) (fun c_3 => ?_)
    exact wf_retv C hr hlocks u_2 (by first | exact eu_2.symm | rfl) hP hK hD hS (fun _ h => h) d_M_multiply_55
  · refine lv_iload_n hx hb d_M_multiply_1 rfl (lv_at hl 1 rfl) ?_
    refine kM_none C hl.1 ⟨Nat.le_of_ble_eq_true rfl, Nat.le_of_ble_eq_true rfl⟩ (Nat.le_of_ble_eq_true rfl) ⟨Nat.le_of_ble_eq_true rfl, Nat.le_of_ble_eq_true rfl⟩ d_M_multiply_2 ?_
    refine lv_if_ne (tgt := 30) hx hb d_M_multiply_5 (by decide) (fun c_4 => ?_) (fun c_4 => ?_)
    · refine lv_iconst (v := 1) hx hb d_M_multiply_30 (by decide) ?_
      refine lv_goto (tgt := 45) hx hb d_M_multiply_31 (by decide) ?_
      exact jn _ (by revert c_4; cases (wf_no a) <;> cases (wf_no b) <;> cases (wf_no o_) <;> cases (wf_no t) <;> cases (decide (o_ = t)) <;> decide)
    · refine lv_iload_n hx hb d_M_multiply_8 rfl (lv_at hl 2 rfl) ?_
      refine kM_none C hl.1 ⟨Nat.le_of_ble_eq_true rfl, Nat.le_of_ble_eq_true rfl⟩ (Nat.le_of_ble_eq_true rfl) ⟨Nat.le_of_ble_eq_true rfl, Nat.le_of_ble_eq_true rfl⟩ d_M_multiply_9 ?_
      refine lv_if_ne (tgt := 30) hx hb d_M_multiply_12 (by decide) (fun c_5 => ?_) (fun c_5 => ?_)
      · refine lv_iconst (v := 1) hx hb d_M_multiply_30 (by decide) ?_
        refine lv_goto (tgt := 45) hx hb d_M_multiply_31 (by decide) ?_
        exact jn _ (by revert c_4 c_5; cases (wf_no a) <;> cases (wf_no b) <;> cases (wf_no o_) <;> cases (wf_no t) <;> cases (decide (o_ = t)) <;> decide)
      · refine lv_iload_n hx hb d_M_multiply_15 rfl (lv_at hl 3 rfl) ?_
        refine kM_none C hl.1 ⟨Nat.le_of_ble_eq_true rfl, Nat.le_of_ble_eq_true rfl⟩ (Nat.le_of_ble_eq_true rfl) ⟨Nat.le_of_ble_eq_true rfl, Nat.le_of_ble_eq_true rfl⟩ d_M_multiply_16 ?_
        refine lv_if_ne (tgt := 30) hx hb d_M_multiply_19 (by decide) (fun c_6 => ?_) (fun c_6 => ?_)
        · refine lv_iconst (v := 1) hx hb d_M_multiply_30 (by decide) ?_
          refine lv_goto (tgt := 45) hx hb d_M_multiply_31 (by decide) ?_
          exact jn _ (by revert c_4 c_5 c_6; cases (wf_no a) <;> cases (wf_no b) <;> cases (wf_no o_) <;> cases (wf_no t) <;> cases (decide (o_ = t)) <;> decide)
        · refine lv_iload hx hb d_M_multiply_22 (lv_at hl 4 rfl) ?_
          refine kM_none C hl.1 ⟨Nat.le_of_ble_eq_true rfl, Nat.le_of_ble_eq_true rfl⟩ (Nat.le_of_ble_eq_true rfl) ⟨Nat.le_of_ble_eq_true rfl, Nat.le_of_ble_eq_true rfl⟩ d_M_multiply_24 ?_
          refine lv_if_eq (tgt := 34) hx hb d_M_multiply_27 (by decide) (fun c_7 => ?_) (fun c_7 => ?_)
          · refine lv_iload_n hx hb d_M_multiply_34 rfl (lv_at hl 3 rfl) ?_
            refine lv_iload hx hb d_M_multiply_35 (lv_at hl 4 rfl) ?_
            refine lv_icmp_ne (tgt := 44) hx hb d_M_multiply_37 (by decide) (fun c_8 => ?_) (fun c_8 => ?_)
            · have d_9 : decide (o_ = t) = false := decide_eq_false (c_8)
              refine lv_iconst (v := 0) hx hb d_M_multiply_44 (by decide) ?_
              exact jn _ (by revert c_4 c_5 c_6 c_7 d_9; cases (wf_no a) <;> cases (wf_no b) <;> cases (wf_no o_) <;> cases (wf_no t) <;> cases (decide (o_ = t)) <;> decide)
            · have d_9 : decide (o_ = t) = true := decide_eq_true (c_8)
              refine lv_iconst (v := 2) hx hb d_M_multiply_40 (by decide) ?_
              refine lv_goto (tgt := 45) hx hb d_M_multiply_41 (by decide) ?_
              exact jn _ (by revert c_4 c_5 c_6 c_7 d_9; cases (wf_no a) <;> cases (wf_no b) <;> cases (wf_no o_) <;> cases (wf_no t) <;> cases (decide (o_ = t)) <;> decide)
          · refine lv_iconst (v := 1) hx hb d_M_multiply_30 (by decide) ?_
            refine lv_goto (tgt := 45) hx hb d_M_multiply_31 (by decide) ?_
            exact jn _ (by revert c_4 c_5 c_6 c_7; cases (wf_no a) <;> cases (wf_no b) <;> cases (wf_no o_) <;> cases (wf_no t) <;> cases (decide (o_ = t)) <;> decide)

set_option maxHeartbeats 4000000 in
set_option maxRecDepth 100000 in
/-- M_divide -/
theorem c_M_divideBad (l : Launch) (D : va_G) (q : Nat → Nat) (κ : Nat → ClassId) (u : SM) (a : Int32) (b : Int32) (o_ : Int32) (t : Int32) (hbad : ((wf_no a || wf_no b || wf_no o_ || wf_no t) || (decide (o_ = t))) = true) (sz : Nat) : Met l y_M_divide (.code y_M_divide b_M_divide 7 none :: wG) (wf_rm 1 30 0 0) (wf_Pc D vwCl (wM q κ u) (tyM κ) ([.ref (q 0), .int a, .int b, .int o_, .int t]) sz) (va_Qv (fun v => v = (wf_c2 (wf_no a || wf_no b || wf_no o_ || wf_no t) (decide (o_ = t)), u.2)) (wf_B D vwCl (wM q κ) (tyM κ) (va_A (wM q κ u) sz)) (va_A (wM q κ u) sz)) 0 0 (va_A (wM q κ u) sz) := by
  refine wf_open (by decide) (Nat.le_of_ble_eq_true rfl) k_M_divide ?_
  intro p e s m below meth c ls hsz C hr hlocks hnm hex hP hK hD hl
  subst hsz
  have hx := C.1
  have hb := C.2.1
  have hml := C.2.2.1
  have hown := C.2.2.2.1
  have hts := C.2.2.2.2
  have hA : ∀ j : Nat, s.heap.size ≤ j → va_A (wM q κ u) s.heap.size j := fun j h => Or.inr h
  have hS : va_S (va_A (wM q κ u) s.heap.size) s.heap s.heap [] := va_S.rf
  generalize hAe : va_A (wM q κ u) s.heap.size = A at hA hS hD ⊢
  have hl : lv_has ls 7 [(0, .ref (q 0)), (1, .int (a)), (2, .int (b)), (3, .int (o_)), (4, .int (t))] := hl
  refine lv_aload_n hx hb d_M_divide_0 rfl (lv_at hl 0 rfl) ?_
  refine wf_cutI (pcj := 45) (ls := ls) (rest := [.ref (q 0)]) (fun z => z = wf_c2 (wf_no a || wf_no b || wf_no o_ || wf_no t) (decide (o_ = t))) (fun z_1 ez_1 => ?_) (fun jn => ?_)
  · subst ez_1
    refine pM_code C hK hP hD hS 0 rfl (Nat.le_of_ble_eq_true rfl) d_M_divide_45 (fun H locs hP hD hS => ?_)
    have hP : va_P D vwCl (wM q κ (wf_c2 (wf_no a || wf_no b || wf_no o_ || wf_no t) (decide (o_ = t)), u.2)) H := hP
    have hD : va_D A (wM q κ (wf_c2 (wf_no a || wf_no b || wf_no o_ || wf_no t) (decide (o_ = t)), u.2)) := hD
    generalize eu_2 : ((wf_c2 (wf_no a || wf_no b || wf_no o_ || wf_no t) (decide (o_ = t)), u.2) : SM) = u_2 at hP hD
    refine lv_aload_n hx hb d_M_divide_48 rfl (lv_at hl 0 rfl) ?_
    refine gM C hK hP 0 rfl 0 (by decide) k_fl_M_code rfl d_M_divide_49 ?_
    refine lv_if_le (tgt := 56) hx hb d_M_divide_52 (by decide) (fun c_3 => False.elim (by first | exact absurd c_3 (by rw [← eu_2]; exact wf_c2_pos hbad) | exact absurd (by rw [← eu_2]; exact wf_c2_pos hbad) c_3)) (fun c_3 => ?_)
    exact wf_retv C hr hlocks u_2 (by first | exact eu_2.symm | rfl) hP hK hD hS (fun _ h => h) d_M_divide_55
  · refine lv_iload_n hx hb d_M_divide_1 rfl (lv_at hl 1 rfl) ?_
    refine kM_none C hl.1 ⟨Nat.le_of_ble_eq_true rfl, Nat.le_of_ble_eq_true rfl⟩ (Nat.le_of_ble_eq_true rfl) ⟨Nat.le_of_ble_eq_true rfl, Nat.le_of_ble_eq_true rfl⟩ d_M_divide_2 ?_
    refine lv_if_ne (tgt := 30) hx hb d_M_divide_5 (by decide) (fun c_4 => ?_) (fun c_4 => ?_)
    · refine lv_iconst (v := 1) hx hb d_M_divide_30 (by decide) ?_
      refine lv_goto (tgt := 45) hx hb d_M_divide_31 (by decide) ?_
      exact jn _ (by revert c_4; cases (wf_no a) <;> cases (wf_no b) <;> cases (wf_no o_) <;> cases (wf_no t) <;> cases (decide (o_ = t)) <;> decide)
    · refine lv_iload_n hx hb d_M_divide_8 rfl (lv_at hl 2 rfl) ?_
      refine kM_none C hl.1 ⟨Nat.le_of_ble_eq_true rfl, Nat.le_of_ble_eq_true rfl⟩ (Nat.le_of_ble_eq_true rfl) ⟨Nat.le_of_ble_eq_true rfl, Nat.le_of_ble_eq_true rfl⟩ d_M_divide_9 ?_
      refine lv_if_ne (tgt := 30) hx hb d_M_divide_12 (by decide) (fun c_5 => ?_) (fun c_5 => ?_)
      · refine lv_iconst (v := 1) hx hb d_M_divide_30 (by decide) ?_
        refine lv_goto (tgt := 45) hx hb d_M_divide_31 (by decide) ?_
        exact jn _ (by revert c_4 c_5; cases (wf_no a) <;> cases (wf_no b) <;> cases (wf_no o_) <;> cases (wf_no t) <;> cases (decide (o_ = t)) <;> decide)
      · refine lv_iload_n hx hb d_M_divide_15 rfl (lv_at hl 3 rfl) ?_
        refine kM_none C hl.1 ⟨Nat.le_of_ble_eq_true rfl, Nat.le_of_ble_eq_true rfl⟩ (Nat.le_of_ble_eq_true rfl) ⟨Nat.le_of_ble_eq_true rfl, Nat.le_of_ble_eq_true rfl⟩ d_M_divide_16 ?_
        refine lv_if_ne (tgt := 30) hx hb d_M_divide_19 (by decide) (fun c_6 => ?_) (fun c_6 => ?_)
        · refine lv_iconst (v := 1) hx hb d_M_divide_30 (by decide) ?_
          refine lv_goto (tgt := 45) hx hb d_M_divide_31 (by decide) ?_
          exact jn _ (by revert c_4 c_5 c_6; cases (wf_no a) <;> cases (wf_no b) <;> cases (wf_no o_) <;> cases (wf_no t) <;> cases (decide (o_ = t)) <;> decide)
        · refine lv_iload hx hb d_M_divide_22 (lv_at hl 4 rfl) ?_
          refine kM_none C hl.1 ⟨Nat.le_of_ble_eq_true rfl, Nat.le_of_ble_eq_true rfl⟩ (Nat.le_of_ble_eq_true rfl) ⟨Nat.le_of_ble_eq_true rfl, Nat.le_of_ble_eq_true rfl⟩ d_M_divide_24 ?_
          refine lv_if_eq (tgt := 34) hx hb d_M_divide_27 (by decide) (fun c_7 => ?_) (fun c_7 => ?_)
          · refine lv_iload_n hx hb d_M_divide_34 rfl (lv_at hl 3 rfl) ?_
            refine lv_iload hx hb d_M_divide_35 (lv_at hl 4 rfl) ?_
            refine lv_icmp_ne (tgt := 44) hx hb d_M_divide_37 (by decide) (fun c_8 => ?_) (fun c_8 => ?_)
            · have d_9 : decide (o_ = t) = false := decide_eq_false (c_8)
              refine lv_iconst (v := 0) hx hb d_M_divide_44 (by decide) ?_
              exact jn _ (by revert c_4 c_5 c_6 c_7 d_9; cases (wf_no a) <;> cases (wf_no b) <;> cases (wf_no o_) <;> cases (wf_no t) <;> cases (decide (o_ = t)) <;> decide)
            · have d_9 : decide (o_ = t) = true := decide_eq_true (c_8)
              refine lv_iconst (v := 2) hx hb d_M_divide_40 (by decide) ?_
              refine lv_goto (tgt := 45) hx hb d_M_divide_41 (by decide) ?_
              exact jn _ (by revert c_4 c_5 c_6 c_7 d_9; cases (wf_no a) <;> cases (wf_no b) <;> cases (wf_no o_) <;> cases (wf_no t) <;> cases (decide (o_ = t)) <;> decide)
          · refine lv_iconst (v := 1) hx hb d_M_divide_30 (by decide) ?_
            refine lv_goto (tgt := 45) hx hb d_M_divide_31 (by decide) ?_
            exact jn _ (by revert c_4 c_5 c_6 c_7; cases (wf_no a) <;> cases (wf_no b) <;> cases (wf_no o_) <;> cases (wf_no t) <;> cases (decide (o_ = t)) <;> decide)

set_option maxHeartbeats 4000000 in
set_option maxRecDepth 100000 in
/-- M_root -/
theorem c_M_rootBad (l : Launch) (D : va_G) (q : Nat → Nat) (κ : Nat → ClassId) (u : SM) (a : Int32) (o_ : Int32) (t : Int32) (hbad : ((wf_no a || wf_no o_ || wf_no t) || (decide (o_ = t))) = true) (sz : Nat) : Met l y_M_root (.code y_M_root b_M_root 7 none :: wG) (wf_rm 1 30 0 0) (wf_Pc D vwCl (wM q κ u) (tyM κ) ([.ref (q 0), .int a, .int o_, .int t]) sz) (va_Qv (fun v => v = (wf_c2 (wf_no a || wf_no o_ || wf_no t) (decide (o_ = t)), u.2)) (wf_B D vwCl (wM q κ) (tyM κ) (va_A (wM q κ u) sz)) (va_A (wM q κ u) sz)) 0 0 (va_A (wM q κ u) sz) := by
  refine wf_open (by decide) (Nat.le_of_ble_eq_true rfl) k_M_root ?_
  intro p e s m below meth c ls hsz C hr hlocks hnm hex hP hK hD hl
  subst hsz
  have hx := C.1
  have hb := C.2.1
  have hml := C.2.2.1
  have hown := C.2.2.2.1
  have hts := C.2.2.2.2
  have hA : ∀ j : Nat, s.heap.size ≤ j → va_A (wM q κ u) s.heap.size j := fun j h => Or.inr h
  have hS : va_S (va_A (wM q κ u) s.heap.size) s.heap s.heap [] := va_S.rf
  generalize hAe : va_A (wM q κ u) s.heap.size = A at hA hS hD ⊢
  have hl : lv_has ls 7 [(0, .ref (q 0)), (1, .int (a)), (2, .int (o_)), (3, .int (t))] := hl
  refine lv_aload_n hx hb d_M_root_0 rfl (lv_at hl 0 rfl) ?_
  refine wf_cutI (pcj := 36) (ls := ls) (rest := [.ref (q 0)]) (fun z => z = wf_c2 (wf_no a || wf_no o_ || wf_no t) (decide (o_ = t))) (fun z_1 ez_1 => ?_) (fun jn => ?_)
  · subst ez_1
    refine pM_code C hK hP hD hS 0 rfl (Nat.le_of_ble_eq_true rfl) d_M_root_36 (fun H locs hP hD hS => ?_)
    have hP : va_P D vwCl (wM q κ (wf_c2 (wf_no a || wf_no o_ || wf_no t) (decide (o_ = t)), u.2)) H := hP
    have hD : va_D A (wM q κ (wf_c2 (wf_no a || wf_no o_ || wf_no t) (decide (o_ = t)), u.2)) := hD
    generalize eu_2 : ((wf_c2 (wf_no a || wf_no o_ || wf_no t) (decide (o_ = t)), u.2) : SM) = u_2 at hP hD
    refine lv_aload_n hx hb d_M_root_39 rfl (lv_at hl 0 rfl) ?_
    refine gM C hK hP 0 rfl 0 (by decide) k_fl_M_code rfl d_M_root_40 ?_
    refine lv_if_le (tgt := 47) hx hb d_M_root_43 (by decide) (fun c_3 => False.elim (by first | exact absurd c_3 (by rw [← eu_2]; exact wf_c2_pos hbad) | exact absurd (by rw [← eu_2]; exact wf_c2_pos hbad) c_3)) (fun c_3 => ?_)
    exact wf_retv C hr hlocks u_2 (by first | exact eu_2.symm | rfl) hP hK hD hS (fun _ h => h) d_M_root_46
  · refine lv_iload_n hx hb d_M_root_1 rfl (lv_at hl 1 rfl) ?_
    refine kM_none C hl.1 ⟨Nat.le_of_ble_eq_true rfl, Nat.le_of_ble_eq_true rfl⟩ (Nat.le_of_ble_eq_true rfl) ⟨Nat.le_of_ble_eq_true rfl, Nat.le_of_ble_eq_true rfl⟩ d_M_root_2 ?_
    refine lv_if_ne (tgt := 22) hx hb d_M_root_5 (by decide) (fun c_4 => ?_) (fun c_4 => ?_)
    · refine lv_iconst (v := 1) hx hb d_M_root_22 (by decide) ?_
      refine lv_goto (tgt := 36) hx hb d_M_root_23 (by decide) ?_
      exact jn _ (by revert c_4; cases (wf_no a) <;> cases (wf_no o_) <;> cases (wf_no t) <;> cases (decide (o_ = t)) <;> decide)
    · refine lv_iload_n hx hb d_M_root_8 rfl (lv_at hl 2 rfl) ?_
      refine kM_none C hl.1 ⟨Nat.le_of_ble_eq_true rfl, Nat.le_of_ble_eq_true rfl⟩ (Nat.le_of_ble_eq_true rfl) ⟨Nat.le_of_ble_eq_true rfl, Nat.le_of_ble_eq_true rfl⟩ d_M_root_9 ?_
      refine lv_if_ne (tgt := 22) hx hb d_M_root_12 (by decide) (fun c_5 => ?_) (fun c_5 => ?_)
      · refine lv_iconst (v := 1) hx hb d_M_root_22 (by decide) ?_
        refine lv_goto (tgt := 36) hx hb d_M_root_23 (by decide) ?_
        exact jn _ (by revert c_4 c_5; cases (wf_no a) <;> cases (wf_no o_) <;> cases (wf_no t) <;> cases (decide (o_ = t)) <;> decide)
      · refine lv_iload_n hx hb d_M_root_15 rfl (lv_at hl 3 rfl) ?_
        refine kM_none C hl.1 ⟨Nat.le_of_ble_eq_true rfl, Nat.le_of_ble_eq_true rfl⟩ (Nat.le_of_ble_eq_true rfl) ⟨Nat.le_of_ble_eq_true rfl, Nat.le_of_ble_eq_true rfl⟩ d_M_root_16 ?_
        refine lv_if_eq (tgt := 26) hx hb d_M_root_19 (by decide) (fun c_6 => ?_) (fun c_6 => ?_)
        · refine lv_iload_n hx hb d_M_root_26 rfl (lv_at hl 2 rfl) ?_
          refine lv_iload_n hx hb d_M_root_27 rfl (lv_at hl 3 rfl) ?_
          refine lv_icmp_ne (tgt := 35) hx hb d_M_root_28 (by decide) (fun c_7 => ?_) (fun c_7 => ?_)
          · have d_8 : decide (o_ = t) = false := decide_eq_false (c_7)
            refine lv_iconst (v := 0) hx hb d_M_root_35 (by decide) ?_
            exact jn _ (by revert c_4 c_5 c_6 d_8; cases (wf_no a) <;> cases (wf_no o_) <;> cases (wf_no t) <;> cases (decide (o_ = t)) <;> decide)
          · have d_8 : decide (o_ = t) = true := decide_eq_true (c_7)
            refine lv_iconst (v := 2) hx hb d_M_root_31 (by decide) ?_
            refine lv_goto (tgt := 36) hx hb d_M_root_32 (by decide) ?_
            exact jn _ (by revert c_4 c_5 c_6 d_8; cases (wf_no a) <;> cases (wf_no o_) <;> cases (wf_no t) <;> cases (decide (o_ = t)) <;> decide)
        · refine lv_iconst (v := 1) hx hb d_M_root_22 (by decide) ?_
          refine lv_goto (tgt := 36) hx hb d_M_root_23 (by decide) ?_
          exact jn _ (by revert c_4 c_5 c_6; cases (wf_no a) <;> cases (wf_no o_) <;> cases (wf_no t) <;> cases (decide (o_ = t)) <;> decide)

set_option maxHeartbeats 4000000 in
set_option maxRecDepth 100000 in
/-- M_shift -/
theorem c_M_shiftBad (l : Launch) (D : va_G) (q : Nat → Nat) (κ : Nat → ClassId) (u : SM) (a : Int32) (n : Int32) (t : Int32) (hbad : ((wf_no a || wf_no t) || (false)) = true) (sz : Nat) : Met l y_M_shift (.code y_M_shift b_M_shift 4 (some .boolean) :: wG) (wf_rm 1 30 0 0) (wf_Pc D vwCl (wM q κ u) (tyM κ) ([.ref (q 0), .int a, .int n, .int t]) sz) (va_Qi (fun r v => v = (wf_c2 (wf_no a || wf_no t) (false), u.2)) (wf_B D vwCl (wM q κ) (tyM κ) (va_A (wM q κ u) sz)) (va_A (wM q κ u) sz)) 0 0 (va_A (wM q κ u) sz) := by
  refine wf_open (by decide) (Nat.le_of_ble_eq_true rfl) k_M_shift ?_
  intro p e s m below meth c ls hsz C hr hlocks hnm hex hP hK hD hl
  subst hsz
  have hx := C.1
  have hb := C.2.1
  have hml := C.2.2.1
  have hown := C.2.2.2.1
  have hts := C.2.2.2.2
  have hA : ∀ j : Nat, s.heap.size ≤ j → va_A (wM q κ u) s.heap.size j := fun j h => Or.inr h
  have hS : va_S (va_A (wM q κ u) s.heap.size) s.heap s.heap [] := va_S.rf
  generalize hAe : va_A (wM q κ u) s.heap.size = A at hA hS hD ⊢
  have hl : lv_has ls 4 [(0, .ref (q 0)), (1, .int (a)), (2, .int (n)), (3, .int (t))] := hl
  refine lv_aload_n hx hb d_M_shift_0 rfl (lv_at hl 0 rfl) ?_
  refine wf_cutI (pcj := 20) (ls := ls) (rest := [.ref (q 0)]) (fun z => z = wf_c2 (wf_no a || wf_no t) (false)) (fun z_1 ez_1 => ?_) (fun jn => ?_)
  · subst ez_1
    refine pM_code C hK hP hD hS 0 rfl (Nat.le_of_ble_eq_true rfl) d_M_shift_20 (fun H locs hP hD hS => ?_)
    have hP : va_P D vwCl (wM q κ (wf_c2 (wf_no a || wf_no t) (false), u.2)) H := hP
    have hD : va_D A (wM q κ (wf_c2 (wf_no a || wf_no t) (false), u.2)) := hD
    generalize eu_2 : ((wf_c2 (wf_no a || wf_no t) (false), u.2) : SM) = u_2 at hP hD
    refine lv_aload_n hx hb d_M_shift_23 rfl (lv_at hl 0 rfl) ?_
    refine gM C hK hP 0 rfl 0 (by decide) k_fl_M_code rfl d_M_shift_24 ?_
    refine lv_if_ne (tgt := 45) hx hb d_M_shift_27 (by decide) (fun c_3 => ?_) (fun c_3 => False.elim (by first | exact absurd (by rw [← eu_2]; exact wf_c2_ne hbad) c_3 | exact absurd c_3 (by rw [← eu_2]; exact wf_c2_ne hbad)))
    refine lv_iconst (v := 0) hx hb d_M_shift_45 (by decide) ?_
    exact wf_retz C hr (rfl) hlocks u_2 (by first | exact eu_2.symm | rfl) hP hK hD hS (fun _ h => h) d_M_shift_46
  · refine lv_iload_n hx hb d_M_shift_1 rfl (lv_at hl 1 rfl) ?_
    refine kM_none C hl.1 ⟨Nat.le_of_ble_eq_true rfl, Nat.le_of_ble_eq_true rfl⟩ (Nat.le_of_ble_eq_true rfl) ⟨Nat.le_of_ble_eq_true rfl, Nat.le_of_ble_eq_true rfl⟩ d_M_shift_2 ?_
    refine lv_if_ne (tgt := 15) hx hb d_M_shift_5 (by decide) (fun c_4 => ?_) (fun c_4 => ?_)
    · refine lv_iconst (v := 1) hx hb d_M_shift_15 (by decide) ?_
      refine lv_goto (tgt := 20) hx hb d_M_shift_16 (by decide) ?_
      exact jn _ (by revert c_4; cases (wf_no a) <;> cases (wf_no t) <;> decide)
    · refine lv_iload_n hx hb d_M_shift_8 rfl (lv_at hl 3 rfl) ?_
      refine kM_none C hl.1 ⟨Nat.le_of_ble_eq_true rfl, Nat.le_of_ble_eq_true rfl⟩ (Nat.le_of_ble_eq_true rfl) ⟨Nat.le_of_ble_eq_true rfl, Nat.le_of_ble_eq_true rfl⟩ d_M_shift_9 ?_
      refine lv_if_eq (tgt := 19) hx hb d_M_shift_12 (by decide) (fun c_5 => ?_) (fun c_5 => ?_)
      · refine lv_iconst (v := 0) hx hb d_M_shift_19 (by decide) ?_
        exact jn _ (by revert c_4 c_5; cases (wf_no a) <;> cases (wf_no t) <;> decide)
      · refine lv_iconst (v := 1) hx hb d_M_shift_15 (by decide) ?_
        refine lv_goto (tgt := 20) hx hb d_M_shift_16 (by decide) ?_
        exact jn _ (by revert c_4 c_5; cases (wf_no a) <;> cases (wf_no t) <;> decide)

set_option maxHeartbeats 4000000 in
set_option maxRecDepth 100000 in
/-- M_jam -/
theorem c_M_jamBad (l : Launch) (D : va_G) (q : Nat → Nat) (κ : Nat → ClassId) (u : SM) (a : Int32) (n : Int32) (t : Int32) (hbad : ((wf_no a || wf_no t) || (decide (n < 0))) = true) (sz : Nat) : Met l y_M_jam (.code y_M_jam b_M_jam 4 none :: wG) (wf_rm 1 30 0 0) (wf_Pc D vwCl (wM q κ u) (tyM κ) ([.ref (q 0), .int a, .int n, .int t]) sz) (va_Qv (fun v => v = (wf_c2 (wf_no a || wf_no t) (decide (n < 0)), u.2)) (wf_B D vwCl (wM q κ) (tyM κ) (va_A (wM q κ u) sz)) (va_A (wM q κ u) sz)) 0 0 (va_A (wM q κ u) sz) := by
  refine wf_open (by decide) (Nat.le_of_ble_eq_true rfl) k_M_jam ?_
  intro p e s m below meth c ls hsz C hr hlocks hnm hex hP hK hD hl
  subst hsz
  have hx := C.1
  have hb := C.2.1
  have hml := C.2.2.1
  have hown := C.2.2.2.1
  have hts := C.2.2.2.2
  have hA : ∀ j : Nat, s.heap.size ≤ j → va_A (wM q κ u) s.heap.size j := fun j h => Or.inr h
  have hS : va_S (va_A (wM q κ u) s.heap.size) s.heap s.heap [] := va_S.rf
  generalize hAe : va_A (wM q κ u) s.heap.size = A at hA hS hD ⊢
  have hl : lv_has ls 4 [(0, .ref (q 0)), (1, .int (a)), (2, .int (n)), (3, .int (t))] := hl
  refine lv_aload_n hx hb d_M_jam_0 rfl (lv_at hl 0 rfl) ?_
  refine wf_cutI (pcj := 28) (ls := ls) (rest := [.ref (q 0)]) (fun z => z = wf_c2 (wf_no a || wf_no t) (decide (n < 0))) (fun z_1 ez_1 => ?_) (fun jn => ?_)
  · subst ez_1
    refine pM_code C hK hP hD hS 0 rfl (Nat.le_of_ble_eq_true rfl) d_M_jam_28 (fun H locs hP hD hS => ?_)
    have hP : va_P D vwCl (wM q κ (wf_c2 (wf_no a || wf_no t) (decide (n < 0)), u.2)) H := hP
    have hD : va_D A (wM q κ (wf_c2 (wf_no a || wf_no t) (decide (n < 0)), u.2)) := hD
    generalize eu_2 : ((wf_c2 (wf_no a || wf_no t) (decide (n < 0)), u.2) : SM) = u_2 at hP hD
    refine lv_aload_n hx hb d_M_jam_31 rfl (lv_at hl 0 rfl) ?_
    refine gM C hK hP 0 rfl 0 (by decide) k_fl_M_code rfl d_M_jam_32 ?_
    refine lv_if_ne (tgt := 61) hx hb d_M_jam_35 (by decide) (fun c_3 => ?_) (fun c_3 => False.elim (by first | exact absurd (by rw [← eu_2]; exact wf_c2_ne hbad) c_3 | exact absurd c_3 (by rw [← eu_2]; exact wf_c2_ne hbad)))
    exact wf_retv C hr hlocks u_2 (by first | exact eu_2.symm | rfl) hP hK hD hS (fun _ h => h) d_M_jam_61
  · refine lv_iload_n hx hb d_M_jam_1 rfl (lv_at hl 1 rfl) ?_
    refine kM_none C hl.1 ⟨Nat.le_of_ble_eq_true rfl, Nat.le_of_ble_eq_true rfl⟩ (Nat.le_of_ble_eq_true rfl) ⟨Nat.le_of_ble_eq_true rfl, Nat.le_of_ble_eq_true rfl⟩ d_M_jam_2 ?_
    refine lv_if_ne (tgt := 15) hx hb d_M_jam_5 (by decide) (fun c_4 => ?_) (fun c_4 => ?_)
    · refine lv_iconst (v := 1) hx hb d_M_jam_15 (by decide) ?_
      refine lv_goto (tgt := 28) hx hb d_M_jam_16 (by decide) ?_
      exact jn _ (by revert c_4; cases (wf_no a) <;> cases (wf_no t) <;> cases (decide (n < 0)) <;> decide)
    · refine lv_iload_n hx hb d_M_jam_8 rfl (lv_at hl 3 rfl) ?_
      refine kM_none C hl.1 ⟨Nat.le_of_ble_eq_true rfl, Nat.le_of_ble_eq_true rfl⟩ (Nat.le_of_ble_eq_true rfl) ⟨Nat.le_of_ble_eq_true rfl, Nat.le_of_ble_eq_true rfl⟩ d_M_jam_9 ?_
      refine lv_if_eq (tgt := 19) hx hb d_M_jam_12 (by decide) (fun c_5 => ?_) (fun c_5 => ?_)
      · refine lv_iload_n hx hb d_M_jam_19 rfl (lv_at hl 2 rfl) ?_
        refine lv_if_ge (tgt := 27) hx hb d_M_jam_20 (by decide) (fun c_6 => ?_) (fun c_6 => ?_)
        · have d_7 : decide (n < 0) = false := decide_eq_false (Int32.not_lt.mpr c_6)
          refine lv_iconst (v := 0) hx hb d_M_jam_27 (by decide) ?_
          exact jn _ (by revert c_4 c_5 d_7; cases (wf_no a) <;> cases (wf_no t) <;> cases (decide (n < 0)) <;> decide)
        · have d_7 : decide (n < 0) = true := decide_eq_true (Int32.not_le.mp c_6)
          refine lv_iconst (v := 2) hx hb d_M_jam_23 (by decide) ?_
          refine lv_goto (tgt := 28) hx hb d_M_jam_24 (by decide) ?_
          exact jn _ (by revert c_4 c_5 d_7; cases (wf_no a) <;> cases (wf_no t) <;> cases (decide (n < 0)) <;> decide)
      · refine lv_iconst (v := 1) hx hb d_M_jam_15 (by decide) ?_
        refine lv_goto (tgt := 28) hx hb d_M_jam_16 (by decide) ?_
        exact jn _ (by revert c_4 c_5; cases (wf_no a) <;> cases (wf_no t) <;> cases (decide (n < 0)) <;> decide)

set_option maxHeartbeats 4000000 in
set_option maxRecDepth 100000 in
/-- M_zeros -/
theorem c_M_zerosBad (l : Launch) (D : va_G) (q : Nat → Nat) (κ : Nat → ClassId) (u : SM) (a : Int32) (hbad : ((wf_no a) || (false)) = true) (sz : Nat) : Met l y_M_zeros (.code y_M_zeros b_M_zeros 3 (some .int) :: wG) (wf_rm 1 30 0 0) (wf_Pc D vwCl (wM q κ u) (tyM κ) ([.ref (q 0), .int a]) sz) (va_Qi (fun r v => v = (wf_c2 (wf_no a) (false), u.2)) (wf_B D vwCl (wM q κ) (tyM κ) (va_A (wM q κ u) sz)) (va_A (wM q κ u) sz)) 0 0 (va_A (wM q κ u) sz) := by
  refine wf_open (by decide) (Nat.le_of_ble_eq_true rfl) k_M_zeros ?_
  intro p e s m below meth c ls hsz C hr hlocks hnm hex hP hK hD hl
  subst hsz
  have hx := C.1
  have hb := C.2.1
  have hml := C.2.2.1
  have hown := C.2.2.2.1
  have hts := C.2.2.2.2
  have hA : ∀ j : Nat, s.heap.size ≤ j → va_A (wM q κ u) s.heap.size j := fun j h => Or.inr h
  have hS : va_S (va_A (wM q κ u) s.heap.size) s.heap s.heap [] := va_S.rf
  generalize hAe : va_A (wM q κ u) s.heap.size = A at hA hS hD ⊢
  have hl : lv_has ls 3 [(0, .ref (q 0)), (1, .int (a))] := hl
  refine lv_aload_n hx hb d_M_zeros_0 rfl (lv_at hl 0 rfl) ?_
  refine wf_cutI (pcj := 13) (ls := ls) (rest := [.ref (q 0)]) (fun z => z = wf_c2 (wf_no a) (false)) (fun z_1 ez_1 => ?_) (fun jn => ?_)
  · subst ez_1
    refine pM_code C hK hP hD hS 0 rfl (Nat.le_of_ble_eq_true rfl) d_M_zeros_13 (fun H locs hP hD hS => ?_)
    have hP : va_P D vwCl (wM q κ (wf_c2 (wf_no a) (false), u.2)) H := hP
    have hD : va_D A (wM q κ (wf_c2 (wf_no a) (false), u.2)) := hD
    generalize eu_2 : ((wf_c2 (wf_no a) (false), u.2) : SM) = u_2 at hP hD
    refine lv_iconst (v := 0) hx hb d_M_zeros_16 (by decide) ?_
    refine lv_istore_n (lv' := [(2, .int (0)), (0, .ref (q 0)), (1, .int (a))]) hx hb d_M_zeros_17 rfl hl (by decide) rfl (fun ls hl => ?_)
    refine lv_aload_n hx hb d_M_zeros_18 rfl (lv_at hl 1 rfl) ?_
    refine gM C hK hP 0 rfl 0 (by decide) k_fl_M_code rfl d_M_zeros_19 ?_
    refine lv_if_ne (tgt := 56) hx hb d_M_zeros_22 (by decide) (fun c_3 => ?_) (fun c_3 => False.elim (by first | exact absurd (by rw [← eu_2]; exact wf_c2_ne hbad) c_3 | exact absurd c_3 (by rw [← eu_2]; exact wf_c2_ne hbad)))
    refine lv_iload_n hx hb d_M_zeros_56 rfl (lv_at hl 0 rfl) ?_
    exact wf_reti C hr hlocks u_2 (by first | exact eu_2.symm | rfl) hP hK hD hS (fun _ h => h) d_M_zeros_57
  · refine lv_iload_n hx hb d_M_zeros_1 rfl (lv_at hl 1 rfl) ?_
    refine kM_none C hl.1 ⟨Nat.le_of_ble_eq_true rfl, Nat.le_of_ble_eq_true rfl⟩ (Nat.le_of_ble_eq_true rfl) ⟨Nat.le_of_ble_eq_true rfl, Nat.le_of_ble_eq_true rfl⟩ d_M_zeros_2 ?_
    refine lv_if_eq (tgt := 12) hx hb d_M_zeros_5 (by decide) (fun c_4 => ?_) (fun c_4 => ?_)
    · refine lv_iconst (v := 0) hx hb d_M_zeros_12 (by decide) ?_
      exact jn _ (by revert c_4; cases (wf_no a) <;> decide)
    · refine lv_iconst (v := 1) hx hb d_M_zeros_8 (by decide) ?_
      refine lv_goto (tgt := 13) hx hb d_M_zeros_9 (by decide) ?_
      exact jn _ (by revert c_4; cases (wf_no a) <;> decide)

set_option maxHeartbeats 4000000 in
set_option maxRecDepth 100000 in
/-- M_compare -/
theorem c_M_compareBad (l : Launch) (D : va_G) (q : Nat → Nat) (κ : Nat → ClassId) (u : SM) (a : Int32) (b : Int32) (hbad : ((wf_no a || wf_no b) || (false)) = true) (sz : Nat) : Met l y_M_compare (.code y_M_compare b_M_compare 7 (some .int) :: wG) (wf_rm 1 30 0 0) (wf_Pc D vwCl (wM q κ u) (tyM κ) ([.ref (q 0), .int a, .int b]) sz) (va_Qi (fun r v => v = (wf_c2 (wf_no a || wf_no b) (false), u.2)) (wf_B D vwCl (wM q κ) (tyM κ) (va_A (wM q κ u) sz)) (va_A (wM q κ u) sz)) 0 0 (va_A (wM q κ u) sz) := by
  refine wf_open (by decide) (Nat.le_of_ble_eq_true rfl) k_M_compare ?_
  intro p e s m below meth c ls hsz C hr hlocks hnm hex hP hK hD hl
  subst hsz
  have hx := C.1
  have hb := C.2.1
  have hml := C.2.2.1
  have hown := C.2.2.2.1
  have hts := C.2.2.2.2
  have hA : ∀ j : Nat, s.heap.size ≤ j → va_A (wM q κ u) s.heap.size j := fun j h => Or.inr h
  have hS : va_S (va_A (wM q κ u) s.heap.size) s.heap s.heap [] := va_S.rf
  generalize hAe : va_A (wM q κ u) s.heap.size = A at hA hS hD ⊢
  have hl : lv_has ls 7 [(0, .ref (q 0)), (1, .int (a)), (2, .int (b))] := hl
  refine lv_aload_n hx hb d_M_compare_0 rfl (lv_at hl 0 rfl) ?_
  refine wf_cutI (pcj := 20) (ls := ls) (rest := [.ref (q 0)]) (fun z => z = wf_c2 (wf_no a || wf_no b) (false)) (fun z_1 ez_1 => ?_) (fun jn => ?_)
  · subst ez_1
    refine pM_code C hK hP hD hS 0 rfl (Nat.le_of_ble_eq_true rfl) d_M_compare_20 (fun H locs hP hD hS => ?_)
    have hP : va_P D vwCl (wM q κ (wf_c2 (wf_no a || wf_no b) (false), u.2)) H := hP
    have hD : va_D A (wM q κ (wf_c2 (wf_no a || wf_no b) (false), u.2)) := hD
    generalize eu_2 : ((wf_c2 (wf_no a || wf_no b) (false), u.2) : SM) = u_2 at hP hD
    refine lv_iconst (v := 0) hx hb d_M_compare_23 (by decide) ?_
    refine lv_istore_n (lv' := [(3, .int (0)), (0, .ref (q 0)), (1, .int (a)), (2, .int (b))]) hx hb d_M_compare_24 rfl hl (by decide) rfl (fun ls hl => ?_)
    refine lv_iconst (v := 0) hx hb d_M_compare_25 (by decide) ?_
    refine lv_istore (lv' := [(4, .int (0)), (3, .int (0)), (0, .ref (q 0)), (1, .int (a)), (2, .int (b))]) hx hb d_M_compare_26 hl (by decide) rfl (fun ls hl => ?_)
    refine lv_iload hx hb d_M_compare_28 (lv_at hl 0 rfl) ?_
    refine lv_sipush (v := 128) hx hb d_M_compare_30 (by decide) ?_
    refine lv_icmp_ge (tgt := 101) hx hb d_M_compare_33 (by decide) (fun c_3 => False.elim (absurd c_3 (by decide))) (fun _ => ?_)
    refine lv_aload_n hx hb d_M_compare_36 rfl (lv_at hl 2 rfl) ?_
    refine gM C hK hP 0 rfl 0 (by decide) k_fl_M_code rfl d_M_compare_37 ?_
    refine lv_if_ne (tgt := 101) hx hb d_M_compare_40 (by decide) (fun c_4 => ?_) (fun c_4 => False.elim (by first | exact absurd (by rw [← eu_2]; exact wf_c2_ne hbad) c_4 | exact absurd c_4 (by rw [← eu_2]; exact wf_c2_ne hbad)))
    refine lv_iload_n hx hb d_M_compare_101 rfl (lv_at hl 1 rfl) ?_
    exact wf_reti C hr hlocks u_2 (by first | exact eu_2.symm | rfl) hP hK hD hS (fun _ h => h) d_M_compare_102
  · refine lv_iload_n hx hb d_M_compare_1 rfl (lv_at hl 1 rfl) ?_
    refine kM_none C hl.1 ⟨Nat.le_of_ble_eq_true rfl, Nat.le_of_ble_eq_true rfl⟩ (Nat.le_of_ble_eq_true rfl) ⟨Nat.le_of_ble_eq_true rfl, Nat.le_of_ble_eq_true rfl⟩ d_M_compare_2 ?_
    refine lv_if_ne (tgt := 15) hx hb d_M_compare_5 (by decide) (fun c_5 => ?_) (fun c_5 => ?_)
    · refine lv_iconst (v := 1) hx hb d_M_compare_15 (by decide) ?_
      refine lv_goto (tgt := 20) hx hb d_M_compare_16 (by decide) ?_
      exact jn _ (by revert c_5; cases (wf_no a) <;> cases (wf_no b) <;> decide)
    · refine lv_iload_n hx hb d_M_compare_8 rfl (lv_at hl 2 rfl) ?_
      refine kM_none C hl.1 ⟨Nat.le_of_ble_eq_true rfl, Nat.le_of_ble_eq_true rfl⟩ (Nat.le_of_ble_eq_true rfl) ⟨Nat.le_of_ble_eq_true rfl, Nat.le_of_ble_eq_true rfl⟩ d_M_compare_9 ?_
      refine lv_if_eq (tgt := 19) hx hb d_M_compare_12 (by decide) (fun c_6 => ?_) (fun c_6 => ?_)
      · refine lv_iconst (v := 0) hx hb d_M_compare_19 (by decide) ?_
        exact jn _ (by revert c_5 c_6; cases (wf_no a) <;> cases (wf_no b) <;> decide)
      · refine lv_iconst (v := 1) hx hb d_M_compare_15 (by decide) ?_
        refine lv_goto (tgt := 20) hx hb d_M_compare_16 (by decide) ?_
        exact jn _ (by revert c_5 c_6; cases (wf_no a) <;> cases (wf_no b) <;> decide)

set_option maxHeartbeats 4000000 in
set_option maxRecDepth 100000 in
/-- M_digits -/
theorem c_M_digitsBad (l : Launch) (D : va_G) (q : Nat → Nat) (κ : Nat → ClassId) (u : SM) (a : Int32) (hbad : ((wf_no a) || (false)) = true) (sz : Nat) : Met l y_M_digits (.code y_M_digits b_M_digits 5 (some .int) :: wG) (wf_rm 1 30 0 0) (wf_Pc D vwCl (wM q κ u) (tyM κ) ([.ref (q 0), .int a]) sz) (va_Qi (fun r v => v = (wf_c2 (wf_no a) (false), u.2)) (wf_B D vwCl (wM q κ) (tyM κ) (va_A (wM q κ u) sz)) (va_A (wM q κ u) sz)) 0 0 (va_A (wM q κ u) sz) := by
  refine wf_open (by decide) (Nat.le_of_ble_eq_true rfl) k_M_digits ?_
  intro p e s m below meth c ls hsz C hr hlocks hnm hex hP hK hD hl
  subst hsz
  have hx := C.1
  have hb := C.2.1
  have hml := C.2.2.1
  have hown := C.2.2.2.1
  have hts := C.2.2.2.2
  have hA : ∀ j : Nat, s.heap.size ≤ j → va_A (wM q κ u) s.heap.size j := fun j h => Or.inr h
  have hS : va_S (va_A (wM q κ u) s.heap.size) s.heap s.heap [] := va_S.rf
  generalize hAe : va_A (wM q κ u) s.heap.size = A at hA hS hD ⊢
  have hl : lv_has ls 5 [(0, .ref (q 0)), (1, .int (a))] := hl
  refine lv_aload_n hx hb d_M_digits_0 rfl (lv_at hl 0 rfl) ?_
  refine wf_cutI (pcj := 13) (ls := ls) (rest := [.ref (q 0)]) (fun z => z = wf_c2 (wf_no a) (false)) (fun z_1 ez_1 => ?_) (fun jn => ?_)
  · subst ez_1
    refine pM_code C hK hP hD hS 0 rfl (Nat.le_of_ble_eq_true rfl) d_M_digits_13 (fun H locs hP hD hS => ?_)
    have hP : va_P D vwCl (wM q κ (wf_c2 (wf_no a) (false), u.2)) H := hP
    have hD : va_D A (wM q κ (wf_c2 (wf_no a) (false), u.2)) := hD
    generalize eu_2 : ((wf_c2 (wf_no a) (false), u.2) : SM) = u_2 at hP hD
    refine lv_aload_n hx hb d_M_digits_16 rfl (lv_at hl 0 rfl) ?_
    refine gM C hK hP 0 rfl 0 (by decide) k_fl_M_code rfl d_M_digits_17 ?_
    refine lv_if_le (tgt := 25) hx hb d_M_digits_20 (by decide) (fun c_3 => False.elim (by first | exact absurd c_3 (by rw [← eu_2]; exact wf_c2_pos hbad) | exact absurd (by rw [← eu_2]; exact wf_c2_pos hbad) c_3)) (fun c_3 => ?_)
    refine lv_iconst (v := 0) hx hb d_M_digits_23 (by decide) ?_
    exact wf_reti C hr hlocks u_2 (by first | exact eu_2.symm | rfl) hP hK hD hS (fun _ h => h) d_M_digits_24
  · refine lv_iload_n hx hb d_M_digits_1 rfl (lv_at hl 1 rfl) ?_
    refine kM_none C hl.1 ⟨Nat.le_of_ble_eq_true rfl, Nat.le_of_ble_eq_true rfl⟩ (Nat.le_of_ble_eq_true rfl) ⟨Nat.le_of_ble_eq_true rfl, Nat.le_of_ble_eq_true rfl⟩ d_M_digits_2 ?_
    refine lv_if_eq (tgt := 12) hx hb d_M_digits_5 (by decide) (fun c_4 => ?_) (fun c_4 => ?_)
    · refine lv_iconst (v := 0) hx hb d_M_digits_12 (by decide) ?_
      exact jn _ (by revert c_4; cases (wf_no a) <;> decide)
    · refine lv_iconst (v := 1) hx hb d_M_digits_8 (by decide) ?_
      refine lv_goto (tgt := 13) hx hb d_M_digits_9 (by decide) ?_
      exact jn _ (by revert c_4; cases (wf_no a) <;> decide)

set_option maxHeartbeats 4000000 in
set_option maxRecDepth 100000 in
/-- M_next -/
theorem c_M_nextBad (l : Launch) (D : va_G) (q : Nat → Nat) (κ : Nat → ClassId) (u : SM) (a : Int32) (d : Int32) (hbad : ((wf_no a) || (decide (d < 0) || decide (9 < d))) = true) (sz : Nat) : Met l y_M_next (.code y_M_next b_M_next 5 (some .boolean) :: wG) (wf_rm 1 30 0 0) (wf_Pc D vwCl (wM q κ u) (tyM κ) ([.ref (q 0), .int a, .int d]) sz) (va_Qi (fun r v => v = (wf_c2 (wf_no a) (decide (d < 0) || decide (9 < d)), u.2)) (wf_B D vwCl (wM q κ) (tyM κ) (va_A (wM q κ u) sz)) (va_A (wM q κ u) sz)) 0 0 (va_A (wM q κ u) sz) := by
  refine wf_open (by decide) (Nat.le_of_ble_eq_true rfl) k_M_next ?_
  intro p e s m below meth c ls hsz C hr hlocks hnm hex hP hK hD hl
  subst hsz
  have hx := C.1
  have hb := C.2.1
  have hml := C.2.2.1
  have hown := C.2.2.2.1
  have hts := C.2.2.2.2
  have hA : ∀ j : Nat, s.heap.size ≤ j → va_A (wM q κ u) s.heap.size j := fun j h => Or.inr h
  have hS : va_S (va_A (wM q κ u) s.heap.size) s.heap s.heap [] := va_S.rf
  generalize hAe : va_A (wM q κ u) s.heap.size = A at hA hS hD ⊢
  have hl : lv_has ls 5 [(0, .ref (q 0)), (1, .int (a)), (2, .int (d))] := hl
  refine lv_aload_n hx hb d_M_next_0 rfl (lv_at hl 0 rfl) ?_
  refine wf_cutI (pcj := 27) (ls := ls) (rest := [.ref (q 0)]) (fun z => z = wf_c2 (wf_no a) (decide (d < 0) || decide (9 < d))) (fun z_1 ez_1 => ?_) (fun jn => ?_)
  · subst ez_1
    refine pM_code C hK hP hD hS 0 rfl (Nat.le_of_ble_eq_true rfl) d_M_next_27 (fun H locs hP hD hS => ?_)
    have hP : va_P D vwCl (wM q κ (wf_c2 (wf_no a) (decide (d < 0) || decide (9 < d)), u.2)) H := hP
    have hD : va_D A (wM q κ (wf_c2 (wf_no a) (decide (d < 0) || decide (9 < d)), u.2)) := hD
    generalize eu_2 : ((wf_c2 (wf_no a) (decide (d < 0) || decide (9 < d)), u.2) : SM) = u_2 at hP hD
    refine lv_aload_n hx hb d_M_next_30 rfl (lv_at hl 0 rfl) ?_
    refine gM C hK hP 0 rfl 0 (by decide) k_fl_M_code rfl d_M_next_31 ?_
    refine lv_if_le (tgt := 39) hx hb d_M_next_34 (by decide) (fun c_3 => False.elim (by first | exact absurd c_3 (by rw [← eu_2]; exact wf_c2_pos hbad) | exact absurd (by rw [← eu_2]; exact wf_c2_pos hbad) c_3)) (fun c_3 => ?_)
    refine lv_iconst (v := 0) hx hb d_M_next_37 (by decide) ?_
    exact wf_retz C hr (rfl) hlocks u_2 (by first | exact eu_2.symm | rfl) hP hK hD hS (fun _ h => h) d_M_next_38
  · refine lv_iload_n hx hb d_M_next_1 rfl (lv_at hl 1 rfl) ?_
    refine kM_none C hl.1 ⟨Nat.le_of_ble_eq_true rfl, Nat.le_of_ble_eq_true rfl⟩ (Nat.le_of_ble_eq_true rfl) ⟨Nat.le_of_ble_eq_true rfl, Nat.le_of_ble_eq_true rfl⟩ d_M_next_2 ?_
    refine lv_if_eq (tgt := 12) hx hb d_M_next_5 (by decide) (fun c_4 => ?_) (fun c_4 => ?_)
    · refine lv_iload_n hx hb d_M_next_12 rfl (lv_at hl 2 rfl) ?_
      refine lv_if_lt (tgt := 22) hx hb d_M_next_13 (by decide) (fun c_5 => ?_) (fun c_5 => ?_)
      · have d_6 : decide (d < 0) = true := decide_eq_true (c_5)
        refine lv_iconst (v := 2) hx hb d_M_next_22 (by decide) ?_
        refine lv_goto (tgt := 27) hx hb d_M_next_23 (by decide) ?_
        exact jn _ (by revert c_4 d_6; cases (wf_no a) <;> cases (decide (d < 0)) <;> cases (decide (9 < d)) <;> decide)
      · have d_6 : decide (d < 0) = false := decide_eq_false (c_5)
        refine lv_iload_n hx hb d_M_next_16 rfl (lv_at hl 2 rfl) ?_
        refine lv_bipush (v := 9) hx hb d_M_next_17 (by decide) ?_
        refine lv_icmp_le (tgt := 26) hx hb d_M_next_19 (by decide) (fun c_7 => ?_) (fun c_7 => ?_)
        · have d_8 : decide (9 < d) = false := decide_eq_false (Int32.not_lt.mpr c_7)
          refine lv_iconst (v := 0) hx hb d_M_next_26 (by decide) ?_
          exact jn _ (by revert c_4 d_6 d_8; cases (wf_no a) <;> cases (decide (d < 0)) <;> cases (decide (9 < d)) <;> decide)
        · have d_8 : decide (9 < d) = true := decide_eq_true (Int32.not_le.mp c_7)
          refine lv_iconst (v := 2) hx hb d_M_next_22 (by decide) ?_
          refine lv_goto (tgt := 27) hx hb d_M_next_23 (by decide) ?_
          exact jn _ (by revert c_4 d_6 d_8; cases (wf_no a) <;> cases (decide (d < 0)) <;> cases (decide (9 < d)) <;> decide)
    · refine lv_iconst (v := 1) hx hb d_M_next_8 (by decide) ?_
      refine lv_goto (tgt := 27) hx hb d_M_next_9 (by decide) ?_
      exact jn _ (by revert c_4; cases (wf_no a) <;> cases (decide (d < 0)) <;> cases (decide (9 < d)) <;> decide)
end
section
/-! ===== the reference: set, half, add, subtract, zeros, compare, digit ===== -/
theorem wf_dn64 {i : Nat} (h : i < 64) : wf_dn 64 i = nI (63 - i) := wf_dn_nI h
theorem wf_dn128 {i : Nat} (h : i < 128) : wf_dn 128 i = nI (127 - i) := wf_dn_nI h
theorem wf_tb_lo {h l : Nat} {i : Nat} (hl : l < 18446744073709551616) (hi : i < 64) : (h * 18446744073709551616 + l).testBit i = decide (l / 2 ^ i % 2 = 1) := by
  rw [show h * 18446744073709551616 + l = 2 ^ 64 * h + l from by rw [Nat.mul_comm], Nat.testBit_two_pow_mul_add h (show l < 2 ^ 64 from hl), if_pos hi, Nat.testBit_eq_decide_div_mod_eq]
theorem wf_tb_hi {h l : Nat} {i : Nat} (hl : l < 18446744073709551616) (hi : 64 ≤ i) : (h * 18446744073709551616 + l).testBit i = decide (h / 2 ^ (i - 64) % 2 = 1) := by
  rw [show h * 18446744073709551616 + l = 2 ^ 64 * h + l from by rw [Nat.mul_comm], Nat.testBit_two_pow_mul_add h (show l < 2 ^ 64 from hl), if_neg (by omega), Nat.testBit_eq_decide_div_mod_eq]
theorem wf_bit_lo (h lo : Int64) {i : Nat} (hi : i < 64) : (lo >>> ((nI i).toInt64 &&& 63)) &&& 1 = 1 ↔ (wf_V h lo).testBit i = true := by
  rw [wf_sar lo hi, show (wf_V h lo).testBit i = _ from wf_tb_lo (uN_lt lo) hi]
  exact decide_eq_true_iff.symm
theorem wf_bit_hi (h lo : Int64) {i : Nat} (h1 : 64 ≤ i) (h2 : i < 128) : (h >>> ((nI (i - 64)).toInt64 &&& 63)) &&& 1 = 1 ↔ (wf_V h lo).testBit i = true := by
  rw [wf_sar h (k := i - 64) (by omega), show (wf_V h lo).testBit i = _ from wf_tb_hi (uN_lt lo) h1]
  exact decide_eq_true_iff.symm
theorem wf_tb_sm (N : Nat) (h : N < wf_NN) : wf_sm (fun k => N.testBit (0 + k)) 128 = N := by
  have e : (fun k => N.testBit (0 + k)) = fun k => N.testBit k := funext fun k => by rw [Nat.zero_add]
  rw [e, wf_sm_tb, wf_p128]
  exact Nat.mod_eq_of_lt h
theorem wf_mW_put {u v : SM} {S : Nat → Bool} {s r N : Nat} {c : Int32} {B : Nat → Bool} (hB : ∀ j, j < 8 → wf_R B j = wf_R u.2.1 j) (h1 : v.1 = c) (h2 : v.2.1 = va_cpy S B s (128 * r) 128) (h3 : v.2.2.2.2.2 = u.2.2.2.2.2) (hN : wf_sm (fun k => S (s + k)) 128 = N) : wf_mW u v c (va_up (wf_R u.2.1) r N) :=
  ⟨h1, fun j hj => by rw [h2]; exact wf_R_upd _ _ _ _ _ hN (hB j hj), h3⟩

set_option maxHeartbeats 4000000 in
set_option maxRecDepth 100000 in
/-- M_set -/
theorem c_M_set (l : Launch) (D : va_G) (q : Nat → Nat) (κ : Nat → ClassId) (u : SM) (ra : Nat) (hra : ra < 8) (h lo : Int64) (sz : Nat) : Met l y_M_set (.code y_M_set b_M_set 7 none :: wG) (wf_rm 1 30 0 0) (wf_Pc D vwCl (wM q κ u) (tyM κ) ([.ref (q 0), .int (nI ra), .long h, .long lo]) sz) (va_Qv (fun v => wf_mW u v 0 (va_up (wf_R u.2.1) ra (wf_V h lo))) (wf_B D vwCl (wM q κ) (tyM κ) (va_A (wM q κ u) sz)) (va_A (wM q κ u) sz)) 0 0 (va_A (wM q κ u) sz) := by
  refine wf_open (by decide) (Nat.le_of_ble_eq_true rfl) k_M_set ?_
  intro p e s m below meth c ls hsz C hr hlocks hnm hex hP hK hD hl
  subst hsz
  have hx := C.1
  have hb := C.2.1
  have hml := C.2.2.1
  have hown := C.2.2.2.1
  have hts := C.2.2.2.2
  have hA : ∀ j : Nat, s.heap.size ≤ j → va_A (wM q κ u) s.heap.size j := fun j h => Or.inr h
  have hS : va_S (va_A (wM q κ u) s.heap.size) s.heap s.heap [] := va_S.rf
  generalize hAe : va_A (wM q κ u) s.heap.size = A at hA hS hD ⊢
  have hl : lv_has ls 7 [(0, .ref (q 0)), (1, .int (nI ra)), (2, .long (h)), (4, .long (lo))] := hl
  refine lv_aload_n hx hb d_M_set_0 rfl (lv_at hl 0 rfl) ?_
  refine lv_iload_n hx hb d_M_set_1 rfl (lv_at hl 1 rfl) ?_
  refine kM_ok (r := ra) hra C hl.1 ⟨Nat.le_of_ble_eq_true rfl, Nat.le_of_ble_eq_true rfl⟩ (Nat.le_of_ble_eq_true rfl) ⟨Nat.le_of_ble_eq_true rfl, Nat.le_of_ble_eq_true rfl⟩ d_M_set_2 ?_
  refine lv_if_eq (tgt := 12) hx hb d_M_set_5 (by decide) (fun _ => ?_) (fun c_1 => False.elim (absurd c_1 (by decide)))
  refine lv_iconst (v := 0) hx hb d_M_set_12 (by decide) ?_
  refine pM_code C hK hP hD hS 0 rfl (Nat.le_of_ble_eq_true rfl) d_M_set_13 (fun H locs hP hD hS => ?_)
  have hP : va_P D vwCl (wM q κ (0, u.2)) H := hP
  have hD : va_D A (wM q κ (0, u.2)) := hD
  generalize eu_2 : ((0, u.2) : SM) = u_2 at hP hD
  refine lv_iconst (v := 0) hx hb d_M_set_16 (by decide) ?_
  refine lv_istore (lv' := [(6, .int (0)), (0, .ref (q 0)), (1, .int (nI ra)), (2, .long (h)), (4, .long (lo))]) hx hb d_M_set_17 hl (by decide) rfl (fun ls hl => ?_)
  refine wf_forH (σ := SM) 128 (fun i x => x = (0, va_cpy (fun k => (wf_V h lo).testBit k) u.2.1 0 (128 * ra) i, u.2.2)) (fun x => wM q κ x) (fun i x => [(6, .int (nI i)), (0, .ref (q 0)), (1, .int (nI ra)), (2, .long (h)), (4, .long (lo))]) (fun i x H locs ls hi hI hP hD hS hl ih => ?_) (fun x H locs ls hI hP hD hS hl => ?_) u_2 (by rw [wf_cpy0]; exact eu_2.symm) hP hD hS (lv_sub hl [0, 1, 2, 3, 4] rfl)
  · have hP : va_P D vwCl (wM q κ x) H := hP
    have hD : va_D A (wM q κ x) := hD
    have hl : lv_has ls 7 [(6, .int (nI i)), (0, .ref (q 0)), (1, .int (nI ra)), (2, .long (h)), (4, .long (lo))] := hl
    have hI : x = (0, va_cpy (fun k => (wf_V h lo).testBit k) u.2.1 0 (128 * ra) i, u.2.2) := hI
    refine lv_iload hx hb d_M_set_19 (lv_at hl 0 rfl) ?_
    refine lv_sipush (v := 128) hx hb d_M_set_21 (by decide) ?_
    refine lv_icmp_ge (tgt := 87) hx hb d_M_set_24 (by decide) (fun c_3 => False.elim (by first | exact absurd c_3 (nI_ge hi (by decide)) | exact absurd (nI_ge hi (by decide)) c_3)) (fun c_3 => ?_)
    refine lv_aload_n hx hb d_M_set_27 rfl (lv_at hl 1 rfl) ?_
    refine gM C hK hP 0 rfl 0 (by decide) k_fl_M_code rfl d_M_set_28 ?_
    refine lv_topi (fun k_4 ek_4 => ?_)
    have ek_4 : k_4 = 0 := ek_4.trans (by rw [hI])
    subst ek_4
    refine lv_if_ne (tgt := 87) hx hb d_M_set_31 (by decide) (fun c_5 => False.elim (absurd c_5 (by decide))) (fun _ => ?_)
    refine lv_aload_n hx hb d_M_set_34 rfl (lv_at hl 1 rfl) ?_
    refine gM C hK hP 0 rfl 1 (by decide) k_fl_M_bits rfl d_M_set_35 ?_
    refine lv_sipush (v := 128) hx hb d_M_set_38 (by decide) ?_
    refine lv_iload_n hx hb d_M_set_41 rfl (lv_at hl 2 rfl) ?_
    refine lv_imul hx hb d_M_set_42 ?_
    refine lv_iload hx hb d_M_set_43 (lv_at hl 0 rfl) ?_
    refine lv_iadd hx hb d_M_set_45 ?_
    refine wf_cutI (pcj := 80) (ls := ls) (rest := [.int ((128 * (nI ra)) + (nI i)), .ref (q 1)]) (fun z => z = wf_bi ((wf_V h lo).testBit i)) (fun z_6 ez_6 => ?_) (fun jn => ?_)
    · subst ez_6
      refine wf_zast C hK hP hD hS 1 0 rfl rfl (k := 128 * ra + i) (b := (((wf_V h lo).testBit i))) (wf_ia (x := 128 * ra) (y := i) (wf_im (x := 128) (y := ra) rfl rfl) rfl) (by omega) (by decide) d_M_set_80 (fun H locs hP hD hS => ?_)
      have hP : va_P D vwCl (wM q κ (x.1, va_up x.2.1 (128 * ra + i) (((wf_V h lo).testBit i)), x.2.2)) H := hP
      have hD : va_D A (wM q κ (x.1, va_up x.2.1 (128 * ra + i) (((wf_V h lo).testBit i)), x.2.2)) := hD
      generalize eu_7 : ((x.1, va_up x.2.1 (128 * ra + i) (((wf_V h lo).testBit i)), x.2.2) : SM) = u_7 at hP hD
      refine lv_iinc (v := nI (i + 1)) (lv' := [(6, .int (nI (i + 1))), (0, .ref (q 0)), (1, .int (nI ra)), (2, .long (h)), (4, .long (lo))]) hx hb d_M_set_81 hl (k := 0) rfl (nI_1 _) (by decide) rfl (fun ls hl => ?_)
      refine lv_goto (tgt := 19) hx hb d_M_set_84 (by decide) ?_
      exact ih u_7 H locs ls (by rw [← eu_7, hI, show (wf_V h lo).testBit i = (wf_V h lo).testBit (0 + i) from by rw [Nat.zero_add]]; exact congrArg (fun z => ((0 : Int32), z, u.2.2)) (wf_cpyS (fun k => (wf_V h lo).testBit k) _ _ _ _)) hP hD hS (lv_sub hl [0, 1, 2, 3, 4] rfl)
    · refine lv_iload hx hb d_M_set_46 (lv_at hl 0 rfl) ?_
      refine lv_bipush (v := 64) hx hb d_M_set_48 (by decide) ?_
      refine lv_icmp_ge (tgt := 61) hx hb d_M_set_50 (by decide) (fun c_8 => ?_) (fun c_8 => ?_)
      · have h64 : 64 ≤ i := Nat.not_lt.mp (fun h => absurd c_8 (nI_ge h (by decide)))
        refine lv_lload_n hx hb d_M_set_61 rfl (lv_at hl 3 rfl) ?_
        refine lv_iload hx hb d_M_set_62 (lv_at hl 0 rfl) ?_
        refine lv_bipush (v := 64) hx hb d_M_set_64 (by decide) ?_
        refine lv_isub hx hb d_M_set_66 ?_
        refine lv_topi (fun k_9 ek_9 => ?_)
        have ek_9 : k_9 = nI (i - 64) := ek_9.trans (wf_is rfl rfl h64)
        subst ek_9
        refine lv_lshr hx hb d_M_set_67 rfl ?_
        refine lv_lconst (v := 1) hx hb d_M_set_68 (by decide) ?_
        refine lv_land hx hb d_M_set_69 ?_
        refine lv_lconst (v := 1) hx hb d_M_set_70 (by decide) ?_
        refine W.lcmp hx hb d_M_set_71 ?_
        refine lv_if_ne (tgt := 79) hx hb d_M_set_72 (by decide) (fun c_10 => ?_) (fun c_10 => ?_)
        · refine lv_iconst (v := 0) hx hb d_M_set_79 (by decide) ?_
          exact jn _ (by rw [Bool.eq_false_iff.mpr (fun k => c_10 ((lg_cmp_eq _ _).mpr ((wf_bit_hi h lo h64 hi).mpr k)))]; rfl)
        · refine lv_iconst (v := 1) hx hb d_M_set_75 (by decide) ?_
          refine lv_goto (tgt := 80) hx hb d_M_set_76 (by decide) ?_
          exact jn _ (by rw [(wf_bit_hi h lo h64 hi).mp ((lg_cmp_eq _ _).mp c_10)]; rfl)
      · have h64 : i < 64 := Nat.not_le.mp (fun h => c_8 (nI_le h (by omega)))
        refine lv_lload hx hb d_M_set_53 (lv_at hl 4 rfl) ?_
        refine lv_iload hx hb d_M_set_55 (lv_at hl 0 rfl) ?_
        refine lv_lshr hx hb d_M_set_57 rfl ?_
        refine lv_goto (tgt := 68) hx hb d_M_set_58 (by decide) ?_
        refine lv_lconst (v := 1) hx hb d_M_set_68 (by decide) ?_
        refine lv_land hx hb d_M_set_69 ?_
        refine lv_lconst (v := 1) hx hb d_M_set_70 (by decide) ?_
        refine W.lcmp hx hb d_M_set_71 ?_
        refine lv_if_ne (tgt := 79) hx hb d_M_set_72 (by decide) (fun c_11 => ?_) (fun c_11 => ?_)
        · refine lv_iconst (v := 0) hx hb d_M_set_79 (by decide) ?_
          exact jn _ (by rw [Bool.eq_false_iff.mpr (fun k => c_11 ((lg_cmp_eq _ _).mpr ((wf_bit_lo h lo h64).mpr k)))]; rfl)
        · refine lv_iconst (v := 1) hx hb d_M_set_75 (by decide) ?_
          refine lv_goto (tgt := 80) hx hb d_M_set_76 (by decide) ?_
          exact jn _ (by rw [(wf_bit_lo h lo h64).mp ((lg_cmp_eq _ _).mp c_11)]; rfl)
  · have hP : va_P D vwCl (wM q κ x) H := hP
    have hD : va_D A (wM q κ x) := hD
    have hl : lv_has ls 7 [(6, .int (nI 128)), (0, .ref (q 0)), (1, .int (nI ra)), (2, .long (h)), (4, .long (lo))] := hl
    have hI : x = (0, va_cpy (fun k => (wf_V h lo).testBit k) u.2.1 0 (128 * ra) 128, u.2.2) := hI
    refine lv_iload hx hb d_M_set_19 (lv_at hl 0 rfl) ?_
    refine lv_sipush (v := 128) hx hb d_M_set_21 (by decide) ?_
    refine lv_icmp_ge (tgt := 87) hx hb d_M_set_24 (by decide) (fun c_12 => ?_) (fun c_12 => False.elim (by first | exact absurd (nI_le (Nat.le_refl 128) (by decide)) c_12 | exact absurd c_12 (nI_le (Nat.le_refl 128) (by decide))))
    exact wf_retv C hr hlocks x (wf_mW_put (fun _ _ => rfl) (by rw [hI]) (by rw [hI]) (by rw [hI]) (wf_tb_sm _ (wf_V_lt h lo))) hP hK hD hS (fun _ h => h) d_M_set_87

theorem wf_HI_S {B : Nat → Bool} {o i : Nat} {v v' t : Int64} {y : Bool} (hi : i < 64) (h : uN v = wf_sm (fun k => B (o + (64 - i) + k)) i) (e : v' = 2 * v + t) (ht : uN t = y.toNat) (hy : y = B (o + (63 - i))) : uN v' = wf_sm (fun k => B (o + (64 - (i + 1)) + k)) (i + 1) := by
  have h1 := wf_sm_lt (fun k => B (o + (64 - i) + k)) i
  rw [← h] at h1
  have h2 : (2 : Nat) ^ i ≤ 2 ^ 63 := wf_pw (by omega)
  have h3 := wf_tn y
  rw [e, uN_add, uN_mul, ht, show uN (2 : Int64) = 2 from by decide, wf_sm_cons]
  rw [show (fun k => B (o + (64 - (i + 1)) + (k + 1))) = fun k => B (o + (64 - i) + k) from funext fun k => by congr 1; omega, ← h, show o + (64 - (i + 1)) + 0 = o + (63 - i) by omega, ← hy]
  rw [show (2 : Nat) ^ 63 = 9223372036854775808 from by decide] at h2
  omega

set_option maxHeartbeats 4000000 in
set_option maxRecDepth 100000 in
/-- M_half -/
theorem c_M_halfHi (l : Launch) (D : va_G) (q : Nat → Nat) (κ : Nat → ClassId) (u : SM) (ra : Nat) (hra : ra < 8) (sz : Nat) : Met l y_M_half (.code y_M_half b_M_half 6 (some .long) :: wG) (wf_rm 1 30 0 0) (wf_Pc D vwCl (wM q κ u) (tyM κ) ([.ref (q 0), .int (nI ra), .int 1]) sz) (va_Ql (fun r v => v = (0, u.2) ∧ uN r = wf_sm (fun k => u.2.1 (128 * ra + 64 + k)) 64) (wf_B D vwCl (wM q κ) (tyM κ) (va_A (wM q κ u) sz)) (va_A (wM q κ u) sz)) 0 0 (va_A (wM q κ u) sz) := by
  refine wf_open (by decide) (Nat.le_of_ble_eq_true rfl) k_M_half ?_
  intro p e s m below meth c ls hsz C hr hlocks hnm hex hP hK hD hl
  subst hsz
  have hx := C.1
  have hb := C.2.1
  have hml := C.2.2.1
  have hown := C.2.2.2.1
  have hts := C.2.2.2.2
  have hA : ∀ j : Nat, s.heap.size ≤ j → va_A (wM q κ u) s.heap.size j := fun j h => Or.inr h
  have hS : va_S (va_A (wM q κ u) s.heap.size) s.heap s.heap [] := va_S.rf
  generalize hAe : va_A (wM q κ u) s.heap.size = A at hA hS hD ⊢
  have hl : lv_has ls 6 [(0, .ref (q 0)), (1, .int (nI ra)), (2, .int (1))] := hl
  refine lv_aload_n hx hb d_M_half_0 rfl (lv_at hl 0 rfl) ?_
  refine lv_iload_n hx hb d_M_half_1 rfl (lv_at hl 1 rfl) ?_
  refine kM_ok (r := ra) hra C hl.1 ⟨Nat.le_of_ble_eq_true rfl, Nat.le_of_ble_eq_true rfl⟩ (Nat.le_of_ble_eq_true rfl) ⟨Nat.le_of_ble_eq_true rfl, Nat.le_of_ble_eq_true rfl⟩ d_M_half_2 ?_
  refine lv_if_eq (tgt := 12) hx hb d_M_half_5 (by decide) (fun _ => ?_) (fun c_1 => False.elim (absurd c_1 (by decide)))
  refine lv_iconst (v := 0) hx hb d_M_half_12 (by decide) ?_
  refine pM_code C hK hP hD hS 0 rfl (Nat.le_of_ble_eq_true rfl) d_M_half_13 (fun H locs hP hD hS => ?_)
  have hP : va_P D vwCl (wM q κ (0, u.2)) H := hP
  have hD : va_D A (wM q κ (0, u.2)) := hD
  generalize eu_2 : ((0, u.2) : SM) = u_2 at hP hD
  refine lv_lconst (v := 0) hx hb d_M_half_16 (by decide) ?_
  refine lv_lstore_n (lv' := [(3, .long (0)), (0, .ref (q 0)), (1, .int (nI ra)), (2, .int (1))]) hx hb d_M_half_17 rfl hl (by decide) rfl (fun ls hl => ?_)
  refine lv_bipush (v := wf_dn 64 0) hx hb d_M_half_18 (by decide) ?_
  refine lv_istore (lv' := [(5, .int (wf_dn 64 0)), (3, .long (0)), (0, .ref (q 0)), (1, .int (nI ra)), (2, .int (1))]) hx hb d_M_half_20 hl (by decide) rfl (fun ls hl => ?_)
  refine wf_for (σ := Int64) 64 (fun i x => uN x = wf_sm (fun k => u.2.1 (128 * ra + 64 + (64 - i) + k)) i) (fun i x => [(5, .int (wf_dn 64 i)), (3, .long (x)), (0, .ref (q 0)), (1, .int (nI ra)), (2, .int (1))]) (fun i x ls hi hI hl ih => ?_) (fun x ls hI hl => ?_) 0 (rfl) (lv_sub hl [0, 1, 2, 3, 4] rfl)
  · have hl : lv_has ls 6 [(5, .int (wf_dn 64 i)), (3, .long (x)), (0, .ref (q 0)), (1, .int (nI ra)), (2, .int (1))] := hl
    have hI : uN x = wf_sm (fun k => u.2.1 (128 * ra + 64 + (64 - i) + k)) i := hI
    rw [wf_dn64 hi] at hl
    refine lv_iload hx hb d_M_half_22 (lv_at hl 0 rfl) ?_
    refine lv_if_lt (tgt := 79) hx hb d_M_half_24 (by decide) (fun c_3 => False.elim (by first | exact absurd c_3 (nI_pos (by omega)) | exact absurd (nI_pos (by omega)) c_3)) (fun c_3 => ?_)
    refine lv_aload_n hx hb d_M_half_27 rfl (lv_at hl 2 rfl) ?_
    refine gM C hK hP 0 rfl 0 (by decide) k_fl_M_code rfl d_M_half_28 ?_
    refine lv_topi (fun k_4 ek_4 => ?_)
    have ek_4 : k_4 = 0 := ek_4.trans (by rw [← eu_2])
    subst ek_4
    refine lv_if_ne (tgt := 79) hx hb d_M_half_31 (by decide) (fun c_5 => False.elim (absurd c_5 (by decide))) (fun _ => ?_)
    refine lv_ldc2 (v := 2) hx hb hown (hts _ (k_cl_M_34)) d_M_half_34 ?_
    refine lv_lload_n hx hb d_M_half_37 rfl (lv_at hl 1 rfl) ?_
    refine lv_lmul hx hb d_M_half_38 ?_
    refine lv_aload_n hx hb d_M_half_39 rfl (lv_at hl 2 rfl) ?_
    refine gM C hK hP 0 rfl 1 (by decide) k_fl_M_bits rfl d_M_half_40 ?_
    refine lv_sipush (v := 128) hx hb d_M_half_43 (by decide) ?_
    refine lv_iload_n hx hb d_M_half_46 rfl (lv_at hl 3 rfl) ?_
    refine lv_imul hx hb d_M_half_47 ?_
    refine lv_iload_n hx hb d_M_half_48 rfl (lv_at hl 4 rfl) ?_
    refine lv_if_eq (tgt := 57) hx hb d_M_half_49 (by decide) (fun c_6 => False.elim (absurd c_6 (by decide))) (fun _ => ?_)
    refine lv_bipush (v := 64) hx hb d_M_half_52 (by decide) ?_
    refine lv_goto (tgt := 58) hx hb d_M_half_54 (by decide) ?_
    refine lv_iadd hx hb d_M_half_58 ?_
    refine lv_iload hx hb d_M_half_59 (lv_at hl 0 rfl) ?_
    refine lv_iadd hx hb d_M_half_61 ?_
    refine wf_zald C hK hP 1 0 rfl rfl (k := 128 * ra + 64 + (63 - i)) (wf_ia (x := 128 * ra + 64) (y := 63 - i) (wf_ia (x := 128 * ra) (y := 64) (wf_im (x := 128) (y := ra) rfl rfl) rfl) rfl) (by omega) (by decide) d_M_half_62 ?_
    refine lv_if_eq (tgt := 70) hx hb d_M_half_63 (by decide) (fun c_7 => ?_) (fun c_7 => ?_)
    · refine lv_lconst (v := 0) hx hb d_M_half_70 (by decide) ?_
      refine lv_ladd hx hb d_M_half_71 ?_
      refine lv_topl (fun v_8 ev_8 => ?_)
      refine lv_lstore_n (lv' := [(3, .long (v_8)), (5, .int (nI (63 - i))), (0, .ref (q 0)), (1, .int (nI ra)), (2, .int (1))]) hx hb d_M_half_72 rfl hl (by decide) rfl (fun ls hl => ?_)
      refine lv_iinc (v := wf_dn 64 (i + 1)) (lv' := [(5, .int (wf_dn 64 (i + 1))), (3, .long (v_8)), (0, .ref (q 0)), (1, .int (nI ra)), (2, .int (1))]) hx hb d_M_half_73 hl (k := 1) rfl (by rw [← wf_dn64 hi]; exact wf_dn_S) (by decide) rfl (fun ls hl => ?_)
      refine lv_goto (tgt := 22) hx hb d_M_half_76 (by decide) ?_
      exact ih v_8 ls (wf_HI_S hi hI ev_8 (y := false) rfl (by rw [← (wf_bi0 _).mp c_7, ← eu_2])) (lv_sub hl [0, 1, 2, 3, 4] rfl)
    · refine lv_lconst (v := 1) hx hb d_M_half_66 (by decide) ?_
      refine lv_goto (tgt := 71) hx hb d_M_half_67 (by decide) ?_
      refine lv_ladd hx hb d_M_half_71 ?_
      refine lv_topl (fun v_9 ev_9 => ?_)
      refine lv_lstore_n (lv' := [(3, .long (v_9)), (5, .int (nI (63 - i))), (0, .ref (q 0)), (1, .int (nI ra)), (2, .int (1))]) hx hb d_M_half_72 rfl hl (by decide) rfl (fun ls hl => ?_)
      refine lv_iinc (v := wf_dn 64 (i + 1)) (lv' := [(5, .int (wf_dn 64 (i + 1))), (3, .long (v_9)), (0, .ref (q 0)), (1, .int (nI ra)), (2, .int (1))]) hx hb d_M_half_73 hl (k := 1) rfl (by rw [← wf_dn64 hi]; exact wf_dn_S) (by decide) rfl (fun ls hl => ?_)
      refine lv_goto (tgt := 22) hx hb d_M_half_76 (by decide) ?_
      exact ih v_9 ls (wf_HI_S hi hI ev_9 (y := true) rfl (by rw [← (wf_bi1 _).mp c_7, ← eu_2])) (lv_sub hl [0, 1, 2, 3, 4] rfl)
  · have hl : lv_has ls 6 [(5, .int (wf_dn 64 64)), (3, .long (x)), (0, .ref (q 0)), (1, .int (nI ra)), (2, .int (1))] := hl
    have hI : uN x = wf_sm (fun k => u.2.1 (128 * ra + 64 + (64 - 64) + k)) 64 := hI
    refine lv_iload hx hb d_M_half_22 (lv_at hl 0 rfl) ?_
    refine lv_if_lt (tgt := 79) hx hb d_M_half_24 (by decide) (fun c_10 => ?_) (fun c_10 => False.elim (by first | exact absurd (by rw [wf_dn_end]; decide) c_10 | exact absurd c_10 (by rw [wf_dn_end]; decide)))
    refine lv_lload_n hx hb d_M_half_79 rfl (lv_at hl 1 rfl) ?_
    exact wf_retl C hr hlocks u_2 (⟨by first | exact eu_2.symm | rfl, hI⟩) hP hK hD hS (fun _ h => h) d_M_half_80

set_option maxHeartbeats 4000000 in
set_option maxRecDepth 100000 in
/-- M_half -/
theorem c_M_halfLo (l : Launch) (D : va_G) (q : Nat → Nat) (κ : Nat → ClassId) (u : SM) (ra : Nat) (hra : ra < 8) (sz : Nat) : Met l y_M_half (.code y_M_half b_M_half 6 (some .long) :: wG) (wf_rm 1 30 0 0) (wf_Pc D vwCl (wM q κ u) (tyM κ) ([.ref (q 0), .int (nI ra), .int 0]) sz) (va_Ql (fun r v => v = (0, u.2) ∧ uN r = wf_sm (fun k => u.2.1 (128 * ra + 0 + k)) 64) (wf_B D vwCl (wM q κ) (tyM κ) (va_A (wM q κ u) sz)) (va_A (wM q κ u) sz)) 0 0 (va_A (wM q κ u) sz) := by
  refine wf_open (by decide) (Nat.le_of_ble_eq_true rfl) k_M_half ?_
  intro p e s m below meth c ls hsz C hr hlocks hnm hex hP hK hD hl
  subst hsz
  have hx := C.1
  have hb := C.2.1
  have hml := C.2.2.1
  have hown := C.2.2.2.1
  have hts := C.2.2.2.2
  have hA : ∀ j : Nat, s.heap.size ≤ j → va_A (wM q κ u) s.heap.size j := fun j h => Or.inr h
  have hS : va_S (va_A (wM q κ u) s.heap.size) s.heap s.heap [] := va_S.rf
  generalize hAe : va_A (wM q κ u) s.heap.size = A at hA hS hD ⊢
  have hl : lv_has ls 6 [(0, .ref (q 0)), (1, .int (nI ra)), (2, .int (0))] := hl
  refine lv_aload_n hx hb d_M_half_0 rfl (lv_at hl 0 rfl) ?_
  refine lv_iload_n hx hb d_M_half_1 rfl (lv_at hl 1 rfl) ?_
  refine kM_ok (r := ra) hra C hl.1 ⟨Nat.le_of_ble_eq_true rfl, Nat.le_of_ble_eq_true rfl⟩ (Nat.le_of_ble_eq_true rfl) ⟨Nat.le_of_ble_eq_true rfl, Nat.le_of_ble_eq_true rfl⟩ d_M_half_2 ?_
  refine lv_if_eq (tgt := 12) hx hb d_M_half_5 (by decide) (fun _ => ?_) (fun c_1 => False.elim (absurd c_1 (by decide)))
  refine lv_iconst (v := 0) hx hb d_M_half_12 (by decide) ?_
  refine pM_code C hK hP hD hS 0 rfl (Nat.le_of_ble_eq_true rfl) d_M_half_13 (fun H locs hP hD hS => ?_)
  have hP : va_P D vwCl (wM q κ (0, u.2)) H := hP
  have hD : va_D A (wM q κ (0, u.2)) := hD
  generalize eu_2 : ((0, u.2) : SM) = u_2 at hP hD
  refine lv_lconst (v := 0) hx hb d_M_half_16 (by decide) ?_
  refine lv_lstore_n (lv' := [(3, .long (0)), (0, .ref (q 0)), (1, .int (nI ra)), (2, .int (0))]) hx hb d_M_half_17 rfl hl (by decide) rfl (fun ls hl => ?_)
  refine lv_bipush (v := wf_dn 64 0) hx hb d_M_half_18 (by decide) ?_
  refine lv_istore (lv' := [(5, .int (wf_dn 64 0)), (3, .long (0)), (0, .ref (q 0)), (1, .int (nI ra)), (2, .int (0))]) hx hb d_M_half_20 hl (by decide) rfl (fun ls hl => ?_)
  refine wf_for (σ := Int64) 64 (fun i x => uN x = wf_sm (fun k => u.2.1 (128 * ra + 0 + (64 - i) + k)) i) (fun i x => [(5, .int (wf_dn 64 i)), (3, .long (x)), (0, .ref (q 0)), (1, .int (nI ra)), (2, .int (0))]) (fun i x ls hi hI hl ih => ?_) (fun x ls hI hl => ?_) 0 (rfl) (lv_sub hl [0, 1, 2, 3, 4] rfl)
  · have hl : lv_has ls 6 [(5, .int (wf_dn 64 i)), (3, .long (x)), (0, .ref (q 0)), (1, .int (nI ra)), (2, .int (0))] := hl
    have hI : uN x = wf_sm (fun k => u.2.1 (128 * ra + 0 + (64 - i) + k)) i := hI
    rw [wf_dn64 hi] at hl
    refine lv_iload hx hb d_M_half_22 (lv_at hl 0 rfl) ?_
    refine lv_if_lt (tgt := 79) hx hb d_M_half_24 (by decide) (fun c_3 => False.elim (by first | exact absurd c_3 (nI_pos (by omega)) | exact absurd (nI_pos (by omega)) c_3)) (fun c_3 => ?_)
    refine lv_aload_n hx hb d_M_half_27 rfl (lv_at hl 2 rfl) ?_
    refine gM C hK hP 0 rfl 0 (by decide) k_fl_M_code rfl d_M_half_28 ?_
    refine lv_topi (fun k_4 ek_4 => ?_)
    have ek_4 : k_4 = 0 := ek_4.trans (by rw [← eu_2])
    subst ek_4
    refine lv_if_ne (tgt := 79) hx hb d_M_half_31 (by decide) (fun c_5 => False.elim (absurd c_5 (by decide))) (fun _ => ?_)
    refine lv_ldc2 (v := 2) hx hb hown (hts _ (k_cl_M_34)) d_M_half_34 ?_
    refine lv_lload_n hx hb d_M_half_37 rfl (lv_at hl 1 rfl) ?_
    refine lv_lmul hx hb d_M_half_38 ?_
    refine lv_aload_n hx hb d_M_half_39 rfl (lv_at hl 2 rfl) ?_
    refine gM C hK hP 0 rfl 1 (by decide) k_fl_M_bits rfl d_M_half_40 ?_
    refine lv_sipush (v := 128) hx hb d_M_half_43 (by decide) ?_
    refine lv_iload_n hx hb d_M_half_46 rfl (lv_at hl 3 rfl) ?_
    refine lv_imul hx hb d_M_half_47 ?_
    refine lv_iload_n hx hb d_M_half_48 rfl (lv_at hl 4 rfl) ?_
    refine lv_if_eq (tgt := 57) hx hb d_M_half_49 (by decide) (fun _ => ?_) (fun c_6 => False.elim (absurd c_6 (by decide)))
    refine lv_iconst (v := 0) hx hb d_M_half_57 (by decide) ?_
    refine lv_iadd hx hb d_M_half_58 ?_
    refine lv_iload hx hb d_M_half_59 (lv_at hl 0 rfl) ?_
    refine lv_iadd hx hb d_M_half_61 ?_
    refine wf_zald C hK hP 1 0 rfl rfl (k := 128 * ra + 0 + (63 - i)) (wf_ia (x := 128 * ra + 0) (y := 63 - i) (wf_ia (x := 128 * ra) (y := 0) (wf_im (x := 128) (y := ra) rfl rfl) rfl) rfl) (by omega) (by decide) d_M_half_62 ?_
    refine lv_if_eq (tgt := 70) hx hb d_M_half_63 (by decide) (fun c_7 => ?_) (fun c_7 => ?_)
    · refine lv_lconst (v := 0) hx hb d_M_half_70 (by decide) ?_
      refine lv_ladd hx hb d_M_half_71 ?_
      refine lv_topl (fun v_8 ev_8 => ?_)
      refine lv_lstore_n (lv' := [(3, .long (v_8)), (5, .int (nI (63 - i))), (0, .ref (q 0)), (1, .int (nI ra)), (2, .int (0))]) hx hb d_M_half_72 rfl hl (by decide) rfl (fun ls hl => ?_)
      refine lv_iinc (v := wf_dn 64 (i + 1)) (lv' := [(5, .int (wf_dn 64 (i + 1))), (3, .long (v_8)), (0, .ref (q 0)), (1, .int (nI ra)), (2, .int (0))]) hx hb d_M_half_73 hl (k := 1) rfl (by rw [← wf_dn64 hi]; exact wf_dn_S) (by decide) rfl (fun ls hl => ?_)
      refine lv_goto (tgt := 22) hx hb d_M_half_76 (by decide) ?_
      exact ih v_8 ls (wf_HI_S hi hI ev_8 (y := false) rfl (by rw [← (wf_bi0 _).mp c_7, ← eu_2])) (lv_sub hl [0, 1, 2, 3, 4] rfl)
    · refine lv_lconst (v := 1) hx hb d_M_half_66 (by decide) ?_
      refine lv_goto (tgt := 71) hx hb d_M_half_67 (by decide) ?_
      refine lv_ladd hx hb d_M_half_71 ?_
      refine lv_topl (fun v_9 ev_9 => ?_)
      refine lv_lstore_n (lv' := [(3, .long (v_9)), (5, .int (nI (63 - i))), (0, .ref (q 0)), (1, .int (nI ra)), (2, .int (0))]) hx hb d_M_half_72 rfl hl (by decide) rfl (fun ls hl => ?_)
      refine lv_iinc (v := wf_dn 64 (i + 1)) (lv' := [(5, .int (wf_dn 64 (i + 1))), (3, .long (v_9)), (0, .ref (q 0)), (1, .int (nI ra)), (2, .int (0))]) hx hb d_M_half_73 hl (k := 1) rfl (by rw [← wf_dn64 hi]; exact wf_dn_S) (by decide) rfl (fun ls hl => ?_)
      refine lv_goto (tgt := 22) hx hb d_M_half_76 (by decide) ?_
      exact ih v_9 ls (wf_HI_S hi hI ev_9 (y := true) rfl (by rw [← (wf_bi1 _).mp c_7, ← eu_2])) (lv_sub hl [0, 1, 2, 3, 4] rfl)
  · have hl : lv_has ls 6 [(5, .int (wf_dn 64 64)), (3, .long (x)), (0, .ref (q 0)), (1, .int (nI ra)), (2, .int (0))] := hl
    have hI : uN x = wf_sm (fun k => u.2.1 (128 * ra + 0 + (64 - 64) + k)) 64 := hI
    refine lv_iload hx hb d_M_half_22 (lv_at hl 0 rfl) ?_
    refine lv_if_lt (tgt := 79) hx hb d_M_half_24 (by decide) (fun c_10 => ?_) (fun c_10 => False.elim (by first | exact absurd (by rw [wf_dn_end]; decide) c_10 | exact absurd c_10 (by rw [wf_dn_end]; decide)))
    refine lv_lload_n hx hb d_M_half_79 rfl (lv_at hl 1 rfl) ?_
    exact wf_retl C hr hlocks u_2 (⟨by first | exact eu_2.symm | rfl, hI⟩) hP hK hD hS (fun _ h => h) d_M_half_80

theorem wf_fin_M_add {u u1 u2 u3 u4 u5 : SM} {ra rb rt : Nat} {c_ : Bool} {r : Int32} (hra : ra < 8) (hrb : rb < 8) (hrt : rt < 8) (e1 : (0, u.2) = u1) (e2 : u2 = (u1.1, va_cpy u1.2.1 u1.2.1 (128 * ra) (128 * 8) 128, u1.2.2)) (e3 : u3 = (u2.1, va_cpy u2.2.1 u2.2.1 (128 * rb) (128 * 9) 128, u2.2.2))
    (hr : r = wf_bi c_) (e4 : u4 = (u3.1, u4.2.1, u3.2.2)) (hJ : wf_JA u3.2.1 u4.2.1 128 c_) (e5 : u5 = (u4.1, va_cpy u4.2.1 u4.2.1 (128 * 8) (128 * rt) 128, u4.2.2)) : r = wf_bi (decide (wf_NN ≤ wf_R u.2.1 ra + wf_R u.2.1 rb)) ∧ wf_mW u u5 0 (va_up (wf_R u.2.1) rt ((wf_R u.2.1 ra + wf_R u.2.1 rb) % wf_NN)) := by
  obtain ⟨h1, h2, h3⟩ := wf_JA_end hJ
  have f1 : u1.2.1 = u.2.1 := by rw [← e1]
  have f2 : u2.2.1 = va_cpy u1.2.1 u1.2.1 (128 * ra) (128 * 8) 128 := by rw [e2]
  have f3 : u3.2.1 = va_cpy u2.2.1 u2.2.1 (128 * rb) (128 * 9) 128 := by rw [e3]
  have g8 : wf_R u3.2.1 8 = wf_R u.2.1 ra := by rw [f3, wf_R_else _ _ (by decide), f2, wf_R_self, f1]; rfl
  have g9 : wf_R u3.2.1 9 = wf_R u.2.1 rb := by
    rw [f3, wf_R_self]
    show wf_R u2.2.1 rb = _
    rw [f2, wf_R_else _ _ (by omega), f1]
  have gj : ∀ j, j < 8 → wf_R u3.2.1 j = wf_R u.2.1 j := fun j hj => by rw [f3, wf_R_else _ _ (by omega), f2, wf_R_else _ _ (by omega), f1]
  rw [g8, g9] at h2 h3
  refine ⟨by rw [hr, h2], wf_mW_put (S := u4.2.1) (s := 128 * 8) (B := u4.2.1) (fun j hj => (h1 j hj).trans (gj j hj)) ?_ ?_ ?_ h3⟩
  · rw [e5]; show u4.1 = _; rw [e4]; show u3.1 = _; rw [e3]; show u2.1 = _; rw [e2]; show u1.1 = _; rw [← e1]
  · rw [e5]
  · rw [e5]; show u4.2.2.2.2.2 = _; rw [e4]; show u3.2.2.2.2.2 = _; rw [e3]; show u2.2.2.2.2.2 = _; rw [e2]; show u1.2.2.2.2.2 = _; rw [← e1]

set_option maxHeartbeats 4000000 in
set_option maxRecDepth 100000 in
/-- M_add -/
theorem c_M_add (l : Launch) (D : va_G) (q : Nat → Nat) (κ : Nat → ClassId) (u : SM) (ra : Nat) (hra : ra < 8) (rb : Nat) (hrb : rb < 8) (rt : Nat) (hrt : rt < 8) (sz : Nat) : Met l y_M_add (.code y_M_add b_M_add 5 (some .boolean) :: wG) (wf_rm 1 60 0 0) (wf_Pc D vwCl (wM q κ u) (tyM κ) ([.ref (q 0), .int (nI ra), .int (nI rb), .int (nI rt)]) sz) (va_Qi (fun r v => r = wf_bi (decide (wf_NN ≤ wf_R u.2.1 ra + wf_R u.2.1 rb)) ∧ wf_mW u v 0 (va_up (wf_R u.2.1) rt ((wf_R u.2.1 ra + wf_R u.2.1 rb) % wf_NN))) (wf_B D vwCl (wM q κ) (tyM κ) (va_A (wM q κ u) sz)) (va_A (wM q κ u) sz)) 0 0 (va_A (wM q κ u) sz) := by
  refine wf_open (by decide) (Nat.le_of_ble_eq_true rfl) k_M_add ?_
  intro p e s m below meth c ls hsz C hr hlocks hnm hex hP hK hD hl
  subst hsz
  have hx := C.1
  have hb := C.2.1
  have hml := C.2.2.1
  have hown := C.2.2.2.1
  have hts := C.2.2.2.2
  have hA : ∀ j : Nat, s.heap.size ≤ j → va_A (wM q κ u) s.heap.size j := fun j h => Or.inr h
  have hS : va_S (va_A (wM q κ u) s.heap.size) s.heap s.heap [] := va_S.rf
  generalize hAe : va_A (wM q κ u) s.heap.size = A at hA hS hD ⊢
  have hl : lv_has ls 5 [(0, .ref (q 0)), (1, .int (nI ra)), (2, .int (nI rb)), (3, .int (nI rt))] := hl
  refine lv_aload_n hx hb d_M_add_0 rfl (lv_at hl 0 rfl) ?_
  refine lv_iload_n hx hb d_M_add_1 rfl (lv_at hl 1 rfl) ?_
  refine kM_ok (r := ra) hra C hl.1 ⟨Nat.le_of_ble_eq_true rfl, Nat.le_of_ble_eq_true rfl⟩ (Nat.le_of_ble_eq_true rfl) ⟨Nat.le_of_ble_eq_true rfl, Nat.le_of_ble_eq_true rfl⟩ d_M_add_2 ?_
  refine lv_if_ne (tgt := 22) hx hb d_M_add_5 (by decide) (fun c_1 => False.elim (absurd c_1 (by decide))) (fun _ => ?_)
  refine lv_iload_n hx hb d_M_add_8 rfl (lv_at hl 2 rfl) ?_
  refine kM_ok (r := rb) hrb C hl.1 ⟨Nat.le_of_ble_eq_true rfl, Nat.le_of_ble_eq_true rfl⟩ (Nat.le_of_ble_eq_true rfl) ⟨Nat.le_of_ble_eq_true rfl, Nat.le_of_ble_eq_true rfl⟩ d_M_add_9 ?_
  refine lv_if_ne (tgt := 22) hx hb d_M_add_12 (by decide) (fun c_2 => False.elim (absurd c_2 (by decide))) (fun _ => ?_)
  refine lv_iload_n hx hb d_M_add_15 rfl (lv_at hl 3 rfl) ?_
  refine kM_ok (r := rt) hrt C hl.1 ⟨Nat.le_of_ble_eq_true rfl, Nat.le_of_ble_eq_true rfl⟩ (Nat.le_of_ble_eq_true rfl) ⟨Nat.le_of_ble_eq_true rfl, Nat.le_of_ble_eq_true rfl⟩ d_M_add_16 ?_
  refine lv_if_eq (tgt := 26) hx hb d_M_add_19 (by decide) (fun _ => ?_) (fun c_3 => False.elim (absurd c_3 (by decide)))
  refine lv_iconst (v := 0) hx hb d_M_add_26 (by decide) ?_
  refine pM_code C hK hP hD hS 0 rfl (Nat.le_of_ble_eq_true rfl) d_M_add_27 (fun H locs hP hD hS => ?_)
  have hP : va_P D vwCl (wM q κ (0, u.2)) H := hP
  have hD : va_D A (wM q κ (0, u.2)) := hD
  generalize eu_4 : ((0, u.2) : SM) = u_4 at hP hD
  refine lv_aload_n hx hb d_M_add_30 rfl (lv_at hl 0 rfl) ?_
  refine gM C hK hP 0 rfl 0 (by decide) k_fl_M_code rfl d_M_add_31 ?_
  refine lv_topi (fun k_5 ek_5 => ?_)
  have ek_5 : k_5 = 0 := ek_5.trans (by rw [← eu_4])
  subst ek_5
  refine lv_if_le (tgt := 39) hx hb d_M_add_34 (by decide) (fun _ => ?_) (fun c_6 => False.elim (absurd c_6 (by decide)))
  refine lv_aload_n hx hb d_M_add_39 rfl (lv_at hl 0 rfl) ?_
  refine lv_iload_n hx hb d_M_add_40 rfl (lv_at hl 1 rfl) ?_
  refine lv_bipush (v := 8) hx hb d_M_add_41 (by decide) ?_
  refine kM_copy (ra := ra) (rb := 8) (by omega) (by omega) C hl.1 ⟨Nat.le_of_ble_eq_true rfl, Nat.le_of_ble_eq_true rfl⟩ (Nat.le_of_ble_eq_true rfl) ⟨Nat.le_of_ble_eq_true rfl, Nat.le_of_ble_eq_true rfl⟩ hP hK hD hS hA d_M_add_43 (fun u_7 H locs eu_7 hP hD hS => ?_)
  refine lv_aload_n hx hb d_M_add_46 rfl (lv_at hl 0 rfl) ?_
  refine lv_iload_n hx hb d_M_add_47 rfl (lv_at hl 2 rfl) ?_
  refine lv_bipush (v := 9) hx hb d_M_add_48 (by decide) ?_
  refine kM_copy (ra := rb) (rb := 9) (by omega) (by omega) C hl.1 ⟨Nat.le_of_ble_eq_true rfl, Nat.le_of_ble_eq_true rfl⟩ (Nat.le_of_ble_eq_true rfl) ⟨Nat.le_of_ble_eq_true rfl, Nat.le_of_ble_eq_true rfl⟩ hP hK hD hS hA d_M_add_50 (fun u_8 H locs eu_8 hP hD hS => ?_)
  refine lv_aload_n hx hb d_M_add_53 rfl (lv_at hl 0 rfl) ?_
  refine lv_iconst (v := 0) hx hb d_M_add_54 (by decide) ?_
  refine kM_joinAdd C hl.1 ⟨Nat.le_of_ble_eq_true rfl, Nat.le_of_ble_eq_true rfl⟩ (Nat.le_of_ble_eq_true rfl) ⟨Nat.le_of_ble_eq_true rfl, Nat.le_of_ble_eq_true rfl⟩ hP hK hD hS hA d_M_add_55 (fun rr u_9 H locs eu_9 hP hD hS => ?_)
  obtain ⟨c_, hrr, e4, hJ⟩ := eu_9
  refine lv_istore (lv' := [(4, .int (rr)), (0, .ref (q 0)), (1, .int (nI ra)), (2, .int (nI rb)), (3, .int (nI rt))]) hx hb d_M_add_58 hl (by decide) rfl (fun ls hl => ?_)
  refine lv_aload_n hx hb d_M_add_60 rfl (lv_at hl 1 rfl) ?_
  refine lv_bipush (v := 8) hx hb d_M_add_61 (by decide) ?_
  refine lv_iload_n hx hb d_M_add_63 rfl (lv_at hl 4 rfl) ?_
  refine kM_copy (ra := 8) (rb := rt) (by omega) (by omega) C hl.1 ⟨Nat.le_of_ble_eq_true rfl, Nat.le_of_ble_eq_true rfl⟩ (Nat.le_of_ble_eq_true rfl) ⟨Nat.le_of_ble_eq_true rfl, Nat.le_of_ble_eq_true rfl⟩ hP hK hD hS hA d_M_add_64 (fun u_10 H locs eu_10 hP hD hS => ?_)
  refine lv_iload hx hb d_M_add_67 (lv_at hl 0 rfl) ?_
  exact wf_retz C hr (by rw [hrr]; exact wf_bi_ret _) hlocks u_10 (wf_fin_M_add hra hrb hrt eu_4 eu_7 eu_8 hrr e4 hJ eu_10) hP hK hD hS (fun _ h => h) d_M_add_69

theorem wf_fin_M_subtract {u u1 u2 u3 u4 u5 : SM} {ra rb rt : Nat} {c_ : Bool} {r : Int32} (hra : ra < 8) (hrb : rb < 8) (hrt : rt < 8) (e1 : (0, u.2) = u1) (e2 : u2 = (u1.1, va_cpy u1.2.1 u1.2.1 (128 * ra) (128 * 8) 128, u1.2.2)) (e3 : u3 = (u2.1, va_cpy u2.2.1 u2.2.1 (128 * rb) (128 * 9) 128, u2.2.2))
    (hr : r = wf_bi c_) (e4 : u4 = (u3.1, u4.2.1, u3.2.2)) (hJ : wf_JS u3.2.1 u4.2.1 128 c_) (e5 : u5 = (u4.1, va_cpy u4.2.1 u4.2.1 (128 * 8) (128 * rt) 128, u4.2.2)) : r = wf_bi (decide (wf_R u.2.1 ra < wf_R u.2.1 rb)) ∧ wf_mW u u5 0 (va_up (wf_R u.2.1) rt ((wf_R u.2.1 ra + wf_NN - wf_R u.2.1 rb) % wf_NN)) := by
  obtain ⟨h1, h2, h3⟩ := wf_JS_end hJ
  have f1 : u1.2.1 = u.2.1 := by rw [← e1]
  have f2 : u2.2.1 = va_cpy u1.2.1 u1.2.1 (128 * ra) (128 * 8) 128 := by rw [e2]
  have f3 : u3.2.1 = va_cpy u2.2.1 u2.2.1 (128 * rb) (128 * 9) 128 := by rw [e3]
  have g8 : wf_R u3.2.1 8 = wf_R u.2.1 ra := by rw [f3, wf_R_else _ _ (by decide), f2, wf_R_self, f1]; rfl
  have g9 : wf_R u3.2.1 9 = wf_R u.2.1 rb := by
    rw [f3, wf_R_self]
    show wf_R u2.2.1 rb = _
    rw [f2, wf_R_else _ _ (by omega), f1]
  have gj : ∀ j, j < 8 → wf_R u3.2.1 j = wf_R u.2.1 j := fun j hj => by rw [f3, wf_R_else _ _ (by omega), f2, wf_R_else _ _ (by omega), f1]
  rw [g8, g9] at h2 h3
  refine ⟨by rw [hr, h2], wf_mW_put (S := u4.2.1) (s := 128 * 8) (B := u4.2.1) (fun j hj => (h1 j hj).trans (gj j hj)) ?_ ?_ ?_ h3⟩
  · rw [e5]; show u4.1 = _; rw [e4]; show u3.1 = _; rw [e3]; show u2.1 = _; rw [e2]; show u1.1 = _; rw [← e1]
  · rw [e5]
  · rw [e5]; show u4.2.2.2.2.2 = _; rw [e4]; show u3.2.2.2.2.2 = _; rw [e3]; show u2.2.2.2.2.2 = _; rw [e2]; show u1.2.2.2.2.2 = _; rw [← e1]

set_option maxHeartbeats 4000000 in
set_option maxRecDepth 100000 in
/-- M_subtract -/
theorem c_M_subtract (l : Launch) (D : va_G) (q : Nat → Nat) (κ : Nat → ClassId) (u : SM) (ra : Nat) (hra : ra < 8) (rb : Nat) (hrb : rb < 8) (rt : Nat) (hrt : rt < 8) (sz : Nat) : Met l y_M_subtract (.code y_M_subtract b_M_subtract 5 (some .boolean) :: wG) (wf_rm 1 60 0 0) (wf_Pc D vwCl (wM q κ u) (tyM κ) ([.ref (q 0), .int (nI ra), .int (nI rb), .int (nI rt)]) sz) (va_Qi (fun r v => r = wf_bi (decide (wf_R u.2.1 ra < wf_R u.2.1 rb)) ∧ wf_mW u v 0 (va_up (wf_R u.2.1) rt ((wf_R u.2.1 ra + wf_NN - wf_R u.2.1 rb) % wf_NN))) (wf_B D vwCl (wM q κ) (tyM κ) (va_A (wM q κ u) sz)) (va_A (wM q κ u) sz)) 0 0 (va_A (wM q κ u) sz) := by
  refine wf_open (by decide) (Nat.le_of_ble_eq_true rfl) k_M_subtract ?_
  intro p e s m below meth c ls hsz C hr hlocks hnm hex hP hK hD hl
  subst hsz
  have hx := C.1
  have hb := C.2.1
  have hml := C.2.2.1
  have hown := C.2.2.2.1
  have hts := C.2.2.2.2
  have hA : ∀ j : Nat, s.heap.size ≤ j → va_A (wM q κ u) s.heap.size j := fun j h => Or.inr h
  have hS : va_S (va_A (wM q κ u) s.heap.size) s.heap s.heap [] := va_S.rf
  generalize hAe : va_A (wM q κ u) s.heap.size = A at hA hS hD ⊢
  have hl : lv_has ls 5 [(0, .ref (q 0)), (1, .int (nI ra)), (2, .int (nI rb)), (3, .int (nI rt))] := hl
  refine lv_aload_n hx hb d_M_subtract_0 rfl (lv_at hl 0 rfl) ?_
  refine lv_iload_n hx hb d_M_subtract_1 rfl (lv_at hl 1 rfl) ?_
  refine kM_ok (r := ra) hra C hl.1 ⟨Nat.le_of_ble_eq_true rfl, Nat.le_of_ble_eq_true rfl⟩ (Nat.le_of_ble_eq_true rfl) ⟨Nat.le_of_ble_eq_true rfl, Nat.le_of_ble_eq_true rfl⟩ d_M_subtract_2 ?_
  refine lv_if_ne (tgt := 22) hx hb d_M_subtract_5 (by decide) (fun c_1 => False.elim (absurd c_1 (by decide))) (fun _ => ?_)
  refine lv_iload_n hx hb d_M_subtract_8 rfl (lv_at hl 2 rfl) ?_
  refine kM_ok (r := rb) hrb C hl.1 ⟨Nat.le_of_ble_eq_true rfl, Nat.le_of_ble_eq_true rfl⟩ (Nat.le_of_ble_eq_true rfl) ⟨Nat.le_of_ble_eq_true rfl, Nat.le_of_ble_eq_true rfl⟩ d_M_subtract_9 ?_
  refine lv_if_ne (tgt := 22) hx hb d_M_subtract_12 (by decide) (fun c_2 => False.elim (absurd c_2 (by decide))) (fun _ => ?_)
  refine lv_iload_n hx hb d_M_subtract_15 rfl (lv_at hl 3 rfl) ?_
  refine kM_ok (r := rt) hrt C hl.1 ⟨Nat.le_of_ble_eq_true rfl, Nat.le_of_ble_eq_true rfl⟩ (Nat.le_of_ble_eq_true rfl) ⟨Nat.le_of_ble_eq_true rfl, Nat.le_of_ble_eq_true rfl⟩ d_M_subtract_16 ?_
  refine lv_if_eq (tgt := 26) hx hb d_M_subtract_19 (by decide) (fun _ => ?_) (fun c_3 => False.elim (absurd c_3 (by decide)))
  refine lv_iconst (v := 0) hx hb d_M_subtract_26 (by decide) ?_
  refine pM_code C hK hP hD hS 0 rfl (Nat.le_of_ble_eq_true rfl) d_M_subtract_27 (fun H locs hP hD hS => ?_)
  have hP : va_P D vwCl (wM q κ (0, u.2)) H := hP
  have hD : va_D A (wM q κ (0, u.2)) := hD
  generalize eu_4 : ((0, u.2) : SM) = u_4 at hP hD
  refine lv_aload_n hx hb d_M_subtract_30 rfl (lv_at hl 0 rfl) ?_
  refine gM C hK hP 0 rfl 0 (by decide) k_fl_M_code rfl d_M_subtract_31 ?_
  refine lv_topi (fun k_5 ek_5 => ?_)
  have ek_5 : k_5 = 0 := ek_5.trans (by rw [← eu_4])
  subst ek_5
  refine lv_if_le (tgt := 39) hx hb d_M_subtract_34 (by decide) (fun _ => ?_) (fun c_6 => False.elim (absurd c_6 (by decide)))
  refine lv_aload_n hx hb d_M_subtract_39 rfl (lv_at hl 0 rfl) ?_
  refine lv_iload_n hx hb d_M_subtract_40 rfl (lv_at hl 1 rfl) ?_
  refine lv_bipush (v := 8) hx hb d_M_subtract_41 (by decide) ?_
  refine kM_copy (ra := ra) (rb := 8) (by omega) (by omega) C hl.1 ⟨Nat.le_of_ble_eq_true rfl, Nat.le_of_ble_eq_true rfl⟩ (Nat.le_of_ble_eq_true rfl) ⟨Nat.le_of_ble_eq_true rfl, Nat.le_of_ble_eq_true rfl⟩ hP hK hD hS hA d_M_subtract_43 (fun u_7 H locs eu_7 hP hD hS => ?_)
  refine lv_aload_n hx hb d_M_subtract_46 rfl (lv_at hl 0 rfl) ?_
  refine lv_iload_n hx hb d_M_subtract_47 rfl (lv_at hl 2 rfl) ?_
  refine lv_bipush (v := 9) hx hb d_M_subtract_48 (by decide) ?_
  refine kM_copy (ra := rb) (rb := 9) (by omega) (by omega) C hl.1 ⟨Nat.le_of_ble_eq_true rfl, Nat.le_of_ble_eq_true rfl⟩ (Nat.le_of_ble_eq_true rfl) ⟨Nat.le_of_ble_eq_true rfl, Nat.le_of_ble_eq_true rfl⟩ hP hK hD hS hA d_M_subtract_50 (fun u_8 H locs eu_8 hP hD hS => ?_)
  refine lv_aload_n hx hb d_M_subtract_53 rfl (lv_at hl 0 rfl) ?_
  refine lv_iconst (v := 1) hx hb d_M_subtract_54 (by decide) ?_
  refine kM_joinSub C hl.1 ⟨Nat.le_of_ble_eq_true rfl, Nat.le_of_ble_eq_true rfl⟩ (Nat.le_of_ble_eq_true rfl) ⟨Nat.le_of_ble_eq_true rfl, Nat.le_of_ble_eq_true rfl⟩ hP hK hD hS hA d_M_subtract_55 (fun rr u_9 H locs eu_9 hP hD hS => ?_)
  obtain ⟨c_, hrr, e4, hJ⟩ := eu_9
  refine lv_istore (lv' := [(4, .int (rr)), (0, .ref (q 0)), (1, .int (nI ra)), (2, .int (nI rb)), (3, .int (nI rt))]) hx hb d_M_subtract_58 hl (by decide) rfl (fun ls hl => ?_)
  refine lv_aload_n hx hb d_M_subtract_60 rfl (lv_at hl 1 rfl) ?_
  refine lv_bipush (v := 8) hx hb d_M_subtract_61 (by decide) ?_
  refine lv_iload_n hx hb d_M_subtract_63 rfl (lv_at hl 4 rfl) ?_
  refine kM_copy (ra := 8) (rb := rt) (by omega) (by omega) C hl.1 ⟨Nat.le_of_ble_eq_true rfl, Nat.le_of_ble_eq_true rfl⟩ (Nat.le_of_ble_eq_true rfl) ⟨Nat.le_of_ble_eq_true rfl, Nat.le_of_ble_eq_true rfl⟩ hP hK hD hS hA d_M_subtract_64 (fun u_10 H locs eu_10 hP hD hS => ?_)
  refine lv_iload hx hb d_M_subtract_67 (lv_at hl 0 rfl) ?_
  exact wf_retz C hr (by rw [hrr]; exact wf_bi_ret _) hlocks u_10 (wf_fin_M_subtract hra hrb hrt eu_4 eu_7 eu_8 hrr e4 hJ eu_10) hP hK hD hS (fun _ h => h) d_M_subtract_69

theorem wf_lz_at {B : Nat → Bool} {r i : Nat} (hi : i < 128) (h : ∀ k, k < i → B (128 * r + (127 - k)) = false) (h1 : B (128 * r + (127 - i)) = true) : wf_LZ 128 (wf_R B r) i := by
  have e : wf_R B r = wf_sm (fun k => B (128 * r + k)) (127 - i + 1) := wf_sm_ext (by omega) (fun k a b => by
    have := h (127 - k) (by omega)
    rw [show 127 - (127 - k) = k by omega] at this
    exact this)
  refine Or.inr ⟨hi, ?_, ?_⟩
  · rw [e, wf_smS]
    show _ ≤ _ + (B (128 * r + (127 - i))).toNat * _
    rw [h1, show 128 - 1 - i = 127 - i by omega]
    simp only [Bool.toNat_true]
    omega
  · rw [e, show 128 - i = 127 - i + 1 by omega]
    exact wf_sm_lt _ _
theorem wf_lz_all {B : Nat → Bool} {r : Nat} (h : ∀ k, k < 128 → B (128 * r + (127 - k)) = false) : wf_LZ 128 (wf_R B r) 128 := by
  refine Or.inl ⟨wf_sm_eq0.mpr (fun k hk => ?_), rfl⟩
  have := h (127 - k) (by omega)
  rw [show 127 - (127 - k) = k by omega] at this
  exact this

set_option maxHeartbeats 4000000 in
set_option maxRecDepth 100000 in
/-- M_zeros -/
theorem c_M_zeros (l : Launch) (D : va_G) (q : Nat → Nat) (κ : Nat → ClassId) (u : SM) (ra : Nat) (hra : ra < 8) (sz : Nat) : Met l y_M_zeros (.code y_M_zeros b_M_zeros 3 (some .int) :: wG) (wf_rm 1 30 0 0) (wf_Pc D vwCl (wM q κ u) (tyM κ) ([.ref (q 0), .int (nI ra)]) sz) (va_Qi (fun r v => v = (0, u.2) ∧ ∃ z, r = nI z ∧ wf_LZ 128 (wf_R u.2.1 ra) z) (wf_B D vwCl (wM q κ) (tyM κ) (va_A (wM q κ u) sz)) (va_A (wM q κ u) sz)) 0 0 (va_A (wM q κ u) sz) := by
  refine wf_open (by decide) (Nat.le_of_ble_eq_true rfl) k_M_zeros ?_
  intro p e s m below meth c ls hsz C hr hlocks hnm hex hP hK hD hl
  subst hsz
  have hx := C.1
  have hb := C.2.1
  have hml := C.2.2.1
  have hown := C.2.2.2.1
  have hts := C.2.2.2.2
  have hA : ∀ j : Nat, s.heap.size ≤ j → va_A (wM q κ u) s.heap.size j := fun j h => Or.inr h
  have hS : va_S (va_A (wM q κ u) s.heap.size) s.heap s.heap [] := va_S.rf
  generalize hAe : va_A (wM q κ u) s.heap.size = A at hA hS hD ⊢
  have hl : lv_has ls 3 [(0, .ref (q 0)), (1, .int (nI ra))] := hl
  refine lv_aload_n hx hb d_M_zeros_0 rfl (lv_at hl 0 rfl) ?_
  refine lv_iload_n hx hb d_M_zeros_1 rfl (lv_at hl 1 rfl) ?_
  refine kM_ok (r := ra) hra C hl.1 ⟨Nat.le_of_ble_eq_true rfl, Nat.le_of_ble_eq_true rfl⟩ (Nat.le_of_ble_eq_true rfl) ⟨Nat.le_of_ble_eq_true rfl, Nat.le_of_ble_eq_true rfl⟩ d_M_zeros_2 ?_
  refine lv_if_eq (tgt := 12) hx hb d_M_zeros_5 (by decide) (fun _ => ?_) (fun c_1 => False.elim (absurd c_1 (by decide)))
  refine lv_iconst (v := 0) hx hb d_M_zeros_12 (by decide) ?_
  refine pM_code C hK hP hD hS 0 rfl (Nat.le_of_ble_eq_true rfl) d_M_zeros_13 (fun H locs hP hD hS => ?_)
  have hP : va_P D vwCl (wM q κ (0, u.2)) H := hP
  have hD : va_D A (wM q κ (0, u.2)) := hD
  generalize eu_2 : ((0, u.2) : SM) = u_2 at hP hD
  refine lv_iconst (v := 0) hx hb d_M_zeros_16 (by decide) ?_
  refine lv_istore_n (lv' := [(2, .int (0)), (0, .ref (q 0)), (1, .int (nI ra))]) hx hb d_M_zeros_17 rfl hl (by decide) rfl (fun ls hl => ?_)
  refine wf_for (σ := Unit) 128 (fun i x => ∀ k, k < i → u.2.1 (128 * ra + (127 - k)) = false) (fun i x => [(2, .int (nI i)), (0, .ref (q 0)), (1, .int (nI ra))]) (fun i x ls hi hI hl ih => ?_) (fun x ls hI hl => ?_) () (fun k h => absurd h (Nat.not_lt_zero k)) (lv_sub hl [0, 1, 2] rfl)
  · have hl : lv_has ls 3 [(2, .int (nI i)), (0, .ref (q 0)), (1, .int (nI ra))] := hl
    have hI : ∀ k, k < i → u.2.1 (128 * ra + (127 - k)) = false := hI
    refine lv_aload_n hx hb d_M_zeros_18 rfl (lv_at hl 1 rfl) ?_
    refine gM C hK hP 0 rfl 0 (by decide) k_fl_M_code rfl d_M_zeros_19 ?_
    refine lv_topi (fun k_3 ek_3 => ?_)
    have ek_3 : k_3 = 0 := ek_3.trans (by rw [← eu_2])
    subst ek_3
    refine lv_if_ne (tgt := 56) hx hb d_M_zeros_22 (by decide) (fun c_4 => False.elim (absurd c_4 (by decide))) (fun _ => ?_)
    refine lv_iload_n hx hb d_M_zeros_25 rfl (lv_at hl 0 rfl) ?_
    refine lv_sipush (v := 128) hx hb d_M_zeros_26 (by decide) ?_
    refine lv_icmp_ge (tgt := 56) hx hb d_M_zeros_29 (by decide) (fun c_5 => False.elim (by first | exact absurd c_5 (nI_ge hi (by decide)) | exact absurd (nI_ge hi (by decide)) c_5)) (fun c_5 => ?_)
    refine lv_aload_n hx hb d_M_zeros_32 rfl (lv_at hl 1 rfl) ?_
    refine gM C hK hP 0 rfl 1 (by decide) k_fl_M_bits rfl d_M_zeros_33 ?_
    refine lv_sipush (v := 128) hx hb d_M_zeros_36 (by decide) ?_
    refine lv_iload_n hx hb d_M_zeros_39 rfl (lv_at hl 2 rfl) ?_
    refine lv_imul hx hb d_M_zeros_40 ?_
    refine lv_bipush (v := 127) hx hb d_M_zeros_41 (by decide) ?_
    refine lv_iadd hx hb d_M_zeros_43 ?_
    refine lv_iload_n hx hb d_M_zeros_44 rfl (lv_at hl 0 rfl) ?_
    refine lv_isub hx hb d_M_zeros_45 ?_
    refine wf_zald C hK hP 1 0 rfl rfl (k := 128 * ra + (127 - i)) ((wf_is (x := 128 * ra + 127) (y := i) (wf_ia (x := 128 * ra) (y := 127) (wf_im (x := 128) (y := ra) rfl rfl) rfl) rfl (by omega)).trans (congrArg nI (show 128 * ra + 127 - i = 128 * ra + (127 - i) by omega))) (by omega) (by decide) d_M_zeros_46 ?_
    refine lv_if_ne (tgt := 56) hx hb d_M_zeros_47 (by decide) (fun c_6 => ?_) (fun c_6 => ?_)
    · have hz : u.2.1 (128 * ra + (127 - i)) = true := by rw [← (wf_bi1 _).mp c_6, ← eu_2]
      refine lv_iload_n hx hb d_M_zeros_56 rfl (lv_at hl 0 rfl) ?_
      exact wf_reti C hr hlocks u_2 (⟨by first | exact eu_2.symm | rfl, ⟨_, rfl, wf_lz_at hi hI hz⟩⟩) hP hK hD hS (fun _ h => h) d_M_zeros_57
    · have hz : u.2.1 (128 * ra + (127 - i)) = false := by rw [← (wf_bi0 _).mp c_6, ← eu_2]
      refine lv_iinc (v := nI (i + 1)) (lv' := [(2, .int (nI (i + 1))), (0, .ref (q 0)), (1, .int (nI ra))]) hx hb d_M_zeros_50 hl (k := 0) rfl (nI_1 _) (by decide) rfl (fun ls hl => ?_)
      refine lv_goto (tgt := 18) hx hb d_M_zeros_53 (by decide) ?_
      exact ih () ls (fun k hk => by rcases Nat.lt_succ_iff_lt_or_eq.mp hk with h | h; exact hI k h; rw [h]; exact hz) (lv_sub hl [0, 1, 2] rfl)
  · have hl : lv_has ls 3 [(2, .int (nI 128)), (0, .ref (q 0)), (1, .int (nI ra))] := hl
    have hI : ∀ k, k < 128 → u.2.1 (128 * ra + (127 - k)) = false := hI
    refine lv_aload_n hx hb d_M_zeros_18 rfl (lv_at hl 1 rfl) ?_
    refine gM C hK hP 0 rfl 0 (by decide) k_fl_M_code rfl d_M_zeros_19 ?_
    refine lv_topi (fun k_7 ek_7 => ?_)
    have ek_7 : k_7 = 0 := ek_7.trans (by rw [← eu_2])
    subst ek_7
    refine lv_if_ne (tgt := 56) hx hb d_M_zeros_22 (by decide) (fun c_8 => False.elim (absurd c_8 (by decide))) (fun _ => ?_)
    refine lv_iload_n hx hb d_M_zeros_25 rfl (lv_at hl 0 rfl) ?_
    refine lv_sipush (v := 128) hx hb d_M_zeros_26 (by decide) ?_
    refine lv_icmp_ge (tgt := 56) hx hb d_M_zeros_29 (by decide) (fun c_9 => ?_) (fun c_9 => False.elim (by first | exact absurd (nI_le (Nat.le_refl 128) (by decide)) c_9 | exact absurd c_9 (nI_le (Nat.le_refl 128) (by decide))))
    refine lv_iload_n hx hb d_M_zeros_56 rfl (lv_at hl 0 rfl) ?_
    exact wf_reti C hr hlocks u_2 (⟨by first | exact eu_2.symm | rfl, ⟨_, rfl, wf_lz_all hI⟩⟩) hP hK hD hS (fun _ h => h) d_M_zeros_57

/-- compared upwards -/
def wf_cm (x y : Nat) : Int32 := if x < y then -1 else if y < x then 1 else 0
theorem wf_cm_S {f g : Nat → Bool} {i : Nat} {c x : Int32} {a b : Bool} (h : c = wf_cm (wf_sm f i) (wf_sm g i)) (ea : a = f i) (eb : b = g i) (e : x = if a = b then c else if a then 1 else -1) : x = wf_cm (wf_sm f (i + 1)) (wf_sm g (i + 1)) := by
  rw [wf_smS, wf_smS, ← ea, ← eb, e, h]
  have h1 := wf_sm_lt f i
  have h2 := wf_sm_lt g i
  obtain ⟨k1, k2, k3⟩ := wf_cmp_step (x := a) (y := b) h1 h2
  by_cases hab : a = b
  · rw [if_pos hab]
    obtain ⟨q1, q2⟩ := k1 hab
    unfold wf_cm
    subst hab
    by_cases z1 : wf_sm f i < wf_sm g i
    · rw [if_pos z1, if_pos (q1.mpr z1)]
    · rw [if_neg z1, if_neg (fun h => z1 (q1.mp h))]
      by_cases z2 : wf_sm g i < wf_sm f i
      · rw [if_pos z2, if_pos (by omega)]
      · rw [if_neg z2, if_neg (by omega)]
  · rw [if_neg hab]
    cases a <;> cases b
    · exact absurd rfl hab
    · have := k3 rfl rfl
      unfold wf_cm
      rw [if_pos this]; rfl
    · have := k2 rfl rfl
      unfold wf_cm
      rw [if_neg (Nat.not_lt.mpr (Nat.le_of_lt this)), if_pos this]; rfl
    · exact absurd rfl hab

set_option maxHeartbeats 4000000 in
set_option maxRecDepth 100000 in
/-- M_compare -/
theorem c_M_compare (l : Launch) (D : va_G) (q : Nat → Nat) (κ : Nat → ClassId) (u : SM) (ra : Nat) (hra : ra < 8) (rb : Nat) (hrb : rb < 8) (sz : Nat) : Met l y_M_compare (.code y_M_compare b_M_compare 7 (some .int) :: wG) (wf_rm 1 30 0 0) (wf_Pc D vwCl (wM q κ u) (tyM κ) ([.ref (q 0), .int (nI ra), .int (nI rb)]) sz) (va_Qi (fun r v => v = (0, u.2) ∧ r = wf_cm (wf_R u.2.1 ra) (wf_R u.2.1 rb)) (wf_B D vwCl (wM q κ) (tyM κ) (va_A (wM q κ u) sz)) (va_A (wM q κ u) sz)) 0 0 (va_A (wM q κ u) sz) := by
  refine wf_open (by decide) (Nat.le_of_ble_eq_true rfl) k_M_compare ?_
  intro p e s m below meth c ls hsz C hr hlocks hnm hex hP hK hD hl
  subst hsz
  have hx := C.1
  have hb := C.2.1
  have hml := C.2.2.1
  have hown := C.2.2.2.1
  have hts := C.2.2.2.2
  have hA : ∀ j : Nat, s.heap.size ≤ j → va_A (wM q κ u) s.heap.size j := fun j h => Or.inr h
  have hS : va_S (va_A (wM q κ u) s.heap.size) s.heap s.heap [] := va_S.rf
  generalize hAe : va_A (wM q κ u) s.heap.size = A at hA hS hD ⊢
  have hl : lv_has ls 7 [(0, .ref (q 0)), (1, .int (nI ra)), (2, .int (nI rb))] := hl
  refine lv_aload_n hx hb d_M_compare_0 rfl (lv_at hl 0 rfl) ?_
  refine lv_iload_n hx hb d_M_compare_1 rfl (lv_at hl 1 rfl) ?_
  refine kM_ok (r := ra) hra C hl.1 ⟨Nat.le_of_ble_eq_true rfl, Nat.le_of_ble_eq_true rfl⟩ (Nat.le_of_ble_eq_true rfl) ⟨Nat.le_of_ble_eq_true rfl, Nat.le_of_ble_eq_true rfl⟩ d_M_compare_2 ?_
  refine lv_if_ne (tgt := 15) hx hb d_M_compare_5 (by decide) (fun c_1 => False.elim (absurd c_1 (by decide))) (fun _ => ?_)
  refine lv_iload_n hx hb d_M_compare_8 rfl (lv_at hl 2 rfl) ?_
  refine kM_ok (r := rb) hrb C hl.1 ⟨Nat.le_of_ble_eq_true rfl, Nat.le_of_ble_eq_true rfl⟩ (Nat.le_of_ble_eq_true rfl) ⟨Nat.le_of_ble_eq_true rfl, Nat.le_of_ble_eq_true rfl⟩ d_M_compare_9 ?_
  refine lv_if_eq (tgt := 19) hx hb d_M_compare_12 (by decide) (fun _ => ?_) (fun c_2 => False.elim (absurd c_2 (by decide)))
  refine lv_iconst (v := 0) hx hb d_M_compare_19 (by decide) ?_
  refine pM_code C hK hP hD hS 0 rfl (Nat.le_of_ble_eq_true rfl) d_M_compare_20 (fun H locs hP hD hS => ?_)
  have hP : va_P D vwCl (wM q κ (0, u.2)) H := hP
  have hD : va_D A (wM q κ (0, u.2)) := hD
  generalize eu_3 : ((0, u.2) : SM) = u_3 at hP hD
  refine lv_iconst (v := 0) hx hb d_M_compare_23 (by decide) ?_
  refine lv_istore_n (lv' := [(3, .int (0)), (0, .ref (q 0)), (1, .int (nI ra)), (2, .int (nI rb))]) hx hb d_M_compare_24 rfl hl (by decide) rfl (fun ls hl => ?_)
  refine lv_iconst (v := 0) hx hb d_M_compare_25 (by decide) ?_
  refine lv_istore (lv' := [(4, .int (0)), (3, .int (0)), (0, .ref (q 0)), (1, .int (nI ra)), (2, .int (nI rb))]) hx hb d_M_compare_26 hl (by decide) rfl (fun ls hl => ?_)
  refine wf_for (σ := Int32) 128 (fun i x => x = wf_cm (wf_sm (fun k => u.2.1 (128 * ra + k)) i) (wf_sm (fun k => u.2.1 (128 * rb + k)) i)) (fun i x => [(4, .int (nI i)), (3, .int (x)), (0, .ref (q 0)), (1, .int (nI ra)), (2, .int (nI rb))]) (fun i x ls hi hI hl ih => ?_) (fun x ls hI hl => ?_) 0 (rfl) (lv_sub hl [0, 1, 2, 3, 4] rfl)
  · have hl : lv_has ls 7 [(4, .int (nI i)), (3, .int (x)), (0, .ref (q 0)), (1, .int (nI ra)), (2, .int (nI rb))] := hl
    have hI : x = wf_cm (wf_sm (fun k => u.2.1 (128 * ra + k)) i) (wf_sm (fun k => u.2.1 (128 * rb + k)) i) := hI
    refine lv_iload hx hb d_M_compare_28 (lv_at hl 0 rfl) ?_
    refine lv_sipush (v := 128) hx hb d_M_compare_30 (by decide) ?_
    refine lv_icmp_ge (tgt := 101) hx hb d_M_compare_33 (by decide) (fun c_4 => False.elim (by first | exact absurd c_4 (nI_ge hi (by decide)) | exact absurd (nI_ge hi (by decide)) c_4)) (fun c_4 => ?_)
    refine lv_aload_n hx hb d_M_compare_36 rfl (lv_at hl 2 rfl) ?_
    refine gM C hK hP 0 rfl 0 (by decide) k_fl_M_code rfl d_M_compare_37 ?_
    refine lv_topi (fun k_5 ek_5 => ?_)
    have ek_5 : k_5 = 0 := ek_5.trans (by rw [← eu_3])
    subst ek_5
    refine lv_if_ne (tgt := 101) hx hb d_M_compare_40 (by decide) (fun c_6 => False.elim (absurd c_6 (by decide))) (fun _ => ?_)
    refine lv_aload_n hx hb d_M_compare_43 rfl (lv_at hl 2 rfl) ?_
    refine gM C hK hP 0 rfl 1 (by decide) k_fl_M_bits rfl d_M_compare_44 ?_
    refine lv_sipush (v := 128) hx hb d_M_compare_47 (by decide) ?_
    refine lv_iload_n hx hb d_M_compare_50 rfl (lv_at hl 3 rfl) ?_
    refine lv_imul hx hb d_M_compare_51 ?_
    refine lv_iload hx hb d_M_compare_52 (lv_at hl 0 rfl) ?_
    refine lv_iadd hx hb d_M_compare_54 ?_
    refine wf_zald C hK hP 1 0 rfl rfl (k := 128 * ra + i) (wf_ia (x := 128 * ra) (y := i) (wf_im (x := 128) (y := ra) rfl rfl) rfl) (by omega) (by decide) d_M_compare_55 ?_
    obtain ⟨x1, hx1⟩ : ∃ b : Bool, b = u_3.2.1 (128 * ra + i) := ⟨_, rfl⟩
    rw [← hx1]
    refine lv_istore (lv' := [(5, .int (wf_bi x1)), (4, .int (nI i)), (3, .int (x)), (0, .ref (q 0)), (1, .int (nI ra)), (2, .int (nI rb))]) hx hb d_M_compare_56 hl (by decide) rfl (fun ls hl => ?_)
    refine lv_aload_n hx hb d_M_compare_58 rfl (lv_at hl 3 rfl) ?_
    refine gM C hK hP 0 rfl 1 (by decide) k_fl_M_bits rfl d_M_compare_59 ?_
    refine lv_sipush (v := 128) hx hb d_M_compare_62 (by decide) ?_
    refine lv_iload_n hx hb d_M_compare_65 rfl (lv_at hl 5 rfl) ?_
    refine lv_imul hx hb d_M_compare_66 ?_
    refine lv_iload hx hb d_M_compare_67 (lv_at hl 1 rfl) ?_
    refine lv_iadd hx hb d_M_compare_69 ?_
    refine wf_zald C hK hP 1 0 rfl rfl (k := 128 * rb + i) (wf_ia (x := 128 * rb) (y := i) (wf_im (x := 128) (y := rb) rfl rfl) rfl) (by omega) (by decide) d_M_compare_70 ?_
    obtain ⟨y1, hy1⟩ : ∃ b : Bool, b = u_3.2.1 (128 * rb + i) := ⟨_, rfl⟩
    rw [← hy1]
    refine lv_istore (lv' := [(6, .int (wf_bi y1)), (5, .int (wf_bi x1)), (4, .int (nI i)), (3, .int (x)), (0, .ref (q 0)), (1, .int (nI ra)), (2, .int (nI rb))]) hx hb d_M_compare_71 hl (by decide) rfl (fun ls hl => ?_)
    refine lv_iload hx hb d_M_compare_73 (lv_at hl 1 rfl) ?_
    refine lv_iload hx hb d_M_compare_75 (lv_at hl 0 rfl) ?_
    refine wf_cutI (pcj := 94) (ls := ls) (rest := []) (fun z => z = if x1 = y1 then x else if x1 = true then 1 else -1) (fun z_7 ez_7 => ?_) (fun jn => ?_)
    · refine lv_istore_n (lv' := [(3, .int (z_7)), (6, .int (wf_bi y1)), (5, .int (wf_bi x1)), (4, .int (nI i)), (0, .ref (q 0)), (1, .int (nI ra)), (2, .int (nI rb))]) hx hb d_M_compare_94 rfl hl (by decide) rfl (fun ls hl => ?_)
      refine lv_iinc (v := nI (i + 1)) (lv' := [(4, .int (nI (i + 1))), (3, .int (z_7)), (6, .int (wf_bi y1)), (5, .int (wf_bi x1)), (0, .ref (q 0)), (1, .int (nI ra)), (2, .int (nI rb))]) hx hb d_M_compare_95 hl (k := 3) rfl (nI_1 _) (by decide) rfl (fun ls hl => ?_)
      refine lv_goto (tgt := 28) hx hb d_M_compare_98 (by decide) ?_
      exact ih z_7 ls (wf_cm_S hI (hx1.trans (by rw [← eu_3])) (hy1.trans (by rw [← eu_3])) ez_7) (lv_sub hl [0, 1, 4, 5, 6] rfl)
    · refine lv_icmp_ne (tgt := 84) hx hb d_M_compare_77 (by decide) (fun c_8 => ?_) (fun c_8 => ?_)
      · refine lv_iload hx hb d_M_compare_84 (lv_at hl 1 rfl) ?_
        refine lv_if_eq (tgt := 93) hx hb d_M_compare_86 (by decide) (fun c_9 => ?_) (fun c_9 => ?_)
        · refine lv_iconst (v := (-1)) hx hb d_M_compare_93 (by decide) ?_
          exact jn _ (by rw [if_neg (fun h => c_8 (congrArg wf_bi h)), (wf_bi0 _).mp c_9]; rfl)
        · refine lv_iconst (v := 1) hx hb d_M_compare_89 (by decide) ?_
          refine lv_goto (tgt := 94) hx hb d_M_compare_90 (by decide) ?_
          exact jn _ (by rw [if_neg (fun h => c_8 (congrArg wf_bi h)), (wf_bi1 _).mp c_9]; rfl)
      · refine lv_iload_n hx hb d_M_compare_80 rfl (lv_at hl 3 rfl) ?_
        refine lv_goto (tgt := 94) hx hb d_M_compare_81 (by decide) ?_
        exact jn _ (by rw [if_pos (wf_bi_inj c_8)])
  · have hl : lv_has ls 7 [(4, .int (nI 128)), (3, .int (x)), (0, .ref (q 0)), (1, .int (nI ra)), (2, .int (nI rb))] := hl
    have hI : x = wf_cm (wf_sm (fun k => u.2.1 (128 * ra + k)) 128) (wf_sm (fun k => u.2.1 (128 * rb + k)) 128) := hI
    refine lv_iload hx hb d_M_compare_28 (lv_at hl 0 rfl) ?_
    refine lv_sipush (v := 128) hx hb d_M_compare_30 (by decide) ?_
    refine lv_icmp_ge (tgt := 101) hx hb d_M_compare_33 (by decide) (fun c_10 => ?_) (fun c_10 => False.elim (by first | exact absurd (nI_le (Nat.le_refl 128) (by decide)) c_10 | exact absurd c_10 (nI_le (Nat.le_refl 128) (by decide))))
    refine lv_iload_n hx hb d_M_compare_101 rfl (lv_at hl 1 rfl) ?_
    exact wf_reti C hr hlocks u_3 (⟨by first | exact eu_3.symm | rfl, hI⟩) hP hK hD hS (fun _ h => h) d_M_compare_102

set_option maxHeartbeats 4000000 in
set_option maxRecDepth 100000 in
/-- M_digit -/
theorem c_M_digitIn (l : Launch) (D : va_G) (q : Nat → Nat) (κ : Nat → ClassId) (u : SM) (c_ : Nat) (hc9 : c_ ≤ 39) (hc : u.2.2.2.2.2.2 = nI c_) (j : Nat) (hj : j < c_) (sz : Nat) : Met l y_M_digit (.code y_M_digit b_M_digit 2 (some .int) :: wG) (wf_rm 0 0 0 0) (wf_Pc D vwCl (wM q κ u) (tyM κ) ([.ref (q 0), .int (nI j)]) sz) (va_Qi (fun r v => v = (0, u.2) ∧ r = u.2.2.2.2.2.1 j) (wf_B D vwCl (wM q κ) (tyM κ) (va_A (wM q κ u) sz)) (va_A (wM q κ u) sz)) 0 0 (va_A (wM q κ u) sz) := by
  refine wf_open (by decide) (Nat.le_of_ble_eq_true rfl) k_M_digit ?_
  intro p e s m below meth c ls hsz C hr hlocks hnm hex hP hK hD hl
  subst hsz
  have hx := C.1
  have hb := C.2.1
  have hml := C.2.2.1
  have hown := C.2.2.2.1
  have hts := C.2.2.2.2
  have hA : ∀ j : Nat, s.heap.size ≤ j → va_A (wM q κ u) s.heap.size j := fun j h => Or.inr h
  have hS : va_S (va_A (wM q κ u) s.heap.size) s.heap s.heap [] := va_S.rf
  generalize hAe : va_A (wM q κ u) s.heap.size = A at hA hS hD ⊢
  have hl : lv_has ls 2 [(0, .ref (q 0)), (1, .int (nI j))] := hl
  refine lv_aload_n hx hb d_M_digit_0 rfl (lv_at hl 0 rfl) ?_
  refine lv_iconst (v := 0) hx hb d_M_digit_1 (by decide) ?_
  refine pM_code C hK hP hD hS 0 rfl (Nat.le_of_ble_eq_true rfl) d_M_digit_2 (fun H locs hP hD hS => ?_)
  have hP : va_P D vwCl (wM q κ (0, u.2)) H := hP
  have hD : va_D A (wM q κ (0, u.2)) := hD
  generalize eu_1 : ((0, u.2) : SM) = u_1 at hP hD
  refine lv_iload_n hx hb d_M_digit_5 rfl (lv_at hl 1 rfl) ?_
  refine lv_if_lt (tgt := 17) hx hb d_M_digit_6 (by decide) (fun c_2 => False.elim (by first | exact absurd c_2 (nI_pos (by omega)) | exact absurd (nI_pos (by omega)) c_2)) (fun c_2 => ?_)
  refine lv_iload_n hx hb d_M_digit_9 rfl (lv_at hl 1 rfl) ?_
  refine lv_aload_n hx hb d_M_digit_10 rfl (lv_at hl 0 rfl) ?_
  refine gM C hK hP 0 rfl 6 (by decide) k_fl_M_written rfl d_M_digit_11 ?_
  refine lv_topi (fun k_3 ek_3 => ?_)
  have ek_3 : k_3 = nI c_ := ek_3.trans (by rw [← eu_1]; exact hc)
  subst ek_3
  refine lv_icmp_lt (tgt := 21) hx hb d_M_digit_14 (by decide) (fun c_4 => ?_) (fun c_4 => False.elim (by first | exact absurd (nI_lt hj (by omega)) c_4 | exact absurd c_4 (nI_lt hj (by omega))))
  refine lv_aload_n hx hb d_M_digit_21 rfl (lv_at hl 0 rfl) ?_
  refine gM C hK hP 0 rfl 5 (by decide) k_fl_M_digits rfl d_M_digit_22 ?_
  refine lv_iload_n hx hb d_M_digit_25 rfl (lv_at hl 1 rfl) ?_
  refine wf_iald C hK hP 5 4 rfl rfl (k := j) rfl (by omega) (by decide) d_M_digit_26 ?_
  exact wf_reti C hr hlocks u_1 (⟨by first | exact eu_1.symm | rfl, by rw [← eu_1]⟩) hP hK hD hS (fun _ h => h) d_M_digit_27

set_option maxHeartbeats 4000000 in
set_option maxRecDepth 100000 in
/-- M_digit -/
theorem c_M_digitBig (l : Launch) (D : va_G) (q : Nat → Nat) (κ : Nat → ClassId) (u : SM) (c_ : Nat) (hc9 : c_ ≤ 39) (hc : u.2.2.2.2.2.2 = nI c_) (j : Nat) (hj31 : j < 2 ^ 31) (hj : c_ ≤ j) (sz : Nat) : Met l y_M_digit (.code y_M_digit b_M_digit 2 (some .int) :: wG) (wf_rm 0 0 0 0) (wf_Pc D vwCl (wM q κ u) (tyM κ) ([.ref (q 0), .int (nI j)]) sz) (va_Qi (fun r v => v = (0, u.2) ∧ r = -1) (wf_B D vwCl (wM q κ) (tyM κ) (va_A (wM q κ u) sz)) (va_A (wM q κ u) sz)) 0 0 (va_A (wM q κ u) sz) := by
  refine wf_open (by decide) (Nat.le_of_ble_eq_true rfl) k_M_digit ?_
  intro p e s m below meth c ls hsz C hr hlocks hnm hex hP hK hD hl
  subst hsz
  have hx := C.1
  have hb := C.2.1
  have hml := C.2.2.1
  have hown := C.2.2.2.1
  have hts := C.2.2.2.2
  have hA : ∀ j : Nat, s.heap.size ≤ j → va_A (wM q κ u) s.heap.size j := fun j h => Or.inr h
  have hS : va_S (va_A (wM q κ u) s.heap.size) s.heap s.heap [] := va_S.rf
  generalize hAe : va_A (wM q κ u) s.heap.size = A at hA hS hD ⊢
  have hl : lv_has ls 2 [(0, .ref (q 0)), (1, .int (nI j))] := hl
  refine lv_aload_n hx hb d_M_digit_0 rfl (lv_at hl 0 rfl) ?_
  refine lv_iconst (v := 0) hx hb d_M_digit_1 (by decide) ?_
  refine pM_code C hK hP hD hS 0 rfl (Nat.le_of_ble_eq_true rfl) d_M_digit_2 (fun H locs hP hD hS => ?_)
  have hP : va_P D vwCl (wM q κ (0, u.2)) H := hP
  have hD : va_D A (wM q κ (0, u.2)) := hD
  generalize eu_1 : ((0, u.2) : SM) = u_1 at hP hD
  refine lv_iload_n hx hb d_M_digit_5 rfl (lv_at hl 1 rfl) ?_
  refine lv_if_lt (tgt := 17) hx hb d_M_digit_6 (by decide) (fun c_2 => False.elim (by first | exact absurd c_2 (nI_pos hj31) | exact absurd (nI_pos hj31) c_2)) (fun c_2 => ?_)
  refine lv_iload_n hx hb d_M_digit_9 rfl (lv_at hl 1 rfl) ?_
  refine lv_aload_n hx hb d_M_digit_10 rfl (lv_at hl 0 rfl) ?_
  refine gM C hK hP 0 rfl 6 (by decide) k_fl_M_written rfl d_M_digit_11 ?_
  refine lv_topi (fun k_3 ek_3 => ?_)
  have ek_3 : k_3 = nI c_ := ek_3.trans (by rw [← eu_1]; exact hc)
  subst ek_3
  refine lv_icmp_lt (tgt := 21) hx hb d_M_digit_14 (by decide) (fun c_4 => False.elim (by first | exact absurd c_4 (nI_nlt hj hj31) | exact absurd (nI_nlt hj hj31) c_4)) (fun c_4 => ?_)
  refine lv_iconst (v := (-1)) hx hb d_M_digit_17 (by decide) ?_
  refine lv_goto (tgt := 27) hx hb d_M_digit_18 (by decide) ?_
  exact wf_reti C hr hlocks u_1 (⟨by first | exact eu_1.symm | rfl, rfl⟩) hP hK hD hS (fun _ h => h) d_M_digit_27

set_option maxHeartbeats 4000000 in
set_option maxRecDepth 100000 in
/-- M_digit -/
theorem c_M_digitNeg (l : Launch) (D : va_G) (q : Nat → Nat) (κ : Nat → ClassId) (u : SM) (i : Int32) (hi0 : i < 0) (sz : Nat) : Met l y_M_digit (.code y_M_digit b_M_digit 2 (some .int) :: wG) (wf_rm 0 0 0 0) (wf_Pc D vwCl (wM q κ u) (tyM κ) ([.ref (q 0), .int i]) sz) (va_Qi (fun r v => v = (0, u.2) ∧ r = -1) (wf_B D vwCl (wM q κ) (tyM κ) (va_A (wM q κ u) sz)) (va_A (wM q κ u) sz)) 0 0 (va_A (wM q κ u) sz) := by
  refine wf_open (by decide) (Nat.le_of_ble_eq_true rfl) k_M_digit ?_
  intro p e s m below meth c ls hsz C hr hlocks hnm hex hP hK hD hl
  subst hsz
  have hx := C.1
  have hb := C.2.1
  have hml := C.2.2.1
  have hown := C.2.2.2.1
  have hts := C.2.2.2.2
  have hA : ∀ j : Nat, s.heap.size ≤ j → va_A (wM q κ u) s.heap.size j := fun j h => Or.inr h
  have hS : va_S (va_A (wM q κ u) s.heap.size) s.heap s.heap [] := va_S.rf
  generalize hAe : va_A (wM q κ u) s.heap.size = A at hA hS hD ⊢
  have hl : lv_has ls 2 [(0, .ref (q 0)), (1, .int (i))] := hl
  refine lv_aload_n hx hb d_M_digit_0 rfl (lv_at hl 0 rfl) ?_
  refine lv_iconst (v := 0) hx hb d_M_digit_1 (by decide) ?_
  refine pM_code C hK hP hD hS 0 rfl (Nat.le_of_ble_eq_true rfl) d_M_digit_2 (fun H locs hP hD hS => ?_)
  have hP : va_P D vwCl (wM q κ (0, u.2)) H := hP
  have hD : va_D A (wM q κ (0, u.2)) := hD
  generalize eu_1 : ((0, u.2) : SM) = u_1 at hP hD
  refine lv_iload_n hx hb d_M_digit_5 rfl (lv_at hl 1 rfl) ?_
  refine lv_if_lt (tgt := 17) hx hb d_M_digit_6 (by decide) (fun c_2 => ?_) (fun c_2 => False.elim (by first | exact absurd (hi0) c_2 | exact absurd c_2 (hi0)))
  refine lv_iconst (v := (-1)) hx hb d_M_digit_17 (by decide) ?_
  refine lv_goto (tgt := 27) hx hb d_M_digit_18 (by decide) ?_
  exact wf_reti C hr hlocks u_1 (⟨by first | exact eu_1.symm | rfl, rfl⟩) hP hK hD hS (fun _ h => h) d_M_digit_27
end
section
/-! ===== the reference's product, quotient and root, as numbers ===== -/
def wf_PI (L P P' : Nat → Bool) (j k : Nat) (c : Bool) : Prop := (∀ t, (t < j ∨ j + k ≤ t) → P' t = P t) ∧ wf_sm (fun t => P' (j + t)) k + c.toNat * 2 ^ k = wf_sm (fun t => P (j + t)) k + wf_sm L k
theorem wf_PI_0 (L P : Nat → Bool) (j : Nat) : wf_PI L P P j 0 false := ⟨fun _ _ => rfl, rfl⟩
theorem wf_PI_S {L P P' : Nat → Bool} {j k : Nat} {c x y : Bool} (h : wf_PI L P P' j k c) (ex : x = P' (j + k)) (ey : y = L k) : wf_PI L P (va_up P' (j + k) ((x != y) != c)) j (k + 1) (x && y || x && c || y && c) := by
  obtain ⟨h1, h2⟩ := h
  refine ⟨fun t ht => ?_, ?_⟩
  · rw [va_up_ne _ _ (by omega)]; exact h1 t (by omega)
  · rw [wf_sm_push P' j k, wf_smS L, wf_smS (fun t => P (j + t)), ← h1 (j + k) (by omega), ← ex, ← ey, Nat.pow_succ]
    exact wf_add_step h2 (wf_fa x y c)
theorem wf_mul_lt {A S : Nat} (hA : A < 2 ^ 128) (hS : S ≤ 2 ^ 128) (h0 : 0 < S) : A * S < 2 ^ 256 := by
  have h1 : A * S ≤ A * 2 ^ 128 := Nat.mul_le_mul_left _ hS
  have h2 : A * 2 ^ 128 < 2 ^ 128 * 2 ^ 128 := Nat.mul_lt_mul_of_pos_right hA (Nat.two_pow_pos 128)
  rw [← Nat.pow_add] at h2
  exact Nat.lt_of_le_of_lt h1 h2
theorem wf_pi_ar {p p' lo hi hi' A S T M c E F : Nat} (h5 : p' = lo + E * hi') (h4 : p = lo + E * hi) (h2 : hi' + c * F = hi + A) (hEF : E * F = M) (hp : p = A * S) (hT : T = S + E) (hlt : A * T < M) (hc : c ≤ 1) : p' = A * T := by
  have h3 : E * (hi' + c * F) = E * (hi + A) := by rw [h2]
  rw [Nat.mul_add, Nat.mul_add, Nat.mul_left_comm, hEF] at h3
  have h6 : A * T = A * S + E * A := by rw [hT, Nat.mul_add, Nat.mul_comm A E]
  rcases Nat.lt_or_ge c 1 with h | h
  · have : c = 0 := by omega
    subst this
    omega
  · have : c = 1 := by omega
    subst this
    omega
theorem wf_PI_end {L P P' f : Nat → Bool} {j A : Nat} {c : Bool} (hj : j < 128) (h : wf_PI L P P' j (256 - j) c) (hL : wf_sm L (256 - j) = A) (hA : A < 2 ^ 128) (hP : wf_sm P 256 = A * wf_sm f j) (hf : f j = true) : wf_sm P' 256 = A * wf_sm f (j + 1) := by
  obtain ⟨h1, h2⟩ := h
  rw [hL] at h2
  have e1 : ∀ G : Nat → Bool, wf_sm G 256 = wf_sm G j + 2 ^ j * wf_sm (fun t => G (j + t)) (256 - j) := fun G => by
    have := wf_sm_add G j (256 - j)
    rw [show j + (256 - j) = 256 by omega] at this
    exact this
  have e2 : wf_sm P' j = wf_sm P j := wf_sm_congr (fun t ht => h1 t (Or.inl ht))
  have e3 : wf_sm f (j + 1) = wf_sm f j + 2 ^ j := by rw [wf_smS, hf, Bool.toNat_true, Nat.one_mul]
  have e4 : wf_sm f (j + 1) ≤ 2 ^ 128 := Nat.le_trans (Nat.le_of_lt (wf_sm_lt f (j + 1))) (wf_pw (by omega))
  have e0 : 0 < wf_sm f (j + 1) := by
    rw [e3]
    exact Nat.lt_of_lt_of_le (Nat.two_pow_pos j) (Nat.le_add_left _ _)
  have hpp : (2 : Nat) ^ j * 2 ^ (256 - j) = 2 ^ 256 := by rw [← Nat.pow_add, show j + (256 - j) = 256 by omega]
  exact wf_pi_ar ((e1 P').trans (by rw [e2])) (e1 P) h2 hpp hP e3 (wf_mul_lt hA e4 e0) (wf_tn c)
theorem wf_PI_no {f : Nat → Bool} {j A N : Nat} (hP : N = A * wf_sm f j) (hf : f j = false) : N = A * wf_sm f (j + 1) := by
  rw [wf_smS, hf]; simpa using hP
theorem wf_p256 {P : Nat → Bool} {N : Nat} (h : wf_sm P 256 = N) : wf_sm (fun k => P (128 + k)) 128 = N / wf_NN ∧ wf_sm (fun k => P (0 + k)) 128 = N % wf_NN := by
  have e := wf_sm_add P 128 128
  have e0 : (fun k => P (0 + k)) = P := funext fun k => by rw [Nat.zero_add]
  have h1 := wf_sm_lt P 128
  rw [h] at e
  rw [e0, show wf_NN = 2 ^ 128 from wf_p128.symm, e]
  refine ⟨?_, ?_⟩
  · rw [Nat.add_comm, Nat.mul_add_div (Nat.two_pow_pos 128), Nat.div_eq_of_lt h1, Nat.add_zero]
  · rw [Nat.add_comm, Nat.mul_add_mod, Nat.mod_eq_of_lt h1]
/-- two registers are written, one behind the other -/
theorem wf_mW_two {u v : SM} {S1 S2 : Nat → Bool} {s1 s2 r1 r2 N1 N2 : Nat} {c : Int32} {B B1 : Nat → Bool} (hB : ∀ j, j < 8 → wf_R B j = wf_R u.2.1 j) (h1 : v.1 = c) (hB1 : B1 = va_cpy S1 B s1 (128 * r1) 128) (h2 : v.2.1 = va_cpy S2 B1 s2 (128 * r2) 128) (h3 : v.2.2.2.2.2 = u.2.2.2.2.2)
    (hN1 : wf_sm (fun k => S1 (s1 + k)) 128 = N1) (hN2 : wf_sm (fun k => S2 (s2 + k)) 128 = N2) : wf_mW u v c (va_up (va_up (wf_R u.2.1) r1 N1) r2 N2) :=
  ⟨h1, fun j hj => by rw [h2]; exact wf_R_upd _ _ _ _ _ hN2 (by rw [hB1]; exact wf_R_upd _ _ _ _ _ hN1 (hB j hj)), h3⟩
theorem wf_sm_small {F : Nat → Bool} {n m : Nat} (hnm : n ≤ m) (h : wf_sm F m < 2 ^ n) : wf_sm F n = wf_sm F m := by
  obtain ⟨d, rfl⟩ : ∃ d, m = n + d := ⟨m - n, by omega⟩
  rw [wf_sm_add] at h ⊢
  have h0 : wf_sm (fun k => F (n + k)) d = 0 := by
    rcases Nat.eq_zero_or_pos (wf_sm (fun k => F (n + k)) d) with z | z
    · exact z
    · exfalso
      have := Nat.mul_le_mul_left (2 ^ n) z
      omega
  rw [h0, Nat.mul_zero, Nat.add_zero]
/-- takeAway with a truth value -/
theorem wf_away_b {u v : SM} {r_ : Int32} {L : Nat → Bool} (h : (r_ = 1 ∧ wf_sm L 130 ≤ wf_sm u.2.2.2.2.1 130 ∧ ∃ f : Nat → Bool, v = (u.1, u.2.1, u.2.2.1, u.2.2.2.1, f, u.2.2.2.2.2) ∧ wf_sm f 130 = wf_sm u.2.2.2.2.1 130 - wf_sm L 130) ∨ (r_ = 0 ∧ ¬ wf_sm L 130 ≤ wf_sm u.2.2.2.2.1 130 ∧ v = u)) :
    ∃ (nx : Bool) (f : Nat → Bool), r_ = wf_bi nx ∧ v = (u.1, u.2.1, u.2.2.1, u.2.2.2.1, f, u.2.2.2.2.2) ∧ nx = decide (wf_sm L 130 ≤ wf_sm u.2.2.2.2.1 130) ∧ wf_sm f 130 = wf_sm u.2.2.2.2.1 130 - nx.toNat * wf_sm L 130 := by
  rcases h with ⟨h1, h2, f, h3, h4⟩ | ⟨h1, h2, h3⟩
  · exact ⟨true, f, h1, h3, (decide_eq_true h2).symm, by simpa using h4⟩
  · exact ⟨false, u.2.2.2.2.1, h1, h3, (decide_eq_false h2).symm, by simp⟩
/-- the quotient: behind i of 128 steps -/
def wf_DV (a b : Nat) (An Re : Nat → Bool) (i : Nat) : Prop := wf_sm Re 130 < b ∧ a / 2 ^ (128 - i) = wf_sm (fun t => An (128 - i + t)) i * b + wf_sm Re 130
theorem wf_top_step {B : Nat → Bool} {r i : Nat} (hi : i < 128) : wf_R B r / 2 ^ (128 - (i + 1)) = 2 * (wf_R B r / 2 ^ (128 - i)) + (B (128 * r + (127 - i))).toNat := by
  have h := wf_sm_top (fun k => B (128 * r + k)) 128 (127 - i) (by omega)
  rw [show 127 - i + 1 = 128 - i by omega] at h
  rw [show 128 - (i + 1) = 127 - i by omega]
  exact h
theorem wf_dvS {a a' q left b y t nx : Nat} (h1 : left < b) (h2 : a = q * b + left) (ha : a' = 2 * a + y) (hy : y ≤ 1) (ht : t = y + 2 * left) (hnx : (nx = 1 ∧ b ≤ t) ∨ (nx = 0 ∧ ¬ b ≤ t)) : t - nx * b < b ∧ a' = (nx + 2 * q) * b + (t - nx * b) := by
  rcases hnx with ⟨rfl, h⟩ | ⟨rfl, h⟩
  · rw [Nat.one_mul, Nat.add_mul, Nat.one_mul, Nat.mul_assoc]
    omega
  · rw [Nat.zero_mul, Nat.zero_add, Nat.mul_assoc]
    omega
theorem wf_DV_S {B An Re f : Nat → Bool} {ra b i : Nat} {L : Nat → Bool} {y nx : Bool} (hi : i < 128) (hL : wf_sm L 130 = b) (hb : b < 2 ^ 128) (h : wf_DV (wf_R B ra) b An Re i) (hy : y = B (128 * ra + (127 - i)))
    (hn : nx = decide (wf_sm L 130 ≤ wf_sm (va_up (wf_sh Re 129 129) 0 y) 130)) (hf : wf_sm f 130 = wf_sm (va_up (wf_sh Re 129 129) 0 y) 130 - nx.toNat * wf_sm L 130) : wf_DV (wf_R B ra) b (va_up An (127 - i) nx) f (i + 1) := by
  obtain ⟨h1, h2⟩ := h
  have hs : wf_sm (va_up (wf_sh Re 129 129) 0 y) 130 = y.toNat + 2 * wf_sm Re 130 := by
    rw [wf_sh_end Re 129 y, wf_sm_small (n := 129) (m := 130) (by decide) (Nat.lt_of_lt_of_le h1 (Nat.le_trans (Nat.le_of_lt hb) (wf_pw (by decide))))]
  rw [hs, hL] at hn hf
  have key := wf_dvS h1 h2 (wf_top_step (B := B) (r := ra) hi) (wf_tn _) (show y.toNat + 2 * wf_sm Re 130 = (B (128 * ra + (127 - i))).toNat + 2 * wf_sm Re 130 by rw [hy]) (nx := nx.toNat) (by
    cases nx
    · exact Or.inr ⟨rfl, of_decide_eq_false hn.symm⟩
    · exact Or.inl ⟨rfl, of_decide_eq_true hn.symm⟩)
  refine ⟨by rw [hf]; exact key.1, ?_⟩
  rw [hf, key.2, wf_sm_cons (fun t => va_up An (127 - i) nx (128 - (i + 1) + t)) i, show 128 - (i + 1) + 0 = 127 - i by omega, va_up_self]
  congr 4
  refine (wf_sm_congr (fun k hk => ?_)).symm
  rw [va_up_ne _ _ (by omega)]
  congr 1
  omega
theorem wf_DV_end {a b : Nat} {An Re : Nat → Bool} (hb : b < 2 ^ 128) (h : wf_DV a b An Re 128) : wf_sm (fun k => An (0 + k)) 128 = a / b ∧ wf_sm (fun k => Re (0 + k)) 128 = a % b := by
  obtain ⟨h1, h2⟩ := h
  rw [Nat.sub_self, Nat.pow_zero, Nat.div_one] at h2
  have e0 : (fun k => Re (0 + k)) = Re := funext fun k => by rw [Nat.zero_add]
  have e1 : wf_sm Re 128 = wf_sm Re 130 := wf_sm_small (by decide) (Nat.lt_trans h1 hb)
  rw [e0, e1]
  have hb0 : 0 < b := by omega
  generalize wf_sm (fun t => An (0 + t)) 128 = q at h2 ⊢
  refine ⟨?_, ?_⟩
  · rw [h2, Nat.mul_comm, Nat.mul_add_div hb0, Nat.div_eq_of_lt h1, Nat.add_zero]
  · rw [h2, Nat.mul_comm, Nat.mul_add_mod, Nat.mod_eq_of_lt h1]
theorem wf_DV_0 {a b : Nat} {An Re : Nat → Bool} (ha : a < 2 ^ 128) (hb : 0 < b) (hR : ∀ k, k < 130 → Re k = false) : wf_DV a b An Re 0 := by
  have h0 : wf_sm Re 130 = 0 := wf_sm_eq0.mpr hR
  refine ⟨by rw [h0]; exact hb, ?_⟩
  rw [h0, Nat.sub_zero, Nat.div_eq_of_lt ha, wf_sm0, Nat.zero_mul]
/-- the root: behind i of 64 steps -/
def wf_RV (a : Nat) (An Re : Nat → Bool) (i : Nat) : Prop := a / 2 ^ (128 - 2 * i) = wf_sm An 128 * wf_sm An 128 + wf_sm Re 130 ∧ wf_sm Re 130 ≤ 2 * wf_sm An 128 ∧ wf_sm An 128 < 2 ^ i
theorem wf_RV_0 {a : Nat} {An Re : Nat → Bool} (ha : a < 2 ^ 128) (hA : ∀ k, k < 128 → An k = false) (hR : ∀ k, k < 130 → Re k = false) : wf_RV a An Re 0 := by
  have h0 : wf_sm Re 130 = 0 := wf_sm_eq0.mpr hR
  have h1 : wf_sm An 128 = 0 := wf_sm_eq0.mpr hA
  unfold wf_RV
  rw [h0, h1, Nat.mul_zero, Nat.sub_zero, Nat.div_eq_of_lt ha]
  decide
theorem wf_rvS {A f left t nx y1 y0 : Nat} (h1 : A = f * f + left) (h2 : left ≤ 2 * f) (ht : t = y0 + 2 * (y1 + 2 * left)) (hy1 : y1 ≤ 1) (hy0 : y0 ≤ 1) (hnx : (nx = 1 ∧ 4 * f + 1 ≤ t) ∨ (nx = 0 ∧ ¬ 4 * f + 1 ≤ t)) :
    2 * (2 * A + y1) + y0 = (nx + 2 * f) * (nx + 2 * f) + (t - nx * (4 * f + 1)) ∧ t - nx * (4 * f + 1) ≤ 2 * (nx + 2 * f) := by
  obtain ⟨s1, s2⟩ := wf_sq f
  rcases hnx with ⟨rfl, h⟩ | ⟨rfl, h⟩
  · rw [Nat.one_mul, Nat.add_comm 1 (2 * f), s2]
    omega
  · rw [Nat.zero_mul, Nat.zero_add, s1]
    omega
theorem wf_RV_S {B An Re f : Nat → Bool} {ra i : Nat} {y1 y0 nx : Bool} (hi : i < 64) (h : wf_RV (wf_R B ra) An Re i) (hy1 : y1 = B (128 * ra + 2 * (63 - i) + 1)) (hy0 : y0 = B (128 * ra + 2 * (63 - i)))
    (hn : nx = decide (wf_sm (wf_lr An) 130 ≤ wf_sm (va_up (wf_sh (va_up (wf_sh Re 129 129) 0 y1) 129 129) 0 y0) 130)) (hf : wf_sm f 130 = wf_sm (va_up (wf_sh (va_up (wf_sh Re 129 129) 0 y1) 129 129) 0 y0) 130 - nx.toNat * wf_sm (wf_lr An) 130) : wf_RV (wf_R B ra) (va_up (wf_sh An 127 127) 0 nx) f (i + 1) := by
  obtain ⟨h1, h2, h3⟩ := h
  have p1 : (2 : Nat) ^ i ≤ 2 ^ 63 := wf_pw (by omega)
  have hsm : wf_sm Re 130 < 2 ^ 129 := Nat.lt_of_lt_of_le (show wf_sm Re 130 < 2 ^ 65 by rw [show (2 : Nat) ^ 65 = 4 * 2 ^ 63 by decide]; omega) (wf_pw (by decide))
  have t1 : wf_sm (va_up (wf_sh Re 129 129) 0 y1) 130 = y1.toNat + 2 * wf_sm Re 130 := by rw [wf_sh_end Re 129 y1, wf_sm_small (n := 129) (m := 130) (by decide) hsm]
  have t2 : wf_sm (va_up (wf_sh (va_up (wf_sh Re 129 129) 0 y1) 129 129) 0 y0) 130 = y0.toNat + 2 * (y1.toNat + 2 * wf_sm Re 130) := by
    rw [wf_sh_end _ 129 y0, wf_sm_small (n := 129) (m := 130) (by decide) ?_, t1]
    rw [t1]
    have := wf_tn y1
    exact Nat.lt_of_lt_of_le (show _ < 2 ^ 67 by rw [show (2 : Nat) ^ 67 = 16 * 2 ^ 63 by decide]; omega) (wf_pw (by decide))
  have t3 : wf_sm (va_up (wf_sh An 127 127) 0 nx) 128 = nx.toNat + 2 * wf_sm An 128 := by
    rw [wf_sh_end An 127 nx, wf_sm_small (n := 127) (m := 128) (by decide) (Nat.lt_of_lt_of_le h3 (wf_pw (by omega)))]
  rw [t2, wf_lr_sm] at hn hf
  have a1 := wf_top_step (B := B) (r := ra) (i := 2 * i) (by omega)
  have a2 := wf_top_step (B := B) (r := ra) (i := 2 * i + 1) (by omega)
  rw [a1, show 128 * ra + (127 - 2 * i) = 128 * ra + 2 * (63 - i) + 1 by omega, ← hy1, show 128 * ra + (127 - (2 * i + 1)) = 128 * ra + 2 * (63 - i) by omega, ← hy0] at a2
  obtain ⟨k1, k2⟩ := wf_rvS (A := wf_R B ra / 2 ^ (128 - 2 * i)) h1 h2 rfl (wf_tn y1) (wf_tn y0) (nx := nx.toNat) (by
    cases nx
    · exact Or.inr ⟨rfl, of_decide_eq_false hn.symm⟩
    · exact Or.inl ⟨rfl, of_decide_eq_true hn.symm⟩)
  have hnx := wf_tn nx
  refine ⟨?_, ?_, ?_⟩
  · rw [t3, hf, show 2 * (i + 1) = 2 * i + 1 + 1 by omega, a2]
    exact k1
  · rw [t3, hf]; exact k2
  · rw [t3, Nat.pow_succ]; omega
theorem wf_RV_end {a : Nat} {An Re : Nat → Bool} (h : wf_RV a An Re 64) : ∃ g r : Nat, (a = g * g + r ∧ r ≤ 2 * g ∧ g < 2 ^ 64) ∧ wf_sm (fun k => An (0 + k)) 128 = g ∧ wf_sm (fun k => Re (0 + k)) 128 = r := by
  obtain ⟨h1, h2, h3⟩ := h
  rw [show 128 - 2 * 64 = 0 from rfl, Nat.pow_zero, Nat.div_one] at h1
  have e0 : (fun k => Re (0 + k)) = Re := funext fun k => by rw [Nat.zero_add]
  have e1 : (fun k => An (0 + k)) = An := funext fun k => by rw [Nat.zero_add]
  have e2 : wf_sm Re 128 = wf_sm Re 130 := wf_sm_small (by decide) (Nat.lt_of_lt_of_le (show wf_sm Re 130 < 2 ^ 66 by rw [show (2 : Nat) ^ 66 = 4 * 2 ^ 64 by decide]; omega) (wf_pw (by decide)))
  exact ⟨_, _, ⟨h1, h2, h3⟩, by rw [e1], by rw [e0, e2]⟩
end
