/-! ===== zeros above and below, as numbers ===== -/
section WCF
variable {p : Program} {l : Launch} {e : Env} {R : Room} {s : State} {m : MethodId} {args : Array Value} {below : List Frame} {meth : Method} {c : Code} {H : Heap} {locs : List Loc} {cells slots : Nat} {Q : State → Prop}
/-- branches meet with other locals -/
theorem wf_cutF {σ : Type} {pc pcj nL : Nat} {ls' : Array Slot} {st0 : List Value} (P : σ → Prop) (F : σ → List (Nat × Value)) (k : ∀ (x : σ) (ls : Array Slot), P x → lv_has ls nL (F x) → W p l e R s m args below meth c H locs cells slots Q (F0 m pcj ls [])) (g : (∀ (x : σ) (ls : Array Slot), P x → lv_has ls nL (F x) → W p l e R s m args below meth c H locs cells slots Q (F0 m pcj ls [])) → W p l e R s m args below meth c H locs cells slots Q (F0 m pc ls' st0)) : W p l e R s m args below meth c H locs cells slots Q (F0 m pc ls' st0) := g k
end WCF
/-- z zeros above the highest one of w bits -/
def wf_LZ (w N z : Nat) : Prop := (N = 0 ∧ z = w) ∨ (z < w ∧ 2 ^ (w - 1 - z) ≤ N ∧ N < 2 ^ (w - z))
/-- t zeros below the lowest one of w bits -/
def wf_TZ (w N t : Nat) : Prop := (N = 0 ∧ t = w) ∨ (t < w ∧ N % 2 ^ (t + 1) = 2 ^ t)
theorem wf_pw {a b : Nat} (h : a ≤ b) : (2 : Nat) ^ a ≤ 2 ^ b := Nat.pow_le_pow_right (by decide) h
theorem wf_LZ_one {w N y z : Nat} (h1 : wf_LZ w N y) (h2 : wf_LZ w N z) : y = z := by
  have key : ∀ y z : Nat, y < w → z < w → 2 ^ (w - 1 - y) ≤ N → N < 2 ^ (w - z) → z ≤ y := by
    intro y z hy hz ha hb
    rcases Nat.lt_or_ge y z with h | h
    · exfalso
      have := wf_pw (show w - z ≤ w - 1 - y by omega)
      omega
    · exact h
  have pos : ∀ k : Nat, 0 < (2 : Nat) ^ k := fun k => Nat.two_pow_pos k
  rcases h1 with ⟨a, b⟩ | ⟨a, b, c⟩ <;> rcases h2 with ⟨a', b'⟩ | ⟨a', b', c'⟩
  · omega
  · have := pos (w - 1 - z); omega
  · have := pos (w - 1 - y); omega
  · exact Nat.le_antisymm (key z y a' a b' c) (key y z a a' b c')
theorem wf_lz_fin {N z0 M : Nat} (hN : N < 2 ^ 31) (hz : z0 ≤ 31) (hM : M = N / 2 ^ (31 - z0)) (h0 : 0 < M) (h4 : M < 4) : M / 2 ≤ z0 ∧ wf_LZ 32 N (z0 - M / 2) := by
  have hP : 0 < (2 : Nat) ^ (31 - z0) := Nat.two_pow_pos _
  have h1 : M * 2 ^ (31 - z0) ≤ N := by rw [hM]; exact Nat.div_mul_le_self _ _
  have h2 : N < (M + 1) * 2 ^ (31 - z0) := by
    have h3 := Nat.div_add_mod' N (2 ^ (31 - z0))
    have h4 := Nat.mod_lt N hP
    rw [← hM] at h3
    rw [Nat.add_mul, Nat.one_mul]
    omega
  have hz1 : M / 2 ≤ z0 := by
    rcases Nat.eq_zero_or_pos z0 with h | h
    · subst h
      exfalso
      have : N / 2 ^ (31 - 0) = 0 := Nat.div_eq_of_lt hN
      omega
    · omega
  refine ⟨hz1, Or.inr ⟨by omega, ?_, ?_⟩⟩
  · rcases (show M = 1 ∨ M = 2 ∨ M = 3 by omega) with h | h | h <;> subst h
    · rw [show 32 - 1 - (z0 - 1 / 2) = 31 - z0 by omega]; omega
    · rw [show 32 - 1 - (z0 - 2 / 2) = (31 - z0) + 1 by omega, Nat.pow_succ]; omega
    · rw [show 32 - 1 - (z0 - 3 / 2) = (31 - z0) + 1 by omega, Nat.pow_succ]; omega
  · rcases (show M = 1 ∨ M = 2 ∨ M = 3 by omega) with h | h | h <;> subst h
    · rw [show 32 - (z0 - 1 / 2) = (31 - z0) + 1 by omega, Nat.pow_succ]; omega
    · rw [show 32 - (z0 - 2 / 2) = (31 - z0) + 1 + 1 by omega, Nat.pow_succ, Nat.pow_succ]; omega
    · rw [show 32 - (z0 - 3 / 2) = (31 - z0) + 1 + 1 by omega, Nat.pow_succ, Nat.pow_succ]; omega
/-- one stage of the search: a shift by k -/
theorem wf_lz_st {N z0 M k : Nat} (hN : N < 2 ^ 31) (hz : z0 ≤ 31) (hM : M = N / 2 ^ (31 - z0)) (hk : 2 ^ k ≤ M) : k ≤ z0 ∧ M / 2 ^ k = N / 2 ^ (31 - (z0 - k)) ∧ 0 < M / 2 ^ k := by
  have h1 : k ≤ z0 := by
    rcases Nat.lt_or_ge z0 k with h | h
    · exfalso
      have h2 : N / 2 ^ (31 - z0) < 2 ^ z0 := (Nat.div_lt_iff_lt_mul (Nat.two_pow_pos _)).mpr (by rw [← Nat.pow_add, show z0 + (31 - z0) = 31 by omega]; exact hN)
      have := wf_pw (show z0 ≤ k by omega)
      omega
    · exact h
  refine ⟨h1, ?_, Nat.div_pos hk (Nat.two_pow_pos _)⟩
  rw [hM, Nat.div_div_eq_div_mul, ← Nat.pow_add, show 31 - z0 + k = 31 - (z0 - k) by omega]
theorem wf_nI_mod (n : Nat) : nI n = nI (n % 4294967296) := by
  unfold nI
  refine Int32.toBitVec_inj.mp ?_
  show BitVec.ofNat 32 n = BitVec.ofNat 32 (n % 4294967296)
  refine BitVec.eq_of_toNat_eq ?_
  rw [BitVec.toNat_ofNat, BitVec.toNat_ofNat]
  omega
theorem wf_lN_uN (x : Int64) : lN (uN x) = x := uN_inj (by rw [uN_ofNat]; exact Nat.mod_eq_of_lt (uN_lt x))
theorem wf_l2i (x : Int64) : x.toInt32 = nI (uN x % 4294967296) := by
  rw [← wf_nI_mod, ← lN_i, wf_lN_uN]
theorem wf_of32 (x : Int32) : x = nI x.toBitVec.toNat := by
  refine Int32.toBitVec_inj.mp ?_
  show x.toBitVec = BitVec.ofNat 32 x.toBitVec.toNat
  refine BitVec.eq_of_toNat_eq ?_
  rw [BitVec.toNat_ofNat, Nat.mod_eq_of_lt x.toBitVec.isLt]
theorem wf_nI_t {n : Nat} (h : n < 4294967296) : (nI n).toBitVec.toNat = n := pk_tn h
theorem wf_nI_big {n : Nat} (h1 : 2147483648 ≤ n) (h2 : n < 4294967296) : (nI n).toInt = (n : Int) - 4294967296 := by
  show (nI n).toBitVec.toInt = _
  rw [BitVec.toInt_eq_toNat_cond, wf_nI_t h2]
  split <;> omega
theorem wf_nI_big0 {n : Nat} (h1 : 2147483648 ≤ n) (h2 : n < 4294967296) : nI n < 0 := by
  rw [Int32.lt_iff_toInt_lt, wf_nI_big h1 h2]
  show _ < (0 : Int)
  omega
theorem wf_nI_n0 {n : Nat} (h1 : 0 < n) (h2 : n < 4294967296) : ¬ nI n = 0 := fun h => by
  have := congrArg (fun z : Int32 => z.toBitVec.toNat) h
  have h3 : (Int32.toBitVec 0).toNat = 0 := rfl
  have h4 : (nI n).toBitVec.toNat = (Int32.toBitVec 0).toNat := this
  rw [wf_nI_t h2] at h4
  omega
/-- two words side by side -/
theorem wf_LZ_hi {w h l z : Nat} (hl : l < 2 ^ w) (h0 : h ≠ 0) (hz : wf_LZ w h z) : wf_LZ (w + w) (h * 2 ^ w + l) z := by
  rcases hz with ⟨a, b⟩ | ⟨a, b, c⟩
  · exact absurd a h0
  · refine Or.inr ⟨by omega, ?_, ?_⟩
    · have h1 : 2 ^ (w - 1 - z) * 2 ^ w ≤ h * 2 ^ w := Nat.mul_le_mul_right _ b
      rw [← Nat.pow_add, show w - 1 - z + w = w + w - 1 - z by omega] at h1
      omega
    · have h1 : (h + 1) * 2 ^ w ≤ 2 ^ (w - z) * 2 ^ w := Nat.mul_le_mul_right _ c
      rw [← Nat.pow_add, show w - z + w = w + w - z by omega, Nat.add_mul] at h1
      omega
theorem wf_LZ_lo {w l z : Nat} (hz : wf_LZ w l z) : wf_LZ (w + w) l (w + z) := by
  rcases hz with ⟨a, b⟩ | ⟨a, b, c⟩
  · exact Or.inl ⟨a, by omega⟩
  · refine Or.inr ⟨by omega, ?_, ?_⟩
    · rw [show w + w - 1 - (w + z) = w - 1 - z by omega]; exact b
    · rw [show w + w - (w + z) = w - z by omega]; exact c
theorem wf_TZ_lo {w h l t : Nat} (h0 : l ≠ 0) (ht : wf_TZ w l t) : wf_TZ (w + w) (h * 2 ^ w + l) t := by
  rcases ht with ⟨a, b⟩ | ⟨a, b⟩
  · exact absurd a h0
  · refine Or.inr ⟨by omega, ?_⟩
    rw [show (2 : Nat) ^ w = 2 ^ (t + 1) * 2 ^ (w - (t + 1)) by rw [← Nat.pow_add]; congr 1; omega, Nat.mul_left_comm, Nat.mul_add_mod]
    exact b
theorem wf_TZ_hi {w h t : Nat} (ht : wf_TZ w h t) : wf_TZ (w + w) (h * 2 ^ w) (w + t) := by
  rcases ht with ⟨a, b⟩ | ⟨a, b⟩
  · subst a; exact Or.inl ⟨Nat.zero_mul _, by omega⟩
  · refine Or.inr ⟨by omega, ?_⟩
    rw [show w + t + 1 = (t + 1) + w by omega, Nat.pow_add, Nat.mul_mod_mul_right, b, ← Nat.pow_add, Nat.add_comm]
/-- ~x & (x - 1): ones where the zeros below the lowest one were -/
theorem wf_low (N : Nat) (h : 0 < N) : ∃ t k, N = 2 ^ t * (2 * k + 1) := by
  induction N using Nat.strongRecOn with
  | _ N ih =>
    rcases Nat.mod_two_eq_zero_or_one N with h2 | h2
    · obtain ⟨t, k, e⟩ := ih (N / 2) (by omega) (by omega)
      exact ⟨t + 1, k, by rw [Nat.pow_succ, Nat.mul_right_comm, ← e]; omega⟩
    · exact ⟨0, N / 2, by rw [Nat.pow_zero, Nat.one_mul]; omega⟩
theorem wf_mask {N : Nat} (h0 : 0 < N) (hN : N < 4294967296) : ∃ t, t < 32 ∧ N % 2 ^ (t + 1) = 2 ^ t ∧ (nI N ^^^ (-1)) &&& (nI N - 1) = nI (2 ^ t - 1) := by
  obtain ⟨t, k, e⟩ := wf_low N h0
  have hp : 0 < (2 : Nat) ^ t := Nat.two_pow_pos t
  have ht : t < 32 := by
    rcases Nat.lt_or_ge t 32 with h | h
    · exact h
    · exfalso
      have h1 := wf_pw h
      have h2 : 2 ^ t * 1 ≤ 2 ^ t * (2 * k + 1) := Nat.mul_le_mul_left _ (by omega)
      rw [show (2 : Nat) ^ 32 = 4294967296 from by decide] at h1
      omega
  have e2 : N = 2 ^ (t + 1) * k + 2 ^ t := by rw [e, Nat.pow_succ, Nat.mul_add, Nat.mul_one, Nat.mul_assoc]
  have e3 : N - 1 = 2 ^ t * (2 * k) + (2 ^ t - 1) := by rw [e, Nat.mul_add, Nat.mul_one]; omega
  refine ⟨t, ht, ?_, ?_⟩
  · rw [e2, Nat.mul_add_mod, Nat.mod_eq_of_lt (by rw [Nat.pow_succ]; omega)]
  · refine Int32.toBitVec_inj.mp (BitVec.eq_of_toNat_eq ?_)
    have l1 : (2 : Nat) ^ t - 1 < 4294967296 := by
      have := wf_pw (show t ≤ 31 by omega)
      rw [show (2 : Nat) ^ 31 = 2147483648 from by decide] at this
      omega
    rw [wf_nI_t l1]
    have q1 : (nI N ^^^ (-1)).toBitVec.toNat = 2 ^ 32 - (N + 1) := by
      show ((nI N).toBitVec ^^^ (-1 : Int32).toBitVec).toNat = _
      rw [show (-1 : Int32).toBitVec = BitVec.allOnes 32 from by decide, BitVec.xor_allOnes, BitVec.toNat_not, wf_nI_t hN]
      omega
    have q2 : (nI N - 1).toBitVec.toNat = N - 1 := by
      obtain ⟨n, rfl⟩ : ∃ n, N = n + 1 := ⟨N - 1, by omega⟩
      rw [nI_pred, wf_nI_t (by omega)]
      rfl
    show ((nI N ^^^ (-1)).toBitVec &&& (nI N - 1).toBitVec).toNat = _
    rw [BitVec.toNat_and, q1, q2]
    refine Nat.eq_of_testBit_eq (fun j => ?_)
    rw [Nat.testBit_and, Nat.testBit_two_pow_sub_succ (by rw [show (2 : Nat) ^ 32 = 4294967296 from by decide]; exact hN), e3, Nat.testBit_two_pow_mul_add _ (by omega), Nat.testBit_two_pow_sub_one]
    have e4 : N.testBit j = if j < t then false else (2 * k + 1).testBit (j - t) := by
      have := Nat.testBit_two_pow_mul_add (2 * k + 1) (show 0 < 2 ^ t from hp) j
      rw [Nat.add_zero, ← e] at this
      rw [this]
      simp
    rw [e4]
    by_cases h1 : j < t
    · simp [h1, show j < 32 by omega]
    · simp only [h1, if_false]
      rcases Nat.eq_zero_or_pos (j - t) with h3 | h3
      · rw [h3]
        simp [Nat.testBit_zero]
      · obtain ⟨i, hi⟩ : ∃ i, j - t = i + 1 := ⟨j - t - 1, by omega⟩
        rw [hi, Nat.testBit_succ, Nat.testBit_succ, show (2 * k + 1) / 2 = k by omega, show 2 * k / 2 = k by omega]
        cases k.testBit i <;> simp
