/-! ===== the reference's loops over bits, as numbers ===== -/
theorem wf_sm_cons (f : Nat → Bool) (n : Nat) : wf_sm f (n + 1) = (f 0).toNat + 2 * wf_sm (fun i => f (i + 1)) n := by
  rw [Nat.add_comm n 1, wf_sm_add, wf_smS, wf_sm0, Nat.pow_zero, Nat.mul_one, Nat.zero_add, Nat.pow_one]
  congr 2
  exact wf_sm_congr (fun k _ => by rw [Nat.add_comm])
/-- bits that are false from n on add nothing -/
theorem wf_sm_ext {f : Nat → Bool} {n m : Nat} (hnm : n ≤ m) (h : ∀ k, n ≤ k → k < m → f k = false) : wf_sm f m = wf_sm f n := by
  obtain ⟨d, rfl⟩ : ∃ d, m = n + d := ⟨m - n, by omega⟩
  rw [wf_sm_add, show wf_sm (fun k => f (n + k)) d = 0 from ?_, Nat.mul_zero, Nat.add_zero]
  rw [← wf_sm_z (n := d)]
  exact wf_sm_congr (fun k hk => h (n + k) (by omega) (by omega))
theorem wf_sm_eq0 {f : Nat → Bool} {n : Nat} : wf_sm f n = 0 ↔ ∀ k, k < n → f k = false := by
  constructor
  · intro h k hk
    exact wf_sm_inj (g := fun _ => false) (h.trans wf_sm_z.symm) hk
  · intro h
    rw [← wf_sm_z (n := n)]
    exact wf_sm_congr h
/-- compared from the lowest bit up -/
theorem wf_cmp_step {X Y P : Nat} {x y : Bool} (hX : X < P) (hY : Y < P) :
    (x = y → (X + x.toNat * P < Y + y.toNat * P ↔ X < Y) ∧ (X + x.toNat * P = Y + y.toNat * P ↔ X = Y)) ∧ (x = true → y = false → Y + y.toNat * P < X + x.toNat * P) ∧ (x = false → y = true → X + x.toNat * P < Y + y.toNat * P) := by
  refine ⟨fun h => ?_, fun h1 h2 => ?_, fun h1 h2 => ?_⟩
  · subst h
    constructor <;> constructor <;> intros <;> omega
  · subst h1 h2
    simp only [Bool.toNat_false, Bool.toNat_true]
    omega
  · subst h1 h2
    simp only [Bool.toNat_false, Bool.toNat_true]
    omega
/-- a register read by its halves -/
theorem wf_R_halves (B : Nat → Bool) (r : Nat) : wf_R B r = wf_sm (fun k => B (128 * r + k)) 64 + 18446744073709551616 * wf_sm (fun k => B (128 * r + 64 + k)) 64 := by
  unfold wf_R
  rw [show (128 : Nat) = 64 + 64 from rfl, wf_sm_add]
  congr 2
theorem wf_V_one {h l : Int64} {x y : Nat} (hx : x < 18446744073709551616) (hy : y < 18446744073709551616) (e : wf_V h l = y + 18446744073709551616 * x) : uN h = x ∧ uN l = y := by
  have h1 := uN_lt h
  have h2 := uN_lt l
  unfold wf_V at e
  omega
/-- bit k of a long, by an arithmetic shift -/
theorem wf_sar (x : Int64) {k : Nat} (hk : k < 64) : (x >>> ((nI k).toInt64 &&& 63)) &&& 1 = 1 ↔ uN x / 2 ^ k % 2 = 1 := by
  have h1 : uN ((x >>> ((nI k).toInt64 &&& 63)) &&& 1) = uN x / 2 ^ k % 2 := by
    rw [uN_and', show uN (1 : Int64) = 1 from by decide, Nat.and_one_is_mod]
    have h2 : uN (x >>> ((nI k).toInt64 &&& 63)) = (x.toBitVec.sshiftRight k).toNat := by
      show (x.toBitVec.sshiftRight (((nI k).toInt64 &&& 63).toBitVec.smod 64).toNat).toNat = _
      rw [wf_cnt k hk]
    have h3 : (x.toBitVec.sshiftRight k).getLsbD 0 = x.toBitVec.getLsbD k := by
      rw [BitVec.getLsbD_sshiftRight]
      simp [hk]
    rw [h2]
    have h4 : ∀ n : Nat, n % 2 = (n.testBit 0).toNat := fun n => by rw [Nat.toNat_testBit, Nat.pow_zero, Nat.div_one]
    rw [h4]
    show ((x.toBitVec.sshiftRight k).getLsbD 0).toNat = _
    rw [h3]
    exact Nat.toNat_testBit _ _
  constructor
  · intro h
    rw [← h1, h]
    decide
  · intro h
    refine uN_inj ?_
    rw [h1, h]
    decide
