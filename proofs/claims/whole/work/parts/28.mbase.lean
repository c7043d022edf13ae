/-! ===== the reference: indices, copies, registers ===== -/
theorem wf_ia {a b : Int32} {x y : Nat} (h1 : a = nI x) (h2 : b = nI y) : a + b = nI (x + y) := by rw [h1, h2, nI_add]
theorem wf_im {a b : Int32} {x y : Nat} (h1 : a = nI x) (h2 : b = nI y) : a * b = nI (x * y) := by rw [h1, h2]; exact (Int32.ofNat_mul x y).symm
theorem wf_is {a b : Int32} {x y : Nat} (h1 : a = nI x) (h2 : b = nI y) (h : y ≤ x) : a - b = nI (x - y) := by rw [h1, h2]; exact pk_sub h
theorem wf_deI {k : Nat} (h : 0 < k) : nI k + Int32.ofInt (-1) = nI (k - 1) := by
  obtain ⟨j, rfl⟩ : ∃ j, k = j + 1 := ⟨k - 1, by omega⟩
  rw [Nat.add_sub_cancel, ← nI_pred j, Int32.sub_eq_add_neg]
  rfl
theorem wf_cpy0 {α : Type} (f g : Nat → α) (s d : Nat) : va_cpy f g s d 0 = g := funext fun j => pk_cpy_out (by omega)
theorem wf_cpyS {α : Type} (f g : Nat → α) (s d n : Nat) : va_up (va_cpy f g s d n) (d + n) (f (s + n)) = va_cpy f g s d (n + 1) := by
  funext j
  by_cases h : j = d + n
  · subst h
    rw [va_up_self, pk_cpy_in (by omega) (by omega), Nat.add_sub_cancel_left]
  · rw [va_up_ne _ _ h]
    by_cases h2 : d ≤ j ∧ j < d + n
    · rw [pk_cpy_in h2.1 h2.2, pk_cpy_in h2.1 (by omega)]
    · rw [pk_cpy_out (by omega), pk_cpy_out (by omega)]
theorem wf_R_cpy (S B : Nat → Bool) (s r r' : Nat) : wf_R (va_cpy S B s (128 * r) 128) r' = if r' = r then wf_sm (fun k => S (s + k)) 128 else wf_R B r' := by
  unfold wf_R
  split
  · next h =>
    subst h
    exact wf_sm_congr (fun k hk => by rw [pk_cpy_in (by omega) (by omega), Nat.add_sub_cancel_left])
  · next h => exact wf_sm_congr (fun k hk => pk_cpy_out (by omega))
theorem wf_R_self (S B : Nat → Bool) (s r : Nat) : wf_R (va_cpy S B s (128 * r) 128) r = wf_sm (fun k => S (s + k)) 128 := by rw [wf_R_cpy, if_pos rfl]
theorem wf_R_else (S B : Nat → Bool) {s r r' : Nat} (h : r' ≠ r) : wf_R (va_cpy S B s (128 * r) 128) r' = wf_R B r' := by rw [wf_R_cpy, if_neg h]
theorem wf_R_upd (S B : Nat → Bool) (s r : Nat) (W : Nat → Nat) {N j : Nat} (hN : wf_sm (fun k => S (s + k)) 128 = N) (hW : wf_R B j = W j) : wf_R (va_cpy S B s (128 * r) 128) j = va_up W r N j := by
  by_cases h : j = r
  · subst h; rw [wf_R_self, va_up_self, hN]
  · rw [wf_R_else _ _ h, va_up_ne _ _ h, hW]
theorem wf_copy_S {u w : SM} {ra rb i : Nat} (hi : i < 128) (hI : w = (u.1, va_cpy u.2.1 u.2.1 (128 * ra) (128 * rb) i, u.2.2)) : (w.1, va_up w.2.1 (128 * rb + i) (w.2.1 (128 * ra + i)), w.2.2) = (u.1, va_cpy u.2.1 u.2.1 (128 * ra) (128 * rb) (i + 1), u.2.2) := by
  subst hI
  show (u.1, va_up (va_cpy u.2.1 u.2.1 (128 * ra) (128 * rb) i) (128 * rb + i) (va_cpy u.2.1 u.2.1 (128 * ra) (128 * rb) i (128 * ra + i)), u.2.2) = _
  rw [pk_cpy_out (j := 128 * ra + i) (by omega), wf_cpyS]
/-- not a register -/
def wf_no (i : Int32) : Bool := decide (i < 0) || decide (7 < i)
theorem wf_no_ok {r : Nat} (h : r < 8) : wf_no (nI r) = false := by
  unfold wf_no
  rw [decide_eq_false (nI_pos (by omega)), decide_eq_false (show ¬ (7 : Int32) < nI r from nI_nlt (a := 7) (by omega) (by decide))]
  rfl
theorem wf_no_is {i : Int32} (h : wf_no i = false) : ∃ r : Nat, r < 8 ∧ i = nI r := by
  unfold wf_no at h
  obtain ⟨h1, h2⟩ := Bool.or_eq_false_iff.mp h
  obtain ⟨j, h3, h4⟩ := nI_of2 (x := i) (M := 7) (n := 7) (by decide) (of_decide_eq_false h1) (Int32.not_lt.mp (of_decide_eq_false h2))
  exact ⟨j, by omega, h4⟩
/-- what a method of the reference leaves: its code, the eight registers; the digits as they were -/
def wf_mW (u v : SM) (c : Int32) (W : Nat → Nat) : Prop := v.1 = c ∧ (∀ j, j < 8 → wf_R v.2.1 j = W j) ∧ v.2.2.2.2.2 = u.2.2.2.2.2
/-- a shift by one place upwards in a row of n -/
def wf_sh (F : Nat → Bool) (n i : Nat) : Nat → Bool := fun j => if n - i < j ∧ j ≤ n then F (j - 1) else F j
theorem wf_sh0 (F : Nat → Bool) (n : Nat) : wf_sh F n 0 = F := funext fun j => if_neg (by omega)
theorem wf_shS (F : Nat → Bool) {n i : Nat} (hi : i < n) : va_up (wf_sh F n i) (n - i) (wf_sh F n i (n - i - 1)) = wf_sh F n (i + 1) := by
  funext j
  have h0 : wf_sh F n i (n - i - 1) = F (n - i - 1) := if_neg (by omega)
  rw [h0]
  by_cases h : j = n - i
  · subst h
    rw [va_up_self]
    exact (if_pos (by omega)).symm
  · rw [va_up_ne _ _ h]
    unfold wf_sh
    by_cases h2 : n - i < j ∧ j ≤ n
    · rw [if_pos h2, if_pos (by omega)]
    · rw [if_neg h2, if_neg (by omega)]
theorem wf_sh_end (F : Nat → Bool) (n : Nat) (b : Bool) : wf_sm (va_up (wf_sh F n n) 0 b) (n + 1) = b.toNat + 2 * wf_sm F n := by
  rw [wf_sm_cons, va_up_self]
  congr 2
  refine wf_sm_congr (fun k hk => ?_)
  rw [va_up_ne _ _ (by omega)]
  exact if_pos (by omega)
/-- what takeAway takes away: a register, or 4 times the answer and 1 -/
def wf_lw (B : Nat → Bool) (r : Nat) : Nat → Bool := fun k => decide (k < 128) && B (128 * r + k)
def wf_lr (A : Nat → Bool) : Nat → Bool := fun k => decide (k = 0) || (decide (1 < k) && A (k - 2))
theorem wf_lw_sm (B : Nat → Bool) (r : Nat) {n : Nat} (h : 128 ≤ n) : wf_sm (wf_lw B r) n = wf_R B r := by
  rw [wf_sm_ext h (fun k h1 _ => by unfold wf_lw; rw [decide_eq_false (by omega)]; rfl)]
  exact wf_sm_congr (fun k hk => by unfold wf_lw; rw [decide_eq_true hk]; rfl)
theorem wf_lr_sm (A : Nat → Bool) : wf_sm (wf_lr A) 130 = 4 * wf_sm A 128 + 1 := by
  rw [wf_sm_cons, wf_sm_cons]
  have h : wf_sm (fun i => wf_lr A (i + 1 + 1)) 128 = wf_sm A 128 := wf_sm_congr (fun k hk => by
    unfold wf_lr
    rw [decide_eq_false (show ¬ k + 1 + 1 = 0 by omega), decide_eq_true (show 1 < k + 1 + 1 by omega), Nat.add_sub_cancel (k) 2]; rfl)
  rw [h]
  show 1 + 2 * (0 + 2 * _) = _
  omega
theorem wf_take_S {B P : Nat → Bool} {b d i : Nat} {B' : Nat → Bool} (h : B' = va_cpy P B b d i) : va_up B' (d + i) (P (b + i)) = va_cpy P B b d (i + 1) := by rw [h, wf_cpyS]
/-- comparing upwards: what fits -/
def wf_FI (L r : Nat → Bool) (i : Nat) (b : Bool) : Prop := b = decide (wf_sm L i ≤ wf_sm r i)
theorem wf_FI_0 (L r : Nat → Bool) : wf_FI L r 0 true := rfl
theorem wf_FI_S {L r : Nat → Bool} {i : Nat} {b : Bool} (h : wf_FI L r i b) : wf_FI L r (i + 1) (if r i = L i then b else r i) := by
  unfold wf_FI at h ⊢
  subst h
  rw [wf_smS, wf_smS]
  have hL := wf_sm_lt L i
  have hr := wf_sm_lt r i
  by_cases e : r i = L i
  · rw [if_pos e, e]
    exact decide_eq_decide.mpr (by omega)
  · rw [if_neg e]
    cases h1 : r i <;> cases h2 : L i
    · exact absurd (h1.trans h2.symm) e
    · refine (decide_eq_false ?_).symm
      simp only [Bool.toNat_false, Bool.toNat_true]; omega
    · refine (decide_eq_true ?_).symm
      simp only [Bool.toNat_false, Bool.toNat_true]; omega
    · exact absurd (h1.trans h2.symm) e
/-- subtracting upwards in a row of 130 -/
def wf_TI2 (L r r' : Nat → Bool) (i : Nat) (c : Bool) : Prop := (∀ j, i ≤ j → r' j = r j) ∧ wf_sm r' i + wf_sm L i = wf_sm r i + c.toNat * 2 ^ i
theorem wf_TI2_0 (L r : Nat → Bool) : wf_TI2 L r r 0 false := ⟨fun _ _ => rfl, rfl⟩
theorem wf_TI2_S {L r r' : Nat → Bool} {i : Nat} {x y c : Bool} (h : wf_TI2 L r r' i c) (ex : x = r' i) (ey : y = L i) : wf_TI2 L r (va_up r' i ((x != y) != c)) (i + 1) (!x && (y || c) || y && c) := by
  obtain ⟨h1, h2⟩ := h
  refine ⟨fun j hj => ?_, ?_⟩
  · rw [va_up_ne _ _ (by omega)]; exact h1 j (by omega)
  · have e := wf_sm_push r' 0 i ((x != y) != c)
    simp only [Nat.zero_add] at e
    rw [e, wf_smS L, wf_smS r, ← h1 i (Nat.le_refl i), ← ex, ← ey, Nat.pow_succ]
    exact wf_sub_step h2 (wf_fs x y c)
theorem wf_TI2_end {L r r' : Nat → Bool} {n : Nat} {c : Bool} (hn : 0 < n) (h : wf_TI2 L r r' n c) (hle : wf_sm L n ≤ wf_sm r n) : wf_sm r' n = wf_sm r n - wf_sm L n := by
  obtain ⟨-, h2⟩ := h
  have h3 := wf_sm_lt r' n
  cases c
  · simp only [Bool.toNat_false] at h2; omega
  · simp only [Bool.toNat_true] at h2; omega
/-- adding and subtracting registers 8 and 9 in place -/
def wf_JI (B B' : Nat → Bool) (i : Nat) : Prop := ∀ j, (j < 1024 ∨ 1024 + i ≤ j) → B' j = B j
def wf_JA (B B' : Nat → Bool) (i : Nat) (c : Bool) : Prop := wf_JI B B' i ∧ wf_sm (fun k => B' (1024 + k)) i + c.toNat * 2 ^ i = wf_sm (fun k => B (1024 + k)) i + wf_sm (fun k => B (1152 + k)) i
def wf_JS (B B' : Nat → Bool) (i : Nat) (c : Bool) : Prop := wf_JI B B' i ∧ wf_sm (fun k => B' (1024 + k)) i + wf_sm (fun k => B (1152 + k)) i = wf_sm (fun k => B (1024 + k)) i + c.toNat * 2 ^ i
theorem wf_JI_S {B B' : Nat → Bool} {i : Nat} (d : Bool) (h : wf_JI B B' i) : wf_JI B (va_up B' (1024 + i) d) (i + 1) := fun j hj => by
  rw [va_up_ne _ _ (by omega)]
  exact h j (by omega)
theorem wf_JA_S {B B' : Nat → Bool} {i : Nat} {a b c : Bool} (hi : i < 128) (h : wf_JA B B' i c) (ea : a = B' (1024 + i)) (eb : b = B' (1152 + i)) : wf_JA B (va_up B' (1024 + i) ((a != b) != c)) (i + 1) (a && b || a && c || b && c) := by
  obtain ⟨h1, h2⟩ := h
  refine ⟨wf_JI_S _ h1, ?_⟩
  rw [wf_sm_push B' 1024 i, wf_smS, wf_smS, ← h1 (1024 + i) (by omega), ← h1 (1152 + i) (by omega), ← ea, ← eb, Nat.pow_succ]
  exact wf_add_step h2 (wf_fa a b c)
theorem wf_JS_S {B B' : Nat → Bool} {i : Nat} {a b c : Bool} (hi : i < 128) (h : wf_JS B B' i c) (ea : a = B' (1024 + i)) (eb : b = B' (1152 + i)) : wf_JS B (va_up B' (1024 + i) ((a != b) != c)) (i + 1) (!a && (b || c) || b && c) := by
  obtain ⟨h1, h2⟩ := h
  refine ⟨wf_JI_S _ h1, ?_⟩
  rw [wf_sm_push B' 1024 i, wf_smS, wf_smS, ← h1 (1024 + i) (by omega), ← h1 (1152 + i) (by omega), ← ea, ← eb, Nat.pow_succ]
  exact wf_sub_step h2 (wf_fs a b c)
theorem wf_modof {S T N c : Nat} (h : S + c * N = T) (hS : S < N) : T % N = S := by rw [← h, Nat.add_mul_mod_self_right, Nat.mod_eq_of_lt hS]
theorem wf_JA_end {B B' : Nat → Bool} {c : Bool} (h : wf_JA B B' 128 c) : (∀ r, r < 8 → wf_R B' r = wf_R B r) ∧ c = decide (wf_NN ≤ wf_R B 8 + wf_R B 9) ∧ wf_R B' 8 = (wf_R B 8 + wf_R B 9) % wf_NN := by
  obtain ⟨h1, h2⟩ := h
  have h2 : wf_R B' 8 + c.toNat * 2 ^ 128 = wf_R B 8 + wf_R B 9 := h2
  rw [wf_p128] at h2
  have h3 := wf_R_lt B' 8
  refine ⟨fun r hr => wf_sm_congr (fun k hk => h1 _ (Or.inl (by omega))), ?_, ?_⟩
  · cases c
    · simp only [Bool.toNat_false] at h2
      refine (decide_eq_false ?_).symm
      show ¬ 340282366920938463463374607431768211456 ≤ _
      omega
    · simp only [Bool.toNat_true] at h2
      refine (decide_eq_true ?_).symm
      show 340282366920938463463374607431768211456 ≤ _
      omega
  · exact (wf_modof h2 h3).symm
theorem wf_JS_end {B B' : Nat → Bool} {c : Bool} (h : wf_JS B B' 128 c) : (∀ r, r < 8 → wf_R B' r = wf_R B r) ∧ c = decide (wf_R B 8 < wf_R B 9) ∧ wf_R B' 8 = (wf_R B 8 + wf_NN - wf_R B 9) % wf_NN := by
  obtain ⟨h1, h2⟩ := h
  have h2 : wf_R B' 8 + wf_R B 9 = wf_R B 8 + c.toNat * 2 ^ 128 := h2
  rw [wf_p128] at h2
  have h3 := wf_R_lt B' 8
  have h4 := wf_R_lt B 9
  have h5 := wf_R_lt B 8
  refine ⟨fun r hr => wf_sm_congr (fun k hk => h1 _ (Or.inl (by omega))), ?_, ?_⟩
  · cases c
    · simp only [Bool.toNat_false] at h2
      exact (decide_eq_false (by omega)).symm
    · simp only [Bool.toNat_true] at h2
      exact (decide_eq_true (by omega)).symm
  · show _ = (_ + 340282366920938463463374607431768211456 - _) % 340282366920938463463374607431768211456
    cases c
    · simp only [Bool.toNat_false] at h2; omega
    · simp only [Bool.toNat_true] at h2; omega
