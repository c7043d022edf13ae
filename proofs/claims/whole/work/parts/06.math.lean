/-! ===== what the loops compute, as numbers ===== -/
/-- a register from which the top part t is taken: r = t * P + r', all of it times E, q below -/
theorem wf_top {r q E P T n : Nat} (hE : E * P = T) (hT : 0 < T) (hr : r < n * P) (hq : q < E) :
    (r * E + q) / T = r / P ∧ r / P < n ∧ r % P < P ∧ r = r / P * P + r % P ∧ r * E + q = r / P * T + (r % P * E + q) ∧ r % P * E + q < T := by
  have hP : 0 < P := by
    rcases Nat.eq_zero_or_pos P with h | h
    · rw [h, Nat.mul_zero] at hE; omega
    · exact h
  have h1 : r / P * P + r % P = r := Nat.div_add_mod' r P
  have h2 : r % P < P := Nat.mod_lt _ hP
  have h3 : r / P < n := (Nat.div_lt_iff_lt_mul hP).mpr hr
  have e1 : r * E = r / P * T + r % P * E := by
    have : (r / P * P + r % P) * E = r / P * T + r % P * E := by rw [Nat.add_mul, Nat.mul_assoc, Nat.mul_comm P E, hE]
    rw [h1] at this
    exact this
  have hs : r % P * E + q < T := by
    have h4 : (r % P + 1) * E ≤ P * E := Nat.mul_le_mul_right _ h2
    rw [Nat.mul_comm P E, hE, Nat.add_mul, Nat.one_mul] at h4
    omega
  have e2 : r * E + q = r / P * T + (r % P * E + q) := by rw [e1, Nat.add_assoc]
  refine ⟨?_, h3, h2, h1.symm, e2, hs⟩
  rw [e2, Nat.add_comm, Nat.add_mul_div_right _ _ hT, Nat.div_eq_of_lt hs, Nat.zero_add]
/-- long division: behind i of 128 steps -/
def wf_DI (a b i q left hl : Nat) : Prop := ∃ r, a = (q * b + left) * 2 ^ (128 - i) + r ∧ r < 2 ^ (128 - i) ∧ hl = r * 2 ^ i + q ∧ q < 2 ^ i ∧ left < b
theorem wf_DI_0 {a b : Nat} (ha : a < 2 ^ 128) (hb : 0 < b) : wf_DI a b 0 0 0 a := ⟨a, by simp, ha, by rw [Nat.pow_zero, Nat.mul_one, Nat.add_zero], by decide, hb⟩
theorem wf_DI_end {a b q left hl : Nat} (h : wf_DI a b 128 q left hl) : hl = a / b ∧ left = a % b := by
  obtain ⟨r, h1, h2, h3, h4, h5⟩ := h
  have hr : r = 0 := by
    have : r < 2 ^ (128 - 128) := h2
    rw [Nat.sub_self, Nat.pow_zero] at this
    omega
  subst hr
  rw [Nat.sub_self, Nat.pow_zero, Nat.mul_one, Nat.add_zero] at h1
  rw [Nat.zero_mul, Nat.zero_add] at h3
  subst h3
  have hb : 0 < b := by omega
  refine ⟨?_, ?_⟩
  · rw [h1, Nat.mul_comm, Nat.mul_add_div hb, Nat.div_eq_of_lt h5, Nat.add_zero]
  · rw [h1, Nat.mul_comm, Nat.mul_add_mod, Nat.mod_eq_of_lt h5]
theorem wf_DI_step {a b i q left hl : Nat} (hi : i < 128) (h : wf_DI a b i q left hl) :
    hl / 2 ^ 127 ≤ 1 ∧ hl < 2 ^ 128 ∧ left < b ∧
    (b ≤ 2 * left + hl / 2 ^ 127 → wf_DI a b (i + 1) (2 * q + 1) (2 * left + hl / 2 ^ 127 - b) (2 * hl % 2 ^ 128 + 1)) ∧
    (¬ b ≤ 2 * left + hl / 2 ^ 127 → wf_DI a b (i + 1) (2 * q) (2 * left + hl / 2 ^ 127) (2 * hl % 2 ^ 128)) := by
  obtain ⟨r, h1, h2, h3, h4, h5⟩ := h
  have hp : (2 : Nat) ^ (128 - i) = 2 * 2 ^ (127 - i) := by rw [show 128 - i = (127 - i) + 1 by omega, Nat.pow_succ, Nat.mul_comm]
  have hE : (2 : Nat) ^ i * 2 ^ (127 - i) = 2 ^ 127 := by rw [← Nat.pow_add, show i + (127 - i) = 127 by omega]
  have hE2 : (2 : Nat) ^ (i + 1) = 2 * 2 ^ i := by rw [Nat.pow_succ, Nat.mul_comm]
  have hs : 128 - (i + 1) = 127 - i := by omega
  rw [hp] at h1 h2
  obtain ⟨t1, t2, t3, t4, t5, t6⟩ := wf_top (n := 2) hE (Nat.two_pow_pos 127) h2 h4
  rw [← h3] at t1 t5
  rw [t1]
  generalize hPe : 2 ^ (127 - i) = P at *
  generalize 2 ^ i = E at *
  generalize r / P = t at *
  generalize r % P = r' at *
  have e1 : a = (2 * (q * b) + (2 * left + t)) * P + r' := by
    rw [h1, t4, Nat.mul_left_comm, Nat.add_mul, Nat.add_mul, Nat.add_mul, Nat.mul_assoc 2 (q * b) P, Nat.mul_assoc 2 left P]
    omega
  have e2 : r' * (2 * E) = 2 * (r' * E) := Nat.mul_left_comm _ _ _
  refine ⟨by omega, by omega, h5, fun hle => ⟨r', ?_, ?_, ?_, ?_, ?_⟩, fun hle => ⟨r', ?_, ?_, ?_, ?_, ?_⟩⟩
  · rw [hs, hPe, Nat.add_mul (2 * q) 1 b, Nat.mul_assoc 2 q b, Nat.one_mul, show 2 * (q * b) + b + (2 * left + t - b) = 2 * (q * b) + (2 * left + t) by omega]
    exact e1
  · rw [hs, hPe]; exact t3
  · rw [hE2, e2]; omega
  · rw [hE2]; omega
  · omega
  · rw [hs, hPe, Nat.mul_assoc 2 q b]
    exact e1
  · rw [hs, hPe]; exact t3
  · rw [hE2, e2]; omega
  · rw [hE2]; omega
  · omega
/-- the root: behind i of 64 steps -/
def wf_RI (a i f left hl : Nat) : Prop := ∃ r, a = (f * f + left) * 4 ^ (64 - i) + r ∧ r < 4 ^ (64 - i) ∧ hl = r * 4 ^ i ∧ left ≤ 2 * f ∧ f < 2 ^ i
theorem wf_RI_0 {a : Nat} (ha : a < 2 ^ 128) : wf_RI a 0 0 0 a := ⟨a, by simp, by rw [show (4 : Nat) ^ (64 - 0) = 2 ^ 128 by decide]; exact ha, by rw [Nat.pow_zero, Nat.mul_one], by decide, by decide⟩
theorem wf_RI_end {a f left hl : Nat} (h : wf_RI a 64 f left hl) : a = f * f + left ∧ left ≤ 2 * f ∧ f < 2 ^ 64 := by
  obtain ⟨r, h1, h2, h3, h4, h5⟩ := h
  have hr : r = 0 := by
    rw [Nat.sub_self, Nat.pow_zero] at h2
    omega
  subst hr
  rw [Nat.sub_self, Nat.pow_zero, Nat.mul_one, Nat.add_zero] at h1
  exact ⟨h1, h4, h5⟩
theorem wf_sq (f : Nat) : (2 * f) * (2 * f) = 4 * (f * f) ∧ (2 * f + 1) * (2 * f + 1) = 4 * (f * f) + 4 * f + 1 := by
  have h : (2 * f) * (2 * f) = 4 * (f * f) := by rw [Nat.mul_mul_mul_comm]
  refine ⟨h, ?_⟩
  rw [Nat.add_mul, Nat.mul_add, h]
  omega
theorem wf_RI_step {a i f left hl : Nat} (hi : i < 64) (h : wf_RI a i f left hl) :
    hl / 2 ^ 126 ≤ 3 ∧ hl < 2 ^ 128 ∧ left ≤ 2 * f ∧ f < 2 ^ i ∧
    (4 * f + 1 ≤ 4 * left + hl / 2 ^ 126 → wf_RI a (i + 1) (2 * f + 1) (4 * left + hl / 2 ^ 126 - (4 * f + 1)) (4 * hl % 2 ^ 128)) ∧
    (¬ 4 * f + 1 ≤ 4 * left + hl / 2 ^ 126 → wf_RI a (i + 1) (2 * f) (4 * left + hl / 2 ^ 126) (4 * hl % 2 ^ 128)) := by
  obtain ⟨r, h1, h2, h3, h4, h5⟩ := h
  have hp : (4 : Nat) ^ (64 - i) = 4 * 4 ^ (63 - i) := by rw [show 64 - i = (63 - i) + 1 by omega, Nat.pow_succ, Nat.mul_comm]
  have hE : (4 : Nat) ^ i * 4 ^ (63 - i) = 2 ^ 126 := by rw [← Nat.pow_add, show i + (63 - i) = 63 by omega]
  have hE2 : (4 : Nat) ^ (i + 1) = 4 * 4 ^ i := by rw [Nat.pow_succ, Nat.mul_comm]
  have hF2 : (2 : Nat) ^ (i + 1) = 2 * 2 ^ i := by rw [Nat.pow_succ, Nat.mul_comm]
  have hs : 64 - (i + 1) = 63 - i := by omega
  have hE0 : 0 < (4 : Nat) ^ i := Nat.pow_pos (by decide)
  rw [hp] at h1 h2
  obtain ⟨t1, t2, t3, t4, t5, t6⟩ := wf_top (n := 4) (q := 0) hE (Nat.two_pow_pos 126) h2 hE0
  rw [Nat.add_zero, ← h3] at t1 t5
  rw [Nat.add_zero] at t5 t6
  rw [t1]
  obtain ⟨s1, s2⟩ := wf_sq f
  generalize hPe : 4 ^ (63 - i) = P at *
  generalize 4 ^ i = E at *
  generalize r / P = t at *
  generalize r % P = r' at *
  have e1 : a = (4 * (f * f) + (4 * left + t)) * P + r' := by
    rw [h1, t4, Nat.mul_left_comm, Nat.add_mul, Nat.add_mul, Nat.add_mul, Nat.mul_assoc 4 (f * f) P, Nat.mul_assoc 4 left P]
    omega
  have e2 : r' * (4 * E) = 4 * (r' * E) := Nat.mul_left_comm _ _ _
  refine ⟨by omega, by omega, h4, h5, fun hle => ⟨r', ?_, ?_, ?_, ?_, ?_⟩, fun hle => ⟨r', ?_, ?_, ?_, ?_, ?_⟩⟩
  · rw [hs, hPe, s2, show 4 * (f * f) + 4 * f + 1 + (4 * left + t - (4 * f + 1)) = 4 * (f * f) + (4 * left + t) by omega]
    exact e1
  · rw [hs, hPe]; exact t3
  · rw [hE2, e2]; omega
  · omega
  · rw [hF2]; omega
  · rw [hs, hPe, s1]
    exact e1
  · rw [hs, hPe]; exact t3
  · rw [hE2, e2]; omega
  · omega
  · rw [hF2]; omega
/-- the root is one number -/
theorem wf_root_one {a f g r t : Nat} (h1 : a = f * f + r) (h2 : r ≤ 2 * f) (h3 : a = g * g + t) (h4 : t ≤ 2 * g) : f = g ∧ r = t := by
  have key : ∀ x y u v : Nat, x * x + u = y * y + v → u ≤ 2 * x → v ≤ 2 * y → x ≤ y := by
    intro x y u v he hu hv
    rcases Nat.lt_or_ge y x with h | h
    · exfalso
      have h5 : (y + 1) * (y + 1) ≤ x * x := Nat.mul_le_mul h h
      rw [Nat.add_mul, Nat.mul_add] at h5
      omega
    · exact h
  have ha : f * f + r = g * g + t := h1.symm.trans h3
  have hfg : f = g := Nat.le_antisymm (key f g r t ha h2 h4) (key g f t r ha.symm h4 h2)
  subst hfg
  exact ⟨rfl, by omega⟩
/-- the decimal digits: how many, and which -/
def wf_DG (n c : Nat) (D : Nat → Nat) : Prop := 1 ≤ c ∧ n < 10 ^ c ∧ (c = 1 ∨ 10 ^ (c - 1) ≤ n) ∧ ∀ i, i < c → D i = n / 10 ^ (c - 1 - i) % 10
theorem wf_pow10 {a b : Nat} (h : a ≤ b) : 10 ^ a ≤ 10 ^ b := Nat.pow_le_pow_right (by decide) h
theorem wf_DG_one {n c d : Nat} {D E : Nat → Nat} (h1 : wf_DG n c D) (h2 : wf_DG n d E) : c = d ∧ ∀ i, i < c → D i = E i := by
  obtain ⟨a1, a2, a3, a4⟩ := h1
  obtain ⟨b1, b2, b3, b4⟩ := h2
  have key : ∀ x y : Nat, n < 10 ^ x → 1 ≤ x → (y = 1 ∨ 10 ^ (y - 1) ≤ n) → y ≤ x := by
    intro x y hx h1 hy
    rcases hy with hy | hy
    · omega
    · rcases Nat.lt_or_ge x y with h | h
      · exfalso
        have := wf_pow10 (show x ≤ y - 1 by omega)
        omega
      · exact h
  have hc : c = d := Nat.le_antisymm (key d c b2 b1 a3) (key c d a2 a1 b3)
  subst hc
  exact ⟨rfl, fun i hi => (a4 i hi).trans (b4 i hi).symm⟩
