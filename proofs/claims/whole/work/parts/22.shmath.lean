/-! ===== shifts of 128 bits, as numbers ===== -/
section WCW
variable {p : Program} {l : Launch} {e : Env} {R : Room} {s : State} {m : MethodId} {args : Array Value} {below : List Frame} {meth : Method} {c : Code} {H : Heap} {locs : List Loc} {cells slots : Nat} {Q : State → Prop} {D : va_G} {cl : List vw_C} {A : Nat → Prop} {H0 : Heap}
/-- branches meet with another world -/
theorem wf_cutW {σ : Type} {pc pcj : Nat} {ls ls' : Array Slot} {st0 : List Value} (P : σ → Prop) (mk : σ → va_W) (k : ∀ (x : σ) (H : Heap) (locs : List Loc), P x → va_P D cl (mk x) H → va_D A (mk x) → va_S A H0 H locs → W p l e R s m args below meth c H locs cells slots Q (F0 m pcj ls [])) (g : (∀ (x : σ) (H : Heap) (locs : List Loc), P x → va_P D cl (mk x) H → va_D A (mk x) → va_S A H0 H locs → W p l e R s m args below meth c H locs cells slots Q (F0 m pcj ls [])) → W p l e R s m args below meth c H locs cells slots Q (F0 m pc ls' st0)) : W p l e R s m args below meth c H locs cells slots Q (F0 m pc ls' st0) := g k
end WCW
theorem wf_LZ64_hi {x : Int64} {z : Nat} (h0 : ¬ nI (uN x / 4294967296) = 0) (hz : wf_LZ 32 (uN x / 4294967296) z) : wf_LZ 64 (uN x) z := by
  have hx := uN_lt x
  have h := wf_LZ_hi (w := 32) (h := uN x / 4294967296) (l := uN x % 4294967296) (by omega) (fun h => h0 (by rw [h]; rfl)) hz
  rw [show uN x / 4294967296 * 2 ^ 32 + uN x % 4294967296 = uN x by omega] at h
  exact h
theorem wf_32z {x : Int64} (h0 : nI (uN x / 4294967296) = 0) : uN x / 4294967296 = 0 := by
  have hx := uN_lt x
  rcases Nat.eq_zero_or_pos (uN x / 4294967296) with h | h
  · exact h
  · exact absurd h0 (wf_nI_n0 h (by omega))
theorem wf_LZ64_lo {x : Int64} {z : Nat} (h0 : nI (uN x / 4294967296) = 0) (hz : wf_LZ 32 (uN x % 4294967296) z) : wf_LZ 64 (uN x) (32 + z) := by
  have h1 := wf_32z h0
  have h := wf_LZ_lo (w := 32) hz
  rw [show uN x % 4294967296 = uN x by omega] at h
  exact h
theorem wf_32l {x : Int64} (h0 : nI (uN x % 4294967296) = 0) : uN x % 4294967296 = 0 := by
  rcases Nat.eq_zero_or_pos (uN x % 4294967296) with h | h
  · exact h
  · exact absurd h0 (wf_nI_n0 h (by omega))
theorem wf_TZ64_lo {x : Int64} {t : Nat} (h0 : ¬ nI (uN x % 4294967296) = 0) (ht : wf_TZ 32 (uN x % 4294967296) t) : wf_TZ 64 (uN x) t := by
  have h := wf_TZ_lo (w := 32) (h := uN x / 4294967296) (l := uN x % 4294967296) (fun h => h0 (by rw [h]; rfl)) ht
  rw [show uN x / 4294967296 * 2 ^ 32 + uN x % 4294967296 = uN x by omega] at h
  exact h
theorem wf_TZ64_hi {x : Int64} {t : Nat} (h0 : nI (uN x % 4294967296) = 0) (ht : wf_TZ 32 (uN x / 4294967296) t) : wf_TZ 64 (uN x) (32 + t) := by
  have h1 := wf_32l h0
  have h := wf_TZ_hi (w := 32) ht
  rw [show uN x / 4294967296 * 2 ^ 32 = uN x by omega] at h
  exact h
theorem wf_LZ128_hi {h l : Int64} {z : Nat} (h0 : ¬ uN h = 0) (hz : wf_LZ 64 (uN h) z) : wf_LZ 128 (wf_V h l) z := wf_LZ_hi (w := 64) (uN_lt l) h0 hz
theorem wf_V_z {h l : Int64} (h0 : uN h = 0) : wf_V h l = uN l := by show uN h * _ + _ = _; rw [h0, Nat.zero_mul, Nat.zero_add]
theorem wf_LZ128_lo {h l : Int64} {z : Nat} (h0 : uN h = 0) (hz : wf_LZ 64 (uN l) z) : wf_LZ 128 (wf_V h l) (64 + z) := by
  rw [wf_V_z h0]
  exact wf_LZ_lo (w := 64) hz
theorem wf_TZ128_lo {h l : Int64} {t : Nat} (h0 : ¬ uN l = 0) (ht : wf_TZ 64 (uN l) t) : wf_TZ 128 (wf_V h l) t := wf_TZ_lo (w := 64) h0 ht
theorem wf_TZ128_hi {h l : Int64} {t : Nat} (h0 : uN l = 0) (ht : wf_TZ 64 (uN h) t) : wf_TZ 128 (wf_V h l) (64 + t) := by
  have e : wf_V h l = uN h * 2 ^ 64 := by show uN h * _ + uN l = _; rw [h0, Nat.add_zero]
  rw [e]
  exact wf_TZ_hi (w := 64) ht
/-- whether a shift loses something -/
theorem wf_up_lost {V n z : Nat} (hz : wf_LZ 128 V z) : (V ≠ 0 ∧ z < n) ↔ wf_NN ≤ V * 2 ^ n := by
  have e : wf_NN = 2 ^ 128 := wf_p128.symm
  rw [e]
  rcases hz with ⟨a, b⟩ | ⟨a, b, c⟩
  · subst a
    rw [Nat.zero_mul]
    have := Nat.two_pow_pos 128
    exact ⟨fun h => absurd rfl h.1, fun h => absurd h (Nat.not_le.mpr this)⟩
  · constructor
    · intro h
      have h1 : 2 ^ (128 - 1 - z) * 2 ^ n ≤ V * 2 ^ n := Nat.mul_le_mul_right _ b
      rw [← Nat.pow_add] at h1
      exact Nat.le_trans (wf_pw (by omega)) h1
    · intro h
      refine ⟨fun h0 => ?_, ?_⟩
      · have := Nat.two_pow_pos (128 - 1 - z)
        rw [h0] at b
        omega
      · rcases Nat.lt_or_ge z n with h1 | h1
        · exact h1
        · exfalso
          have h2 : V * 2 ^ n < 2 ^ (128 - z) * 2 ^ n := Nat.mul_lt_mul_of_pos_right c (Nat.two_pow_pos n)
          rw [← Nat.pow_add] at h2
          exact absurd (Nat.lt_of_lt_of_le h2 (wf_pw (show 128 - z + n ≤ 128 by omega))) (Nat.not_lt.mpr h)
theorem wf_dn_lost {V n t : Nat} (hV : V < wf_NN) (ht : wf_TZ 128 V t) : (V ≠ 0 ∧ t < n) ↔ V % 2 ^ n ≠ 0 := by
  rcases ht with ⟨a, b⟩ | ⟨a, b⟩
  · subst a
    rw [Nat.zero_mod]
    exact ⟨fun h => h.1, fun h => absurd rfl h⟩
  · have hp := Nat.two_pow_pos t
    constructor
    · intro h h0
      have h1 : V % 2 ^ n % 2 ^ (t + 1) = V % 2 ^ (t + 1) := Nat.mod_mod_of_dvd V (Nat.pow_dvd_pow 2 (by omega))
      rw [h0, Nat.zero_mod, b] at h1
      omega
    · intro h
      refine ⟨fun h0 => h (by rw [h0, Nat.zero_mod]), ?_⟩
      rcases Nat.lt_or_ge t n with h1 | h1
      · exact h1
      · exfalso
        refine h ?_
        have h2 : V % 2 ^ (t + 1) % 2 ^ n = V % 2 ^ n := Nat.mod_mod_of_dvd V (Nat.pow_dvd_pow 2 (by omega))
        rw [b] at h2
        rw [← h2]
        exact Nat.mod_eq_zero_of_dvd (Nat.pow_dvd_pow 2 h1)
/-- what a shift leaves -/
theorem wf_up_far {V n : Nat} (h : 128 ≤ n) : V * 2 ^ n % wf_NN = 0 := by
  rw [show wf_NN = 2 ^ 128 from wf_p128.symm, show (2 : Nat) ^ n = 2 ^ (n - 128) * 2 ^ 128 by rw [← Nat.pow_add]; congr 1; omega, ← Nat.mul_assoc]
  exact Nat.mul_mod_left _ _
theorem wf_up_mid {h l k : Nat} : (h * wf_N + l) * 2 ^ (k + 64) % wf_NN = l * 2 ^ k % wf_N * wf_N := by
  have e : (2 : Nat) ^ 64 = wf_N := by decide
  rw [Nat.pow_add, e, ← Nat.mul_assoc, show wf_NN = wf_N * wf_N from by decide, Nat.mul_mod_mul_right, Nat.add_mul, Nat.mul_right_comm h wf_N, Nat.mul_comm (h * 2 ^ k) wf_N, Nat.mul_add_mod]
theorem wf_up_low {h l k : Nat} (hk : k ≤ 64) (hl : l < wf_N) : (h * wf_N + l) * 2 ^ k % wf_NN = (h * 2 ^ k % wf_N + l / 2 ^ (64 - k)) * wf_N + l * 2 ^ k % wf_N := by
  have e : wf_N = 2 ^ (64 - k) * 2 ^ k := by rw [← Nat.pow_add, Nat.sub_add_cancel hk]
  have hp := Nat.two_pow_pos k
  have hq := Nat.two_pow_pos (64 - k)
  -- l = a * 2^(64-k) + b
  have hl1 : l / 2 ^ (64 - k) * 2 ^ (64 - k) + l % 2 ^ (64 - k) = l := Nat.div_add_mod' l _
  have hl2 : l % 2 ^ (64 - k) < 2 ^ (64 - k) := Nat.mod_lt _ hq
  have hl3 : l / 2 ^ (64 - k) < 2 ^ k := by
    refine (Nat.div_lt_iff_lt_mul hq).mpr ?_
    rw [Nat.mul_comm, ← e]
    exact hl
  have m1 : l * 2 ^ k = l / 2 ^ (64 - k) * wf_N + l % 2 ^ (64 - k) * 2 ^ k := by
    have : (l / 2 ^ (64 - k) * 2 ^ (64 - k) + l % 2 ^ (64 - k)) * 2 ^ k = l / 2 ^ (64 - k) * wf_N + l % 2 ^ (64 - k) * 2 ^ k := by rw [Nat.add_mul, Nat.mul_assoc, ← e]
    rw [hl1] at this
    exact this
  have m2 : l % 2 ^ (64 - k) * 2 ^ k < wf_N := by rw [e]; exact Nat.mul_lt_mul_of_pos_right hl2 hp
  have m3 : l * 2 ^ k % wf_N = l % 2 ^ (64 - k) * 2 ^ k := by rw [m1, Nat.mul_comm _ wf_N, Nat.mul_add_mod, Nat.mod_eq_of_lt m2]
  have m4 : h * 2 ^ k % wf_N = (h % 2 ^ (64 - k)) * 2 ^ k := by rw [e, Nat.mul_mod_mul_right]
  have m5 : h % 2 ^ (64 - k) < 2 ^ (64 - k) := Nat.mod_lt _ hq
  have m6 : (h % 2 ^ (64 - k) + 1) * 2 ^ k ≤ wf_N := by rw [e]; exact Nat.mul_le_mul_right _ m5
  rw [Nat.add_mul, Nat.one_mul, ← m4] at m6
  have m7 : h * 2 ^ k / wf_N * wf_N + h * 2 ^ k % wf_N = h * 2 ^ k := Nat.div_add_mod' _ _
  have m8 : l * 2 ^ k % wf_N < wf_N := by rw [m3]; exact m2
  have m1' : l * 2 ^ k = l / 2 ^ (64 - k) * wf_N + l * 2 ^ k % wf_N := by rw [m3]; exact m1
  rw [Nat.add_mul, Nat.mul_right_comm h wf_N]
  clear m1 m2 m3 m4 m5 hl1 hl2 e
  revert hl3 m6 m7 m8 m1'
  generalize l / 2 ^ (64 - k) = y
  generalize l * 2 ^ k = LL
  generalize LL % wf_N = w
  generalize h * 2 ^ k = HH
  generalize HH / wf_N = t
  generalize HH % wf_N = x
  intro hl3 m6 m7 m8 m1'
  subst m1' m7
  have m9 : (t * wf_N + x) * wf_N + (y * wf_N + w) = wf_NN * t + ((x + y) * wf_N + w) := by
    rw [show wf_NN = wf_N * wf_N from by decide, Nat.add_mul, Nat.mul_right_comm t, Nat.add_mul, Nat.mul_comm (t * wf_N) wf_N, Nat.mul_comm t wf_N, ← Nat.mul_assoc]
    omega
  rw [m9, Nat.mul_add_mod]
  refine Nat.mod_eq_of_lt ?_
  have hxy : x + y + 1 ≤ wf_N := by omega
  have h10 : (x + y + 1) * wf_N ≤ wf_N * wf_N := Nat.mul_le_mul_right _ hxy
  rw [Nat.add_mul, Nat.one_mul] at h10
  rw [show wf_NN = wf_N * wf_N from by decide]
  omega
theorem wf_down_far {V n : Nat} (hV : V < wf_NN) (h : 128 ≤ n) : V / 2 ^ n = 0 := Nat.div_eq_of_lt (Nat.lt_of_lt_of_le hV (by rw [show wf_NN = 2 ^ 128 from wf_p128.symm]; exact wf_pw h))
theorem wf_down_mid {h l k : Nat} (hl : l < wf_N) : (h * wf_N + l) / 2 ^ (k + 64) = h / 2 ^ k := by
  have e : (2 : Nat) ^ 64 = wf_N := by decide
  rw [Nat.add_comm k 64, Nat.pow_add, e, ← Nat.div_div_eq_div_mul, Nat.mul_comm, Nat.mul_add_div (by decide), Nat.div_eq_of_lt hl, Nat.add_zero]
theorem wf_down_low {h l k : Nat} (hk : k ≤ 64) : (h * wf_N + l) / 2 ^ k = h / 2 ^ k * wf_N + (h * 2 ^ (64 - k) % wf_N + l / 2 ^ k) := by
  have e : wf_N = 2 ^ k * 2 ^ (64 - k) := by rw [← Nat.pow_add, Nat.add_sub_cancel' hk]
  have hp := Nat.two_pow_pos k
  have hh : h / 2 ^ k * 2 ^ k + h % 2 ^ k = h := Nat.div_add_mod' h _
  have m1 : h * wf_N = 2 ^ k * (h * 2 ^ (64 - k)) := by rw [e, Nat.mul_left_comm]
  have m2 : h * 2 ^ (64 - k) % wf_N = (h % 2 ^ k) * 2 ^ (64 - k) := by rw [e, Nat.mul_mod_mul_right]
  have m3 : h * 2 ^ (64 - k) = h / 2 ^ k * wf_N + (h % 2 ^ k) * 2 ^ (64 - k) := by
    have : (h / 2 ^ k * 2 ^ k + h % 2 ^ k) * 2 ^ (64 - k) = h / 2 ^ k * wf_N + (h % 2 ^ k) * 2 ^ (64 - k) := by rw [Nat.add_mul, Nat.mul_assoc, ← e]
    rw [hh] at this
    exact this
  rw [m1, Nat.mul_add_div hp, m2, m3, Nat.add_assoc]
