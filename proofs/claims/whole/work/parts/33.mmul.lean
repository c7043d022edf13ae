/-! ===== the reference's product, quotient and root, as numbers ===== -/
def wf_PI (L P P' : Nat → Bool) (j k : Nat) (c : Bool) : Prop := (∀ t, (t < j ∨ j + k ≤ t) → P' t = P t) ∧ wf_sm (fun t => P' (j + t)) k + c.toNat * 2 ^ k = wf_sm (fun t => P (j + t)) k + wf_sm L k
theorem wf_PI_0 (L P : Nat → Bool) (j : Nat) : wf_PI L P P j 0 false := ⟨fun _ _ => rfl, rfl⟩
theorem wf_PI_S {L P P' : Nat → Bool} {j k : Nat} {c x y : Bool} (h : wf_PI L P P' j k c) (ex : x = P' (j + k)) (ey : y = L k) : wf_PI L P (va_up P' (j + k) ((x != y) != c)) j (k + 1) (x && y || x && c || y && c) := by
  obtain ⟨h1, h2⟩ := h
  refine ⟨fun t ht => ?_, ?_⟩
  · rw [va_up_ne _ _ (by omega)]; exact h1 t (by omega)
  · rw [wf_sm_push P' j k, wf_smS L, wf_smS (fun t => P (j + t)), ← h1 (j + k) (by omega), ← ex, ← ey, Nat.pow_succ]
    exact wf_add_step h2 (wf_fa x y c)
theorem wf_mul_lt {A S : Nat} (hA : A < 2 ^ 128) (hS : S ≤ 2 ^ 128) (h0 : 0 < S) : A * S < 2 ^ 256 := by
  have h1 : A * S ≤ A * 2 ^ 128 := Nat.mul_le_mul_left _ hS
  have h2 : A * 2 ^ 128 < 2 ^ 128 * 2 ^ 128 := Nat.mul_lt_mul_of_pos_right hA (Nat.two_pow_pos 128)
  rw [← Nat.pow_add] at h2
  exact Nat.lt_of_le_of_lt h1 h2
theorem wf_pi_ar {p p' lo hi hi' A S T M c E F : Nat} (h5 : p' = lo + E * hi') (h4 : p = lo + E * hi) (h2 : hi' + c * F = hi + A) (hEF : E * F = M) (hp : p = A * S) (hT : T = S + E) (hlt : A * T < M) (hc : c ≤ 1) : p' = A * T := by
  have h3 : E * (hi' + c * F) = E * (hi + A) := by rw [h2]
  rw [Nat.mul_add, Nat.mul_add, Nat.mul_left_comm, hEF] at h3
  have h6 : A * T = A * S + E * A := by rw [hT, Nat.mul_add, Nat.mul_comm A E]
  rcases Nat.lt_or_ge c 1 with h | h
  · have : c = 0 := by omega
    subst this
    omega
  · have : c = 1 := by omega
    subst this
    omega
theorem wf_PI_end {L P P' f : Nat → Bool} {j A : Nat} {c : Bool} (hj : j < 128) (h : wf_PI L P P' j (256 - j) c) (hL : wf_sm L (256 - j) = A) (hA : A < 2 ^ 128) (hP : wf_sm P 256 = A * wf_sm f j) (hf : f j = true) : wf_sm P' 256 = A * wf_sm f (j + 1) := by
  obtain ⟨h1, h2⟩ := h
  rw [hL] at h2
  have e1 : ∀ G : Nat → Bool, wf_sm G 256 = wf_sm G j + 2 ^ j * wf_sm (fun t => G (j + t)) (256 - j) := fun G => by
    have := wf_sm_add G j (256 - j)
    rw [show j + (256 - j) = 256 by omega] at this
    exact this
  have e2 : wf_sm P' j = wf_sm P j := wf_sm_congr (fun t ht => h1 t (Or.inl ht))
  have e3 : wf_sm f (j + 1) = wf_sm f j + 2 ^ j := by rw [wf_smS, hf, Bool.toNat_true, Nat.one_mul]
  have e4 : wf_sm f (j + 1) ≤ 2 ^ 128 := Nat.le_trans (Nat.le_of_lt (wf_sm_lt f (j + 1))) (wf_pw (by omega))
  have e0 : 0 < wf_sm f (j + 1) := by
    rw [e3]
    exact Nat.lt_of_lt_of_le (Nat.two_pow_pos j) (Nat.le_add_left _ _)
  have hpp : (2 : Nat) ^ j * 2 ^ (256 - j) = 2 ^ 256 := by rw [← Nat.pow_add, show j + (256 - j) = 256 by omega]
  exact wf_pi_ar ((e1 P').trans (by rw [e2])) (e1 P) h2 hpp hP e3 (wf_mul_lt hA e4 e0) (wf_tn c)
theorem wf_PI_no {f : Nat → Bool} {j A N : Nat} (hP : N = A * wf_sm f j) (hf : f j = false) : N = A * wf_sm f (j + 1) := by
  rw [wf_smS, hf]; simpa using hP
theorem wf_p256 {P : Nat → Bool} {N : Nat} (h : wf_sm P 256 = N) : wf_sm (fun k => P (128 + k)) 128 = N / wf_NN ∧ wf_sm (fun k => P (0 + k)) 128 = N % wf_NN := by
  have e := wf_sm_add P 128 128
  have e0 : (fun k => P (0 + k)) = P := funext fun k => by rw [Nat.zero_add]
  have h1 := wf_sm_lt P 128
  rw [h] at e
  rw [e0, show wf_NN = 2 ^ 128 from wf_p128.symm, e]
  refine ⟨?_, ?_⟩
  · rw [Nat.add_comm, Nat.mul_add_div (Nat.two_pow_pos 128), Nat.div_eq_of_lt h1, Nat.add_zero]
  · rw [Nat.add_comm, Nat.mul_add_mod, Nat.mod_eq_of_lt h1]
/-- two registers are written, one behind the other -/
theorem wf_mW_two {u v : SM} {S1 S2 : Nat → Bool} {s1 s2 r1 r2 N1 N2 : Nat} {c : Int32} {B B1 : Nat → Bool} (hB : ∀ j, j < 8 → wf_R B j = wf_R u.2.1 j) (h1 : v.1 = c) (hB1 : B1 = va_cpy S1 B s1 (128 * r1) 128) (h2 : v.2.1 = va_cpy S2 B1 s2 (128 * r2) 128) (h3 : v.2.2.2.2.2 = u.2.2.2.2.2)
    (hN1 : wf_sm (fun k => S1 (s1 + k)) 128 = N1) (hN2 : wf_sm (fun k => S2 (s2 + k)) 128 = N2) : wf_mW u v c (va_up (va_up (wf_R u.2.1) r1 N1) r2 N2) :=
  ⟨h1, fun j hj => by rw [h2]; exact wf_R_upd _ _ _ _ _ hN2 (by rw [hB1]; exact wf_R_upd _ _ _ _ _ hN1 (hB j hj)), h3⟩
theorem wf_sm_small {F : Nat → Bool} {n m : Nat} (hnm : n ≤ m) (h : wf_sm F m < 2 ^ n) : wf_sm F n = wf_sm F m := by
  obtain ⟨d, rfl⟩ : ∃ d, m = n + d := ⟨m - n, by omega⟩
  rw [wf_sm_add] at h ⊢
  have h0 : wf_sm (fun k => F (n + k)) d = 0 := by
    rcases Nat.eq_zero_or_pos (wf_sm (fun k => F (n + k)) d) with z | z
    · exact z
    · exfalso
      have := Nat.mul_le_mul_left (2 ^ n) z
      omega
  rw [h0, Nat.mul_zero, Nat.add_zero]
/-- takeAway with a truth value -/
theorem wf_away_b {u v : SM} {r_ : Int32} {L : Nat → Bool} (h : (r_ = 1 ∧ wf_sm L 130 ≤ wf_sm u.2.2.2.2.1 130 ∧ ∃ f : Nat → Bool, v = (u.1, u.2.1, u.2.2.1, u.2.2.2.1, f, u.2.2.2.2.2) ∧ wf_sm f 130 = wf_sm u.2.2.2.2.1 130 - wf_sm L 130) ∨ (r_ = 0 ∧ ¬ wf_sm L 130 ≤ wf_sm u.2.2.2.2.1 130 ∧ v = u)) :
    ∃ (nx : Bool) (f : Nat → Bool), r_ = wf_bi nx ∧ v = (u.1, u.2.1, u.2.2.1, u.2.2.2.1, f, u.2.2.2.2.2) ∧ nx = decide (wf_sm L 130 ≤ wf_sm u.2.2.2.2.1 130) ∧ wf_sm f 130 = wf_sm u.2.2.2.2.1 130 - nx.toNat * wf_sm L 130 := by
  rcases h with ⟨h1, h2, f, h3, h4⟩ | ⟨h1, h2, h3⟩
  · exact ⟨true, f, h1, h3, (decide_eq_true h2).symm, by simpa using h4⟩
  · exact ⟨false, u.2.2.2.2.1, h1, h3, (decide_eq_false h2).symm, by simp⟩
/-- the quotient: behind i of 128 steps -/
def wf_DV (a b : Nat) (An Re : Nat → Bool) (i : Nat) : Prop := wf_sm Re 130 < b ∧ a / 2 ^ (128 - i) = wf_sm (fun t => An (128 - i + t)) i * b + wf_sm Re 130
theorem wf_top_step {B : Nat → Bool} {r i : Nat} (hi : i < 128) : wf_R B r / 2 ^ (128 - (i + 1)) = 2 * (wf_R B r / 2 ^ (128 - i)) + (B (128 * r + (127 - i))).toNat := by
  have h := wf_sm_top (fun k => B (128 * r + k)) 128 (127 - i) (by omega)
  rw [show 127 - i + 1 = 128 - i by omega] at h
  rw [show 128 - (i + 1) = 127 - i by omega]
  exact h
theorem wf_dvS {a a' q left b y t nx : Nat} (h1 : left < b) (h2 : a = q * b + left) (ha : a' = 2 * a + y) (hy : y ≤ 1) (ht : t = y + 2 * left) (hnx : (nx = 1 ∧ b ≤ t) ∨ (nx = 0 ∧ ¬ b ≤ t)) : t - nx * b < b ∧ a' = (nx + 2 * q) * b + (t - nx * b) := by
  rcases hnx with ⟨rfl, h⟩ | ⟨rfl, h⟩
  · rw [Nat.one_mul, Nat.add_mul, Nat.one_mul, Nat.mul_assoc]
    omega
  · rw [Nat.zero_mul, Nat.zero_add, Nat.mul_assoc]
    omega
theorem wf_DV_S {B An Re f : Nat → Bool} {ra b i : Nat} {L : Nat → Bool} {y nx : Bool} (hi : i < 128) (hL : wf_sm L 130 = b) (hb : b < 2 ^ 128) (h : wf_DV (wf_R B ra) b An Re i) (hy : y = B (128 * ra + (127 - i)))
    (hn : nx = decide (wf_sm L 130 ≤ wf_sm (va_up (wf_sh Re 129 129) 0 y) 130)) (hf : wf_sm f 130 = wf_sm (va_up (wf_sh Re 129 129) 0 y) 130 - nx.toNat * wf_sm L 130) : wf_DV (wf_R B ra) b (va_up An (127 - i) nx) f (i + 1) := by
  obtain ⟨h1, h2⟩ := h
  have hs : wf_sm (va_up (wf_sh Re 129 129) 0 y) 130 = y.toNat + 2 * wf_sm Re 130 := by
    rw [wf_sh_end Re 129 y, wf_sm_small (n := 129) (m := 130) (by decide) (Nat.lt_of_lt_of_le h1 (Nat.le_trans (Nat.le_of_lt hb) (wf_pw (by decide))))]
  rw [hs, hL] at hn hf
  have key := wf_dvS h1 h2 (wf_top_step (B := B) (r := ra) hi) (wf_tn _) (show y.toNat + 2 * wf_sm Re 130 = (B (128 * ra + (127 - i))).toNat + 2 * wf_sm Re 130 by rw [hy]) (nx := nx.toNat) (by
    cases nx
    · exact Or.inr ⟨rfl, of_decide_eq_false hn.symm⟩
    · exact Or.inl ⟨rfl, of_decide_eq_true hn.symm⟩)
  refine ⟨by rw [hf]; exact key.1, ?_⟩
  rw [hf, key.2, wf_sm_cons (fun t => va_up An (127 - i) nx (128 - (i + 1) + t)) i, show 128 - (i + 1) + 0 = 127 - i by omega, va_up_self]
  congr 4
  refine (wf_sm_congr (fun k hk => ?_)).symm
  rw [va_up_ne _ _ (by omega)]
  congr 1
  omega
theorem wf_DV_end {a b : Nat} {An Re : Nat → Bool} (hb : b < 2 ^ 128) (h : wf_DV a b An Re 128) : wf_sm (fun k => An (0 + k)) 128 = a / b ∧ wf_sm (fun k => Re (0 + k)) 128 = a % b := by
  obtain ⟨h1, h2⟩ := h
  rw [Nat.sub_self, Nat.pow_zero, Nat.div_one] at h2
  have e0 : (fun k => Re (0 + k)) = Re := funext fun k => by rw [Nat.zero_add]
  have e1 : wf_sm Re 128 = wf_sm Re 130 := wf_sm_small (by decide) (Nat.lt_trans h1 hb)
  rw [e0, e1]
  have hb0 : 0 < b := by omega
  generalize wf_sm (fun t => An (0 + t)) 128 = q at h2 ⊢
  refine ⟨?_, ?_⟩
  · rw [h2, Nat.mul_comm, Nat.mul_add_div hb0, Nat.div_eq_of_lt h1, Nat.add_zero]
  · rw [h2, Nat.mul_comm, Nat.mul_add_mod, Nat.mod_eq_of_lt h1]
theorem wf_DV_0 {a b : Nat} {An Re : Nat → Bool} (ha : a < 2 ^ 128) (hb : 0 < b) (hR : ∀ k, k < 130 → Re k = false) : wf_DV a b An Re 0 := by
  have h0 : wf_sm Re 130 = 0 := wf_sm_eq0.mpr hR
  refine ⟨by rw [h0]; exact hb, ?_⟩
  rw [h0, Nat.sub_zero, Nat.div_eq_of_lt ha, wf_sm0, Nat.zero_mul]
/-- the root: behind i of 64 steps -/
def wf_RV (a : Nat) (An Re : Nat → Bool) (i : Nat) : Prop := a / 2 ^ (128 - 2 * i) = wf_sm An 128 * wf_sm An 128 + wf_sm Re 130 ∧ wf_sm Re 130 ≤ 2 * wf_sm An 128 ∧ wf_sm An 128 < 2 ^ i
theorem wf_RV_0 {a : Nat} {An Re : Nat → Bool} (ha : a < 2 ^ 128) (hA : ∀ k, k < 128 → An k = false) (hR : ∀ k, k < 130 → Re k = false) : wf_RV a An Re 0 := by
  have h0 : wf_sm Re 130 = 0 := wf_sm_eq0.mpr hR
  have h1 : wf_sm An 128 = 0 := wf_sm_eq0.mpr hA
  unfold wf_RV
  rw [h0, h1, Nat.mul_zero, Nat.sub_zero, Nat.div_eq_of_lt ha]
  decide
theorem wf_rvS {A f left t nx y1 y0 : Nat} (h1 : A = f * f + left) (h2 : left ≤ 2 * f) (ht : t = y0 + 2 * (y1 + 2 * left)) (hy1 : y1 ≤ 1) (hy0 : y0 ≤ 1) (hnx : (nx = 1 ∧ 4 * f + 1 ≤ t) ∨ (nx = 0 ∧ ¬ 4 * f + 1 ≤ t)) :
    2 * (2 * A + y1) + y0 = (nx + 2 * f) * (nx + 2 * f) + (t - nx * (4 * f + 1)) ∧ t - nx * (4 * f + 1) ≤ 2 * (nx + 2 * f) := by
  obtain ⟨s1, s2⟩ := wf_sq f
  rcases hnx with ⟨rfl, h⟩ | ⟨rfl, h⟩
  · rw [Nat.one_mul, Nat.add_comm 1 (2 * f), s2]
    omega
  · rw [Nat.zero_mul, Nat.zero_add, s1]
    omega
theorem wf_RV_S {B An Re f : Nat → Bool} {ra i : Nat} {y1 y0 nx : Bool} (hi : i < 64) (h : wf_RV (wf_R B ra) An Re i) (hy1 : y1 = B (128 * ra + 2 * (63 - i) + 1)) (hy0 : y0 = B (128 * ra + 2 * (63 - i)))
    (hn : nx = decide (wf_sm (wf_lr An) 130 ≤ wf_sm (va_up (wf_sh (va_up (wf_sh Re 129 129) 0 y1) 129 129) 0 y0) 130)) (hf : wf_sm f 130 = wf_sm (va_up (wf_sh (va_up (wf_sh Re 129 129) 0 y1) 129 129) 0 y0) 130 - nx.toNat * wf_sm (wf_lr An) 130) : wf_RV (wf_R B ra) (va_up (wf_sh An 127 127) 0 nx) f (i + 1) := by
  obtain ⟨h1, h2, h3⟩ := h
  have p1 : (2 : Nat) ^ i ≤ 2 ^ 63 := wf_pw (by omega)
  have hsm : wf_sm Re 130 < 2 ^ 129 := Nat.lt_of_lt_of_le (show wf_sm Re 130 < 2 ^ 65 by rw [show (2 : Nat) ^ 65 = 4 * 2 ^ 63 by decide]; omega) (wf_pw (by decide))
  have t1 : wf_sm (va_up (wf_sh Re 129 129) 0 y1) 130 = y1.toNat + 2 * wf_sm Re 130 := by rw [wf_sh_end Re 129 y1, wf_sm_small (n := 129) (m := 130) (by decide) hsm]
  have t2 : wf_sm (va_up (wf_sh (va_up (wf_sh Re 129 129) 0 y1) 129 129) 0 y0) 130 = y0.toNat + 2 * (y1.toNat + 2 * wf_sm Re 130) := by
    rw [wf_sh_end _ 129 y0, wf_sm_small (n := 129) (m := 130) (by decide) ?_, t1]
    rw [t1]
    have := wf_tn y1
    exact Nat.lt_of_lt_of_le (show _ < 2 ^ 67 by rw [show (2 : Nat) ^ 67 = 16 * 2 ^ 63 by decide]; omega) (wf_pw (by decide))
  have t3 : wf_sm (va_up (wf_sh An 127 127) 0 nx) 128 = nx.toNat + 2 * wf_sm An 128 := by
    rw [wf_sh_end An 127 nx, wf_sm_small (n := 127) (m := 128) (by decide) (Nat.lt_of_lt_of_le h3 (wf_pw (by omega)))]
  rw [t2, wf_lr_sm] at hn hf
  have a1 := wf_top_step (B := B) (r := ra) (i := 2 * i) (by omega)
  have a2 := wf_top_step (B := B) (r := ra) (i := 2 * i + 1) (by omega)
  rw [a1, show 128 * ra + (127 - 2 * i) = 128 * ra + 2 * (63 - i) + 1 by omega, ← hy1, show 128 * ra + (127 - (2 * i + 1)) = 128 * ra + 2 * (63 - i) by omega, ← hy0] at a2
  obtain ⟨k1, k2⟩ := wf_rvS (A := wf_R B ra / 2 ^ (128 - 2 * i)) h1 h2 rfl (wf_tn y1) (wf_tn y0) (nx := nx.toNat) (by
    cases nx
    · exact Or.inr ⟨rfl, of_decide_eq_false hn.symm⟩
    · exact Or.inl ⟨rfl, of_decide_eq_true hn.symm⟩)
  have hnx := wf_tn nx
  refine ⟨?_, ?_, ?_⟩
  · rw [t3, hf, show 2 * (i + 1) = 2 * i + 1 + 1 by omega, a2]
    exact k1
  · rw [t3, hf]; exact k2
  · rw [t3, Nat.pow_succ]; omega
theorem wf_RV_end {a : Nat} {An Re : Nat → Bool} (h : wf_RV a An Re 64) : ∃ g r : Nat, (a = g * g + r ∧ r ≤ 2 * g ∧ g < 2 ^ 64) ∧ wf_sm (fun k => An (0 + k)) 128 = g ∧ wf_sm (fun k => Re (0 + k)) 128 = r := by
  obtain ⟨h1, h2, h3⟩ := h
  rw [show 128 - 2 * 64 = 0 from rfl, Nat.pow_zero, Nat.div_one] at h1
  have e0 : (fun k => Re (0 + k)) = Re := funext fun k => by rw [Nat.zero_add]
  have e1 : (fun k => An (0 + k)) = An := funext fun k => by rw [Nat.zero_add]
  have e2 : wf_sm Re 128 = wf_sm Re 130 := wf_sm_small (by decide) (Nat.lt_of_lt_of_le (show wf_sm Re 130 < 2 ^ 66 by rw [show (2 : Nat) ^ 66 = 4 * 2 ^ 64 by decide]; omega) (wf_pw (by decide)))
  exact ⟨_, _, ⟨h1, h2, h3⟩, by rw [e1], by rw [e0, e2]⟩
