/-! ===== the class's arithmetic, as numbers ===== -/
abbrev wf_N : Nat := 18446744073709551616
abbrev wf_NN : Nat := 340282366920938463463374607431768211456
/-- 1 if x is below y, without a sign -/
def wf_ob (x y : Int64) : Int64 := if uN x < uN y then 1 else 0
theorem uN_ob (x y : Int64) : uN (wf_ob x y) = if uN x < uN y then 1 else 0 := by
  unfold wf_ob
  split <;> rfl
theorem wf_add (ha la hb lb : Int64) : wf_V (ha + hb + wf_ob (la + lb) la) (la + lb) = (wf_V ha la + wf_V hb lb) % wf_NN ∧
    (wf_ob (ha + hb) ha + wf_ob (ha + hb + wf_ob (la + lb) la) (wf_ob (la + lb) la) ≠ 0 ↔ wf_NN ≤ wf_V ha la + wf_V hb lb) := by
  have h1 := uN_lt ha
  have h2 := uN_lt la
  have h3 := uN_lt hb
  have h4 := uN_lt lb
  have e : wf_ob (ha + hb) ha + wf_ob (ha + hb + wf_ob (la + lb) la) (wf_ob (la + lb) la) ≠ 0 ↔ uN (wf_ob (ha + hb) ha + wf_ob (ha + hb + wf_ob (la + lb) la) (wf_ob (la + lb) la)) ≠ 0 := not_congr uN_eq0
  rw [e]
  unfold wf_V wf_NN
  simp only [uN_add, uN_ob]
  constructor
  · split <;> omega
  · split <;> split <;> split <;> omega
theorem wf_sub (ha la hb lb : Int64) : wf_V (ha - hb - wf_ob la lb) (la - lb) = (wf_V ha la + wf_NN - wf_V hb lb) % wf_NN := by
  have h1 := uN_lt ha
  have h2 := uN_lt la
  have h3 := uN_lt hb
  have h4 := uN_lt lb
  unfold wf_V wf_NN
  simp only [uN_sub, uN_ob]
  split <;> omega
/-- the product of two numbers of 128 bits, by products of halves -/
theorem wf_prod {ah al bh bl P Q U V : Int64} (hP : uN P = uN ah * uN bh / wf_N) (hQ : uN Q = uN ah * uN bl / wf_N) (hU : uN U = uN al * uN bh / wf_N) (hV : uN V = uN al * uN bl / wf_N)
    {cs th cy co wc ol oc : Int64} (e1 : cs = ah * bl + al * bh) (e2 : th = cs + V) (e3 : cy = wf_ob cs (ah * bl) + wf_ob th cs) (e4 : co = Q + U) (e5 : wc = co + cy) (e6 : ol = wc + ah * bh) (e7 : oc = wf_ob co Q + wf_ob wc cy + wf_ob ol wc) :
    wf_V (P + oc) ol = wf_V ah al * wf_V bh bl / wf_NN ∧ wf_V th (al * bl) = wf_V ah al * wf_V bh bl % wf_NN := by
  have b1 := uN_lt ah
  have b2 := uN_lt al
  have b3 := uN_lt bh
  have b4 := uN_lt bl
  have hr : wf_V ah al * wf_V bh bl = uN ah * uN bh * (wf_N * wf_N) + (uN ah * uN bl + uN al * uN bh) * wf_N + uN al * uN bl := wf_ring _ _ _ _ _
  have m1 : uN ah * uN bh ≤ 18446744073709551615 * 18446744073709551615 := wf_le_mul (by omega) (by omega)
  have m2 : uN ah * uN bl ≤ 18446744073709551615 * 18446744073709551615 := wf_le_mul (by omega) (by omega)
  have m3 : uN al * uN bh ≤ 18446744073709551615 * 18446744073709551615 := wf_le_mul (by omega) (by omega)
  have m4 : uN al * uN bl ≤ 18446744073709551615 * 18446744073709551615 := wf_le_mul (by omega) (by omega)
  have p1 : uN (ah * bh) = uN ah * uN bh % wf_N := uN_mul _ _
  have p2 : uN (ah * bl) = uN ah * uN bl % wf_N := uN_mul _ _
  have p3 : uN (al * bh) = uN al * uN bh % wf_N := uN_mul _ _
  have p4 : uN (al * bl) = uN al * uN bl % wf_N := uN_mul _ _
  rw [hr]
  generalize uN ah * uN bh = x1 at *
  generalize uN ah * uN bl = x2 at *
  generalize uN al * uN bh = x3 at *
  generalize uN al * uN bl = x4 at *
  -- sums with their carries
  have c1 := wf_carry (uN_lt (ah * bl)) (uN_lt (al * bh))
  rw [← uN_add, ← e1, ← uN_ob] at c1
  have c2 := wf_carry (uN_lt cs) (uN_lt V)
  rw [← uN_add, ← e2, ← uN_ob] at c2
  have c4 := wf_carry (uN_lt Q) (uN_lt U)
  rw [← uN_add, ← e4, ← uN_ob] at c4
  have o1 : uN (wf_ob cs (ah * bl)) ≤ 1 := by rw [uN_ob]; split <;> omega
  have o2 : uN (wf_ob th cs) ≤ 1 := by rw [uN_ob]; split <;> omega
  have c3 : uN cy = uN (wf_ob cs (ah * bl)) + uN (wf_ob th cs) := by rw [e3, uN_add]; omega
  have c5 := wf_carry' (uN_lt co) (uN_lt cy)
  rw [← uN_add, ← e5, ← uN_ob] at c5
  have c6 := wf_carry (uN_lt wc) (uN_lt (ah * bh))
  rw [← uN_add, ← e6, ← uN_ob] at c6
  have o4 : uN (wf_ob co Q) ≤ 1 := by rw [uN_ob]; split <;> omega
  have o5 : uN (wf_ob wc cy) ≤ 1 := by rw [uN_ob]; split <;> omega
  have o6 : uN (wf_ob ol wc) ≤ 1 := by rw [uN_ob]; split <;> omega
  have c7 : uN oc = uN (wf_ob co Q) + uN (wf_ob wc cy) + uN (wf_ob ol wc) := by rw [e7, uN_add, uN_add]; omega
  have c8 := uN_add P oc
  have l1 := uN_lt cs
  have l2 := uN_lt th
  have l3 := uN_lt co
  have l4 := uN_lt wc
  have l5 := uN_lt ol
  have l6 := uN_lt (P + oc)
  unfold wf_V wf_NN
  unfold wf_N at *
  generalize uN (wf_ob cs (ah * bl)) = y1 at *
  generalize uN (wf_ob th cs) = y2 at *
  generalize uN (wf_ob co Q) = y4 at *
  generalize uN (wf_ob wc cy) = y5 at *
  generalize uN (wf_ob ol wc) = y6 at *
  rw [p4]
  omega
/-- ten times and d more -/
theorem wf_ten {h l d P Q cy : Int64} (hd : uN d < 10) (hP : uN P = uN l * 10 / wf_N) (hQ : uN Q = uN h * 10 / wf_N) (hc : cy = P + wf_ob (l * 10 + d) (l * 10)) :
    (Q + wf_ob (h * 10 + cy) cy ≠ 0 ↔ wf_NN ≤ wf_V h l * 10 + uN d) ∧ (wf_V h l * 10 + uN d < wf_NN → wf_V (h * 10 + cy) (l * 10 + d) = wf_V h l * 10 + uN d) := by
  have b1 := uN_lt h
  have b2 := uN_lt l
  have t : uN (10 : Int64) = 10 := by decide
  have p1 : uN (l * 10) = uN l * 10 % wf_N := by rw [uN_mul, t]
  have p2 : uN (h * 10) = uN h * 10 % wf_N := by rw [uN_mul, t]
  have c1 := wf_carry (uN_lt (l * 10)) (uN_lt d)
  rw [← uN_add, ← uN_ob] at c1
  have o1 : uN (wf_ob (l * 10 + d) (l * 10)) ≤ 1 := by rw [uN_ob]; split <;> omega
  have c2 : uN cy = uN P + uN (wf_ob (l * 10 + d) (l * 10)) := by rw [hc, uN_add]; unfold wf_N at hP; omega
  have c3 := wf_carry' (uN_lt (h * 10)) (uN_lt cy)
  rw [← uN_add, ← uN_ob] at c3
  have o3 : uN (wf_ob (h * 10 + cy) cy) ≤ 1 := by rw [uN_ob]; split <;> omega
  have l1 := uN_lt (l * 10 + d)
  have l2 := uN_lt (h * 10 + cy)
  have e : Q + wf_ob (h * 10 + cy) cy ≠ 0 ↔ uN (Q + wf_ob (h * 10 + cy) cy) ≠ 0 := not_congr uN_eq0
  have c4 : uN (Q + wf_ob (h * 10 + cy) cy) = uN Q + uN (wf_ob (h * 10 + cy) cy) := by rw [uN_add]; unfold wf_N at hQ; omega
  rw [e, c4]
  unfold wf_V wf_NN
  unfold wf_N at *
  generalize uN (wf_ob (l * 10 + d) (l * 10)) = y1 at *
  generalize uN (wf_ob (h * 10 + cy) cy) = y3 at *
  constructor <;> omega
