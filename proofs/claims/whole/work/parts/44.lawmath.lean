/-! ===== the law: what holds between the two objects ===== -/
abbrev wL (o : Nat) (ko : ClassId) (q : Nat → Nat) (κ : Nat → ClassId) (r : Nat → Nat) (μ : Nat → ClassId) (x : SX × (Nat → Int64)) (w : SM) : va_W := wXO o ko q κ x ++ wM r μ w
abbrev tyL (ko : ClassId) (κ μ : Nat → ClassId) : List (ClassId × FieldType) := tyXO ko κ ++ tyM μ
abbrev lwA (s : State) : Nat → Prop := fun z => s.heap.size ≤ z
/-- the registers are the same numbers, the digits the same -/
def wf_In (x : SX) (w : SM) : Prop := (∀ j, j < 8 → wf_Rx x j = wf_R w.2.1 j) ∧ ∃ c : Nat, c ≤ 39 ∧ x.2.2.2.2 = nI (39 - c) ∧ w.2.2.2.2.2.2 = nI c ∧ ∀ i, i < c → x.2.2.2.1 (39 - c + i) = w.2.2.2.2.2.1 i
theorem In_st {x x' : SX} {w w' : SM} {r N N' : Nat} {c : Int32} (h : wf_In x w) (h1 : wf_st x x' r N) (h2 : wf_mW w w' c (va_up (wf_R w.2.1) r N')) (e : N = N') : wf_In x' w' := by
  obtain ⟨hr, d, d1, d2, d3, d4⟩ := h
  have hd := wf_st_r h1
  refine ⟨fun j hj => ?_, d, d1, ?_, ?_, fun i hi => ?_⟩
  · rw [wf_st_R h1 j, h2.2.1 j hj]
    by_cases hk : j = r
    · rw [if_pos hk, hk, va_up_self, e]
    · rw [if_neg hk, va_up_ne _ _ hk, hr j hj]
  · rw [hd, d2]
  · rw [h2.2.2, d3]
  · rw [hd, h2.2.2]; exact d4 i hi
theorem In_two {x y x' : SX} {w w' : SM} {r1 r2 N1 N2 M1 M2 : Nat} {c : Int32} (h : wf_In x w) (h1 : wf_st x y r1 N1) (h1' : wf_st y x' r2 N2) (h2 : wf_mW w w' c (va_up (va_up (wf_R w.2.1) r1 M1) r2 M2)) (e1 : N1 = M1) (e2 : N2 = M2) : wf_In x' w' := by
  obtain ⟨hr, d, d1, d2, d3, d4⟩ := h
  have hd := (wf_st_r h1').trans (wf_st_r h1)
  refine ⟨fun j hj => ?_, d, d1, ?_, ?_, fun i hi => ?_⟩
  · rw [wf_st_R h1' j, h2.2.1 j hj]
    by_cases hk : j = r2
    · rw [if_pos hk, hk, va_up_self, e2]
    · rw [if_neg hk, va_up_ne _ _ hk, wf_st_R h1 j]
      by_cases hk1 : j = r1
      · rw [if_pos hk1, hk1, va_up_self, e1]
      · rw [if_neg hk1, va_up_ne _ _ hk1, hr j hj]
  · rw [hd, d2]
  · rw [h2.2.2, d3]
  · rw [hd, h2.2.2]; exact d4 i hi
theorem In_same {x : SX} {w w' : SM} {c : Int32} (h : wf_In x w) (h2 : wf_mW w w' c (wf_R w.2.1)) : wf_In x w' := by
  obtain ⟨hr, d, d1, d2, d3, d4⟩ := h
  exact ⟨fun j hj => by rw [h2.2.1 j hj]; exact hr j hj, d, d1, d2, by rw [h2.2.2, d3], fun i hi => by rw [h2.2.2]; exact d4 i hi⟩
theorem In_code {x : SX} {w w' : SM} {c : Int32} (h : wf_In x w) (e : w' = (c, w.2)) : wf_In x w' := by rw [e]; exact h
theorem In_dig {x x' : SX} {w w' : SM} {k cx cm : Nat} {Gx Gm : Nat → Nat} (h : wf_In x w) (hk : k < 8) (a1 : cx ≤ 39) (a2 : wf_DG (wf_Rx x k) cx Gx) (a3 : x'.1 = x.1) (a4 : x'.2.1 = x.2.1) (a5 : x'.2.2.2.2 = nI (39 - cx)) (a6 : ∀ i, i < cx → x'.2.2.2.1 (39 - cx + i) = nI (Gx i))
    (b0 : w'.2.2.2.2.2.2 = nI cm) (b2 : wf_DG (wf_R w.2.1 k) cm Gm) (b3 : ∀ j, j < 8 → wf_R w'.2.1 j = wf_R w.2.1 j) (b6 : ∀ i, i < cm → w'.2.2.2.2.2.1 i = nI (Gm i)) : cx = cm ∧ wf_In x' w' := by
  rw [← h.1 k hk] at b2
  obtain ⟨e1, e2⟩ := wf_DG_one a2 b2
  subst e1
  refine ⟨rfl, fun j hj => ?_, cx, a1, a5, b0, fun i hi => ?_⟩
  · rw [b3 j hj, ← h.1 j hj]; unfold wf_Rx; rw [a3, a4]
  · rw [a6 i hi, b6 i hi, e2 i hi]
theorem In_half {x : SX} {w : SM} (h : wf_In x w) {ra : Nat} (hra : ra < 8) {v : Int64} : (uN v = wf_sm (fun k => w.2.1 (128 * ra + 64 + k)) 64 → x.1 ra = v) ∧ (uN v = wf_sm (fun k => w.2.1 (128 * ra + 0 + k)) 64 → x.2.1 ra = v) := by
  have h1 := h.1 ra hra
  rw [wf_R_halves] at h1
  obtain ⟨k1, k2⟩ := wf_V_one (h := x.1 ra) (l := x.2.1 ra) (wf_sm_lt _ 64) (wf_sm_lt _ 64) h1
  exact ⟨fun e => uN_inj (k1.trans e.symm), fun e => uN_inj (k2.trans e.symm)⟩
theorem lw_and15 (v : Int32) : ∃ j : Nat, j < 16 ∧ v &&& 15 = nI j := pk_andE v 4 (by decide)
theorem lw_cond {L k : Nat} (hL : L ≤ 3072) (hk : k ≤ 4000) : nI L - 6 < nI k ↔ L < k + 6 := by
  rw [Int32.lt_iff_toInt_lt, Int32.toInt_sub, nI_toInt (by omega), nI_toInt (by omega), show (6 : Int32).toInt = 6 from by decide]
  rw [Int.bmod_eq_of_le (by omega) (by omega)]
  omega
section LWL
variable {p : Program} {l : Launch} {e : Env} {R : Room} {s : State} {m : MethodId} {args : Array Value} {below : List Frame} {meth : Method} {c : Code} {H : Heap} {locs : List Loc} {cells slots : Nat} {Q : State → Prop} {cc : ByteArray} {pc : Nat} {ls : Array Slot} {rest : List Value} {A : Nat → Prop}
theorem lw_ld (hx : p.tables.exec = Jvm.exec) (hb : c.code = cc) {b L : Nat} {xs : Nat → Int32} (hX : va_X b L xs s s.heap) (hbl : b < s.heap.size) (hbA : ¬ A b) (hS : va_S A s.heap H locs) {i : Int32} {k : Nat} (hi : i = nI k) (hk : k < L) (hL : L ≤ 3072) (hdg : decode cc pc = .ok (.iaload, 1))
    (kk : W p l e R s m args below meth c H locs cells slots Q (F0 m (pc + 1) ls (.int (xs k) :: rest))) : W p l e R s m args below meth c H locs cells slots Q (F0 m pc ls (.int i :: .ref b :: rest)) := by
  subst hi
  refine va_sld hx hb hX hbl hbA hS (vp_in_nI hk (by omega)) hdg ?_
  rw [nI_clamp (by omega)]
  exact kk
end LWL
