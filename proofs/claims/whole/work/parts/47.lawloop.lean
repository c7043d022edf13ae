/-! ===== the law's loop and the law from its entry ===== -/
theorem lw_neg {x : Int32} (h : x < 0) : ∃ n : Nat, 0 < n ∧ n ≤ 2147483648 ∧ x = -nI n := by
  rw [Int32.lt_iff_toInt_lt] at h
  have h0 : x.toInt < 0 := h
  have h1 := Int32.le_toInt x
  refine ⟨(-x.toInt).toNat, by omega, by omega, Int32.toInt_inj.mp ?_⟩
  rw [wf_neg_toInt (by omega)]
  omega

set_option maxHeartbeats 4000000 in
set_option maxRecDepth 100000 in
theorem law_d0 {p : Program} {l : Launch} {e : Env} {s : State} {m : MethodId} {below : List Frame} {meth : Method} {c : Code} {D : va_G} {q r : Nat → Nat} {κ μ : Nat → ClassId} {o : Nat} {ko : ClassId} {b L : Nat} {xs : Nat → Int32} {t : Nat} {x : SX × (Nat → Int64)} {w : SM} {H : Heap} {locs : List Loc} {ls : Array Slot} (hst : l.stackTraces = false) (hL : L ≤ 3072) (C0 : lw_At p s m meth c b L xs) (hAll : wx_All s) (hK : va_K D vwCl (tyL ko κ μ) s) (ht : 6 * t + 6 ≤ L) (hIn : wf_In x.1 w) (hP : va_P D vwCl (wL o ko q κ r μ x w) H) (hD : va_D (lwA s) (wL o ko q κ r μ x w)) (hS : va_S (lwA s) s.heap H locs) (hl : lv_has ls 8 [(0, .ref (b)), (1, .ref (q 0)), (2, .ref (r 0)), (3, .ref (o)), (4, .int (nI (6 * t)))]) (back : ∀ (x' : SX × (Nat → Int64)) (w' : SM) (H' : Heap) (locs' : List Loc) (ls' : Array Slot), wf_In x'.1 w' → va_P D vwCl (wL o ko q κ r μ x' w') H' → va_D (lwA s) (wL o ko q κ r μ x' w') → va_S (lwA s) s.heap H' locs' → lv_has ls' 8 [(0, .ref (b)), (1, .ref (q 0)), (2, .ref (r 0)), (3, .ref (o)), (4, .int (nI (6 * t)))] → W p l e room_1 s m #[Value.ref b] below meth c H' locs' (12 + (t + 1)) (1905 + 6 * (t + 1)) (lw_Z below #[Value.ref b] s) (F0 m 1124 ls' [])) : W p l e room_1 s m #[Value.ref b] below meth c H locs (12 + t) (1905 + 6 * t) (lw_Z below #[Value.ref b] s) (F0 m 112 ls []) := by
  by_cases hbad : ((wf_no (xs (6 * t + 1))) || (false)) = true
  · exact law_0_bad hst hL C0 hAll hK ht hbad hIn hP hD hS hl back
  · obtain ⟨g, hE⟩ := Bool.or_eq_false_iff.mp (Bool.eq_false_iff.mpr hbad)
    have f1 := g
    obtain ⟨ra, hra, era⟩ := wf_no_is f1
    exact law_0_ok hst hL C0 hAll hK ht hra era  hIn hP hD hS hl back

set_option maxHeartbeats 4000000 in
set_option maxRecDepth 100000 in
theorem law_d1 {p : Program} {l : Launch} {e : Env} {s : State} {m : MethodId} {below : List Frame} {meth : Method} {c : Code} {D : va_G} {q r : Nat → Nat} {κ μ : Nat → ClassId} {o : Nat} {ko : ClassId} {b L : Nat} {xs : Nat → Int32} {t : Nat} {x : SX × (Nat → Int64)} {w : SM} {H : Heap} {locs : List Loc} {ls : Array Slot} (hst : l.stackTraces = false) (hL : L ≤ 3072) (C0 : lw_At p s m meth c b L xs) (hAll : wx_All s) (hK : va_K D vwCl (tyL ko κ μ) s) (ht : 6 * t + 6 ≤ L) (hIn : wf_In x.1 w) (hP : va_P D vwCl (wL o ko q κ r μ x w) H) (hD : va_D (lwA s) (wL o ko q κ r μ x w)) (hS : va_S (lwA s) s.heap H locs) (hl : lv_has ls 8 [(0, .ref (b)), (1, .ref (q 0)), (2, .ref (r 0)), (3, .ref (o)), (4, .int (nI (6 * t)))]) (back : ∀ (x' : SX × (Nat → Int64)) (w' : SM) (H' : Heap) (locs' : List Loc) (ls' : Array Slot), wf_In x'.1 w' → va_P D vwCl (wL o ko q κ r μ x' w') H' → va_D (lwA s) (wL o ko q κ r μ x' w') → va_S (lwA s) s.heap H' locs' → lv_has ls' 8 [(0, .ref (b)), (1, .ref (q 0)), (2, .ref (r 0)), (3, .ref (o)), (4, .int (nI (6 * t)))] → W p l e room_1 s m #[Value.ref b] below meth c H' locs' (12 + (t + 1)) (1905 + 6 * (t + 1)) (lw_Z below #[Value.ref b] s) (F0 m 1124 ls' [])) : W p l e room_1 s m #[Value.ref b] below meth c H locs (12 + t) (1905 + 6 * t) (lw_Z below #[Value.ref b] s) (F0 m 236 ls []) := by
  by_cases e0 : xs (6 * t + 2) = 0
  · by_cases hbad : ((wf_no (xs (6 * t + 1))) || (false)) = true
    · exact law_1_badLo hst hL C0 hAll hK ht hbad e0 hIn hP hD hS hl back
    · obtain ⟨g, hE⟩ := Bool.or_eq_false_iff.mp (Bool.eq_false_iff.mpr hbad)
      have f1 := g
      obtain ⟨ra, hra, era⟩ := wf_no_is f1
      exact law_1_okLo hst hL C0 hAll hK ht hra era e0 hIn hP hD hS hl back
  · by_cases hbad : ((wf_no (xs (6 * t + 1))) || (false)) = true
    · exact law_1_badHi hst hL C0 hAll hK ht hbad e0 hIn hP hD hS hl back
    · obtain ⟨g, hE⟩ := Bool.or_eq_false_iff.mp (Bool.eq_false_iff.mpr hbad)
      have f1 := g
      obtain ⟨ra, hra, era⟩ := wf_no_is f1
      exact law_1_okHi hst hL C0 hAll hK ht hra era e0 hIn hP hD hS hl back

set_option maxHeartbeats 4000000 in
set_option maxRecDepth 100000 in
theorem law_d2 {p : Program} {l : Launch} {e : Env} {s : State} {m : MethodId} {below : List Frame} {meth : Method} {c : Code} {D : va_G} {q r : Nat → Nat} {κ μ : Nat → ClassId} {o : Nat} {ko : ClassId} {b L : Nat} {xs : Nat → Int32} {t : Nat} {x : SX × (Nat → Int64)} {w : SM} {H : Heap} {locs : List Loc} {ls : Array Slot} (hst : l.stackTraces = false) (hL : L ≤ 3072) (C0 : lw_At p s m meth c b L xs) (hAll : wx_All s) (hK : va_K D vwCl (tyL ko κ μ) s) (ht : 6 * t + 6 ≤ L) (hIn : wf_In x.1 w) (hP : va_P D vwCl (wL o ko q κ r μ x w) H) (hD : va_D (lwA s) (wL o ko q κ r μ x w)) (hS : va_S (lwA s) s.heap H locs) (hl : lv_has ls 8 [(0, .ref (b)), (1, .ref (q 0)), (2, .ref (r 0)), (3, .ref (o)), (4, .int (nI (6 * t)))]) (back : ∀ (x' : SX × (Nat → Int64)) (w' : SM) (H' : Heap) (locs' : List Loc) (ls' : Array Slot), wf_In x'.1 w' → va_P D vwCl (wL o ko q κ r μ x' w') H' → va_D (lwA s) (wL o ko q κ r μ x' w') → va_S (lwA s) s.heap H' locs' → lv_has ls' 8 [(0, .ref (b)), (1, .ref (q 0)), (2, .ref (r 0)), (3, .ref (o)), (4, .int (nI (6 * t)))] → W p l e room_1 s m #[Value.ref b] below meth c H' locs' (12 + (t + 1)) (1905 + 6 * (t + 1)) (lw_Z below #[Value.ref b] s) (F0 m 1124 ls' [])) : W p l e room_1 s m #[Value.ref b] below meth c H locs (12 + t) (1905 + 6 * t) (lw_Z below #[Value.ref b] s) (F0 m 319 ls []) := by
  by_cases hbad : ((wf_no (xs (6 * t + 1)) || wf_no (xs (6 * t + 2)) || wf_no (xs (6 * t + 3))) || (false)) = true
  · exact law_2_bad hst hL C0 hAll hK ht hbad hIn hP hD hS hl back
  · obtain ⟨g, hE⟩ := Bool.or_eq_false_iff.mp (Bool.eq_false_iff.mpr hbad)
    obtain ⟨g, f3⟩ := Bool.or_eq_false_iff.mp g
    obtain ⟨g, f2⟩ := Bool.or_eq_false_iff.mp g
    have f1 := g
    obtain ⟨ra, hra, era⟩ := wf_no_is f1
    obtain ⟨rb, hrb, erb⟩ := wf_no_is f2
    obtain ⟨rt, hrt, ert⟩ := wf_no_is f3
    exact law_2_ok hst hL C0 hAll hK ht hra era hrb erb hrt ert  hIn hP hD hS hl back

set_option maxHeartbeats 4000000 in
set_option maxRecDepth 100000 in
theorem law_d3 {p : Program} {l : Launch} {e : Env} {s : State} {m : MethodId} {below : List Frame} {meth : Method} {c : Code} {D : va_G} {q r : Nat → Nat} {κ μ : Nat → ClassId} {o : Nat} {ko : ClassId} {b L : Nat} {xs : Nat → Int32} {t : Nat} {x : SX × (Nat → Int64)} {w : SM} {H : Heap} {locs : List Loc} {ls : Array Slot} (hst : l.stackTraces = false) (hL : L ≤ 3072) (C0 : lw_At p s m meth c b L xs) (hAll : wx_All s) (hK : va_K D vwCl (tyL ko κ μ) s) (ht : 6 * t + 6 ≤ L) (hIn : wf_In x.1 w) (hP : va_P D vwCl (wL o ko q κ r μ x w) H) (hD : va_D (lwA s) (wL o ko q κ r μ x w)) (hS : va_S (lwA s) s.heap H locs) (hl : lv_has ls 8 [(0, .ref (b)), (1, .ref (q 0)), (2, .ref (r 0)), (3, .ref (o)), (4, .int (nI (6 * t)))]) (back : ∀ (x' : SX × (Nat → Int64)) (w' : SM) (H' : Heap) (locs' : List Loc) (ls' : Array Slot), wf_In x'.1 w' → va_P D vwCl (wL o ko q κ r μ x' w') H' → va_D (lwA s) (wL o ko q κ r μ x' w') → va_S (lwA s) s.heap H' locs' → lv_has ls' 8 [(0, .ref (b)), (1, .ref (q 0)), (2, .ref (r 0)), (3, .ref (o)), (4, .int (nI (6 * t)))] → W p l e room_1 s m #[Value.ref b] below meth c H' locs' (12 + (t + 1)) (1905 + 6 * (t + 1)) (lw_Z below #[Value.ref b] s) (F0 m 1124 ls' [])) : W p l e room_1 s m #[Value.ref b] below meth c H locs (12 + t) (1905 + 6 * t) (lw_Z below #[Value.ref b] s) (F0 m 406 ls []) := by
  by_cases hbad : ((wf_no (xs (6 * t + 1)) || wf_no (xs (6 * t + 2)) || wf_no (xs (6 * t + 3))) || (false)) = true
  · exact law_3_bad hst hL C0 hAll hK ht hbad hIn hP hD hS hl back
  · obtain ⟨g, hE⟩ := Bool.or_eq_false_iff.mp (Bool.eq_false_iff.mpr hbad)
    obtain ⟨g, f3⟩ := Bool.or_eq_false_iff.mp g
    obtain ⟨g, f2⟩ := Bool.or_eq_false_iff.mp g
    have f1 := g
    obtain ⟨ra, hra, era⟩ := wf_no_is f1
    obtain ⟨rb, hrb, erb⟩ := wf_no_is f2
    obtain ⟨rt, hrt, ert⟩ := wf_no_is f3
    exact law_3_ok hst hL C0 hAll hK ht hra era hrb erb hrt ert  hIn hP hD hS hl back

set_option maxHeartbeats 4000000 in
set_option maxRecDepth 100000 in
theorem law_d4 {p : Program} {l : Launch} {e : Env} {s : State} {m : MethodId} {below : List Frame} {meth : Method} {c : Code} {D : va_G} {q r : Nat → Nat} {κ μ : Nat → ClassId} {o : Nat} {ko : ClassId} {b L : Nat} {xs : Nat → Int32} {t : Nat} {x : SX × (Nat → Int64)} {w : SM} {H : Heap} {locs : List Loc} {ls : Array Slot} (hst : l.stackTraces = false) (hL : L ≤ 3072) (C0 : lw_At p s m meth c b L xs) (hAll : wx_All s) (hK : va_K D vwCl (tyL ko κ μ) s) (ht : 6 * t + 6 ≤ L) (hIn : wf_In x.1 w) (hP : va_P D vwCl (wL o ko q κ r μ x w) H) (hD : va_D (lwA s) (wL o ko q κ r μ x w)) (hS : va_S (lwA s) s.heap H locs) (hl : lv_has ls 8 [(0, .ref (b)), (1, .ref (q 0)), (2, .ref (r 0)), (3, .ref (o)), (4, .int (nI (6 * t)))]) (back : ∀ (x' : SX × (Nat → Int64)) (w' : SM) (H' : Heap) (locs' : List Loc) (ls' : Array Slot), wf_In x'.1 w' → va_P D vwCl (wL o ko q κ r μ x' w') H' → va_D (lwA s) (wL o ko q κ r μ x' w') → va_S (lwA s) s.heap H' locs' → lv_has ls' 8 [(0, .ref (b)), (1, .ref (q 0)), (2, .ref (r 0)), (3, .ref (o)), (4, .int (nI (6 * t)))] → W p l e room_1 s m #[Value.ref b] below meth c H' locs' (12 + (t + 1)) (1905 + 6 * (t + 1)) (lw_Z below #[Value.ref b] s) (F0 m 1124 ls' [])) : W p l e room_1 s m #[Value.ref b] below meth c H locs (12 + t) (1905 + 6 * t) (lw_Z below #[Value.ref b] s) (F0 m 493 ls []) := by
  by_cases hbad : ((wf_no (xs (6 * t + 1)) || wf_no (xs (6 * t + 2)) || wf_no (xs (6 * t + 3)) || wf_no (xs (6 * t + 4))) || (decide ((xs (6 * t + 3)) = (xs (6 * t + 4))))) = true
  · exact law_4_bad hst hL C0 hAll hK ht hbad hIn hP hD hS hl back
  · obtain ⟨g, hE⟩ := Bool.or_eq_false_iff.mp (Bool.eq_false_iff.mpr hbad)
    obtain ⟨g, f4⟩ := Bool.or_eq_false_iff.mp g
    obtain ⟨g, f3⟩ := Bool.or_eq_false_iff.mp g
    obtain ⟨g, f2⟩ := Bool.or_eq_false_iff.mp g
    have f1 := g
    obtain ⟨ra, hra, era⟩ := wf_no_is f1
    obtain ⟨rb, hrb, erb⟩ := wf_no_is f2
    obtain ⟨ro, hro, ero⟩ := wf_no_is f3
    obtain ⟨rt, hrt, ert⟩ := wf_no_is f4
    have hne : ¬ nI ro = nI rt := by rw [← ero, ← ert]; exact of_decide_eq_false hE
    exact law_4_ok hst hL C0 hAll hK ht hra era hrb erb hro ero hrt ert hne hIn hP hD hS hl back

set_option maxHeartbeats 4000000 in
set_option maxRecDepth 100000 in
theorem law_d5 {p : Program} {l : Launch} {e : Env} {s : State} {m : MethodId} {below : List Frame} {meth : Method} {c : Code} {D : va_G} {q r : Nat → Nat} {κ μ : Nat → ClassId} {o : Nat} {ko : ClassId} {b L : Nat} {xs : Nat → Int32} {t : Nat} {x : SX × (Nat → Int64)} {w : SM} {H : Heap} {locs : List Loc} {ls : Array Slot} (hst : l.stackTraces = false) (hL : L ≤ 3072) (C0 : lw_At p s m meth c b L xs) (hAll : wx_All s) (hK : va_K D vwCl (tyL ko κ μ) s) (ht : 6 * t + 6 ≤ L) (hIn : wf_In x.1 w) (hP : va_P D vwCl (wL o ko q κ r μ x w) H) (hD : va_D (lwA s) (wL o ko q κ r μ x w)) (hS : va_S (lwA s) s.heap H locs) (hl : lv_has ls 8 [(0, .ref (b)), (1, .ref (q 0)), (2, .ref (r 0)), (3, .ref (o)), (4, .int (nI (6 * t)))]) (back : ∀ (x' : SX × (Nat → Int64)) (w' : SM) (H' : Heap) (locs' : List Loc) (ls' : Array Slot), wf_In x'.1 w' → va_P D vwCl (wL o ko q κ r μ x' w') H' → va_D (lwA s) (wL o ko q κ r μ x' w') → va_S (lwA s) s.heap H' locs' → lv_has ls' 8 [(0, .ref (b)), (1, .ref (q 0)), (2, .ref (r 0)), (3, .ref (o)), (4, .int (nI (6 * t)))] → W p l e room_1 s m #[Value.ref b] below meth c H' locs' (12 + (t + 1)) (1905 + 6 * (t + 1)) (lw_Z below #[Value.ref b] s) (F0 m 1124 ls' [])) : W p l e room_1 s m #[Value.ref b] below meth c H locs (12 + t) (1905 + 6 * t) (lw_Z below #[Value.ref b] s) (F0 m 565 ls []) := by
  by_cases hbad : ((wf_no (xs (6 * t + 1)) || wf_no (xs (6 * t + 2)) || wf_no (xs (6 * t + 3)) || wf_no (xs (6 * t + 4))) || (decide ((xs (6 * t + 3)) = (xs (6 * t + 4))))) = true
  · exact law_5_bad hst hL C0 hAll hK ht hbad hIn hP hD hS hl back
  · obtain ⟨g, hE⟩ := Bool.or_eq_false_iff.mp (Bool.eq_false_iff.mpr hbad)
    obtain ⟨g, f4⟩ := Bool.or_eq_false_iff.mp g
    obtain ⟨g, f3⟩ := Bool.or_eq_false_iff.mp g
    obtain ⟨g, f2⟩ := Bool.or_eq_false_iff.mp g
    have f1 := g
    obtain ⟨ra, hra, era⟩ := wf_no_is f1
    obtain ⟨rb, hrb, erb⟩ := wf_no_is f2
    obtain ⟨ro, hro, ero⟩ := wf_no_is f3
    obtain ⟨rt, hrt, ert⟩ := wf_no_is f4
    have hne : ¬ nI ro = nI rt := by rw [← ero, ← ert]; exact of_decide_eq_false hE
    rcases Nat.eq_zero_or_pos (wf_R w.2.1 rb) with hb0 | hb0
    · exact law_5_zero hst hL C0 hAll hK ht hra era hrb erb hro ero hrt ert hne hb0 hIn hP hD hS hl back
    · exact law_5_ok hst hL C0 hAll hK ht hra era hrb erb hro ero hrt ert hne hb0 hIn hP hD hS hl back

set_option maxHeartbeats 4000000 in
set_option maxRecDepth 100000 in
theorem law_d6 {p : Program} {l : Launch} {e : Env} {s : State} {m : MethodId} {below : List Frame} {meth : Method} {c : Code} {D : va_G} {q r : Nat → Nat} {κ μ : Nat → ClassId} {o : Nat} {ko : ClassId} {b L : Nat} {xs : Nat → Int32} {t : Nat} {x : SX × (Nat → Int64)} {w : SM} {H : Heap} {locs : List Loc} {ls : Array Slot} (hst : l.stackTraces = false) (hL : L ≤ 3072) (C0 : lw_At p s m meth c b L xs) (hAll : wx_All s) (hK : va_K D vwCl (tyL ko κ μ) s) (ht : 6 * t + 6 ≤ L) (hIn : wf_In x.1 w) (hP : va_P D vwCl (wL o ko q κ r μ x w) H) (hD : va_D (lwA s) (wL o ko q κ r μ x w)) (hS : va_S (lwA s) s.heap H locs) (hl : lv_has ls 8 [(0, .ref (b)), (1, .ref (q 0)), (2, .ref (r 0)), (3, .ref (o)), (4, .int (nI (6 * t)))]) (back : ∀ (x' : SX × (Nat → Int64)) (w' : SM) (H' : Heap) (locs' : List Loc) (ls' : Array Slot), wf_In x'.1 w' → va_P D vwCl (wL o ko q κ r μ x' w') H' → va_D (lwA s) (wL o ko q κ r μ x' w') → va_S (lwA s) s.heap H' locs' → lv_has ls' 8 [(0, .ref (b)), (1, .ref (q 0)), (2, .ref (r 0)), (3, .ref (o)), (4, .int (nI (6 * t)))] → W p l e room_1 s m #[Value.ref b] below meth c H' locs' (12 + (t + 1)) (1905 + 6 * (t + 1)) (lw_Z below #[Value.ref b] s) (F0 m 1124 ls' [])) : W p l e room_1 s m #[Value.ref b] below meth c H locs (12 + t) (1905 + 6 * t) (lw_Z below #[Value.ref b] s) (F0 m 637 ls []) := by
  by_cases hbad : ((wf_no (xs (6 * t + 1)) || wf_no (xs (6 * t + 2)) || wf_no (xs (6 * t + 3))) || (decide ((xs (6 * t + 2)) = (xs (6 * t + 3))))) = true
  · exact law_6_bad hst hL C0 hAll hK ht hbad hIn hP hD hS hl back
  · obtain ⟨g, hE⟩ := Bool.or_eq_false_iff.mp (Bool.eq_false_iff.mpr hbad)
    obtain ⟨g, f3⟩ := Bool.or_eq_false_iff.mp g
    obtain ⟨g, f2⟩ := Bool.or_eq_false_iff.mp g
    have f1 := g
    obtain ⟨ra, hra, era⟩ := wf_no_is f1
    obtain ⟨ro, hro, ero⟩ := wf_no_is f2
    obtain ⟨rt, hrt, ert⟩ := wf_no_is f3
    have hne : ¬ nI ro = nI rt := by rw [← ero, ← ert]; exact of_decide_eq_false hE
    exact law_6_ok hst hL C0 hAll hK ht hra era hro ero hrt ert hne hIn hP hD hS hl back

set_option maxHeartbeats 4000000 in
set_option maxRecDepth 100000 in
theorem law_d7 {p : Program} {l : Launch} {e : Env} {s : State} {m : MethodId} {below : List Frame} {meth : Method} {c : Code} {D : va_G} {q r : Nat → Nat} {κ μ : Nat → ClassId} {o : Nat} {ko : ClassId} {b L : Nat} {xs : Nat → Int32} {t : Nat} {x : SX × (Nat → Int64)} {w : SM} {H : Heap} {locs : List Loc} {ls : Array Slot} (hst : l.stackTraces = false) (hL : L ≤ 3072) (C0 : lw_At p s m meth c b L xs) (hAll : wx_All s) (hK : va_K D vwCl (tyL ko κ μ) s) (ht : 6 * t + 6 ≤ L) (hIn : wf_In x.1 w) (hP : va_P D vwCl (wL o ko q κ r μ x w) H) (hD : va_D (lwA s) (wL o ko q κ r μ x w)) (hS : va_S (lwA s) s.heap H locs) (hl : lv_has ls 8 [(0, .ref (b)), (1, .ref (q 0)), (2, .ref (r 0)), (3, .ref (o)), (4, .int (nI (6 * t)))]) (back : ∀ (x' : SX × (Nat → Int64)) (w' : SM) (H' : Heap) (locs' : List Loc) (ls' : Array Slot), wf_In x'.1 w' → va_P D vwCl (wL o ko q κ r μ x' w') H' → va_D (lwA s) (wL o ko q κ r μ x' w') → va_S (lwA s) s.heap H' locs' → lv_has ls' 8 [(0, .ref (b)), (1, .ref (q 0)), (2, .ref (r 0)), (3, .ref (o)), (4, .int (nI (6 * t)))] → W p l e room_1 s m #[Value.ref b] below meth c H' locs' (12 + (t + 1)) (1905 + 6 * (t + 1)) (lw_Z below #[Value.ref b] s) (F0 m 1124 ls' [])) : W p l e room_1 s m #[Value.ref b] below meth c H locs (12 + t) (1905 + 6 * t) (lw_Z below #[Value.ref b] s) (F0 m 697 ls []) := by
  by_cases hbad : ((wf_no (xs (6 * t + 1)) || wf_no (xs (6 * t + 3))) || (false)) = true
  · exact law_7_bad hst hL C0 hAll hK ht hbad hIn hP hD hS hl back
  · obtain ⟨g, hE⟩ := Bool.or_eq_false_iff.mp (Bool.eq_false_iff.mpr hbad)
    obtain ⟨g, f3⟩ := Bool.or_eq_false_iff.mp g
    have f1 := g
    obtain ⟨ra, hra, era⟩ := wf_no_is f1
    obtain ⟨rt, hrt, ert⟩ := wf_no_is f3
    by_cases hneg : (xs (6 * t + 2)) < 0
    · obtain ⟨n, hn0, hn, en⟩ := lw_neg hneg
      exact law_7_down hst hL C0 hAll hK ht hra era hrt ert hn0 hn en hIn hP hD hS hl back
    · obtain ⟨n, hn, en⟩ := nI_of hneg
      exact law_7_up hst hL C0 hAll hK ht hra era hrt ert hn en hIn hP hD hS hl back

set_option maxHeartbeats 4000000 in
set_option maxRecDepth 100000 in
theorem law_d8 {p : Program} {l : Launch} {e : Env} {s : State} {m : MethodId} {below : List Frame} {meth : Method} {c : Code} {D : va_G} {q r : Nat → Nat} {κ μ : Nat → ClassId} {o : Nat} {ko : ClassId} {b L : Nat} {xs : Nat → Int32} {t : Nat} {x : SX × (Nat → Int64)} {w : SM} {H : Heap} {locs : List Loc} {ls : Array Slot} (hst : l.stackTraces = false) (hL : L ≤ 3072) (C0 : lw_At p s m meth c b L xs) (hAll : wx_All s) (hK : va_K D vwCl (tyL ko κ μ) s) (ht : 6 * t + 6 ≤ L) (hIn : wf_In x.1 w) (hP : va_P D vwCl (wL o ko q κ r μ x w) H) (hD : va_D (lwA s) (wL o ko q κ r μ x w)) (hS : va_S (lwA s) s.heap H locs) (hl : lv_has ls 8 [(0, .ref (b)), (1, .ref (q 0)), (2, .ref (r 0)), (3, .ref (o)), (4, .int (nI (6 * t)))]) (back : ∀ (x' : SX × (Nat → Int64)) (w' : SM) (H' : Heap) (locs' : List Loc) (ls' : Array Slot), wf_In x'.1 w' → va_P D vwCl (wL o ko q κ r μ x' w') H' → va_D (lwA s) (wL o ko q κ r μ x' w') → va_S (lwA s) s.heap H' locs' → lv_has ls' 8 [(0, .ref (b)), (1, .ref (q 0)), (2, .ref (r 0)), (3, .ref (o)), (4, .int (nI (6 * t)))] → W p l e room_1 s m #[Value.ref b] below meth c H' locs' (12 + (t + 1)) (1905 + 6 * (t + 1)) (lw_Z below #[Value.ref b] s) (F0 m 1124 ls' [])) : W p l e room_1 s m #[Value.ref b] below meth c H locs (12 + t) (1905 + 6 * t) (lw_Z below #[Value.ref b] s) (F0 m 784 ls []) := by
  by_cases hbad : ((wf_no (xs (6 * t + 1)) || wf_no (xs (6 * t + 3))) || (decide ((xs (6 * t + 2)) < 0))) = true
  · exact law_8_bad hst hL C0 hAll hK ht hbad hIn hP hD hS hl back
  · obtain ⟨g, hE⟩ := Bool.or_eq_false_iff.mp (Bool.eq_false_iff.mpr hbad)
    obtain ⟨g, f3⟩ := Bool.or_eq_false_iff.mp g
    have f1 := g
    obtain ⟨ra, hra, era⟩ := wf_no_is f1
    obtain ⟨rt, hrt, ert⟩ := wf_no_is f3
    obtain ⟨n, hn, en⟩ := nI_of (of_decide_eq_false hE)
    exact law_8_ok hst hL C0 hAll hK ht hra era hrt ert hn en hIn hP hD hS hl back

set_option maxHeartbeats 4000000 in
set_option maxRecDepth 100000 in
theorem law_d9 {p : Program} {l : Launch} {e : Env} {s : State} {m : MethodId} {below : List Frame} {meth : Method} {c : Code} {D : va_G} {q r : Nat → Nat} {κ μ : Nat → ClassId} {o : Nat} {ko : ClassId} {b L : Nat} {xs : Nat → Int32} {t : Nat} {x : SX × (Nat → Int64)} {w : SM} {H : Heap} {locs : List Loc} {ls : Array Slot} (hst : l.stackTraces = false) (hL : L ≤ 3072) (C0 : lw_At p s m meth c b L xs) (hAll : wx_All s) (hK : va_K D vwCl (tyL ko κ μ) s) (ht : 6 * t + 6 ≤ L) (hIn : wf_In x.1 w) (hP : va_P D vwCl (wL o ko q κ r μ x w) H) (hD : va_D (lwA s) (wL o ko q κ r μ x w)) (hS : va_S (lwA s) s.heap H locs) (hl : lv_has ls 8 [(0, .ref (b)), (1, .ref (q 0)), (2, .ref (r 0)), (3, .ref (o)), (4, .int (nI (6 * t)))]) (back : ∀ (x' : SX × (Nat → Int64)) (w' : SM) (H' : Heap) (locs' : List Loc) (ls' : Array Slot), wf_In x'.1 w' → va_P D vwCl (wL o ko q κ r μ x' w') H' → va_D (lwA s) (wL o ko q κ r μ x' w') → va_S (lwA s) s.heap H' locs' → lv_has ls' 8 [(0, .ref (b)), (1, .ref (q 0)), (2, .ref (r 0)), (3, .ref (o)), (4, .int (nI (6 * t)))] → W p l e room_1 s m #[Value.ref b] below meth c H' locs' (12 + (t + 1)) (1905 + 6 * (t + 1)) (lw_Z below #[Value.ref b] s) (F0 m 1124 ls' [])) : W p l e room_1 s m #[Value.ref b] below meth c H locs (12 + t) (1905 + 6 * t) (lw_Z below #[Value.ref b] s) (F0 m 844 ls []) := by
  by_cases hbad : ((wf_no (xs (6 * t + 1))) || (false)) = true
  · exact law_9_bad hst hL C0 hAll hK ht hbad hIn hP hD hS hl back
  · obtain ⟨g, hE⟩ := Bool.or_eq_false_iff.mp (Bool.eq_false_iff.mpr hbad)
    have f1 := g
    obtain ⟨ra, hra, era⟩ := wf_no_is f1
    exact law_9_ok hst hL C0 hAll hK ht hra era  hIn hP hD hS hl back

set_option maxHeartbeats 4000000 in
set_option maxRecDepth 100000 in
theorem law_d10 {p : Program} {l : Launch} {e : Env} {s : State} {m : MethodId} {below : List Frame} {meth : Method} {c : Code} {D : va_G} {q r : Nat → Nat} {κ μ : Nat → ClassId} {o : Nat} {ko : ClassId} {b L : Nat} {xs : Nat → Int32} {t : Nat} {x : SX × (Nat → Int64)} {w : SM} {H : Heap} {locs : List Loc} {ls : Array Slot} (hst : l.stackTraces = false) (hL : L ≤ 3072) (C0 : lw_At p s m meth c b L xs) (hAll : wx_All s) (hK : va_K D vwCl (tyL ko κ μ) s) (ht : 6 * t + 6 ≤ L) (hIn : wf_In x.1 w) (hP : va_P D vwCl (wL o ko q κ r μ x w) H) (hD : va_D (lwA s) (wL o ko q κ r μ x w)) (hS : va_S (lwA s) s.heap H locs) (hl : lv_has ls 8 [(0, .ref (b)), (1, .ref (q 0)), (2, .ref (r 0)), (3, .ref (o)), (4, .int (nI (6 * t)))]) (back : ∀ (x' : SX × (Nat → Int64)) (w' : SM) (H' : Heap) (locs' : List Loc) (ls' : Array Slot), wf_In x'.1 w' → va_P D vwCl (wL o ko q κ r μ x' w') H' → va_D (lwA s) (wL o ko q κ r μ x' w') → va_S (lwA s) s.heap H' locs' → lv_has ls' 8 [(0, .ref (b)), (1, .ref (q 0)), (2, .ref (r 0)), (3, .ref (o)), (4, .int (nI (6 * t)))] → W p l e room_1 s m #[Value.ref b] below meth c H' locs' (12 + (t + 1)) (1905 + 6 * (t + 1)) (lw_Z below #[Value.ref b] s) (F0 m 1124 ls' [])) : W p l e room_1 s m #[Value.ref b] below meth c H locs (12 + t) (1905 + 6 * t) (lw_Z below #[Value.ref b] s) (F0 m 900 ls []) := by
  by_cases hbad : ((wf_no (xs (6 * t + 1)) || wf_no (xs (6 * t + 2))) || (false)) = true
  · exact law_10_bad hst hL C0 hAll hK ht hbad hIn hP hD hS hl back
  · obtain ⟨g, hE⟩ := Bool.or_eq_false_iff.mp (Bool.eq_false_iff.mpr hbad)
    obtain ⟨g, f2⟩ := Bool.or_eq_false_iff.mp g
    have f1 := g
    obtain ⟨ra, hra, era⟩ := wf_no_is f1
    obtain ⟨rb, hrb, erb⟩ := wf_no_is f2
    exact law_10_ok hst hL C0 hAll hK ht hra era hrb erb  hIn hP hD hS hl back

set_option maxHeartbeats 4000000 in
set_option maxRecDepth 100000 in
theorem law_d11 {p : Program} {l : Launch} {e : Env} {s : State} {m : MethodId} {below : List Frame} {meth : Method} {c : Code} {D : va_G} {q r : Nat → Nat} {κ μ : Nat → ClassId} {o : Nat} {ko : ClassId} {b L : Nat} {xs : Nat → Int32} {t : Nat} {x : SX × (Nat → Int64)} {w : SM} {H : Heap} {locs : List Loc} {ls : Array Slot} (hst : l.stackTraces = false) (hL : L ≤ 3072) (C0 : lw_At p s m meth c b L xs) (hAll : wx_All s) (hK : va_K D vwCl (tyL ko κ μ) s) (ht : 6 * t + 6 ≤ L) (hIn : wf_In x.1 w) (hP : va_P D vwCl (wL o ko q κ r μ x w) H) (hD : va_D (lwA s) (wL o ko q κ r μ x w)) (hS : va_S (lwA s) s.heap H locs) (hl : lv_has ls 8 [(0, .ref (b)), (1, .ref (q 0)), (2, .ref (r 0)), (3, .ref (o)), (4, .int (nI (6 * t)))]) (back : ∀ (x' : SX × (Nat → Int64)) (w' : SM) (H' : Heap) (locs' : List Loc) (ls' : Array Slot), wf_In x'.1 w' → va_P D vwCl (wL o ko q κ r μ x' w') H' → va_D (lwA s) (wL o ko q κ r μ x' w') → va_S (lwA s) s.heap H' locs' → lv_has ls' 8 [(0, .ref (b)), (1, .ref (q 0)), (2, .ref (r 0)), (3, .ref (o)), (4, .int (nI (6 * t)))] → W p l e room_1 s m #[Value.ref b] below meth c H' locs' (12 + (t + 1)) (1905 + 6 * (t + 1)) (lw_Z below #[Value.ref b] s) (F0 m 1124 ls' [])) : W p l e room_1 s m #[Value.ref b] below meth c H locs (12 + t) (1905 + 6 * t) (lw_Z below #[Value.ref b] s) (F0 m 968 ls []) := by
  by_cases hbad : ((wf_no (xs (6 * t + 1))) || (false)) = true
  · exact law_11_bad hst hL C0 hAll hK ht hbad hIn hP hD hS hl back
  · obtain ⟨g, hE⟩ := Bool.or_eq_false_iff.mp (Bool.eq_false_iff.mpr hbad)
    have f1 := g
    obtain ⟨ra, hra, era⟩ := wf_no_is f1
    exact law_11_ok hst hL C0 hAll hK ht hra era  hIn hP hD hS hl back

set_option maxHeartbeats 4000000 in
set_option maxRecDepth 100000 in
theorem law_d12 {p : Program} {l : Launch} {e : Env} {s : State} {m : MethodId} {below : List Frame} {meth : Method} {c : Code} {D : va_G} {q r : Nat → Nat} {κ μ : Nat → ClassId} {o : Nat} {ko : ClassId} {b L : Nat} {xs : Nat → Int32} {t : Nat} {x : SX × (Nat → Int64)} {w : SM} {H : Heap} {locs : List Loc} {ls : Array Slot} (hst : l.stackTraces = false) (hL : L ≤ 3072) (C0 : lw_At p s m meth c b L xs) (hAll : wx_All s) (hK : va_K D vwCl (tyL ko κ μ) s) (ht : 6 * t + 6 ≤ L) (hIn : wf_In x.1 w) (hP : va_P D vwCl (wL o ko q κ r μ x w) H) (hD : va_D (lwA s) (wL o ko q κ r μ x w)) (hS : va_S (lwA s) s.heap H locs) (hl : lv_has ls 8 [(0, .ref (b)), (1, .ref (q 0)), (2, .ref (r 0)), (3, .ref (o)), (4, .int (nI (6 * t)))]) (back : ∀ (x' : SX × (Nat → Int64)) (w' : SM) (H' : Heap) (locs' : List Loc) (ls' : Array Slot), wf_In x'.1 w' → va_P D vwCl (wL o ko q κ r μ x' w') H' → va_D (lwA s) (wL o ko q κ r μ x' w') → va_S (lwA s) s.heap H' locs' → lv_has ls' 8 [(0, .ref (b)), (1, .ref (q 0)), (2, .ref (r 0)), (3, .ref (o)), (4, .int (nI (6 * t)))] → W p l e room_1 s m #[Value.ref b] below meth c H' locs' (12 + (t + 1)) (1905 + 6 * (t + 1)) (lw_Z below #[Value.ref b] s) (F0 m 1124 ls' [])) : W p l e room_1 s m #[Value.ref b] below meth c H locs (12 + t) (1905 + 6 * t) (lw_Z below #[Value.ref b] s) (F0 m 1024 ls []) := by
  by_cases h0 : (xs (6 * t + 1)) < 0
  · exact law_12_neg hst hL C0 hAll hK ht h0 hIn hP hD hS hl back
  · obtain ⟨j, hj31, ej⟩ := nI_of h0
    obtain ⟨c_, d1, d2, d3, d4⟩ := hIn.2
    rcases Nat.lt_or_ge j c_ with hj | hj
    · exact law_12_in hst hL C0 hAll hK ht d1 d2 d3 d4 hj ej hIn hP hD hS hl back
    · exact law_12_big hst hL C0 hAll hK ht d1 d2 d3 d4 hj31 hj ej hIn hP hD hS hl back

set_option maxHeartbeats 4000000 in
set_option maxRecDepth 100000 in
theorem law_d13 {p : Program} {l : Launch} {e : Env} {s : State} {m : MethodId} {below : List Frame} {meth : Method} {c : Code} {D : va_G} {q r : Nat → Nat} {κ μ : Nat → ClassId} {o : Nat} {ko : ClassId} {b L : Nat} {xs : Nat → Int32} {t : Nat} {x : SX × (Nat → Int64)} {w : SM} {H : Heap} {locs : List Loc} {ls : Array Slot} (hst : l.stackTraces = false) (hL : L ≤ 3072) (C0 : lw_At p s m meth c b L xs) (hAll : wx_All s) (hK : va_K D vwCl (tyL ko κ μ) s) (ht : 6 * t + 6 ≤ L) (hIn : wf_In x.1 w) (hP : va_P D vwCl (wL o ko q κ r μ x w) H) (hD : va_D (lwA s) (wL o ko q κ r μ x w)) (hS : va_S (lwA s) s.heap H locs) (hl : lv_has ls 8 [(0, .ref (b)), (1, .ref (q 0)), (2, .ref (r 0)), (3, .ref (o)), (4, .int (nI (6 * t)))]) (back : ∀ (x' : SX × (Nat → Int64)) (w' : SM) (H' : Heap) (locs' : List Loc) (ls' : Array Slot), wf_In x'.1 w' → va_P D vwCl (wL o ko q κ r μ x' w') H' → va_D (lwA s) (wL o ko q κ r μ x' w') → va_S (lwA s) s.heap H' locs' → lv_has ls' 8 [(0, .ref (b)), (1, .ref (q 0)), (2, .ref (r 0)), (3, .ref (o)), (4, .int (nI (6 * t)))] → W p l e room_1 s m #[Value.ref b] below meth c H' locs' (12 + (t + 1)) (1905 + 6 * (t + 1)) (lw_Z below #[Value.ref b] s) (F0 m 1124 ls' [])) : W p l e room_1 s m #[Value.ref b] below meth c H locs (12 + t) (1905 + 6 * t) (lw_Z below #[Value.ref b] s) (F0 m 1049 ls []) := by
  by_cases hbad : ((wf_no (xs (6 * t + 1))) || (decide ((xs (6 * t + 2)) < 0) || decide (9 < (xs (6 * t + 2))))) = true
  · exact law_13_bad hst hL C0 hAll hK ht hbad hIn hP hD hS hl back
  · obtain ⟨g, hE⟩ := Bool.or_eq_false_iff.mp (Bool.eq_false_iff.mpr hbad)
    have f1 := g
    obtain ⟨ra, hra, era⟩ := wf_no_is f1
    obtain ⟨g1, g2⟩ := Bool.or_eq_false_iff.mp hE
    obtain ⟨d, hd, ed⟩ := nI_of2 (x := (xs (6 * t + 2))) (M := 9) (n := 9) (by decide) (of_decide_eq_false g1) (Int32.not_lt.mp (of_decide_eq_false g2))
    exact law_13_ok hst hL C0 hAll hK ht hra era (d := d) (by omega) ed hIn hP hD hS hl back

set_option maxHeartbeats 4000000 in
set_option maxRecDepth 100000 in
theorem law_loop {p : Program} {l : Launch} {e : Env} {s : State} {m : MethodId} {below : List Frame} {meth : Method} {c : Code} {D : va_G} {q r : Nat → Nat} {κ μ : Nat → ClassId} {o : Nat} {ko : ClassId} {b L : Nat} {xs : Nat → Int32} (hst : l.stackTraces = false) (hL : L ≤ 3072) (C0 : lw_At p s m meth c b L xs) (hAll : wx_All s) (hK : va_K D vwCl (tyL ko κ μ) s) :
    ∀ (n t : Nat), L + 1 ≤ 6 * t + n → 6 * t ≤ L → ∀ (x : SX × (Nat → Int64)) (w : SM) (H : Heap) (locs : List Loc) (ls : Array Slot), wf_In x.1 w → va_P D vwCl (wL o ko q κ r μ x w) H → va_D (lwA s) (wL o ko q κ r μ x w) → va_S (lwA s) s.heap H locs → lv_has ls 8 [(0, .ref (b)), (1, .ref (q 0)), (2, .ref (r 0)), (3, .ref (o)), (4, .int (nI (6 * t)))] →
      W p l e room_1 s m #[Value.ref b] below meth c H locs (12 + t) (1905 + 6 * t) (lw_Z below #[Value.ref b] s) (F0 m 23 ls []) := by
  obtain ⟨hx, hb, hr, hml, hown, hts0, hX, hbl, hlocks, hgv⟩ := id C0
  have hbA : ¬ lwA s b := Nat.not_le.mpr hbl
  intro n
  induction n with
  | zero =>
    intro t h1 h2
    exact absurd h1 (by omega)
  | succ n ih =>
    intro t h1 h2 x w H locs ls hIn hP hD hS hl
    refine lv_iload hx hb d_law_23 (lv_at hl 4 rfl) ?_
    refine lv_aload_n hx hb d_law_25 rfl (lv_at hl 0 rfl) ?_
    refine va_slen hx hb hX hbl hbA hS d_law_26 ?_
    refine lv_bipush (v := 6) hx hb d_law_27 (by decide) ?_
    refine lv_isub hx hb d_law_29 ?_
    refine lv_icmp_gt (tgt := 1130) hx hb d_law_30 (by decide) (fun c1 => ?_) (fun c1 => ?_)
    · refine lv_iconst (v := 1) hx hb d_law_1130 (by decide) ?_
      refine va_forget (fun z hz => hS.2.2 z hz) ?_
      refine W.widen (k := 1041) (n := 10127) (by omega) (by omega) ?_
      exact lw_ret hx hb hr hlocks d_law_1131
    have ht : 6 * t + 6 ≤ L := Nat.not_lt.mp (fun h => c1 ((lw_cond hL (by omega)).mpr h))
    have back : ∀ (x' : SX × (Nat → Int64)) (w' : SM) (H' : Heap) (locs' : List Loc) (ls' : Array Slot), wf_In x'.1 w' → va_P D vwCl (wL o ko q κ r μ x' w') H' → va_D (lwA s) (wL o ko q κ r μ x' w') → va_S (lwA s) s.heap H' locs' → lv_has ls' 8 [(0, .ref (b)), (1, .ref (q 0)), (2, .ref (r 0)), (3, .ref (o)), (4, .int (nI (6 * t)))] → W p l e room_1 s m #[Value.ref b] below meth c H' locs' (12 + (t + 1)) (1905 + 6 * (t + 1)) (lw_Z below #[Value.ref b] s) (F0 m 1124 ls' []) := by
      intro x' w' H' locs' ls' hIn hP hD hS hl
      refine lv_iinc (v := nI (6 * (t + 1))) (lv' := [(4, .int (nI (6 * (t + 1)))), (0, .ref (b)), (1, .ref (q 0)), (2, .ref (r 0)), (3, .ref (o))]) hx hb d_law_1124 hl (k := 4) rfl ((nI_add (6 * t) 6).trans (congrArg nI (by omega))) (by decide) rfl (fun ls hl => ?_)
      refine lv_goto (tgt := 23) hx hb d_law_1127 (by decide) ?_
      exact ih (t + 1) (by omega) (by omega) x' w' H' locs' ls hIn hP hD hS (lv_sub hl [1, 2, 3, 4, 0] rfl)
    refine lv_aload_n hx hb d_law_33 rfl (lv_at hl 0 rfl) ?_
    refine lv_iload hx hb d_law_34 (lv_at hl 4 rfl) ?_
    refine lw_ld hx hb hX hbl hbA hS (k := 6 * t) rfl (by omega) hL d_law_36 ?_
    refine lv_bipush (v := 15) hx hb d_law_37 (by decide) ?_
    refine lv_iand hx hb d_law_39 ?_
    obtain ⟨j, hj, ej⟩ := lw_and15 (xs (6 * t))
    rw [ej]
    rcases (show j = 0 ∨ j = 1 ∨ j = 2 ∨ j = 3 ∨ j = 4 ∨ j = 5 ∨ j = 6 ∨ j = 7 ∨ j = 8 ∨ j = 9 ∨ j = 10 ∨ j = 11 ∨ j = 12 ∨ j = 13 ∨ j = 14 ∨ j = 15 by omega) with rfl | rfl | rfl | rfl | rfl | rfl | rfl | rfl | rfl | rfl | rfl | rfl | rfl | rfl | rfl | rfl
    · refine lv_tableIn (tgt := 112) (off := 72) hx hb d_law_40 (by decide) (by decide) rfl (by decide) ?_
      exact law_d0 hst hL C0 hAll hK ht hIn hP hD hS hl back
    · refine lv_tableIn (tgt := 236) (off := 196) hx hb d_law_40 (by decide) (by decide) rfl (by decide) ?_
      exact law_d1 hst hL C0 hAll hK ht hIn hP hD hS hl back
    · refine lv_tableIn (tgt := 319) (off := 279) hx hb d_law_40 (by decide) (by decide) rfl (by decide) ?_
      exact law_d2 hst hL C0 hAll hK ht hIn hP hD hS hl back
    · refine lv_tableIn (tgt := 406) (off := 366) hx hb d_law_40 (by decide) (by decide) rfl (by decide) ?_
      exact law_d3 hst hL C0 hAll hK ht hIn hP hD hS hl back
    · refine lv_tableIn (tgt := 493) (off := 453) hx hb d_law_40 (by decide) (by decide) rfl (by decide) ?_
      exact law_d4 hst hL C0 hAll hK ht hIn hP hD hS hl back
    · refine lv_tableIn (tgt := 565) (off := 525) hx hb d_law_40 (by decide) (by decide) rfl (by decide) ?_
      exact law_d5 hst hL C0 hAll hK ht hIn hP hD hS hl back
    · refine lv_tableIn (tgt := 637) (off := 597) hx hb d_law_40 (by decide) (by decide) rfl (by decide) ?_
      exact law_d6 hst hL C0 hAll hK ht hIn hP hD hS hl back
    · refine lv_tableIn (tgt := 697) (off := 657) hx hb d_law_40 (by decide) (by decide) rfl (by decide) ?_
      exact law_d7 hst hL C0 hAll hK ht hIn hP hD hS hl back
    · refine lv_tableIn (tgt := 784) (off := 744) hx hb d_law_40 (by decide) (by decide) rfl (by decide) ?_
      exact law_d8 hst hL C0 hAll hK ht hIn hP hD hS hl back
    · refine lv_tableIn (tgt := 844) (off := 804) hx hb d_law_40 (by decide) (by decide) rfl (by decide) ?_
      exact law_d9 hst hL C0 hAll hK ht hIn hP hD hS hl back
    · refine lv_tableIn (tgt := 900) (off := 860) hx hb d_law_40 (by decide) (by decide) rfl (by decide) ?_
      exact law_d10 hst hL C0 hAll hK ht hIn hP hD hS hl back
    · refine lv_tableIn (tgt := 968) (off := 928) hx hb d_law_40 (by decide) (by decide) rfl (by decide) ?_
      exact law_d11 hst hL C0 hAll hK ht hIn hP hD hS hl back
    · refine lv_tableIn (tgt := 1024) (off := 984) hx hb d_law_40 (by decide) (by decide) rfl (by decide) ?_
      exact law_d12 hst hL C0 hAll hK ht hIn hP hD hS hl back
    · refine lv_tableIn (tgt := 1049) (off := 1009) hx hb d_law_40 (by decide) (by decide) rfl (by decide) ?_
      exact law_d13 hst hL C0 hAll hK ht hIn hP hD hS hl back
    · refine lv_tableOut (tgt := 1124) hx hb d_law_40 (Or.inr (by decide)) (by decide) ?_
      exact W.widen (k := 12 + (t + 1)) (n := 1905 + 6 * (t + 1)) (by omega) (by omega) (back x w H locs ls hIn hP hD hS hl)
    · refine lv_tableOut (tgt := 1124) hx hb d_law_40 (Or.inr (by decide)) (by decide) ?_
      exact W.widen (k := 12 + (t + 1)) (n := 1905 + 6 * (t + 1)) (by omega) (by omega) (back x w H locs ls hIn hP hD hS hl)

theorem wf_R_0 (j : Nat) : wf_R (fun _ => false) j = 0 := by
  unfold wf_R
  exact wf_sm_eq0.mpr (fun k _ => rfl)
theorem wf_Rx_0 {u : SX} {j : Nat} (h1 : u.1 j = 0) (h2 : u.2.1 j = 0) : wf_Rx u j = 0 := by
  unfold wf_Rx wf_V
  rw [h1, h2, show uN (0 : Int64) = 0 from by decide]
theorem In_of {x : SX} {w : SM} (h1 : ∀ j, x.1 j = 0) (h2 : ∀ j, x.2.1 j = 0) (h3 : x.2.2.2.2 = 39) (h4 : w.2.1 = fun _ => false) (h5 : w.2.2.2.2.2.2 = 0) : wf_In x w := by
  refine ⟨fun j _ => ?_, 0, by decide, ?_, ?_, fun i hi => absurd hi (Nat.not_lt_zero i)⟩
  · rw [wf_Rx_0 (h1 j) (h2 j), h4, wf_R_0]
  · rw [h3]; decide +kernel
  · rw [h5]; decide +kernel
theorem In_0 : wf_In ((fun _ => 0, fun _ => 0, fun _ => 0, fun _ => 0, 39) : SX) ((0, fun _ => false, fun _ => false, fun _ => false, fun _ => false, fun _ => 0, 0) : SM) :=
  In_of (fun _ => rfl) (fun _ => rfl) rfl rfl rfl
theorem lw_all {args : Array Value} {s : State} (hts : ∀ w ∈ lw_tbl, w.before args s = true) (hgv : (Jvm.Cond.and given_1 narrow_1).before args s = true) : wx_All s := by
  have hq := flat_of_before _ hgv
  have mv : ∀ {a b : String}, (Cond.not (.castable a b)).before args s = true → va_Nc a b s := fun h => Cond.notCastable_spec h
  refine ⟨fun w hw => ?_, mv (hq _ (by decide +kernel)), mv (hq _ (by decide +kernel)), mv (hq _ (by decide +kernel))⟩
  refine wo_move (args := args) (State.WarmedH.refl s) (fun _ _ => rfl) (wO_ok w hw) ?_
  rcases wx_tblO w hw with h | h | h
  · exact hts w h
  · rw [h]; exact hq _ (by decide +kernel)
  · rw [h]; exact hq _ (by decide +kernel)
