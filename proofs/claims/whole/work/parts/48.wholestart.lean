/-! ===== the law from its entry ===== -/
set_option maxHeartbeats 4000000 in
set_option maxRecDepth 100000 in
theorem whole_start {p : Program} {e : Env} {s : State} {m : MethodId} {below : List Frame} {meth : Method} {c : Code} (l : Launch) (hst : l.stackTraces = false) {b L : Nat} {xs : Nat → Int32} (hL : L ≤ 3072) (C0 : lw_At p s m meth c b L xs) : W p l e room_1 s m #[Value.ref b] below meth c s.heap [] 0 0 (lw_Z below #[Value.ref b] s) (entryFrame m ([Value.ref b] : List Value).toArray 8) := by
  obtain ⟨hx, hb, hr, hml, hown, hts0, hX, hbl, hlocks, hgv⟩ := id C0
  have hts : ∀ w ∈ wG, w.before #[Value.ref b] s = true := fun w h => hts0 w (wG_tbl h)
  have C : CallFix p m c code 8 s #[Value.ref b] wG RL := ⟨hx, hb, hml, hown, hts⟩
  have hAll : wx_All s := lw_all hts0 hgv
  have hA : ∀ z : Nat, s.heap.size ≤ z → lwA s z := fun _ h => h
  have hbA : ¬ lwA s b := Nat.not_le.mpr hbl
  obtain ⟨c0, iS0, hKn0⟩ := u_known (C := RX) (T := FX) (N := 5) (n := 5) hts iX (hts _ k_it_X)
  obtain ⟨c1, iS1, hKn1⟩ := u_known (C := RM) (T := FM) (N := 7) (n := 7) hts iM (hts _ k_it_M)
  obtain ⟨D, hKc⟩ : ∃ D : va_G, ∀ (k : Nat) (q : vw_C), vwCl[k]? = some q → u_Kn s q.1 q.2.1 q.2.2 (D.1 k) (D.2 k) := by
    refine ⟨(fun k => if k = 0 then c0 else c1, fun k => if k = 0 then iS0 else iS1), ?_⟩
    intro k q hq
    match k, hq with
    | 0, hq => cases hq; exact hKn0
    | 1, hq => cases hq; exact hKn1
    | k + 2, hq => simp [vwCl] at hq
  have hS : va_S (lwA s) s.heap s.heap [] := va_S.rf
  have hK : va_K D vwCl [] s := ⟨hKc, fun k q h => by simp at h⟩
  have hP : va_P D vwCl [] s.heap := fun k q h => by simp at h
  have hD : va_D (lwA s) [] := ⟨fun i j p q h => by simp at h, fun k q h => by simp at h⟩
  have hl := lv_entry ([.ref b]) (n := 8) (Nat.le_of_ble_eq_true rfl)
  rw [lg_entry_eq]
  generalize (lg_sl ([.ref b]) ++ List.replicate (8 - (lg_sl ([.ref b])).length) Slot.unset).toArray = ls at hl ⊢
  have hl : lv_has ls 8 [(0, .ref b)] := hl
  refine va_new (ci := 0) (fs := [.null, .null, .null, .null, .int 0]) (C := RX) (T := FX) (N := 5) hx hb hts iX tX tX_ok hown (hts _ k_kl_L_8) (hts _ k_it_X) (hts _ k_in_X) hK hP hD hS hA rfl (fun j hj => by rcases (show j = 0 ∨ j = 1 ∨ j = 2 ∨ j = 3 ∨ j = 4 by omega) with rfl | rfl | rfl | rfl | rfl <;> rfl) (Nat.le_of_ble_eq_true rfl) (Nat.le_of_ble_eq_true rfl) d_law_0 (fun h0 H hP hD hS => ?_)
  have hP : va_P D vwCl [(h0, .inr (0, [.null, .null, .null, .null, .int 0]))] H := hP
  have hD : va_D (lwA s) [(h0, .inr (0, [.null, .null, .null, .null, .int 0]))] := hD
  refine W.widen (k := 1) (n := 5) (Nat.le_refl _) (Nat.le_refl _) ?_
  refine lv_dup hx hb d_law_3 rfl ?_
  have hFc := va_free (wc := [(h0, .inr (0, [.null, .null, .null, .null, .int 0]))]) hD hS hA [0] rfl
  refine va_callv (va_runI (As := []) (rest := [.ref h0]) C (c_X_init l D h0 H.size) (cwI 0 hts (wG_sub (fun _ h => h) (wG_cons k_X_init)) rfl rfl rfl (hts _ k_in_X) (hts _ k_ml_L_62) (hts _ k_im_X_init) rfl (by decide +kernel) ⟨Nat.le_of_ble_eq_true rfl, Nat.le_of_ble_eq_true rfl⟩) ⟨wf_blind, wf_pre hP hK hD⟩ rfl rfl hl.1 rfl (lv_room (Nat.le_of_ble_eq_true rfl)) d_law_4 ⟨Nat.le_of_ble_eq_true rfl, Nat.le_of_ble_eq_true rfl⟩) hS (fun q _ h => hFc q h) hFc (fun u t H1 locs ht hvm hw hB hz1 hk1 hS => ?_)
  obtain ⟨q, κ, u⟩ := u
  obtain ⟨hP1, hK1, hD1⟩ := hB
  obtain ⟨hq0, hu⟩ := hw
  rw [ht] at hP1
  have hK1 := va_K.moved hvm.symm hK1
  have hq0 : q 0 = h0 := hq0
  have hP1 : va_P D vwCl (wX q κ u) H1 := hP1
  have hK1 : va_K D vwCl (tyX κ) s := hK1
  have hD1 : va_D _ (wX q κ u) := hD1
  have hu : u = _ := hu
  obtain ⟨hP2, hD2⟩ := va_join (wr := []) (w1 := wX q κ u) hP hD [0] [] rfl rfl (by decide) (by decide) hk1 hFc hP1 hD1
  clear hP hD hP1 hD1 hFc hK
  have hP : va_P D vwCl (wX q κ u) H1 := hP2
  have hD : va_D (lwA s) (wX q κ u) := hD2
  clear hP2 hD2
  refine W.widen (k := 5) (n := 64) (Nat.le_refl _) (Nat.le_refl _) ?_
  rw [← hq0]
  refine lv_astore_n (lv' := [(1, .ref (q 0)), (0, .ref b)]) hx hb d_law_7 rfl hl (by decide) rfl (fun ls hl => ?_)
  refine va_new (ci := 1) (fs := [.int 0, .null, .null, .null, .null, .null, .int 0]) (C := RM) (T := FM) (N := 7) hx hb hts iM tM tM_ok hown (hts _ k_kl_L_63) (hts _ k_it_M) (hts _ k_in_M) hK1 hP hD hS hA rfl (fun j hj => by rcases (show j = 0 ∨ j = 1 ∨ j = 2 ∨ j = 3 ∨ j = 4 ∨ j = 5 ∨ j = 6 by omega) with rfl | rfl | rfl | rfl | rfl | rfl | rfl <;> rfl) (Nat.le_of_ble_eq_true rfl) (Nat.le_of_ble_eq_true rfl) d_law_8 (fun m0 H2 hP3 hD3 hS => ?_)
  clear hP hD
  refine W.widen (k := 6) (n := 71) (Nat.le_refl _) (Nat.le_refl _) ?_
  refine lv_dup hx hb d_law_11 rfl ?_
  have hPc := hP3.sub (ws' := [(m0, .inr (1, [.int 0, .null, .null, .null, .null, .null, .int 0]))]) [5] rfl
  have hDc := hD3.sub (ws' := [(m0, .inr (1, [.int 0, .null, .null, .null, .null, .null, .int 0]))]) [5] (by decide) rfl
  have hKc1 := hK1.sub (tys' := []) [] rfl
  have hFc := va_free (wc := [(m0, .inr (1, [.int 0, .null, .null, .null, .null, .null, .int 0]))]) hD3 hS hA [5] rfl
  refine va_callv (va_runI (As := []) (rest := [.ref m0]) C (c_M_init l D m0 H2.size) (cwI 0 hts (wG_sub (fun _ h => h) (wG_cons k_M_init)) rfl rfl rfl (hts _ k_in_M) (hts _ k_ml_L_65) (hts _ k_im_M_init) rfl (by decide +kernel) ⟨Nat.le_of_ble_eq_true rfl, Nat.le_of_ble_eq_true rfl⟩) ⟨wf_blind, wf_pre hPc hKc1 hDc⟩ rfl rfl hl.1 rfl (lv_room (Nat.le_of_ble_eq_true rfl)) d_law_12 ⟨Nat.le_of_ble_eq_true rfl, Nat.le_of_ble_eq_true rfl⟩) hS (fun q _ h => hFc q h) hFc (fun w t2 H3 locs ht2 hvm2 hw2 hB2 hz2 hk2 hS => ?_)
  obtain ⟨r, μ, w⟩ := w
  obtain ⟨hP4, hK4, hD4⟩ := hB2
  obtain ⟨hr0, hwu⟩ := hw2
  rw [ht2] at hP4
  have hK4 := va_K.moved hvm2.symm hK4
  have hr0 : r 0 = m0 := hr0
  have hP4 : va_P D vwCl (wM r μ w) H3 := hP4
  have hK4 : va_K D vwCl (tyM μ) s := hK4
  have hD4 : va_D _ (wM r μ w) := hD4
  have hwu : w = _ := hwu
  obtain ⟨hP5, hD5⟩ := va_join (wr := wX q κ u) (w1 := wM r μ w) hP3 hD3 [5] [0, 1, 2, 3, 4] rfl rfl (by decide) (by decide) hk2 hFc hP4 hD4
  have hK5 := hK1.app hK4
  clear hP3 hD3 hP4 hD4 hFc hPc hDc
  refine W.widen (k := 11) (n := 1904) (Nat.le_refl _) (Nat.le_refl _) ?_
  rw [← hr0]
  refine lv_astore_n (lv' := [(2, .ref (r 0)), (1, .ref (q 0)), (0, .ref b)]) hx hb d_law_15 rfl hl (by decide) rfl (fun ls hl => ?_)
  refine lv_iconst (v := 1) hx hb d_law_16 (by decide) ?_
  refine va_newa (atype := .long) (ty := .long) (a0 := (1, .inr (.inl (fun _ => 0)))) (N' := 1) hx hb (hts _ k_ac_long) rfl hK5 hP5 hD5 hS hA (fun _ => rfl) (by decide) (by decide) (by decide) (Nat.le_of_ble_eq_true rfl) (Nat.le_of_ble_eq_true rfl) d_law_17 (fun o ko H4 hK6 hP6 hD6 hS => ?_)
  have hP := hP6.sub (ws' := wL o ko q κ r μ (u, fun _ => 0) w) [0, 1, 2, 3, 4, 11, 5, 6, 7, 8, 9, 10] rfl
  have hD := hD6.sub (ws' := wL o ko q κ r μ (u, fun _ => 0) w) [0, 1, 2, 3, 4, 11, 5, 6, 7, 8, 9, 10] (by decide) rfl
  have hK := hK6.sub (tys' := tyL ko κ μ) [0, 1, 2, 3, 9, 4, 5, 6, 7, 8] rfl
  refine W.widen (k := 12 + 0) (n := 1905 + 6 * 0) (Nat.le_refl _) (Nat.le_refl _) ?_
  refine lv_astore_n (lv' := [(3, .ref o), (2, .ref (r 0)), (1, .ref (q 0)), (0, .ref b)]) hx hb d_law_19 rfl hl (by decide) rfl (fun ls hl => ?_)
  refine lv_iconst (v := 0) hx hb d_law_20 (by decide) ?_
  refine lv_istore (lv' := [(4, .int 0), (3, .ref o), (2, .ref (r 0)), (1, .ref (q 0)), (0, .ref b)]) hx hb d_law_21 hl (by decide) rfl (fun ls hl => ?_)
  have hIn : wf_In u w := by rw [hu, hwu]; exact In_0
  exact law_loop hst hL C0 hAll hK (L + 1) 0 (by omega) (by omega) (u, fun _ => 0) w H4 _ ls hIn hP hD hS (lv_sub hl [4, 3, 2, 1, 0] rfl)
