/-! ===== the words of a throw; methods of the class that throw ===== -/
def wx_okk : Cond → Bool
  | .laysStatic .. => true
  | .castable .. => true
  | .stringRef .. => true
  | .isRef (.static ..) => true
  | .superclass .. => true
  | w => w.tabsOnly
theorem wo_lays {args a' : Array Value} {s S : State} (hW : s.WarmedH S.vm) (hH : ∀ q : Nat, q < s.heap.size → S.heap[q]? = s.heap[q]?) {O f d : String} (h : (Cond.laysStatic O f d).before args s = true) : (Cond.laysStatic O f d).before a' S = true := by
  have h1 : (Cond.laysStatic O f d).before args (s.setVm S.vm) = true := by
    simp only [Cond.before, Cond.holds] at h ⊢
    rw [Cond.value_setVm hW.alike _ _ rfl]
    exact h
  have hff : S.fieldFound? O f d = (s.setVm S.vm).fieldFound? O f d := rfl
  simp only [Cond.before, Cond.holds, Cond.value, State.vm_setVm, State.heap_setVm] at h1 ⊢
  rw [hff]
  cases hc : S.vm.findClass O with
  | none => simp [hc] at h1
  | some c =>
    cases hf : (s.setVm S.vm).fieldFound? O f d with
    | none => simp [hc, hf] at h1
    | some q =>
      obtain ⟨c', k, i, fl⟩ := q
      simp only [hc, hf] at h1 ⊢
      cases hs : k.statics with
      | none => simp [hs] at h1
      | some st =>
        simp only [hs, Option.bind_some] at h1 ⊢
        cases hh : s.heap[st]? with
        | none => simp [hh] at h1
        | some cell =>
          rw [hH st (Array.getElem?_eq_some_iff.mp hh).1]
          exact h1
theorem wo_isRef {args a' : Array Value} {s S : State} (hW : s.WarmedH S.vm) (hH : ∀ q : Nat, q < s.heap.size → S.heap[q]? = s.heap[q]?) {O f d : String} (h : (Cond.isRef (.static O f d)).before args s = true) : (Cond.isRef (.static O f d)).before a' S = true := by
  have h1 : (Cond.isRef (.static O f d)).before args (s.setVm S.vm) = true := by
    simp only [Cond.before, Cond.holds] at h ⊢
    rw [Cond.value_setVm hW.alike _ _ rfl]
    exact h
  have hff : S.fieldNamed? O f d true = (s.setVm S.vm).fieldNamed? O f d true := rfl
  simp only [Cond.before, Cond.holds, Cond.value, Term.eval, State.vm_setVm, State.heap_setVm] at h1 ⊢
  rw [hff]
  cases hf : (s.setVm S.vm).fieldNamed? O f d true with
  | none => simp [hf] at h1
  | some q =>
    obtain ⟨c', k, i⟩ := q
    simp only [hf] at h1 ⊢
    cases hs : k.statics with
    | none => simp [hs] at h1
    | some st =>
      cases hh : s.heap[st]? with
      | none => simp [hs, hh] at h1
      | some cell =>
        simp only [hs, Option.bind_eq_bind, Option.bind_some] at h1 ⊢
        rw [hH st (Array.getElem?_eq_some_iff.mp hh).1]
        exact h1
theorem wo_move {args a' : Array Value} {s S : State} (hW : s.WarmedH S.vm) (hH : ∀ q : Nat, q < s.heap.size → S.heap[q]? = s.heap[q]?) {w : Cond} (hk : wx_okk w = true) (h : w.before args s = true) : w.before a' S = true := by
  unfold wx_okk at hk
  split at hk
  · exact wo_lays hW hH h
  · have h1 := Cond.tabsOnly_warm (args' := a') (T := S) hW _ rfl h
    rwa [State.setVm_self] at h1
  · exact Cond.stringRef_warmed (args := a') hW h
  · exact wo_isRef hW hH h
  · have h1 := Cond.tabsOnly_warm (args' := a') (T := S) hW _ rfl h
    rwa [State.setVm_self] at h1
  · have h1 := Cond.tabsOnly_warm (args' := a') (T := S) hW _ hk h
    rwa [State.setVm_self] at h1
abbrev wx_nm : List String := ["java/lang/RuntimeException", "java/lang/Exception"]
abbrev EI : String := "java/lang/IndexOutOfBoundsException"
abbrev EA : String := "java/lang/IllegalArgumentException"
abbrev EX : String := "java/lang/ArithmeticException"
/-- the words that a throw needs beyond the good ones -/
def wO : List Cond := ((Bundle.ownAtoms RX 104 EI wx_nm ++ Bundle.ownAtoms RX 76 EA wx_nm ++ Bundle.ownAtoms RX 55 EX wx_nm).filter fun w => !goodWord w) ++ [.stringRef RX 102 "no such register", .stringRef RX 105 "both results would go to the same register", .stringRef RX 53 "the divisor is 0", .stringRef RX 74 "the distance is below 0", .stringRef RX 95 "not a digit 0 .. 9"]
theorem wO_ok : ∀ w ∈ wO, wx_okk w = true := by decide +kernel
theorem wx_ownG (E : String) (ic : Nat) (h : (ic, E) ∈ [(104, EI), (76, EA), (55, EX)]) : ∀ w ∈ Bundle.ownAtoms RX ic E wx_nm, goodWord w = true → w ∈ lw_tbl := by
  simp only [List.mem_cons, List.not_mem_nil, or_false] at h
  rcases h with h | h | h <;> cases h <;> decide +kernel
theorem wx_tblO : ∀ w ∈ wO, w ∈ lw_tbl ∨ w = .isRef (.static "java/lang/Throwable" "UNASSIGNED_STACK" "[Ljava/lang/StackTraceElement;") ∨ w = .isRef (.static "java/lang/Throwable" "SUPPRESSED_SENTINEL" "Ljava/util/List;") := by decide +kernel

theorem wx_hat {E : String} {ic : Nat} (h : (ic, E) ∈ [(104, EI), (76, EA), (55, EX)]) {args : Array Value} {s : State} (hts : ∀ w ∈ wG, w.before args s = true) (hO : ∀ w ∈ wO, w.before args s = true) : ∀ w ∈ Bundle.ownAtoms RX ic E wx_nm, w.before args s = true := by
  intro w hw
  by_cases hg : goodWord w = true
  · exact hts w (wG_in (wx_ownG E ic h w hw hg) hg)
  · refine hO w (List.mem_append_left _ (List.mem_filter.mpr ⟨?_, by simp [hg]⟩))
    simp only [List.mem_cons, List.not_mem_nil, or_false] at h
    rcases h with h | h | h <;> cases h
    · exact List.mem_append_left _ (List.mem_append_left _ hw)
    · exact List.mem_append_left _ (List.mem_append_right _ hw)
    · exact List.mem_append_right _ hw
/-- the start of a method that throws -/
def wx_Pc (av : List Value) (Xt : State → Prop) : Array Value → State → Prop := fun a U => a = av.toArray ∧ (∀ w ∈ wO, w.before #[] U = true) ∧ Xt U
theorem wx_Pc_blind {av : List Value} {Xt : State → Prop} (hX : ∀ (U : State) (g : JFrame) (mk : MethodId) (a : Array Value), Xt U → Xt (U.calling g mk a)) : FrameBlind (wx_Pc av Xt) := fun a U g mk ⟨h1, h2, h3⟩ =>
  ⟨h1, fun w hw => wo_move (s := U) (S := U.calling g mk a) (State.WarmedH.refl U) (fun _ _ => rfl) (wO_ok w hw) (h2 w hw), hX U g mk a h3⟩
theorem wx_Pc_pre {av : List Value} {Xt : State → Prop} {s : State} {H : Heap} {args : Array Value} (hO : ∀ w ∈ wO, w.before args s = true) (hH : ∀ q : Nat, q < s.heap.size → H[q]? = s.heap[q]?) (hX : ∀ U : State, U.heap = H → s.WarmedH U.vm → Xt U) : ∀ U : State, U.heap = H → s.WarmedH U.vm → wx_Pc av Xt av.toArray U :=
  fun U hU hW => ⟨rfl, fun w hw => wo_move hW (fun q hq => by rw [hU]; exact hH q hq) (wO_ok w hw) (hO w hw), hX U hU hW⟩
theorem wx_open {l : Launch} {y : MethodName} {rm : Room} {av : List Value} {Xt : State → Prop} {E : String} {mc ms : Nat} {cc : ByteArray} {maxL : Nat} {ret : Option FieldType} (hy : plainName y.cls = true) (hle : (lg_sl av).length ≤ maxL)
    (body : ∀ (p : Program) (e : Env) (s : State) (m : MethodId) (below : List Frame) (meth : Method) (c : Code) (ls : Array Slot), CallFix p m c cc maxL s av.toArray wG y.cls → meth.locks = false → c.exceptionTable.toList = [] → (∀ w ∈ wO, w.before av.toArray s = true) → Xt s → lv_has ls maxL (lv_args 0 av) →
      W p l e rm s m av.toArray below meth c s.heap [] 0 0 (wx_Q below E s mc ms) (F0 m 0 ls [])) :
    wx_Met l y (Cond.code y cc maxL ret :: wG) rm (wx_Pc av Xt) E mc ms := by
  refine wx_ofW (cc := cc) (maxL := maxL) (ret := ret) hy rfl ?_
  intro p e s m args below meth c s₁ B hml hv
  obtain ⟨rfl, hO, hX⟩ := hv
  have hts := atoms_spec (ws := Cond.code y cc maxL ret :: wG) B.pre
  rw [lg_entry_eq]
  exact body p e s m below meth c _ ⟨B.exec, B.bytes, hml, findClass_of_methodNamed B.named, fun w hw => hts w (List.mem_cons_of_mem _ hw)⟩ B.notSynchronized (wx_noh B (hts _ List.mem_cons_self)) (fun w hw => wo_move (State.WarmedH.refl s) (fun _ _ => rfl) (wO_ok w hw) (hO w hw)) hX (lv_entry av hle)
theorem wx_T (U : State) (g : JFrame) (mk : MethodId) (a : Array Value) (h : True) : True := h
theorem wf_no_8 {i : Int32} (h : wf_no i = true) (h0 : ¬ i < 0) : ¬ i < 8 := by
  intro h8
  unfold wf_no at h
  rw [decide_eq_false h0, Bool.false_or] at h
  have h7 := of_decide_eq_true h
  rw [Int32.lt_iff_toInt_lt] at h8 h7
  rw [show (8 : Int32).toInt = 8 from by decide] at h8
  rw [show (7 : Int32).toInt = 7 from by decide] at h7
  omega
theorem wx_fn : ∀ n ∈ wx_nm, Bundle.fit n = true := by decide +kernel

theorem k_str_102 : Cond.stringRef RX 102 "no such register" ∈ wO := List.mem_append_right _ (by decide +kernel)
theorem k_str_105 : Cond.stringRef RX 105 "both results would go to the same register" ∈ wO := List.mem_append_right _ (by decide +kernel)
theorem k_str_53 : Cond.stringRef RX 53 "the divisor is 0" ∈ wO := List.mem_append_right _ (by decide +kernel)
theorem k_str_74 : Cond.stringRef RX 74 "the distance is below 0" ∈ wO := List.mem_append_right _ (by decide +kernel)
theorem k_str_95 : Cond.stringRef RX 95 "not a digit 0 .. 9" ∈ wO := List.mem_append_right _ (by decide +kernel)
set_option maxHeartbeats 4000000 in
set_option maxRecDepth 100000 in
theorem t_X_checkRegister (l : Launch) (hst : l.stackTraces = false) (i : Int32) (hbad : wf_no i = true) : wx_Met l y_X_checkRegister (.code y_X_checkRegister b_X_checkRegister 1 none :: wG) (wf_rm 6 90 1 6) (wx_Pc ([.int i]) (fun _ => True)) EI 1 6 := by
  refine wx_open (by decide) (Nat.le_of_ble_eq_true rfl) ?_
  intro p e s m below meth c ls C hlocks hex hO hXt hl
  have hx := C.1
  have hb := C.2.1
  have hml := C.2.2.1
  have hown := C.2.2.2.1
  have hts := C.2.2.2.2
  have hl : lv_has ls 1 [(0, .int (i))] := hl
  refine lv_iload_n hx hb d_X_checkRegister_0 rfl (lv_at hl 0 rfl) ?_
  refine lv_if_lt (tgt := 10) hx hb d_X_checkRegister_1 (by decide) (fun c_1 => ?_) (fun c_1 => ?_)
  · exact wx_throw (text := "no such register") hx hb hml hst hown (by decide +kernel) wx_fn (wx_hat (by decide) hts hO) (hts _ k_kl_X_100) (hts _ k_in_IndexOutOfBoundsException) (hO _ k_str_102) hl.1 hex hlocks d_X_checkRegister_10 d_X_checkRegister_13 d_X_checkRegister_14 d_X_checkRegister_16 d_X_checkRegister_19 (Nat.le_of_ble_eq_true rfl) (Nat.le_of_ble_eq_true rfl) (Nat.le_of_ble_eq_true rfl) (Nat.le_of_ble_eq_true rfl)
  · refine lv_iload_n hx hb d_X_checkRegister_4 rfl (lv_at hl 0 rfl) ?_
    refine lv_bipush (v := 8) hx hb d_X_checkRegister_5 (by decide) ?_
    refine lv_icmp_lt (tgt := 20) hx hb d_X_checkRegister_7 (by decide) (fun c_2 => False.elim (by first | exact absurd c_2 (wf_no_8 hbad c_1) | exact absurd (wf_no_8 hbad c_1) c_2)) (fun c_2 => ?_)
    exact wx_throw (text := "no such register") hx hb hml hst hown (by decide +kernel) wx_fn (wx_hat (by decide) hts hO) (hts _ k_kl_X_100) (hts _ k_in_IndexOutOfBoundsException) (hO _ k_str_102) hl.1 hex hlocks d_X_checkRegister_10 d_X_checkRegister_13 d_X_checkRegister_14 d_X_checkRegister_16 d_X_checkRegister_19 (Nat.le_of_ble_eq_true rfl) (Nat.le_of_ble_eq_true rfl) (Nat.le_of_ble_eq_true rfl) (Nat.le_of_ble_eq_true rfl)

set_option maxHeartbeats 4000000 in
set_option maxRecDepth 100000 in
theorem t_X_checkApart (l : Launch) (hst : l.stackTraces = false) (i : Int32) : wx_Met l y_X_checkApart (.code y_X_checkApart b_X_checkApart 2 none :: wG) (wf_rm 6 90 1 6) (wx_Pc ([.int i, .int i]) (fun _ => True)) EA 1 6 := by
  refine wx_open (by decide) (Nat.le_of_ble_eq_true rfl) ?_
  intro p e s m below meth c ls C hlocks hex hO hXt hl
  have hx := C.1
  have hb := C.2.1
  have hml := C.2.2.1
  have hown := C.2.2.2.1
  have hts := C.2.2.2.2
  have hl : lv_has ls 2 [(0, .int (i)), (1, .int (i))] := hl
  refine lv_iload_n hx hb d_X_checkApart_0 rfl (lv_at hl 0 rfl) ?_
  refine lv_iload_n hx hb d_X_checkApart_1 rfl (lv_at hl 1 rfl) ?_
  refine lv_icmp_ne (tgt := 15) hx hb d_X_checkApart_2 (by decide) (fun c_1 => False.elim (by first | exact absurd c_1 (rfl) | exact absurd (rfl) c_1)) (fun c_1 => ?_)
  exact wx_throw (text := "both results would go to the same register") hx hb hml hst hown (by decide +kernel) wx_fn (wx_hat (by decide) hts hO) (hts _ k_kl_X_72) (hts _ k_in_IllegalArgumentException) (hO _ k_str_105) hl.1 hex hlocks d_X_checkApart_5 d_X_checkApart_8 d_X_checkApart_9 d_X_checkApart_11 d_X_checkApart_14 (Nat.le_of_ble_eq_true rfl) (Nat.le_of_ble_eq_true rfl) (Nat.le_of_ble_eq_true rfl) (Nat.le_of_ble_eq_true rfl)

set_option maxHeartbeats 4000000 in
set_option maxRecDepth 100000 in
theorem t_X_set_b1 (l : Launch) (hst : l.stackTraces = false) (q0 : Nat) (a : Int32) (h : Int64) (lo : Int64) (hbad : wf_no a = true) : wx_Met l y_X_set (.code y_X_set b_X_set 6 none :: wG) (wf_rm 7 130 1 6) (wx_Pc ([.ref q0, .int (a), .long (h), .long (lo)]) (fun _ => True)) EI 1 6 := by
  refine wx_open (by decide) (Nat.le_of_ble_eq_true rfl) ?_
  intro p e s m below meth c ls C hlocks hex hO hXt hl
  have hx := C.1
  have hb := C.2.1
  have hml := C.2.2.1
  have hown := C.2.2.2.1
  have hts := C.2.2.2.2
  have hl : lv_has ls 6 [(0, .ref (q0)), (1, .int (a)), (2, .long (h)), (4, .long (lo))] := hl
  refine lv_iload_n hx hb d_X_set_0 rfl (lv_at hl 1 rfl) ?_
  exact wx_outS (As := [.int (a)]) (rest := []) C (t_X_checkRegister l hst a hbad) (va_cwS 1 C.2.2.2.2 (wG_S (fun _ h => h) k_ml_X_27 k_st_X_checkRegister k_in_X k_X_checkRegister) rfl rfl rfl (by decide +kernel) ⟨Nat.le_of_ble_eq_true rfl, Nat.le_of_ble_eq_true rfl⟩) ⟨wx_Pc_blind wx_T, wx_Pc_pre hO (fun _ _ => rfl) (fun _ _ _ => trivial)⟩ rfl hl.1 rfl (Nat.le_of_ble_eq_true rfl) d_X_set_1 ⟨Nat.le_of_ble_eq_true rfl, Nat.le_of_ble_eq_true rfl⟩ hex hlocks

set_option maxHeartbeats 4000000 in
set_option maxRecDepth 100000 in
theorem t_X_half_b1 (l : Launch) (hst : l.stackTraces = false) (q0 : Nat) (a : Int32) (z : Int32) (hbad : wf_no a = true) : wx_Met l y_X_half (.code y_X_half b_X_half 3 (some .long) :: wG) (wf_rm 7 130 1 6) (wx_Pc ([.ref q0, .int (a), .int (z)]) (fun _ => True)) EI 1 6 := by
  refine wx_open (by decide) (Nat.le_of_ble_eq_true rfl) ?_
  intro p e s m below meth c ls C hlocks hex hO hXt hl
  have hx := C.1
  have hb := C.2.1
  have hml := C.2.2.1
  have hown := C.2.2.2.1
  have hts := C.2.2.2.2
  have hl : lv_has ls 3 [(0, .ref (q0)), (1, .int (a)), (2, .int (z))] := hl
  refine lv_iload_n hx hb d_X_half_0 rfl (lv_at hl 1 rfl) ?_
  exact wx_outS (As := [.int (a)]) (rest := []) C (t_X_checkRegister l hst a hbad) (va_cwS 1 C.2.2.2.2 (wG_S (fun _ h => h) k_ml_X_27 k_st_X_checkRegister k_in_X k_X_checkRegister) rfl rfl rfl (by decide +kernel) ⟨Nat.le_of_ble_eq_true rfl, Nat.le_of_ble_eq_true rfl⟩) ⟨wx_Pc_blind wx_T, wx_Pc_pre hO (fun _ _ => rfl) (fun _ _ _ => trivial)⟩ rfl hl.1 rfl (Nat.le_of_ble_eq_true rfl) d_X_half_1 ⟨Nat.le_of_ble_eq_true rfl, Nat.le_of_ble_eq_true rfl⟩ hex hlocks

set_option maxHeartbeats 4000000 in
set_option maxRecDepth 100000 in
theorem t_X_add_b1 (l : Launch) (hst : l.stackTraces = false) (q0 : Nat) (a : Int32) (k : Int32) (t : Int32) (hbad : wf_no a = true) : wx_Met l y_X_add (.code y_X_add b_X_add 13 (some .boolean) :: wG) (wf_rm 7 130 1 6) (wx_Pc ([.ref q0, .int (a), .int (k), .int (t)]) (fun _ => True)) EI 1 6 := by
  refine wx_open (by decide) (Nat.le_of_ble_eq_true rfl) ?_
  intro p e s m below meth c ls C hlocks hex hO hXt hl
  have hx := C.1
  have hb := C.2.1
  have hml := C.2.2.1
  have hown := C.2.2.2.1
  have hts := C.2.2.2.2
  have hl : lv_has ls 13 [(0, .ref (q0)), (1, .int (a)), (2, .int (k)), (3, .int (t))] := hl
  refine lv_iload_n hx hb d_X_add_0 rfl (lv_at hl 1 rfl) ?_
  exact wx_outS (As := [.int (a)]) (rest := []) C (t_X_checkRegister l hst a hbad) (va_cwS 1 C.2.2.2.2 (wG_S (fun _ h => h) k_ml_X_27 k_st_X_checkRegister k_in_X k_X_checkRegister) rfl rfl rfl (by decide +kernel) ⟨Nat.le_of_ble_eq_true rfl, Nat.le_of_ble_eq_true rfl⟩) ⟨wx_Pc_blind wx_T, wx_Pc_pre hO (fun _ _ => rfl) (fun _ _ _ => trivial)⟩ rfl hl.1 rfl (Nat.le_of_ble_eq_true rfl) d_X_add_1 ⟨Nat.le_of_ble_eq_true rfl, Nat.le_of_ble_eq_true rfl⟩ hex hlocks

set_option maxHeartbeats 4000000 in
set_option maxRecDepth 100000 in
theorem t_X_add_b2 (l : Launch) (hst : l.stackTraces = false) (q0 : Nat) (a : Nat) (ha : a < 8) (k : Int32) (t : Int32) (hbad : wf_no k = true) : wx_Met l y_X_add (.code y_X_add b_X_add 13 (some .boolean) :: wG) (wf_rm 7 130 1 6) (wx_Pc ([.ref q0, .int (nI a), .int (k), .int (t)]) (fun _ => True)) EI 1 6 := by
  refine wx_open (by decide) (Nat.le_of_ble_eq_true rfl) ?_
  intro p e s m below meth c ls C hlocks hex hO hXt hl
  have hx := C.1
  have hb := C.2.1
  have hml := C.2.2.1
  have hown := C.2.2.2.1
  have hts := C.2.2.2.2
  have hl : lv_has ls 13 [(0, .ref (q0)), (1, .int (nI a)), (2, .int (k)), (3, .int (t))] := hl
  refine lv_iload_n hx hb d_X_add_0 rfl (lv_at hl 1 rfl) ?_
  refine kX_chk (r := a) ha C hl.1 ⟨Nat.le_of_ble_eq_true rfl, Nat.le_of_ble_eq_true rfl⟩ (Nat.le_of_ble_eq_true rfl) ⟨Nat.le_of_ble_eq_true rfl, Nat.le_of_ble_eq_true rfl⟩ d_X_add_1 ?_
  refine lv_iload_n hx hb d_X_add_4 rfl (lv_at hl 2 rfl) ?_
  exact wx_outS (As := [.int (k)]) (rest := []) C (t_X_checkRegister l hst k hbad) (va_cwS 1 C.2.2.2.2 (wG_S (fun _ h => h) k_ml_X_27 k_st_X_checkRegister k_in_X k_X_checkRegister) rfl rfl rfl (by decide +kernel) ⟨Nat.le_of_ble_eq_true rfl, Nat.le_of_ble_eq_true rfl⟩) ⟨wx_Pc_blind wx_T, wx_Pc_pre hO (fun _ _ => rfl) (fun _ _ _ => trivial)⟩ rfl hl.1 rfl (Nat.le_of_ble_eq_true rfl) d_X_add_5 ⟨Nat.le_of_ble_eq_true rfl, Nat.le_of_ble_eq_true rfl⟩ hex hlocks

set_option maxHeartbeats 4000000 in
set_option maxRecDepth 100000 in
theorem t_X_add_b3 (l : Launch) (hst : l.stackTraces = false) (q0 : Nat) (a : Nat) (ha : a < 8) (k : Nat) (hk : k < 8) (t : Int32) (hbad : wf_no t = true) : wx_Met l y_X_add (.code y_X_add b_X_add 13 (some .boolean) :: wG) (wf_rm 7 130 1 6) (wx_Pc ([.ref q0, .int (nI a), .int (nI k), .int (t)]) (fun _ => True)) EI 1 6 := by
  refine wx_open (by decide) (Nat.le_of_ble_eq_true rfl) ?_
  intro p e s m below meth c ls C hlocks hex hO hXt hl
  have hx := C.1
  have hb := C.2.1
  have hml := C.2.2.1
  have hown := C.2.2.2.1
  have hts := C.2.2.2.2
  have hl : lv_has ls 13 [(0, .ref (q0)), (1, .int (nI a)), (2, .int (nI k)), (3, .int (t))] := hl
  refine lv_iload_n hx hb d_X_add_0 rfl (lv_at hl 1 rfl) ?_
  refine kX_chk (r := a) ha C hl.1 ⟨Nat.le_of_ble_eq_true rfl, Nat.le_of_ble_eq_true rfl⟩ (Nat.le_of_ble_eq_true rfl) ⟨Nat.le_of_ble_eq_true rfl, Nat.le_of_ble_eq_true rfl⟩ d_X_add_1 ?_
  refine lv_iload_n hx hb d_X_add_4 rfl (lv_at hl 2 rfl) ?_
  refine kX_chk (r := k) hk C hl.1 ⟨Nat.le_of_ble_eq_true rfl, Nat.le_of_ble_eq_true rfl⟩ (Nat.le_of_ble_eq_true rfl) ⟨Nat.le_of_ble_eq_true rfl, Nat.le_of_ble_eq_true rfl⟩ d_X_add_5 ?_
  refine lv_iload_n hx hb d_X_add_8 rfl (lv_at hl 3 rfl) ?_
  exact wx_outS (As := [.int (t)]) (rest := []) C (t_X_checkRegister l hst t hbad) (va_cwS 1 C.2.2.2.2 (wG_S (fun _ h => h) k_ml_X_27 k_st_X_checkRegister k_in_X k_X_checkRegister) rfl rfl rfl (by decide +kernel) ⟨Nat.le_of_ble_eq_true rfl, Nat.le_of_ble_eq_true rfl⟩) ⟨wx_Pc_blind wx_T, wx_Pc_pre hO (fun _ _ => rfl) (fun _ _ _ => trivial)⟩ rfl hl.1 rfl (Nat.le_of_ble_eq_true rfl) d_X_add_9 ⟨Nat.le_of_ble_eq_true rfl, Nat.le_of_ble_eq_true rfl⟩ hex hlocks

set_option maxHeartbeats 4000000 in
set_option maxRecDepth 100000 in
theorem t_X_subtract_b1 (l : Launch) (hst : l.stackTraces = false) (q0 : Nat) (a : Int32) (k : Int32) (t : Int32) (hbad : wf_no a = true) : wx_Met l y_X_subtract (.code y_X_subtract b_X_subtract 7 (some .boolean) :: wG) (wf_rm 7 130 1 6) (wx_Pc ([.ref q0, .int (a), .int (k), .int (t)]) (fun _ => True)) EI 1 6 := by
  refine wx_open (by decide) (Nat.le_of_ble_eq_true rfl) ?_
  intro p e s m below meth c ls C hlocks hex hO hXt hl
  have hx := C.1
  have hb := C.2.1
  have hml := C.2.2.1
  have hown := C.2.2.2.1
  have hts := C.2.2.2.2
  have hl : lv_has ls 7 [(0, .ref (q0)), (1, .int (a)), (2, .int (k)), (3, .int (t))] := hl
  refine lv_iload_n hx hb d_X_subtract_0 rfl (lv_at hl 1 rfl) ?_
  exact wx_outS (As := [.int (a)]) (rest := []) C (t_X_checkRegister l hst a hbad) (va_cwS 1 C.2.2.2.2 (wG_S (fun _ h => h) k_ml_X_27 k_st_X_checkRegister k_in_X k_X_checkRegister) rfl rfl rfl (by decide +kernel) ⟨Nat.le_of_ble_eq_true rfl, Nat.le_of_ble_eq_true rfl⟩) ⟨wx_Pc_blind wx_T, wx_Pc_pre hO (fun _ _ => rfl) (fun _ _ _ => trivial)⟩ rfl hl.1 rfl (Nat.le_of_ble_eq_true rfl) d_X_subtract_1 ⟨Nat.le_of_ble_eq_true rfl, Nat.le_of_ble_eq_true rfl⟩ hex hlocks

set_option maxHeartbeats 4000000 in
set_option maxRecDepth 100000 in
theorem t_X_subtract_b2 (l : Launch) (hst : l.stackTraces = false) (q0 : Nat) (a : Nat) (ha : a < 8) (k : Int32) (t : Int32) (hbad : wf_no k = true) : wx_Met l y_X_subtract (.code y_X_subtract b_X_subtract 7 (some .boolean) :: wG) (wf_rm 7 130 1 6) (wx_Pc ([.ref q0, .int (nI a), .int (k), .int (t)]) (fun _ => True)) EI 1 6 := by
  refine wx_open (by decide) (Nat.le_of_ble_eq_true rfl) ?_
  intro p e s m below meth c ls C hlocks hex hO hXt hl
  have hx := C.1
  have hb := C.2.1
  have hml := C.2.2.1
  have hown := C.2.2.2.1
  have hts := C.2.2.2.2
  have hl : lv_has ls 7 [(0, .ref (q0)), (1, .int (nI a)), (2, .int (k)), (3, .int (t))] := hl
  refine lv_iload_n hx hb d_X_subtract_0 rfl (lv_at hl 1 rfl) ?_
  refine kX_chk (r := a) ha C hl.1 ⟨Nat.le_of_ble_eq_true rfl, Nat.le_of_ble_eq_true rfl⟩ (Nat.le_of_ble_eq_true rfl) ⟨Nat.le_of_ble_eq_true rfl, Nat.le_of_ble_eq_true rfl⟩ d_X_subtract_1 ?_
  refine lv_iload_n hx hb d_X_subtract_4 rfl (lv_at hl 2 rfl) ?_
  exact wx_outS (As := [.int (k)]) (rest := []) C (t_X_checkRegister l hst k hbad) (va_cwS 1 C.2.2.2.2 (wG_S (fun _ h => h) k_ml_X_27 k_st_X_checkRegister k_in_X k_X_checkRegister) rfl rfl rfl (by decide +kernel) ⟨Nat.le_of_ble_eq_true rfl, Nat.le_of_ble_eq_true rfl⟩) ⟨wx_Pc_blind wx_T, wx_Pc_pre hO (fun _ _ => rfl) (fun _ _ _ => trivial)⟩ rfl hl.1 rfl (Nat.le_of_ble_eq_true rfl) d_X_subtract_5 ⟨Nat.le_of_ble_eq_true rfl, Nat.le_of_ble_eq_true rfl⟩ hex hlocks

set_option maxHeartbeats 4000000 in
set_option maxRecDepth 100000 in
theorem t_X_subtract_b3 (l : Launch) (hst : l.stackTraces = false) (q0 : Nat) (a : Nat) (ha : a < 8) (k : Nat) (hk : k < 8) (t : Int32) (hbad : wf_no t = true) : wx_Met l y_X_subtract (.code y_X_subtract b_X_subtract 7 (some .boolean) :: wG) (wf_rm 7 130 1 6) (wx_Pc ([.ref q0, .int (nI a), .int (nI k), .int (t)]) (fun _ => True)) EI 1 6 := by
  refine wx_open (by decide) (Nat.le_of_ble_eq_true rfl) ?_
  intro p e s m below meth c ls C hlocks hex hO hXt hl
  have hx := C.1
  have hb := C.2.1
  have hml := C.2.2.1
  have hown := C.2.2.2.1
  have hts := C.2.2.2.2
  have hl : lv_has ls 7 [(0, .ref (q0)), (1, .int (nI a)), (2, .int (nI k)), (3, .int (t))] := hl
  refine lv_iload_n hx hb d_X_subtract_0 rfl (lv_at hl 1 rfl) ?_
  refine kX_chk (r := a) ha C hl.1 ⟨Nat.le_of_ble_eq_true rfl, Nat.le_of_ble_eq_true rfl⟩ (Nat.le_of_ble_eq_true rfl) ⟨Nat.le_of_ble_eq_true rfl, Nat.le_of_ble_eq_true rfl⟩ d_X_subtract_1 ?_
  refine lv_iload_n hx hb d_X_subtract_4 rfl (lv_at hl 2 rfl) ?_
  refine kX_chk (r := k) hk C hl.1 ⟨Nat.le_of_ble_eq_true rfl, Nat.le_of_ble_eq_true rfl⟩ (Nat.le_of_ble_eq_true rfl) ⟨Nat.le_of_ble_eq_true rfl, Nat.le_of_ble_eq_true rfl⟩ d_X_subtract_5 ?_
  refine lv_iload_n hx hb d_X_subtract_8 rfl (lv_at hl 3 rfl) ?_
  exact wx_outS (As := [.int (t)]) (rest := []) C (t_X_checkRegister l hst t hbad) (va_cwS 1 C.2.2.2.2 (wG_S (fun _ h => h) k_ml_X_27 k_st_X_checkRegister k_in_X k_X_checkRegister) rfl rfl rfl (by decide +kernel) ⟨Nat.le_of_ble_eq_true rfl, Nat.le_of_ble_eq_true rfl⟩) ⟨wx_Pc_blind wx_T, wx_Pc_pre hO (fun _ _ => rfl) (fun _ _ _ => trivial)⟩ rfl hl.1 rfl (Nat.le_of_ble_eq_true rfl) d_X_subtract_9 ⟨Nat.le_of_ble_eq_true rfl, Nat.le_of_ble_eq_true rfl⟩ hex hlocks

set_option maxHeartbeats 4000000 in
set_option maxRecDepth 100000 in
theorem t_X_multiply_b1 (l : Launch) (hst : l.stackTraces = false) (q0 : Nat) (a : Int32) (k : Int32) (g : Int32) (t : Int32) (hbad : wf_no a = true) : wx_Met l y_X_multiply (.code y_X_multiply b_X_multiply 5 none :: wG) (wf_rm 7 130 1 6) (wx_Pc ([.ref q0, .int (a), .int (k), .int (g), .int (t)]) (fun _ => True)) EI 1 6 := by
  refine wx_open (by decide) (Nat.le_of_ble_eq_true rfl) ?_
  intro p e s m below meth c ls C hlocks hex hO hXt hl
  have hx := C.1
  have hb := C.2.1
  have hml := C.2.2.1
  have hown := C.2.2.2.1
  have hts := C.2.2.2.2
  have hl : lv_has ls 5 [(0, .ref (q0)), (1, .int (a)), (2, .int (k)), (3, .int (g)), (4, .int (t))] := hl
  refine lv_iload_n hx hb d_X_multiply_0 rfl (lv_at hl 1 rfl) ?_
  exact wx_outS (As := [.int (a)]) (rest := []) C (t_X_checkRegister l hst a hbad) (va_cwS 1 C.2.2.2.2 (wG_S (fun _ h => h) k_ml_X_27 k_st_X_checkRegister k_in_X k_X_checkRegister) rfl rfl rfl (by decide +kernel) ⟨Nat.le_of_ble_eq_true rfl, Nat.le_of_ble_eq_true rfl⟩) ⟨wx_Pc_blind wx_T, wx_Pc_pre hO (fun _ _ => rfl) (fun _ _ _ => trivial)⟩ rfl hl.1 rfl (Nat.le_of_ble_eq_true rfl) d_X_multiply_1 ⟨Nat.le_of_ble_eq_true rfl, Nat.le_of_ble_eq_true rfl⟩ hex hlocks

set_option maxHeartbeats 4000000 in
set_option maxRecDepth 100000 in
theorem t_X_multiply_b2 (l : Launch) (hst : l.stackTraces = false) (q0 : Nat) (a : Nat) (ha : a < 8) (k : Int32) (g : Int32) (t : Int32) (hbad : wf_no k = true) : wx_Met l y_X_multiply (.code y_X_multiply b_X_multiply 5 none :: wG) (wf_rm 7 130 1 6) (wx_Pc ([.ref q0, .int (nI a), .int (k), .int (g), .int (t)]) (fun _ => True)) EI 1 6 := by
  refine wx_open (by decide) (Nat.le_of_ble_eq_true rfl) ?_
  intro p e s m below meth c ls C hlocks hex hO hXt hl
  have hx := C.1
  have hb := C.2.1
  have hml := C.2.2.1
  have hown := C.2.2.2.1
  have hts := C.2.2.2.2
  have hl : lv_has ls 5 [(0, .ref (q0)), (1, .int (nI a)), (2, .int (k)), (3, .int (g)), (4, .int (t))] := hl
  refine lv_iload_n hx hb d_X_multiply_0 rfl (lv_at hl 1 rfl) ?_
  refine kX_chk (r := a) ha C hl.1 ⟨Nat.le_of_ble_eq_true rfl, Nat.le_of_ble_eq_true rfl⟩ (Nat.le_of_ble_eq_true rfl) ⟨Nat.le_of_ble_eq_true rfl, Nat.le_of_ble_eq_true rfl⟩ d_X_multiply_1 ?_
  refine lv_iload_n hx hb d_X_multiply_4 rfl (lv_at hl 2 rfl) ?_
  exact wx_outS (As := [.int (k)]) (rest := []) C (t_X_checkRegister l hst k hbad) (va_cwS 1 C.2.2.2.2 (wG_S (fun _ h => h) k_ml_X_27 k_st_X_checkRegister k_in_X k_X_checkRegister) rfl rfl rfl (by decide +kernel) ⟨Nat.le_of_ble_eq_true rfl, Nat.le_of_ble_eq_true rfl⟩) ⟨wx_Pc_blind wx_T, wx_Pc_pre hO (fun _ _ => rfl) (fun _ _ _ => trivial)⟩ rfl hl.1 rfl (Nat.le_of_ble_eq_true rfl) d_X_multiply_5 ⟨Nat.le_of_ble_eq_true rfl, Nat.le_of_ble_eq_true rfl⟩ hex hlocks

set_option maxHeartbeats 4000000 in
set_option maxRecDepth 100000 in
theorem t_X_multiply_b3 (l : Launch) (hst : l.stackTraces = false) (q0 : Nat) (a : Nat) (ha : a < 8) (k : Nat) (hk : k < 8) (g : Int32) (t : Int32) (hbad : wf_no g = true) : wx_Met l y_X_multiply (.code y_X_multiply b_X_multiply 5 none :: wG) (wf_rm 7 130 1 6) (wx_Pc ([.ref q0, .int (nI a), .int (nI k), .int (g), .int (t)]) (fun _ => True)) EI 1 6 := by
  refine wx_open (by decide) (Nat.le_of_ble_eq_true rfl) ?_
  intro p e s m below meth c ls C hlocks hex hO hXt hl
  have hx := C.1
  have hb := C.2.1
  have hml := C.2.2.1
  have hown := C.2.2.2.1
  have hts := C.2.2.2.2
  have hl : lv_has ls 5 [(0, .ref (q0)), (1, .int (nI a)), (2, .int (nI k)), (3, .int (g)), (4, .int (t))] := hl
  refine lv_iload_n hx hb d_X_multiply_0 rfl (lv_at hl 1 rfl) ?_
  refine kX_chk (r := a) ha C hl.1 ⟨Nat.le_of_ble_eq_true rfl, Nat.le_of_ble_eq_true rfl⟩ (Nat.le_of_ble_eq_true rfl) ⟨Nat.le_of_ble_eq_true rfl, Nat.le_of_ble_eq_true rfl⟩ d_X_multiply_1 ?_
  refine lv_iload_n hx hb d_X_multiply_4 rfl (lv_at hl 2 rfl) ?_
  refine kX_chk (r := k) hk C hl.1 ⟨Nat.le_of_ble_eq_true rfl, Nat.le_of_ble_eq_true rfl⟩ (Nat.le_of_ble_eq_true rfl) ⟨Nat.le_of_ble_eq_true rfl, Nat.le_of_ble_eq_true rfl⟩ d_X_multiply_5 ?_
  refine lv_iload_n hx hb d_X_multiply_8 rfl (lv_at hl 3 rfl) ?_
  exact wx_outS (As := [.int (g)]) (rest := []) C (t_X_checkRegister l hst g hbad) (va_cwS 1 C.2.2.2.2 (wG_S (fun _ h => h) k_ml_X_27 k_st_X_checkRegister k_in_X k_X_checkRegister) rfl rfl rfl (by decide +kernel) ⟨Nat.le_of_ble_eq_true rfl, Nat.le_of_ble_eq_true rfl⟩) ⟨wx_Pc_blind wx_T, wx_Pc_pre hO (fun _ _ => rfl) (fun _ _ _ => trivial)⟩ rfl hl.1 rfl (Nat.le_of_ble_eq_true rfl) d_X_multiply_9 ⟨Nat.le_of_ble_eq_true rfl, Nat.le_of_ble_eq_true rfl⟩ hex hlocks

set_option maxHeartbeats 4000000 in
set_option maxRecDepth 100000 in
theorem t_X_multiply_b4 (l : Launch) (hst : l.stackTraces = false) (q0 : Nat) (a : Nat) (ha : a < 8) (k : Nat) (hk : k < 8) (g : Nat) (hg : g < 8) (t : Int32) (hbad : wf_no t = true) : wx_Met l y_X_multiply (.code y_X_multiply b_X_multiply 5 none :: wG) (wf_rm 7 130 1 6) (wx_Pc ([.ref q0, .int (nI a), .int (nI k), .int (nI g), .int (t)]) (fun _ => True)) EI 1 6 := by
  refine wx_open (by decide) (Nat.le_of_ble_eq_true rfl) ?_
  intro p e s m below meth c ls C hlocks hex hO hXt hl
  have hx := C.1
  have hb := C.2.1
  have hml := C.2.2.1
  have hown := C.2.2.2.1
  have hts := C.2.2.2.2
  have hl : lv_has ls 5 [(0, .ref (q0)), (1, .int (nI a)), (2, .int (nI k)), (3, .int (nI g)), (4, .int (t))] := hl
  refine lv_iload_n hx hb d_X_multiply_0 rfl (lv_at hl 1 rfl) ?_
  refine kX_chk (r := a) ha C hl.1 ⟨Nat.le_of_ble_eq_true rfl, Nat.le_of_ble_eq_true rfl⟩ (Nat.le_of_ble_eq_true rfl) ⟨Nat.le_of_ble_eq_true rfl, Nat.le_of_ble_eq_true rfl⟩ d_X_multiply_1 ?_
  refine lv_iload_n hx hb d_X_multiply_4 rfl (lv_at hl 2 rfl) ?_
  refine kX_chk (r := k) hk C hl.1 ⟨Nat.le_of_ble_eq_true rfl, Nat.le_of_ble_eq_true rfl⟩ (Nat.le_of_ble_eq_true rfl) ⟨Nat.le_of_ble_eq_true rfl, Nat.le_of_ble_eq_true rfl⟩ d_X_multiply_5 ?_
  refine lv_iload_n hx hb d_X_multiply_8 rfl (lv_at hl 3 rfl) ?_
  refine kX_chk (r := g) hg C hl.1 ⟨Nat.le_of_ble_eq_true rfl, Nat.le_of_ble_eq_true rfl⟩ (Nat.le_of_ble_eq_true rfl) ⟨Nat.le_of_ble_eq_true rfl, Nat.le_of_ble_eq_true rfl⟩ d_X_multiply_9 ?_
  refine lv_iload hx hb d_X_multiply_12 (lv_at hl 4 rfl) ?_
  exact wx_outS (As := [.int (t)]) (rest := []) C (t_X_checkRegister l hst t hbad) (va_cwS 1 C.2.2.2.2 (wG_S (fun _ h => h) k_ml_X_27 k_st_X_checkRegister k_in_X k_X_checkRegister) rfl rfl rfl (by decide +kernel) ⟨Nat.le_of_ble_eq_true rfl, Nat.le_of_ble_eq_true rfl⟩) ⟨wx_Pc_blind wx_T, wx_Pc_pre hO (fun _ _ => rfl) (fun _ _ _ => trivial)⟩ rfl hl.1 rfl (Nat.le_of_ble_eq_true rfl) d_X_multiply_14 ⟨Nat.le_of_ble_eq_true rfl, Nat.le_of_ble_eq_true rfl⟩ hex hlocks

set_option maxHeartbeats 4000000 in
set_option maxRecDepth 100000 in
theorem t_X_divide_b1 (l : Launch) (hst : l.stackTraces = false) (q0 : Nat) (a : Int32) (k : Int32) (g : Int32) (t : Int32) (hbad : wf_no a = true) : wx_Met l y_X_divide (.code y_X_divide b_X_divide 5 none :: wG) (wf_rm 7 130 1 6) (wx_Pc ([.ref q0, .int (a), .int (k), .int (g), .int (t)]) (fun _ => True)) EI 1 6 := by
  refine wx_open (by decide) (Nat.le_of_ble_eq_true rfl) ?_
  intro p e s m below meth c ls C hlocks hex hO hXt hl
  have hx := C.1
  have hb := C.2.1
  have hml := C.2.2.1
  have hown := C.2.2.2.1
  have hts := C.2.2.2.2
  have hl : lv_has ls 5 [(0, .ref (q0)), (1, .int (a)), (2, .int (k)), (3, .int (g)), (4, .int (t))] := hl
  refine lv_iload_n hx hb d_X_divide_0 rfl (lv_at hl 1 rfl) ?_
  exact wx_outS (As := [.int (a)]) (rest := []) C (t_X_checkRegister l hst a hbad) (va_cwS 1 C.2.2.2.2 (wG_S (fun _ h => h) k_ml_X_27 k_st_X_checkRegister k_in_X k_X_checkRegister) rfl rfl rfl (by decide +kernel) ⟨Nat.le_of_ble_eq_true rfl, Nat.le_of_ble_eq_true rfl⟩) ⟨wx_Pc_blind wx_T, wx_Pc_pre hO (fun _ _ => rfl) (fun _ _ _ => trivial)⟩ rfl hl.1 rfl (Nat.le_of_ble_eq_true rfl) d_X_divide_1 ⟨Nat.le_of_ble_eq_true rfl, Nat.le_of_ble_eq_true rfl⟩ hex hlocks

set_option maxHeartbeats 4000000 in
set_option maxRecDepth 100000 in
theorem t_X_divide_b2 (l : Launch) (hst : l.stackTraces = false) (q0 : Nat) (a : Nat) (ha : a < 8) (k : Int32) (g : Int32) (t : Int32) (hbad : wf_no k = true) : wx_Met l y_X_divide (.code y_X_divide b_X_divide 5 none :: wG) (wf_rm 7 130 1 6) (wx_Pc ([.ref q0, .int (nI a), .int (k), .int (g), .int (t)]) (fun _ => True)) EI 1 6 := by
  refine wx_open (by decide) (Nat.le_of_ble_eq_true rfl) ?_
  intro p e s m below meth c ls C hlocks hex hO hXt hl
  have hx := C.1
  have hb := C.2.1
  have hml := C.2.2.1
  have hown := C.2.2.2.1
  have hts := C.2.2.2.2
  have hl : lv_has ls 5 [(0, .ref (q0)), (1, .int (nI a)), (2, .int (k)), (3, .int (g)), (4, .int (t))] := hl
  refine lv_iload_n hx hb d_X_divide_0 rfl (lv_at hl 1 rfl) ?_
  refine kX_chk (r := a) ha C hl.1 ⟨Nat.le_of_ble_eq_true rfl, Nat.le_of_ble_eq_true rfl⟩ (Nat.le_of_ble_eq_true rfl) ⟨Nat.le_of_ble_eq_true rfl, Nat.le_of_ble_eq_true rfl⟩ d_X_divide_1 ?_
  refine lv_iload_n hx hb d_X_divide_4 rfl (lv_at hl 2 rfl) ?_
  exact wx_outS (As := [.int (k)]) (rest := []) C (t_X_checkRegister l hst k hbad) (va_cwS 1 C.2.2.2.2 (wG_S (fun _ h => h) k_ml_X_27 k_st_X_checkRegister k_in_X k_X_checkRegister) rfl rfl rfl (by decide +kernel) ⟨Nat.le_of_ble_eq_true rfl, Nat.le_of_ble_eq_true rfl⟩) ⟨wx_Pc_blind wx_T, wx_Pc_pre hO (fun _ _ => rfl) (fun _ _ _ => trivial)⟩ rfl hl.1 rfl (Nat.le_of_ble_eq_true rfl) d_X_divide_5 ⟨Nat.le_of_ble_eq_true rfl, Nat.le_of_ble_eq_true rfl⟩ hex hlocks

set_option maxHeartbeats 4000000 in
set_option maxRecDepth 100000 in
theorem t_X_divide_b3 (l : Launch) (hst : l.stackTraces = false) (q0 : Nat) (a : Nat) (ha : a < 8) (k : Nat) (hk : k < 8) (g : Int32) (t : Int32) (hbad : wf_no g = true) : wx_Met l y_X_divide (.code y_X_divide b_X_divide 5 none :: wG) (wf_rm 7 130 1 6) (wx_Pc ([.ref q0, .int (nI a), .int (nI k), .int (g), .int (t)]) (fun _ => True)) EI 1 6 := by
  refine wx_open (by decide) (Nat.le_of_ble_eq_true rfl) ?_
  intro p e s m below meth c ls C hlocks hex hO hXt hl
  have hx := C.1
  have hb := C.2.1
  have hml := C.2.2.1
  have hown := C.2.2.2.1
  have hts := C.2.2.2.2
  have hl : lv_has ls 5 [(0, .ref (q0)), (1, .int (nI a)), (2, .int (nI k)), (3, .int (g)), (4, .int (t))] := hl
  refine lv_iload_n hx hb d_X_divide_0 rfl (lv_at hl 1 rfl) ?_
  refine kX_chk (r := a) ha C hl.1 ⟨Nat.le_of_ble_eq_true rfl, Nat.le_of_ble_eq_true rfl⟩ (Nat.le_of_ble_eq_true rfl) ⟨Nat.le_of_ble_eq_true rfl, Nat.le_of_ble_eq_true rfl⟩ d_X_divide_1 ?_
  refine lv_iload_n hx hb d_X_divide_4 rfl (lv_at hl 2 rfl) ?_
  refine kX_chk (r := k) hk C hl.1 ⟨Nat.le_of_ble_eq_true rfl, Nat.le_of_ble_eq_true rfl⟩ (Nat.le_of_ble_eq_true rfl) ⟨Nat.le_of_ble_eq_true rfl, Nat.le_of_ble_eq_true rfl⟩ d_X_divide_5 ?_
  refine lv_iload_n hx hb d_X_divide_8 rfl (lv_at hl 3 rfl) ?_
  exact wx_outS (As := [.int (g)]) (rest := []) C (t_X_checkRegister l hst g hbad) (va_cwS 1 C.2.2.2.2 (wG_S (fun _ h => h) k_ml_X_27 k_st_X_checkRegister k_in_X k_X_checkRegister) rfl rfl rfl (by decide +kernel) ⟨Nat.le_of_ble_eq_true rfl, Nat.le_of_ble_eq_true rfl⟩) ⟨wx_Pc_blind wx_T, wx_Pc_pre hO (fun _ _ => rfl) (fun _ _ _ => trivial)⟩ rfl hl.1 rfl (Nat.le_of_ble_eq_true rfl) d_X_divide_9 ⟨Nat.le_of_ble_eq_true rfl, Nat.le_of_ble_eq_true rfl⟩ hex hlocks

set_option maxHeartbeats 4000000 in
set_option maxRecDepth 100000 in
theorem t_X_divide_b4 (l : Launch) (hst : l.stackTraces = false) (q0 : Nat) (a : Nat) (ha : a < 8) (k : Nat) (hk : k < 8) (g : Nat) (hg : g < 8) (t : Int32) (hbad : wf_no t = true) : wx_Met l y_X_divide (.code y_X_divide b_X_divide 5 none :: wG) (wf_rm 7 130 1 6) (wx_Pc ([.ref q0, .int (nI a), .int (nI k), .int (nI g), .int (t)]) (fun _ => True)) EI 1 6 := by
  refine wx_open (by decide) (Nat.le_of_ble_eq_true rfl) ?_
  intro p e s m below meth c ls C hlocks hex hO hXt hl
  have hx := C.1
  have hb := C.2.1
  have hml := C.2.2.1
  have hown := C.2.2.2.1
  have hts := C.2.2.2.2
  have hl : lv_has ls 5 [(0, .ref (q0)), (1, .int (nI a)), (2, .int (nI k)), (3, .int (nI g)), (4, .int (t))] := hl
  refine lv_iload_n hx hb d_X_divide_0 rfl (lv_at hl 1 rfl) ?_
  refine kX_chk (r := a) ha C hl.1 ⟨Nat.le_of_ble_eq_true rfl, Nat.le_of_ble_eq_true rfl⟩ (Nat.le_of_ble_eq_true rfl) ⟨Nat.le_of_ble_eq_true rfl, Nat.le_of_ble_eq_true rfl⟩ d_X_divide_1 ?_
  refine lv_iload_n hx hb d_X_divide_4 rfl (lv_at hl 2 rfl) ?_
  refine kX_chk (r := k) hk C hl.1 ⟨Nat.le_of_ble_eq_true rfl, Nat.le_of_ble_eq_true rfl⟩ (Nat.le_of_ble_eq_true rfl) ⟨Nat.le_of_ble_eq_true rfl, Nat.le_of_ble_eq_true rfl⟩ d_X_divide_5 ?_
  refine lv_iload_n hx hb d_X_divide_8 rfl (lv_at hl 3 rfl) ?_
  refine kX_chk (r := g) hg C hl.1 ⟨Nat.le_of_ble_eq_true rfl, Nat.le_of_ble_eq_true rfl⟩ (Nat.le_of_ble_eq_true rfl) ⟨Nat.le_of_ble_eq_true rfl, Nat.le_of_ble_eq_true rfl⟩ d_X_divide_9 ?_
  refine lv_iload hx hb d_X_divide_12 (lv_at hl 4 rfl) ?_
  exact wx_outS (As := [.int (t)]) (rest := []) C (t_X_checkRegister l hst t hbad) (va_cwS 1 C.2.2.2.2 (wG_S (fun _ h => h) k_ml_X_27 k_st_X_checkRegister k_in_X k_X_checkRegister) rfl rfl rfl (by decide +kernel) ⟨Nat.le_of_ble_eq_true rfl, Nat.le_of_ble_eq_true rfl⟩) ⟨wx_Pc_blind wx_T, wx_Pc_pre hO (fun _ _ => rfl) (fun _ _ _ => trivial)⟩ rfl hl.1 rfl (Nat.le_of_ble_eq_true rfl) d_X_divide_14 ⟨Nat.le_of_ble_eq_true rfl, Nat.le_of_ble_eq_true rfl⟩ hex hlocks

set_option maxHeartbeats 4000000 in
set_option maxRecDepth 100000 in
theorem t_X_root_b1 (l : Launch) (hst : l.stackTraces = false) (q0 : Nat) (a : Int32) (g : Int32) (t : Int32) (hbad : wf_no a = true) : wx_Met l y_X_root (.code y_X_root b_X_root 4 none :: wG) (wf_rm 7 130 1 6) (wx_Pc ([.ref q0, .int (a), .int (g), .int (t)]) (fun _ => True)) EI 1 6 := by
  refine wx_open (by decide) (Nat.le_of_ble_eq_true rfl) ?_
  intro p e s m below meth c ls C hlocks hex hO hXt hl
  have hx := C.1
  have hb := C.2.1
  have hml := C.2.2.1
  have hown := C.2.2.2.1
  have hts := C.2.2.2.2
  have hl : lv_has ls 4 [(0, .ref (q0)), (1, .int (a)), (2, .int (g)), (3, .int (t))] := hl
  refine lv_iload_n hx hb d_X_root_0 rfl (lv_at hl 1 rfl) ?_
  exact wx_outS (As := [.int (a)]) (rest := []) C (t_X_checkRegister l hst a hbad) (va_cwS 1 C.2.2.2.2 (wG_S (fun _ h => h) k_ml_X_27 k_st_X_checkRegister k_in_X k_X_checkRegister) rfl rfl rfl (by decide +kernel) ⟨Nat.le_of_ble_eq_true rfl, Nat.le_of_ble_eq_true rfl⟩) ⟨wx_Pc_blind wx_T, wx_Pc_pre hO (fun _ _ => rfl) (fun _ _ _ => trivial)⟩ rfl hl.1 rfl (Nat.le_of_ble_eq_true rfl) d_X_root_1 ⟨Nat.le_of_ble_eq_true rfl, Nat.le_of_ble_eq_true rfl⟩ hex hlocks

set_option maxHeartbeats 4000000 in
set_option maxRecDepth 100000 in
theorem t_X_root_b2 (l : Launch) (hst : l.stackTraces = false) (q0 : Nat) (a : Nat) (ha : a < 8) (g : Int32) (t : Int32) (hbad : wf_no g = true) : wx_Met l y_X_root (.code y_X_root b_X_root 4 none :: wG) (wf_rm 7 130 1 6) (wx_Pc ([.ref q0, .int (nI a), .int (g), .int (t)]) (fun _ => True)) EI 1 6 := by
  refine wx_open (by decide) (Nat.le_of_ble_eq_true rfl) ?_
  intro p e s m below meth c ls C hlocks hex hO hXt hl
  have hx := C.1
  have hb := C.2.1
  have hml := C.2.2.1
  have hown := C.2.2.2.1
  have hts := C.2.2.2.2
  have hl : lv_has ls 4 [(0, .ref (q0)), (1, .int (nI a)), (2, .int (g)), (3, .int (t))] := hl
  refine lv_iload_n hx hb d_X_root_0 rfl (lv_at hl 1 rfl) ?_
  refine kX_chk (r := a) ha C hl.1 ⟨Nat.le_of_ble_eq_true rfl, Nat.le_of_ble_eq_true rfl⟩ (Nat.le_of_ble_eq_true rfl) ⟨Nat.le_of_ble_eq_true rfl, Nat.le_of_ble_eq_true rfl⟩ d_X_root_1 ?_
  refine lv_iload_n hx hb d_X_root_4 rfl (lv_at hl 2 rfl) ?_
  exact wx_outS (As := [.int (g)]) (rest := []) C (t_X_checkRegister l hst g hbad) (va_cwS 1 C.2.2.2.2 (wG_S (fun _ h => h) k_ml_X_27 k_st_X_checkRegister k_in_X k_X_checkRegister) rfl rfl rfl (by decide +kernel) ⟨Nat.le_of_ble_eq_true rfl, Nat.le_of_ble_eq_true rfl⟩) ⟨wx_Pc_blind wx_T, wx_Pc_pre hO (fun _ _ => rfl) (fun _ _ _ => trivial)⟩ rfl hl.1 rfl (Nat.le_of_ble_eq_true rfl) d_X_root_5 ⟨Nat.le_of_ble_eq_true rfl, Nat.le_of_ble_eq_true rfl⟩ hex hlocks

set_option maxHeartbeats 4000000 in
set_option maxRecDepth 100000 in
theorem t_X_root_b3 (l : Launch) (hst : l.stackTraces = false) (q0 : Nat) (a : Nat) (ha : a < 8) (g : Nat) (hg : g < 8) (t : Int32) (hbad : wf_no t = true) : wx_Met l y_X_root (.code y_X_root b_X_root 4 none :: wG) (wf_rm 7 130 1 6) (wx_Pc ([.ref q0, .int (nI a), .int (nI g), .int (t)]) (fun _ => True)) EI 1 6 := by
  refine wx_open (by decide) (Nat.le_of_ble_eq_true rfl) ?_
  intro p e s m below meth c ls C hlocks hex hO hXt hl
  have hx := C.1
  have hb := C.2.1
  have hml := C.2.2.1
  have hown := C.2.2.2.1
  have hts := C.2.2.2.2
  have hl : lv_has ls 4 [(0, .ref (q0)), (1, .int (nI a)), (2, .int (nI g)), (3, .int (t))] := hl
  refine lv_iload_n hx hb d_X_root_0 rfl (lv_at hl 1 rfl) ?_
  refine kX_chk (r := a) ha C hl.1 ⟨Nat.le_of_ble_eq_true rfl, Nat.le_of_ble_eq_true rfl⟩ (Nat.le_of_ble_eq_true rfl) ⟨Nat.le_of_ble_eq_true rfl, Nat.le_of_ble_eq_true rfl⟩ d_X_root_1 ?_
  refine lv_iload_n hx hb d_X_root_4 rfl (lv_at hl 2 rfl) ?_
  refine kX_chk (r := g) hg C hl.1 ⟨Nat.le_of_ble_eq_true rfl, Nat.le_of_ble_eq_true rfl⟩ (Nat.le_of_ble_eq_true rfl) ⟨Nat.le_of_ble_eq_true rfl, Nat.le_of_ble_eq_true rfl⟩ d_X_root_5 ?_
  refine lv_iload_n hx hb d_X_root_8 rfl (lv_at hl 3 rfl) ?_
  exact wx_outS (As := [.int (t)]) (rest := []) C (t_X_checkRegister l hst t hbad) (va_cwS 1 C.2.2.2.2 (wG_S (fun _ h => h) k_ml_X_27 k_st_X_checkRegister k_in_X k_X_checkRegister) rfl rfl rfl (by decide +kernel) ⟨Nat.le_of_ble_eq_true rfl, Nat.le_of_ble_eq_true rfl⟩) ⟨wx_Pc_blind wx_T, wx_Pc_pre hO (fun _ _ => rfl) (fun _ _ _ => trivial)⟩ rfl hl.1 rfl (Nat.le_of_ble_eq_true rfl) d_X_root_9 ⟨Nat.le_of_ble_eq_true rfl, Nat.le_of_ble_eq_true rfl⟩ hex hlocks

set_option maxHeartbeats 4000000 in
set_option maxRecDepth 100000 in
theorem t_X_shift_b1 (l : Launch) (hst : l.stackTraces = false) (q0 : Nat) (a : Int32) (n : Int32) (t : Int32) (hbad : wf_no a = true) : wx_Met l y_X_shift (.code y_X_shift b_X_shift 5 (some .boolean) :: wG) (wf_rm 7 130 1 6) (wx_Pc ([.ref q0, .int (a), .int (n), .int (t)]) (fun _ => True)) EI 1 6 := by
  refine wx_open (by decide) (Nat.le_of_ble_eq_true rfl) ?_
  intro p e s m below meth c ls C hlocks hex hO hXt hl
  have hx := C.1
  have hb := C.2.1
  have hml := C.2.2.1
  have hown := C.2.2.2.1
  have hts := C.2.2.2.2
  have hl : lv_has ls 5 [(0, .ref (q0)), (1, .int (a)), (2, .int (n)), (3, .int (t))] := hl
  refine lv_iload_n hx hb d_X_shift_0 rfl (lv_at hl 1 rfl) ?_
  exact wx_outS (As := [.int (a)]) (rest := []) C (t_X_checkRegister l hst a hbad) (va_cwS 1 C.2.2.2.2 (wG_S (fun _ h => h) k_ml_X_27 k_st_X_checkRegister k_in_X k_X_checkRegister) rfl rfl rfl (by decide +kernel) ⟨Nat.le_of_ble_eq_true rfl, Nat.le_of_ble_eq_true rfl⟩) ⟨wx_Pc_blind wx_T, wx_Pc_pre hO (fun _ _ => rfl) (fun _ _ _ => trivial)⟩ rfl hl.1 rfl (Nat.le_of_ble_eq_true rfl) d_X_shift_1 ⟨Nat.le_of_ble_eq_true rfl, Nat.le_of_ble_eq_true rfl⟩ hex hlocks

set_option maxHeartbeats 4000000 in
set_option maxRecDepth 100000 in
theorem t_X_shift_b2 (l : Launch) (hst : l.stackTraces = false) (q0 : Nat) (a : Nat) (ha : a < 8) (n : Int32) (t : Int32) (hbad : wf_no t = true) : wx_Met l y_X_shift (.code y_X_shift b_X_shift 5 (some .boolean) :: wG) (wf_rm 7 130 1 6) (wx_Pc ([.ref q0, .int (nI a), .int (n), .int (t)]) (fun _ => True)) EI 1 6 := by
  refine wx_open (by decide) (Nat.le_of_ble_eq_true rfl) ?_
  intro p e s m below meth c ls C hlocks hex hO hXt hl
  have hx := C.1
  have hb := C.2.1
  have hml := C.2.2.1
  have hown := C.2.2.2.1
  have hts := C.2.2.2.2
  have hl : lv_has ls 5 [(0, .ref (q0)), (1, .int (nI a)), (2, .int (n)), (3, .int (t))] := hl
  refine lv_iload_n hx hb d_X_shift_0 rfl (lv_at hl 1 rfl) ?_
  refine kX_chk (r := a) ha C hl.1 ⟨Nat.le_of_ble_eq_true rfl, Nat.le_of_ble_eq_true rfl⟩ (Nat.le_of_ble_eq_true rfl) ⟨Nat.le_of_ble_eq_true rfl, Nat.le_of_ble_eq_true rfl⟩ d_X_shift_1 ?_
  refine lv_iload_n hx hb d_X_shift_4 rfl (lv_at hl 3 rfl) ?_
  exact wx_outS (As := [.int (t)]) (rest := []) C (t_X_checkRegister l hst t hbad) (va_cwS 1 C.2.2.2.2 (wG_S (fun _ h => h) k_ml_X_27 k_st_X_checkRegister k_in_X k_X_checkRegister) rfl rfl rfl (by decide +kernel) ⟨Nat.le_of_ble_eq_true rfl, Nat.le_of_ble_eq_true rfl⟩) ⟨wx_Pc_blind wx_T, wx_Pc_pre hO (fun _ _ => rfl) (fun _ _ _ => trivial)⟩ rfl hl.1 rfl (Nat.le_of_ble_eq_true rfl) d_X_shift_5 ⟨Nat.le_of_ble_eq_true rfl, Nat.le_of_ble_eq_true rfl⟩ hex hlocks

set_option maxHeartbeats 4000000 in
set_option maxRecDepth 100000 in
theorem t_X_jam_b1 (l : Launch) (hst : l.stackTraces = false) (q0 : Nat) (a : Int32) (n : Int32) (t : Int32) (hbad : wf_no a = true) : wx_Met l y_X_jam (.code y_X_jam b_X_jam 4 none :: wG) (wf_rm 7 130 1 6) (wx_Pc ([.ref q0, .int (a), .int (n), .int (t)]) (fun _ => True)) EI 1 6 := by
  refine wx_open (by decide) (Nat.le_of_ble_eq_true rfl) ?_
  intro p e s m below meth c ls C hlocks hex hO hXt hl
  have hx := C.1
  have hb := C.2.1
  have hml := C.2.2.1
  have hown := C.2.2.2.1
  have hts := C.2.2.2.2
  have hl : lv_has ls 4 [(0, .ref (q0)), (1, .int (a)), (2, .int (n)), (3, .int (t))] := hl
  refine lv_iload_n hx hb d_X_jam_0 rfl (lv_at hl 1 rfl) ?_
  exact wx_outS (As := [.int (a)]) (rest := []) C (t_X_checkRegister l hst a hbad) (va_cwS 1 C.2.2.2.2 (wG_S (fun _ h => h) k_ml_X_27 k_st_X_checkRegister k_in_X k_X_checkRegister) rfl rfl rfl (by decide +kernel) ⟨Nat.le_of_ble_eq_true rfl, Nat.le_of_ble_eq_true rfl⟩) ⟨wx_Pc_blind wx_T, wx_Pc_pre hO (fun _ _ => rfl) (fun _ _ _ => trivial)⟩ rfl hl.1 rfl (Nat.le_of_ble_eq_true rfl) d_X_jam_1 ⟨Nat.le_of_ble_eq_true rfl, Nat.le_of_ble_eq_true rfl⟩ hex hlocks

set_option maxHeartbeats 4000000 in
set_option maxRecDepth 100000 in
theorem t_X_jam_b2 (l : Launch) (hst : l.stackTraces = false) (q0 : Nat) (a : Nat) (ha : a < 8) (n : Int32) (t : Int32) (hbad : wf_no t = true) : wx_Met l y_X_jam (.code y_X_jam b_X_jam 4 none :: wG) (wf_rm 7 130 1 6) (wx_Pc ([.ref q0, .int (nI a), .int (n), .int (t)]) (fun _ => True)) EI 1 6 := by
  refine wx_open (by decide) (Nat.le_of_ble_eq_true rfl) ?_
  intro p e s m below meth c ls C hlocks hex hO hXt hl
  have hx := C.1
  have hb := C.2.1
  have hml := C.2.2.1
  have hown := C.2.2.2.1
  have hts := C.2.2.2.2
  have hl : lv_has ls 4 [(0, .ref (q0)), (1, .int (nI a)), (2, .int (n)), (3, .int (t))] := hl
  refine lv_iload_n hx hb d_X_jam_0 rfl (lv_at hl 1 rfl) ?_
  refine kX_chk (r := a) ha C hl.1 ⟨Nat.le_of_ble_eq_true rfl, Nat.le_of_ble_eq_true rfl⟩ (Nat.le_of_ble_eq_true rfl) ⟨Nat.le_of_ble_eq_true rfl, Nat.le_of_ble_eq_true rfl⟩ d_X_jam_1 ?_
  refine lv_iload_n hx hb d_X_jam_4 rfl (lv_at hl 3 rfl) ?_
  exact wx_outS (As := [.int (t)]) (rest := []) C (t_X_checkRegister l hst t hbad) (va_cwS 1 C.2.2.2.2 (wG_S (fun _ h => h) k_ml_X_27 k_st_X_checkRegister k_in_X k_X_checkRegister) rfl rfl rfl (by decide +kernel) ⟨Nat.le_of_ble_eq_true rfl, Nat.le_of_ble_eq_true rfl⟩) ⟨wx_Pc_blind wx_T, wx_Pc_pre hO (fun _ _ => rfl) (fun _ _ _ => trivial)⟩ rfl hl.1 rfl (Nat.le_of_ble_eq_true rfl) d_X_jam_5 ⟨Nat.le_of_ble_eq_true rfl, Nat.le_of_ble_eq_true rfl⟩ hex hlocks

set_option maxHeartbeats 4000000 in
set_option maxRecDepth 100000 in
theorem t_X_zeros_b1 (l : Launch) (hst : l.stackTraces = false) (q0 : Nat) (a : Int32) (hbad : wf_no a = true) : wx_Met l y_X_zeros (.code y_X_zeros b_X_zeros 2 (some .int) :: wG) (wf_rm 7 130 1 6) (wx_Pc ([.ref q0, .int (a)]) (fun _ => True)) EI 1 6 := by
  refine wx_open (by decide) (Nat.le_of_ble_eq_true rfl) ?_
  intro p e s m below meth c ls C hlocks hex hO hXt hl
  have hx := C.1
  have hb := C.2.1
  have hml := C.2.2.1
  have hown := C.2.2.2.1
  have hts := C.2.2.2.2
  have hl : lv_has ls 2 [(0, .ref (q0)), (1, .int (a))] := hl
  refine lv_iload_n hx hb d_X_zeros_0 rfl (lv_at hl 1 rfl) ?_
  exact wx_outS (As := [.int (a)]) (rest := []) C (t_X_checkRegister l hst a hbad) (va_cwS 1 C.2.2.2.2 (wG_S (fun _ h => h) k_ml_X_27 k_st_X_checkRegister k_in_X k_X_checkRegister) rfl rfl rfl (by decide +kernel) ⟨Nat.le_of_ble_eq_true rfl, Nat.le_of_ble_eq_true rfl⟩) ⟨wx_Pc_blind wx_T, wx_Pc_pre hO (fun _ _ => rfl) (fun _ _ _ => trivial)⟩ rfl hl.1 rfl (Nat.le_of_ble_eq_true rfl) d_X_zeros_1 ⟨Nat.le_of_ble_eq_true rfl, Nat.le_of_ble_eq_true rfl⟩ hex hlocks

set_option maxHeartbeats 4000000 in
set_option maxRecDepth 100000 in
theorem t_X_compare_b1 (l : Launch) (hst : l.stackTraces = false) (q0 : Nat) (a : Int32) (k : Int32) (hbad : wf_no a = true) : wx_Met l y_X_compare (.code y_X_compare b_X_compare 3 (some .int) :: wG) (wf_rm 7 130 1 6) (wx_Pc ([.ref q0, .int (a), .int (k)]) (fun _ => True)) EI 1 6 := by
  refine wx_open (by decide) (Nat.le_of_ble_eq_true rfl) ?_
  intro p e s m below meth c ls C hlocks hex hO hXt hl
  have hx := C.1
  have hb := C.2.1
  have hml := C.2.2.1
  have hown := C.2.2.2.1
  have hts := C.2.2.2.2
  have hl : lv_has ls 3 [(0, .ref (q0)), (1, .int (a)), (2, .int (k))] := hl
  refine lv_iload_n hx hb d_X_compare_0 rfl (lv_at hl 1 rfl) ?_
  exact wx_outS (As := [.int (a)]) (rest := []) C (t_X_checkRegister l hst a hbad) (va_cwS 1 C.2.2.2.2 (wG_S (fun _ h => h) k_ml_X_27 k_st_X_checkRegister k_in_X k_X_checkRegister) rfl rfl rfl (by decide +kernel) ⟨Nat.le_of_ble_eq_true rfl, Nat.le_of_ble_eq_true rfl⟩) ⟨wx_Pc_blind wx_T, wx_Pc_pre hO (fun _ _ => rfl) (fun _ _ _ => trivial)⟩ rfl hl.1 rfl (Nat.le_of_ble_eq_true rfl) d_X_compare_1 ⟨Nat.le_of_ble_eq_true rfl, Nat.le_of_ble_eq_true rfl⟩ hex hlocks

set_option maxHeartbeats 4000000 in
set_option maxRecDepth 100000 in
theorem t_X_compare_b2 (l : Launch) (hst : l.stackTraces = false) (q0 : Nat) (a : Nat) (ha : a < 8) (k : Int32) (hbad : wf_no k = true) : wx_Met l y_X_compare (.code y_X_compare b_X_compare 3 (some .int) :: wG) (wf_rm 7 130 1 6) (wx_Pc ([.ref q0, .int (nI a), .int (k)]) (fun _ => True)) EI 1 6 := by
  refine wx_open (by decide) (Nat.le_of_ble_eq_true rfl) ?_
  intro p e s m below meth c ls C hlocks hex hO hXt hl
  have hx := C.1
  have hb := C.2.1
  have hml := C.2.2.1
  have hown := C.2.2.2.1
  have hts := C.2.2.2.2
  have hl : lv_has ls 3 [(0, .ref (q0)), (1, .int (nI a)), (2, .int (k))] := hl
  refine lv_iload_n hx hb d_X_compare_0 rfl (lv_at hl 1 rfl) ?_
  refine kX_chk (r := a) ha C hl.1 ⟨Nat.le_of_ble_eq_true rfl, Nat.le_of_ble_eq_true rfl⟩ (Nat.le_of_ble_eq_true rfl) ⟨Nat.le_of_ble_eq_true rfl, Nat.le_of_ble_eq_true rfl⟩ d_X_compare_1 ?_
  refine lv_iload_n hx hb d_X_compare_4 rfl (lv_at hl 2 rfl) ?_
  exact wx_outS (As := [.int (k)]) (rest := []) C (t_X_checkRegister l hst k hbad) (va_cwS 1 C.2.2.2.2 (wG_S (fun _ h => h) k_ml_X_27 k_st_X_checkRegister k_in_X k_X_checkRegister) rfl rfl rfl (by decide +kernel) ⟨Nat.le_of_ble_eq_true rfl, Nat.le_of_ble_eq_true rfl⟩) ⟨wx_Pc_blind wx_T, wx_Pc_pre hO (fun _ _ => rfl) (fun _ _ _ => trivial)⟩ rfl hl.1 rfl (Nat.le_of_ble_eq_true rfl) d_X_compare_5 ⟨Nat.le_of_ble_eq_true rfl, Nat.le_of_ble_eq_true rfl⟩ hex hlocks

set_option maxHeartbeats 4000000 in
set_option maxRecDepth 100000 in
theorem t_X_digits_b1 (l : Launch) (hst : l.stackTraces = false) (q0 : Nat) (a : Int32) (hbad : wf_no a = true) : wx_Met l y_X_digits (.code y_X_digits b_X_digits 3 (some .int) :: wG) (wf_rm 7 130 1 6) (wx_Pc ([.ref q0, .int (a)]) (fun _ => True)) EI 1 6 := by
  refine wx_open (by decide) (Nat.le_of_ble_eq_true rfl) ?_
  intro p e s m below meth c ls C hlocks hex hO hXt hl
  have hx := C.1
  have hb := C.2.1
  have hml := C.2.2.1
  have hown := C.2.2.2.1
  have hts := C.2.2.2.2
  have hl : lv_has ls 3 [(0, .ref (q0)), (1, .int (a))] := hl
  refine lv_iload_n hx hb d_X_digits_0 rfl (lv_at hl 1 rfl) ?_
  exact wx_outS (As := [.int (a)]) (rest := []) C (t_X_checkRegister l hst a hbad) (va_cwS 1 C.2.2.2.2 (wG_S (fun _ h => h) k_ml_X_27 k_st_X_checkRegister k_in_X k_X_checkRegister) rfl rfl rfl (by decide +kernel) ⟨Nat.le_of_ble_eq_true rfl, Nat.le_of_ble_eq_true rfl⟩) ⟨wx_Pc_blind wx_T, wx_Pc_pre hO (fun _ _ => rfl) (fun _ _ _ => trivial)⟩ rfl hl.1 rfl (Nat.le_of_ble_eq_true rfl) d_X_digits_1 ⟨Nat.le_of_ble_eq_true rfl, Nat.le_of_ble_eq_true rfl⟩ hex hlocks

set_option maxHeartbeats 4000000 in
set_option maxRecDepth 100000 in
theorem t_X_next_b1 (l : Launch) (hst : l.stackTraces = false) (q0 : Nat) (a : Int32) (d : Int32) (hbad : wf_no a = true) : wx_Met l y_X_next (.code y_X_next b_X_next 11 (some .boolean) :: wG) (wf_rm 7 130 1 6) (wx_Pc ([.ref q0, .int (a), .int (d)]) (fun _ => True)) EI 1 6 := by
  refine wx_open (by decide) (Nat.le_of_ble_eq_true rfl) ?_
  intro p e s m below meth c ls C hlocks hex hO hXt hl
  have hx := C.1
  have hb := C.2.1
  have hml := C.2.2.1
  have hown := C.2.2.2.1
  have hts := C.2.2.2.2
  have hl : lv_has ls 11 [(0, .ref (q0)), (1, .int (a)), (2, .int (d))] := hl
  refine lv_iload_n hx hb d_X_next_0 rfl (lv_at hl 1 rfl) ?_
  exact wx_outS (As := [.int (a)]) (rest := []) C (t_X_checkRegister l hst a hbad) (va_cwS 1 C.2.2.2.2 (wG_S (fun _ h => h) k_ml_X_27 k_st_X_checkRegister k_in_X k_X_checkRegister) rfl rfl rfl (by decide +kernel) ⟨Nat.le_of_ble_eq_true rfl, Nat.le_of_ble_eq_true rfl⟩) ⟨wx_Pc_blind wx_T, wx_Pc_pre hO (fun _ _ => rfl) (fun _ _ _ => trivial)⟩ rfl hl.1 rfl (Nat.le_of_ble_eq_true rfl) d_X_next_1 ⟨Nat.le_of_ble_eq_true rfl, Nat.le_of_ble_eq_true rfl⟩ hex hlocks

set_option maxHeartbeats 4000000 in
set_option maxRecDepth 100000 in
theorem t_X_multiply_same (l : Launch) (hst : l.stackTraces = false) (q0 : Nat) (a : Nat) (ha : a < 8) (k : Nat) (hk : k < 8) (g : Nat) (hg : g < 8) : wx_Met l y_X_multiply (.code y_X_multiply b_X_multiply 5 none :: wG) (wf_rm 7 130 1 6) (wx_Pc ([.ref q0, .int (nI a), .int (nI k), .int (nI g), .int (nI g)]) (fun _ => True)) EA 1 6 := by
  refine wx_open (by decide) (Nat.le_of_ble_eq_true rfl) ?_
  intro p e s m below meth c ls C hlocks hex hO hXt hl
  have hx := C.1
  have hb := C.2.1
  have hml := C.2.2.1
  have hown := C.2.2.2.1
  have hts := C.2.2.2.2
  have hl : lv_has ls 5 [(0, .ref (q0)), (1, .int (nI a)), (2, .int (nI k)), (3, .int (nI g)), (4, .int (nI g))] := hl
  refine lv_iload_n hx hb d_X_multiply_0 rfl (lv_at hl 1 rfl) ?_
  refine kX_chk (r := a) ha C hl.1 ⟨Nat.le_of_ble_eq_true rfl, Nat.le_of_ble_eq_true rfl⟩ (Nat.le_of_ble_eq_true rfl) ⟨Nat.le_of_ble_eq_true rfl, Nat.le_of_ble_eq_true rfl⟩ d_X_multiply_1 ?_
  refine lv_iload_n hx hb d_X_multiply_4 rfl (lv_at hl 2 rfl) ?_
  refine kX_chk (r := k) hk C hl.1 ⟨Nat.le_of_ble_eq_true rfl, Nat.le_of_ble_eq_true rfl⟩ (Nat.le_of_ble_eq_true rfl) ⟨Nat.le_of_ble_eq_true rfl, Nat.le_of_ble_eq_true rfl⟩ d_X_multiply_5 ?_
  refine lv_iload_n hx hb d_X_multiply_8 rfl (lv_at hl 3 rfl) ?_
  refine kX_chk (r := g) hg C hl.1 ⟨Nat.le_of_ble_eq_true rfl, Nat.le_of_ble_eq_true rfl⟩ (Nat.le_of_ble_eq_true rfl) ⟨Nat.le_of_ble_eq_true rfl, Nat.le_of_ble_eq_true rfl⟩ d_X_multiply_9 ?_
  refine lv_iload hx hb d_X_multiply_12 (lv_at hl 4 rfl) ?_
  refine kX_chk (r := g) hg C hl.1 ⟨Nat.le_of_ble_eq_true rfl, Nat.le_of_ble_eq_true rfl⟩ (Nat.le_of_ble_eq_true rfl) ⟨Nat.le_of_ble_eq_true rfl, Nat.le_of_ble_eq_true rfl⟩ d_X_multiply_14 ?_
  refine lv_iload_n hx hb d_X_multiply_17 rfl (lv_at hl 3 rfl) ?_
  refine lv_iload hx hb d_X_multiply_18 (lv_at hl 4 rfl) ?_
  exact wx_outS (As := [.int (nI g), .int (nI g)]) (rest := []) C (t_X_checkApart l hst (nI g)) (va_cwS 2 C.2.2.2.2 (wG_S (fun _ h => h) k_ml_X_43 k_st_X_checkApart k_in_X k_X_checkApart) rfl rfl rfl (by decide +kernel) ⟨Nat.le_of_ble_eq_true rfl, Nat.le_of_ble_eq_true rfl⟩) ⟨wx_Pc_blind wx_T, wx_Pc_pre hO (fun _ _ => rfl) (fun _ _ _ => trivial)⟩ rfl hl.1 rfl (Nat.le_of_ble_eq_true rfl) d_X_multiply_20 ⟨Nat.le_of_ble_eq_true rfl, Nat.le_of_ble_eq_true rfl⟩ hex hlocks

set_option maxHeartbeats 4000000 in
set_option maxRecDepth 100000 in
theorem t_X_divide_same (l : Launch) (hst : l.stackTraces = false) (q0 : Nat) (a : Nat) (ha : a < 8) (k : Nat) (hk : k < 8) (g : Nat) (hg : g < 8) : wx_Met l y_X_divide (.code y_X_divide b_X_divide 5 none :: wG) (wf_rm 7 130 1 6) (wx_Pc ([.ref q0, .int (nI a), .int (nI k), .int (nI g), .int (nI g)]) (fun _ => True)) EA 1 6 := by
  refine wx_open (by decide) (Nat.le_of_ble_eq_true rfl) ?_
  intro p e s m below meth c ls C hlocks hex hO hXt hl
  have hx := C.1
  have hb := C.2.1
  have hml := C.2.2.1
  have hown := C.2.2.2.1
  have hts := C.2.2.2.2
  have hl : lv_has ls 5 [(0, .ref (q0)), (1, .int (nI a)), (2, .int (nI k)), (3, .int (nI g)), (4, .int (nI g))] := hl
  refine lv_iload_n hx hb d_X_divide_0 rfl (lv_at hl 1 rfl) ?_
  refine kX_chk (r := a) ha C hl.1 ⟨Nat.le_of_ble_eq_true rfl, Nat.le_of_ble_eq_true rfl⟩ (Nat.le_of_ble_eq_true rfl) ⟨Nat.le_of_ble_eq_true rfl, Nat.le_of_ble_eq_true rfl⟩ d_X_divide_1 ?_
  refine lv_iload_n hx hb d_X_divide_4 rfl (lv_at hl 2 rfl) ?_
  refine kX_chk (r := k) hk C hl.1 ⟨Nat.le_of_ble_eq_true rfl, Nat.le_of_ble_eq_true rfl⟩ (Nat.le_of_ble_eq_true rfl) ⟨Nat.le_of_ble_eq_true rfl, Nat.le_of_ble_eq_true rfl⟩ d_X_divide_5 ?_
  refine lv_iload_n hx hb d_X_divide_8 rfl (lv_at hl 3 rfl) ?_
  refine kX_chk (r := g) hg C hl.1 ⟨Nat.le_of_ble_eq_true rfl, Nat.le_of_ble_eq_true rfl⟩ (Nat.le_of_ble_eq_true rfl) ⟨Nat.le_of_ble_eq_true rfl, Nat.le_of_ble_eq_true rfl⟩ d_X_divide_9 ?_
  refine lv_iload hx hb d_X_divide_12 (lv_at hl 4 rfl) ?_
  refine kX_chk (r := g) hg C hl.1 ⟨Nat.le_of_ble_eq_true rfl, Nat.le_of_ble_eq_true rfl⟩ (Nat.le_of_ble_eq_true rfl) ⟨Nat.le_of_ble_eq_true rfl, Nat.le_of_ble_eq_true rfl⟩ d_X_divide_14 ?_
  refine lv_iload_n hx hb d_X_divide_17 rfl (lv_at hl 3 rfl) ?_
  refine lv_iload hx hb d_X_divide_18 (lv_at hl 4 rfl) ?_
  exact wx_outS (As := [.int (nI g), .int (nI g)]) (rest := []) C (t_X_checkApart l hst (nI g)) (va_cwS 2 C.2.2.2.2 (wG_S (fun _ h => h) k_ml_X_43 k_st_X_checkApart k_in_X k_X_checkApart) rfl rfl rfl (by decide +kernel) ⟨Nat.le_of_ble_eq_true rfl, Nat.le_of_ble_eq_true rfl⟩) ⟨wx_Pc_blind wx_T, wx_Pc_pre hO (fun _ _ => rfl) (fun _ _ _ => trivial)⟩ rfl hl.1 rfl (Nat.le_of_ble_eq_true rfl) d_X_divide_20 ⟨Nat.le_of_ble_eq_true rfl, Nat.le_of_ble_eq_true rfl⟩ hex hlocks

set_option maxHeartbeats 4000000 in
set_option maxRecDepth 100000 in
theorem t_X_root_same (l : Launch) (hst : l.stackTraces = false) (q0 : Nat) (a : Nat) (ha : a < 8) (g : Nat) (hg : g < 8) : wx_Met l y_X_root (.code y_X_root b_X_root 4 none :: wG) (wf_rm 7 130 1 6) (wx_Pc ([.ref q0, .int (nI a), .int (nI g), .int (nI g)]) (fun _ => True)) EA 1 6 := by
  refine wx_open (by decide) (Nat.le_of_ble_eq_true rfl) ?_
  intro p e s m below meth c ls C hlocks hex hO hXt hl
  have hx := C.1
  have hb := C.2.1
  have hml := C.2.2.1
  have hown := C.2.2.2.1
  have hts := C.2.2.2.2
  have hl : lv_has ls 4 [(0, .ref (q0)), (1, .int (nI a)), (2, .int (nI g)), (3, .int (nI g))] := hl
  refine lv_iload_n hx hb d_X_root_0 rfl (lv_at hl 1 rfl) ?_
  refine kX_chk (r := a) ha C hl.1 ⟨Nat.le_of_ble_eq_true rfl, Nat.le_of_ble_eq_true rfl⟩ (Nat.le_of_ble_eq_true rfl) ⟨Nat.le_of_ble_eq_true rfl, Nat.le_of_ble_eq_true rfl⟩ d_X_root_1 ?_
  refine lv_iload_n hx hb d_X_root_4 rfl (lv_at hl 2 rfl) ?_
  refine kX_chk (r := g) hg C hl.1 ⟨Nat.le_of_ble_eq_true rfl, Nat.le_of_ble_eq_true rfl⟩ (Nat.le_of_ble_eq_true rfl) ⟨Nat.le_of_ble_eq_true rfl, Nat.le_of_ble_eq_true rfl⟩ d_X_root_5 ?_
  refine lv_iload_n hx hb d_X_root_8 rfl (lv_at hl 3 rfl) ?_
  refine kX_chk (r := g) hg C hl.1 ⟨Nat.le_of_ble_eq_true rfl, Nat.le_of_ble_eq_true rfl⟩ (Nat.le_of_ble_eq_true rfl) ⟨Nat.le_of_ble_eq_true rfl, Nat.le_of_ble_eq_true rfl⟩ d_X_root_9 ?_
  refine lv_iload_n hx hb d_X_root_12 rfl (lv_at hl 2 rfl) ?_
  refine lv_iload_n hx hb d_X_root_13 rfl (lv_at hl 3 rfl) ?_
  exact wx_outS (As := [.int (nI g), .int (nI g)]) (rest := []) C (t_X_checkApart l hst (nI g)) (va_cwS 2 C.2.2.2.2 (wG_S (fun _ h => h) k_ml_X_43 k_st_X_checkApart k_in_X k_X_checkApart) rfl rfl rfl (by decide +kernel) ⟨Nat.le_of_ble_eq_true rfl, Nat.le_of_ble_eq_true rfl⟩) ⟨wx_Pc_blind wx_T, wx_Pc_pre hO (fun _ _ => rfl) (fun _ _ _ => trivial)⟩ rfl hl.1 rfl (Nat.le_of_ble_eq_true rfl) d_X_root_14 ⟨Nat.le_of_ble_eq_true rfl, Nat.le_of_ble_eq_true rfl⟩ hex hlocks

set_option maxHeartbeats 4000000 in
set_option maxRecDepth 100000 in
theorem t_X_jam_neg (l : Launch) (hst : l.stackTraces = false) (q0 : Nat) (a : Nat) (ha : a < 8) (n : Int32) (hneg : n < 0) (t : Nat) (ht : t < 8) : wx_Met l y_X_jam (.code y_X_jam b_X_jam 4 none :: wG) (wf_rm 7 130 1 6) (wx_Pc ([.ref q0, .int (nI a), .int n, .int (nI t)]) (fun _ => True)) EA 1 6 := by
  refine wx_open (by decide) (Nat.le_of_ble_eq_true rfl) ?_
  intro p e s m below meth c ls C hlocks hex hO hXt hl
  have hx := C.1
  have hb := C.2.1
  have hml := C.2.2.1
  have hown := C.2.2.2.1
  have hts := C.2.2.2.2
  have hl : lv_has ls 4 [(0, .ref (q0)), (1, .int (nI a)), (2, .int (n)), (3, .int (nI t))] := hl
  refine lv_iload_n hx hb d_X_jam_0 rfl (lv_at hl 1 rfl) ?_
  refine kX_chk (r := a) ha C hl.1 ⟨Nat.le_of_ble_eq_true rfl, Nat.le_of_ble_eq_true rfl⟩ (Nat.le_of_ble_eq_true rfl) ⟨Nat.le_of_ble_eq_true rfl, Nat.le_of_ble_eq_true rfl⟩ d_X_jam_1 ?_
  refine lv_iload_n hx hb d_X_jam_4 rfl (lv_at hl 3 rfl) ?_
  refine kX_chk (r := t) ht C hl.1 ⟨Nat.le_of_ble_eq_true rfl, Nat.le_of_ble_eq_true rfl⟩ (Nat.le_of_ble_eq_true rfl) ⟨Nat.le_of_ble_eq_true rfl, Nat.le_of_ble_eq_true rfl⟩ d_X_jam_5 ?_
  refine lv_iload_n hx hb d_X_jam_8 rfl (lv_at hl 2 rfl) ?_
  refine lv_if_ge (tgt := 22) hx hb d_X_jam_9 (by decide) (fun c_1 => False.elim (by first | exact absurd c_1 (Int32.not_le.mpr hneg) | exact absurd (Int32.not_le.mpr hneg) c_1)) (fun c_1 => ?_)
  exact wx_throw (text := "the distance is below 0") hx hb hml hst hown (by decide +kernel) wx_fn (wx_hat (by decide) hts hO) (hts _ k_kl_X_72) (hts _ k_in_IllegalArgumentException) (hO _ k_str_74) hl.1 hex hlocks d_X_jam_12 d_X_jam_15 d_X_jam_16 d_X_jam_18 d_X_jam_21 (Nat.le_of_ble_eq_true rfl) (Nat.le_of_ble_eq_true rfl) (Nat.le_of_ble_eq_true rfl) (Nat.le_of_ble_eq_true rfl)

theorem wf_next_10 {d : Int32} (h : (decide (d < 0) || decide (9 < d)) = true) (h0 : ¬ d < 0) : ¬ Int32.toInt64 d < 10 := by
  intro h8
  rw [decide_eq_false h0, Bool.false_or] at h
  have h7 := of_decide_eq_true h
  rw [Int32.lt_iff_toInt_lt] at h7
  rw [Int64.lt_iff_toInt_lt, Int32.toInt_toInt64] at h8
  rw [show (10 : Int64).toInt = 10 from by decide] at h8
  rw [show (9 : Int32).toInt = 9 from by decide] at h7
  omega

set_option maxHeartbeats 4000000 in
set_option maxRecDepth 100000 in
theorem t_X_next_digit (l : Launch) (hst : l.stackTraces = false) (q0 : Nat) (a : Nat) (ha : a < 8) (d : Int32) (hbad : (decide (d < 0) || decide (9 < d)) = true) : wx_Met l y_X_next (.code y_X_next b_X_next 11 (some .boolean) :: wG) (wf_rm 7 130 1 6) (wx_Pc ([.ref q0, .int (nI a), .int d]) (fun _ => True)) EA 1 6 := by
  refine wx_open (by decide) (Nat.le_of_ble_eq_true rfl) ?_
  intro p e s m below meth c ls C hlocks hex hO hXt hl
  have hx := C.1
  have hb := C.2.1
  have hml := C.2.2.1
  have hown := C.2.2.2.1
  have hts := C.2.2.2.2
  have hl : lv_has ls 11 [(0, .ref (q0)), (1, .int (nI a)), (2, .int (d))] := hl
  refine lv_iload_n hx hb d_X_next_0 rfl (lv_at hl 1 rfl) ?_
  refine kX_chk (r := a) ha C hl.1 ⟨Nat.le_of_ble_eq_true rfl, Nat.le_of_ble_eq_true rfl⟩ (Nat.le_of_ble_eq_true rfl) ⟨Nat.le_of_ble_eq_true rfl, Nat.le_of_ble_eq_true rfl⟩ d_X_next_1 ?_
  refine lv_iload_n hx hb d_X_next_4 rfl (lv_at hl 2 rfl) ?_
  refine lv_if_lt (tgt := 17) hx hb d_X_next_5 (by decide) (fun c_1 => ?_) (fun c_1 => ?_)
  · exact wx_throw (text := "not a digit 0 .. 9") hx hb hml hst hown (by decide +kernel) wx_fn (wx_hat (by decide) hts hO) (hts _ k_kl_X_72) (hts _ k_in_IllegalArgumentException) (hO _ k_str_95) hl.1 hex hlocks d_X_next_17 d_X_next_20 d_X_next_21 d_X_next_23 d_X_next_26 (Nat.le_of_ble_eq_true rfl) (Nat.le_of_ble_eq_true rfl) (Nat.le_of_ble_eq_true rfl) (Nat.le_of_ble_eq_true rfl)
  · refine lv_iload_n hx hb d_X_next_8 rfl (lv_at hl 2 rfl) ?_
    refine lv_i2l hx hb d_X_next_9 rfl ?_
    refine lv_ldc2 (v := 10) hx hb hown (hts _ (k_cl_X_93)) d_X_next_10 ?_
    refine W.lcmp hx hb d_X_next_13 ?_
    refine lv_if_lt (tgt := 27) hx hb d_X_next_14 (by decide) (fun c_2 => False.elim (by first | exact absurd c_2 (fun h => absurd ((lg_cmp_lt _ _).mp h) (wf_next_10 hbad c_1)) | exact absurd (fun h => absurd ((lg_cmp_lt _ _).mp h) (wf_next_10 hbad c_1)) c_2)) (fun c_2 => ?_)
    exact wx_throw (text := "not a digit 0 .. 9") hx hb hml hst hown (by decide +kernel) wx_fn (wx_hat (by decide) hts hO) (hts _ k_kl_X_72) (hts _ k_in_IllegalArgumentException) (hO _ k_str_95) hl.1 hex hlocks d_X_next_17 d_X_next_20 d_X_next_21 d_X_next_23 d_X_next_26 (Nat.le_of_ble_eq_true rfl) (Nat.le_of_ble_eq_true rfl) (Nat.le_of_ble_eq_true rfl) (Nat.le_of_ble_eq_true rfl)

set_option maxHeartbeats 4000000 in
set_option maxRecDepth 100000 in
theorem t_X_divide_zero (l : Launch) (hst : l.stackTraces = false) (D : va_G) (q : Nat → Nat) (κ : Nat → ClassId) (u : SX) (ra : Nat) (hra : ra < 8) (rb : Nat) (hrb : rb < 8) (ro : Nat) (hro : ro < 8) (rt : Nat) (hrt : rt < 8) (hne : ¬ nI ro = nI rt) (hz : wf_Rx u rb = 0) : wx_Met l y_X_divide (.code y_X_divide b_X_divide 5 none :: wG) (wf_rm 7 130 1 6) (wx_Pc ([.ref (q 0), .int (nI ra), .int (nI rb), .int (nI ro), .int (nI rt)]) (fun U => va_P D vwCl (wX q κ u) U.heap ∧ va_K D vwCl (tyX κ) U)) EX 1 6 := by
  refine wx_open (by decide) (Nat.le_of_ble_eq_true rfl) ?_
  intro p e s m below meth c ls C hlocks hex hO hXt hl
  have hx := C.1
  have hb := C.2.1
  have hml := C.2.2.1
  have hown := C.2.2.2.1
  have hts := C.2.2.2.2
  have hl : lv_has ls 5 [(0, .ref (q 0)), (1, .int (nI ra)), (2, .int (nI rb)), (3, .int (nI ro)), (4, .int (nI rt))] := hl
  obtain ⟨hP, hK⟩ := hXt
  have hz1 : u.1 rb = 0 := uN_eq0.mpr (by unfold wf_Rx wf_V at hz; omega)
  have hz2 : u.2.1 rb = 0 := uN_eq0.mpr (by unfold wf_Rx wf_V at hz; omega)
  refine lv_iload_n hx hb d_X_divide_0 rfl (lv_at hl 1 rfl) ?_
  refine kX_chk (r := ra) hra C hl.1 ⟨Nat.le_of_ble_eq_true rfl, Nat.le_of_ble_eq_true rfl⟩ (Nat.le_of_ble_eq_true rfl) ⟨Nat.le_of_ble_eq_true rfl, Nat.le_of_ble_eq_true rfl⟩ d_X_divide_1 ?_
  refine lv_iload_n hx hb d_X_divide_4 rfl (lv_at hl 2 rfl) ?_
  refine kX_chk (r := rb) hrb C hl.1 ⟨Nat.le_of_ble_eq_true rfl, Nat.le_of_ble_eq_true rfl⟩ (Nat.le_of_ble_eq_true rfl) ⟨Nat.le_of_ble_eq_true rfl, Nat.le_of_ble_eq_true rfl⟩ d_X_divide_5 ?_
  refine lv_iload_n hx hb d_X_divide_8 rfl (lv_at hl 3 rfl) ?_
  refine kX_chk (r := ro) hro C hl.1 ⟨Nat.le_of_ble_eq_true rfl, Nat.le_of_ble_eq_true rfl⟩ (Nat.le_of_ble_eq_true rfl) ⟨Nat.le_of_ble_eq_true rfl, Nat.le_of_ble_eq_true rfl⟩ d_X_divide_9 ?_
  refine lv_iload hx hb d_X_divide_12 (lv_at hl 4 rfl) ?_
  refine kX_chk (r := rt) hrt C hl.1 ⟨Nat.le_of_ble_eq_true rfl, Nat.le_of_ble_eq_true rfl⟩ (Nat.le_of_ble_eq_true rfl) ⟨Nat.le_of_ble_eq_true rfl, Nat.le_of_ble_eq_true rfl⟩ d_X_divide_14 ?_
  refine lv_iload_n hx hb d_X_divide_17 rfl (lv_at hl 3 rfl) ?_
  refine lv_iload hx hb d_X_divide_18 (lv_at hl 4 rfl) ?_
  refine kX_apart hne C hl.1 ⟨Nat.le_of_ble_eq_true rfl, Nat.le_of_ble_eq_true rfl⟩ (Nat.le_of_ble_eq_true rfl) ⟨Nat.le_of_ble_eq_true rfl, Nat.le_of_ble_eq_true rfl⟩ d_X_divide_20 ?_
  refine lv_aload_n hx hb d_X_divide_23 rfl (lv_at hl 0 rfl) ?_
  refine gX C hK hP 0 rfl 0 (by decide) k_fl_X_highs rfl d_X_divide_24 ?_
  refine lv_iload_n hx hb d_X_divide_27 rfl (lv_at hl 2 rfl) ?_
  refine wf_lald C hK hP 1 0 rfl rfl (k := rb) rfl hrb (by decide) d_X_divide_28 ?_
  refine lv_lconst (v := 0) hx hb d_X_divide_29 (by decide) ?_
  refine W.lcmp hx hb d_X_divide_30 ?_
  refine lv_if_ne (tgt := 55) hx hb d_X_divide_31 (by decide) (fun c_1 => False.elim (by first | exact absurd c_1 ((lg_cmp_eq _ _).mpr hz1) | exact absurd ((lg_cmp_eq _ _).mpr hz1) c_1)) (fun c_1 => ?_)
  refine lv_aload_n hx hb d_X_divide_34 rfl (lv_at hl 0 rfl) ?_
  refine gX C hK hP 0 rfl 1 (by decide) k_fl_X_lows rfl d_X_divide_35 ?_
  refine lv_iload_n hx hb d_X_divide_38 rfl (lv_at hl 2 rfl) ?_
  refine wf_lald C hK hP 2 1 rfl rfl (k := rb) rfl hrb (by decide) d_X_divide_39 ?_
  refine lv_lconst (v := 0) hx hb d_X_divide_40 (by decide) ?_
  refine W.lcmp hx hb d_X_divide_41 ?_
  refine lv_if_ne (tgt := 55) hx hb d_X_divide_42 (by decide) (fun c_2 => False.elim (by first | exact absurd c_2 ((lg_cmp_eq _ _).mpr hz2) | exact absurd ((lg_cmp_eq _ _).mpr hz2) c_2)) (fun c_2 => ?_)
  exact wx_throw (text := "the divisor is 0") hx hb hml hst hown (by decide +kernel) wx_fn (wx_hat (by decide) hts hO) (hts _ k_kl_X_51) (hts _ k_in_ArithmeticException) (hO _ k_str_53) hl.1 hex hlocks d_X_divide_45 d_X_divide_48 d_X_divide_49 d_X_divide_51 d_X_divide_54 (Nat.le_of_ble_eq_true rfl) (Nat.le_of_ble_eq_true rfl) (Nat.le_of_ble_eq_true rfl) (Nat.le_of_ble_eq_true rfl)
