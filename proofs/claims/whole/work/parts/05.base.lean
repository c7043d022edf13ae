/-! ===== the frame of every walk: the good words, the start of a contract, calls over the same world ===== -/
/-- every word of the tables that a contract may rest on -/
def wG : List Cond := lw_tbl.filter goodWord
theorem wG_in {w : Cond} (h : w ∈ lw_tbl) (hg : goodWord w = true) : w ∈ wG := List.mem_filter.mpr ⟨h, hg⟩
theorem wG_tbl {w : Cond} (h : w ∈ wG) : w ∈ lw_tbl := (List.mem_filter.mp h).1
theorem wG_good {w : Cond} (h : w ∈ wG) : (w.onTables && w.keeps) = true ∨ ∃ ty, w = .arrayClass ty := good_of_word (List.mem_filter.mp h).2
theorem wG_sub {big ws : List Cond} (hb : ∀ w ∈ wG, w ∈ big) (h : ∀ w ∈ ws, w ∈ wG) : GoodIn big ws := fun w hw => ⟨hb w (h w hw), wG_good (h w hw)⟩
theorem wG_cons {c : Cond} (h : c ∈ wG) : ∀ w ∈ c :: wG, w ∈ wG := fun w hw => by
  rcases List.mem_cons.mp hw with rfl | hw
  · exact h
  · exact hw
theorem wG_V {big : List Cond} (hb : ∀ w ∈ wG, w ∈ big) {own C : String} {idx n : Nat} {y : MethodName} {b : ByteArray} {r : Option FieldType} (h1 : Cond.methodLink own idx y ∈ wG) (h2 : Cond.instanceMethod y ∈ wG) (h3 : Cond.selects C y y ∈ wG) (h4 : Cond.initialized C ∈ wG) (h5 : Cond.code y b n r ∈ wG) : GoodIn big (wsV own idx C y (.code y b n r :: wG)) :=
  wG_sub hb (fun w hw => by
    rcases List.mem_append.mp hw with h | h
    · simp only [List.mem_cons, List.not_mem_nil, or_false] at h
      rcases h with rfl | rfl | rfl | rfl
      · exact h1
      · exact h2
      · exact h3
      · exact h4
    · exact wG_cons h5 w h)
theorem wG_S {big : List Cond} (hb : ∀ w ∈ wG, w ∈ big) {own : String} {idx n : Nat} {y : MethodName} {b : ByteArray} {r : Option FieldType} (h1 : Cond.methodLink own idx y ∈ wG) (h2 : Cond.static y ∈ wG) (h3 : Cond.initialized y.cls ∈ wG) (h5 : Cond.code y b n r ∈ wG) : GoodIn big (va_wsS own idx y (.code y b n r :: wG)) :=
  wG_sub hb (fun w hw => by
    rcases List.mem_append.mp hw with h | h
    · simp only [List.mem_cons, List.not_mem_nil, or_false] at h
      rcases h with rfl | rfl | rfl
      · exact h1
      · exact h2
      · exact h3
    · exact wG_cons h5 w h)
theorem wG_SH {big : List Cond} (hb : ∀ w ∈ wG, w ∈ big) {own : String} {idx n : Nat} {y : MethodName} {b : ByteArray} {r : Option FieldType} {hs : List (Nat × Nat × Nat × Nat)} (h1 : Cond.methodLink own idx y ∈ wG) (h2 : Cond.static y ∈ wG) (h3 : Cond.initialized own ∈ wG) (h5 : Cond.codeWith y b n r hs ∈ wG) : GoodIn big (wsS own idx y (.codeWith y b n r hs :: wG)) :=
  wG_sub hb (fun w hw => by
    rcases List.mem_append.mp hw with h | h
    · simp only [List.mem_cons, List.not_mem_nil, or_false] at h
      rcases h with rfl | rfl | rfl
      · exact h1
      · exact h2
      · exact h3
    · exact wG_cons h5 w h)
/-- the room of a method that calls at most k deep -/
abbrev wf_rm (f loc mc ms : Nat) : Room := { frames := f, cells := mc, slots := ms, locals := loc }
/-- a start: the world w, nothing else known -/
def wf_Pc (D : va_G) (cl : List vw_C) (w : va_W) (tys : List (ClassId × FieldType)) (av : List Value) (sz : Nat) : Array Value → State → Prop :=
  va_Pc av (fun U => U.heap.size = sz ∧ va_P D cl w U.heap ∧ va_K D cl tys U ∧ va_D (fun _ => True) w)
theorem wf_blind {D : va_G} {cl : List vw_C} {w : va_W} {tys : List (ClassId × FieldType)} {av : List Value} {sz : Nat} : FrameBlind (wf_Pc D cl w tys av sz) := fun a U g mk q => by
  obtain ⟨q0, q1, qP, qK, qD⟩ := q
  exact ⟨q0, q1, qP, va_K.moved (u := U) (U := U.calling g mk a) (Vm.Alike.refl U.vm) qK, qD⟩
theorem wf_pre {D : va_G} {cl : List vw_C} {w : va_W} {tys : List (ClassId × FieldType)} {av : List Value} {s : State} {H : Heap} {A : Nat → Prop} (hP : va_P D cl w H) (hK : va_K D cl tys s) (hD : va_D A w) : ∀ U : State, U.heap = H → s.WarmedH U.vm → wf_Pc D cl w tys av H.size av.toArray U :=
  fun U hU hW => ⟨rfl, by rw [hU], by rw [hU]; exact hP, va_K.moved hW.alike hK, hD.weaken (fun _ _ _ _ => trivial)⟩
/-- an end: the world of u -/
def wf_B {S : Type} (D : va_G) (cl : List vw_C) (mk : S → va_W) (tys : List (ClassId × FieldType)) (A : Nat → Prop) : S → State → Prop := fun u t => va_P D cl (mk u) t.heap ∧ va_K D cl tys t ∧ va_D A (mk u)
theorem wf_free {A : Nat → Prop} {w : va_W} {H0 H : Heap} {locs : List Loc} (hD : va_D A w) (hS : va_S A H0 H locs) (hA : ∀ q, H0.size ≤ q → A q) : ∀ q, va_A w H.size q → A q := by
  intro q h
  rcases h with ⟨k, e, h⟩ | h
  · exact hD.2 k _ h
  · exact hA q (Nat.le_trans hS.1 h)
theorem wf_one_ne {x y : Int32} (h : x = y) : y = x := h.symm
section WFO
variable {l : Launch} {y : MethodName} {ws' : List Cond} {rm : Room} {D : va_G} {cl : List vw_C} {w : va_W} {tys : List (ClassId × FieldType)} {av : List Value} {sz : Nat} {Qc : Array Value → State → Outcome → State → Prop} {mc ms : Nat} {free : Addr → Prop} {cc : ByteArray} {maxL : Nat} {ret : Option FieldType}
/-- a contract over a world, by its walk -/
theorem wf_open (hy : plainName y.cls = true) (hle : (lg_sl av).length ≤ maxL) (hc : Cond.code y cc maxL ret ∈ wG)
    (body : ∀ (p : Program) (e : Env) (s : State) (m : MethodId) (below : List Frame) (meth : Method) (c : Code) (ls : Array Slot), s.heap.size = sz → CallFix p m c cc maxL s av.toArray wG y.cls → meth.sig.returnType = ret → meth.locks = false → meth.name = y.name → c.exceptionTable.toList = [] →
      va_P D cl w s.heap → va_K D cl tys s → va_D (va_A w s.heap.size) w → lv_has ls maxL (lv_args 0 av) →
      W p l e rm s m av.toArray below meth c s.heap [] 0 0 (MQ below Qc av.toArray s mc ms free) (F0 m 0 ls [])) :
    Met l y (Cond.code y cc maxL ret :: wG) rm (wf_Pc D cl w tys av sz) Qc mc ms free := by
  refine Met.ofW (cc := cc) (maxL := maxL) (ret := ret) hy rfl ?_
  intro p e s m args below meth c s₁ B hml hv
  obtain ⟨rfl, hsz, hP, hK, hD0⟩ := hv
  have hts := atoms_spec (ws := Cond.code y cc maxL ret :: wG) B.pre
  rw [lg_entry_eq]
  exact body p e s m below meth c _ hsz ⟨B.exec, B.bytes, hml, findClass_of_methodNamed B.named, fun w hw => hts w (List.mem_cons_of_mem _ hw)⟩ B.returns B.notSynchronized (name_of_methodNamed B.named B.method).1 (wx_noh B (hts _ List.mem_cons_self)) hP hK (hD0.self (sz := s.heap.size)) (lv_entry av hle)
/-- a contract of a static method that looks at nothing but its arguments -/
theorem wf_openS (hy : plainName y.cls = true) (hle : (lg_sl av).length ≤ maxL)
    (body : ∀ (p : Program) (e : Env) (s : State) (m : MethodId) (below : List Frame) (meth : Method) (c : Code) (ls : Array Slot), CallFix p m c cc maxL s av.toArray wG y.cls → meth.sig.returnType = ret → meth.locks = false → lv_has ls maxL (lv_args 0 av) →
      W p l e rm s m av.toArray below meth c s.heap [] 0 0 (MQ below Qc av.toArray s mc ms free) (F0 m 0 ls [])) :
    Met l y (Cond.code y cc maxL ret :: wG) rm (fun v _ => v = av.toArray) Qc mc ms free := by
  refine Met.ofW (cc := cc) (maxL := maxL) (ret := ret) hy rfl ?_
  intro p e s m args below meth c s₁ B hml hv
  have hv : args = av.toArray := hv
  subst hv
  have hts := atoms_spec (ws := Cond.code y cc maxL ret :: wG) B.pre
  rw [lg_entry_eq]
  exact body p e s m below meth c _ ⟨B.exec, B.bytes, hml, findClass_of_methodNamed B.named, fun w hw => hts w (List.mem_cons_of_mem _ hw)⟩ B.returns B.notSynchronized (lv_entry av hle)
end WFO
section WFC
variable {p : Program} {l : Launch} {e : Env} {R : Room} {s : State} {m : MethodId} {args : Array Value} {below : List Frame} {meth : Method} {c : Code} {H : Heap} {locs : List Loc} {cells slots : Nat} {Q : State → Prop}
variable {cc : ByteArray} {pc nL : Nat} {ls : Array Slot} {rest : List Value} {D : va_G} {cl : List vw_C} {A : Nat → Prop} {tys : List (ClassId × FieldType)} {w0 : va_W} {H0 : Heap} {mc ms : Nat} {a : Array Value} {st0 : List Value}  {own : String}
/-- behind a call over the whole world -/
theorem wf_cv {S : Type} {post : S → Prop} {mk : S → va_W} {free : Addr → Prop} (hr : va_Run p l e R s m args below meth c H locs cells slots mc ms (F0 m pc ls st0) rest (va_Qv post (wf_B D cl mk tys (va_A w0 H.size)) (va_A w0 H.size) a) free) (hfr : ∀ q, free q → va_A w0 H.size q) (hS : va_S A H0 H locs) (hD : va_D A w0) (hA : ∀ q, H0.size ≤ q → A q)
    (kk : ∀ (u : S) (H1 : Heap) (locs1 : List Loc), post u → va_P D cl (mk u) H1 → va_D A (mk u) → va_S A H0 H1 locs1 → W p l e R s m args below meth c H1 locs1 (cells + mc) (slots + ms) Q (F0 m (pc + 3) ls rest)) : W p l e R s m args below meth c H locs cells slots Q (F0 m pc ls st0) := by
  have hF := wf_free hD hS hA
  refine va_callv hr hS (fun q _ h => hF q h) (fun q h => hF q (hfr q h)) (fun u t H1 locs1 ht hvm hp hB hz1 hk1 hS1 => ?_)
  obtain ⟨hP1, -, hD1⟩ := hB
  rw [ht] at hP1
  exact kk u H1 locs1 hp hP1 (hD1.weaken (fun k q _ h => hF q.1 h)) hS1
theorem wf_ci {S : Type} {post : Int32 → S → Prop} {mk : S → va_W} {free : Addr → Prop} (hr : va_Run p l e R s m args below meth c H locs cells slots mc ms (F0 m pc ls st0) rest (va_Qi post (wf_B D cl mk tys (va_A w0 H.size)) (va_A w0 H.size) a) free) (hfr : ∀ q, free q → va_A w0 H.size q) (hS : va_S A H0 H locs) (hD : va_D A w0) (hA : ∀ q, H0.size ≤ q → A q)
    (kk : ∀ (r : Int32) (u : S) (H1 : Heap) (locs1 : List Loc), post r u → va_P D cl (mk u) H1 → va_D A (mk u) → va_S A H0 H1 locs1 → W p l e R s m args below meth c H1 locs1 (cells + mc) (slots + ms) Q (F0 m (pc + 3) ls (.int r :: rest))) : W p l e R s m args below meth c H locs cells slots Q (F0 m pc ls st0) := by
  have hF := wf_free hD hS hA
  refine va_calli hr hS (fun q _ h => hF q h) (fun q h => hF q (hfr q h)) (fun r u t H1 locs1 ht hvm hp hB hz1 hk1 hS1 => ?_)
  obtain ⟨hP1, -, hD1⟩ := hB
  rw [ht] at hP1
  exact kk r u H1 locs1 hp hP1 (hD1.weaken (fun k q _ h => hF q.1 h)) hS1
theorem wf_cl {S : Type} {post : Int64 → S → Prop} {mk : S → va_W} {free : Addr → Prop} (hr : va_Run p l e R s m args below meth c H locs cells slots mc ms (F0 m pc ls st0) rest (va_Ql post (wf_B D cl mk tys (va_A w0 H.size)) (va_A w0 H.size) a) free) (hfr : ∀ q, free q → va_A w0 H.size q) (hS : va_S A H0 H locs) (hD : va_D A w0) (hA : ∀ q, H0.size ≤ q → A q)
    (kk : ∀ (r : Int64) (u : S) (H1 : Heap) (locs1 : List Loc), post r u → va_P D cl (mk u) H1 → va_D A (mk u) → va_S A H0 H1 locs1 → W p l e R s m args below meth c H1 locs1 (cells + mc) (slots + ms) Q (F0 m (pc + 3) ls (.long r :: rest))) : W p l e R s m args below meth c H locs cells slots Q (F0 m pc ls st0) := by
  have hF := wf_free hD hS hA
  refine va_calll hr hS (fun q _ h => hF q h) (fun q h => hF q (hfr q h)) (fun r u t H1 locs1 ht hvm hp hB hz1 hk1 hS1 => ?_)
  obtain ⟨hP1, -, hD1⟩ := hB
  rw [ht] at hP1
  exact kk r u H1 locs1 hp hP1 (hD1.weaken (fun k q _ h => hF q.1 h)) hS1
/-- ends over the world -/
theorem wf_retv {S : Type} {post : S → Prop} {mk : S → va_W} {free : Addr → Prop} {A0 : Nat → Prop} (C : CallFix p m c cc nL s args wG own) (hr : meth.sig.returnType = none) (hlocks : meth.locks = false) (u : S) (hp : post u) (hP : va_P D cl (mk u) H) (hK : va_K D cl tys s) (hD : va_D A0 (mk u)) (hS : va_S A0 s.heap H locs) (hf : ∀ q, A0 q → free q) (hdg : decode cc pc = .ok (.return_, 1)) :
    W p l e R s m args below meth c H locs cells slots (MQ below (va_Qv post (wf_B D cl mk tys A0) A0) args s cells slots free) (F0 m pc ls []) :=
  W.vret C.1 C.2.1 hr (fun t ht hW => ⟨⟨u, rfl, hp, by rw [ht]; exact hP, va_K.moved hW.alike hK, hD⟩, hS.F ht⟩) (fun q h => hf _ (hS.2.2 q h)) hdg hlocks
theorem wf_reti {S : Type} {post : Int32 → S → Prop} {mk : S → va_W} {free : Addr → Prop} {A0 : Nat → Prop} {v : Int32} (C : CallFix p m c cc nL s args wG own) (hr : meth.sig.returnType = some .int) (hlocks : meth.locks = false) (u : S) (hp : post v u) (hP : va_P D cl (mk u) H) (hK : va_K D cl tys s) (hD : va_D A0 (mk u)) (hS : va_S A0 s.heap H locs) (hf : ∀ q, A0 q → free q) (hdg : decode cc pc = .ok (.ireturn, 1)) :
    W p l e R s m args below meth c H locs cells slots (MQ below (va_Qi post (wf_B D cl mk tys A0) A0) args s cells slots free) (F0 m pc ls [.int v]) :=
  W.iret C.1 C.2.1 hr (fun t ht hW => ⟨⟨v, u, rfl, hp, by rw [ht]; exact hP, va_K.moved hW.alike hK, hD⟩, hS.F ht⟩) (fun q h => hf _ (hS.2.2 q h)) hdg hlocks
theorem wf_retz {S : Type} {post : Int32 → S → Prop} {mk : S → va_W} {free : Addr → Prop} {A0 : Nat → Prop} {v : Int32} (C : CallFix p m c cc nL s args wG own) (hr : meth.sig.returnType = some .boolean) (hn : narrow .boolean (.int v) = .int v) (hlocks : meth.locks = false) (u : S) (hp : post v u) (hP : va_P D cl (mk u) H) (hK : va_K D cl tys s) (hD : va_D A0 (mk u)) (hS : va_S A0 s.heap H locs) (hf : ∀ q, A0 q → free q) (hdg : decode cc pc = .ok (.ireturn, 1)) :
    W p l e R s m args below meth c H locs cells slots (MQ below (va_Qi post (wf_B D cl mk tys A0) A0) args s cells slots free) (F0 m pc ls [.int v]) :=
  W.zret C.1 C.2.1 hr hn (fun t ht hW => ⟨⟨v, u, rfl, hp, by rw [ht]; exact hP, va_K.moved hW.alike hK, hD⟩, hS.F ht⟩) (fun q h => hf _ (hS.2.2 q h)) hdg hlocks
theorem wf_retl {S : Type} {post : Int64 → S → Prop} {mk : S → va_W} {free : Addr → Prop} {A0 : Nat → Prop} {v : Int64} (C : CallFix p m c cc nL s args wG own) (hr : meth.sig.returnType = some .long) (hlocks : meth.locks = false) (u : S) (hp : post v u) (hP : va_P D cl (mk u) H) (hK : va_K D cl tys s) (hD : va_D A0 (mk u)) (hS : va_S A0 s.heap H locs) (hf : ∀ q, A0 q → free q) (hdg : decode cc pc = .ok (.lreturn, 1)) :
    W p l e R s m args below meth c H locs cells slots (MQ below (va_Ql post (wf_B D cl mk tys A0) A0) args s cells slots free) (F0 m pc ls [.long v]) :=
  W.lret C.1 C.2.1 hr (fun t ht hW => ⟨⟨v, u, rfl, hp, by rw [ht]; exact hP, va_K.moved hW.alike hK, hD⟩, hS.F ht⟩) (fun q h => hf _ (hS.2.2 q h)) hdg hlocks
/-! array rows with the index as a natural number -/
variable {ws : va_W} {q : Nat}
theorem wf_lald (C : CallFix p m c cc nL s args wG own) (hK : va_K D cl tys s) (hP : va_P D cl ws H) (q0 t0 : Nat) {cA : ClassId} {n k : Nat} {f : Nat → Int64} (ha : ws[q0]? = some (q, .inl (cA, n, .inr (.inl f)))) (ht : tys[t0]? = some (cA, .long)) {i : Int32} (hi : i = nI k) (hk : k < n) (hn : n < 2 ^ 31) (hdg : decode cc pc = .ok (.laload, 1))
    (kk : W p l e R s m args below meth c H locs cells slots Q (F0 m (pc + 1) ls (.long (f k) :: rest))) : W p l e R s m args below meth c H locs cells slots Q (F0 m pc ls (.int i :: .ref q :: rest)) := by
  subst hi
  refine va_lald C.1 C.2.1 hK hP q0 t0 ha ht (vp_in_nI hk hn) hdg ?_
  rw [nI_clamp (by omega)]
  exact kk
theorem wf_iald (C : CallFix p m c cc nL s args wG own) (hK : va_K D cl tys s) (hP : va_P D cl ws H) (q0 t0 : Nat) {cA : ClassId} {n k : Nat} {f : Nat → Int32} (ha : ws[q0]? = some (q, .inl (cA, n, .inl f))) (ht : tys[t0]? = some (cA, .int)) {i : Int32} (hi : i = nI k) (hk : k < n) (hn : n < 2 ^ 31) (hdg : decode cc pc = .ok (.iaload, 1))
    (kk : W p l e R s m args below meth c H locs cells slots Q (F0 m (pc + 1) ls (.int (f k) :: rest))) : W p l e R s m args below meth c H locs cells slots Q (F0 m pc ls (.int i :: .ref q :: rest)) := by
  subst hi
  refine va_iald C.1 C.2.1 hK hP q0 t0 ha ht (vp_in_nI hk hn) hdg ?_
  rw [nI_clamp (by omega)]
  exact kk
theorem wf_last (C : CallFix p m c cc nL s args wG own) (hK : va_K D cl tys s) (hP : va_P D cl ws H) (hD : va_D A ws) (hS : va_S A H0 H locs) (q0 t0 : Nat) {cA : ClassId} {n k : Nat} {f : Nat → Int64} (ha : ws[q0]? = some (q, .inl (cA, n, .inr (.inl f)))) (ht : tys[t0]? = some (cA, .long)) {i : Int32} {x : Int64} (hi : i = nI k) (hk : k < n) (hn : n < 2 ^ 31) (hdg : decode cc pc = .ok (.lastore, 1))
    (kk : ∀ (H1 : Heap) (locs1 : List Loc), va_P D cl (ws.set q0 (q, .inl (cA, n, .inr (.inl (va_up f k x))))) H1 → va_D A (ws.set q0 (q, .inl (cA, n, .inr (.inl (va_up f k x))))) → va_S A H0 H1 locs1 → W p l e R s m args below meth c H1 locs1 cells slots Q (F0 m (pc + 1) ls rest)) : W p l e R s m args below meth c H locs cells slots Q (F0 m pc ls (.long x :: .int i :: .ref q :: rest)) := by
  subst hi
  refine va_last C.1 C.2.1 hK hP hD hS q0 t0 ha ht (vp_in_nI hk hn) hdg (fun H1 locs1 h1 h2 h3 => ?_)
  rw [nI_clamp (by omega)] at h1 h2
  exact kk H1 locs1 h1 h2 h3
theorem wf_iast (C : CallFix p m c cc nL s args wG own) (hK : va_K D cl tys s) (hP : va_P D cl ws H) (hD : va_D A ws) (hS : va_S A H0 H locs) (q0 t0 : Nat) {cA : ClassId} {n k : Nat} {f : Nat → Int32} (ha : ws[q0]? = some (q, .inl (cA, n, .inl f))) (ht : tys[t0]? = some (cA, .int)) {i : Int32} {x : Int32} (hi : i = nI k) (hk : k < n) (hn : n < 2 ^ 31) (hdg : decode cc pc = .ok (.iastore, 1))
    (kk : ∀ (H1 : Heap) (locs1 : List Loc), va_P D cl (ws.set q0 (q, .inl (cA, n, .inl (va_up f k x)))) H1 → va_D A (ws.set q0 (q, .inl (cA, n, .inl (va_up f k x)))) → va_S A H0 H1 locs1 → W p l e R s m args below meth c H1 locs1 cells slots Q (F0 m (pc + 1) ls rest)) : W p l e R s m args below meth c H locs cells slots Q (F0 m pc ls (.int x :: .int i :: .ref q :: rest)) := by
  subst hi
  refine va_iast C.1 C.2.1 hK hP hD hS q0 t0 ha ht (vp_in_nI hk hn) hdg (fun H1 locs1 h1 h2 h3 => ?_)
  rw [nI_clamp (by omega)] at h1 h2
  exact kk H1 locs1 h1 h2 h3
end WFC
/-- a boolean as the machine has it -/
def wf_bi (b : Bool) : Int32 := if b then 1 else 0
theorem wf_bi0 (b : Bool) : wf_bi b = 0 ↔ b = false := by cases b <;> decide
theorem wf_bi1 (b : Bool) : ¬ wf_bi b = 0 ↔ b = true := by cases b <;> decide
theorem wf_bi_nar (b : Bool) : vp_nar .boolean (wf_bi b) = wf_bi b := by cases b <;> rfl
theorem wf_bi_ret (b : Bool) : narrow .boolean (.int (wf_bi b)) = .int (wf_bi b) := by cases b <;> rfl
theorem wf_bi_up (B : Nat → Bool) (k : Nat) (b : Bool) : upd (fun j => wf_bi (B j)) k (wf_bi b) = fun j => wf_bi (va_up B k b j) := by
  funext j
  unfold upd va_up
  split <;> rfl
section WFZ
variable {p : Program} {l : Launch} {e : Env} {R : Room} {s : State} {m : MethodId} {args : Array Value} {below : List Frame} {meth : Method} {c : Code} {H : Heap} {locs : List Loc} {cells slots : Nat} {Q : State → Prop}
variable {cc : ByteArray} {pc nL : Nat} {ls : Array Slot} {rest : List Value} {D : va_G} {cl : List vw_C} {A : Nat → Prop} {tys : List (ClassId × FieldType)} {H0 : Heap} {ws : va_W} {q : Nat} {own : String}
theorem wf_zald (C : CallFix p m c cc nL s args wG own) (hK : va_K D cl tys s) (hP : va_P D cl ws H) (q0 t0 : Nat) {cA : ClassId} {n k : Nat} {B : Nat → Bool} (ha : ws[q0]? = some (q, .inl (cA, n, .inl (fun j => wf_bi (B j))))) (ht : tys[t0]? = some (cA, .boolean)) {i : Int32} (hi : i = nI k) (hk : k < n) (hn : n < 2 ^ 31) (hdg : decode cc pc = .ok (.baload, 1))
    (kk : W p l e R s m args below meth c H locs cells slots Q (F0 m (pc + 1) ls (.int (wf_bi (B k)) :: rest))) : W p l e R s m args below meth c H locs cells slots Q (F0 m pc ls (.int i :: .ref q :: rest)) := by
  subst hi
  refine va_zald C.1 C.2.1 hK hP q0 t0 ha ht (vp_in_nI hk hn) hdg ?_
  rw [nI_clamp (by omega)]
  exact kk
theorem wf_zast (C : CallFix p m c cc nL s args wG own) (hK : va_K D cl tys s) (hP : va_P D cl ws H) (hD : va_D A ws) (hS : va_S A H0 H locs) (q0 t0 : Nat) {cA : ClassId} {n k : Nat} {B : Nat → Bool} (ha : ws[q0]? = some (q, .inl (cA, n, .inl (fun j => wf_bi (B j))))) (ht : tys[t0]? = some (cA, .boolean)) {i : Int32} {b : Bool} (hi : i = nI k) (hk : k < n) (hn : n < 2 ^ 31) (hdg : decode cc pc = .ok (.bastore, 1))
    (kk : ∀ (H1 : Heap) (locs1 : List Loc), va_P D cl (ws.set q0 (q, .inl (cA, n, .inl (fun j => wf_bi (va_up B k b j))))) H1 → va_D A (ws.set q0 (q, .inl (cA, n, .inl (fun j => wf_bi (va_up B k b j))))) → va_S A H0 H1 locs1 → W p l e R s m args below meth c H1 locs1 cells slots Q (F0 m (pc + 1) ls rest)) : W p l e R s m args below meth c H locs cells slots Q (F0 m pc ls (.int (wf_bi b) :: .int i :: .ref q :: rest)) := by
  subst hi
  refine va_zast C.1 C.2.1 hK hP hD hS q0 t0 ha ht (vp_in_nI hk hn) hdg (fun H1 locs1 h1 h2 h3 => ?_)
  rw [nI_clamp (by omega), wf_bi_nar, wf_bi_up] at h1 h2
  exact kk H1 locs1 h1 h2 h3
end WFZ
