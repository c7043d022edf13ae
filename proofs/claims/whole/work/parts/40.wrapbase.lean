/-! ===== the law's wrappers: their world, their start, calls of a part of a world ===== -/
/-- what every throw rests on, of one state -/
def wx_All (U : State) : Prop := (∀ w ∈ wO, w.before #[] U = true) ∧ va_Nc EA EI U ∧ va_Nc EX EI U ∧ va_Nc EX EA U
theorem wx_All_moved {s U : State} (hW : s.WarmedH U.vm) (hH : ∀ q : Nat, q < s.heap.size → U.heap[q]? = s.heap[q]?) (h : wx_All s) : wx_All U :=
  ⟨fun w hw => wo_move hW hH (wO_ok w hw) (h.1 w hw), h.2.1.moved hW.alike, h.2.2.1.moved hW.alike, h.2.2.2.moved hW.alike⟩
abbrev wXO (o : Nat) (ko : ClassId) (q : Nat → Nat) (κ : Nat → ClassId) (x : SX × (Nat → Int64)) : va_W := wX q κ x.1 ++ [(o, .inl (ko, 1, .inr (.inl x.2)))]
abbrev tyXO (ko : ClassId) (κ : Nat → ClassId) : List (ClassId × FieldType) := tyX κ ++ [(ko, .long)]
def wf_PcO (D : va_G) (cl : List vw_C) (w : va_W) (tys : List (ClassId × FieldType)) (av : List Value) (sz : Nat) : Array Value → State → Prop := fun a U => wf_Pc D cl w tys av sz a U ∧ wx_All U
theorem wf_blindO {D : va_G} {cl : List vw_C} {w : va_W} {tys : List (ClassId × FieldType)} {av : List Value} {sz : Nat} : FrameBlind (wf_PcO D cl w tys av sz) := fun a U g mk q =>
  ⟨wf_blind a U g mk q.1, wx_All_moved (s := U) (U := U.calling g mk a) (State.WarmedH.refl U) (fun _ _ => rfl) q.2⟩
theorem wf_preO {D : va_G} {cl : List vw_C} {w : va_W} {tys : List (ClassId × FieldType)} {av : List Value} {s : State} {H : Heap} {A : Nat → Prop} (hP : va_P D cl w H) (hK : va_K D cl tys s) (hD : va_D A w) (hAll : wx_All s) (hH : ∀ q : Nat, q < s.heap.size → H[q]? = s.heap[q]?) : ∀ U : State, U.heap = H → s.WarmedH U.vm → wf_PcO D cl w tys av H.size av.toArray U :=
  fun U hU hW => ⟨wf_pre hP hK hD U hU hW, wx_All_moved hW (fun q hq => by rw [hU]; exact hH q hq) hAll⟩
theorem wo_open {l : Launch} {y : MethodName} {rm : Room} {D : va_G} {cl : List vw_C} {w : va_W} {tys : List (ClassId × FieldType)} {av : List Value} {sz : Nat} {Qc : Array Value → State → Outcome → State → Prop} {mc ms : Nat} {free : Addr → Prop} {cc : ByteArray} {maxL : Nat} {ret : Option FieldType} {hs : List (Nat × Nat × Nat × Nat)} (hy : plainName y.cls = true) (hle : (lg_sl av).length ≤ maxL)
    (body : ∀ (p : Program) (e : Env) (s : State) (m : MethodId) (below : List Frame) (meth : Method) (c : Code) (ls : Array Slot), s.heap.size = sz → CallFix p m c cc maxL s av.toArray wG y.cls → meth.sig.returnType = ret → meth.locks = false → c.exceptionTable.toList = tableOf hs → wx_All s →
      va_P D cl w s.heap → va_K D cl tys s → va_D (va_A w s.heap.size) w → lv_has ls maxL (lv_args 0 av) →
      W p l e rm s m av.toArray below meth c s.heap [] 0 0 (MQ below Qc av.toArray s mc ms free) (F0 m 0 ls [])) :
    Met l y (Cond.codeWith y cc maxL ret hs :: wG) rm (wf_PcO D cl w tys av sz) Qc mc ms free := by
  refine wx_ofWH (cc := cc) (maxL := maxL) (ret := ret) (hs := hs) hy rfl ?_
  intro p e s m args below meth c s₁ B hml htab hv
  obtain ⟨⟨rfl, hsz, hP, hK, hD0⟩, hAll⟩ := hv
  have hts := atoms_spec (ws := Cond.codeWith y cc maxL ret hs :: wG) B.pre
  rw [lg_entry_eq]
  exact body p e s m below meth c _ hsz ⟨B.exec, B.bytes, hml, findClass_of_methodNamed B.named, fun w hw => hts w (List.mem_cons_of_mem _ hw)⟩ B.returns B.notSynchronized htab hAll hP hK (hD0.self (sz := s.heap.size)) (lv_entry av hle)
section WJ
variable {p : Program} {l : Launch} {e : Env} {R : Room} {s : State} {m : MethodId} {args : Array Value} {below : List Frame} {meth : Method} {c : Code} {H : Heap} {locs : List Loc} {cells slots : Nat} {Q : State → Prop}
variable {pc : Nat} {ls : Array Slot} {rest : List Value} {D : va_G} {cl : List vw_C} {A : Nat → Prop} {tys : List (ClassId × FieldType)} {H0 : Heap} {mc ms : Nat} {a : Array Value} {st0 : List Value} {wc wr ws : va_W}
/-- behind a call of a part of the world -/
theorem wj_base {S : Type} {mk mkAll : S → va_W} (isC isR isB : List Nat) (hC : isC.map (fun i => ws[i]?) = wc.map some) (hR : isR.map (fun i => ws[i]?) = wr.map some) (hn : va_nd isR = true) (hdis : ∀ i ∈ isR, i ∉ isC) (hBn : va_nd isB = true) (hB : ∀ u, isB.map (fun i => (wr ++ mk u)[i]?) = (mkAll u).map some)
    (hP : va_P D cl ws H) (hD : va_D A ws) (hF : ∀ q, va_A wc H.size q → A q) {u : S} {H1 : Heap} (hk1 : ∀ q : Nat, q < H.size → ¬ va_A wc H.size q → H1[q]? = H[q]?) (hP1 : va_P D cl (mk u) H1) (hD1 : va_D (va_A wc H.size) (mk u)) : va_P D cl (mkAll u) H1 ∧ va_D A (mkAll u) := by
  obtain ⟨h1, h2⟩ := va_join hP hD isC isR hC hR hn hdis hk1 hF hP1 hD1
  refine ⟨h1.sub isB ?_, h2.sub isB hBn (hB u)⟩
  have h3 := congrArg (List.filterMap id) (hB u)
  rw [List.filterMap_map, List.filterMap_map] at h3
  simpa using h3
theorem wj_v {S : Type} {post : S → Prop} {mk mkAll : S → va_W} {free : Addr → Prop} (isC isR isB : List Nat) (hC : isC.map (fun i => ws[i]?) = wc.map some) (hR : isR.map (fun i => ws[i]?) = wr.map some) (hn : va_nd isR = true) (hdis : ∀ i ∈ isR, i ∉ isC) (hBn : va_nd isB = true) (hB : ∀ u, isB.map (fun i => (wr ++ mk u)[i]?) = (mkAll u).map some)
    (hr : va_Run p l e R s m args below meth c H locs cells slots mc ms (F0 m pc ls st0) rest (va_Qv post (wf_B D cl mk tys (va_A wc H.size)) (va_A wc H.size) a) free) (hfr : ∀ q, free q → va_A wc H.size q) (hS : va_S A H0 H locs) (hP : va_P D cl ws H) (hD : va_D A ws) (hA : ∀ q, H0.size ≤ q → A q)
    (kk : ∀ (u : S) (H1 : Heap) (locs1 : List Loc), post u → va_P D cl (mkAll u) H1 → va_D A (mkAll u) → va_S A H0 H1 locs1 → W p l e R s m args below meth c H1 locs1 (cells + mc) (slots + ms) Q (F0 m (pc + 3) ls rest)) : W p l e R s m args below meth c H locs cells slots Q (F0 m pc ls st0) := by
  have hF := va_free (wc := wc) hD hS hA isC hC
  refine va_callv hr hS (fun q _ h => hF q h) (fun q h => hF q (hfr q h)) (fun u t H1 locs1 ht hvm hp hB1 hz1 hk1 hS1 => ?_)
  obtain ⟨hP1, -, hD1⟩ := hB1
  rw [ht] at hP1
  obtain ⟨h1, h2⟩ := wj_base isC isR isB hC hR hn hdis hBn hB hP hD hF hk1 hP1 hD1
  exact kk u H1 locs1 hp h1 h2 hS1
theorem wj_i {S : Type} {post : Int32 → S → Prop} {mk mkAll : S → va_W} {free : Addr → Prop} (isC isR isB : List Nat) (hC : isC.map (fun i => ws[i]?) = wc.map some) (hR : isR.map (fun i => ws[i]?) = wr.map some) (hn : va_nd isR = true) (hdis : ∀ i ∈ isR, i ∉ isC) (hBn : va_nd isB = true) (hB : ∀ u, isB.map (fun i => (wr ++ mk u)[i]?) = (mkAll u).map some)
    (hr : va_Run p l e R s m args below meth c H locs cells slots mc ms (F0 m pc ls st0) rest (va_Qi post (wf_B D cl mk tys (va_A wc H.size)) (va_A wc H.size) a) free) (hfr : ∀ q, free q → va_A wc H.size q) (hS : va_S A H0 H locs) (hP : va_P D cl ws H) (hD : va_D A ws) (hA : ∀ q, H0.size ≤ q → A q)
    (kk : ∀ (r : Int32) (u : S) (H1 : Heap) (locs1 : List Loc), post r u → va_P D cl (mkAll u) H1 → va_D A (mkAll u) → va_S A H0 H1 locs1 → W p l e R s m args below meth c H1 locs1 (cells + mc) (slots + ms) Q (F0 m (pc + 3) ls (.int r :: rest))) : W p l e R s m args below meth c H locs cells slots Q (F0 m pc ls st0) := by
  have hF := va_free (wc := wc) hD hS hA isC hC
  refine va_calli hr hS (fun q _ h => hF q h) (fun q h => hF q (hfr q h)) (fun r u t H1 locs1 ht hvm hp hB1 hz1 hk1 hS1 => ?_)
  obtain ⟨hP1, -, hD1⟩ := hB1
  rw [ht] at hP1
  obtain ⟨h1, h2⟩ := wj_base isC isR isB hC hR hn hdis hBn hB hP hD hF hk1 hP1 hD1
  exact kk r u H1 locs1 hp h1 h2 hS1
theorem wj_l {S : Type} {post : Int64 → S → Prop} {mk mkAll : S → va_W} {free : Addr → Prop} (isC isR isB : List Nat) (hC : isC.map (fun i => ws[i]?) = wc.map some) (hR : isR.map (fun i => ws[i]?) = wr.map some) (hn : va_nd isR = true) (hdis : ∀ i ∈ isR, i ∉ isC) (hBn : va_nd isB = true) (hB : ∀ u, isB.map (fun i => (wr ++ mk u)[i]?) = (mkAll u).map some)
    (hr : va_Run p l e R s m args below meth c H locs cells slots mc ms (F0 m pc ls st0) rest (va_Ql post (wf_B D cl mk tys (va_A wc H.size)) (va_A wc H.size) a) free) (hfr : ∀ q, free q → va_A wc H.size q) (hS : va_S A H0 H locs) (hP : va_P D cl ws H) (hD : va_D A ws) (hA : ∀ q, H0.size ≤ q → A q)
    (kk : ∀ (r : Int64) (u : S) (H1 : Heap) (locs1 : List Loc), post r u → va_P D cl (mkAll u) H1 → va_D A (mkAll u) → va_S A H0 H1 locs1 → W p l e R s m args below meth c H1 locs1 (cells + mc) (slots + ms) Q (F0 m (pc + 3) ls (.long r :: rest))) : W p l e R s m args below meth c H locs cells slots Q (F0 m pc ls st0) := by
  have hF := va_free (wc := wc) hD hS hA isC hC
  refine va_calll hr hS (fun q _ h => hF q h) (fun q h => hF q (hfr q h)) (fun r u t H1 locs1 ht hvm hp hB1 hz1 hk1 hS1 => ?_)
  obtain ⟨hP1, -, hD1⟩ := hB1
  rw [ht] at hP1
  obtain ⟨h1, h2⟩ := wj_base isC isR isB hC hR hn hdis hBn hB hP hD hF hk1 hP1 hD1
  exact kk r u H1 locs1 hp h1 h2 hS1
end WJ
/-- a truth value as the wrapper writes it -/
def wf_zl (r : Int32) : Int64 := if r = 0 then 0 else 1
