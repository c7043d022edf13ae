/-! ===== the two worlds: the class's object and the reference's ===== -/
def FX : u_T := fun k => match k with
  | 0 => ("WideFractions", "highs", "[J", true)
  | 1 => ("WideFractions", "lows", "[J", true)
  | 2 => ("WideFractions", "parts", "[J", true)
  | 3 => ("WideFractions", "digitRow", "[I", true)
  | _ => ("WideFractions", "firstDigit", "I", false)
def tX : Nat → FieldType := fun k => match k with
  | 0 => .array .long
  | 1 => .array .long
  | 2 => .array .long
  | 3 => .array .int
  | _ => .int
def FM : u_T := fun k => match k with
  | 0 => ("WideFractionsModel", "code", "I", false)
  | 1 => ("WideFractionsModel", "bits", "[Z", true)
  | 2 => ("WideFractionsModel", "product", "[Z", true)
  | 3 => ("WideFractionsModel", "answer", "[Z", true)
  | 4 => ("WideFractionsModel", "rest", "[Z", true)
  | 5 => ("WideFractionsModel", "digits", "[I", true)
  | _ => ("WideFractionsModel", "written", "I", false)
def tM : Nat → FieldType := fun k => match k with
  | 0 => .int
  | 1 => .array .boolean
  | 2 => .array .boolean
  | 3 => .array .boolean
  | 4 => .array .boolean
  | 5 => .array .int
  | _ => .int
abbrev vwCl : List vw_C := [(RX, FX, 5), (RM, FM, 7)]
theorem nX : ∀ a, a < 5 → ∀ b, b < 5 → a ≠ b → (FX a).2.1 ≠ (FX b).2.1 := by decide +kernel
theorem tX_ok : ∀ k, k < 5 → parseFieldDescriptor (FX k).2.2.1 = some (tX k) := by decide +kernel
theorem nM : ∀ a, a < 7 → ∀ b, b < 7 → a ≠ b → (FM a).2.1 ≠ (FM b).2.1 := by decide +kernel
theorem tM_ok : ∀ k, k < 7 → parseFieldDescriptor (FM k).2.2.1 = some (tM k) := by decide +kernel
theorem iX : ∀ w ∈ u_ws RX FX 5, w ∈ wG := by decide +kernel
theorem iM : ∀ w ∈ u_ws RM FM 7, w ∈ wG := by decide +kernel
/-- highs, lows, parts, digitRow, firstDigit -/
abbrev SX : Type := (Nat → Int64) × (Nat → Int64) × (Nat → Int64) × (Nat → Int32) × Int32
abbrev wX (q : Nat → Nat) (κ : Nat → ClassId) (u : SX) : va_W := [(q 0, .inr (0, [.ref (q 1), .ref (q 2), .ref (q 3), .ref (q 4), .int u.2.2.2.2])), (q 1, .inl (κ 1, 8, .inr (.inl u.1))), (q 2, .inl (κ 2, 8, .inr (.inl u.2.1))), (q 3, .inl (κ 3, 4, .inr (.inl u.2.2.1))), (q 4, .inl (κ 4, 39, .inl u.2.2.2.1))]
abbrev tyX (κ : Nat → ClassId) : List (ClassId × FieldType) := [(κ 1, .long), (κ 2, .long), (κ 3, .long), (κ 4, .int)]
/-- code, bits, product, answer, rest, digits, written -/
abbrev SM : Type := Int32 × (Nat → Bool) × (Nat → Bool) × (Nat → Bool) × (Nat → Bool) × (Nat → Int32) × Int32
abbrev wM (q : Nat → Nat) (κ : Nat → ClassId) (u : SM) : va_W := [(q 0, .inr (1, [.int u.1, .ref (q 1), .ref (q 2), .ref (q 3), .ref (q 4), .ref (q 5), .int u.2.2.2.2.2.2])), (q 1, .inl (κ 1, 1280, .inl (fun j => wf_bi (u.2.1 j)))), (q 2, .inl (κ 2, 256, .inl (fun j => wf_bi (u.2.2.1 j)))), (q 3, .inl (κ 3, 128, .inl (fun j => wf_bi (u.2.2.2.1 j)))), (q 4, .inl (κ 4, 130, .inl (fun j => wf_bi (u.2.2.2.2.1 j)))), (q 5, .inl (κ 5, 39, .inl u.2.2.2.2.2.1))]
abbrev tyM (κ : Nat → ClassId) : List (ClassId × FieldType) := [(κ 1, .boolean), (κ 2, .boolean), (κ 3, .boolean), (κ 4, .boolean), (κ 5, .int)]
section WXM
variable {p : Program} {l : Launch} {e : Env} {R : Room} {s : State} {m : MethodId} {args : Array Value} {below : List Frame} {meth : Method} {c : Code} {H : Heap} {locs : List Loc} {cells slots : Nat} {Q : State → Prop}
variable {cc : ByteArray} {pc nL : Nat} {ls : Array Slot} {rest : List Value} {D : va_G} {A : Nat → Prop} {tys : List (ClassId × FieldType)} {H0 : Heap} {ws : va_W} {a : Nat}
theorem gX (C : CallFix p m c cc nL s args wG RX) (hK : va_K D vwCl tys s) (hP : va_P D vwCl ws H) (q0 : Nat) {fs : List Value} (he : ws[q0]? = some (a, .inr (0, fs))) (k : Nat) (hk : k < 5) {idx : Nat} (hl : Cond.fieldLink RX idx RX (FX k).2.1 (FX k).2.2.1 ∈ wG) {v : Value} (hv : fs[k]? = some v) (hdg : decode cc pc = .ok (.getfield idx, 3))
    (kk : W p l e R s m args below meth c H locs cells slots Q (F0 m (pc + 3) ls (v :: rest))) : W p l e R s m args below meth c H locs cells slots Q (F0 m pc ls (.ref a :: rest)) :=
  va_get (D := D) (ci := 0) (C := RX) (T := FX) (N := 5) C.1 C.2.1 C.2.2.2.2 iX C.2.2.2.1 hK hP q0 he rfl k hk (C.2.2.2.2 _ hl) (fun x h => by
    have e : (FX k).1 = RX := by rcases (show k = 0 ∨ k = 1 ∨ k = 2 ∨ k = 3 ∨ k = 4 by omega) with rfl | rfl | rfl | rfl | rfl <;> rfl
    rw [e] at h; exact h) hv hdg kk
theorem gM (C : CallFix p m c cc nL s args wG RM) (hK : va_K D vwCl tys s) (hP : va_P D vwCl ws H) (q0 : Nat) {fs : List Value} (he : ws[q0]? = some (a, .inr (1, fs))) (k : Nat) (hk : k < 7) {idx : Nat} (hl : Cond.fieldLink RM idx RM (FM k).2.1 (FM k).2.2.1 ∈ wG) {v : Value} (hv : fs[k]? = some v) (hdg : decode cc pc = .ok (.getfield idx, 3))
    (kk : W p l e R s m args below meth c H locs cells slots Q (F0 m (pc + 3) ls (v :: rest))) : W p l e R s m args below meth c H locs cells slots Q (F0 m pc ls (.ref a :: rest)) :=
  va_get (D := D) (ci := 1) (C := RM) (T := FM) (N := 7) C.1 C.2.1 C.2.2.2.2 iM C.2.2.2.1 hK hP q0 he rfl k hk (C.2.2.2.2 _ hl) (fun x h => by
    have e : (FM k).1 = RM := by rcases (show k = 0 ∨ k = 1 ∨ k = 2 ∨ k = 3 ∨ k = 4 ∨ k = 5 ∨ k = 6 by omega) with rfl | rfl | rfl | rfl | rfl | rfl | rfl <;> rfl
    rw [e] at h; exact h) hv hdg kk
theorem pX_first (C : CallFix p m c cc nL s args wG RX) (hK : va_K D vwCl tys s) (hP : va_P D vwCl ws H) (hD : va_D A ws) (hS : va_S A H0 H locs) (q0 : Nat) {fs : List Value} (he : ws[q0]? = some (a, .inr (0, fs))) (hl : 4 < fs.length) {v : Int32} (hdg : decode cc pc = .ok (.putfield 23, 3))
    (kk : ∀ (H1 : Heap) (locs1 : List Loc), va_P D vwCl (ws.set q0 (a, .inr (0, fs.set 4 (.int v)))) H1 → va_D A (ws.set q0 (a, .inr (0, fs.set 4 (.int v)))) → va_S A H0 H1 locs1 → W p l e R s m args below meth c H1 locs1 cells slots Q (F0 m (pc + 3) ls rest)) : W p l e R s m args below meth c H locs cells slots Q (F0 m pc ls (.int v :: .ref a :: rest)) :=
  va_put (D := D) (ci := 0) (C := RX) (T := FX) (N := 5) (ty := .int) (v := .int v) C.1 C.2.1 C.2.2.2.2 iX tX tX_ok nX C.2.2.2.1 hK hP hD hS q0 he rfl 4 (by decide) (C.2.2.2.2 _ k_fl_X_firstDigit) (fun _ h => h) rfl (by decide +kernel) rfl rfl hl hdg kk
theorem pM_code (C : CallFix p m c cc nL s args wG RM) (hK : va_K D vwCl tys s) (hP : va_P D vwCl ws H) (hD : va_D A ws) (hS : va_S A H0 H locs) (q0 : Nat) {fs : List Value} (he : ws[q0]? = some (a, .inr (1, fs))) (hl : 0 < fs.length) {v : Int32} (hdg : decode cc pc = .ok (.putfield 26, 3))
    (kk : ∀ (H1 : Heap) (locs1 : List Loc), va_P D vwCl (ws.set q0 (a, .inr (1, fs.set 0 (.int v)))) H1 → va_D A (ws.set q0 (a, .inr (1, fs.set 0 (.int v)))) → va_S A H0 H1 locs1 → W p l e R s m args below meth c H1 locs1 cells slots Q (F0 m (pc + 3) ls rest)) : W p l e R s m args below meth c H locs cells slots Q (F0 m pc ls (.int v :: .ref a :: rest)) :=
  va_put (D := D) (ci := 1) (C := RM) (T := FM) (N := 7) (ty := .int) (v := .int v) C.1 C.2.1 C.2.2.2.2 iM tM tM_ok nM C.2.2.2.1 hK hP hD hS q0 he rfl 0 (by decide) (C.2.2.2.2 _ k_fl_M_code) (fun _ h => h) rfl (by decide +kernel) rfl rfl hl hdg kk
theorem pM_written (C : CallFix p m c cc nL s args wG RM) (hK : va_K D vwCl tys s) (hP : va_P D vwCl ws H) (hD : va_D A ws) (hS : va_S A H0 H locs) (q0 : Nat) {fs : List Value} (he : ws[q0]? = some (a, .inr (1, fs))) (hl : 6 < fs.length) {v : Int32} (hdg : decode cc pc = .ok (.putfield 71, 3))
    (kk : ∀ (H1 : Heap) (locs1 : List Loc), va_P D vwCl (ws.set q0 (a, .inr (1, fs.set 6 (.int v)))) H1 → va_D A (ws.set q0 (a, .inr (1, fs.set 6 (.int v)))) → va_S A H0 H1 locs1 → W p l e R s m args below meth c H1 locs1 cells slots Q (F0 m (pc + 3) ls rest)) : W p l e R s m args below meth c H locs cells slots Q (F0 m pc ls (.int v :: .ref a :: rest)) :=
  va_put (D := D) (ci := 1) (C := RM) (T := FM) (N := 7) (ty := .int) (v := .int v) C.1 C.2.1 C.2.2.2.2 iM tM tM_ok nM C.2.2.2.1 hK hP hD hS q0 he rfl 6 (by decide) (C.2.2.2.2 _ k_fl_M_written) (fun _ h => h) rfl (by decide +kernel) rfl rfl hl hdg kk
end WXM
