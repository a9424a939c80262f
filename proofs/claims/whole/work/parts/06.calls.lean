/-! ===== calls: the callee's contract over the whole world ===== -/
theorem fd_good {ws : List Cond} (h : ∀ w ∈ ws, w ∈ fd_T) : GoodIn fd_T ws := fun w hw => ⟨h w hw, good_of_word (List.mem_filter.mp (h w hw)).2⟩
def fd_wd (y : MethodName) (n : Nat) : Prop := y.cls ≠ "java/lang/invoke/MethodHandle" ∧ y.cls ≠ "java/lang/invoke/VarHandle" ∧ (parseMethodDescriptor y.desc).map (fun d => d.parameters.length) = some n
def fd_wV (own : String) (index : Nat) (y : MethodName) (bytes : ByteArray) (maxL : Nat) (ret : Option FieldType) (n : Nat) : Prop :=
  fd_wd y n ∧ Cond.methodLink own index y ∈ fd_T ∧ Cond.instanceMethod y ∈ fd_T ∧ Cond.selects y.cls y y ∈ fd_T ∧ Cond.initialized y.cls ∈ fd_T ∧ Cond.code y bytes maxL ret ∈ fd_T
def fd_wS (own : String) (index : Nat) (y : MethodName) (bytes : ByteArray) (maxL : Nat) (ret : Option FieldType) (n : Nat) : Prop :=
  fd_wd y n ∧ Cond.methodLink own index y ∈ fd_T ∧ Cond.static y ∈ fd_T ∧ Cond.initialized y.cls ∈ fd_T ∧ Cond.code y bytes maxL ret ∈ fd_T
def fd_wN (y : MethodName) (bytes : ByteArray) (maxL : Nat) (ret : Option FieldType) (n : Nat) : Prop :=
  fd_wd y n ∧ Cond.static y ∈ fd_T ∧ Cond.initialized y.cls ∈ fd_T ∧ Cond.code y bytes maxL ret ∈ fd_T
section FDC
variable {p : Program} {l : Launch} {e : Env} {R : Room} {s : State} {m : MethodId} {args : Array Value} {below : List Frame} {meth : Method} {c : Code} {H : Heap} {locs : List Loc} {cells slots : Nat} {Q : State → Prop}
variable {cc : ByteArray} {pc : Nat} {ls : Array Slot} {rest st0 : List Value} {own : String} {nL : Nat} {E : fd_E} {S S' : fd_S} {v : Option Value} {a : Array Value}
theorem fd_after (hr : va_Run p l e R s m args below meth c H locs cells slots 0 0 (F0 m pc ls st0) rest (fd_Q E v S' a) (fd_A E)) (hH : fd_H E S s H locs)
    (kk : ∀ (H1 : Heap) (locs1 : List Loc), fd_H E S' s H1 locs1 → W p l e R s m args below meth c H1 locs1 cells slots Q (F0 m (pc + 3) ls (v.toList ++ rest))) : W p l e R s m args below meth c H locs cells slots Q (F0 m pc ls st0) := by
  intro T hT X
  obtain ⟨v', st₀, t, T', L, h0, X', hL, e1, e2, ⟨⟨hv, hP, hD, hK', hh⟩, hz, hk⟩, st⟩ := hr T hT X
  cases hv
  rw [h0] at hz hk
  obtain ⟨-, -, hS, -⟩ := hH
  obtain ⟨t2, a1, b1⟩ := kk T'.heap (locs ++ L) ⟨by rw [e1]; exact hP, hD, ⟨Nat.le_trans hS.1 (by rw [e1]; exact hz), fun q h1 h2 => by rw [e1, hk q (Nat.lt_of_lt_of_le h1 hS.1) h2]; exact hS.2.1 q h1 h2, fun q hq => by
      rcases List.mem_append.mp hq with h | h
      · exact hS.2.2 q h
      · exact hL q h⟩, hh⟩ T' rfl X'
  exact ⟨t2, st t2 a1, b1⟩
variable {y : MethodName} {bytes : ByteArray} {maxL n index : Nat} {ret : Option FieldType} {rm' : Room} {As : List Value}
theorem fd_callR (As : List Value) {b : Nat} (C : fd_C p s m args c own cc nL E) (hsz : ls.size = nL) (hH : fd_H E S s H locs) (hM : fd_Ct l y bytes maxL ret rm' E S (.ref b :: As) v S') (hw : fd_wV own index y bytes maxL ret n) (hrecv : ∃ cell : Cell, H[b]? = some cell ∧ cell.vm.isStatics = false ∧ s.vm.findClass y.cls = some cell.cls)
    (hR : rm'.cells = 0 ∧ rm'.slots = 0 ∧ rm'.frames + 1 ≤ R.frames ∧ 8 + (maxL + 11) + rm'.locals ≤ R.locals) (hn : As.length = n) (hst : st0 = As.reverse ++ .ref b :: rest) (hrm : (rest.map fun v => v.category).sum ≤ 8) (hf : cells ≤ R.cells ∧ slots ≤ R.slots) (hdg : decode cc pc = .ok (.invokevirtual index, 3))
    (kk : ∀ (H1 : Heap) (locs1 : List Loc), fd_H E S' s H1 locs1 → W p l e R s m args below meth c H1 locs1 cells slots Q (F0 m (pc + 3) ls (v.toList ++ rest))) : W p l e R s m args below meth c H locs cells slots Q (F0 m pc ls st0) := by
  obtain ⟨hx, hb, hml, hown, hts, hK, hZ⟩ := C
  obtain ⟨hd, w1, w2, w3, w4, w5⟩ := hw
  refine fd_after (va_runV (Ts := fd_T) (own := own) (C := y.cls) (As := As) (rest := rest) ⟨hx, hb, hml, hown, hts⟩ hM (cwV n hts (fd_good ?_) rfl hR.1 hR.2.1 ⟨rfl, hd⟩ ⟨hR.2.2.1, hR.2.2.2⟩) ⟨fd_blind, hrecv, fd_pre hK hZ hH⟩ rfl hn hsz hst (lv_room hrm) hdg hf) hH kk
  intro w hw
  rcases List.mem_append.mp hw with h | h
  · simp only [List.mem_cons, List.not_mem_nil, or_false] at h
    rcases h with rfl | rfl | rfl | rfl
    · exact w1
    · exact w2
    · exact w3
    · exact w4
  · rcases List.mem_cons.mp h with rfl | h
    · exact w5
    · exact h
theorem fd_callV (k ci : Nat) (As : List Value) (C : fd_C p s m args c own cc nL E) (hsz : ls.size = nL) (hH : fd_H E S s H locs) (hM : fd_Ct l y bytes maxL ret rm' E S (.ref (E.2.2 k) :: As) v S') (hw : fd_wV own index y bytes maxL ret n) (hk : k < 82) (hkd : fd_kd k = ci) (h8 : ci < 8) (hcls : (fd_cq ci).1 = y.cls)
    (hR : rm'.cells = 0 ∧ rm'.slots = 0 ∧ rm'.frames + 1 ≤ R.frames ∧ 8 + (maxL + 11) + rm'.locals ≤ R.locals) (hn : As.length = n) (hst : st0 = As.reverse ++ .ref (E.2.2 k) :: rest) (hrm : (rest.map fun v => v.category).sum ≤ 8) (hf : cells ≤ R.cells ∧ slots ≤ R.slots) (hdg : decode cc pc = .ok (.invokevirtual index, 3))
    (kk : ∀ (H1 : Heap) (locs1 : List Loc), fd_H E S' s H1 locs1 → W p l e R s m args below meth c H1 locs1 cells slots Q (F0 m (pc + 3) ls (v.toList ++ rest))) : W p l e R s m args below meth c H locs cells slots Q (F0 m pc ls st0) :=
  fd_callR As C hsz hH hM hw (by have := va_recv C.2.2.2.2.2.1 hH.1 (fd_CL_at h8) (fd_ws_o E S hk hkd h8); rwa [hcls] at this) hR hn hst hrm hf hdg kk
theorem fd_callS (As : List Value) (C : fd_C p s m args c own cc nL E) (hsz : ls.size = nL) (hH : fd_H E S s H locs) (hM : fd_Ct l y bytes maxL ret rm' E S As v S') (hw : fd_wS own index y bytes maxL ret n)
    (hR : rm'.cells = 0 ∧ rm'.slots = 0 ∧ rm'.frames + 1 ≤ R.frames ∧ 8 + (maxL + 11) + rm'.locals ≤ R.locals) (hn : As.length = n) (hst : st0 = As.reverse ++ rest) (hrm : (rest.map fun v => v.category).sum ≤ 8) (hf : cells ≤ R.cells ∧ slots ≤ R.slots) (hdg : decode cc pc = .ok (.invokestatic index, 3))
    (kk : ∀ (H1 : Heap) (locs1 : List Loc), fd_H E S' s H1 locs1 → W p l e R s m args below meth c H1 locs1 cells slots Q (F0 m (pc + 3) ls (v.toList ++ rest))) : W p l e R s m args below meth c H locs cells slots Q (F0 m pc ls st0) := by
  obtain ⟨hx, hb, hml, hown, hts, hK, hZ⟩ := C
  obtain ⟨hd, w1, w2, w4, w5⟩ := hw
  refine fd_after (va_runS (Ts := fd_T) (own := own) (As := As) (rest := rest) ⟨hx, hb, hml, hown, hts⟩ hM (va_cwS n hts (fd_good ?_) rfl hR.1 hR.2.1 hd ⟨hR.2.2.1, hR.2.2.2⟩) ⟨fd_blind, fd_pre hK hZ hH⟩ rfl hn hsz hst (lv_room hrm) hdg hf) hH kk
  intro w hw
  rcases List.mem_append.mp hw with h | h
  · simp only [List.mem_cons, List.not_mem_nil, or_false] at h
    rcases h with rfl | rfl | rfl
    · exact w1
    · exact w2
    · exact w4
  · rcases List.mem_cons.mp h with rfl | h
    · exact w5
    · exact h
theorem fd_callN (host : String) (As : List Value) (C : fd_C p s m args c own cc nL E) (hsz : ls.size = nL) (hH : fd_H E S s H locs) (hM : fd_Ct l y bytes maxL ret rm' E S As v S') (hw : fd_wN y bytes maxL ret n) (hnw : va_Nw (.methodLinkNest own index y host) s)
    (hR : rm'.cells = 0 ∧ rm'.slots = 0 ∧ rm'.frames + 1 ≤ R.frames ∧ 8 + (maxL + 11) + rm'.locals ≤ R.locals) (hn : As.length = n) (hst : st0 = As.reverse ++ rest) (hrm : (rest.map fun v => v.category).sum ≤ 8) (hf : cells ≤ R.cells ∧ slots ≤ R.slots) (hdg : decode cc pc = .ok (.invokestatic index, 3))
    (kk : ∀ (H1 : Heap) (locs1 : List Loc), fd_H E S' s H1 locs1 → W p l e R s m args below meth c H1 locs1 cells slots Q (F0 m (pc + 3) ls (v.toList ++ rest))) : W p l e R s m args below meth c H locs cells slots Q (F0 m pc ls st0) := by
  obtain ⟨hx, hb, hml, hown, hts, hK, hZ⟩ := C
  obtain ⟨hd, w2, w4, w5⟩ := hw
  refine fd_after (va_runSN (Ts := fd_T) (own := own) (host := host) (As := As) (rest := rest) ⟨hx, hb, hml, hown, hts⟩ hM ⟨va_cnB n hts (fd_good ?_) rfl hR.1 hR.2.1 hnw (hts _ w4) hd ⟨hR.2.2.1, hR.2.2.2⟩, hts _ w2, trivial⟩ ⟨fd_blind, fd_pre hK hZ hH⟩ rfl hn hsz hst (lv_room hrm) hdg hf) hH kk
  intro w hw
  rcases List.mem_cons.mp hw with rfl | h
  · exact w5
  · exact h
end FDC
/-! small helpers of the walks -/
theorem fd_bnd {α β : Type} {o : Option α} {f : α → Option β} {y : β} (h : o.bind f = some y) : ∃ r, o = some r ∧ f r = some y := by
  cases o with
  | none => cases h
  | some r => exact ⟨r, rfl, h⟩
theorem fd_grd {α : Type} {g : Prop} {dg : Decidable g} {x : Option α} {y : α} (h : (if g then x else none) = some y) : g ∧ x = some y := by
  by_cases hg : g
  · rw [if_pos hg] at h
    exact ⟨hg, h⟩
  · rw [if_neg hg] at h
    cases h
def fd_lt {α β : Type} (x : α) (f : α → β) : β := f x
theorem fd_ltE {α β : Type} {x : α} {f : α → Option β} {y : β} (h : fd_lt x f = some y) : ∃ r, r = x ∧ f r = some y := ⟨x, rfl, h⟩
