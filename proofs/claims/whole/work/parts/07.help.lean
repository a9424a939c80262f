theorem fd_ifp {α : Type} {g : Prop} {dg : Decidable g} {a b y : α} (c : g) (h : (if g then a else b) = y) : a = y := by rwa [if_pos c] at h
theorem fd_ifn {α : Type} {g : Prop} {dg : Decidable g} {a b y : α} (c : ¬ g) (h : (if g then a else b) = y) : b = y := by rwa [if_neg c] at h
theorem fd_ltN {α β : Type} {x x' : α} {f : α → β} {y : β} (e : x' = x) (h : fd_lt x f = y) : f x' = y := by
  subst e
  exact h
theorem fd_ltS {α β : Type} {x : α} {f : α → β} {y : β} (h : fd_lt x f = y) : ∃ r, r = x ∧ f r = y := ⟨x, rfl, h⟩
theorem fd_ne {x : Int32} (k : Int32) {z : Int} (hz : k.toInt = z) (h : ¬ x = k) : x.toInt ≠ z := fun q => h (Int32.toInt_inj.mp (q.trans hz.symm))
/-- a record that may be missing -/
def fd_rv (E : fd_E) (o : Option Nat) : Value := match o with
  | none => .null
  | some k => .ref (E.2.2 k)
def fd_on {β : Type} (o : Option Nat) (a : β) (f : Nat → β) : β := match o with
  | none => a
  | some k => f k
theorem fd_rv_or (E : fd_E) (o : Option Nat) : fd_rv E o = .null ∨ ∃ a, fd_rv E o = .ref a := by
  cases o with
  | none => exact Or.inl rfl
  | some k => exact Or.inr ⟨_, rfl⟩
def fd_rem (x y : Int32) : Int32 := x - x / y * y
def fd_max (x y : Int32) : Int32 := if x < y then y else x
def fd_min (x y : Int32) : Int32 := if y < x then y else x
/-- a record's cell -/
abbrev fd_rk (k : Nat) : Prop := k < 69 ∧ 8 ≤ k % 23 ∧ k % 23 < 14
theorem fd_rk_all : ∀ k, k < 69 → (8 ≤ k % 23 ∧ k % 23 < 14) → fd_kd k = 3 ∧ fd_kd (k + 6) = 8 ∧ fd_ln (k + 6) = 4 := by decide
theorem fd_rk1 {k : Nat} (h : fd_rk k) : k < 82 := Nat.lt_of_lt_of_le h.1 (by decide)
theorem fd_rk2 {k : Nat} (h : fd_rk k) : k + 6 < 82 := by have := h.1; omega
theorem fd_rk3 {k : Nat} (h : fd_rk k) : fd_kd k = 3 := (fd_rk_all k h.1 h.2).1
theorem fd_rk4 {k : Nat} (h : fd_rk k) : fd_kd (k + 6) = 8 := (fd_rk_all k h.1 h.2).2.1
theorem fd_rk5 {k : Nat} (h : fd_rk k) : nI (fd_ln (k + 6)) = 4 := by rw [(fd_rk_all k h.1 h.2).2.2]; rfl
theorem fd_rk6 {k : Nat} (h : fd_rk k) : fd_ln (k + 6) = 4 := (fd_rk_all k h.1 h.2).2.2
/-- a State's first cell -/
def fd_st (a : Nat) : Prop := a = 0 ∨ a = 23 ∨ a = 46
theorem fd_st1 {a : Nat} (h : fd_st a) (o : Nat) (ho : o < 23) : a + o < 82 := by rcases h with rfl | rfl | rfl <;> omega
theorem fd_st2_all : ∀ o, o < 23 → fd_kd (23 + o) = fd_kd o ∧ fd_kd (46 + o) = fd_kd o ∧ fd_ln (23 + o) = fd_ln o ∧ fd_ln (46 + o) = fd_ln o := by decide
theorem fd_st2 {a : Nat} (h : fd_st a) (o : Nat) (ho : o < 23) {ci : Nat} (hc : fd_kd o = ci) : fd_kd (a + o) = ci := by
  subst hc
  rcases h with rfl | rfl | rfl
  · rw [Nat.zero_add]
  · exact (fd_st2_all o ho).1
  · exact (fd_st2_all o ho).2.1
theorem fd_st3 {a : Nat} (h : fd_st a) (o : Nat) (ho : o < 23) {n : Nat} (hc : fd_ln o = n) : fd_ln (a + o) = n := by
  subst hc
  rcases h with rfl | rfl | rfl
  · rw [Nat.zero_add]
  · exact (fd_st2_all o ho).2.2.1
  · exact (fd_st2_all o ho).2.2.2
theorem fd_st4 {a : Nat} (h : fd_st a) (o : Nat) (ho : o < 23) {n : Int32} (hc : nI (fd_ln o) = n) : nI (fd_ln (a + o)) = n := by rw [fd_st3 h o ho rfl]; exact hc
section FDH
variable {p : Program} {l : Launch} {e : Env} {R : Room} {s : State} {m : MethodId} {args : Array Value} {below : List Frame} {meth : Method} {c : Code} {H : Heap} {locs : List Loc} {cells slots : Nat} {Q : State → Prop}
variable {cc : ByteArray} {pc : Nat} {ls : Array Slot} {rest st0 : List Value} {own : String} {nL : Nat} {E : fd_E} {S S' : fd_S}
theorem fd_irem (hx : p.tables.exec = Jvm.exec) (hb : c.code = cc) {x y : Int32} (hdg : decode cc pc = .ok (.irem, 1)) (hne : ¬ y = 0) (k : W p l e R s m args below meth c H locs cells slots Q (F0 m (pc + 1) ls (.int (fd_rem x y) :: rest))) : W p l e R s m args below meth c H locs cells slots Q (F0 m pc ls (.int y :: .int x :: rest)) := lv_irem hx hb hdg hne k
def fd_wM (y : MethodName) (bytes : ByteArray) : Prop := Cond.static y ∈ fd_T ∧ Cond.initialized "java/lang/Math" ∈ fd_T ∧ Cond.code y bytes 2 (some .int) ∈ fd_T
theorem fd_mmax (C : fd_C p s m args c own cc nL E) (hsz : ls.size = nL) {index : Nat} (hl : Cond.methodLink own index Lib.Math.max.name ∈ fd_T) (hw : fd_wM Lib.Math.max.name Lib.Math.max.code) (hframes : 1 ≤ R.frames) (hlocals : (rest.map fun v => v.category).sum + 13 ≤ R.locals) (hc : cells ≤ R.cells) (hs : slots ≤ R.slots) {x y : Int32} (hdg : decode cc pc = .ok (.invokestatic index, 3))
    (kk : W p l e R s m args below meth c H locs cells slots Q (F0 m (pc + 3) ls (.int (fd_max x y) :: rest))) : W p l e R s m args below meth c H locs cells slots Q (F0 m pc ls (.int y :: .int x :: rest)) := by
  obtain ⟨hx, hb, hml, hown, hts, hK, hZ⟩ := C
  exact va_mmax hx hb (hml.trans hsz.symm) hown (hts _ hl) (hts _ hw.1) (hts _ hw.2.1) (hts _ hw.2.2) hframes hlocals hc hs hdg kk
theorem fd_mmin (C : fd_C p s m args c own cc nL E) (hsz : ls.size = nL) {index : Nat} (hl : Cond.methodLink own index Lib.Math.min.name ∈ fd_T) (hw : fd_wM Lib.Math.min.name Lib.Math.min.code) (hframes : 1 ≤ R.frames) (hlocals : (rest.map fun v => v.category).sum + 13 ≤ R.locals) (hc : cells ≤ R.cells) (hs : slots ≤ R.slots) {x y : Int32} (hdg : decode cc pc = .ok (.invokestatic index, 3))
    (kk : W p l e R s m args below meth c H locs cells slots Q (F0 m (pc + 3) ls (.int (fd_min x y) :: rest))) : W p l e R s m args below meth c H locs cells slots Q (F0 m pc ls (.int y :: .int x :: rest)) := by
  obtain ⟨hx, hb, hml, hown, hts, hK, hZ⟩ := C
  exact va_mmin hx hb (hml.trans hsz.symm) hown (hts _ hl) (hts _ hw.1) (hts _ hw.2.1) (hts _ hw.2.2) hframes hlocals hc hs hdg kk
variable {y : MethodName} {bytes : ByteArray} {maxL n index : Nat} {ret : Option FieldType} {rm' : Room} {x : Value}
theorem fd_callV1 (k ci : Nat) (As : List Value) (C : fd_C p s m args c own cc nL E) (hsz : ls.size = nL) (hH : fd_H E S s H locs) (hM : fd_Ct l y bytes maxL ret rm' E S (.ref (E.2.2 k) :: As) (some x) S') (hw : fd_wV own index y bytes maxL ret n) (hk : k < 82) (hkd : fd_kd k = ci) (h8 : ci < 8) (hcls : (fd_cq ci).1 = y.cls)
    (hR : rm'.cells = 0 ∧ rm'.slots = 0 ∧ rm'.frames + 1 ≤ R.frames ∧ 8 + (maxL + 11) + rm'.locals ≤ R.locals) (hn : As.length = n) (hst : st0 = As.reverse ++ .ref (E.2.2 k) :: rest) (hrm : (rest.map fun v => v.category).sum ≤ 8) (hf : cells ≤ R.cells ∧ slots ≤ R.slots) (hdg : decode cc pc = .ok (.invokevirtual index, 3))
    (kk : ∀ (H1 : Heap) (locs1 : List Loc), fd_H E S' s H1 locs1 → W p l e R s m args below meth c H1 locs1 cells slots Q (F0 m (pc + 3) ls (x :: rest))) : W p l e R s m args below meth c H locs cells slots Q (F0 m pc ls st0) := fd_callV k ci As C hsz hH hM hw hk hkd h8 hcls hR hn hst hrm hf hdg kk
theorem fd_callV0 (k ci : Nat) (As : List Value) (C : fd_C p s m args c own cc nL E) (hsz : ls.size = nL) (hH : fd_H E S s H locs) (hM : fd_Ct l y bytes maxL ret rm' E S (.ref (E.2.2 k) :: As) none S') (hw : fd_wV own index y bytes maxL ret n) (hk : k < 82) (hkd : fd_kd k = ci) (h8 : ci < 8) (hcls : (fd_cq ci).1 = y.cls)
    (hR : rm'.cells = 0 ∧ rm'.slots = 0 ∧ rm'.frames + 1 ≤ R.frames ∧ 8 + (maxL + 11) + rm'.locals ≤ R.locals) (hn : As.length = n) (hst : st0 = As.reverse ++ .ref (E.2.2 k) :: rest) (hrm : (rest.map fun v => v.category).sum ≤ 8) (hf : cells ≤ R.cells ∧ slots ≤ R.slots) (hdg : decode cc pc = .ok (.invokevirtual index, 3))
    (kk : ∀ (H1 : Heap) (locs1 : List Loc), fd_H E S' s H1 locs1 → W p l e R s m args below meth c H1 locs1 cells slots Q (F0 m (pc + 3) ls rest)) : W p l e R s m args below meth c H locs cells slots Q (F0 m pc ls st0) := fd_callV k ci As C hsz hH hM hw hk hkd h8 hcls hR hn hst hrm hf hdg kk
theorem fd_callR1 (As : List Value) {b : Nat} (C : fd_C p s m args c own cc nL E) (hsz : ls.size = nL) (hH : fd_H E S s H locs) (hM : fd_Ct l y bytes maxL ret rm' E S (.ref b :: As) (some x) S') (hw : fd_wV own index y bytes maxL ret n) (hrecv : ∃ cell : Cell, H[b]? = some cell ∧ cell.vm.isStatics = false ∧ s.vm.findClass y.cls = some cell.cls)
    (hR : rm'.cells = 0 ∧ rm'.slots = 0 ∧ rm'.frames + 1 ≤ R.frames ∧ 8 + (maxL + 11) + rm'.locals ≤ R.locals) (hn : As.length = n) (hst : st0 = As.reverse ++ .ref b :: rest) (hrm : (rest.map fun v => v.category).sum ≤ 8) (hf : cells ≤ R.cells ∧ slots ≤ R.slots) (hdg : decode cc pc = .ok (.invokevirtual index, 3))
    (kk : ∀ (H1 : Heap) (locs1 : List Loc), fd_H E S' s H1 locs1 → W p l e R s m args below meth c H1 locs1 cells slots Q (F0 m (pc + 3) ls (x :: rest))) : W p l e R s m args below meth c H locs cells slots Q (F0 m pc ls st0) := fd_callR As C hsz hH hM hw hrecv hR hn hst hrm hf hdg kk
theorem fd_callS1 (As : List Value) (C : fd_C p s m args c own cc nL E) (hsz : ls.size = nL) (hH : fd_H E S s H locs) (hM : fd_Ct l y bytes maxL ret rm' E S As (some x) S') (hw : fd_wS own index y bytes maxL ret n)
    (hR : rm'.cells = 0 ∧ rm'.slots = 0 ∧ rm'.frames + 1 ≤ R.frames ∧ 8 + (maxL + 11) + rm'.locals ≤ R.locals) (hn : As.length = n) (hst : st0 = As.reverse ++ rest) (hrm : (rest.map fun v => v.category).sum ≤ 8) (hf : cells ≤ R.cells ∧ slots ≤ R.slots) (hdg : decode cc pc = .ok (.invokestatic index, 3))
    (kk : ∀ (H1 : Heap) (locs1 : List Loc), fd_H E S' s H1 locs1 → W p l e R s m args below meth c H1 locs1 cells slots Q (F0 m (pc + 3) ls (x :: rest))) : W p l e R s m args below meth c H locs cells slots Q (F0 m pc ls st0) := fd_callS As C hsz hH hM hw hR hn hst hrm hf hdg kk
theorem fd_callS0 (As : List Value) (C : fd_C p s m args c own cc nL E) (hsz : ls.size = nL) (hH : fd_H E S s H locs) (hM : fd_Ct l y bytes maxL ret rm' E S As none S') (hw : fd_wS own index y bytes maxL ret n)
    (hR : rm'.cells = 0 ∧ rm'.slots = 0 ∧ rm'.frames + 1 ≤ R.frames ∧ 8 + (maxL + 11) + rm'.locals ≤ R.locals) (hn : As.length = n) (hst : st0 = As.reverse ++ rest) (hrm : (rest.map fun v => v.category).sum ≤ 8) (hf : cells ≤ R.cells ∧ slots ≤ R.slots) (hdg : decode cc pc = .ok (.invokestatic index, 3))
    (kk : ∀ (H1 : Heap) (locs1 : List Loc), fd_H E S' s H1 locs1 → W p l e R s m args below meth c H1 locs1 cells slots Q (F0 m (pc + 3) ls rest)) : W p l e R s m args below meth c H locs cells slots Q (F0 m pc ls st0) := fd_callS As C hsz hH hM hw hR hn hst hrm hf hdg kk
theorem fd_callN1 (host : String) (As : List Value) (C : fd_C p s m args c own cc nL E) (hsz : ls.size = nL) (hH : fd_H E S s H locs) (hM : fd_Ct l y bytes maxL ret rm' E S As (some x) S') (hw : fd_wN y bytes maxL ret n) (hnw : va_Nw (.methodLinkNest own index y host) s)
    (hR : rm'.cells = 0 ∧ rm'.slots = 0 ∧ rm'.frames + 1 ≤ R.frames ∧ 8 + (maxL + 11) + rm'.locals ≤ R.locals) (hn : As.length = n) (hst : st0 = As.reverse ++ rest) (hrm : (rest.map fun v => v.category).sum ≤ 8) (hf : cells ≤ R.cells ∧ slots ≤ R.slots) (hdg : decode cc pc = .ok (.invokestatic index, 3))
    (kk : ∀ (H1 : Heap) (locs1 : List Loc), fd_H E S' s H1 locs1 → W p l e R s m args below meth c H1 locs1 cells slots Q (F0 m (pc + 3) ls (x :: rest))) : W p l e R s m args below meth c H locs cells slots Q (F0 m pc ls st0) := fd_callN host As C hsz hH hM hw hnw hR hn hst hrm hf hdg kk
end FDH
/-! strings by their numbers 0 to 6 -/
def fd_sl (i : Nat) : Int32 := nI (fd_slen.getD i 0)
def fd_sc (i : Nat) (j : Int32) : Int32 := (fd_sbyt.getD i []).getD j.toNatClampNeg 0
section FDT
variable {p : Program} {l : Launch} {e : Env} {R : Room} {s : State} {m : MethodId} {args : Array Value} {below : List Frame} {meth : Method} {c : Code} {H : Heap} {locs : List Loc} {cells slots : Nat} {Q : State → Prop}
variable {cc : ByteArray} {pc : Nat} {ls : Array Slot} {rest st0 : List Value} {own : String} {nL : Nat} {E : fd_E} {S S' : fd_S}
theorem fd_topr {x : Nat} (k : ∀ y : Nat, y = x → W p l e R s m args below meth c H locs cells slots Q (F0 m pc ls (.ref (E.2.2 y) :: rest))) : W p l e R s m args below meth c H locs cells slots Q (F0 m pc ls (.ref (E.2.2 x) :: rest)) := k x rfl
theorem fd_k8 : ∀ q, q < 14 → 8 ≤ q → fd_kd q = 3 := by decide
/-- the rows of the RecordList of now -/
theorem fd_aast0 (C : fd_C p s m args c own cc nL E) (hH : fd_H E S s H locs) {i : Int32} {q : Nat} (hi : 0 ≤ i ∧ i < 6) (hq : 8 ≤ q ∧ q < 14) (hdg : decode cc pc = .ok (.aastore, 1))
    (kk : ∀ (H1 : Heap) (locs1 : List Loc), fd_H E (fd_up S 4 i (nI (q - 8))) s H1 locs1 → W p l e R s m args below meth c H1 locs1 cells slots Q (F0 m (pc + 1) ls rest)) : W p l e R s m args below meth c H locs cells slots Q (F0 m pc ls (.ref (E.2.2 q) :: .int i :: .ref (E.2.2 4) :: rest)) :=
  fd_aast 4 6 C hH (by decide) rfl rfl hi hq (fd_k8 q hq.2 hq.1) (by omega) hdg kk
theorem fd_srecv {i : Nat} (hi : i < 7) (C : fd_C p s m args c own cc nL E) (hH : fd_H E S s H locs) : ∃ cell : Cell, H[E.2.2 (110 + i)]? = some cell ∧ cell.vm.isStatics = false ∧ s.vm.findClass "java/lang/String" = some cell.cls := by
  obtain ⟨hx, hb, hml, hown, hts, hK, hZ⟩ := C
  exact vk_recv (adK := fun i => E.2.2 (110 + i)) hZ.2.2.2.2.1.1 hi hH.2.2.1
theorem fd_ldcS (i : Nat) (hi : i < 7) {tx : Nat} (htx : 57 + 2 * i = tx) (C : fd_C p s m args c "FlapDamper$Text" cc nL E) (hdg : decode cc pc = .ok (.ldc tx, 2))
    (kk : W p l e R s m args below meth c H locs cells slots Q (F0 m (pc + 2) ls (.ref (E.2.2 (110 + i)) :: rest))) : W p l e R s m args below meth c H locs cells slots Q (F0 m pc ls rest) := by
  subst htx
  obtain ⟨hx, hb, hml, hown, hts, hK, hZ⟩ := C
  exact va_ldcS hx hb hown (hZ.2.2.2.2.1.2 i hi) hdg kk
end FDT
theorem fd_on_n {β : Type} {a y : β} {f : Nat → β} (h : fd_on none a f = y) : a = y := h
theorem fd_on_s {β : Type} {a y : β} {f : Nat → β} {k : Nat} (h : fd_on (some k) a f = y) : f k = y := h
def fd_pr {α β γ : Type} (q : α × β) (f : α → β → γ) : γ := f q.1 q.2
theorem fd_prE {α β γ : Type} {a : α} {b : β} {f : α → β → γ} {y : γ} (h : fd_pr (a, b) f = y) : f a b = y := h
theorem fd_nb {v : Int32} (h : v = 0 ∨ v = 1) : narrow .boolean (.int v) = .int v := by rcases h with rfl | rfl <;> rfl
theorem fd_fb {v : Int32} (h : v = 0 ∨ v = 1) : fits .boolean (.int v) = true := by rcases h with rfl | rfl <;> rfl
