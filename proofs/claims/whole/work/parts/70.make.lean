/-! ===== making: a world that grows at its end ===== -/
def kc_first : List Int32 := [60, 10, 1000, 500, 2000, 750, 8000]
def kc_N1 : Cond := .methodLinkNest "FlapDamper" 11 ⟨"FlapDamper$Text", "<init>", "()V"⟩ "FlapDamper"
def kc_N2 : Cond := .methodLinkNest "FlapDamper$State" 11 ⟨"FlapDamper$Bounds", "<init>", "()V"⟩ "FlapDamper"
def kc_N3 : Cond := .methodLinkNest "FlapDamper$RecordList" 17 ⟨"FlapDamper$RouteRecord", "<init>", "()V"⟩ "FlapDamper"
def kc_N4 : Cond := .methodLinkNest "FlapDamper$State" 27 ⟨"FlapDamper$Lines", "<init>", "()V"⟩ "FlapDamper"
def kc_N5 : Cond := .fieldLinkNest "FlapDamper$Bounds" 9 "FlapDamper" "AT_FIRST" "[I" "FlapDamper"
def kc_N6 : Cond := .castable "[I" "java/lang/Cloneable"
/-- the row that is cloned -/
def kc_F (a0 : Nat) (A : Nat → Prop) (U : State) (H : Heap) : Prop := ∃ cell : Cell, H[a0]? = some cell ∧ U.vm.findClass "[I" = some cell.cls ∧ (∀ k, cell.vm ≠ .statics k) ∧ cell.vm ≠ .unknown ∧ cell.slots = (arrV cell.cls 7 (fun j => .int (kc_first.getD j 0))).slots ∧ ¬ A a0
theorem kc_F.moved {a0 : Nat} {A : Nat → Prop} {u U : State} {H : Heap} (hv : u.vm.Alike U.vm) (h : kc_F a0 A u H) : kc_F a0 A U H := by
  obtain ⟨cell, h1, h2, h3⟩ := h
  exact ⟨cell, h1, by rw [hv.findClass]; exact h2, h3⟩
theorem kc_F.kept {a0 : Nat} {A : Nat → Prop} {U : State} {H H1 : Heap} (h : kc_F a0 A U H) (hq : ∀ a : Nat, a < H.size → ¬ A a → H1[a]? = H[a]?) : kc_F a0 A U H1 := by
  obtain ⟨cell, h1, h2, h3, h4, h5, h6⟩ := h
  exact ⟨cell, by rw [hq a0 (Array.getElem?_eq_some_iff.mp h1).1 h6]; exact h1, h2, h3, h4, h5, h6⟩
def kc_Z (a0 : Nat) (A : Nat → Prop) (U : State) (H : Heap) : Prop :=
  (va_Nw kc_N1 U ∧ va_Nw kc_N2 U ∧ va_Nw kc_N3 U ∧ va_Nw kc_N4 U ∧ va_Nw kc_N5 U ∧ va_Nw kc_N6 U) ∧ va_AO "FlapDamper$RouteRecord" U ∧ va_Z "FlapDamper" "AT_FIRST" "[I" (.ref a0) A U H ∧ kc_F a0 A U H
theorem kc_Z.go {a0 : Nat} {A : Nat → Prop} {s U : State} {H : Heap} {locs : List Loc} (hW : s.WarmedH U.vm) (hU : U.heap = H) (hS : va_S A s.heap H locs) (h : kc_Z a0 A s s.heap) : kc_Z a0 A U U.heap := by
  rw [hU]
  obtain ⟨⟨n1, n2, n3, n4, n5, n6⟩, o, z, f⟩ := h
  have hv := hW.alike
  exact ⟨⟨va_Nw.warmM hW n1, va_Nw.warmM hW n2, va_Nw.warmM hW n3, va_Nw.warmM hW n4, va_Nw.warmF hW n5, va_Nw.warmC hW n6⟩, va_AO.moved hv o, (va_Z.moved hv z).kept hS.2.1, (kc_F.moved hv f).kept hS.2.1⟩
theorem kc_Z.calling {a0 : Nat} {A : Nat → Prop} {U : State} {g : JFrame} {mk : MethodId} {a : Array Value} (h : kc_Z a0 A U U.heap) : kc_Z a0 A (U.calling g mk a) (U.calling g mk a).heap := by
  obtain ⟨⟨n1, n2, n3, n4, n5, n6⟩, o, z, f⟩ := h
  have hv : U.vm.Alike (U.calling g mk a).vm := Vm.Alike.refl U.vm
  exact ⟨⟨va_Nw.same rfl rfl n1, va_Nw.same rfl rfl n2, va_Nw.same rfl rfl n3, va_Nw.same rfl rfl n4, va_Nw.same rfl rfl n5, va_Nw.same rfl rfl n6⟩, va_AO.moved hv o, va_Z.moved hv z, kc_F.moved hv f⟩
def kc_C (p : Program) (s : State) (m : MethodId) (args : Array Value) (meth : Method) (c : Code) (own : String) (cc : ByteArray) (nL : Nat) (nm : String) (E : fd_E) (a0 : Nat) (A : Nat → Prop) : Prop :=
  p.tables.exec = Jvm.exec ∧ c.code = cc ∧ c.maxLocals = nL ∧ s.vm.findClass own = some m.cls ∧ (∀ w ∈ fd_T, w.before args s = true) ∧ va_K E.1 fd_CL (fd_ty E) s ∧ kc_Z a0 A s s.heap ∧ (∀ q : Nat, s.heap.size ≤ q → A q) ∧ meth.name = nm
def kc_H (E : fd_E) (A : Nat → Prop) (w : va_W) (s : State) (H : Heap) (locs : List Loc) : Prop := va_P E.1 fd_CL w H ∧ va_D A w ∧ va_S A s.heap H locs
def kc_W (E : fd_E) (A : Nat → Prop) (w : va_W) (U : State) : Prop := va_P E.1 fd_CL w U.heap ∧ va_D A w ∧ va_K E.1 fd_CL (fd_ty E) U
def kc_Q (E : fd_E) (A : Nat → Prop) (Post : va_W → Prop) : Array Value → State → Outcome → State → Prop := fun _ st oc t => (oc = .returned none ∧ ∃ w, Post w ∧ kc_W E A w t) ∧ va_F A st t
def kc_Pre (E : fd_E) (a0 : Nat) (A : Nat → Prop) (w : va_W) (av : List Value) : Array Value → State → Prop := va_Pc av (fun U => kc_W E A w U ∧ kc_Z a0 A U U.heap ∧ ∀ q : Nat, U.heap.size ≤ q → A q)
def kc_Ct (l : Launch) (y : MethodName) (cc : ByteArray) (nL : Nat) (rm : Room) (E : fd_E) (a0 : Nat) (A : Nat → Prop) (w : va_W) (av : List Value) (Post : va_W → Prop) : Prop :=
  Met l y (Cond.code y cc nL none :: fd_T) rm (kc_Pre E a0 A w av) (kc_Q E A Post) rm.cells rm.slots A
theorem kc_Ct_of {l : Launch} {y : MethodName} {cc : ByteArray} {nL : Nat} {rm : Room} {E : fd_E} {a0 : Nat} {A : Nat → Prop} {w : va_W} {av : List Value} {Post : va_W → Prop} (hy : plainName y.cls = true) (hn : (lg_sl av).length ≤ nL)
    (body : ∀ (p : Program) (e : Env) (s : State) (m : MethodId) (below : List Frame) (meth : Method) (c : Code) (ls : Array Slot), kc_C p s m av.toArray meth c y.cls cc nL y.name E a0 A → meth.sig.returnType = none → meth.locks = false → kc_H E A w s s.heap [] → lv_has ls nL (lv_args 0 av) →
      W p l e rm s m av.toArray below meth c s.heap [] 0 0 (MQ below (kc_Q E A Post) av.toArray s rm.cells rm.slots A) (F0 m 0 ls [])) : kc_Ct l y cc nL rm E a0 A w av Post := by
  refine Met.ofW (cc := cc) (maxL := nL) (ret := none) hy rfl ?_
  intro p e s m args below meth c s₁ B hml hv
  obtain ⟨rfl, ⟨hP, hD, hK⟩, hZ, hA⟩ := hv
  have hts := atoms_spec (ws := Cond.code y cc nL none :: fd_T) B.pre
  rw [lg_entry_eq]
  exact body p e s m below meth c _ ⟨B.exec, B.bytes, hml, findClass_of_methodNamed B.named, fun w hw => hts w (List.mem_cons_of_mem _ hw), hK, hZ, hA, (name_of_methodNamed B.named B.method).1⟩ B.returns B.notSynchronized ⟨hP, hD, va_S.rf⟩ (lv_entry av hn)
theorem kc_blind {E : fd_E} {a0 : Nat} {A : Nat → Prop} {w : va_W} {av : List Value} : FrameBlind (kc_Pre E a0 A w av) := by
  intro a U g mk h
  obtain ⟨h1, ⟨hP, hD, hK⟩, hZ, hA⟩ := h
  exact ⟨h1, ⟨hP, hD, va_K.moved (u := U) (U := U.calling g mk a) (Vm.Alike.refl U.vm) hK⟩, hZ.calling, hA⟩
theorem kc_pre {E : fd_E} {a0 : Nat} {A : Nat → Prop} {w : va_W} {av : List Value} {s : State} {H : Heap} {locs : List Loc} (hK : va_K E.1 fd_CL (fd_ty E) s) (hZ : kc_Z a0 A s s.heap) (hA : ∀ q : Nat, s.heap.size ≤ q → A q) (hH : kc_H E A w s H locs) : ∀ U : State, U.heap = H → s.WarmedH U.vm → kc_Pre E a0 A w av av.toArray U :=
  fun U hU hW => ⟨rfl, ⟨by rw [hU]; exact hH.1, hH.2.1, va_K.moved hW.alike hK⟩, hZ.go hW hU hH.2.2, fun q hq => hA q (Nat.le_trans hH.2.2.1 (by rw [← hU]; exact hq))⟩
theorem kc_at {w L : va_W} {i : Nat} {x : Nat × va_E} (h : L[i]? = some x) : (w ++ L)[w.length + i]? = some x := by
  rw [List.getElem?_append_right (by omega), Nat.add_sub_cancel_left]
  exact h
theorem kc_set {w L : va_W} {i : Nat} {x : Nat × va_E} : (w ++ L).set (w.length + i) x = w ++ L.set i x := by
  rw [List.set_append_right _ _ (by omega), Nat.add_sub_cancel_left]
theorem kc_cI {E : fd_E} {s : State} (hK : va_K E.1 fd_CL (fd_ty E) s) : s.vm.findClass "[I" = some (E.2.1 0) := va_nm_int (hK.2 0 (E.2.1 0, .int) rfl).2
section KC
variable {p : Program} {l : Launch} {e : Env} {R : Room} {s : State} {m : MethodId} {args : Array Value} {below : List Frame} {meth : Method} {c : Code} {H : Heap} {locs : List Loc} {cells slots : Nat} {Q : State → Prop}
variable {cc : ByteArray} {pc : Nat} {ls : Array Slot} {rest st0 : List Value} {own nm : String} {nL : Nat} {E : fd_E} {a0 : Nat} {A : Nat → Prop} {w L L' : va_W} {Post : va_W → Prop}
theorem kc_new (ci : Nat) (fs : List Value) (N : Nat) (C : kc_C p s m args meth c own cc nL nm E a0 A) (hH : kc_H E A w s H locs) (h8 : ci < 8) (hN : (fd_cq ci).2.2 = N) {index : Nat} (hcl : Cond.classLink own index (fd_cq ci).1 ∈ fd_T) (hin : Cond.instantiable (fd_cq ci).1 (fd_cq ci).2.2 ∈ fd_T) (hini : Cond.initialized (fd_cq ci).1 ∈ fd_T) (hfs : ∀ j, j < (fd_cq ci).2.2 → defaultValue (fd_fty ci j) = vp_V fs j) (hcells : cells + 1 ≤ R.cells) (hslots : slots + N ≤ R.slots) (hdg : decode cc pc = .ok (.new index, 3))
    (kk : ∀ (q : Nat) (H1 : Heap), kc_H E A (w ++ [(q, .inr (ci, fs))]) s H1 locs → W p l e R s m args below meth c H1 locs (cells + 1) (slots + N) Q (F0 m (pc + 3) ls (.ref q :: rest))) : W p l e R s m args below meth c H locs cells slots Q (F0 m pc ls rest) := by
  obtain ⟨hx, hb, hml, hown, hts, hK, hZ, hA, -⟩ := C
  subst hN
  exact va_new (C := (fd_cq ci).1) (T := (fd_cq ci).2.1) (N := (fd_cq ci).2.2) hx hb hts (fd_inc h8) (fd_fty ci) (fd_fty_ok h8) hown (hts _ hcl) (hts _ hin) (hts _ hini) hK hH.1 hH.2.1 hH.2.2 hA (fd_CL_at h8) hfs hcells hslots hdg (fun q H1 hP hD hS => kk q H1 ⟨hP, hD, hS⟩)
theorem kc_newI (n : Int32) (N : Nat) (C : kc_C p s m args meth c own cc nL nm E a0 A) (hH : kc_H E A w s H locs) (harr : Cond.arrayClass .int ∈ fd_T) (hn : ¬ n < 0) (hN : n.toNatClampNeg = N) (hbytes : N * 4 ≤ 536870912) (hcells : cells + 1 ≤ R.cells) (hslots : slots + N ≤ R.slots) (hdg : decode cc pc = .ok (.newarray .int, 2))
    (kk : ∀ (q : Nat) (H1 : Heap), kc_H E A (w ++ [(q, .inl (E.2.1 0, N, .inl (fun _ => 0)))]) s H1 locs → W p l e R s m args below meth c H1 locs (cells + 1) (slots + N) Q (F0 m (pc + 2) ls (.ref q :: rest))) : W p l e R s m args below meth c H locs cells slots Q (F0 m pc ls (.int n :: rest)) := by
  obtain ⟨hx, hb, hml, hown, hts, hK, hZ, hA, -⟩ := C
  refine va_newa (atype := .int) (ty := .int) (a0 := (N, .inl (fun _ => 0))) hx hb (hts _ harr) rfl hK hH.1 hH.2.1 hH.2.2 hA (fun cA => rfl) hn hN hbytes hcells hslots hdg (fun q cA H1 hK1 hP hD hS => ?_)
  have e1 : s.vm.findClass "[I" = some cA := va_nm_int (hK1.2 3 (cA, .int) rfl).2
  have e2 : cA = E.2.1 0 := Option.some.inj (e1.symm.trans (kc_cI hK))
  subst e2
  exact kk q H1 ⟨hP, hD, hS⟩
theorem kc_newZ (n : Int32) (N : Nat) (C : kc_C p s m args meth c own cc nL nm E a0 A) (hH : kc_H E A w s H locs) (harr : Cond.arrayClass .boolean ∈ fd_T) (hn : ¬ n < 0) (hN : n.toNatClampNeg = N) (hbytes : N * componentBytes .boolean ≤ 536870912) (hcells : cells + 1 ≤ R.cells) (hslots : slots + N ≤ R.slots) (hdg : decode cc pc = .ok (.newarray .boolean, 2))
    (kk : ∀ (q : Nat) (H1 : Heap), kc_H E A (w ++ [(q, .inl (E.2.1 1, N, .inl (fun _ => 0)))]) s H1 locs → W p l e R s m args below meth c H1 locs (cells + 1) (slots + N) Q (F0 m (pc + 2) ls (.ref q :: rest))) : W p l e R s m args below meth c H locs cells slots Q (F0 m pc ls (.int n :: rest)) := by
  obtain ⟨hx, hb, hml, hown, hts, hK, hZ, hA, -⟩ := C
  refine va_newa (atype := .boolean) (ty := .boolean) (a0 := (N, .inl (fun _ => 0))) hx hb (hts _ harr) rfl hK hH.1 hH.2.1 hH.2.2 hA (fun cA => rfl) hn hN hbytes hcells hslots hdg (fun q cA H1 hK1 hP hD hS => ?_)
  have e1 : s.vm.findClass "[Z" = some cA := va_nm_boolean (hK1.2 3 (cA, .boolean) rfl).2
  have e2 : cA = E.2.1 1 := Option.some.inj (e1.symm.trans (va_nm_boolean (hK.2 1 (E.2.1 1, .boolean) rfl).2))
  subst e2
  exact kk q H1 ⟨hP, hD, hS⟩
theorem kc_newR (n : Int32) (N : Nat) (C : kc_C p s m args meth c own cc nL nm E a0 A) (hH : kc_H E A w s H locs) {index : Nat} (hcl : Cond.classLink own index "FlapDamper$RouteRecord" ∈ fd_T) (hn : ¬ n < 0) (hN : n.toNatClampNeg = N) (hbytes : N * 4 ≤ 536870912) (hcells : cells + 1 ≤ R.cells) (hslots : slots + N ≤ R.slots) (hdg : decode cc pc = .ok (.anewarray index, 3))
    (kk : ∀ (q : Nat) (H1 : Heap), kc_H E A (w ++ [(q, .inl (E.2.1 2, N, .inr (.inr (.inr (.inr (fun _ => none))))))]) s H1 locs → W p l e R s m args below meth c H1 locs (cells + 1) (slots + N) Q (F0 m (pc + 3) ls (.ref q :: rest))) : W p l e R s m args below meth c H locs cells slots Q (F0 m pc ls (.int n :: rest)) := by
  obtain ⟨hx, hb, hml, hown, hts, hK, hZ, hA, -⟩ := C
  refine va_newq hx hb hown (hts _ hcl) hZ.2.1 hK hH.1 hH.2.1 hH.2.2 hA hn hN hbytes hcells hslots hdg (fun q cA H1 hK1 hP hD hS => ?_)
  obtain ⟨-, -, -, -, -, e1⟩ := (hK1.2 3 (cA, .object "FlapDamper$RouteRecord") rfl).2
  obtain ⟨-, -, -, -, -, e3⟩ := (hK.2 2 (E.2.1 2, .object "FlapDamper$RouteRecord") rfl).2
  have e2 : cA = E.2.1 2 := Option.some.inj (e1.symm.trans e3)
  subst e2
  exact kk q H1 ⟨hP, hD, hS⟩
theorem kc_putF (i ci k : Nat) (L' : va_W) (C : kc_C p s m args meth c own cc nL "<init>" E a0 A) (hH : kc_H E A (w ++ L) s H locs) {a : Nat} {fs : List Value} {v : Value} (hi : L[i]? = some (a, .inr (ci, fs))) (h8 : ci < 8) (hk : k < (fd_cq ci).2.2) {index : Nat} (hl : Cond.fieldLink own index ((fd_cq ci).2.1 k).1 ((fd_cq ci).2.1 k).2.1 ((fd_cq ci).2.1 k).2.2.1 ∈ fd_T) (hfin : ((fd_cq ci).2.1 k).2.2.2 = true) (hdecl : ((fd_cq ci).2.1 k).1 = own) (hn : narrow (fd_fty ci k) v = v) (hfit : fits (fd_fty ci k) v = true) (hln : k < fs.length) (hL : L.set i (a, .inr (ci, fs.set k v)) = L') (hdg : decode cc pc = .ok (.putfield index, 3))
    (kk : ∀ (H1 : Heap) (locs1 : List Loc), kc_H E A (w ++ L') s H1 locs1 → W p l e R s m args below meth c H1 locs1 cells slots Q (F0 m (pc + 3) ls rest)) : W p l e R s m args below meth c H locs cells slots Q (F0 m pc ls (v :: .ref a :: rest)) := by
  obtain ⟨hx, hb, hml, hown, hts, hK, hZ, hA, hin2⟩ := C
  refine va_putF (C := (fd_cq ci).1) (T := (fd_cq ci).2.1) (N := (fd_cq ci).2.2) hx hb hts (fd_inc h8) (fd_fty ci) (fd_fty_ok h8) (fd_fnm h8) hown hK hH.1 hH.2.1 hH.2.2 (w.length + i) (kc_at hi) (fd_CL_at h8) k hk (hts _ hl) (fun _ h => h) hfin hin2 hdecl (fd_fty_ok h8 k hk) hn hfit hln hdg (fun H1 locs1 hP hD hS => ?_)
  rw [kc_set, hL] at hP hD
  exact kk H1 locs1 ⟨hP, hD, hS⟩
theorem kc_get (i ci k : Nat) (C : kc_C p s m args meth c own cc nL nm E a0 A) (hH : kc_H E A (w ++ L) s H locs) {a : Nat} {fs : List Value} {v : Value} (hi : L[i]? = some (a, .inr (ci, fs))) (h8 : ci < 8) (hk : k < (fd_cq ci).2.2) {index : Nat} (hl : Cond.fieldLink own index ((fd_cq ci).2.1 k).1 ((fd_cq ci).2.1 k).2.1 ((fd_cq ci).2.1 k).2.2.1 ∈ fd_T) (hv : fs[k]? = some v) (hdg : decode cc pc = .ok (.getfield index, 3))
    (kk : W p l e R s m args below meth c H locs cells slots Q (F0 m (pc + 3) ls (v :: rest))) : W p l e R s m args below meth c H locs cells slots Q (F0 m pc ls (.ref a :: rest)) := by
  obtain ⟨hx, hb, hml, hown, hts, hK, hZ, hA, hin2⟩ := C
  exact va_get (C := (fd_cq ci).1) (T := (fd_cq ci).2.1) (N := (fd_cq ci).2.2) hx hb hts (fd_inc h8) hown hK hH.1 (w.length + i) (kc_at hi) (fd_CL_at h8) k hk (hts _ hl) (fun _ h => h) hv hdg kk
theorem kc_iast (i : Nat) (f' : Nat → Int32) (L' : va_W) (C : kc_C p s m args meth c own cc nL nm E a0 A) (hH : kc_H E A (w ++ L) s H locs) {a n : Nat} {f : Nat → Int32} {j x : Int32} (hi : L[i]? = some (a, .inl (E.2.1 0, n, .inl f))) (hin : vp_in j n) (hf : upd f j.toNatClampNeg x = f') (hL : L.set i (a, .inl (E.2.1 0, n, .inl f')) = L') (hdg : decode cc pc = .ok (.iastore, 1))
    (kk : ∀ (H1 : Heap) (locs1 : List Loc), kc_H E A (w ++ L') s H1 locs1 → W p l e R s m args below meth c H1 locs1 cells slots Q (F0 m (pc + 1) ls rest)) : W p l e R s m args below meth c H locs cells slots Q (F0 m pc ls (.int x :: .int j :: .ref a :: rest)) := by
  obtain ⟨hx, hb, hml, hown, hts, hK, hZ, hA, hin2⟩ := C
  refine va_iast hx hb hK hH.1 hH.2.1 hH.2.2 (w.length + i) 0 (kc_at hi) rfl hin hdg (fun H1 locs1 hP hD hS => ?_)
  rw [kc_set, hf, hL] at hP hD
  exact kk H1 locs1 ⟨hP, hD, hS⟩
theorem kc_aast (i qk : Nat) (f' : Nat → Option Nat) (L' : va_W) (C : kc_C p s m args meth c own cc nL nm E a0 A) (hH : kc_H E A (w ++ L) s H locs) {a n v : Nat} {f : Nat → Option Nat} {vs : List Value} {j : Int32} (hi : L[i]? = some (a, .inl (E.2.1 2, n, .inr (.inr (.inr (.inr f)))))) (hv : L[qk]? = some (v, .inr (3, vs))) (hin : vp_in j n) (hf : va_up f j.toNatClampNeg (some v) = f') (hL : L.set i (a, .inl (E.2.1 2, n, .inr (.inr (.inr (.inr f'))))) = L') (hdg : decode cc pc = .ok (.aastore, 1))
    (kk : ∀ (H1 : Heap) (locs1 : List Loc), kc_H E A (w ++ L') s H1 locs1 → W p l e R s m args below meth c H1 locs1 cells slots Q (F0 m (pc + 1) ls rest)) : W p l e R s m args below meth c H locs cells slots Q (F0 m pc ls (.ref v :: .int j :: .ref a :: rest)) := by
  obtain ⟨hx, hb, hml, hown, hts, hK, hZ, hA, hin2⟩ := C
  refine va_astq hx hb hK hH.1 hH.2.1 hH.2.2 (w.length + i) 2 (w.length + qk) 3 (r := fd_cq 3) (kc_at hi) rfl (kc_at hv) (fd_CL_at (by omega)) hin hdg (fun H1 locs1 hP hD hS => ?_)
  rw [kc_set, hf, hL] at hP hD
  exact kk H1 locs1 ⟨hP, hD, hS⟩
theorem kc_cast (i : Nat) (C : kc_C p s m args meth c own cc nL nm E a0 A) (hH : kc_H E A (w ++ L) s H locs) {a : Nat} {x : vp_A} (hi : L[i]? = some (a, .inl (E.2.1 0, x))) {index : Nat} (hl : Cond.classLink own index "[I" ∈ fd_T) (hdg : decode cc pc = .ok (.checkcast index, 3))
    (kk : W p l e R s m args below meth c H locs cells slots Q (F0 m (pc + 3) ls (.ref a :: rest))) : W p l e R s m args below meth c H locs cells slots Q (F0 m pc ls (.ref a :: rest)) := by
  obtain ⟨hx, hb, hml, hown, hts, hK, hZ, hA, hin2⟩ := C
  exact va_castA hx hb hown (hts _ hl) hH.1 (w.length + i) (kc_at hi) (kc_cI hK) hdg kk
theorem kc_alen (i : Nat) (n : Int32) (C : kc_C p s m args meth c own cc nL nm E a0 A) (hH : kc_H E A w s H locs) {a N : Nat} {f : Nat → Int32} (hi : w[i]? = some (a, .inl (E.2.1 0, N, .inl f))) (hn : nI N = n) (hdg : decode cc pc = .ok (.arraylength, 1))
    (kk : W p l e R s m args below meth c H locs cells slots Q (F0 m (pc + 1) ls (.int n :: rest))) : W p l e R s m args below meth c H locs cells slots Q (F0 m pc ls (.ref a :: rest)) := by
  obtain ⟨hx, hb, hml, hown, hts, hK, hZ, hA, hin2⟩ := C
  exact va_alen hx hb hK hH.1 i 0 hi rfl hn hdg kk
theorem kc_iastw (i : Nat) (f' : Nat → Int32) (C : kc_C p s m args meth c own cc nL nm E a0 A) (hH : kc_H E A w s H locs) {a n : Nat} {f : Nat → Int32} {j x : Int32} (hi : w[i]? = some (a, .inl (E.2.1 0, n, .inl f))) (hin : vp_in j n) (hf : upd f j.toNatClampNeg x = f') (hdg : decode cc pc = .ok (.iastore, 1))
    (kk : ∀ (H1 : Heap) (locs1 : List Loc), kc_H E A (w.set i (a, .inl (E.2.1 0, n, .inl f'))) s H1 locs1 → W p l e R s m args below meth c H1 locs1 cells slots Q (F0 m (pc + 1) ls rest)) : W p l e R s m args below meth c H locs cells slots Q (F0 m pc ls (.int x :: .int j :: .ref a :: rest)) := by
  obtain ⟨hx, hb, hml, hown, hts, hK, hZ, hA, hin2⟩ := C
  refine va_iast hx hb hK hH.1 hH.2.1 hH.2.2 i 0 hi rfl hin hdg (fun H1 locs1 hP hD hS => ?_)
  rw [hf] at hP hD
  exact kk H1 locs1 ⟨hP, hD, hS⟩
theorem kc_getsF (C : kc_C p s m args meth c "FlapDamper$Bounds" cc nL nm E a0 A) (hH : kc_H E A w s H locs) (hdg : decode cc pc = .ok (.getstatic 9, 3))
    (kk : W p l e R s m args below meth c H locs cells slots Q (F0 m (pc + 3) ls (.ref a0 :: rest))) : W p l e R s m args below meth c H locs cells slots Q (F0 m pc ls rest) := by
  obtain ⟨hx, hb, hml, hown, hts, hK, hZ, hA, hin2⟩ := C
  exact va_getsN hx hb hZ.2.2.1 hH.2.2 hown (va_Nw.use rfl hZ.1.2.2.2.2.1) (fun _ h => h) hdg kk
theorem kc_clone (C : kc_C p s m args meth c own cc nL nm E a0 A) (hsz : ls.size = nL) (hH : kc_H E A w s H locs) {index : Nat} (hlink : Cond.methodLink own index ⟨"[I", "clone", "()Ljava/lang/Object;"⟩ ∈ fd_T) (hsame : Cond.sameMethod "[I" "java/lang/Object" "clone" "()Ljava/lang/Object;" ∈ fd_T) (hnat : Cond.native ⟨"java/lang/Object", "clone", "()Ljava/lang/Object;"⟩ ∈ fd_T) (hinst : Cond.instanceMethod ⟨"java/lang/Object", "clone", "()Ljava/lang/Object;"⟩ ∈ fd_T) (hsel : Cond.selects "[I" ⟨"[I", "clone", "()Ljava/lang/Object;"⟩ ⟨"java/lang/Object", "clone", "()Ljava/lang/Object;"⟩ ∈ fd_T)
    (hframes : 1 ≤ R.frames) (hlocals : (rest.map fun v => v.category).sum + 14 ≤ R.locals) (hcells : cells + 1 ≤ R.cells) (hslots : slots + 7 ≤ R.slots) (hdg : decode cc pc = .ok (.invokevirtual index, 3))
    (kk : ∀ (q : Nat) (H1 : Heap), kc_H E A (w ++ [(q, .inl (E.2.1 0, 7, .inl (fun j => kc_first.getD j 0)))]) s H1 locs → W p l e R s m args below meth c H1 locs (cells + 1) (slots + 7) Q (F0 m (pc + 3) ls (.ref q :: rest))) : W p l e R s m args below meth c H locs cells slots Q (F0 m pc ls (.ref a0 :: rest)) := by
  obtain ⟨hx, hb, hml, hown, hts, hK, hZ, hA, hin2⟩ := C
  obtain ⟨hP, hD, hS⟩ := hH
  obtain ⟨cell, h1, h2, h3, h4, h5, h6⟩ := hZ.2.2.2
  have hcI : cell.cls = E.2.1 0 := Option.some.inj (h2.symm.trans (kc_cI hK))
  obtain ⟨c0, t0', f1, f2, f3⟩ := Cond.castable_spec (va_Nw.use (A := args) rfl hZ.1.2.2.2.2.2)
  have ec : cell.cls = c0 := Option.some.inj (h2.symm.trans f1)
  have hsz7 : cell.slots.size = 7 := by rw [h5]; exact arrV_size _ _ _
  intro T hT X
  have hcellT : T.heap[a0]? = some cell := by rw [hT, hS.2.1 a0 (Array.getElem?_eq_some_iff.mp h1).1 h6]; exact h1
  obtain ⟨-, kA, hkA, comp, hkind⟩ := State.isArrayOf_alike X.warmed.alike ((hK.2 0 (E.2.1 0, .int) rfl).1 0 (fun _ => .null))
  obtain ⟨-, kS, hkS, compS, hkindS⟩ := (hK.2 0 (E.2.1 0, .int) rfl).1 0 (fun _ => .null)
  obtain ⟨vm', X', st⟩ := X.cloneArray hx (hown := hown) (hlink := hts _ hlink) (hsame := hts _ hsame) (hnat := hts _ hnat) (hinst := hts _ hinst) (hsel := hts _ hsel) (a := a0) (cell := cell) hcellT h3 h4 h2 f2 (by rw [ec]; exact f3)
    (fun i v hv => by
      rw [hcI]
      have hk' : T.vm.classes[E.2.1 0]? = some kA := hkA
      have hv2 : fits .int v = true := by
        rw [h5] at hv
        exact va_fit (fun _ _ => rfl) i v hv
      simpa [State.fitsSlot, State.slotType?, hk', hkind] using hv2)
    (g := F0 m pc ls (.ref a0 :: rest)) rfl (by rw [hml]; exact hsz) rfl (by rw [hb]; exact hdg) hframes (by show 2 * 0 + _ + 14 ≤ _; omega) hcells (by rw [hsz7]; exact hslots) (hloader := by rw [hcI]; exact Vm.clonesLoader_of_array hkS hkindS)
  have hcellE : ({ cls := cell.cls, slots := cell.slots } : Cell) = vp_cell (E.2.1 0) (7, .inl (fun j => kc_first.getD j 0)) := by
    rw [h5, hcI]
    rfl
  rw [hcellE, hsz7] at X'
  generalize hH1 : H.push (vp_cell (E.2.1 0) (7, .inl (fun j => kc_first.getD j 0))) = H1
  have z1 : H1.size = H.size + 1 := by rw [← hH1, Array.size_push]
  have e1 : H1[H.size]? = some (vp_cell (E.2.1 0) (7, .inl (fun j => kc_first.getD j 0))) := by rw [← hH1, Array.getElem?_push_size]
  have o1 : ∀ q : Nat, q < H.size → H1[q]? = H[q]? := fun q hq => by rw [← hH1, Array.getElem?_push, if_neg (Nat.ne_of_lt hq)]
  have hk : ∀ (k : Nat) (y : Nat × va_E), w[k]? = some y → H1[y.1]? = H[y.1]? := fun k y hy => o1 y.1 ((hP k y hy).lt)
  obtain ⟨t, b1, b2⟩ := kk H.size H1 ⟨(hP.kept hk).app (fun k y hy => by
      have hz : k < 1 := (List.getElem?_eq_some_iff.mp hy).1
      rw [show k = 0 by omega] at hy
      cases hy
      exact e1), hD.push hP rfl (hA _ hS.1), ⟨Nat.le_trans hS.1 (by omega), fun y h1 h2 => (o1 y (Nat.lt_of_lt_of_le h1 hS.1)).trans (hS.2.1 y h1 h2), hS.2.2⟩⟩
    ((T.setVm vm').pushCell (vp_cell (E.2.1 0) (7, .inl (fun j => kc_first.getD j 0)))) (by rw [← hH1, ← hT]; rfl) X'
  refine ⟨t, st t ?_, b2⟩
  rw [hcellE, hT]
  exact b1
def kc_oi (own : String) (index : Nat) : Prop := Cond.methodLink own index objectInit ∈ fd_T ∧ Cond.instanceMethod objectInit ∈ fd_T ∧ Cond.code objectInit ⟨#[0xb1]⟩ 1 none ∈ fd_T
theorem kc_objInit (C : kc_C p s m args meth c own cc nL nm E a0 A) (hsz : ls.size = nL) {index a : Nat} (hw : kc_oi own index) (hframes : 1 ≤ R.frames) (hlocals : 12 ≤ R.locals) (hdg : decode cc pc = .ok (.invokespecial index, 3))
    (kk : W p l e R s m args below meth c H locs cells slots Q (F0 m (pc + 3) ls [])) : W p l e R s m args below meth c H locs cells slots Q (F0 m pc ls [.ref a]) := by
  obtain ⟨hx, hb, hml, hown, hts, hK, hZ, hA, hin2⟩ := C
  exact W.objInit hx hb hown (hts _ hw.1) (hts _ hw.2.1) (hts _ hw.2.2) rfl (by rw [hml]; exact hsz) rfl hdg hframes (by show 2 * 0 + 0 + 12 ≤ _; omega) kk
theorem kc_vret (C : kc_C p s m args meth c own cc nL nm E a0 A) (hr : meth.sig.returnType = none) (hlk : meth.locks = false) {mc ms : Nat} (hH : kc_H E A w s H locs) (hp : Post w) (h1 : cells = mc) (h2 : slots = ms) (hdg : decode cc pc = .ok (.return_, 1)) : W p l e R s m args below meth c H locs cells slots (MQ below (kc_Q E A Post) args s mc ms A) (F0 m pc ls []) := by
  obtain ⟨hx, hb, hml, hown, hts, hK, hZ, hA, hin2⟩ := C
  subst h1 h2
  exact W.vret hx hb hr (fun t ht hW => ⟨⟨rfl, w, hp, by rw [ht]; exact hH.1, hH.2.1, va_K.moved hW.alike hK⟩, hH.2.2.F ht⟩) hH.2.2.2.2 hdg hlk
variable {y : MethodName} {bytes : ByteArray} {maxL n index : Nat} {rm' : Room} {av : List Value} {mc ms : Nat} {a : Array Value}
theorem kc_after (hr : va_Run p l e R s m args below meth c H locs cells slots mc ms (F0 m pc ls st0) rest (kc_Q E A Post a) A) (hH : kc_H E A w s H locs)
    (kk : ∀ (w' : va_W) (H1 : Heap) (locs1 : List Loc), Post w' → kc_H E A w' s H1 locs1 → W p l e R s m args below meth c H1 locs1 (cells + mc) (slots + ms) Q (F0 m (pc + 3) ls rest)) : W p l e R s m args below meth c H locs cells slots Q (F0 m pc ls st0) := by
  intro T hT X
  obtain ⟨v', st₀, t, T', L, h0, X', hL, e1, e2, ⟨⟨hv, w', hp, hP, hD, hK'⟩, hz, hk⟩, st⟩ := hr T hT X
  cases hv
  rw [h0] at hz hk
  obtain ⟨-, -, hS⟩ := hH
  obtain ⟨t2, a1, b1⟩ := kk w' T'.heap (locs ++ L) hp ⟨by rw [e1]; exact hP, hD, ⟨Nat.le_trans hS.1 (by rw [e1]; exact hz), fun q h1 h2 => by rw [e1, hk q (Nat.lt_of_lt_of_le h1 hS.1) h2]; exact hS.2.1 q h1 h2, fun q hq => by
      rcases List.mem_append.mp hq with h | h
      · exact hS.2.2 q h
      · exact hL q h⟩⟩ T' rfl X'
  exact ⟨t2, st t2 a1, b1⟩
def kc_wI (own : String) (index : Nat) (y : MethodName) (bytes : ByteArray) (maxL n : Nat) : Prop := fd_wd y n ∧ Cond.methodLink own index y ∈ fd_T ∧ Cond.instanceMethod y ∈ fd_T ∧ Cond.initialized y.cls ∈ fd_T ∧ Cond.code y bytes maxL none ∈ fd_T ∧ y.name = "<init>"
def kc_wN (y : MethodName) (bytes : ByteArray) (maxL n : Nat) : Prop := fd_wd y n ∧ Cond.instanceMethod y ∈ fd_T ∧ Cond.initialized y.cls ∈ fd_T ∧ Cond.code y bytes maxL none ∈ fd_T ∧ y.name = "<init>"
theorem kc_good (h : Cond.code y bytes maxL none ∈ fd_T) : GoodIn fd_T (Cond.code y bytes maxL none :: fd_T) := by
  refine fd_good (fun w hw => ?_)
  rcases List.mem_cons.mp hw with rfl | h'
  · exact h
  · exact h'
theorem kc_callI {b : Nat} (C : kc_C p s m args meth c own cc nL nm E a0 A) (hsz : ls.size = nL) (hH : kc_H E A w s H locs) (hM : kc_Ct l y bytes maxL rm' E a0 A w [.ref b] Post) (hw : kc_wI own index y bytes maxL 0)
    (hR : rm'.frames + 1 ≤ R.frames ∧ 8 + (maxL + 11) + rm'.locals ≤ R.locals) (hst : st0 = .ref b :: rest) (hrm : (rest.map fun v => v.category).sum ≤ 8) (hf : cells + rm'.cells ≤ R.cells ∧ slots + rm'.slots ≤ R.slots) (hdg : decode cc pc = .ok (.invokespecial index, 3))
    (kk : ∀ (w' : va_W) (H1 : Heap) (locs1 : List Loc), Post w' → kc_H E A w' s H1 locs1 → W p l e R s m args below meth c H1 locs1 (cells + rm'.cells) (slots + rm'.slots) Q (F0 m (pc + 3) ls rest)) : W p l e R s m args below meth c H locs cells slots Q (F0 m pc ls st0) := by
  obtain ⟨hx, hb, hml, hown, hts, hK, hZ, hA, hin2⟩ := C
  obtain ⟨hd, w1, w2, w3, w4, w5⟩ := hw
  exact kc_after (va_runI (Ts := fd_T) (own := own) (As := []) (rest := rest) ⟨hx, hb, hml, hown, hts⟩ hM (cwI 0 hts (kc_good w4) rfl rfl rfl (hts _ w3) (hts _ w1) (hts _ w2) w5 hd hR) ⟨kc_blind, kc_pre hK hZ hA hH⟩ rfl rfl hsz hst (lv_room hrm) hdg hf) hH kk
theorem kc_callN (host : String) {b : Nat} (C : kc_C p s m args meth c own cc nL nm E a0 A) (hsz : ls.size = nL) (hH : kc_H E A w s H locs) (hM : kc_Ct l y bytes maxL rm' E a0 A w [.ref b] Post) (hw : kc_wN y bytes maxL 0) (hnw : va_Nw (.methodLinkNest own index y host) s)
    (hR : rm'.frames + 1 ≤ R.frames ∧ 8 + (maxL + 11) + rm'.locals ≤ R.locals) (hst : st0 = .ref b :: rest) (hrm : (rest.map fun v => v.category).sum ≤ 8) (hf : cells + rm'.cells ≤ R.cells ∧ slots + rm'.slots ≤ R.slots) (hdg : decode cc pc = .ok (.invokespecial index, 3))
    (kk : ∀ (w' : va_W) (H1 : Heap) (locs1 : List Loc), Post w' → kc_H E A w' s H1 locs1 → W p l e R s m args below meth c H1 locs1 (cells + rm'.cells) (slots + rm'.slots) Q (F0 m (pc + 3) ls rest)) : W p l e R s m args below meth c H locs cells slots Q (F0 m pc ls st0) := by
  obtain ⟨hx, hb, hml, hown, hts, hK, hZ, hA, hin2⟩ := C
  obtain ⟨hd, w2, w3, w4, w5⟩ := hw
  exact kc_after (va_runIN (Ts := fd_T) (own := own) (host := host) (As := []) (rest := rest) ⟨hx, hb, hml, hown, hts⟩ hM ⟨va_cnB 0 hts (kc_good w4) rfl rfl rfl hnw (hts _ w3) hd hR, w5, hts _ w2⟩ ⟨kc_blind, kc_pre hK hZ hA hH⟩ rfl rfl hsz hst (lv_room hrm) hdg hf) hH kk
theorem kc_callS (As : List Value) (C : kc_C p s m args meth c own cc nL nm E a0 A) (hsz : ls.size = nL) (hH : kc_H E A w s H locs) (hM : kc_Ct l y bytes maxL rm' E a0 A w As Post) (hw : fd_wS own index y bytes maxL none n)
    (hR : rm'.frames + 1 ≤ R.frames ∧ 8 + (maxL + 11) + rm'.locals ≤ R.locals) (hn : As.length = n) (hst : st0 = As.reverse ++ rest) (hrm : (rest.map fun v => v.category).sum ≤ 8) (hf : cells + rm'.cells ≤ R.cells ∧ slots + rm'.slots ≤ R.slots) (hdg : decode cc pc = .ok (.invokestatic index, 3))
    (kk : ∀ (w' : va_W) (H1 : Heap) (locs1 : List Loc), Post w' → kc_H E A w' s H1 locs1 → W p l e R s m args below meth c H1 locs1 (cells + rm'.cells) (slots + rm'.slots) Q (F0 m (pc + 3) ls rest)) : W p l e R s m args below meth c H locs cells slots Q (F0 m pc ls st0) := by
  obtain ⟨hx, hb, hml, hown, hts, hK, hZ, hA, hin2⟩ := C
  obtain ⟨hd, w1, w2, w4, w5⟩ := hw
  refine kc_after (va_runS (Ts := fd_T) (own := own) (As := As) (rest := rest) ⟨hx, hb, hml, hown, hts⟩ hM (va_cwS n hts (fd_good ?_) rfl rfl rfl hd hR) ⟨kc_blind, kc_pre hK hZ hA hH⟩ rfl hn hsz hst (lv_room hrm) hdg hf) hH kk
  intro w hw
  rcases List.mem_append.mp hw with h | h
  · simp only [List.mem_cons, List.not_mem_nil, or_false] at h
    rcases h with rfl | rfl | rfl
    · exact w1
    · exact w2
    · exact w4
  · rcases List.mem_cons.mp h with rfl | h
    · exact w5
    · exact h
end KC
theorem kc_snoc1 (x : Int32) : upd (fun _ => (0 : Int32)) 0 x = fun j => [x].getD j 0 := by
  funext j
  unfold upd
  cases j with
  | zero => rfl
  | succ j => rw [if_neg (by omega)]; simp
theorem kc_snoc (l l' : List Int32) (k : Nat) (x : Int32) (hk : k = l.length) (hl : l ++ [x] = l') : upd (fun j => l.getD j 0) k x = fun j => l'.getD j 0 := by
  subst hl hk
  funext j
  unfold upd
  by_cases h : j = l.length
  · subst h
    simp
  · rw [if_neg h]
    by_cases h2 : j < l.length
    · simp [List.getD_eq_getElem?_getD, List.getElem?_append_left h2]
    · have e1 : l[j]? = none := List.getElem?_eq_none (by omega)
      have e2 : (l ++ [x])[j]? = none := List.getElem?_eq_none (by rw [List.length_append, List.length_singleton]; omega)
      dsimp only
      rw [List.getD_eq_getElem?_getD, List.getD_eq_getElem?_getD, e1, e2]
theorem kc_usnoc (l l' : List Nat) (k : Nat) (x : Nat) (hk : k = l.length) (hl : l ++ [x] = l') : va_up (fun j => l[j]?) k (some x) = fun j => l'[j]? := by
  subst hl hk
  funext j
  unfold va_up
  by_cases h : j = l.length
  · subst h
    simp
  · rw [if_neg h]
    by_cases h2 : j < l.length
    · rw [List.getElem?_append_left h2]
    · have e1 : l[j]? = none := List.getElem?_eq_none (by omega)
      have e2 : (l ++ [x])[j]? = none := List.getElem?_eq_none (by rw [List.length_append, List.length_singleton]; omega)
      dsimp only
      rw [e1, e2]
theorem kc_usnoc1 (x : Nat) : va_up (fun _ => none) 0 (some x) = fun j => [x][j]? := kc_usnoc [] [x] 0 x rfl rfl
/-! Arrays.fill -/
def kc_fl (N : Nat) (v : Int32) (f : Nat → Int32) (k : Nat) : Nat → Int32 := fun j => if j < k then v else f j
theorem kc_fl_up (N : Nat) (v : Int32) (f : Nat → Int32) (k : Nat) : upd (kc_fl N v f k) k v = kc_fl N v f (k + 1) := by
  funext j
  unfold upd kc_fl
  by_cases h : j = k
  · rw [if_pos h, if_pos (by omega)]
  · rw [if_neg h]
    by_cases h2 : j < k
    · rw [if_pos h2, if_pos (by omega)]
    · rw [if_neg h2, if_neg (by omega)]
