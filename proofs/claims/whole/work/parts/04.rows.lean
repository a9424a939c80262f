/-! ===== what is there from the start and nobody writes: static tables, texts, words of the nest ===== -/
def fd_tl (l : List Int32) (i : Int32) : Int32 := l.getD i.toNatClampNeg 0
def fd_least : List Int32 := [4, 1, 0, 0, 100, 50, 100]
def fd_most : List Int32 := [200, 50, 2000, 2000, 9999, 9999, 20000]
def fd_row : List Int32 := [65536, 60097, 55109, 50535, 46341, 42495, 38968, 35734]
def fd_slen : List Nat := [4, 4, 4, 4, 4, 4, 3]
def fd_sbyt : List (List Int32) := [[104, 97, 108, 102], [115, 108, 111, 116], [103, 111, 110, 101], [115, 119, 97, 112], [111, 118, 101, 114], [98, 97, 99, 107], [116, 111, 112]]
def fd_stx : List String := ["half", "slot", "gone", "swap", "over", "back", "top"]
def fd_N1 : Cond := .methodLinkNest "FlapDamper$RecordList" 41 ⟨"FlapDamper", "isWithin", "(III)Z"⟩ "FlapDamper"
def fd_N2 : Cond := .methodLinkNest "FlapDamper$Lines" 38 ⟨"FlapDamper", "isWithin", "(III)Z"⟩ "FlapDamper"
def fd_N3 : Cond := .methodLinkNest "FlapDamper$State" 176 ⟨"FlapDamper", "routeOf", "(II)I"⟩ "FlapDamper"
def fd_N4 : Cond := .fieldLinkNest "FlapDamper$Bounds" 23 "FlapDamper" "ROW" "[I" "FlapDamper"
def fd_Z (E : fd_E) (U : State) (H : Heap) : Prop :=
  (va_Nw fd_N1 U ∧ va_Nw fd_N2 U ∧ va_Nw fd_N3 U ∧ va_Nw fd_N4 U) ∧
  (va_Z "FlapDamper" "LEAST" "[I" (.ref (E.2.2 100)) (fd_A E) U H ∧ va_T .int (E.2.2 100) 7 (fun j => .int (fd_least.getD j 0)) (fd_A E) U H) ∧
  (va_Z "FlapDamper" "MOST" "[I" (.ref (E.2.2 101)) (fd_A E) U H ∧ va_T .int (E.2.2 101) 7 (fun j => .int (fd_most.getD j 0)) (fd_A E) U H) ∧
  (va_Z "FlapDamper" "ROW" "[I" (.ref (E.2.2 102)) (fd_A E) U H ∧ va_T .int (E.2.2 102) 8 (fun j => .int (fd_row.getD j 0)) (fd_A E) U H) ∧
  (vk_S 7 fd_slen fd_sbyt (fun i => E.2.2 (110 + i)) (fun i => E.2.2 (120 + i)) (fd_A E) U H ∧ ∀ i : Nat, i < 7 → vk_R "FlapDamper$Text" (57 + 2 * i) (fd_stx.getD i "") (E.2.2 (110 + i)) U) ∧
  va_Z "java/lang/String" "COMPACT_STRINGS" "Z" (.int 1) (fd_A E) U H ∧ va_Zq "jdk/internal/util/Preconditions" "SIOOBE_FORMATTER" "Ljava/util/function/BiFunction;" (fd_A E) U H
theorem fd_Z.go {E : fd_E} {s U : State} {H : Heap} {locs : List Loc} (hW : s.WarmedH U.vm) (hU : U.heap = H) (hS : va_S (fd_A E) s.heap H locs) (h : fd_Z E s s.heap) : fd_Z E U U.heap := by
  rw [hU]
  obtain ⟨⟨n1, n2, n3, n4⟩, ⟨a1, a2⟩, ⟨b1, b2⟩, ⟨c1, c2⟩, ⟨d1, d2⟩, e1, f1⟩ := h
  have hv := hW.alike
  exact ⟨⟨va_Nw.warmM hW n1, va_Nw.warmM hW n2, va_Nw.warmM hW n3, va_Nw.warmF hW n4⟩, ⟨(va_Z.moved hv a1).kept hS.2.1, (va_T.moved hv a2).kept hS.2.1⟩, ⟨(va_Z.moved hv b1).kept hS.2.1, (va_T.moved hv b2).kept hS.2.1⟩, ⟨(va_Z.moved hv c1).kept hS.2.1, (va_T.moved hv c2).kept hS.2.1⟩, ⟨(vk_S.moved hv d1).kept hS.2.1, fun i hi => vk_R.warm hW (d2 i hi)⟩, (va_Z.moved hv e1).kept hS.2.1, (va_Zq.moved hv f1).kept hS.2.1⟩
theorem fd_Z.calling {E : fd_E} {U : State} {g : JFrame} {mk : MethodId} {a : Array Value} (h : fd_Z E U U.heap) : fd_Z E (U.calling g mk a) (U.calling g mk a).heap := by
  obtain ⟨⟨n1, n2, n3, n4⟩, ⟨a1, a2⟩, ⟨b1, b2⟩, ⟨c1, c2⟩, ⟨d1, d2⟩, e1, f1⟩ := h
  have hv : U.vm.Alike (U.calling g mk a).vm := Vm.Alike.refl U.vm
  exact ⟨⟨va_Nw.same rfl rfl n1, va_Nw.same rfl rfl n2, va_Nw.same rfl rfl n3, va_Nw.same rfl rfl n4⟩, ⟨va_Z.moved hv a1, va_T.moved hv a2⟩, ⟨va_Z.moved hv b1, va_T.moved hv b2⟩, ⟨va_Z.moved hv c1, va_T.moved hv c2⟩, ⟨vk_S.moved hv d1, fun i hi => vk_R.same rfl (d2 i hi)⟩, va_Z.moved hv e1, va_Zq.moved hv f1⟩
/-- what a walk stands on -/
def fd_C (p : Program) (s : State) (m : MethodId) (args : Array Value) (c : Code) (own : String) (cc : ByteArray) (nL : Nat) (E : fd_E) : Prop :=
  p.tables.exec = Jvm.exec ∧ c.code = cc ∧ c.maxLocals = nL ∧ s.vm.findClass own = some m.cls ∧ (∀ w ∈ fd_T, w.before args s = true) ∧ va_K E.1 fd_CL (fd_ty E) s ∧ fd_Z E s s.heap
/-- the heap holds the store -/
def fd_H (E : fd_E) (S : fd_S) (s : State) (H : Heap) (locs : List Loc) : Prop := va_P E.1 fd_CL (fd_ws E S) H ∧ va_D (fd_A E) (fd_ws E S) ∧ va_S (fd_A E) s.heap H locs ∧ fd_h S
def fd_W (E : fd_E) (S : fd_S) (U : State) : Prop := va_P E.1 fd_CL (fd_ws E S) U.heap ∧ va_D (fd_A E) (fd_ws E S) ∧ va_K E.1 fd_CL (fd_ty E) U ∧ fd_h S
def fd_Q (E : fd_E) (v : Option Value) (S : fd_S) : Array Value → State → Outcome → State → Prop := fun _ st oc t => (oc = .returned v ∧ fd_W E S t) ∧ va_F (fd_A E) st t
def fd_Ct (l : Launch) (y : MethodName) (cc : ByteArray) (nL : Nat) (ret : Option FieldType) (rm : Room) (E : fd_E) (S : fd_S) (av : List Value) (v : Option Value) (S' : fd_S) : Prop :=
  Met l y (Cond.code y cc nL ret :: fd_T) rm (va_Pc av (fun U => fd_W E S U ∧ fd_Z E U U.heap)) (fd_Q E v S') 0 0 (fd_A E)
abbrev fd_rm (f n : Nat) : Room := { frames := f, cells := 0, slots := 0, locals := n }
theorem fd_Ct_of {l : Launch} {y : MethodName} {cc : ByteArray} {nL : Nat} {ret : Option FieldType} {rm : Room} {E : fd_E} {S S' : fd_S} {av : List Value} {v : Option Value} (hy : plainName y.cls = true) (hn : (lg_sl av).length ≤ nL)
    (body : ∀ (p : Program) (e : Env) (s : State) (m : MethodId) (below : List Frame) (meth : Method) (c : Code) (ls : Array Slot), fd_C p s m av.toArray c y.cls cc nL E → meth.sig.returnType = ret → meth.locks = false → fd_H E S s s.heap [] → lv_has ls nL (lv_args 0 av) →
      W p l e rm s m av.toArray below meth c s.heap [] 0 0 (MQ below (fd_Q E v S') av.toArray s 0 0 (fd_A E)) (F0 m 0 ls [])) : fd_Ct l y cc nL ret rm E S av v S' := by
  refine Met.ofW (cc := cc) (maxL := nL) (ret := ret) hy rfl ?_
  intro p e s m args below meth c s₁ B hml hv
  obtain ⟨rfl, ⟨hP, hD, hK, hh⟩, hZ⟩ := hv
  have hts := atoms_spec (ws := Cond.code y cc nL ret :: fd_T) B.pre
  rw [lg_entry_eq]
  exact body p e s m below meth c _ ⟨B.exec, B.bytes, hml, findClass_of_methodNamed B.named, fun w hw => hts w (List.mem_cons_of_mem _ hw), hK, hZ⟩ B.returns B.notSynchronized ⟨hP, hD, va_S.rf, hh⟩ (lv_entry av hn)
theorem fd_blind {E : fd_E} {S : fd_S} {av : List Value} : FrameBlind (va_Pc av (fun U => fd_W E S U ∧ fd_Z E U U.heap)) := by
  intro a U g mk h
  obtain ⟨h1, ⟨hP, hD, hK, hh⟩, hZ⟩ := h
  exact ⟨h1, ⟨hP, hD, va_K.moved (u := U) (U := U.calling g mk a) (Vm.Alike.refl U.vm) hK, hh⟩, hZ.calling⟩
theorem fd_pre {E : fd_E} {S : fd_S} {av : List Value} {s : State} {H : Heap} {locs : List Loc} (hK : va_K E.1 fd_CL (fd_ty E) s) (hZ : fd_Z E s s.heap) (hH : fd_H E S s H locs) : ∀ U : State, U.heap = H → s.WarmedH U.vm → va_Pc av (fun U => fd_W E S U ∧ fd_Z E U U.heap) av.toArray U :=
  fun U hU hW => ⟨rfl, ⟨by rw [hU]; exact hH.1, hH.2.1, va_K.moved hW.alike hK, hH.2.2.2⟩, hZ.go hW hU hH.2.2.1⟩
/-- the classes, and that their fields' words are among the tables' -/
def fd_cq : Nat → vw_C
  | 0 => (RX0, TX0, 1) | 1 => (RX1, TX1, 4) | 2 => (RX2, TX2, 3) | 3 => (RX3, TX3, 7) | 4 => (RX4, TX4, 11) | 5 => (RX5, TX5, 2) | 6 => (RX6, TX6, 5) | _ => (RX7, TX7, 9)
theorem fd_CL_at {ci : Nat} (h : ci < 8) : fd_CL[ci]? = some (fd_cq ci) := by
  match ci, h with
  | 0, _ => rfl
  | 1, _ => rfl
  | 2, _ => rfl
  | 3, _ => rfl
  | 4, _ => rfl
  | 5, _ => rfl
  | 6, _ => rfl
  | 7, _ => rfl
theorem fd_in0 : ∀ w ∈ u_ws RX0 TX0 1, w ∈ fd_T := by decide +kernel
theorem fd_in1 : ∀ w ∈ u_ws RX1 TX1 4, w ∈ fd_T := by decide +kernel
theorem fd_in2 : ∀ w ∈ u_ws RX2 TX2 3, w ∈ fd_T := by decide +kernel
theorem fd_in3 : ∀ w ∈ u_ws RX3 TX3 7, w ∈ fd_T := by decide +kernel
theorem fd_in4 : ∀ w ∈ u_ws RX4 TX4 11, w ∈ fd_T := by decide +kernel
theorem fd_in5 : ∀ w ∈ u_ws RX5 TX5 2, w ∈ fd_T := by decide +kernel
theorem fd_in6 : ∀ w ∈ u_ws RX6 TX6 5, w ∈ fd_T := by decide +kernel
theorem fd_in7 : ∀ w ∈ u_ws RX7 TX7 9, w ∈ fd_T := by decide +kernel
theorem fd_inc {ci : Nat} (h : ci < 8) : ∀ w ∈ u_ws (fd_cq ci).1 (fd_cq ci).2.1 (fd_cq ci).2.2, w ∈ fd_T := by
  match ci, h with
  | 0, _ => exact fd_in0
  | 1, _ => exact fd_in1
  | 2, _ => exact fd_in2
  | 3, _ => exact fd_in3
  | 4, _ => exact fd_in4
  | 5, _ => exact fd_in5
  | 6, _ => exact fd_in6
  | 7, _ => exact fd_in7
def fd_fty : Nat → Nat → FieldType
  | 0 => tyX0 | 1 => tyX1 | 2 => tyX2 | 3 => tyX3 | 4 => tyX4 | 5 => tyX5 | 6 => tyX6 | _ => tyX7
theorem fd_fty_ok {ci : Nat} (h : ci < 8) : ∀ k, k < (fd_cq ci).2.2 → parseFieldDescriptor ((fd_cq ci).2.1 k).2.2.1 = some (fd_fty ci k) := by
  match ci, h with
  | 0, _ => exact tyX0_ok
  | 1, _ => exact tyX1_ok
  | 2, _ => exact tyX2_ok
  | 3, _ => exact tyX3_ok
  | 4, _ => exact tyX4_ok
  | 5, _ => exact tyX5_ok
  | 6, _ => exact tyX6_ok
  | 7, _ => exact tyX7_ok
theorem fd_fnm {ci : Nat} (h : ci < 8) : ∀ a, a < (fd_cq ci).2.2 → ∀ b, b < (fd_cq ci).2.2 → a ≠ b → ((fd_cq ci).2.1 a).2.1 ≠ ((fd_cq ci).2.1 b).2.1 := by
  match ci, h with
  | 0, _ => exact nmX0
  | 1, _ => exact nmX1
  | 2, _ => exact nmX2
  | 3, _ => exact nmX3
  | 4, _ => exact nmX4
  | 5, _ => exact nmX5
  | 6, _ => exact nmX6
  | 7, _ => exact nmX7
