theorem ki_X6 : (Cond.instantiable "FlapDamper" 5) ∈ fd_T := (List.mem_filter.mpr ⟨List.mem_append_right _ (List.mem_of_getElem? (i := 17) (by decide +kernel)), by decide +kernel⟩)
theorem ki_X7 : (Cond.instantiable "FlapDamperModel" 9) ∈ fd_T := (List.mem_filter.mpr ⟨List.mem_append_right _ (List.mem_of_getElem? (i := 571) (by decide +kernel)), by decide +kernel⟩)
theorem kn_X6 : (Cond.initialized "FlapDamper") ∈ fd_T := (List.mem_filter.mpr ⟨List.mem_append_right _ (List.mem_of_getElem? (i := 1) (by decide +kernel)), by decide +kernel⟩)
theorem kn_X7 : (Cond.initialized "FlapDamperModel") ∈ fd_T := (List.mem_filter.mpr ⟨List.mem_append_right _ (List.mem_of_getElem? (i := 9) (by decide +kernel)), by decide +kernel⟩)
theorem kl_L_7 : (Cond.classLink "FlapDamperLaw" 7 "FlapDamper") ∈ fd_T := (List.mem_filter.mpr ⟨List.mem_append_right _ (List.mem_of_getElem? (i := 16) (by decide +kernel)), by decide +kernel⟩)
theorem kl_L_10 : (Cond.classLink "FlapDamperLaw" 10 "FlapDamperModel") ∈ fd_T := (List.mem_filter.mpr ⟨List.mem_append_right _ (List.mem_of_getElem? (i := 570) (by decide +kernel)), by decide +kernel⟩)
theorem kwi_L_9 : kc_wI "FlapDamperLaw" 9 yX6_init cX6_init 1 0 := ⟨⟨by decide +kernel, by decide +kernel, by decide +kernel⟩, (List.mem_filter.mpr ⟨List.mem_append_right _ (List.mem_of_getElem? (i := 18) (by decide +kernel)), by decide +kernel⟩), (List.mem_filter.mpr ⟨List.mem_append_right _ (List.mem_of_getElem? (i := 19) (by decide +kernel)), by decide +kernel⟩), (List.mem_filter.mpr ⟨List.mem_append_right _ (List.mem_of_getElem? (i := 1) (by decide +kernel)), by decide +kernel⟩), (List.mem_filter.mpr ⟨List.mem_append_right _ (List.mem_of_getElem? (i := 20) (by decide +kernel)), by decide +kernel⟩), rfl⟩
theorem kwi_L_12 : kc_wI "FlapDamperLaw" 12 yX7_init cX7_init 2 0 := ⟨⟨by decide +kernel, by decide +kernel, by decide +kernel⟩, (List.mem_filter.mpr ⟨List.mem_append_right _ (List.mem_of_getElem? (i := 572) (by decide +kernel)), by decide +kernel⟩), (List.mem_filter.mpr ⟨List.mem_append_right _ (List.mem_of_getElem? (i := 573) (by decide +kernel)), by decide +kernel⟩), (List.mem_filter.mpr ⟨List.mem_append_right _ (List.mem_of_getElem? (i := 9) (by decide +kernel)), by decide +kernel⟩), (List.mem_filter.mpr ⟨List.mem_append_right _ (List.mem_of_getElem? (i := 574) (by decide +kernel)), by decide +kernel⟩), rfl⟩
theorem lb_T {args : Array Value} {s : State} (hts : ∀ w ∈ lw_tbl, w.before args s = true) : ∀ w ∈ fd_T, w.before args s = true := fun w hw => hts w (List.mem_filter.mp hw).1
theorem lb_cl {args : Array Value} {s : State} (h : ∀ w ∈ fd_T, w.before args s = true) : ∃ D : va_G, ∀ (k : Nat) (q : vw_C), fd_CL[k]? = some q → u_Kn s q.1 q.2.1 q.2.2 (D.1 k) (D.2 k) := by
  obtain ⟨c0, i0, h0⟩ := u_known (C := RX0) (T := TX0) (N := 1) (n := 1) h fd_in0 (h _ ki_X0)
  obtain ⟨c1, i1, h1⟩ := u_known (C := RX1) (T := TX1) (N := 4) (n := 4) h fd_in1 (h _ ki_X1)
  obtain ⟨c2, i2, h2⟩ := u_known (C := RX2) (T := TX2) (N := 3) (n := 3) h fd_in2 (h _ ki_X2)
  obtain ⟨c3, i3, h3⟩ := u_known (C := RX3) (T := TX3) (N := 7) (n := 7) h fd_in3 (h _ ki_X3)
  obtain ⟨c4, i4, h4⟩ := u_known (C := RX4) (T := TX4) (N := 11) (n := 11) h fd_in4 (h _ ki_X4)
  obtain ⟨c5, i5, h5⟩ := u_known (C := RX5) (T := TX5) (N := 2) (n := 2) h fd_in5 (h _ ki_X5)
  obtain ⟨c6, i6, h6⟩ := u_known (C := RX6) (T := TX6) (N := 5) (n := 5) h fd_in6 (h _ ki_X6)
  obtain ⟨c7, i7, h7⟩ := u_known (C := RX7) (T := TX7) (N := 9) (n := 9) h fd_in7 (h _ ki_X7)
  refine ⟨(fun k => if k = 0 then c0 else if k = 1 then c1 else if k = 2 then c2 else if k = 3 then c3 else if k = 4 then c4 else if k = 5 then c5 else if k = 6 then c6 else c7, fun k => if k = 0 then i0 else if k = 1 then i1 else if k = 2 then i2 else if k = 3 then i3 else if k = 4 then i4 else if k = 5 then i5 else if k = 6 then i6 else i7), ?_⟩
  intro k q hq
  match k, hq with
  | 0, hq => cases hq; exact h0
  | 1, hq => cases hq; exact h1
  | 2, hq => cases hq; exact h2
  | 3, hq => cases hq; exact h3
  | 4, hq => cases hq; exact h4
  | 5, hq => cases hq; exact h5
  | 6, hq => cases hq; exact h6
  | 7, hq => cases hq; exact h7
  | k + 8, hq => simp [fd_CL] at hq
theorem lb_arr {s : State} {cA : ClassId} {ty : FieldType} {kA : Class} {comp : ClassId} (h2 : s.vm.classes[cA]? = some kA) (h3 : kA.kind = .array comp ty) : ArrOfT s cA ty := fun N z => ⟨(fun k h => by cases h), kA, h2, comp, h3⟩
theorem lb_K {args : Array Value} {s : State} (hts : ∀ w ∈ lw_tbl, w.before args s = true) : ∃ (D : va_G) (cs : Nat → ClassId), ∀ r : Nat → Nat, va_K D fd_CL (fd_ty (D, cs, r)) s := by
  have h := lb_T hts
  obtain ⟨D, hD⟩ := lb_cl h
  obtain ⟨cI, kI, compI, i1, i2, i3⟩ := Cond.arrayClass_spec (args := args) (first := s) (o := none) (s := s) (idx := []) (h _ ka_I)
  obtain ⟨cZ, kZ, compZ, z1, z2, z3⟩ := Cond.arrayClass_spec (args := args) (first := s) (o := none) (s := s) (idx := []) (h _ ka_Z)
  obtain ⟨comp, cR, kR, r0, -, r2, r3, r4⟩ := Cond.arrayOver_spec (args := args) (first := s) (o := none) (s := s) (idx := []) (hts (Cond.arrayOver (.object "FlapDamper$RouteRecord")) (List.mem_append_right _ (List.mem_of_getElem? (i := 73) (by decide +kernel))))
  refine ⟨D, fun k => if k = 0 then cI else if k = 1 then cZ else cR, fun r => ⟨hD, ?_⟩⟩
  intro k q hq
  match k, hq with
  | 0, hq => cases hq; exact ⟨lb_arr i2 i3, i1⟩
  | 1, hq => cases hq; exact ⟨lb_arr z2 z3, z1⟩
  | 2, hq => cases hq; exact ⟨lb_arr r2 r3, kR, comp, r2, r3, r0, r4⟩
  | k + 3, hq => simp [fd_ty] at hq
theorem lb_len {args : Array Value} {s : State} {tm : Term} {N : Nat} (hN : N < 2 ^ 31) (h : (Term.length tm).eval args s none [] s = some (.int (Int32.ofNat N))) : ∃ a cell, tm.eval args s none [] s = some (.ref a) ∧ s.arrayAt? a = some cell ∧ cell.slots.size = N := by
  simp only [Term.eval, Option.bind_eq_bind] at h
  cases ht : tm.eval args s none [] s with
  | none => simp [ht] at h
  | some x =>
    cases x <;> simp [ht] at h
    case ref a =>
      obtain ⟨cell, hcell, h⟩ := Option.bind_eq_some_iff.mp h
      by_cases hn : cell.slots.size < 2147483648
      · rw [if_pos hn] at h
        have e : cell.slots.size.toInt32 = Int32.ofNat N := Value.int.inj (Option.some.inj h)
        have e2 : nI cell.slots.size = nI N := e
        exact ⟨a, cell, rfl, hcell, (nI_eq (by omega) (by omega)).mp e2⟩
      · rw [if_neg hn] at h; cases h
theorem lb_LEAST {args : Array Value} {s : State} {A : Nat → Prop} (hs : ∀ c ∈ flatC (Jvm.Cond.and given_1 narrow_1), c.before args s = true) (hA : ∀ a : Nat, a < s.heap.size → ¬ A a) : ∃ t : Nat, (Term.static "FlapDamper" "LEAST" "[I").eval args s none [] s = some (.ref t) ∧ va_T .int t 7 (fun j => .int (fd_least.getD j 0)) A s s.heap := by
  refine va_Tof (by decide) (hs _ (List.mem_of_getElem? (i := 20) (by decide +kernel))) (va_eqt (hs _ (List.mem_of_getElem? (i := 21) (by decide +kernel)))) (fun j hj => ?_) hA
  exact (by
    match j, hj with
    | 0, _ => exact va_eqt (hs _ (List.mem_of_getElem? (i := 22) (by decide +kernel)))
    | 1, _ => exact va_eqt (hs _ (List.mem_of_getElem? (i := 23) (by decide +kernel)))
    | 2, _ => exact va_eqt (hs _ (List.mem_of_getElem? (i := 24) (by decide +kernel)))
    | 3, _ => exact va_eqt (hs _ (List.mem_of_getElem? (i := 25) (by decide +kernel)))
    | 4, _ => exact va_eqt (hs _ (List.mem_of_getElem? (i := 26) (by decide +kernel)))
    | 5, _ => exact va_eqt (hs _ (List.mem_of_getElem? (i := 27) (by decide +kernel)))
    | 6, _ => exact va_eqt (hs _ (List.mem_of_getElem? (i := 28) (by decide +kernel)))
    | j + 7, hj => exact absurd hj (by omega))
theorem lb_MOST {args : Array Value} {s : State} {A : Nat → Prop} (hs : ∀ c ∈ flatC (Jvm.Cond.and given_1 narrow_1), c.before args s = true) (hA : ∀ a : Nat, a < s.heap.size → ¬ A a) : ∃ t : Nat, (Term.static "FlapDamper" "MOST" "[I").eval args s none [] s = some (.ref t) ∧ va_T .int t 7 (fun j => .int (fd_most.getD j 0)) A s s.heap := by
  refine va_Tof (by decide) (hs _ (List.mem_of_getElem? (i := 30) (by decide +kernel))) (va_eqt (hs _ (List.mem_of_getElem? (i := 31) (by decide +kernel)))) (fun j hj => ?_) hA
  exact (by
    match j, hj with
    | 0, _ => exact va_eqt (hs _ (List.mem_of_getElem? (i := 32) (by decide +kernel)))
    | 1, _ => exact va_eqt (hs _ (List.mem_of_getElem? (i := 33) (by decide +kernel)))
    | 2, _ => exact va_eqt (hs _ (List.mem_of_getElem? (i := 34) (by decide +kernel)))
    | 3, _ => exact va_eqt (hs _ (List.mem_of_getElem? (i := 35) (by decide +kernel)))
    | 4, _ => exact va_eqt (hs _ (List.mem_of_getElem? (i := 36) (by decide +kernel)))
    | 5, _ => exact va_eqt (hs _ (List.mem_of_getElem? (i := 37) (by decide +kernel)))
    | 6, _ => exact va_eqt (hs _ (List.mem_of_getElem? (i := 38) (by decide +kernel)))
    | j + 7, hj => exact absurd hj (by omega))
theorem lb_ROW {args : Array Value} {s : State} {A : Nat → Prop} (hs : ∀ c ∈ flatC (Jvm.Cond.and given_1 narrow_1), c.before args s = true) (hA : ∀ a : Nat, a < s.heap.size → ¬ A a) : ∃ t : Nat, (Term.static "FlapDamper" "ROW" "[I").eval args s none [] s = some (.ref t) ∧ va_T .int t 8 (fun j => .int (fd_row.getD j 0)) A s s.heap := by
  refine va_Tof (by decide) (hs _ (List.mem_of_getElem? (i := 40) (by decide +kernel))) (va_eqt (hs _ (List.mem_of_getElem? (i := 41) (by decide +kernel)))) (fun j hj => ?_) hA
  exact (by
    match j, hj with
    | 0, _ => exact va_eqt (hs _ (List.mem_of_getElem? (i := 42) (by decide +kernel)))
    | 1, _ => exact va_eqt (hs _ (List.mem_of_getElem? (i := 43) (by decide +kernel)))
    | 2, _ => exact va_eqt (hs _ (List.mem_of_getElem? (i := 44) (by decide +kernel)))
    | 3, _ => exact va_eqt (hs _ (List.mem_of_getElem? (i := 45) (by decide +kernel)))
    | 4, _ => exact va_eqt (hs _ (List.mem_of_getElem? (i := 46) (by decide +kernel)))
    | 5, _ => exact va_eqt (hs _ (List.mem_of_getElem? (i := 47) (by decide +kernel)))
    | 6, _ => exact va_eqt (hs _ (List.mem_of_getElem? (i := 48) (by decide +kernel)))
    | 7, _ => exact va_eqt (hs _ (List.mem_of_getElem? (i := 49) (by decide +kernel)))
    | j + 8, hj => exact absurd hj (by omega))
theorem lb_AT_FIRST {args : Array Value} {s : State} {A : Nat → Prop} (hs : ∀ c ∈ flatC (Jvm.Cond.and given_1 narrow_1), c.before args s = true) (hA : ∀ a : Nat, a < s.heap.size → ¬ A a) : ∃ t : Nat, (Term.static "FlapDamper" "AT_FIRST" "[I").eval args s none [] s = some (.ref t) ∧ va_T .int t 7 (fun j => .int (kc_first.getD j 0)) A s s.heap := by
  refine va_Tof (by decide) (hs _ (List.mem_of_getElem? (i := 5) (by decide +kernel))) (va_eqt (hs _ (List.mem_of_getElem? (i := 6) (by decide +kernel)))) (fun j hj => ?_) hA
  exact (by
    match j, hj with
    | 0, _ => exact va_eqt (hs _ (List.mem_of_getElem? (i := 7) (by decide +kernel)))
    | 1, _ => exact va_eqt (hs _ (List.mem_of_getElem? (i := 8) (by decide +kernel)))
    | 2, _ => exact va_eqt (hs _ (List.mem_of_getElem? (i := 9) (by decide +kernel)))
    | 3, _ => exact va_eqt (hs _ (List.mem_of_getElem? (i := 10) (by decide +kernel)))
    | 4, _ => exact va_eqt (hs _ (List.mem_of_getElem? (i := 11) (by decide +kernel)))
    | 5, _ => exact va_eqt (hs _ (List.mem_of_getElem? (i := 12) (by decide +kernel)))
    | 6, _ => exact va_eqt (hs _ (List.mem_of_getElem? (i := 13) (by decide +kernel)))
    | j + 7, hj => exact absurd hj (by omega))
theorem lb_F {args : Array Value} {s : State} {A : Nat → Prop} (hs : ∀ c ∈ flatC (Jvm.Cond.and given_1 narrow_1), c.before args s = true) (hA : ∀ a : Nat, a < s.heap.size → ¬ A a) : ∃ t : Nat, (Term.static "FlapDamper" "AT_FIRST" "[I").eval args s none [] s = some (.ref t) ∧ kc_F t A s s.heap := by
  obtain ⟨t, ht, cell, h1, h2, h3, h4, h5, h6, h7⟩ := lb_AT_FIRST hs hA
  obtain ⟨a, c0, cell2, k0, x1, x2, x3, x4, x5, x6, -⟩ := Cond.exactly_spec (args := args) (first := s) (o := none) (s := s) (idx := []) (t := .static "FlapDamper" "AT_FIRST" "[I") (cls := "[I") (hs _ (List.mem_of_getElem? (i := 130) (by decide +kernel)))
  obtain ⟨a3, cell3, y1, y2, y3⟩ := lb_len (tm := .static "FlapDamper" "AT_FIRST" "[I") (N := 7) (by decide) (va_eqt (hs _ (List.mem_of_getElem? (i := 6) (by decide +kernel))))
  cases ht.symm.trans x1
  cases ht.symm.trans y1
  cases h1.symm.trans x3
  obtain ⟨w1, -⟩ := State.arrayAt?_spec y2
  cases h1.symm.trans w1
  refine ⟨t, ht, cell, h1, by rw [x6]; exact x2, h2.1, h3, ?_, h7⟩
  apply Array.ext
  · rw [y3, arrV_size]
  · intro i hi1 hi2
    have hi : i < 7 := by rw [← y3]; exact hi1
    have e1 := h6 i hi
    have e2 := arrV_read cell.cls (fun j => Value.int (kc_first.getD j 0)) hi
    rw [Array.getElem?_eq_getElem hi1] at e1
    rw [Array.getElem?_eq_getElem hi2] at e2
    exact (Option.some.inj e1).trans (Option.some.inj e2).symm
theorem lb_N1 {args : Array Value} {s : State} (hts : ∀ w ∈ lw_tbl, w.before args s = true) : va_Nw kc_N1 s := va_Nw.of rfl (hts kc_N1 (List.mem_append_right _ (List.mem_of_getElem? (i := 26) (by decide +kernel))))
theorem lb_N2 {args : Array Value} {s : State} (hts : ∀ w ∈ lw_tbl, w.before args s = true) : va_Nw kc_N2 s := va_Nw.of rfl (hts kc_N2 (List.mem_append_right _ (List.mem_of_getElem? (i := 47) (by decide +kernel))))
theorem lb_N3 {args : Array Value} {s : State} (hts : ∀ w ∈ lw_tbl, w.before args s = true) : va_Nw kc_N3 s := va_Nw.of rfl (hts kc_N3 (List.mem_append_right _ (List.mem_of_getElem? (i := 75) (by decide +kernel))))
theorem lb_N4 {args : Array Value} {s : State} (hts : ∀ w ∈ lw_tbl, w.before args s = true) : va_Nw kc_N4 s := va_Nw.of rfl (hts kc_N4 (List.mem_append_right _ (List.mem_of_getElem? (i := 127) (by decide +kernel))))
theorem lb_N5 {args : Array Value} {s : State} (hts : ∀ w ∈ lw_tbl, w.before args s = true) : va_Nw kc_N5 s := va_Nw.of rfl (hts kc_N5 (List.mem_append_right _ (List.mem_of_getElem? (i := 51) (by decide +kernel))))
theorem lb_N6 {args : Array Value} {s : State} (hts : ∀ w ∈ lw_tbl, w.before args s = true) : va_Nw kc_N6 s := va_Nw.of rfl (hts kc_N6 (List.mem_append_right _ (List.mem_of_getElem? (i := 58) (by decide +kernel))))
theorem lb_M1 {args : Array Value} {s : State} (hts : ∀ w ∈ lw_tbl, w.before args s = true) : va_Nw fd_N1 s := va_Nw.of rfl (hts fd_N1 (List.mem_append_right _ (List.mem_of_getElem? (i := 375) (by decide +kernel))))
theorem lb_M2 {args : Array Value} {s : State} (hts : ∀ w ∈ lw_tbl, w.before args s = true) : va_Nw fd_N2 s := va_Nw.of rfl (hts fd_N2 (List.mem_append_right _ (List.mem_of_getElem? (i := 521) (by decide +kernel))))
theorem lb_M3 {args : Array Value} {s : State} (hts : ∀ w ∈ lw_tbl, w.before args s = true) : va_Nw fd_N3 s := va_Nw.of rfl (hts fd_N3 (List.mem_append_right _ (List.mem_of_getElem? (i := 440) (by decide +kernel))))
theorem lb_M4 {args : Array Value} {s : State} (hts : ∀ w ∈ lw_tbl, w.before args s = true) : va_Nw fd_N4 s := va_Nw.of rfl (hts fd_N4 (List.mem_append_right _ (List.mem_of_getElem? (i := 392) (by decide +kernel))))
theorem lb_kZ {args : Array Value} {s : State} {A : Nat → Prop} (hts : ∀ w ∈ lw_tbl, w.before args s = true) (hs : ∀ c ∈ flatC (Jvm.Cond.and given_1 narrow_1), c.before args s = true) (hA : ∀ a : Nat, a < s.heap.size → ¬ A a) : ∃ a0 : Nat, kc_Z a0 A s s.heap := by
  obtain ⟨t, ht, hF⟩ := lb_F hs hA
  exact ⟨t, ⟨lb_N1 hts, lb_N2 hts, lb_N3 hts, lb_N4 hts, lb_N5 hts, lb_N6 hts⟩, va_AO.of (hts (Cond.arrayOver (.object "FlapDamper$RouteRecord")) (List.mem_append_right _ (List.mem_of_getElem? (i := 73) (by decide +kernel)))), va_Zof (hts (Cond.laysStatic "FlapDamper" "AT_FIRST" "[I") (List.mem_append_right _ (List.mem_of_getElem? (i := 52) (by decide +kernel)))) (lb_T hts _ kn_X6) ht hA, hF⟩
def lb_tm (i : Nat) : Term := .string "FlapDamper$Text" (57 + 2 * i)
theorem lb_ex {args : Array Value} {s : State} (hs : ∀ c ∈ flatC (Jvm.Cond.and given_1 narrow_1), c.before args s = true) (i : Nat) (hi : i < 7) : (Cond.exactly (lb_tm i) "java/lang/String").before args s = true :=
  (by
    match i, hi with
    | 0, _ => exact (hs _ (List.mem_of_getElem? (i := 50) (by decide +kernel)))
    | 1, _ => exact (hs _ (List.mem_of_getElem? (i := 58) (by decide +kernel)))
    | 2, _ => exact (hs _ (List.mem_of_getElem? (i := 67) (by decide +kernel)))
    | 3, _ => exact (hs _ (List.mem_of_getElem? (i := 77) (by decide +kernel)))
    | 4, _ => exact (hs _ (List.mem_of_getElem? (i := 88) (by decide +kernel)))
    | 5, _ => exact (hs _ (List.mem_of_getElem? (i := 100) (by decide +kernel)))
    | 6, _ => exact (hs _ (List.mem_of_getElem? (i := 113) (by decide +kernel)))
    | i + 7, hi => exact absurd hi (by omega))
theorem lb_co {args : Array Value} {s : State} (hs : ∀ c ∈ flatC (Jvm.Cond.and given_1 narrow_1), c.before args s = true) (i : Nat) (hi : i < 7) : (Cond.eq (.field (lb_tm i) "java/lang/String" "coder" "B") (.int 0)).before args s = true :=
  (by
    match i, hi with
    | 0, _ => exact (hs _ (List.mem_of_getElem? (i := 51) (by decide +kernel)))
    | 1, _ => exact (hs _ (List.mem_of_getElem? (i := 59) (by decide +kernel)))
    | 2, _ => exact (hs _ (List.mem_of_getElem? (i := 68) (by decide +kernel)))
    | 3, _ => exact (hs _ (List.mem_of_getElem? (i := 78) (by decide +kernel)))
    | 4, _ => exact (hs _ (List.mem_of_getElem? (i := 89) (by decide +kernel)))
    | 5, _ => exact (hs _ (List.mem_of_getElem? (i := 101) (by decide +kernel)))
    | 6, _ => exact (hs _ (List.mem_of_getElem? (i := 114) (by decide +kernel)))
    | i + 7, hi => exact absurd hi (by omega))
theorem lb_ar {args : Array Value} {s : State} (hs : ∀ c ∈ flatC (Jvm.Cond.and given_1 narrow_1), c.before args s = true) (i : Nat) (hi : i < 7) : (Cond.arrayOf (.field (lb_tm i) "java/lang/String" "value" "[B") .byte).before args s = true :=
  (by
    match i, hi with
    | 0, _ => exact (hs _ (List.mem_of_getElem? (i := 52) (by decide +kernel)))
    | 1, _ => exact (hs _ (List.mem_of_getElem? (i := 60) (by decide +kernel)))
    | 2, _ => exact (hs _ (List.mem_of_getElem? (i := 69) (by decide +kernel)))
    | 3, _ => exact (hs _ (List.mem_of_getElem? (i := 79) (by decide +kernel)))
    | 4, _ => exact (hs _ (List.mem_of_getElem? (i := 90) (by decide +kernel)))
    | 5, _ => exact (hs _ (List.mem_of_getElem? (i := 102) (by decide +kernel)))
    | 6, _ => exact (hs _ (List.mem_of_getElem? (i := 115) (by decide +kernel)))
    | i + 7, hi => exact absurd hi (by omega))
theorem lb_le {args : Array Value} {s : State} (hs : ∀ c ∈ flatC (Jvm.Cond.and given_1 narrow_1), c.before args s = true) (i : Nat) (hi : i < 7) : (Cond.eq (.length (.field (lb_tm i) "java/lang/String" "value" "[B")) (.int (Int32.ofNat (fd_slen.getD i 0)))).before args s = true :=
  (by
    match i, hi with
    | 0, _ => exact (hs _ (List.mem_of_getElem? (i := 53) (by decide +kernel)))
    | 1, _ => exact (hs _ (List.mem_of_getElem? (i := 61) (by decide +kernel)))
    | 2, _ => exact (hs _ (List.mem_of_getElem? (i := 70) (by decide +kernel)))
    | 3, _ => exact (hs _ (List.mem_of_getElem? (i := 80) (by decide +kernel)))
    | 4, _ => exact (hs _ (List.mem_of_getElem? (i := 91) (by decide +kernel)))
    | 5, _ => exact (hs _ (List.mem_of_getElem? (i := 103) (by decide +kernel)))
    | 6, _ => exact (hs _ (List.mem_of_getElem? (i := 116) (by decide +kernel)))
    | i + 7, hi => exact absurd hi (by omega))
theorem lb_el {args : Array Value} {s : State} (hs : ∀ c ∈ flatC (Jvm.Cond.and given_1 narrow_1), c.before args s = true) (i : Nat) (hi : i < 7) (j : Nat) (hj : j < fd_slen.getD i 0) : (Cond.eq (.elem (.field (lb_tm i) "java/lang/String" "value" "[B") (.int (Int32.ofNat j))) (.int ((fd_sbyt.getD i []).getD j 0))).before args s = true := by
  match i, hi with
  | 0, _ =>
    match j, hj with
    | 0, _ => exact (hs _ (List.mem_of_getElem? (i := 54) (by decide +kernel)))
    | 1, _ => exact (hs _ (List.mem_of_getElem? (i := 55) (by decide +kernel)))
    | 2, _ => exact (hs _ (List.mem_of_getElem? (i := 56) (by decide +kernel)))
    | 3, _ => exact (hs _ (List.mem_of_getElem? (i := 57) (by decide +kernel)))
    | j + 4, hj => exact absurd hj (by show ¬ _ < 4; omega)
  | 1, _ =>
    match j, hj with
    | 0, _ => exact (hs _ (List.mem_of_getElem? (i := 62) (by decide +kernel)))
    | 1, _ => exact (hs _ (List.mem_of_getElem? (i := 63) (by decide +kernel)))
    | 2, _ => exact (hs _ (List.mem_of_getElem? (i := 64) (by decide +kernel)))
    | 3, _ => exact (hs _ (List.mem_of_getElem? (i := 65) (by decide +kernel)))
    | j + 4, hj => exact absurd hj (by show ¬ _ < 4; omega)
  | 2, _ =>
    match j, hj with
    | 0, _ => exact (hs _ (List.mem_of_getElem? (i := 71) (by decide +kernel)))
    | 1, _ => exact (hs _ (List.mem_of_getElem? (i := 72) (by decide +kernel)))
    | 2, _ => exact (hs _ (List.mem_of_getElem? (i := 73) (by decide +kernel)))
    | 3, _ => exact (hs _ (List.mem_of_getElem? (i := 74) (by decide +kernel)))
    | j + 4, hj => exact absurd hj (by show ¬ _ < 4; omega)
  | 3, _ =>
    match j, hj with
    | 0, _ => exact (hs _ (List.mem_of_getElem? (i := 81) (by decide +kernel)))
    | 1, _ => exact (hs _ (List.mem_of_getElem? (i := 82) (by decide +kernel)))
    | 2, _ => exact (hs _ (List.mem_of_getElem? (i := 83) (by decide +kernel)))
    | 3, _ => exact (hs _ (List.mem_of_getElem? (i := 84) (by decide +kernel)))
    | j + 4, hj => exact absurd hj (by show ¬ _ < 4; omega)
  | 4, _ =>
    match j, hj with
    | 0, _ => exact (hs _ (List.mem_of_getElem? (i := 92) (by decide +kernel)))
    | 1, _ => exact (hs _ (List.mem_of_getElem? (i := 93) (by decide +kernel)))
    | 2, _ => exact (hs _ (List.mem_of_getElem? (i := 94) (by decide +kernel)))
    | 3, _ => exact (hs _ (List.mem_of_getElem? (i := 95) (by decide +kernel)))
    | j + 4, hj => exact absurd hj (by show ¬ _ < 4; omega)
  | 5, _ =>
    match j, hj with
    | 0, _ => exact (hs _ (List.mem_of_getElem? (i := 104) (by decide +kernel)))
    | 1, _ => exact (hs _ (List.mem_of_getElem? (i := 105) (by decide +kernel)))
    | 2, _ => exact (hs _ (List.mem_of_getElem? (i := 106) (by decide +kernel)))
    | 3, _ => exact (hs _ (List.mem_of_getElem? (i := 107) (by decide +kernel)))
    | j + 4, hj => exact absurd hj (by show ¬ _ < 4; omega)
  | 6, _ =>
    match j, hj with
    | 0, _ => exact (hs _ (List.mem_of_getElem? (i := 117) (by decide +kernel)))
    | 1, _ => exact (hs _ (List.mem_of_getElem? (i := 118) (by decide +kernel)))
    | 2, _ => exact (hs _ (List.mem_of_getElem? (i := 119) (by decide +kernel)))
    | j + 3, hj => exact absurd hj (by show ¬ _ < 3; omega)
  | i + 7, hi => exact absurd hi (by omega)
theorem lb_ne {args : Array Value} {s : State} (hs : ∀ c ∈ flatC (Jvm.Cond.and given_1 narrow_1), c.before args s = true) (i j : Nat) (hi : i < 7) (hj : j < 7) (hij : i ≠ j) : (Cond.not (Cond.eq (lb_tm i) (lb_tm j))).before args s = true ∨ (Cond.not (Cond.eq (lb_tm j) (lb_tm i))).before args s = true := by
  match i, hi with
  | 0, _ =>
    match j, hj, hij with
    | 0, _, h => exact absurd rfl h
    | 1, _, _ => exact Or.inl (hs _ (List.mem_of_getElem? (i := 66) (by decide +kernel)))
    | 2, _, _ => exact Or.inl (hs _ (List.mem_of_getElem? (i := 75) (by decide +kernel)))
    | 3, _, _ => exact Or.inl (hs _ (List.mem_of_getElem? (i := 85) (by decide +kernel)))
    | 4, _, _ => exact Or.inl (hs _ (List.mem_of_getElem? (i := 96) (by decide +kernel)))
    | 5, _, _ => exact Or.inl (hs _ (List.mem_of_getElem? (i := 108) (by decide +kernel)))
    | 6, _, _ => exact Or.inl (hs _ (List.mem_of_getElem? (i := 120) (by decide +kernel)))
    | j + 7, hj, _ => exact absurd hj (by omega)
  | 1, _ =>
    match j, hj, hij with
    | 0, _, _ => exact Or.inr (hs _ (List.mem_of_getElem? (i := 66) (by decide +kernel)))
    | 1, _, h => exact absurd rfl h
    | 2, _, _ => exact Or.inl (hs _ (List.mem_of_getElem? (i := 76) (by decide +kernel)))
    | 3, _, _ => exact Or.inl (hs _ (List.mem_of_getElem? (i := 86) (by decide +kernel)))
    | 4, _, _ => exact Or.inl (hs _ (List.mem_of_getElem? (i := 97) (by decide +kernel)))
    | 5, _, _ => exact Or.inl (hs _ (List.mem_of_getElem? (i := 109) (by decide +kernel)))
    | 6, _, _ => exact Or.inl (hs _ (List.mem_of_getElem? (i := 121) (by decide +kernel)))
    | j + 7, hj, _ => exact absurd hj (by omega)
  | 2, _ =>
    match j, hj, hij with
    | 0, _, _ => exact Or.inr (hs _ (List.mem_of_getElem? (i := 75) (by decide +kernel)))
    | 1, _, _ => exact Or.inr (hs _ (List.mem_of_getElem? (i := 76) (by decide +kernel)))
    | 2, _, h => exact absurd rfl h
    | 3, _, _ => exact Or.inl (hs _ (List.mem_of_getElem? (i := 87) (by decide +kernel)))
    | 4, _, _ => exact Or.inl (hs _ (List.mem_of_getElem? (i := 98) (by decide +kernel)))
    | 5, _, _ => exact Or.inl (hs _ (List.mem_of_getElem? (i := 110) (by decide +kernel)))
    | 6, _, _ => exact Or.inl (hs _ (List.mem_of_getElem? (i := 122) (by decide +kernel)))
    | j + 7, hj, _ => exact absurd hj (by omega)
  | 3, _ =>
    match j, hj, hij with
    | 0, _, _ => exact Or.inr (hs _ (List.mem_of_getElem? (i := 85) (by decide +kernel)))
    | 1, _, _ => exact Or.inr (hs _ (List.mem_of_getElem? (i := 86) (by decide +kernel)))
    | 2, _, _ => exact Or.inr (hs _ (List.mem_of_getElem? (i := 87) (by decide +kernel)))
    | 3, _, h => exact absurd rfl h
    | 4, _, _ => exact Or.inl (hs _ (List.mem_of_getElem? (i := 99) (by decide +kernel)))
    | 5, _, _ => exact Or.inl (hs _ (List.mem_of_getElem? (i := 111) (by decide +kernel)))
    | 6, _, _ => exact Or.inl (hs _ (List.mem_of_getElem? (i := 123) (by decide +kernel)))
    | j + 7, hj, _ => exact absurd hj (by omega)
  | 4, _ =>
    match j, hj, hij with
    | 0, _, _ => exact Or.inr (hs _ (List.mem_of_getElem? (i := 96) (by decide +kernel)))
    | 1, _, _ => exact Or.inr (hs _ (List.mem_of_getElem? (i := 97) (by decide +kernel)))
    | 2, _, _ => exact Or.inr (hs _ (List.mem_of_getElem? (i := 98) (by decide +kernel)))
    | 3, _, _ => exact Or.inr (hs _ (List.mem_of_getElem? (i := 99) (by decide +kernel)))
    | 4, _, h => exact absurd rfl h
    | 5, _, _ => exact Or.inl (hs _ (List.mem_of_getElem? (i := 112) (by decide +kernel)))
    | 6, _, _ => exact Or.inl (hs _ (List.mem_of_getElem? (i := 124) (by decide +kernel)))
    | j + 7, hj, _ => exact absurd hj (by omega)
  | 5, _ =>
    match j, hj, hij with
    | 0, _, _ => exact Or.inr (hs _ (List.mem_of_getElem? (i := 108) (by decide +kernel)))
    | 1, _, _ => exact Or.inr (hs _ (List.mem_of_getElem? (i := 109) (by decide +kernel)))
    | 2, _, _ => exact Or.inr (hs _ (List.mem_of_getElem? (i := 110) (by decide +kernel)))
    | 3, _, _ => exact Or.inr (hs _ (List.mem_of_getElem? (i := 111) (by decide +kernel)))
    | 4, _, _ => exact Or.inr (hs _ (List.mem_of_getElem? (i := 112) (by decide +kernel)))
    | 5, _, h => exact absurd rfl h
    | 6, _, _ => exact Or.inl (hs _ (List.mem_of_getElem? (i := 125) (by decide +kernel)))
    | j + 7, hj, _ => exact absurd hj (by omega)
  | 6, _ =>
    match j, hj, hij with
    | 0, _, _ => exact Or.inr (hs _ (List.mem_of_getElem? (i := 120) (by decide +kernel)))
    | 1, _, _ => exact Or.inr (hs _ (List.mem_of_getElem? (i := 121) (by decide +kernel)))
    | 2, _, _ => exact Or.inr (hs _ (List.mem_of_getElem? (i := 122) (by decide +kernel)))
    | 3, _, _ => exact Or.inr (hs _ (List.mem_of_getElem? (i := 123) (by decide +kernel)))
    | 4, _, _ => exact Or.inr (hs _ (List.mem_of_getElem? (i := 124) (by decide +kernel)))
    | 5, _, _ => exact Or.inr (hs _ (List.mem_of_getElem? (i := 125) (by decide +kernel)))
    | 6, _, h => exact absurd rfl h
    | j + 7, hj, _ => exact absurd hj (by omega)
  | i + 7, hi => exact absurd hi (by omega)
theorem lb_sr {args : Array Value} {s : State} (hts : ∀ w ∈ lw_tbl, w.before args s = true) (i : Nat) (hi : i < 7) : (Cond.stringRef "FlapDamper$Text" (57 + 2 * i) (fd_stx.getD i "")).before args s = true :=
  (by
    match i, hi with
    | 0, _ => exact hts _ (List.mem_append_right _ (List.mem_of_getElem? (i := 238) (by decide +kernel)))
    | 1, _ => exact hts _ (List.mem_append_right _ (List.mem_of_getElem? (i := 239) (by decide +kernel)))
    | 2, _ => exact hts _ (List.mem_append_right _ (List.mem_of_getElem? (i := 240) (by decide +kernel)))
    | 3, _ => exact hts _ (List.mem_append_right _ (List.mem_of_getElem? (i := 241) (by decide +kernel)))
    | 4, _ => exact hts _ (List.mem_append_right _ (List.mem_of_getElem? (i := 242) (by decide +kernel)))
    | 5, _ => exact hts _ (List.mem_append_right _ (List.mem_of_getElem? (i := 243) (by decide +kernel)))
    | 6, _ => exact hts _ (List.mem_append_right _ (List.mem_of_getElem? (i := 244) (by decide +kernel)))
    | i + 7, hi => exact absurd hi (by omega))
theorem lb_se {args : Array Value} {s : State} {own : String} {k a : Nat} (h : (Term.string own k).eval args s none [] s = some (.ref a)) : (Term.string own k).eval #[] s none [] s = some (.ref a) := h
theorem lb_Z {args : Array Value} {s : State} (hts : ∀ w ∈ lw_tbl, w.before args s = true) (hs : ∀ c ∈ flatC (Jvm.Cond.and given_1 narrow_1), c.before args s = true) : ∃ r : Nat → Nat, ∀ E : fd_E, (∀ k : Nat, 100 ≤ k → E.2.2 k = r k) → (∀ q : Nat, fd_A E q → s.heap.size ≤ q) → fd_Z E s s.heap := by
  have hA : ∀ a : Nat, a < s.heap.size → ¬ (fun q : Nat => s.heap.size ≤ q) a := fun a h => Nat.not_le.mpr h
  have h := lb_T hts
  obtain ⟨t0, l1, l2⟩ := lb_LEAST hs hA
  obtain ⟨t1, m1, m2⟩ := lb_MOST hs hA
  obtain ⟨t2, r1, r2⟩ := lb_ROW hs hA
  obtain ⟨adK, adV, hS, hE⟩ := vk_Sof (N := 7) (tm := lb_tm) (len := fd_slen) (byt := fd_sbyt) (by decide) (lb_ex hs) (lb_co hs) (lb_ar hs) (lb_le hs) (lb_el hs) (lb_ne hs) hA
  refine ⟨fun k => if k = 100 then t0 else if k = 101 then t1 else if k = 102 then t2 else if k < 117 then adK (k - 110) else adV (k - 120), fun E hk hAB => ?_⟩
  have e0 : E.2.2 100 = t0 := hk 100 (by omega)
  have e1 : E.2.2 101 = t1 := hk 101 (by omega)
  have e2 : E.2.2 102 = t2 := hk 102 (by omega)
  have eK : ∀ i : Nat, i < 7 → E.2.2 (110 + i) = adK i := by
    intro i hi
    rw [hk _ (by omega)]
    dsimp only
    rw [if_neg (by omega), if_neg (by omega), if_neg (by omega), if_pos (by omega), Nat.add_sub_cancel_left]
  have eV : ∀ i : Nat, i < 7 → E.2.2 (120 + i) = adV i := by
    intro i hi
    rw [hk _ (by omega)]
    dsimp only
    rw [if_neg (by omega), if_neg (by omega), if_neg (by omega), if_neg (by omega), Nat.add_sub_cancel_left]
  have hS2 := vk_S.narrow hS hAB
  refine ⟨⟨lb_M1 hts, lb_M2 hts, lb_M3 hts, lb_M4 hts⟩, ⟨?_, ?_⟩, ⟨?_, ?_⟩, ⟨?_, ?_⟩, ⟨?_, ?_⟩, ?_, ?_⟩
  · rw [e0]
    exact (va_Zof (hts (Cond.laysStatic "FlapDamper" "LEAST" "[I") (List.mem_append_right _ (List.mem_of_getElem? (i := 322) (by decide +kernel)))) (h _ kn_X6) l1 hA).narrow hAB
  · rw [e0]
    exact l2.narrow hAB
  · rw [e1]
    exact (va_Zof (hts (Cond.laysStatic "FlapDamper" "MOST" "[I") (List.mem_append_right _ (List.mem_of_getElem? (i := 324) (by decide +kernel)))) (h _ kn_X6) m1 hA).narrow hAB
  · rw [e1]
    exact m2.narrow hAB
  · rw [e2]
    exact (va_Zof (hts (Cond.laysStatic "FlapDamper" "ROW" "[I") (List.mem_append_right _ (List.mem_of_getElem? (i := 393) (by decide +kernel)))) (h _ kn_X6) r1 hA).narrow hAB
  · rw [e2]
    exact r2.narrow hAB
  · refine ⟨fun i hi => ?_, fun i j hi hj e => ?_⟩
    · dsimp only
      rw [eK i hi, eV i hi]
      exact hS2.1 i hi
    · dsimp only at e
      rw [eK i hi, eK j hj] at e
      exact hS2.2 i j hi hj e
  · intro i hi
    rw [eK i hi]
    exact vk_R.of (A := args) (lb_sr hts i hi) (hE i hi)
  · exact (va_Zof (hts (Cond.laysStatic "java/lang/String" "COMPACT_STRINGS" "Z") (List.mem_append_right _ (List.mem_of_getElem? (i := 258) (by decide +kernel)))) (hts (Cond.initialized "java/lang/String") (List.mem_append_right _ (List.mem_of_getElem? (i := 10) (by decide +kernel)))) (va_eqi (hs _ (List.mem_of_getElem? (i := 14) (by decide +kernel)))) hA).narrow hAB
  · exact (va_Zqof (hts (Cond.laysStatic "jdk/internal/util/Preconditions" "SIOOBE_FORMATTER" "Ljava/util/function/BiFunction;") (List.mem_append_right _ (List.mem_of_getElem? (i := 282) (by decide +kernel)))) (hts (Cond.initialized "jdk/internal/util/Preconditions") (List.mem_append_right _ (List.mem_of_getElem? (i := 12) (by decide +kernel)))) (hs _ (List.mem_of_getElem? (i := 15) (by decide +kernel))) hA).narrow hAB
