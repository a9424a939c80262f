theorem fd_h_put {S : fd_S} {k ci j : Nat} {v : Int32} (h : fd_h S) (hkd : fd_kd k = ci) (hj : j < (fd_cq ci).2.2) (hn : narrow (fd_fty ci j) (.int v) = .int v) : fd_h (fd_up S k (nI j) v) := by
  by_cases h3 : ci = 3
  · subst h3
    by_cases j3 : j = 3
    · subst j3
      have e : narrow .boolean (.int v) = .int v := hn
      have e2 : v &&& 1 = v := by
        have := e
        simp only [narrow, Value.int.injEq] at this
        exact this
      exact fd_h_up h (Or.inr (Or.inr (fd_and1 e2)))
    · refine fd_h_up h (Or.inr (Or.inl (fun z => j3 ?_)))
      have hj7 : j < 7 := hj
      exact (nI_eq (by omega) (by omega)).mp (show nI j = nI 3 from z)
  · exact fd_h_up h (Or.inl (by rw [hkd]; exact h3))
section FD
variable {p : Program} {l : Launch} {e : Env} {R : Room} {s : State} {m : MethodId} {args : Array Value} {below : List Frame} {meth : Method} {c : Code} {H : Heap} {locs : List Loc} {cells slots : Nat} {Q : State → Prop}
variable {cc : ByteArray} {pc : Nat} {ls : Array Slot} {rest : List Value} {own : String} {nL : Nat} {E : fd_E} {S : fd_S}
theorem fd_get (k ci j : Nat) (C : fd_C p s m args c own cc nL E) (hH : fd_H E S s H locs) (hk : k < 82) (hkd : fd_kd k = ci) (h8 : ci < 8) (hj : j < (fd_cq ci).2.2) {index : Nat} (hl : Cond.fieldLink own index ((fd_cq ci).2.1 j).1 ((fd_cq ci).2.1 j).2.1 ((fd_cq ci).2.1 j).2.2.1 ∈ fd_T) {v : Value} (hv : (fd_fs E S k ci)[j]? = some v) (hdg : decode cc pc = .ok (.getfield index, 3))
    (kk : W p l e R s m args below meth c H locs cells slots Q (F0 m (pc + 3) ls (v :: rest))) : W p l e R s m args below meth c H locs cells slots Q (F0 m pc ls (.ref (E.2.2 k) :: rest)) := by
  obtain ⟨hx, hb, -, hown, hts, hK, -⟩ := C
  exact va_get (C := (fd_cq ci).1) (T := (fd_cq ci).2.1) (N := (fd_cq ci).2.2) hx hb hts (fd_inc h8) hown hK hH.1 k (fd_ws_o E S hk hkd h8) (fd_CL_at h8) j hj (hts _ hl) (fun _ h => h) hv hdg kk
theorem fd_put (k ci j : Nat) (jj : Int32) (C : fd_C p s m args c own cc nL E) (hH : fd_H E S s H locs) (hk : k < 82) (hkd : fd_kd k = ci) (h8 : ci < 8) (hj : j < (fd_cq ci).2.2) {index : Nat} (hl : Cond.fieldLink own index ((fd_cq ci).2.1 j).1 ((fd_cq ci).2.1 j).2.1 ((fd_cq ci).2.1 j).2.2.1 ∈ fd_T) (hI : fd_isI ci j = true) (hfin : ((fd_cq ci).2.1 j).2.2.2 = false) {v : Int32} (hn : narrow (fd_fty ci j) (.int v) = .int v) (hfit : fits (fd_fty ci j) (.int v) = true) (hjj : nI j = jj) (hln : j < (fd_fs E S k ci).length) (hdg : decode cc pc = .ok (.putfield index, 3))
    (kk : ∀ (H1 : Heap) (locs1 : List Loc), fd_H E (fd_up S k jj v) s H1 locs1 → W p l e R s m args below meth c H1 locs1 cells slots Q (F0 m (pc + 3) ls rest)) : W p l e R s m args below meth c H locs cells slots Q (F0 m pc ls (.int v :: .ref (E.2.2 k) :: rest)) := by
  obtain ⟨hx, hb, -, hown, hts, hK, -⟩ := C
  subst hjj
  refine va_put (C := (fd_cq ci).1) (T := (fd_cq ci).2.1) (N := (fd_cq ci).2.2) hx hb hts (fd_inc h8) (fd_fty ci) (fd_fty_ok h8) (fd_fnm h8) hown hK hH.1 hH.2.1 hH.2.2.1 k (fd_ws_o E S hk hkd h8) (fd_CL_at h8) j hj (hts _ hl) (fun _ h => h) hfin (fd_fty_ok h8 j hj) hn hfit hln hdg (fun H1 locs1 hP hD hS => ?_)
  have e1 : (fd_ws E S).set k (E.2.2 k, .inr (ci, (fd_fs E S k ci).set j (.int v))) = fd_ws E (fd_up S k (nI j) v) := by
    refine fd_ws_set hk (fun a ha => fd_up_ne ha) ?_
    rw [fd_fs_set E S k v ci j hI]
    unfold fd_ce fd_ceK
    rw [hkd, if_neg (by omega), if_neg (by omega), if_neg (by omega)]
  rw [e1] at hP hD
  exact kk H1 locs1 ⟨hP, hD, hS, fd_h_put hH.2.2.2 hkd hj hn⟩
theorem fd_ws_i (E : fd_E) (S : fd_S) {k : Nat} (hk : k < 82) (hc : fd_kd k = 8) : (fd_ws E S)[k]? = some (E.2.2 k, .inl (E.2.1 0, fd_ln k, .inl (fun n => S k (fd_ix n)))) := by
  rw [fd_ws_at E S hk hc]
  rfl
theorem fd_ws_z (E : fd_E) (S : fd_S) {k : Nat} (hk : k < 82) (hc : fd_kd k = 9) : (fd_ws E S)[k]? = some (E.2.2 k, .inl (E.2.1 1, fd_ln k, .inl (fun n => S k (fd_ix n)))) := by
  rw [fd_ws_at E S hk hc]
  rfl
theorem fd_ws_r (E : fd_E) (S : fd_S) {k : Nat} (hk : k < 82) (hc : fd_kd k = 10) : (fd_ws E S)[k]? = some (E.2.2 k, .inl (E.2.1 2, fd_ln k, .inr (.inr (.inr (.inr (fun n => some (E.2.2 (fd_rc k (S k (fd_ix n)))))))))) := by
  rw [fd_ws_at E S hk hc]
  rfl
theorem fd_iald (k : Nat) (n : Int32) (C : fd_C p s m args c own cc nL E) (hH : fd_H E S s H locs) (hk : k < 82) (hkd : fd_kd k = 8) (hn : nI (fd_ln k) = n) {i : Int32} (hi : 0 ≤ i ∧ i < n) (hdg : decode cc pc = .ok (.iaload, 1))
    (kk : W p l e R s m args below meth c H locs cells slots Q (F0 m (pc + 1) ls (.int (S k i) :: rest))) : W p l e R s m args below meth c H locs cells slots Q (F0 m pc ls (.int i :: .ref (E.2.2 k) :: rest)) := by
  obtain ⟨hx, hb, -, hown, hts, hK, -⟩ := C
  subst hn
  refine va_iald hx hb hK hH.1 k 0 (fd_ws_i E S hk hkd) rfl (fd_in (fd_ln_lt k) hi) hdg ?_
  rw [fd_ix_of hi.1]
  exact kk
theorem fd_zald (k : Nat) (n : Int32) (C : fd_C p s m args c own cc nL E) (hH : fd_H E S s H locs) (hk : k < 82) (hkd : fd_kd k = 9) (hn : nI (fd_ln k) = n) {i : Int32} (hi : 0 ≤ i ∧ i < n) (hdg : decode cc pc = .ok (.baload, 1))
    (kk : W p l e R s m args below meth c H locs cells slots Q (F0 m (pc + 1) ls (.int (S k i) :: rest))) : W p l e R s m args below meth c H locs cells slots Q (F0 m pc ls (.int i :: .ref (E.2.2 k) :: rest)) := by
  obtain ⟨hx, hb, -, hown, hts, hK, -⟩ := C
  subst hn
  refine va_zald hx hb hK hH.1 k 1 (fd_ws_z E S hk hkd) rfl (fd_in (fd_ln_lt k) hi) hdg ?_
  rw [fd_ix_of hi.1]
  exact kk
theorem fd_aald (k : Nat) (n : Int32) (C : fd_C p s m args c own cc nL E) (hH : fd_H E S s H locs) (hk : k < 82) (hkd : fd_kd k = 10) (hn : nI (fd_ln k) = n) {i : Int32} (hi : 0 ≤ i ∧ i < n) (hdg : decode cc pc = .ok (.aaload, 1))
    (kk : W p l e R s m args below meth c H locs cells slots Q (F0 m (pc + 1) ls (.ref (E.2.2 (fd_rc k (S k i))) :: rest))) : W p l e R s m args below meth c H locs cells slots Q (F0 m pc ls (.int i :: .ref (E.2.2 k) :: rest)) := by
  obtain ⟨hx, hb, -, hown, hts, hK, -⟩ := C
  subst hn
  refine va_aldq hx hb hK hH.1 k 2 (fd_ws_r E S hk hkd) rfl (fd_in (fd_ln_lt k) hi) hdg ?_
  dsimp only [va_rf]
  rw [fd_ix_of hi.1]
  exact kk
theorem fd_iast (k : Nat) (n : Int32) (C : fd_C p s m args c own cc nL E) (hH : fd_H E S s H locs) (hk : k < 82) (hkd : fd_kd k = 8) (hn : nI (fd_ln k) = n) {i x : Int32} (hi : 0 ≤ i ∧ i < n) (hdg : decode cc pc = .ok (.iastore, 1))
    (kk : ∀ (H1 : Heap) (locs1 : List Loc), fd_H E (fd_up S k i x) s H1 locs1 → W p l e R s m args below meth c H1 locs1 cells slots Q (F0 m (pc + 1) ls rest)) : W p l e R s m args below meth c H locs cells slots Q (F0 m pc ls (.int x :: .int i :: .ref (E.2.2 k) :: rest)) := by
  obtain ⟨hx, hb, -, hown, hts, hK, -⟩ := C
  subst hn
  refine va_iast hx hb hK hH.1 hH.2.1 hH.2.2.1 k 0 (fd_ws_i E S hk hkd) rfl (fd_in (fd_ln_lt k) hi) hdg (fun H1 locs1 hP hD hS => ?_)
  rw [fd_upd S k x hi.1] at hP hD
  have e1 : (fd_ws E S).set k (E.2.2 k, .inl (E.2.1 0, fd_ln k, .inl (fun n => fd_up S k i x k (fd_ix n)))) = fd_ws E (fd_up S k i x) := by
    refine fd_ws_set hk (fun a ha => fd_up_ne ha) ?_
    unfold fd_ce fd_ceK
    rw [hkd]
    rfl
  rw [e1] at hP hD
  exact kk H1 locs1 ⟨hP, hD, hS, fd_h_up hH.2.2.2 (Or.inl (by rw [hkd]; decide))⟩
theorem fd_zast (k : Nat) (n : Int32) (C : fd_C p s m args c own cc nL E) (hH : fd_H E S s H locs) (hk : k < 82) (hkd : fd_kd k = 9) (hn : nI (fd_ln k) = n) {i x : Int32} (hi : 0 ≤ i ∧ i < n) (hz : vp_nar .boolean x = x) (hdg : decode cc pc = .ok (.bastore, 1))
    (kk : ∀ (H1 : Heap) (locs1 : List Loc), fd_H E (fd_up S k i x) s H1 locs1 → W p l e R s m args below meth c H1 locs1 cells slots Q (F0 m (pc + 1) ls rest)) : W p l e R s m args below meth c H locs cells slots Q (F0 m pc ls (.int x :: .int i :: .ref (E.2.2 k) :: rest)) := by
  obtain ⟨hx, hb, -, hown, hts, hK, -⟩ := C
  subst hn
  refine va_zast hx hb hK hH.1 hH.2.1 hH.2.2.1 k 1 (fd_ws_z E S hk hkd) rfl (fd_in (fd_ln_lt k) hi) hdg (fun H1 locs1 hP hD hS => ?_)
  rw [hz, fd_upd S k x hi.1] at hP hD
  have e1 : (fd_ws E S).set k (E.2.2 k, .inl (E.2.1 1, fd_ln k, .inl (fun n => fd_up S k i x k (fd_ix n)))) = fd_ws E (fd_up S k i x) := by
    refine fd_ws_set hk (fun a ha => fd_up_ne ha) ?_
    unfold fd_ce fd_ceK
    rw [hkd]
    rfl
  rw [e1] at hP hD
  exact kk H1 locs1 ⟨hP, hD, hS, fd_h_up hH.2.2.2 (Or.inl (by rw [hkd]; decide))⟩
/-- a row of a RecordList takes a record of the same State -/
theorem fd_aast (k : Nat) (n : Int32) (C : fd_C p s m args c own cc nL E) (hH : fd_H E S s H locs) (hk : k < 82) (hkd : fd_kd k = 10) (hn : nI (fd_ln k) = n) {i : Int32} {q : Nat} (hi : 0 ≤ i ∧ i < n) (hq : 23 * (k / 23) + 8 ≤ q ∧ q < 23 * (k / 23) + 14) (hq3 : fd_kd q = 3) (hq82 : q < 82) (hdg : decode cc pc = .ok (.aastore, 1))
    (kk : ∀ (H1 : Heap) (locs1 : List Loc), fd_H E (fd_up S k i (nI (q - (23 * (k / 23) + 8)))) s H1 locs1 → W p l e R s m args below meth c H1 locs1 cells slots Q (F0 m (pc + 1) ls rest)) : W p l e R s m args below meth c H locs cells slots Q (F0 m pc ls (.ref (E.2.2 q) :: .int i :: .ref (E.2.2 k) :: rest)) := by
  obtain ⟨hx, hb, -, hown, hts, hK, -⟩ := C
  subst hn
  refine va_astq hx hb hK hH.1 hH.2.1 hH.2.2.1 k 2 q 3 (r := fd_cq 3) (fd_ws_r E S hk hkd) rfl (fd_ws_o E S hq82 hq3 (by omega)) (fd_CL_at (by omega)) (fd_in (fd_ln_lt k) hi) hdg (fun H1 locs1 hP hD hS => ?_)
  have e1 : (fd_ws E S).set k (E.2.2 k, .inl (E.2.1 2, fd_ln k, .inr (.inr (.inr (.inr (va_up (fun n => some (E.2.2 (fd_rc k (S k (fd_ix n))))) i.toNatClampNeg (some (E.2.2 q)))))))) = fd_ws E (fd_up S k i (nI (q - (23 * (k / 23) + 8)))) := by
    refine fd_ws_set hk (fun a ha => fd_up_ne ha) ?_
    have e2 : va_up (fun n => some (E.2.2 (fd_rc k (S k (fd_ix n))))) i.toNatClampNeg (some (E.2.2 q)) = fun n => some (E.2.2 (fd_rc k (fd_up S k i (nI (q - (23 * (k / 23) + 8))) k (fd_ix n)))) := by
      funext n
      unfold va_up fd_up
      rw [if_pos rfl]
      by_cases hn : n = i.toNatClampNeg
      · rw [if_pos hn, if_pos ((fd_ix_eq hi.1).mpr hn)]
        unfold fd_rc
        rw [nI_clamp (by omega)]
        rw [show 23 * (k / 23) + 8 + (q - (23 * (k / 23) + 8)) = q by omega]
      · rw [if_neg hn, if_neg (fun q => hn ((fd_ix_eq hi.1).mp q))]
    rw [e2]
    unfold fd_ce fd_ceK
    rw [hkd]
    rfl
  rw [e1] at hP hD
  exact kk H1 locs1 ⟨hP, hD, hS, fd_h_up hH.2.2.2 (Or.inl (by rw [hkd]; decide))⟩
theorem fd_alen (k : Nat) (n : Int32) (C : fd_C p s m args c own cc nL E) (hH : fd_H E S s H locs) (hk : k < 82) (hkd : fd_kd k = 8) (hn : nI (fd_ln k) = n) (hdg : decode cc pc = .ok (.arraylength, 1))
    (kk : W p l e R s m args below meth c H locs cells slots Q (F0 m (pc + 1) ls (.int n :: rest))) : W p l e R s m args below meth c H locs cells slots Q (F0 m pc ls (.ref (E.2.2 k) :: rest)) := by
  obtain ⟨hx, hb, -, hown, hts, hK, -⟩ := C
  exact va_alen hx hb hK hH.1 k 0 (fd_ws_i E S hk hkd) rfl hn hdg kk
/-- System.arraycopy of ints: n places of cell k from sp on, to cell k' from dp on -/
def fd_cp (S : fd_S) (k k' : Nat) (sp dp n : Int32) : fd_S := fun a b => if a = k' then (if dp ≤ b ∧ b < dp + n then S k (sp + (b - dp)) else S a b) else S a b
theorem fd_cpy (S : fd_S) (k k' sp dp n : Nat) (h1 : sp + n < 2 ^ 30) (h2 : dp + n < 2 ^ 30) : va_cpy (fun n => S k (fd_ix n)) (fun n => S k' (fd_ix n)) sp dp n = fun j => fd_cp S k k' (nI sp) (nI dp) (nI n) k' (fd_ix j) := by
  funext j
  show (if dp ≤ j ∧ j < dp + n then S k (fd_ix (sp + (j - dp))) else S k' (fd_ix j)) = _
  unfold fd_cp
  rw [if_pos rfl]
  by_cases hj : j < 2147483648
  · have hjx : fd_ix j = nI j := by unfold fd_ix; rw [if_pos hj]
    by_cases hc : dp ≤ j ∧ j < dp + n
    · rw [if_pos hc, hjx, if_pos ⟨nI_le hc.1 (by omega), by rw [nI_add]; exact nI_lt hc.2 (by omega)⟩, pk_sub hc.1, nI_add]
      unfold fd_ix
      rw [if_pos (by omega)]
    · rw [if_neg hc, hjx, if_neg]
      rintro ⟨a, b⟩
      rw [nI_add] at b
      exact hc ⟨(nI_leI (by omega) (by omega)).mp a, (nI_ltI (by omega) (by omega)).mp b⟩
  · have hjx : fd_ix j = -1 := by unfold fd_ix; rw [if_neg hj]
    rw [if_neg (by omega), hjx, if_neg]
    rintro ⟨a, b⟩
    have h3 := Int32.le_iff_toInt_le.mp a
    rw [nI_toInt (by omega)] at h3
    have h4 : ((-1 : Int32).toInt) = -1 := by decide
    omega
theorem fd_copy (k k' sp dp n : Nat) (spI dpI nI' : Int32) (C : fd_C p s m args c own cc nL E) (hsz : ls.size = nL) (hH : fd_H E S s H locs) (hk : k < 82) (hkd : fd_kd k = 8) (hk' : k' < 82) (hkd' : fd_kd k' = 8) (e1 : nI sp = spI) (e2 : nI dp = dpI) (e3 : nI n = nI') (h4 : sp + n ≤ fd_ln k) (h5 : dp + n ≤ fd_ln k') (hs : fd_ln k < 1000 ∧ fd_ln k' < 1000)
    {index : Nat} (hl : Cond.methodLink own index arraycopyName ∈ fd_T) (hw : Cond.native arraycopyName ∈ fd_T ∧ Cond.static arraycopyName ∈ fd_T ∧ Cond.initialized "java/lang/System" ∈ fd_T) (hframes : 1 ≤ R.frames) (hlocals : (rest.map fun v => v.category).sum + (nativeFrameWords "java/lang/System" "arraycopy" 5 + 11) ≤ R.locals) (hdg : decode cc pc = .ok (.invokestatic index, 3))
    (kk : ∀ (H1 : Heap) (locs1 : List Loc), fd_H E (fd_cp S k k' spI dpI nI') s H1 locs1 → W p l e R s m args below meth c H1 locs1 cells slots Q (F0 m (pc + 3) ls rest)) : W p l e R s m args below meth c H locs cells slots Q (F0 m pc ls (.int nI' :: .int dpI :: .ref (E.2.2 k') :: .int spI :: .ref (E.2.2 k) :: rest)) := by
  obtain ⟨hx, hb, hml, hown, hts, hK, -⟩ := C
  subst e1 e2 e3
  have c1 : (nI sp).toNatClampNeg = sp := nI_clamp (by omega)
  have c2 : (nI dp).toNatClampNeg = dp := nI_clamp (by omega)
  have c3 : (nI n).toNatClampNeg = n := nI_clamp (by omega)
  refine va_copyi hx hb (hml.trans hsz.symm) hown (hts _ hl) (hts _ hw.1) (hts _ hw.2.1) (hts _ hw.2.2) hK hH.1 hH.2.1 hH.2.2.1 k k' 0 0 (ty := .int) (fd_ws_i E S hk hkd) (fd_ws_i E S hk' hkd') rfl rfl rfl (nI_pos (by omega)) (nI_pos (by omega)) (nI_pos (by omega)) (by rw [c1, c3]; exact h4) (by rw [c2, c3]; exact h5) (fun _ _ => rfl) hframes hlocals hdg (fun H1 locs1 hP hD hS => ?_)
  rw [c1, c2, c3, fd_cpy S k k' sp dp n (by omega) (by omega)] at hP hD
  have e1 : (fd_ws E S).set k' (E.2.2 k', .inl (E.2.1 0, fd_ln k', .inl (fun j => fd_cp S k k' (nI sp) (nI dp) (nI n) k' (fd_ix j)))) = fd_ws E (fd_cp S k k' (nI sp) (nI dp) (nI n)) := by
    refine fd_ws_set hk' (fun a ha => by funext b; simp [fd_cp, ha]) ?_
    unfold fd_ce fd_ceK
    rw [hkd']
    rfl
  rw [e1] at hP hD
  exact kk H1 locs1 ⟨hP, hD, hS, fun a ha => by have := hH.2.2.2 a ha; have e : a ≠ k' := (fun z => by rw [z, hkd'] at ha; cases ha); unfold fd_cp; rw [if_neg e]; exact this⟩
/-! static tables -/
theorem fd_tin {i n : Int32} {N : Nat} (hN : N < 2 ^ 31) (hn : nI N = n) (h : 0 ≤ i ∧ i < n) : vp_in i N := by
  subst hn
  exact fd_in hN h
theorem fd_gets (n : String) (q : Nat) (C : fd_C p s m args c own cc nL E) (hH : fd_H E S s H locs) (hz : va_Z "FlapDamper" n "[I" (.ref (E.2.2 q)) (fd_A E) s s.heap) {index : Nat} (hl : Cond.fieldLink own index "FlapDamper" n "[I" ∈ fd_T) (hdg : decode cc pc = .ok (.getstatic index, 3))
    (kk : W p l e R s m args below meth c H locs cells slots Q (F0 m (pc + 3) ls (.ref (E.2.2 q) :: rest))) : W p l e R s m args below meth c H locs cells slots Q (F0 m pc ls rest) := by
  obtain ⟨hx, hb, hml, hown, hts, hK, -⟩ := C
  exact va_gets hx hb hz hH.2.2.1 hown (hts _ hl) (fun _ h => h) hdg kk
theorem fd_getsRow (C : fd_C p s m args c "FlapDamper$Bounds" cc nL E) (hH : fd_H E S s H locs) (hdg : decode cc pc = .ok (.getstatic 23, 3))
    (kk : W p l e R s m args below meth c H locs cells slots Q (F0 m (pc + 3) ls (.ref (E.2.2 102) :: rest))) : W p l e R s m args below meth c H locs cells slots Q (F0 m pc ls rest) := by
  obtain ⟨hx, hb, hml, hown, hts, hK, hZ⟩ := C
  exact va_getsN hx hb hZ.2.2.2.1.1 hH.2.2.1 hown (va_Nw.use rfl hZ.1.2.2.2) (fun _ h => h) hdg kk
theorem fd_tld (t : Nat) (N : Nat) (n : Int32) (tl : List Int32) (C : fd_C p s m args c own cc nL E) (hH : fd_H E S s H locs) (hT : va_T .int (E.2.2 t) N (fun j => .int (tl.getD j 0)) (fd_A E) s s.heap) (hN : N < 2 ^ 31) (hn : nI N = n) {i : Int32} (hi : 0 ≤ i ∧ i < n) (hdg : decode cc pc = .ok (.iaload, 1))
    (kk : W p l e R s m args below meth c H locs cells slots Q (F0 m (pc + 1) ls (.int (fd_tl tl i) :: rest))) : W p l e R s m args below meth c H locs cells slots Q (F0 m pc ls (.int i :: .ref (E.2.2 t) :: rest)) := by
  obtain ⟨hx, hb, hml, hown, hts, hK, hZ⟩ := C
  exact va_ti hx hb hT hH.2.2.1 (fd_tin hN hn hi) rfl hdg kk
theorem fd_tln (t : Nat) (N : Nat) (n : Int32) (tl : List Int32) (C : fd_C p s m args c own cc nL E) (hH : fd_H E S s H locs) (hT : va_T .int (E.2.2 t) N (fun j => .int (tl.getD j 0)) (fd_A E) s s.heap) (hn : nI N = n) (hdg : decode cc pc = .ok (.arraylength, 1))
    (kk : W p l e R s m args below meth c H locs cells slots Q (F0 m (pc + 1) ls (.int n :: rest))) : W p l e R s m args below meth c H locs cells slots Q (F0 m pc ls (.ref (E.2.2 t) :: rest)) := by
  obtain ⟨hx, hb, hml, hown, hts, hK, hZ⟩ := C
  exact va_tlen hx hb hT hH.2.2.1 hn hdg kk
/-! returns -/
variable {v : Option Value}
theorem fd_iret (C : fd_C p s m args c own cc nL E) (hr : meth.sig.returnType = some .int) (hlk : meth.locks = false) (hH : fd_H E S s H locs) {x : Int32} (hdg : decode cc pc = .ok (.ireturn, 1)) : W p l e R s m args below meth c H locs 0 0 (MQ below (fd_Q E (some (.int x)) S) args s 0 0 (fd_A E)) (F0 m pc ls [.int x]) := by
  obtain ⟨hx, hb, hml, hown, hts, hK, hZ⟩ := C
  exact W.iret hx hb hr (fun t ht hW => ⟨⟨rfl, by rw [ht]; exact hH.1, hH.2.1, va_K.moved hW.alike hK, hH.2.2.2⟩, hH.2.2.1.F ht⟩) hH.2.2.1.2.2 hdg hlk
theorem fd_zret (ty : FieldType) (C : fd_C p s m args c own cc nL E) (hr : meth.sig.returnType = some ty) (hlk : meth.locks = false) (hH : fd_H E S s H locs) {x : Int32} (hn : narrow ty (.int x) = .int x) (hdg : decode cc pc = .ok (.ireturn, 1)) : W p l e R s m args below meth c H locs 0 0 (MQ below (fd_Q E (some (.int x)) S) args s 0 0 (fd_A E)) (F0 m pc ls [.int x]) := by
  obtain ⟨hx, hb, hml, hown, hts, hK, hZ⟩ := C
  exact W.zret hx hb hr hn (fun t ht hW => ⟨⟨rfl, by rw [ht]; exact hH.1, hH.2.1, va_K.moved hW.alike hK, hH.2.2.2⟩, hH.2.2.1.F ht⟩) hH.2.2.1.2.2 hdg hlk
theorem fd_vret (C : fd_C p s m args c own cc nL E) (hr : meth.sig.returnType = none) (hlk : meth.locks = false) (hH : fd_H E S s H locs) (hdg : decode cc pc = .ok (.return_, 1)) : W p l e R s m args below meth c H locs 0 0 (MQ below (fd_Q E none S) args s 0 0 (fd_A E)) (F0 m pc ls []) := by
  obtain ⟨hx, hb, hml, hown, hts, hK, hZ⟩ := C
  exact W.vret hx hb hr (fun t ht hW => ⟨⟨rfl, by rw [ht]; exact hH.1, hH.2.1, va_K.moved hW.alike hK, hH.2.2.2⟩, hH.2.2.1.F ht⟩) hH.2.2.1.2.2 hdg hlk
theorem fd_aret (n : String) (C : fd_C p s m args c own cc nL E) (hr : meth.sig.returnType = some (.object n)) (hlk : meth.locks = false) (hH : fd_H E S s H locs) {x : Value} (hv : x = .null ∨ ∃ a, x = .ref a) (hdg : decode cc pc = .ok (.areturn, 1)) : W p l e R s m args below meth c H locs 0 0 (MQ below (fd_Q E (some x) S) args s 0 0 (fd_A E)) (F0 m pc ls [x]) := by
  obtain ⟨hx, hb, hml, hown, hts, hK, hZ⟩ := C
  exact W.aret hx hb hr (Or.inl ⟨_, rfl⟩) hv (fun t ht hW => ⟨⟨rfl, by rw [ht]; exact hH.1, hH.2.1, va_K.moved hW.alike hK, hH.2.2.2⟩, hH.2.2.1.F ht⟩) hH.2.2.1.2.2 hdg hlk
end FD
