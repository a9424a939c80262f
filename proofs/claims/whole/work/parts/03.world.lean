/-! ===== THE WORLD: 82 cells at addresses E.2.2 k; what they hold is S k j (cell, place); the object graph is fixed but for the rows of a RecordList ===== -/
abbrev fd_E : Type := va_G × (Nat → ClassId) × (Nat → Nat)
abbrev fd_S : Type := Nat → Int32 → Int32
def fd_up (S : fd_S) (k : Nat) (j v : Int32) : fd_S := fun a b => if a = k then (if b = j then v else S a b) else S a b
def fd_ix (n : Nat) : Int32 := if n < 2147483648 then nI n else -1
def fd_T : List Cond := lw_tbl.filter goodWord
abbrev fd_CL : List vw_C := [(RX0, TX0, 1), (RX1, TX1, 4), (RX2, TX2, 3), (RX3, TX3, 7), (RX4, TX4, 11), (RX5, TX5, 2), (RX6, TX6, 5), (RX7, TX7, 9)]
abbrev fd_ty (E : fd_E) : List (ClassId × FieldType) := [(E.2.1 0, .int), (E.2.1 1, .boolean), (E.2.1 2, .object "FlapDamper$RouteRecord")]
/-- kinds: 0 Bounds, 1 Lines, 2 RecordList, 3 RouteRecord, 4 State, 5 Text, 6 FlapDamper, 7 FlapDamperModel, 8 int[], 9 boolean[], 10 RouteRecord[] -/
def fd_kl : List Nat := [4, 0, 8, 2, 10, 1, 8, 8, 3, 3, 3, 3, 3, 3, 8, 8, 8, 8, 8, 8, 8, 8, 8, 4, 0, 8, 2, 10, 1, 8, 8, 3, 3, 3, 3, 3, 3, 8, 8, 8, 8, 8, 8, 8, 8, 8, 4, 0, 8, 2, 10, 1, 8, 8, 3, 3, 3, 3, 3, 3, 8, 8, 8, 8, 8, 8, 8, 8, 8, 6, 9, 5, 8, 7, 8, 8, 8, 8, 8, 8, 9, 8]
def fd_ll : List Nat := [0, 0, 7, 0, 6, 0, 120, 6, 0, 0, 0, 0, 0, 0, 4, 4, 4, 4, 4, 4, 32, 8, 8, 0, 0, 7, 0, 6, 0, 120, 6, 0, 0, 0, 0, 0, 0, 4, 4, 4, 4, 4, 4, 32, 8, 8, 0, 0, 7, 0, 6, 0, 120, 6, 0, 0, 0, 0, 0, 0, 4, 4, 4, 4, 4, 4, 32, 8, 8, 0, 2, 0, 12, 0, 8, 28, 7, 7, 275, 550, 2, 12]
def fd_kd (k : Nat) : Nat := fd_kl.getD k 99
def fd_ln (k : Nat) : Nat := fd_ll.getD k 0
/-- a record's cell, out of what a row of a RecordList holds -/
def fd_rc (k : Nat) (v : Int32) : Nat := 23 * (k / 23) + 8 + v.toNatClampNeg
def fd_fs (E : fd_E) (S : fd_S) (k : Nat) : Nat → List Value
  | 0 => [.ref (E.2.2 (k + 1))]
  | 1 => [.ref (E.2.2 (k + 1)), .ref (E.2.2 (k + 2)), .int (S k 2), .int (S k 3)]
  | 2 => [.ref (E.2.2 (k + 1)), .int (S k 1), .int (S k 2)]
  | 3 => [.int (S k 0), .int (S k 1), .int (S k 2), .int (S k 3), .int (S k 4), .ref (E.2.2 (k + 6)), .int (S k 6)]
  | 4 => [.ref (E.2.2 (k + 1)), .ref (E.2.2 (k + 3)), .ref (E.2.2 (k + 5)), .ref (E.2.2 (k + 20)), .ref (E.2.2 (k + 21)), .ref (E.2.2 (k + 22)), .int (S k 6), .int (S k 7), .int (S k 8), .int (S k 9), .int (S k 10)]
  | 5 => [.ref (E.2.2 (k + 1)), .int (S k 1)]
  | 6 => [.ref (E.2.2 71), .ref (E.2.2 0), .ref (E.2.2 23), .ref (E.2.2 46), .ref (E.2.2 70)]
  | _ => [.ref (E.2.2 74), .ref (E.2.2 75), .ref (E.2.2 76), .ref (E.2.2 77), .ref (E.2.2 78), .ref (E.2.2 79), .ref (E.2.2 80), .ref (E.2.2 81), .int (S k 8)]
def fd_ceK (E : fd_E) (S : fd_S) (k c : Nat) : va_E :=
  if c = 8 then .inl (E.2.1 0, fd_ln k, .inl (fun n => S k (fd_ix n)))
  else if c = 9 then .inl (E.2.1 1, fd_ln k, .inl (fun n => S k (fd_ix n)))
  else if c = 10 then .inl (E.2.1 2, fd_ln k, .inr (.inr (.inr (.inr (fun n => some (E.2.2 (fd_rc k (S k (fd_ix n)))))))))
  else .inr (c, fd_fs E S k c)
def fd_ce (E : fd_E) (S : fd_S) (k : Nat) : va_E := fd_ceK E S k (fd_kd k)
def fd_ws (E : fd_E) (S : fd_S) : va_W := (List.range 82).map (fun k => (E.2.2 k, fd_ce E S k))
def fd_A (E : fd_E) : Nat → Prop := fun q => ∃ k : Nat, k < 82 ∧ q = E.2.2 k
theorem fd_ws_at (E : fd_E) (S : fd_S) {k c : Nat} (hk : k < 82) (hc : fd_kd k = c) : (fd_ws E S)[k]? = some (E.2.2 k, fd_ceK E S k c) := by
  subst hc
  simp [fd_ws, List.getElem?_map, List.getElem?_range hk, fd_ce]
theorem fd_ws_o (E : fd_E) (S : fd_S) {k c : Nat} (hk : k < 82) (hc : fd_kd k = c) (h8 : c < 8) : (fd_ws E S)[k]? = some (E.2.2 k, .inr (c, fd_fs E S k c)) := by
  rw [fd_ws_at E S hk hc]
  unfold fd_ceK
  rw [if_neg (by omega), if_neg (by omega), if_neg (by omega)]
theorem fd_ws_set {E : fd_E} {S S' : fd_S} {k : Nat} {e : va_E} (hk : k < 82) (hs : ∀ a, a ≠ k → S' a = S a) (he : e = fd_ce E S' k) : (fd_ws E S).set k (E.2.2 k, e) = fd_ws E S' := by
  subst he
  apply List.ext_getElem?
  intro i
  by_cases hi : i = k
  · subst hi
    rw [List.getElem?_set_self (by simp [fd_ws]; exact hk), fd_ws_at E S' hk rfl]
    rfl
  · rw [List.getElem?_set_ne (Ne.symm hi)]
    by_cases h82 : i < 82
    · rw [fd_ws_at E S h82 rfl, fd_ws_at E S' h82 rfl]
      have hsi := hs i hi
      have : fd_ceK E S i (fd_kd i) = fd_ceK E S' i (fd_kd i) := by
        unfold fd_ceK
        have hf : fd_fs E S i (fd_kd i) = fd_fs E S' i (fd_kd i) := by
          unfold fd_fs
          split <;> simp only [hsi]
        rw [hsi, hf]
      rw [this]
    · rw [List.getElem?_eq_none (by simp [fd_ws]; omega), List.getElem?_eq_none (by simp [fd_ws]; omega)]
theorem fd_up_ne {S : fd_S} {k a : Nat} {j v : Int32} (h : a ≠ k) : fd_up S k j v a = S a := by
  funext b
  simp [fd_up, h]
/-- which fields hold ints -/
def fd_isI : Nat → Nat → Bool
  | 1, 2 => true | 1, 3 => true | 2, 1 => true | 2, 2 => true
  | 3, 0 => true | 3, 1 => true | 3, 2 => true | 3, 3 => true | 3, 4 => true | 3, 6 => true
  | 4, 6 => true | 4, 7 => true | 4, 8 => true | 4, 9 => true | 4, 10 => true
  | 5, 1 => true | 7, 8 => true
  | _, _ => false
theorem fd_fs_set (E : fd_E) (S : fd_S) (k : Nat) (v : Int32) (ci j : Nat) (h : fd_isI ci j = true) : (fd_fs E S k ci).set j (.int v) = fd_fs E (fd_up S k (nI j) v) k ci := by
  unfold fd_isI at h
  split at h <;> first | (simp [fd_fs, fd_up, nI]; done) | cases h
theorem fd_ix_of {i : Int32} (h : 0 ≤ i) : fd_ix i.toNatClampNeg = i := by
  have h1 : i.toNatClampNeg < 2147483648 := by
    have := Int32.toInt_lt i
    unfold Int32.toNatClampNeg
    omega
  have h0 : ¬ i < 0 := Int32.not_lt.mpr h
  obtain ⟨j, hj, rfl⟩ := nI_of h0
  rw [nI_clamp hj]
  unfold fd_ix
  rw [if_pos (by omega)]
theorem fd_ix_eq {i : Int32} {n : Nat} (h : 0 ≤ i) : fd_ix n = i ↔ n = i.toNatClampNeg := by
  have h0 : ¬ i < 0 := Int32.not_lt.mpr h
  obtain ⟨j, hj, rfl⟩ := nI_of h0
  rw [nI_clamp hj]
  unfold fd_ix
  by_cases hn : n < 2147483648
  · rw [if_pos hn]
    exact nI_eq (by omega) (by omega)
  · rw [if_neg hn]
    refine ⟨fun e => ?_, fun e => by omega⟩
    have : (nI j).toInt = (-1 : Int32).toInt := by rw [← e]
    rw [nI_toInt hj] at this
    have h2 : ((-1 : Int32).toInt) = -1 := by decide
    omega
theorem fd_in {i : Int32} {n : Nat} (hn : n < 2 ^ 31) (h : 0 ≤ i ∧ i < nI n) : vp_in i n := by
  rw [vp_in_iff]
  refine ⟨by simpa using Int32.le_iff_toInt_le.mp h.1, ?_⟩
  have := Int32.lt_iff_toInt_lt.mp h.2
  rwa [nI_toInt hn] at this
theorem fd_ln_lt (k : Nat) : fd_ln k < 2 ^ 31 := by
  have h : ∀ x ∈ fd_ll, x < 2 ^ 31 := by decide
  unfold fd_ln
  rw [List.getD_eq_getElem?_getD]
  cases hk : fd_ll[k]? with
  | none => simp
  | some x => exact h x (List.mem_of_getElem? hk)
/-- an array's contents behind a store -/
theorem fd_upd (S : fd_S) (k : Nat) {i : Int32} (x : Int32) (h : 0 ≤ i) : upd (fun n => S k (fd_ix n)) i.toNatClampNeg x = fun n => fd_up S k i x k (fd_ix n) := by
  funext n
  unfold upd fd_up
  rw [if_pos rfl]
  by_cases hn : n = i.toNatClampNeg
  · rw [if_pos hn, if_pos ((fd_ix_eq h).mpr hn)]
  · rw [if_neg hn, if_neg (fun q => hn ((fd_ix_eq h).mp q))]
/-- a record's 'held' is 0 or 1, in every record's cell -/
def fd_h (S : fd_S) : Prop := ∀ k : Nat, fd_kd k = 3 → S k 3 = 0 ∨ S k 3 = 1
theorem fd_h_up {S : fd_S} {k : Nat} {j v : Int32} (h : fd_h S) (hc : fd_kd k ≠ 3 ∨ j ≠ 3 ∨ v = 0 ∨ v = 1) : fd_h (fd_up S k j v) := by
  intro a ha
  by_cases e : a = k
  · subst e
    by_cases e3 : j = 3
    · subst e3
      have : fd_up S a 3 v a 3 = v := by simp [fd_up]
      rw [this]
      rcases hc with c | c | c
      · exact absurd ha c
      · exact absurd rfl c
      · exact c
    · have : fd_up S a j v a 3 = S a 3 := by
        unfold fd_up
        rw [if_pos rfl, if_neg (fun z => e3 z.symm)]
      rw [this]
      exact h a ha
  · rw [fd_up_ne e]
    exact h a ha
theorem fd_and1 {v : Int32} (h : v &&& 1 = v) : v = 0 ∨ v = 1 := by
  have e : v.toBitVec &&& 1#32 = v.toBitVec := congrArg Int32.toBitVec h
  rw [BitVec.and_one_eq_setWidth_ofBool_getLsbD] at e
  cases hb : v.toBitVec.getLsbD 0 with
  | false =>
    rw [hb] at e
    exact Or.inl (Int32.toBitVec_inj.mp (e.symm.trans (by decide)))
  | true =>
    rw [hb] at e
    exact Or.inr (Int32.toBitVec_inj.mp (e.symm.trans (by decide)))
