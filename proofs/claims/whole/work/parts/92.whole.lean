theorem lb_adr {h t u z hm q0 q1 q2 q3 q4 q5 q6 q7 : Nat} {a b c r r' : Nat → Nat} (e : r = r') {k : Nat} (hk : 100 ≤ k) : k_adr h t u z hm q0 q1 q2 q3 q4 q5 q6 q7 a b c r k = r' k := by
  subst e
  unfold k_adr
  rw [if_neg (by omega), if_neg (by omega), if_neg (by omega), if_neg (by omega), if_neg (by omega), if_neg (by omega), if_neg (by omega), if_neg (by omega), if_neg (by omega)]
set_option maxHeartbeats 4000000 in
set_option maxRecDepth 100000 in
theorem whole_start {p : Program} {e : Env} {s : State} {m : MethodId} {below : List Frame} {meth : Method} {c : Code} (l : Launch) (hflags : l.flags = flags0) {b L : Nat} {xs : Nat → Int32} (hL : L ≤ 2560) (C0 : lw_At p s m meth c b L xs) : W p l e room_1 s m #[Value.ref b] below meth c s.heap [] 0 0 (lw_Z below #[Value.ref b] s) (entryFrame m ([Value.ref b] : List Value).toArray 4) := by
  obtain ⟨hx, hb, hr, hml, hown, hts, hX, hbl, hlocks, hgv⟩ := C0
  have hs := flat_of_before _ hgv
  obtain ⟨D, cs, hK0⟩ := lb_K hts
  obtain ⟨r, hZ0⟩ := lb_Z hts hs
  obtain ⟨a0, hkZ⟩ := lb_kZ (A := fun q : Nat => s.heap.size ≤ q) hts hs (fun a h => Nat.not_le.mpr h)
  obtain ⟨E, eE⟩ : ∃ E : fd_E, E = (D, cs, r) := ⟨_, rfl⟩
  have hK : va_K E.1 fd_CL (fd_ty E) s := by rw [eE]; exact hK0 r
  have C : kc_C p s m #[Value.ref b] meth c "FlapDamperLaw" code 4 meth.name E a0 (fun q : Nat => s.heap.size ≤ q) := ⟨hx, hb, hml, hown, lb_T hts, hK, hkZ, fun q h => h, rfl⟩
  have hl := lv_entry ([.ref b]) (n := 4) (Nat.le_of_ble_eq_true rfl)
  rw [lg_entry_eq]
  generalize (lg_sl ([.ref b]) ++ List.replicate (4 - (lg_sl ([.ref b])).length) Slot.unset).toArray = ls at hl ⊢
  have hl : lv_has ls 4 [(0, .ref b)] := hl
  have hH : kc_H E (fun q : Nat => s.heap.size ≤ q) [] s s.heap [] := ⟨fun k q h => by simp at h, ⟨fun i j p q h => by simp at h, fun k q h => by simp at h⟩, va_S.rf⟩
  refine kc_new 6 [.null, .null, .null, .null, .null] 5 C hH (by decide) rfl kl_L_7 ki_X6 kn_X6 (by decide) (Nat.le_of_ble_eq_true rfl) (Nat.le_of_ble_eq_true rfl) dL_law_0 (fun h H hH => ?_)
  refine lv_dup hx hb dL_law_3 rfl ?_
  refine kc_callI C hl.1 hH (c_X6_init l E a0 _ [] h) kwi_L_9 ⟨Nat.le_of_ble_eq_true rfl, Nat.le_of_ble_eq_true rfl⟩ rfl (Nat.le_of_ble_eq_true rfl) ⟨Nat.le_of_ble_eq_true rfl, Nat.le_of_ble_eq_true rfl⟩ dL_law_4 (fun w1 H locs e1 hH => ?_)
  obtain ⟨t, u, z, ad1, ad2, ad3, rfl⟩ := e1
  refine lv_astore_n (lv' := [(1, .ref h), (0, .ref b)]) hx hb dL_law_7 rfl hl (by decide) rfl (fun ls hl => ?_)
  refine kc_new 7 [.null, .null, .null, .null, .null, .null, .null, .null, .int 0] 9 C hH (by decide) rfl kl_L_10 ki_X7 kn_X7 (by decide) (Nat.le_of_ble_eq_true rfl) (Nat.le_of_ble_eq_true rfl) dL_law_8 (fun hm H hH => ?_)
  refine lv_dup hx hb dL_law_11 rfl ?_
  refine kc_callI C hl.1 hH (c_X7_init l E a0 _ _ hm) kwi_L_12 ⟨Nat.le_of_ble_eq_true rfl, Nat.le_of_ble_eq_true rfl⟩ rfl (Nat.le_of_ble_eq_true rfl) ⟨Nat.le_of_ble_eq_true rfl, Nat.le_of_ble_eq_true rfl⟩ dL_law_12 (fun w1 H locs e1 hH => ?_)
  obtain ⟨q0, q1, q2, q3, q4, q5, q6, q7, rfl⟩ := e1
  refine lv_astore_n (lv' := [(2, .ref hm), (1, .ref h), (0, .ref b)]) hx hb dL_law_15 rfl hl (by decide) rfl (fun ls hl => ?_)
  refine lv_iconst (v := (0 : Int32)) hx hb dL_law_16 (by decide) ?_
  refine lv_istore_n (lv' := [(3, .int (0 : Int32)), (2, .ref hm), (1, .ref h), (0, .ref b)]) hx hb dL_law_17 rfl hl (by decide) rfl (fun ls hl => ?_)
  obtain ⟨hP, hD, hS⟩ := hH
  have hP2 := k_asmP (E := E) (h := h) (t := t) (u := u) (z := z) (hm := hm) (q0 := q0) (q1 := q1) (q2 := q2) (q3 := q3) (q4 := q4) (q5 := q5) (q6 := q6) (q7 := q7) (a := ad1) (b := ad2) (c := ad3) hP
  obtain ⟨hD2, hA2⟩ := k_asmD (E := E) (h := h) (t := t) (u := u) (z := z) (hm := hm) (q0 := q0) (q1 := q1) (q2 := q2) (q3 := q3) (q4 := q4) (q5 := q5) (q6 := q6) (q7 := q7) (a := ad1) (b := ad2) (c := ad3) hD
  refine va_forget (fun q hq => hS.2.2 q hq) ?_
  have hZ : fd_Z (k_E E h t u z hm q0 q1 q2 q3 q4 q5 q6 q7 ad1 ad2 ad3) s s.heap := hZ0 _ (fun k hk => lb_adr (by rw [eE]) hk) hA2
  exact lw_loop (E := k_E E h t u z hm q0 q1 q2 q3 q4 q5 q6 q7 ad1 ad2 ad3) (L := L) (xs := xs) ⟨⟨hx, hb, hml, hown, lb_T hts, hK, hZ⟩, hX, hbl, fun z => absurd (hA2 b z) (Nat.not_le.mpr hbl)⟩ hA2 hr hlocks ⟨Nat.le_of_ble_eq_true rfl, Nat.le_of_ble_eq_true rfl⟩ hL 513 0 0 k_S0 H [] ls rfl rfl k_I0 ⟨hP2, hD2, ⟨hS.1, fun q h1 h2 => hS.2.1 q h1 (Nat.not_le.mpr h1), fun q hq => by cases hq⟩, k_h0⟩ (lv_sub hl [3, 2, 1, 0] rfl)
