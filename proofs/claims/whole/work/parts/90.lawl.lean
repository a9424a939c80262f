section LWL
variable {p : Program} {l : Launch} {e : Env} {s : State} {m : MethodId} {b : Nat} {below : List Frame} {meth : Method} {c : Code} {E : fd_E} {L n : Nat} {xs : Nat → Int32} {cells slots : Nat} {Q : State → Prop} {x : Int32} {S : fd_S} {H : Heap} {locs : List Loc} {ls : Array Slot}
set_option maxHeartbeats 4000000 in
set_option maxRecDepth 100000 in
theorem lw_body (B : lw_B p s m c b L xs E) (hc : cells ≤ room_1.cells ∧ slots ≤ room_1.slots) (h5 : 5 * n + 5 ≤ L) (hL : L ≤ 2560) (ex : x = nI (5 * n)) (I : m_I S n) (hH : fd_H E S s H locs) (hl : lv_has ls 4 [(0, .ref b), (1, .ref (E.2.2 69)), (2, .ref (E.2.2 73)), (3, .int x)]) (kn : ∀ (S2 : fd_S) (H : Heap) (locs : List Loc), m_I S2 (n + 1) → fd_H E S2 s H locs → W p l e room_1 s m #[Value.ref b] below meth c H locs cells slots Q (F0 m 614 ls [])) : W p l e room_1 s m #[Value.ref b] below meth c H locs cells slots Q (F0 m 26 ls []) := by
  have B0 := B
  obtain ⟨C, hX, hbl, hbA⟩ := B
  have hx := C.1
  have hb := C.2.1
  refine lv_aload_n hx hb dL_law_26 rfl (lv_at hl 0 rfl) ?_
  refine lv_iload_n hx hb dL_law_27 rfl (lv_at hl 3 rfl) ?_
  refine va_sld hx hb hX hbl hbA hH.2.2.1 (lw_in0 ex (by omega) hL) dL_law_28 ?_
  refine lv_bipush (v := (31 : Int32)) hx hb dL_law_29 (by decide) ?_
  refine lv_iand hx hb dL_law_31 ?_
  refine lv_topi (fun d _ => ?_)
  by_cases d0 : d = 0
  · refine lv_tableIn (off := 88) (tgt := 120) hx hb dL_law_32 (by rw [d0]; decide) (by rw [d0]; decide) (by rw [d0]; rfl) (by decide) ?_
    exact lc_0 B0 hc h5 hL ex I hH hl kn
  by_cases d1 : d = 1
  · refine lv_tableIn (off := 111) (tgt := 143) hx hb dL_law_32 (by rw [d1]; decide) (by rw [d1]; decide) (by rw [d1]; rfl) (by decide) ?_
    exact lc_1 B0 hc h5 hL ex I hH hl kn
  by_cases d2 : d = 2
  · refine lv_tableIn (off := 124) (tgt := 156) hx hb dL_law_32 (by rw [d2]; decide) (by rw [d2]; decide) (by rw [d2]; rfl) (by decide) ?_
    exact lc_2 B0 hc h5 hL ex I hH hl kn
  by_cases d3 : d = 3
  · refine lv_tableIn (off := 137) (tgt := 169) hx hb dL_law_32 (by rw [d3]; decide) (by rw [d3]; decide) (by rw [d3]; rfl) (by decide) ?_
    exact lc_3 B0 hc h5 hL ex I hH hl kn
  by_cases d4 : d = 4
  · refine lv_tableIn (off := 150) (tgt := 182) hx hb dL_law_32 (by rw [d4]; decide) (by rw [d4]; decide) (by rw [d4]; rfl) (by decide) ?_
    exact lc_4 B0 hc h5 hL ex I hH hl kn
  by_cases d5 : d = 5
  · refine lv_tableIn (off := 173) (tgt := 205) hx hb dL_law_32 (by rw [d5]; decide) (by rw [d5]; decide) (by rw [d5]; rfl) (by decide) ?_
    exact lc_5 B0 hc h5 hL ex I hH hl kn
  by_cases d6 : d = 6
  · refine lv_tableIn (off := 226) (tgt := 258) hx hb dL_law_32 (by rw [d6]; decide) (by rw [d6]; decide) (by rw [d6]; rfl) (by decide) ?_
    exact lc_6 B0 hc h5 hL ex I hH hl kn
  by_cases d7 : d = 7
  · refine lv_tableIn (off := 269) (tgt := 301) hx hb dL_law_32 (by rw [d7]; decide) (by rw [d7]; decide) (by rw [d7]; rfl) (by decide) ?_
    exact lc_7 B0 hc h5 hL ex I hH hl kn
  by_cases d8 : d = 8
  · refine lv_tableIn (off := 292) (tgt := 324) hx hb dL_law_32 (by rw [d8]; decide) (by rw [d8]; decide) (by rw [d8]; rfl) (by decide) ?_
    exact lc_8 B0 hc h5 hL ex I hH hl kn
  by_cases d9 : d = 9
  · refine lv_tableIn (off := 335) (tgt := 367) hx hb dL_law_32 (by rw [d9]; decide) (by rw [d9]; decide) (by rw [d9]; rfl) (by decide) ?_
    exact lc_9 B0 hc h5 hL ex I hH hl kn
  by_cases d10 : d = 10
  · refine lv_tableIn (off := 378) (tgt := 410) hx hb dL_law_32 (by rw [d10]; decide) (by rw [d10]; decide) (by rw [d10]; rfl) (by decide) ?_
    exact lc_10 B0 hc h5 hL ex I hH hl kn
  by_cases d11 : d = 11
  · refine lv_tableIn (off := 411) (tgt := 443) hx hb dL_law_32 (by rw [d11]; decide) (by rw [d11]; decide) (by rw [d11]; rfl) (by decide) ?_
    exact lc_11 B0 hc h5 hL ex I hH hl kn
  by_cases d12 : d = 12
  · refine lv_tableIn (off := 424) (tgt := 456) hx hb dL_law_32 (by rw [d12]; decide) (by rw [d12]; decide) (by rw [d12]; rfl) (by decide) ?_
    exact lc_12 B0 hc h5 hL ex I hH hl kn
  by_cases d13 : d = 13
  · refine lv_tableIn (off := 457) (tgt := 489) hx hb dL_law_32 (by rw [d13]; decide) (by rw [d13]; decide) (by rw [d13]; rfl) (by decide) ?_
    exact lc_13 B0 hc h5 hL ex I hH hl kn
  by_cases d14 : d = 14
  · refine lv_tableIn (off := 480) (tgt := 512) hx hb dL_law_32 (by rw [d14]; decide) (by rw [d14]; decide) (by rw [d14]; rfl) (by decide) ?_
    exact lc_14 B0 hc h5 hL ex I hH hl kn
  by_cases d15 : d = 15
  · refine lv_tableIn (off := 513) (tgt := 545) hx hb dL_law_32 (by rw [d15]; decide) (by rw [d15]; decide) (by rw [d15]; rfl) (by decide) ?_
    exact lc_15 B0 hc h5 hL ex I hH hl kn
  by_cases d16 : d = 16
  · refine lv_tableIn (off := 536) (tgt := 568) hx hb dL_law_32 (by rw [d16]; decide) (by rw [d16]; decide) (by rw [d16]; rfl) (by decide) ?_
    exact lc_16 B0 hc h5 hL ex I hH hl kn
  by_cases d17 : d = 17
  · refine lv_tableIn (off := 559) (tgt := 591) hx hb dL_law_32 (by rw [d17]; decide) (by rw [d17]; decide) (by rw [d17]; rfl) (by decide) ?_
    exact lc_17 B0 hc h5 hL ex I hH hl kn
  refine lv_tableOut (tgt := 614) hx hb dL_law_32 (lw_out d0 d1 d2 d3 d4 d5 d6 d7 d8 d9 d10 d11 d12 d13 d14 d15 d16 d17) (by decide) ?_
  exact kn S _ _ (m_I_up I) hH
set_option maxHeartbeats 4000000 in
set_option maxRecDepth 100000 in
theorem lw_loop (B : lw_B p s m c b L xs E) (hA : ∀ q : Nat, fd_A E q → s.heap.size ≤ q) (hr : meth.sig.returnType = ret) (hlk : meth.locks = false) (hc : cells ≤ room_1.cells ∧ slots ≤ room_1.slots) (hL : L ≤ 2560) : ∀ (N n : Nat) (x : Int32) (S : fd_S) (H : Heap) (locs : List Loc) (ls : Array Slot), n + N = 513 → x = nI (5 * n) → m_I S n → fd_H E S s H locs → lv_has ls 4 [(0, .ref b), (1, .ref (E.2.2 69)), (2, .ref (E.2.2 73)), (3, .int x)] → W p l e room_1 s m #[Value.ref b] below meth c H locs cells slots (lw_Z below #[Value.ref b] s) (F0 m 18 ls []) := by
  have B0 := B
  obtain ⟨C, hX, hbl, hbA⟩ := B
  have hx := C.1
  have hb := C.2.1
  intro N
  induction N with
  | zero =>
    intro n x S H locs ls hn ex I hH hl
    refine lv_iload_n hx hb dL_law_18 rfl (lv_at hl 3 rfl) ?_
    refine lv_aload_n hx hb dL_law_19 rfl (lv_at hl 0 rfl) ?_
    refine va_slen hx hb hX hbl hbA hH.2.2.1 dL_law_20 ?_
    refine lv_iconst (v := (5 : Int32)) hx hb dL_law_21 (by decide) ?_
    refine lv_isub hx hb dL_law_22 ?_
    refine lv_icmp_gt (tgt := 620) hx hb dL_law_23 (by decide) (fun c1 => ?_) (fun c1 => ?_)
    · refine lv_iconst (v := (1 : Int32)) hx hb dL_law_620 (by decide) ?_
      refine va_forget (fun q hq => hA _ (hH.2.2.1.2.2 q hq)) ?_
      refine W.widen (k := 600000) (n := 7302250) hc.1 hc.2 ?_
      exact lw_ret hx hb hr hlk dL_law_621
    · exact absurd ((lw_gt ex (by omega) hL).mpr (by omega)) c1
  | succ N ih =>
    intro n x S H locs ls hn ex I hH hl
    refine lv_iload_n hx hb dL_law_18 rfl (lv_at hl 3 rfl) ?_
    refine lv_aload_n hx hb dL_law_19 rfl (lv_at hl 0 rfl) ?_
    refine va_slen hx hb hX hbl hbA hH.2.2.1 dL_law_20 ?_
    refine lv_iconst (v := (5 : Int32)) hx hb dL_law_21 (by decide) ?_
    refine lv_isub hx hb dL_law_22 ?_
    refine lv_icmp_gt (tgt := 620) hx hb dL_law_23 (by decide) (fun c1 => ?_) (fun c1 => ?_)
    · refine lv_iconst (v := (1 : Int32)) hx hb dL_law_620 (by decide) ?_
      refine va_forget (fun q hq => hA _ (hH.2.2.1.2.2 q hq)) ?_
      refine W.widen (k := 600000) (n := 7302250) hc.1 hc.2 ?_
      exact lw_ret hx hb hr hlk dL_law_621
    · have h5 : 5 * n + 5 ≤ L := by
        apply Nat.le_of_not_lt
        exact fun z => c1 ((lw_gt ex (by omega) hL).mpr z)
      refine lw_body B0 hc h5 hL ex I hH hl (fun S2 H locs I2 hH => ?_)
      obtain ⟨x2, ex2⟩ : ∃ y : Int32, y = x + 5 := ⟨_, rfl⟩
      refine lv_iinc (v := x2) (lv' := [(3, .int x2), (0, .ref b), (1, .ref (E.2.2 69)), (2, .ref (E.2.2 73))]) hx hb dL_law_614 hl (k := 3) rfl (by rw [ex2]; rfl) (by decide) rfl (fun ls hl => ?_)
      refine lv_goto (tgt := 18) hx hb dL_law_617 (by decide) ?_
      exact ih (n + 1) x2 S2 H locs ls (by omega) (by rw [ex2, ex, show (5 : Int32) = nI 5 from rfl, nI_add]; rfl) I2 hH (lv_sub hl [1, 2, 3, 0] rfl)
end LWL
