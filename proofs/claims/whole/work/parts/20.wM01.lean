theorem dX7_bound_0 : decode cX7_bound 0 = .ok (.iload_n 1, 1) := by decide +kernel
theorem dX7_bound_1 : decode cX7_bound 1 = .ok (.iconst 0, 1) := by decide +kernel
theorem dX7_bound_2 : decode cX7_bound 2 = .ok (.bipush 6, 2) := by decide +kernel
theorem dX7_bound_4 : decode cX7_bound 4 = .ok (.invokestatic 43, 3) := by decide +kernel
theorem dX7_bound_7 : decode cX7_bound 7 = .ok (.ifCond .eq 11, 3) := by decide +kernel
theorem dX7_bound_10 : decode cX7_bound 10 = .ok (.aload_n 0, 1) := by decide +kernel
theorem dX7_bound_11 : decode cX7_bound 11 = .ok (.iload_n 1, 1) := by decide +kernel
theorem dX7_bound_12 : decode cX7_bound 12 = .ok (.invokevirtual 69, 3) := by decide +kernel
theorem dX7_bound_15 : decode cX7_bound 15 = .ok (.goto 5, 3) := by decide +kernel
theorem dX7_bound_18 : decode cX7_bound 18 = .ok (.bipush (-2), 2) := by decide +kernel
theorem dX7_bound_20 : decode cX7_bound 20 = .ok (.ireturn, 1) := by decide +kernel
set_option maxHeartbeats 4000000 in
set_option maxRecDepth 100000 in
theorem cM_bound (l : Launch) (E : fd_E) (S : fd_S) (x1 : Int32) {r0 : Int32} (hf : zM_bound S x1 = some r0) : fd_Ct l yX7_bound cX7_bound 2 (some .int) (fd_rm 1 22) E S [.ref (E.2.2 73), .int x1] (some (.int r0)) S := by
  unfold zM_bound at hf
  refine fd_Ct_of (by decide +kernel) (Nat.le_of_ble_eq_true rfl) ?_
  intro p e s m below meth c ls C hr hlk hH hl
  have hx := C.1
  have hb := C.2.1
  have hl : lv_has ls 2 [(0, .ref (E.2.2 73)), (1, .int x1)] := hl
  refine lv_iload_n hx hb dX7_bound_0 rfl (lv_at hl 1 rfl) ?_
  refine lv_iconst (v := (0 : Int32)) hx hb dX7_bound_1 (by decide) ?_
  refine lv_bipush (v := (6 : Int32)) hx hb dX7_bound_2 (by decide) ?_
  refine fd_callS1 [.int x1, .int (0 : Int32), .int (6 : Int32)] C hl.1 hH (cM_in l E S x1 (0 : Int32) (6 : Int32)) wm_X7_43 ⟨rfl, rfl, Nat.le_of_ble_eq_true rfl, Nat.le_of_ble_eq_true rfl⟩ rfl rfl (Nat.le_of_ble_eq_true rfl) ⟨Nat.le_refl _, Nat.le_refl _⟩ dX7_bound_4 (fun H locs hH => ?_)
  refine lv_if_eq (tgt := 18) hx hb dX7_bound_7 (by decide) (fun c1 => ?_) (fun c1 => ?_)
  · have hf := fd_ifp c1 hf
    refine lv_bipush (v := (-2 : Int32)) hx hb dX7_bound_18 (by decide) ?_
    cases hf
    exact fd_iret C hr hlk hH dX7_bound_20
  · have hf := fd_ifn c1 hf
    refine lv_aload_n hx hb dX7_bound_10 rfl (lv_at hl 0 rfl) ?_
    refine lv_iload_n hx hb dX7_bound_11 rfl (lv_at hl 1 rfl) ?_
    obtain ⟨r2, e3, hf⟩ := fd_bnd hf
    refine fd_callV1 73 7 [.int x1] C hl.1 hH (cM_bounded l E S x1 e3) wm_X7_69 (by decide) rfl (by decide) rfl ⟨rfl, rfl, Nat.le_of_ble_eq_true rfl, Nat.le_of_ble_eq_true rfl⟩ rfl rfl (Nat.le_of_ble_eq_true rfl) ⟨Nat.le_refl _, Nat.le_refl _⟩ dX7_bound_12 (fun H locs hH => ?_)
    refine lv_goto (tgt := 20) hx hb dX7_bound_15 (by decide) ?_
    cases hf
    exact fd_iret C hr hlk hH dX7_bound_20
theorem dX7_at_0 : decode cX7_at 0 = .ok (.bipush 71, 2) := by decide +kernel
theorem dX7_at_2 : decode cX7_at 2 = .ok (.bipush 10, 2) := by decide +kernel
theorem dX7_at_4 : decode cX7_at 4 = .ok (.iload_n 0, 1) := by decide +kernel
theorem dX7_at_5 : decode cX7_at 5 = .ok (.imul, 1) := by decide +kernel
theorem dX7_at_6 : decode cX7_at 6 = .ok (.iadd, 1) := by decide +kernel
theorem dX7_at_7 : decode cX7_at 7 = .ok (.iload_n 1, 1) := by decide +kernel
theorem dX7_at_8 : decode cX7_at 8 = .ok (.iadd, 1) := by decide +kernel
theorem dX7_at_9 : decode cX7_at 9 = .ok (.ireturn, 1) := by decide +kernel
set_option maxHeartbeats 4000000 in
set_option maxRecDepth 100000 in
theorem cM_at (l : Launch) (E : fd_E) (S : fd_S) (x0 : Int32) (x1 : Int32) : fd_Ct l yX7_at cX7_at 2 (some .int) (fd_rm 0 0) E S [.int x0, .int x1] (some (.int (zM_at x0 x1))) S := by
  generalize hf : zM_at x0 x1 = r0
  unfold zM_at at hf
  refine fd_Ct_of (by decide +kernel) (Nat.le_of_ble_eq_true rfl) ?_
  intro p e s m below meth c ls C hr hlk hH hl
  have hx := C.1
  have hb := C.2.1
  have hl : lv_has ls 2 [(0, .int x0), (1, .int x1)] := hl
  refine lv_bipush (v := (71 : Int32)) hx hb dX7_at_0 (by decide) ?_
  refine lv_bipush (v := (10 : Int32)) hx hb dX7_at_2 (by decide) ?_
  refine lv_iload_n hx hb dX7_at_4 rfl (lv_at hl 0 rfl) ?_
  refine lv_imul hx hb dX7_at_5 ?_
  refine lv_iadd hx hb dX7_at_6 ?_
  refine lv_iload_n hx hb dX7_at_7 rfl (lv_at hl 1 rfl) ?_
  refine lv_iadd hx hb dX7_at_8 ?_
  cases hf
  exact fd_iret C hr hlk hH dX7_at_9
theorem dX7_recordOf_0 : decode cX7_recordOf 0 = .ok (.bipush (-6), 2) := by decide +kernel
theorem dX7_recordOf_2 : decode cX7_recordOf 2 = .ok (.istore_n 2, 1) := by decide +kernel
theorem dX7_recordOf_3 : decode cX7_recordOf 3 = .ok (.iconst 0, 1) := by decide +kernel
theorem dX7_recordOf_4 : decode cX7_recordOf 4 = .ok (.istore_n 3, 1) := by decide +kernel
theorem dX7_recordOf_5 : decode cX7_recordOf 5 = .ok (.iload_n 3, 1) := by decide +kernel
theorem dX7_recordOf_6 : decode cX7_recordOf 6 = .ok (.aload_n 0, 1) := by decide +kernel
theorem dX7_recordOf_7 : decode cX7_recordOf 7 = .ok (.getfield 30, 3) := by decide +kernel
theorem dX7_recordOf_10 : decode cX7_recordOf 10 = .ok (.bipush 64, 2) := by decide +kernel
theorem dX7_recordOf_12 : decode cX7_recordOf 12 = .ok (.iaload, 1) := by decide +kernel
theorem dX7_recordOf_13 : decode cX7_recordOf 13 = .ok (.if_icmp .ge 29, 3) := by decide +kernel
theorem dX7_recordOf_16 : decode cX7_recordOf 16 = .ok (.aload_n 0, 1) := by decide +kernel
theorem dX7_recordOf_17 : decode cX7_recordOf 17 = .ok (.getfield 30, 3) := by decide +kernel
theorem dX7_recordOf_20 : decode cX7_recordOf 20 = .ok (.iload_n 3, 1) := by decide +kernel
theorem dX7_recordOf_21 : decode cX7_recordOf 21 = .ok (.iconst 0, 1) := by decide +kernel
theorem dX7_recordOf_22 : decode cX7_recordOf 22 = .ok (.invokestatic 72, 3) := by decide +kernel
theorem dX7_recordOf_25 : decode cX7_recordOf 25 = .ok (.iaload, 1) := by decide +kernel
theorem dX7_recordOf_26 : decode cX7_recordOf 26 = .ok (.iload_n 1, 1) := by decide +kernel
theorem dX7_recordOf_27 : decode cX7_recordOf 27 = .ok (.if_icmp .ne 7, 3) := by decide +kernel
theorem dX7_recordOf_30 : decode cX7_recordOf 30 = .ok (.iload_n 3, 1) := by decide +kernel
theorem dX7_recordOf_31 : decode cX7_recordOf 31 = .ok (.goto 4, 3) := by decide +kernel
theorem dX7_recordOf_34 : decode cX7_recordOf 34 = .ok (.iload_n 2, 1) := by decide +kernel
theorem dX7_recordOf_35 : decode cX7_recordOf 35 = .ok (.istore_n 2, 1) := by decide +kernel
theorem dX7_recordOf_36 : decode cX7_recordOf 36 = .ok (.iinc 3 1, 3) := by decide +kernel
theorem dX7_recordOf_39 : decode cX7_recordOf 39 = .ok (.goto (-34), 3) := by decide +kernel
theorem dX7_recordOf_42 : decode cX7_recordOf 42 = .ok (.iload_n 2, 1) := by decide +kernel
theorem dX7_recordOf_43 : decode cX7_recordOf 43 = .ok (.ireturn, 1) := by decide +kernel
set_option maxHeartbeats 4000000 in
set_option maxRecDepth 100000 in
theorem wM_recordOf_5 {p : Program} {l : Launch} {e : Env} {s : State} {m : MethodId} {args : Array Value} {below : List Frame} {meth : Method} {c : Code} {E : fd_E} (C : fd_C p s m args c yX7_recordOf.cls cX7_recordOf 4 E) (hr : meth.sig.returnType = (some .int)) (hlk : meth.locks = false) (fu : Nat) {r0 : Int32} : ∀ (n : Nat) (S : fd_S) (x1 : Int32) (x2 : Int32) (x3 : Int32) (H : Heap) (locs : List Loc) (ls : Array Slot), zM_recordOf_5 fu n S x1 x2 x3 = some r0 → fd_H E S s H locs → lv_has ls 4 [(0, .ref (E.2.2 73)), (1, .int x1), (2, .int x2), (3, .int x3)] → W p l e (fd_rm 1 21) s m args below meth c H locs 0 0 (MQ below (fd_Q E (some (.int r0)) S) args s 0 0 (fd_A E)) (F0 m 5 ls []) := by
  have hx := C.1
  have hb := C.2.1
  intro n
  induction n with
  | zero =>
    intro S x1 x2 x3 H locs ls hf
    rw [zM_recordOf_5] at hf
    cases hf
  | succ n ih =>
    intro S x1 x2 x3 H locs ls hf hH hl
    rw [zM_recordOf_5] at hf
    refine lv_iload_n hx hb dX7_recordOf_5 rfl (lv_at hl 3 rfl) ?_
    refine lv_aload_n hx hb dX7_recordOf_6 rfl (lv_at hl 0 rfl) ?_
    refine fd_get 73 7 4 C hH (by decide) rfl (by decide) (by decide) wf_X7_30 (v := .ref (E.2.2 78)) rfl dX7_recordOf_7 ?_
    refine lv_bipush (v := (64 : Int32)) hx hb dX7_recordOf_10 (by decide) ?_
    refine fd_iald 78 (275 : Int32) C hH (by decide) rfl rfl (by decide) dX7_recordOf_12 ?_
    refine lv_icmp_ge (tgt := 42) hx hb dX7_recordOf_13 (by decide) (fun c1 => ?_) (fun c1 => ?_)
    · have hf := fd_ifp c1 hf
      refine lv_iload_n hx hb dX7_recordOf_42 rfl (lv_at hl 2 rfl) ?_
      cases hf
      exact fd_iret C hr hlk hH dX7_recordOf_43
    · have hf := fd_ifn c1 hf
      refine lv_aload_n hx hb dX7_recordOf_16 rfl (lv_at hl 0 rfl) ?_
      refine fd_get 73 7 4 C hH (by decide) rfl (by decide) (by decide) wf_X7_30 (v := .ref (E.2.2 78)) rfl dX7_recordOf_17 ?_
      refine lv_iload_n hx hb dX7_recordOf_20 rfl (lv_at hl 3 rfl) ?_
      refine lv_iconst (v := (0 : Int32)) hx hb dX7_recordOf_21 (by decide) ?_
      refine fd_callS1 [.int x3, .int (0 : Int32)] C hl.1 hH (cM_at l E S x3 (0 : Int32)) wm_X7_72 ⟨rfl, rfl, Nat.le_of_ble_eq_true rfl, Nat.le_of_ble_eq_true rfl⟩ rfl rfl (Nat.le_of_ble_eq_true rfl) ⟨Nat.le_refl _, Nat.le_refl _⟩ dX7_recordOf_22 (fun H locs hH => ?_)
      obtain ⟨g2, hf⟩ := fd_grd hf
      refine fd_iald 78 (275 : Int32) C hH (by decide) rfl rfl g2 dX7_recordOf_25 ?_
      refine lv_iload_n hx hb dX7_recordOf_26 rfl (lv_at hl 1 rfl) ?_
      refine lv_icmp_ne (tgt := 34) hx hb dX7_recordOf_27 (by decide) (fun c3 => ?_) (fun c3 => ?_)
      · have hf := fd_ifn c3 hf
        refine lv_iload_n hx hb dX7_recordOf_34 rfl (lv_at hl 2 rfl) ?_
        refine lv_istore_n (lv' := [(2, .int x2), (0, .ref (E.2.2 73)), (1, .int x1), (3, .int x3)]) hx hb dX7_recordOf_35 rfl hl (by decide) rfl (fun ls hl => ?_)
        obtain ⟨y4, ey4, hf⟩ := fd_ltS hf
        refine lv_iinc (v := y4) (lv' := [(3, .int y4), (2, .int x2), (0, .ref (E.2.2 73)), (1, .int x1)]) hx hb dX7_recordOf_36 hl (k := 3) rfl (by rw [ey4]; rfl) (by decide) rfl (fun ls hl => ?_)
        refine lv_goto (tgt := 5) hx hb dX7_recordOf_39 (by decide) ?_
        exact ih S x1 x2 y4 _ _ _ hf hH (lv_sub hl [2, 3, 1, 0] rfl)
      · have hf := fd_ifp c3 hf
        refine lv_iload_n hx hb dX7_recordOf_30 rfl (lv_at hl 3 rfl) ?_
        refine lv_goto (tgt := 35) hx hb dX7_recordOf_31 (by decide) ?_
        refine lv_istore_n (lv' := [(2, .int x3), (0, .ref (E.2.2 73)), (1, .int x1), (3, .int x3)]) hx hb dX7_recordOf_35 rfl hl (by decide) rfl (fun ls hl => ?_)
        obtain ⟨y5, ey5, hf⟩ := fd_ltS hf
        refine lv_iinc (v := y5) (lv' := [(3, .int y5), (2, .int x3), (0, .ref (E.2.2 73)), (1, .int x1)]) hx hb dX7_recordOf_36 hl (k := 3) rfl (by rw [ey5]; rfl) (by decide) rfl (fun ls hl => ?_)
        refine lv_goto (tgt := 5) hx hb dX7_recordOf_39 (by decide) ?_
        exact ih S x1 x3 y5 _ _ _ hf hH (lv_sub hl [2, 3, 1, 0] rfl)
set_option maxHeartbeats 4000000 in
set_option maxRecDepth 100000 in
theorem cM_recordOf (l : Launch) (E : fd_E) (fu : Nat) (S : fd_S) (x1 : Int32) {r0 : Int32} (hf : zM_recordOf fu S x1 = some r0) : fd_Ct l yX7_recordOf cX7_recordOf 4 (some .int) (fd_rm 1 21) E S [.ref (E.2.2 73), .int x1] (some (.int r0)) S := by
  unfold zM_recordOf at hf
  refine fd_Ct_of (by decide +kernel) (Nat.le_of_ble_eq_true rfl) ?_
  intro p e s m below meth c ls C hr hlk hH hl
  have hx := C.1
  have hb := C.2.1
  have hl : lv_has ls 4 [(0, .ref (E.2.2 73)), (1, .int x1)] := hl
  refine lv_bipush (v := (-6 : Int32)) hx hb dX7_recordOf_0 (by decide) ?_
  refine lv_istore_n (lv' := [(2, .int (-6 : Int32)), (0, .ref (E.2.2 73)), (1, .int x1)]) hx hb dX7_recordOf_2 rfl hl (by decide) rfl (fun ls hl => ?_)
  refine lv_iconst (v := (0 : Int32)) hx hb dX7_recordOf_3 (by decide) ?_
  refine lv_istore_n (lv' := [(3, .int (0 : Int32)), (2, .int (-6 : Int32)), (0, .ref (E.2.2 73)), (1, .int x1)]) hx hb dX7_recordOf_4 rfl hl (by decide) rfl (fun ls hl => ?_)
  exact wM_recordOf_5 C hr hlk fu fu S x1 (-6 : Int32) (0 : Int32) _ _ _ hf hH (lv_sub hl [2, 3, 1, 0] rfl)
theorem dX7_isHeld_0 : decode cX7_isHeld 0 = .ok (.aload_n 0, 1) := by decide +kernel
theorem dX7_isHeld_1 : decode cX7_isHeld 1 = .ok (.getfield 30, 3) := by decide +kernel
theorem dX7_isHeld_4 : decode cX7_isHeld 4 = .ok (.iload_n 1, 1) := by decide +kernel
theorem dX7_isHeld_5 : decode cX7_isHeld 5 = .ok (.iconst 3, 1) := by decide +kernel
theorem dX7_isHeld_6 : decode cX7_isHeld 6 = .ok (.invokestatic 72, 3) := by decide +kernel
theorem dX7_isHeld_9 : decode cX7_isHeld 9 = .ok (.iaload, 1) := by decide +kernel
theorem dX7_isHeld_10 : decode cX7_isHeld 10 = .ok (.iconst 1, 1) := by decide +kernel
theorem dX7_isHeld_11 : decode cX7_isHeld 11 = .ok (.if_icmp .ne 7, 3) := by decide +kernel
theorem dX7_isHeld_14 : decode cX7_isHeld 14 = .ok (.iconst 1, 1) := by decide +kernel
theorem dX7_isHeld_15 : decode cX7_isHeld 15 = .ok (.goto 4, 3) := by decide +kernel
theorem dX7_isHeld_18 : decode cX7_isHeld 18 = .ok (.iconst 0, 1) := by decide +kernel
theorem dX7_isHeld_19 : decode cX7_isHeld 19 = .ok (.ireturn, 1) := by decide +kernel
set_option maxHeartbeats 4000000 in
set_option maxRecDepth 100000 in
theorem cM_isHeld (l : Launch) (E : fd_E) (S : fd_S) (x1 : Int32) {r0 : Int32} (hf : zM_isHeld S x1 = some r0) : fd_Ct l yX7_isHeld cX7_isHeld 2 (some .boolean) (fd_rm 1 21) E S [.ref (E.2.2 73), .int x1] (some (.int r0)) S := by
  unfold zM_isHeld at hf
  refine fd_Ct_of (by decide +kernel) (Nat.le_of_ble_eq_true rfl) ?_
  intro p e s m below meth c ls C hr hlk hH hl
  have hx := C.1
  have hb := C.2.1
  have hl : lv_has ls 2 [(0, .ref (E.2.2 73)), (1, .int x1)] := hl
  refine lv_aload_n hx hb dX7_isHeld_0 rfl (lv_at hl 0 rfl) ?_
  refine fd_get 73 7 4 C hH (by decide) rfl (by decide) (by decide) wf_X7_30 (v := .ref (E.2.2 78)) rfl dX7_isHeld_1 ?_
  refine lv_iload_n hx hb dX7_isHeld_4 rfl (lv_at hl 1 rfl) ?_
  refine lv_iconst (v := (3 : Int32)) hx hb dX7_isHeld_5 (by decide) ?_
  refine fd_callS1 [.int x1, .int (3 : Int32)] C hl.1 hH (cM_at l E S x1 (3 : Int32)) wm_X7_72 ⟨rfl, rfl, Nat.le_of_ble_eq_true rfl, Nat.le_of_ble_eq_true rfl⟩ rfl rfl (Nat.le_of_ble_eq_true rfl) ⟨Nat.le_refl _, Nat.le_refl _⟩ dX7_isHeld_6 (fun H locs hH => ?_)
  obtain ⟨g1, hf⟩ := fd_grd hf
  refine fd_iald 78 (275 : Int32) C hH (by decide) rfl rfl g1 dX7_isHeld_9 ?_
  refine lv_iconst (v := (1 : Int32)) hx hb dX7_isHeld_10 (by decide) ?_
  refine lv_icmp_ne (tgt := 18) hx hb dX7_isHeld_11 (by decide) (fun c2 => ?_) (fun c2 => ?_)
  · have hf := fd_ifn c2 hf
    refine lv_iconst (v := (0 : Int32)) hx hb dX7_isHeld_18 (by decide) ?_
    cases hf
    exact fd_zret .boolean C hr hlk hH rfl dX7_isHeld_19
  · have hf := fd_ifp c2 hf
    refine lv_iconst (v := (1 : Int32)) hx hb dX7_isHeld_14 (by decide) ?_
    refine lv_goto (tgt := 19) hx hb dX7_isHeld_15 (by decide) ?_
    cases hf
    exact fd_zret .boolean C hr hlk hH rfl dX7_isHeld_19
theorem dX7_lessened_0 : decode cX7_lessened 0 = .ok (.aload_n 0, 1) := by decide +kernel
theorem dX7_lessened_1 : decode cX7_lessened 1 = .ok (.iconst 0, 1) := by decide +kernel
theorem dX7_lessened_2 : decode cX7_lessened 2 = .ok (.invokevirtual 69, 3) := by decide +kernel
theorem dX7_lessened_5 : decode cX7_lessened 5 = .ok (.istore_n 3, 1) := by decide +kernel
theorem dX7_lessened_6 : decode cX7_lessened 6 = .ok (.iload_n 1, 1) := by decide +kernel
theorem dX7_lessened_7 : decode cX7_lessened 7 = .ok (.istore 4, 2) := by decide +kernel
theorem dX7_lessened_9 : decode cX7_lessened 9 = .ok (.iconst 0, 1) := by decide +kernel
theorem dX7_lessened_10 : decode cX7_lessened 10 = .ok (.istore 5, 2) := by decide +kernel
theorem dX7_lessened_12 : decode cX7_lessened 12 = .ok (.iload 5, 2) := by decide +kernel
theorem dX7_lessened_14 : decode cX7_lessened 14 = .ok (.iload_n 2, 1) := by decide +kernel
theorem dX7_lessened_15 : decode cX7_lessened 15 = .ok (.iload_n 3, 1) := by decide +kernel
theorem dX7_lessened_16 : decode cX7_lessened 16 = .ok (.idiv, 1) := by decide +kernel
theorem dX7_lessened_17 : decode cX7_lessened 17 = .ok (.if_icmp .ge 20, 3) := by decide +kernel
theorem dX7_lessened_20 : decode cX7_lessened 20 = .ok (.iload 4, 2) := by decide +kernel
theorem dX7_lessened_22 : decode cX7_lessened 22 = .ok (.ifCond .le 15, 3) := by decide +kernel
theorem dX7_lessened_25 : decode cX7_lessened 25 = .ok (.iload 4, 2) := by decide +kernel
theorem dX7_lessened_27 : decode cX7_lessened 27 = .ok (.iconst 2, 1) := by decide +kernel
theorem dX7_lessened_28 : decode cX7_lessened 28 = .ok (.idiv, 1) := by decide +kernel
theorem dX7_lessened_29 : decode cX7_lessened 29 = .ok (.istore 4, 2) := by decide +kernel
theorem dX7_lessened_31 : decode cX7_lessened 31 = .ok (.iinc 5 1, 3) := by decide +kernel
theorem dX7_lessened_34 : decode cX7_lessened 34 = .ok (.goto (-22), 3) := by decide +kernel
theorem dX7_lessened_37 : decode cX7_lessened 37 = .ok (.iload 4, 2) := by decide +kernel
theorem dX7_lessened_39 : decode cX7_lessened 39 = .ok (.aload_n 0, 1) := by decide +kernel
theorem dX7_lessened_40 : decode cX7_lessened 40 = .ok (.getfield 15, 3) := by decide +kernel
theorem dX7_lessened_43 : decode cX7_lessened 43 = .ok (.bipush 8, 2) := by decide +kernel
theorem dX7_lessened_45 : decode cX7_lessened 45 = .ok (.iload_n 2, 1) := by decide +kernel
theorem dX7_lessened_46 : decode cX7_lessened 46 = .ok (.iload_n 3, 1) := by decide +kernel
theorem dX7_lessened_47 : decode cX7_lessened 47 = .ok (.irem, 1) := by decide +kernel
theorem dX7_lessened_48 : decode cX7_lessened 48 = .ok (.imul, 1) := by decide +kernel
theorem dX7_lessened_49 : decode cX7_lessened 49 = .ok (.iload_n 3, 1) := by decide +kernel
theorem dX7_lessened_50 : decode cX7_lessened 50 = .ok (.idiv, 1) := by decide +kernel
theorem dX7_lessened_51 : decode cX7_lessened 51 = .ok (.iaload, 1) := by decide +kernel
theorem dX7_lessened_52 : decode cX7_lessened 52 = .ok (.imul, 1) := by decide +kernel
theorem dX7_lessened_53 : decode cX7_lessened 53 = .ok (.ldc 7, 2) := by decide +kernel
theorem dX7_lessened_55 : decode cX7_lessened 55 = .ok (.idiv, 1) := by decide +kernel
theorem dX7_lessened_56 : decode cX7_lessened 56 = .ok (.ireturn, 1) := by decide +kernel
set_option maxHeartbeats 4000000 in
set_option maxRecDepth 100000 in
theorem wM_lessened_37 {p : Program} {l : Launch} {e : Env} {s : State} {m : MethodId} {args : Array Value} {below : List Frame} {meth : Method} {c : Code} {E : fd_E} (C : fd_C p s m args c yX7_lessened.cls cX7_lessened 6 E) (hr : meth.sig.returnType = (some .int)) (hlk : meth.locks = false) (fu : Nat) {r0 : Int32} : ∀ (S : fd_S) (x2 : Int32) (x3 : Int32) (x4 : Int32) (H : Heap) (locs : List Loc) (ls : Array Slot), zM_lessened_37 fu S x2 x3 x4 = some r0 → fd_H E S s H locs → lv_has ls 6 [(0, .ref (E.2.2 73)), (2, .int x2), (3, .int x3), (4, .int x4)] → W p l e (fd_rm 1 21) s m args below meth c H locs 0 0 (MQ below (fd_Q E (some (.int r0)) S) args s 0 0 (fd_A E)) (F0 m 37 ls []) := by
  have hx := C.1
  have hb := C.2.1
  intro S x2 x3 x4 H locs ls hf hH hl
  unfold zM_lessened_37 at hf
  refine lv_iload hx hb dX7_lessened_37 (lv_at hl 3 rfl) ?_
  refine lv_aload_n hx hb dX7_lessened_39 rfl (lv_at hl 0 rfl) ?_
  refine fd_get 73 7 0 C hH (by decide) rfl (by decide) (by decide) wf_X7_15 (v := .ref (E.2.2 74)) rfl dX7_lessened_40 ?_
  refine lv_bipush (v := (8 : Int32)) hx hb dX7_lessened_43 (by decide) ?_
  refine lv_iload_n hx hb dX7_lessened_45 rfl (lv_at hl 1 rfl) ?_
  refine lv_iload_n hx hb dX7_lessened_46 rfl (lv_at hl 2 rfl) ?_
  obtain ⟨g5, hf⟩ := fd_grd hf
  refine fd_irem hx hb dX7_lessened_47 g5 ?_
  refine lv_imul hx hb dX7_lessened_48 ?_
  refine lv_iload_n hx hb dX7_lessened_49 rfl (lv_at hl 2 rfl) ?_
  obtain ⟨g6, hf⟩ := fd_grd hf
  refine lv_idiv hx hb dX7_lessened_50 g6 ?_
  obtain ⟨g7, hf⟩ := fd_grd hf
  refine fd_iald 74 (8 : Int32) C hH (by decide) rfl rfl g7 dX7_lessened_51 ?_
  refine lv_imul hx hb dX7_lessened_52 ?_
  refine lv_ldc (v := (65536 : Int32)) hx hb C.2.2.2.1 (C.2.2.2.2.1 _ wc_X7_7) dX7_lessened_53 ?_
  refine lv_idiv hx hb dX7_lessened_55 (by decide) ?_
  cases hf
  exact fd_iret C hr hlk hH dX7_lessened_56
set_option maxHeartbeats 4000000 in
set_option maxRecDepth 100000 in
theorem wM_lessened_12 {p : Program} {l : Launch} {e : Env} {s : State} {m : MethodId} {args : Array Value} {below : List Frame} {meth : Method} {c : Code} {E : fd_E} (C : fd_C p s m args c yX7_lessened.cls cX7_lessened 6 E) (hr : meth.sig.returnType = (some .int)) (hlk : meth.locks = false) (fu : Nat) {r0 : Int32} : ∀ (n : Nat) (S : fd_S) (x2 : Int32) (x3 : Int32) (x4 : Int32) (x5 : Int32) (H : Heap) (locs : List Loc) (ls : Array Slot), zM_lessened_12 fu n S x2 x3 x4 x5 = some r0 → fd_H E S s H locs → lv_has ls 6 [(0, .ref (E.2.2 73)), (2, .int x2), (3, .int x3), (4, .int x4), (5, .int x5)] → W p l e (fd_rm 1 21) s m args below meth c H locs 0 0 (MQ below (fd_Q E (some (.int r0)) S) args s 0 0 (fd_A E)) (F0 m 12 ls []) := by
  have hx := C.1
  have hb := C.2.1
  intro n
  induction n with
  | zero =>
    intro S x2 x3 x4 x5 H locs ls hf
    rw [zM_lessened_12] at hf
    cases hf
  | succ n ih =>
    intro S x2 x3 x4 x5 H locs ls hf hH hl
    rw [zM_lessened_12] at hf
    refine lv_iload hx hb dX7_lessened_12 (lv_at hl 4 rfl) ?_
    refine lv_iload_n hx hb dX7_lessened_14 rfl (lv_at hl 1 rfl) ?_
    refine lv_iload_n hx hb dX7_lessened_15 rfl (lv_at hl 2 rfl) ?_
    obtain ⟨g3, hf⟩ := fd_grd hf
    refine lv_idiv hx hb dX7_lessened_16 g3 ?_
    refine lv_icmp_ge (tgt := 37) hx hb dX7_lessened_17 (by decide) (fun c4 => ?_) (fun c4 => ?_)
    · have hf := fd_ifp c4 hf
      exact wM_lessened_37 C hr hlk fu S x2 x3 x4 _ _ _ hf hH (lv_sub hl [0, 1, 2, 3] rfl)
    · have hf := fd_ifn c4 hf
      refine lv_iload hx hb dX7_lessened_20 (lv_at hl 3 rfl) ?_
      refine lv_if_le (tgt := 37) hx hb dX7_lessened_22 (by decide) (fun c8 => ?_) (fun c8 => ?_)
      · have hf := fd_ifp c8 hf
        exact wM_lessened_37 C hr hlk fu S x2 x3 x4 _ _ _ hf hH (lv_sub hl [0, 1, 2, 3] rfl)
      · have hf := fd_ifn c8 hf
        refine lv_iload hx hb dX7_lessened_25 (lv_at hl 3 rfl) ?_
        refine lv_iconst (v := (2 : Int32)) hx hb dX7_lessened_27 (by decide) ?_
        refine lv_idiv hx hb dX7_lessened_28 (by decide) ?_
        refine lv_topi (fun y9 ey9 => ?_)
        have hf := fd_ltN ey9 hf
        refine lv_istore (lv' := [(4, .int y9), (0, .ref (E.2.2 73)), (2, .int x2), (3, .int x3), (5, .int x5)]) hx hb dX7_lessened_29 hl (by decide) rfl (fun ls hl => ?_)
        obtain ⟨y10, ey10, hf⟩ := fd_ltS hf
        refine lv_iinc (v := y10) (lv' := [(5, .int y10), (4, .int y9), (0, .ref (E.2.2 73)), (2, .int x2), (3, .int x3)]) hx hb dX7_lessened_31 hl (k := 4) rfl (by rw [ey10]; rfl) (by decide) rfl (fun ls hl => ?_)
        refine lv_goto (tgt := 12) hx hb dX7_lessened_34 (by decide) ?_
        exact ih S x2 x3 y9 y10 _ _ _ hf hH (lv_sub hl [2, 3, 4, 1, 0] rfl)
set_option maxHeartbeats 4000000 in
set_option maxRecDepth 100000 in
theorem cM_lessened (l : Launch) (E : fd_E) (fu : Nat) (S : fd_S) (x1 : Int32) (x2 : Int32) {r0 : Int32} (hf : zM_lessened fu S x1 x2 = some r0) : fd_Ct l yX7_lessened cX7_lessened 6 (some .int) (fd_rm 1 21) E S [.ref (E.2.2 73), .int x1, .int x2] (some (.int r0)) S := by
  unfold zM_lessened at hf
  refine fd_Ct_of (by decide +kernel) (Nat.le_of_ble_eq_true rfl) ?_
  intro p e s m below meth c ls C hr hlk hH hl
  have hx := C.1
  have hb := C.2.1
  have hl : lv_has ls 6 [(0, .ref (E.2.2 73)), (1, .int x1), (2, .int x2)] := hl
  refine lv_aload_n hx hb dX7_lessened_0 rfl (lv_at hl 0 rfl) ?_
  refine lv_iconst (v := (0 : Int32)) hx hb dX7_lessened_1 (by decide) ?_
  obtain ⟨r1, e2, hf⟩ := fd_bnd hf
  refine fd_callV1 73 7 [.int (0 : Int32)] C hl.1 hH (cM_bounded l E S (0 : Int32) e2) wm_X7_69 (by decide) rfl (by decide) rfl ⟨rfl, rfl, Nat.le_of_ble_eq_true rfl, Nat.le_of_ble_eq_true rfl⟩ rfl rfl (Nat.le_of_ble_eq_true rfl) ⟨Nat.le_refl _, Nat.le_refl _⟩ dX7_lessened_2 (fun H locs hH => ?_)
  refine lv_istore_n (lv' := [(3, .int r1), (0, .ref (E.2.2 73)), (1, .int x1), (2, .int x2)]) hx hb dX7_lessened_5 rfl hl (by decide) rfl (fun ls hl => ?_)
  refine lv_iload_n hx hb dX7_lessened_6 rfl (lv_at hl 2 rfl) ?_
  refine lv_istore (lv' := [(4, .int x1), (3, .int r1), (0, .ref (E.2.2 73)), (1, .int x1), (2, .int x2)]) hx hb dX7_lessened_7 hl (by decide) rfl (fun ls hl => ?_)
  refine lv_iconst (v := (0 : Int32)) hx hb dX7_lessened_9 (by decide) ?_
  refine lv_istore (lv' := [(5, .int (0 : Int32)), (4, .int x1), (3, .int r1), (0, .ref (E.2.2 73)), (1, .int x1), (2, .int x2)]) hx hb dX7_lessened_10 hl (by decide) rfl (fun ls hl => ?_)
  exact wM_lessened_12 C hr hlk fu fu S x2 r1 x1 (0 : Int32) _ _ _ hf hH (lv_sub hl [3, 5, 2, 1, 0] rfl)
theorem dX7_penaltyAt_0 : decode cX7_penaltyAt 0 = .ok (.aload_n 0, 1) := by decide +kernel
theorem dX7_penaltyAt_1 : decode cX7_penaltyAt 1 = .ok (.aload_n 0, 1) := by decide +kernel
theorem dX7_penaltyAt_2 : decode cX7_penaltyAt 2 = .ok (.getfield 30, 3) := by decide +kernel
theorem dX7_penaltyAt_5 : decode cX7_penaltyAt 5 = .ok (.iload_n 1, 1) := by decide +kernel
theorem dX7_penaltyAt_6 : decode cX7_penaltyAt 6 = .ok (.iconst 1, 1) := by decide +kernel
theorem dX7_penaltyAt_7 : decode cX7_penaltyAt 7 = .ok (.invokestatic 72, 3) := by decide +kernel
theorem dX7_penaltyAt_10 : decode cX7_penaltyAt 10 = .ok (.iaload, 1) := by decide +kernel
theorem dX7_penaltyAt_11 : decode cX7_penaltyAt 11 = .ok (.iload_n 2, 1) := by decide +kernel
theorem dX7_penaltyAt_12 : decode cX7_penaltyAt 12 = .ok (.aload_n 0, 1) := by decide +kernel
theorem dX7_penaltyAt_13 : decode cX7_penaltyAt 13 = .ok (.getfield 30, 3) := by decide +kernel
theorem dX7_penaltyAt_16 : decode cX7_penaltyAt 16 = .ok (.iload_n 1, 1) := by decide +kernel
theorem dX7_penaltyAt_17 : decode cX7_penaltyAt 17 = .ok (.iconst 2, 1) := by decide +kernel
theorem dX7_penaltyAt_18 : decode cX7_penaltyAt 18 = .ok (.invokestatic 72, 3) := by decide +kernel
theorem dX7_penaltyAt_21 : decode cX7_penaltyAt 21 = .ok (.iaload, 1) := by decide +kernel
theorem dX7_penaltyAt_22 : decode cX7_penaltyAt 22 = .ok (.isub, 1) := by decide +kernel
theorem dX7_penaltyAt_23 : decode cX7_penaltyAt 23 = .ok (.invokevirtual 76, 3) := by decide +kernel
theorem dX7_penaltyAt_26 : decode cX7_penaltyAt 26 = .ok (.ireturn, 1) := by decide +kernel
set_option maxHeartbeats 4000000 in
set_option maxRecDepth 100000 in
theorem cM_penaltyAt (l : Launch) (E : fd_E) (fu : Nat) (S : fd_S) (x1 : Int32) (x2 : Int32) {r0 : Int32} (hf : zM_penaltyAt fu S x1 x2 = some r0) : fd_Ct l yX7_penaltyAt cX7_penaltyAt 3 (some .int) (fd_rm 2 46) E S [.ref (E.2.2 73), .int x1, .int x2] (some (.int r0)) S := by
  unfold zM_penaltyAt at hf
  refine fd_Ct_of (by decide +kernel) (Nat.le_of_ble_eq_true rfl) ?_
  intro p e s m below meth c ls C hr hlk hH hl
  have hx := C.1
  have hb := C.2.1
  have hl : lv_has ls 3 [(0, .ref (E.2.2 73)), (1, .int x1), (2, .int x2)] := hl
  refine lv_aload_n hx hb dX7_penaltyAt_0 rfl (lv_at hl 0 rfl) ?_
  refine lv_aload_n hx hb dX7_penaltyAt_1 rfl (lv_at hl 0 rfl) ?_
  refine fd_get 73 7 4 C hH (by decide) rfl (by decide) (by decide) wf_X7_30 (v := .ref (E.2.2 78)) rfl dX7_penaltyAt_2 ?_
  refine lv_iload_n hx hb dX7_penaltyAt_5 rfl (lv_at hl 1 rfl) ?_
  refine lv_iconst (v := (1 : Int32)) hx hb dX7_penaltyAt_6 (by decide) ?_
  refine fd_callS1 [.int x1, .int (1 : Int32)] C hl.1 hH (cM_at l E S x1 (1 : Int32)) wm_X7_72 ⟨rfl, rfl, Nat.le_of_ble_eq_true rfl, Nat.le_of_ble_eq_true rfl⟩ rfl rfl (Nat.le_of_ble_eq_true rfl) ⟨Nat.le_refl _, Nat.le_refl _⟩ dX7_penaltyAt_7 (fun H locs hH => ?_)
  obtain ⟨g1, hf⟩ := fd_grd hf
  refine fd_iald 78 (275 : Int32) C hH (by decide) rfl rfl g1 dX7_penaltyAt_10 ?_
  refine lv_iload_n hx hb dX7_penaltyAt_11 rfl (lv_at hl 2 rfl) ?_
  refine lv_aload_n hx hb dX7_penaltyAt_12 rfl (lv_at hl 0 rfl) ?_
  refine fd_get 73 7 4 C hH (by decide) rfl (by decide) (by decide) wf_X7_30 (v := .ref (E.2.2 78)) rfl dX7_penaltyAt_13 ?_
  refine lv_iload_n hx hb dX7_penaltyAt_16 rfl (lv_at hl 1 rfl) ?_
  refine lv_iconst (v := (2 : Int32)) hx hb dX7_penaltyAt_17 (by decide) ?_
  refine fd_callS1 [.int x1, .int (2 : Int32)] C hl.1 hH (cM_at l E S x1 (2 : Int32)) wm_X7_72 ⟨rfl, rfl, Nat.le_of_ble_eq_true rfl, Nat.le_of_ble_eq_true rfl⟩ rfl rfl (Nat.le_of_ble_eq_true rfl) ⟨Nat.le_refl _, Nat.le_refl _⟩ dX7_penaltyAt_18 (fun H locs hH => ?_)
  obtain ⟨g2, hf⟩ := fd_grd hf
  refine fd_iald 78 (275 : Int32) C hH (by decide) rfl rfl g2 dX7_penaltyAt_21 ?_
  refine lv_isub hx hb dX7_penaltyAt_22 ?_
  obtain ⟨r3, e4, hf⟩ := fd_bnd hf
  refine fd_callV1 73 7 [.int (S 78 (zM_at x1 (1 : Int32))), .int (x2 - (S 78 (zM_at x1 (2 : Int32))))] C hl.1 hH (cM_lessened l E fu S (S 78 (zM_at x1 (1 : Int32))) (x2 - (S 78 (zM_at x1 (2 : Int32)))) e4) wm_X7_76 (by decide) rfl (by decide) rfl ⟨rfl, rfl, Nat.le_of_ble_eq_true rfl, Nat.le_of_ble_eq_true rfl⟩ rfl rfl (Nat.le_of_ble_eq_true rfl) ⟨Nat.le_refl _, Nat.le_refl _⟩ dX7_penaltyAt_23 (fun H locs hH => ?_)
  cases hf
  exact fd_iret C hr hlk hH dX7_penaltyAt_26
theorem dX7_dueAfter_0 : decode cX7_dueAfter 0 = .ok (.aload_n 0, 1) := by decide +kernel
theorem dX7_dueAfter_1 : decode cX7_dueAfter 1 = .ok (.iconst 1, 1) := by decide +kernel
theorem dX7_dueAfter_2 : decode cX7_dueAfter 2 = .ok (.invokevirtual 69, 3) := by decide +kernel
theorem dX7_dueAfter_5 : decode cX7_dueAfter 5 = .ok (.istore_n 3, 1) := by decide +kernel
theorem dX7_dueAfter_6 : decode cX7_dueAfter 6 = .ok (.iload_n 2, 1) := by decide +kernel
theorem dX7_dueAfter_7 : decode cX7_dueAfter 7 = .ok (.iload_n 3, 1) := by decide +kernel
theorem dX7_dueAfter_8 : decode cX7_dueAfter 8 = .ok (.idiv, 1) := by decide +kernel
theorem dX7_dueAfter_9 : decode cX7_dueAfter 9 = .ok (.iload_n 3, 1) := by decide +kernel
theorem dX7_dueAfter_10 : decode cX7_dueAfter 10 = .ok (.imul, 1) := by decide +kernel
theorem dX7_dueAfter_11 : decode cX7_dueAfter 11 = .ok (.iload_n 3, 1) := by decide +kernel
theorem dX7_dueAfter_12 : decode cX7_dueAfter 12 = .ok (.iadd, 1) := by decide +kernel
theorem dX7_dueAfter_13 : decode cX7_dueAfter 13 = .ok (.istore 4, 2) := by decide +kernel
theorem dX7_dueAfter_15 : decode cX7_dueAfter 15 = .ok (.iconst 0, 1) := by decide +kernel
theorem dX7_dueAfter_16 : decode cX7_dueAfter 16 = .ok (.istore 5, 2) := by decide +kernel
theorem dX7_dueAfter_18 : decode cX7_dueAfter 18 = .ok (.iload 5, 2) := by decide +kernel
theorem dX7_dueAfter_20 : decode cX7_dueAfter 20 = .ok (.bipush 7, 2) := by decide +kernel
theorem dX7_dueAfter_22 : decode cX7_dueAfter 22 = .ok (.if_icmp .ge 30, 3) := by decide +kernel
theorem dX7_dueAfter_25 : decode cX7_dueAfter 25 = .ok (.aload_n 0, 1) := by decide +kernel
theorem dX7_dueAfter_26 : decode cX7_dueAfter 26 = .ok (.iload_n 1, 1) := by decide +kernel
theorem dX7_dueAfter_27 : decode cX7_dueAfter 27 = .ok (.iload 4, 2) := by decide +kernel
theorem dX7_dueAfter_29 : decode cX7_dueAfter 29 = .ok (.invokevirtual 79, 3) := by decide +kernel
theorem dX7_dueAfter_32 : decode cX7_dueAfter 32 = .ok (.aload_n 0, 1) := by decide +kernel
theorem dX7_dueAfter_33 : decode cX7_dueAfter 33 = .ok (.iconst 5, 1) := by decide +kernel
theorem dX7_dueAfter_34 : decode cX7_dueAfter 34 = .ok (.invokevirtual 69, 3) := by decide +kernel
theorem dX7_dueAfter_37 : decode cX7_dueAfter 37 = .ok (.if_icmp .lt 15, 3) := by decide +kernel
theorem dX7_dueAfter_40 : decode cX7_dueAfter 40 = .ok (.iload 4, 2) := by decide +kernel
theorem dX7_dueAfter_42 : decode cX7_dueAfter 42 = .ok (.iload_n 3, 1) := by decide +kernel
theorem dX7_dueAfter_43 : decode cX7_dueAfter 43 = .ok (.iadd, 1) := by decide +kernel
theorem dX7_dueAfter_44 : decode cX7_dueAfter 44 = .ok (.istore 4, 2) := by decide +kernel
theorem dX7_dueAfter_46 : decode cX7_dueAfter 46 = .ok (.iinc 5 1, 3) := by decide +kernel
theorem dX7_dueAfter_49 : decode cX7_dueAfter 49 = .ok (.goto (-31), 3) := by decide +kernel
theorem dX7_dueAfter_52 : decode cX7_dueAfter 52 = .ok (.iload 4, 2) := by decide +kernel
theorem dX7_dueAfter_54 : decode cX7_dueAfter 54 = .ok (.ireturn, 1) := by decide +kernel
set_option maxHeartbeats 4000000 in
set_option maxRecDepth 100000 in
theorem wM_dueAfter_18 {p : Program} {l : Launch} {e : Env} {s : State} {m : MethodId} {args : Array Value} {below : List Frame} {meth : Method} {c : Code} {E : fd_E} (C : fd_C p s m args c yX7_dueAfter.cls cX7_dueAfter 6 E) (hr : meth.sig.returnType = (some .int)) (hlk : meth.locks = false) (fu : Nat) {r0 : Int32} : ∀ (n : Nat) (S : fd_S) (x1 : Int32) (x3 : Int32) (x4 : Int32) (x5 : Int32) (H : Heap) (locs : List Loc) (ls : Array Slot), zM_dueAfter_18 fu n S x1 x3 x4 x5 = some r0 → fd_H E S s H locs → lv_has ls 6 [(0, .ref (E.2.2 73)), (1, .int x1), (3, .int x3), (4, .int x4), (5, .int x5)] → W p l e (fd_rm 3 68) s m args below meth c H locs 0 0 (MQ below (fd_Q E (some (.int r0)) S) args s 0 0 (fd_A E)) (F0 m 18 ls []) := by
  have hx := C.1
  have hb := C.2.1
  intro n
  induction n with
  | zero =>
    intro S x1 x3 x4 x5 H locs ls hf
    rw [zM_dueAfter_18] at hf
    cases hf
  | succ n ih =>
    intro S x1 x3 x4 x5 H locs ls hf hH hl
    rw [zM_dueAfter_18] at hf
    refine lv_iload hx hb dX7_dueAfter_18 (lv_at hl 4 rfl) ?_
    refine lv_bipush (v := (7 : Int32)) hx hb dX7_dueAfter_20 (by decide) ?_
    refine lv_icmp_ge (tgt := 52) hx hb dX7_dueAfter_22 (by decide) (fun c5 => ?_) (fun c5 => ?_)
    · have hf := fd_ifp c5 hf
      refine lv_iload hx hb dX7_dueAfter_52 (lv_at hl 3 rfl) ?_
      cases hf
      exact fd_iret C hr hlk hH dX7_dueAfter_54
    · have hf := fd_ifn c5 hf
      refine lv_aload_n hx hb dX7_dueAfter_25 rfl (lv_at hl 0 rfl) ?_
      refine lv_iload_n hx hb dX7_dueAfter_26 rfl (lv_at hl 1 rfl) ?_
      refine lv_iload hx hb dX7_dueAfter_27 (lv_at hl 3 rfl) ?_
      obtain ⟨r6, e7, hf⟩ := fd_bnd hf
      refine fd_callV1 73 7 [.int x1, .int x4] C hl.1 hH (cM_penaltyAt l E fu S x1 x4 e7) wm_X7_79 (by decide) rfl (by decide) rfl ⟨rfl, rfl, Nat.le_of_ble_eq_true rfl, Nat.le_of_ble_eq_true rfl⟩ rfl rfl (Nat.le_of_ble_eq_true rfl) ⟨Nat.le_refl _, Nat.le_refl _⟩ dX7_dueAfter_29 (fun H locs hH => ?_)
      refine lv_aload_n hx hb dX7_dueAfter_32 rfl (lv_at hl 0 rfl) ?_
      refine lv_iconst (v := (5 : Int32)) hx hb dX7_dueAfter_33 (by decide) ?_
      obtain ⟨r8, e9, hf⟩ := fd_bnd hf
      refine fd_callV1 73 7 [.int (5 : Int32)] C hl.1 hH (cM_bounded l E S (5 : Int32) e9) wm_X7_69 (by decide) rfl (by decide) rfl ⟨rfl, rfl, Nat.le_of_ble_eq_true rfl, Nat.le_of_ble_eq_true rfl⟩ rfl rfl (Nat.le_of_ble_eq_true rfl) ⟨Nat.le_refl _, Nat.le_refl _⟩ dX7_dueAfter_34 (fun H locs hH => ?_)
      refine lv_icmp_lt (tgt := 52) hx hb dX7_dueAfter_37 (by decide) (fun c10 => ?_) (fun c10 => ?_)
      · have hf := fd_ifp c10 hf
        refine lv_iload hx hb dX7_dueAfter_52 (lv_at hl 3 rfl) ?_
        cases hf
        exact fd_iret C hr hlk hH dX7_dueAfter_54
      · have hf := fd_ifn c10 hf
        refine lv_iload hx hb dX7_dueAfter_40 (lv_at hl 3 rfl) ?_
        refine lv_iload_n hx hb dX7_dueAfter_42 rfl (lv_at hl 2 rfl) ?_
        refine lv_iadd hx hb dX7_dueAfter_43 ?_
        refine lv_topi (fun y11 ey11 => ?_)
        have hf := fd_ltN ey11 hf
        refine lv_istore (lv' := [(4, .int y11), (0, .ref (E.2.2 73)), (1, .int x1), (3, .int x3), (5, .int x5)]) hx hb dX7_dueAfter_44 hl (by decide) rfl (fun ls hl => ?_)
        obtain ⟨y12, ey12, hf⟩ := fd_ltS hf
        refine lv_iinc (v := y12) (lv' := [(5, .int y12), (4, .int y11), (0, .ref (E.2.2 73)), (1, .int x1), (3, .int x3)]) hx hb dX7_dueAfter_46 hl (k := 4) rfl (by rw [ey12]; rfl) (by decide) rfl (fun ls hl => ?_)
        refine lv_goto (tgt := 18) hx hb dX7_dueAfter_49 (by decide) ?_
        exact ih S x1 x3 y11 y12 _ _ _ hf hH (lv_sub hl [2, 3, 4, 1, 0] rfl)
set_option maxHeartbeats 4000000 in
set_option maxRecDepth 100000 in
theorem cM_dueAfter (l : Launch) (E : fd_E) (fu : Nat) (S : fd_S) (x1 : Int32) (x2 : Int32) {r0 : Int32} (hf : zM_dueAfter fu S x1 x2 = some r0) : fd_Ct l yX7_dueAfter cX7_dueAfter 6 (some .int) (fd_rm 3 68) E S [.ref (E.2.2 73), .int x1, .int x2] (some (.int r0)) S := by
  unfold zM_dueAfter at hf
  refine fd_Ct_of (by decide +kernel) (Nat.le_of_ble_eq_true rfl) ?_
  intro p e s m below meth c ls C hr hlk hH hl
  have hx := C.1
  have hb := C.2.1
  have hl : lv_has ls 6 [(0, .ref (E.2.2 73)), (1, .int x1), (2, .int x2)] := hl
  refine lv_aload_n hx hb dX7_dueAfter_0 rfl (lv_at hl 0 rfl) ?_
  refine lv_iconst (v := (1 : Int32)) hx hb dX7_dueAfter_1 (by decide) ?_
  obtain ⟨r1, e2, hf⟩ := fd_bnd hf
  refine fd_callV1 73 7 [.int (1 : Int32)] C hl.1 hH (cM_bounded l E S (1 : Int32) e2) wm_X7_69 (by decide) rfl (by decide) rfl ⟨rfl, rfl, Nat.le_of_ble_eq_true rfl, Nat.le_of_ble_eq_true rfl⟩ rfl rfl (Nat.le_of_ble_eq_true rfl) ⟨Nat.le_refl _, Nat.le_refl _⟩ dX7_dueAfter_2 (fun H locs hH => ?_)
  refine lv_istore_n (lv' := [(3, .int r1), (0, .ref (E.2.2 73)), (1, .int x1), (2, .int x2)]) hx hb dX7_dueAfter_5 rfl hl (by decide) rfl (fun ls hl => ?_)
  refine lv_iload_n hx hb dX7_dueAfter_6 rfl (lv_at hl 3 rfl) ?_
  refine lv_iload_n hx hb dX7_dueAfter_7 rfl (lv_at hl 0 rfl) ?_
  obtain ⟨g3, hf⟩ := fd_grd hf
  refine lv_idiv hx hb dX7_dueAfter_8 g3 ?_
  refine lv_iload_n hx hb dX7_dueAfter_9 rfl (lv_at hl 0 rfl) ?_
  refine lv_imul hx hb dX7_dueAfter_10 ?_
  refine lv_iload_n hx hb dX7_dueAfter_11 rfl (lv_at hl 0 rfl) ?_
  refine lv_iadd hx hb dX7_dueAfter_12 ?_
  refine lv_topi (fun y4 ey4 => ?_)
  have hf := fd_ltN ey4 hf
  refine lv_istore (lv' := [(4, .int y4), (3, .int r1), (0, .ref (E.2.2 73)), (1, .int x1), (2, .int x2)]) hx hb dX7_dueAfter_13 hl (by decide) rfl (fun ls hl => ?_)
  refine lv_iconst (v := (0 : Int32)) hx hb dX7_dueAfter_15 (by decide) ?_
  refine lv_istore (lv' := [(5, .int (0 : Int32)), (4, .int y4), (3, .int r1), (0, .ref (E.2.2 73)), (1, .int x1), (2, .int x2)]) hx hb dX7_dueAfter_16 hl (by decide) rfl (fun ls hl => ?_)
  exact wM_dueAfter_18 C hr hlk fu fu S x1 r1 y4 (0 : Int32) _ _ _ hf hH (lv_sub hl [3, 4, 2, 1, 0] rfl)
theorem dX7_remove_0 : decode cX7_remove 0 = .ok (.aload_n 0, 1) := by decide +kernel
theorem dX7_remove_1 : decode cX7_remove 1 = .ok (.getfield 30, 3) := by decide +kernel
theorem dX7_remove_4 : decode cX7_remove 4 = .ok (.bipush 64, 2) := by decide +kernel
theorem dX7_remove_6 : decode cX7_remove 6 = .ok (.dup2, 1) := by decide +kernel
theorem dX7_remove_7 : decode cX7_remove 7 = .ok (.iaload, 1) := by decide +kernel
theorem dX7_remove_8 : decode cX7_remove 8 = .ok (.iconst 1, 1) := by decide +kernel
theorem dX7_remove_9 : decode cX7_remove 9 = .ok (.isub, 1) := by decide +kernel
theorem dX7_remove_10 : decode cX7_remove 10 = .ok (.iastore, 1) := by decide +kernel
theorem dX7_remove_11 : decode cX7_remove 11 = .ok (.aload_n 0, 1) := by decide +kernel
theorem dX7_remove_12 : decode cX7_remove 12 = .ok (.getfield 30, 3) := by decide +kernel
theorem dX7_remove_15 : decode cX7_remove 15 = .ok (.bipush 68, 2) := by decide +kernel
theorem dX7_remove_17 : decode cX7_remove 17 = .ok (.dup2, 1) := by decide +kernel
theorem dX7_remove_18 : decode cX7_remove 18 = .ok (.iaload, 1) := by decide +kernel
theorem dX7_remove_19 : decode cX7_remove 19 = .ok (.iconst 1, 1) := by decide +kernel
theorem dX7_remove_20 : decode cX7_remove 20 = .ok (.iadd, 1) := by decide +kernel
theorem dX7_remove_21 : decode cX7_remove 21 = .ok (.iastore, 1) := by decide +kernel
theorem dX7_remove_22 : decode cX7_remove 22 = .ok (.iload_n 1, 1) := by decide +kernel
theorem dX7_remove_23 : decode cX7_remove 23 = .ok (.iconst 0, 1) := by decide +kernel
theorem dX7_remove_24 : decode cX7_remove 24 = .ok (.invokestatic 72, 3) := by decide +kernel
theorem dX7_remove_27 : decode cX7_remove 27 = .ok (.istore_n 2, 1) := by decide +kernel
theorem dX7_remove_28 : decode cX7_remove 28 = .ok (.iload_n 2, 1) := by decide +kernel
theorem dX7_remove_29 : decode cX7_remove 29 = .ok (.aload_n 0, 1) := by decide +kernel
theorem dX7_remove_30 : decode cX7_remove 30 = .ok (.getfield 30, 3) := by decide +kernel
theorem dX7_remove_33 : decode cX7_remove 33 = .ok (.bipush 64, 2) := by decide +kernel
theorem dX7_remove_35 : decode cX7_remove 35 = .ok (.iaload, 1) := by decide +kernel
theorem dX7_remove_36 : decode cX7_remove 36 = .ok (.iconst 0, 1) := by decide +kernel
theorem dX7_remove_37 : decode cX7_remove 37 = .ok (.invokestatic 72, 3) := by decide +kernel
theorem dX7_remove_40 : decode cX7_remove 40 = .ok (.if_icmp .ge 24, 3) := by decide +kernel
theorem dX7_remove_43 : decode cX7_remove 43 = .ok (.aload_n 0, 1) := by decide +kernel
theorem dX7_remove_44 : decode cX7_remove 44 = .ok (.getfield 30, 3) := by decide +kernel
theorem dX7_remove_47 : decode cX7_remove 47 = .ok (.iload_n 2, 1) := by decide +kernel
theorem dX7_remove_48 : decode cX7_remove 48 = .ok (.aload_n 0, 1) := by decide +kernel
theorem dX7_remove_49 : decode cX7_remove 49 = .ok (.getfield 30, 3) := by decide +kernel
theorem dX7_remove_52 : decode cX7_remove 52 = .ok (.iload_n 2, 1) := by decide +kernel
theorem dX7_remove_53 : decode cX7_remove 53 = .ok (.bipush 10, 2) := by decide +kernel
theorem dX7_remove_55 : decode cX7_remove 55 = .ok (.iadd, 1) := by decide +kernel
theorem dX7_remove_56 : decode cX7_remove 56 = .ok (.iaload, 1) := by decide +kernel
theorem dX7_remove_57 : decode cX7_remove 57 = .ok (.iastore, 1) := by decide +kernel
theorem dX7_remove_58 : decode cX7_remove 58 = .ok (.iinc 2 1, 3) := by decide +kernel
theorem dX7_remove_61 : decode cX7_remove 61 = .ok (.goto (-33), 3) := by decide +kernel
theorem dX7_remove_64 : decode cX7_remove 64 = .ok (.return_, 1) := by decide +kernel
set_option maxHeartbeats 4000000 in
set_option maxRecDepth 100000 in
theorem wM_remove_28 {p : Program} {l : Launch} {e : Env} {s : State} {m : MethodId} {args : Array Value} {below : List Frame} {meth : Method} {c : Code} {E : fd_E} (C : fd_C p s m args c yX7_remove.cls cX7_remove 3 E) (hr : meth.sig.returnType = none) (hlk : meth.locks = false) (fu : Nat) {S0 : fd_S} : ∀ (n : Nat) (S : fd_S) (x2 : Int32) (H : Heap) (locs : List Loc) (ls : Array Slot), zM_remove_28 fu n S x2 = some S0 → fd_H E S s H locs → lv_has ls 3 [(0, .ref (E.2.2 73)), (2, .int x2)] → W p l e (fd_rm 1 21) s m args below meth c H locs 0 0 (MQ below (fd_Q E none S0) args s 0 0 (fd_A E)) (F0 m 28 ls []) := by
  have hx := C.1
  have hb := C.2.1
  intro n
  induction n with
  | zero =>
    intro S x2 H locs ls hf
    rw [zM_remove_28] at hf
    cases hf
  | succ n ih =>
    intro S x2 H locs ls hf hH hl
    rw [zM_remove_28] at hf
    refine lv_iload_n hx hb dX7_remove_28 rfl (lv_at hl 1 rfl) ?_
    refine lv_aload_n hx hb dX7_remove_29 rfl (lv_at hl 0 rfl) ?_
    refine fd_get 73 7 4 C hH (by decide) rfl (by decide) (by decide) wf_X7_30 (v := .ref (E.2.2 78)) rfl dX7_remove_30 ?_
    refine lv_bipush (v := (64 : Int32)) hx hb dX7_remove_33 (by decide) ?_
    refine fd_iald 78 (275 : Int32) C hH (by decide) rfl rfl (by decide) dX7_remove_35 ?_
    refine lv_iconst (v := (0 : Int32)) hx hb dX7_remove_36 (by decide) ?_
    refine fd_callS1 [.int (S 78 (64 : Int32)), .int (0 : Int32)] C hl.1 hH (cM_at l E S (S 78 (64 : Int32)) (0 : Int32)) wm_X7_72 ⟨rfl, rfl, Nat.le_of_ble_eq_true rfl, Nat.le_of_ble_eq_true rfl⟩ rfl rfl (Nat.le_of_ble_eq_true rfl) ⟨Nat.le_refl _, Nat.le_refl _⟩ dX7_remove_37 (fun H locs hH => ?_)
    refine lv_icmp_ge (tgt := 64) hx hb dX7_remove_40 (by decide) (fun c4 => ?_) (fun c4 => ?_)
    · have hf := fd_ifp c4 hf
      cases hf
      exact fd_vret C hr hlk hH dX7_remove_64
    · have hf := fd_ifn c4 hf
      refine lv_aload_n hx hb dX7_remove_43 rfl (lv_at hl 0 rfl) ?_
      refine fd_get 73 7 4 C hH (by decide) rfl (by decide) (by decide) wf_X7_30 (v := .ref (E.2.2 78)) rfl dX7_remove_44 ?_
      refine lv_iload_n hx hb dX7_remove_47 rfl (lv_at hl 1 rfl) ?_
      refine lv_aload_n hx hb dX7_remove_48 rfl (lv_at hl 0 rfl) ?_
      refine fd_get 73 7 4 C hH (by decide) rfl (by decide) (by decide) wf_X7_30 (v := .ref (E.2.2 78)) rfl dX7_remove_49 ?_
      refine lv_iload_n hx hb dX7_remove_52 rfl (lv_at hl 1 rfl) ?_
      refine lv_bipush (v := (10 : Int32)) hx hb dX7_remove_53 (by decide) ?_
      refine lv_iadd hx hb dX7_remove_55 ?_
      obtain ⟨g5, hf⟩ := fd_grd hf
      refine fd_iald 78 (275 : Int32) C hH (by decide) rfl rfl g5 dX7_remove_56 ?_
      obtain ⟨g6, hf⟩ := fd_grd hf
      refine fd_iast 78 (275 : Int32) C hH (by decide) rfl rfl g6 dX7_remove_57 (fun H locs hH => ?_)
      obtain ⟨S7, eS7, hf⟩ := fd_ltS hf
      rw [← eS7] at hH
      obtain ⟨y8, ey8, hf⟩ := fd_ltS hf
      refine lv_iinc (v := y8) (lv' := [(2, .int y8), (0, .ref (E.2.2 73))]) hx hb dX7_remove_58 hl (k := 1) rfl (by rw [ey8]; rfl) (by decide) rfl (fun ls hl => ?_)
      refine lv_goto (tgt := 28) hx hb dX7_remove_61 (by decide) ?_
      exact ih S7 y8 _ _ _ hf hH (lv_sub hl [1, 0] rfl)
set_option maxHeartbeats 4000000 in
set_option maxRecDepth 100000 in
theorem cM_remove (l : Launch) (E : fd_E) (fu : Nat) (S : fd_S) (x1 : Int32) {S0 : fd_S} (hf : zM_remove fu S x1 = some S0) : fd_Ct l yX7_remove cX7_remove 3 none (fd_rm 1 21) E S [.ref (E.2.2 73), .int x1] none S0 := by
  unfold zM_remove at hf
  refine fd_Ct_of (by decide +kernel) (Nat.le_of_ble_eq_true rfl) ?_
  intro p e s m below meth c ls C hr hlk hH hl
  have hx := C.1
  have hb := C.2.1
  have hl : lv_has ls 3 [(0, .ref (E.2.2 73)), (1, .int x1)] := hl
  refine lv_aload_n hx hb dX7_remove_0 rfl (lv_at hl 0 rfl) ?_
  refine fd_get 73 7 4 C hH (by decide) rfl (by decide) (by decide) wf_X7_30 (v := .ref (E.2.2 78)) rfl dX7_remove_1 ?_
  refine lv_bipush (v := (64 : Int32)) hx hb dX7_remove_4 (by decide) ?_
  refine lv_dup2_11 hx hb dX7_remove_6 rfl rfl ?_
  refine fd_iald 78 (275 : Int32) C hH (by decide) rfl rfl (by decide) dX7_remove_7 ?_
  refine lv_iconst (v := (1 : Int32)) hx hb dX7_remove_8 (by decide) ?_
  refine lv_isub hx hb dX7_remove_9 ?_
  refine fd_iast 78 (275 : Int32) C hH (by decide) rfl rfl (by decide) dX7_remove_10 (fun H locs hH => ?_)
  obtain ⟨S1, eS1, hf⟩ := fd_ltS hf
  rw [← eS1] at hH
  refine lv_aload_n hx hb dX7_remove_11 rfl (lv_at hl 0 rfl) ?_
  refine fd_get 73 7 4 C hH (by decide) rfl (by decide) (by decide) wf_X7_30 (v := .ref (E.2.2 78)) rfl dX7_remove_12 ?_
  refine lv_bipush (v := (68 : Int32)) hx hb dX7_remove_15 (by decide) ?_
  refine lv_dup2_11 hx hb dX7_remove_17 rfl rfl ?_
  refine fd_iald 78 (275 : Int32) C hH (by decide) rfl rfl (by decide) dX7_remove_18 ?_
  refine lv_iconst (v := (1 : Int32)) hx hb dX7_remove_19 (by decide) ?_
  refine lv_iadd hx hb dX7_remove_20 ?_
  refine fd_iast 78 (275 : Int32) C hH (by decide) rfl rfl (by decide) dX7_remove_21 (fun H locs hH => ?_)
  obtain ⟨S2, eS2, hf⟩ := fd_ltS hf
  rw [← eS2] at hH
  refine lv_iload_n hx hb dX7_remove_22 rfl (lv_at hl 1 rfl) ?_
  refine lv_iconst (v := (0 : Int32)) hx hb dX7_remove_23 (by decide) ?_
  refine fd_callS1 [.int x1, .int (0 : Int32)] C hl.1 hH (cM_at l E S2 x1 (0 : Int32)) wm_X7_72 ⟨rfl, rfl, Nat.le_of_ble_eq_true rfl, Nat.le_of_ble_eq_true rfl⟩ rfl rfl (Nat.le_of_ble_eq_true rfl) ⟨Nat.le_refl _, Nat.le_refl _⟩ dX7_remove_24 (fun H locs hH => ?_)
  refine lv_topi (fun y3 ey3 => ?_)
  have hf := fd_ltN ey3 hf
  refine lv_istore_n (lv' := [(2, .int y3), (0, .ref (E.2.2 73)), (1, .int x1)]) hx hb dX7_remove_27 rfl hl (by decide) rfl (fun ls hl => ?_)
  exact wM_remove_28 C hr hlk fu fu S2 y3 _ _ _ hf hH (lv_sub hl [1, 0] rfl)
theorem dX7_makeRecord_0 : decode cX7_makeRecord 0 = .ok (.aload_n 0, 1) := by decide +kernel
theorem dX7_makeRecord_1 : decode cX7_makeRecord 1 = .ok (.iload_n 1, 1) := by decide +kernel
theorem dX7_makeRecord_2 : decode cX7_makeRecord 2 = .ok (.invokevirtual 82, 3) := by decide +kernel
theorem dX7_makeRecord_5 : decode cX7_makeRecord 5 = .ok (.istore_n 2, 1) := by decide +kernel
theorem dX7_makeRecord_6 : decode cX7_makeRecord 6 = .ok (.iload_n 2, 1) := by decide +kernel
theorem dX7_makeRecord_7 : decode cX7_makeRecord 7 = .ok (.ifCond .lt 5, 3) := by decide +kernel
theorem dX7_makeRecord_10 : decode cX7_makeRecord 10 = .ok (.iload_n 2, 1) := by decide +kernel
theorem dX7_makeRecord_11 : decode cX7_makeRecord 11 = .ok (.ireturn, 1) := by decide +kernel
theorem dX7_makeRecord_12 : decode cX7_makeRecord 12 = .ok (.aload_n 0, 1) := by decide +kernel
theorem dX7_makeRecord_13 : decode cX7_makeRecord 13 = .ok (.getfield 30, 3) := by decide +kernel
theorem dX7_makeRecord_16 : decode cX7_makeRecord 16 = .ok (.bipush 64, 2) := by decide +kernel
theorem dX7_makeRecord_18 : decode cX7_makeRecord 18 = .ok (.iaload, 1) := by decide +kernel
theorem dX7_makeRecord_19 : decode cX7_makeRecord 19 = .ok (.bipush 6, 2) := by decide +kernel
theorem dX7_makeRecord_21 : decode cX7_makeRecord 21 = .ok (.if_icmp .ne 39, 3) := by decide +kernel
theorem dX7_makeRecord_24 : decode cX7_makeRecord 24 = .ok (.iconst 0, 1) := by decide +kernel
theorem dX7_makeRecord_25 : decode cX7_makeRecord 25 = .ok (.istore_n 3, 1) := by decide +kernel
theorem dX7_makeRecord_26 : decode cX7_makeRecord 26 = .ok (.iload_n 3, 1) := by decide +kernel
theorem dX7_makeRecord_27 : decode cX7_makeRecord 27 = .ok (.bipush 6, 2) := by decide +kernel
theorem dX7_makeRecord_29 : decode cX7_makeRecord 29 = .ok (.if_icmp .ge 17, 3) := by decide +kernel
theorem dX7_makeRecord_32 : decode cX7_makeRecord 32 = .ok (.aload_n 0, 1) := by decide +kernel
theorem dX7_makeRecord_33 : decode cX7_makeRecord 33 = .ok (.iload_n 3, 1) := by decide +kernel
theorem dX7_makeRecord_34 : decode cX7_makeRecord 34 = .ok (.invokevirtual 85, 3) := by decide +kernel
theorem dX7_makeRecord_37 : decode cX7_makeRecord 37 = .ok (.ifCond .eq 9, 3) := by decide +kernel
theorem dX7_makeRecord_40 : decode cX7_makeRecord 40 = .ok (.iinc 3 1, 3) := by decide +kernel
theorem dX7_makeRecord_43 : decode cX7_makeRecord 43 = .ok (.goto (-17), 3) := by decide +kernel
theorem dX7_makeRecord_46 : decode cX7_makeRecord 46 = .ok (.iload_n 3, 1) := by decide +kernel
theorem dX7_makeRecord_47 : decode cX7_makeRecord 47 = .ok (.bipush 6, 2) := by decide +kernel
theorem dX7_makeRecord_49 : decode cX7_makeRecord 49 = .ok (.if_icmp .ne 6, 3) := by decide +kernel
theorem dX7_makeRecord_52 : decode cX7_makeRecord 52 = .ok (.bipush (-6), 2) := by decide +kernel
theorem dX7_makeRecord_54 : decode cX7_makeRecord 54 = .ok (.ireturn, 1) := by decide +kernel
theorem dX7_makeRecord_55 : decode cX7_makeRecord 55 = .ok (.aload_n 0, 1) := by decide +kernel
theorem dX7_makeRecord_56 : decode cX7_makeRecord 56 = .ok (.iload_n 3, 1) := by decide +kernel
theorem dX7_makeRecord_57 : decode cX7_makeRecord 57 = .ok (.invokevirtual 88, 3) := by decide +kernel
theorem dX7_makeRecord_60 : decode cX7_makeRecord 60 = .ok (.aload_n 0, 1) := by decide +kernel
theorem dX7_makeRecord_61 : decode cX7_makeRecord 61 = .ok (.getfield 30, 3) := by decide +kernel
theorem dX7_makeRecord_64 : decode cX7_makeRecord 64 = .ok (.bipush 64, 2) := by decide +kernel
theorem dX7_makeRecord_66 : decode cX7_makeRecord 66 = .ok (.iaload, 1) := by decide +kernel
theorem dX7_makeRecord_67 : decode cX7_makeRecord 67 = .ok (.istore_n 2, 1) := by decide +kernel
theorem dX7_makeRecord_68 : decode cX7_makeRecord 68 = .ok (.aload_n 0, 1) := by decide +kernel
theorem dX7_makeRecord_69 : decode cX7_makeRecord 69 = .ok (.getfield 30, 3) := by decide +kernel
theorem dX7_makeRecord_72 : decode cX7_makeRecord 72 = .ok (.bipush 64, 2) := by decide +kernel
theorem dX7_makeRecord_74 : decode cX7_makeRecord 74 = .ok (.dup2, 1) := by decide +kernel
theorem dX7_makeRecord_75 : decode cX7_makeRecord 75 = .ok (.iaload, 1) := by decide +kernel
theorem dX7_makeRecord_76 : decode cX7_makeRecord 76 = .ok (.iconst 1, 1) := by decide +kernel
theorem dX7_makeRecord_77 : decode cX7_makeRecord 77 = .ok (.iadd, 1) := by decide +kernel
theorem dX7_makeRecord_78 : decode cX7_makeRecord 78 = .ok (.iastore, 1) := by decide +kernel
theorem dX7_makeRecord_79 : decode cX7_makeRecord 79 = .ok (.iconst 0, 1) := by decide +kernel
theorem dX7_makeRecord_80 : decode cX7_makeRecord 80 = .ok (.istore_n 3, 1) := by decide +kernel
theorem dX7_makeRecord_81 : decode cX7_makeRecord 81 = .ok (.iload_n 3, 1) := by decide +kernel
theorem dX7_makeRecord_82 : decode cX7_makeRecord 82 = .ok (.bipush 10, 2) := by decide +kernel
theorem dX7_makeRecord_84 : decode cX7_makeRecord 84 = .ok (.if_icmp .ge 20, 3) := by decide +kernel
theorem dX7_makeRecord_87 : decode cX7_makeRecord 87 = .ok (.aload_n 0, 1) := by decide +kernel
theorem dX7_makeRecord_88 : decode cX7_makeRecord 88 = .ok (.getfield 30, 3) := by decide +kernel
theorem dX7_makeRecord_91 : decode cX7_makeRecord 91 = .ok (.iload_n 2, 1) := by decide +kernel
theorem dX7_makeRecord_92 : decode cX7_makeRecord 92 = .ok (.iload_n 3, 1) := by decide +kernel
theorem dX7_makeRecord_93 : decode cX7_makeRecord 93 = .ok (.invokestatic 72, 3) := by decide +kernel
theorem dX7_makeRecord_96 : decode cX7_makeRecord 96 = .ok (.iconst 0, 1) := by decide +kernel
theorem dX7_makeRecord_97 : decode cX7_makeRecord 97 = .ok (.iastore, 1) := by decide +kernel
theorem dX7_makeRecord_98 : decode cX7_makeRecord 98 = .ok (.iinc 3 1, 3) := by decide +kernel
theorem dX7_makeRecord_101 : decode cX7_makeRecord 101 = .ok (.goto (-20), 3) := by decide +kernel
theorem dX7_makeRecord_104 : decode cX7_makeRecord 104 = .ok (.aload_n 0, 1) := by decide +kernel
theorem dX7_makeRecord_105 : decode cX7_makeRecord 105 = .ok (.getfield 30, 3) := by decide +kernel
theorem dX7_makeRecord_108 : decode cX7_makeRecord 108 = .ok (.iload_n 2, 1) := by decide +kernel
theorem dX7_makeRecord_109 : decode cX7_makeRecord 109 = .ok (.iconst 0, 1) := by decide +kernel
theorem dX7_makeRecord_110 : decode cX7_makeRecord 110 = .ok (.invokestatic 72, 3) := by decide +kernel
theorem dX7_makeRecord_113 : decode cX7_makeRecord 113 = .ok (.iload_n 1, 1) := by decide +kernel
theorem dX7_makeRecord_114 : decode cX7_makeRecord 114 = .ok (.iastore, 1) := by decide +kernel
theorem dX7_makeRecord_115 : decode cX7_makeRecord 115 = .ok (.aload_n 0, 1) := by decide +kernel
theorem dX7_makeRecord_116 : decode cX7_makeRecord 116 = .ok (.getfield 30, 3) := by decide +kernel
theorem dX7_makeRecord_119 : decode cX7_makeRecord 119 = .ok (.iload_n 2, 1) := by decide +kernel
theorem dX7_makeRecord_120 : decode cX7_makeRecord 120 = .ok (.iconst 2, 1) := by decide +kernel
theorem dX7_makeRecord_121 : decode cX7_makeRecord 121 = .ok (.invokestatic 72, 3) := by decide +kernel
theorem dX7_makeRecord_124 : decode cX7_makeRecord 124 = .ok (.aload_n 0, 1) := by decide +kernel
theorem dX7_makeRecord_125 : decode cX7_makeRecord 125 = .ok (.getfield 30, 3) := by decide +kernel
theorem dX7_makeRecord_128 : decode cX7_makeRecord 128 = .ok (.bipush 63, 2) := by decide +kernel
theorem dX7_makeRecord_130 : decode cX7_makeRecord 130 = .ok (.iaload, 1) := by decide +kernel
theorem dX7_makeRecord_131 : decode cX7_makeRecord 131 = .ok (.iastore, 1) := by decide +kernel
theorem dX7_makeRecord_132 : decode cX7_makeRecord 132 = .ok (.iload_n 2, 1) := by decide +kernel
theorem dX7_makeRecord_133 : decode cX7_makeRecord 133 = .ok (.ireturn, 1) := by decide +kernel
set_option maxHeartbeats 4000000 in
set_option maxRecDepth 100000 in
theorem wM_makeRecord_81 {p : Program} {l : Launch} {e : Env} {s : State} {m : MethodId} {args : Array Value} {below : List Frame} {meth : Method} {c : Code} {E : fd_E} (C : fd_C p s m args c yX7_makeRecord.cls cX7_makeRecord 4 E) (hr : meth.sig.returnType = (some .int)) (hlk : meth.locks = false) (fu : Nat) {r0 : Int32} {S0 : fd_S} : ∀ (n : Nat) (S : fd_S) (x1 : Int32) (x2 : Int32) (x3 : Int32) (H : Heap) (locs : List Loc) (ls : Array Slot), zM_makeRecord_81 fu n S x1 x2 x3 = some (r0, S0) → fd_H E S s H locs → lv_has ls 4 [(0, .ref (E.2.2 73)), (1, .int x1), (2, .int x2), (3, .int x3)] → W p l e (fd_rm 2 44) s m args below meth c H locs 0 0 (MQ below (fd_Q E (some (.int r0)) S0) args s 0 0 (fd_A E)) (F0 m 81 ls []) := by
  have hx := C.1
  have hb := C.2.1
  intro n
  induction n with
  | zero =>
    intro S x1 x2 x3 H locs ls hf
    rw [zM_makeRecord_81] at hf
    cases hf
  | succ n ih =>
    intro S x1 x2 x3 H locs ls hf hH hl
    rw [zM_makeRecord_81] at hf
    refine lv_iload_n hx hb dX7_makeRecord_81 rfl (lv_at hl 3 rfl) ?_
    refine lv_bipush (v := (10 : Int32)) hx hb dX7_makeRecord_82 (by decide) ?_
    refine lv_icmp_ge (tgt := 104) hx hb dX7_makeRecord_84 (by decide) (fun c7 => ?_) (fun c7 => ?_)
    · have hf := fd_ifp c7 hf
      refine lv_aload_n hx hb dX7_makeRecord_104 rfl (lv_at hl 0 rfl) ?_
      refine fd_get 73 7 4 C hH (by decide) rfl (by decide) (by decide) wf_X7_30 (v := .ref (E.2.2 78)) rfl dX7_makeRecord_105 ?_
      refine lv_iload_n hx hb dX7_makeRecord_108 rfl (lv_at hl 2 rfl) ?_
      refine lv_iconst (v := (0 : Int32)) hx hb dX7_makeRecord_109 (by decide) ?_
      refine fd_callS1 [.int x2, .int (0 : Int32)] C hl.1 hH (cM_at l E S x2 (0 : Int32)) wm_X7_72 ⟨rfl, rfl, Nat.le_of_ble_eq_true rfl, Nat.le_of_ble_eq_true rfl⟩ rfl rfl (Nat.le_of_ble_eq_true rfl) ⟨Nat.le_refl _, Nat.le_refl _⟩ dX7_makeRecord_110 (fun H locs hH => ?_)
      refine lv_iload_n hx hb dX7_makeRecord_113 rfl (lv_at hl 1 rfl) ?_
      obtain ⟨g8, hf⟩ := fd_grd hf
      refine fd_iast 78 (275 : Int32) C hH (by decide) rfl rfl g8 dX7_makeRecord_114 (fun H locs hH => ?_)
      obtain ⟨S9, eS9, hf⟩ := fd_ltS hf
      rw [← eS9] at hH
      refine lv_aload_n hx hb dX7_makeRecord_115 rfl (lv_at hl 0 rfl) ?_
      refine fd_get 73 7 4 C hH (by decide) rfl (by decide) (by decide) wf_X7_30 (v := .ref (E.2.2 78)) rfl dX7_makeRecord_116 ?_
      refine lv_iload_n hx hb dX7_makeRecord_119 rfl (lv_at hl 2 rfl) ?_
      refine lv_iconst (v := (2 : Int32)) hx hb dX7_makeRecord_120 (by decide) ?_
      refine fd_callS1 [.int x2, .int (2 : Int32)] C hl.1 hH (cM_at l E S9 x2 (2 : Int32)) wm_X7_72 ⟨rfl, rfl, Nat.le_of_ble_eq_true rfl, Nat.le_of_ble_eq_true rfl⟩ rfl rfl (Nat.le_of_ble_eq_true rfl) ⟨Nat.le_refl _, Nat.le_refl _⟩ dX7_makeRecord_121 (fun H locs hH => ?_)
      refine lv_aload_n hx hb dX7_makeRecord_124 rfl (lv_at hl 0 rfl) ?_
      refine fd_get 73 7 4 C hH (by decide) rfl (by decide) (by decide) wf_X7_30 (v := .ref (E.2.2 78)) rfl dX7_makeRecord_125 ?_
      refine lv_bipush (v := (63 : Int32)) hx hb dX7_makeRecord_128 (by decide) ?_
      refine fd_iald 78 (275 : Int32) C hH (by decide) rfl rfl (by decide) dX7_makeRecord_130 ?_
      obtain ⟨g10, hf⟩ := fd_grd hf
      refine fd_iast 78 (275 : Int32) C hH (by decide) rfl rfl g10 dX7_makeRecord_131 (fun H locs hH => ?_)
      obtain ⟨S11, eS11, hf⟩ := fd_ltS hf
      rw [← eS11] at hH
      refine lv_iload_n hx hb dX7_makeRecord_132 rfl (lv_at hl 2 rfl) ?_
      cases hf
      exact fd_iret C hr hlk hH dX7_makeRecord_133
    · have hf := fd_ifn c7 hf
      refine lv_aload_n hx hb dX7_makeRecord_87 rfl (lv_at hl 0 rfl) ?_
      refine fd_get 73 7 4 C hH (by decide) rfl (by decide) (by decide) wf_X7_30 (v := .ref (E.2.2 78)) rfl dX7_makeRecord_88 ?_
      refine lv_iload_n hx hb dX7_makeRecord_91 rfl (lv_at hl 2 rfl) ?_
      refine lv_iload_n hx hb dX7_makeRecord_92 rfl (lv_at hl 3 rfl) ?_
      refine fd_callS1 [.int x2, .int x3] C hl.1 hH (cM_at l E S x2 x3) wm_X7_72 ⟨rfl, rfl, Nat.le_of_ble_eq_true rfl, Nat.le_of_ble_eq_true rfl⟩ rfl rfl (Nat.le_of_ble_eq_true rfl) ⟨Nat.le_refl _, Nat.le_refl _⟩ dX7_makeRecord_93 (fun H locs hH => ?_)
      refine lv_iconst (v := (0 : Int32)) hx hb dX7_makeRecord_96 (by decide) ?_
      obtain ⟨g12, hf⟩ := fd_grd hf
      refine fd_iast 78 (275 : Int32) C hH (by decide) rfl rfl g12 dX7_makeRecord_97 (fun H locs hH => ?_)
      obtain ⟨S13, eS13, hf⟩ := fd_ltS hf
      rw [← eS13] at hH
      obtain ⟨y14, ey14, hf⟩ := fd_ltS hf
      refine lv_iinc (v := y14) (lv' := [(3, .int y14), (0, .ref (E.2.2 73)), (1, .int x1), (2, .int x2)]) hx hb dX7_makeRecord_98 hl (k := 3) rfl (by rw [ey14]; rfl) (by decide) rfl (fun ls hl => ?_)
      refine lv_goto (tgt := 81) hx hb dX7_makeRecord_101 (by decide) ?_
      exact ih S13 x1 x2 y14 _ _ _ hf hH (lv_sub hl [1, 2, 3, 0] rfl)
set_option maxHeartbeats 4000000 in
set_option maxRecDepth 100000 in
theorem wM_makeRecord_60 {p : Program} {l : Launch} {e : Env} {s : State} {m : MethodId} {args : Array Value} {below : List Frame} {meth : Method} {c : Code} {E : fd_E} (C : fd_C p s m args c yX7_makeRecord.cls cX7_makeRecord 4 E) (hr : meth.sig.returnType = (some .int)) (hlk : meth.locks = false) (fu : Nat) {r0 : Int32} {S0 : fd_S} : ∀ (S : fd_S) (x1 : Int32) (H : Heap) (locs : List Loc) (ls : Array Slot), zM_makeRecord_60 fu S x1 = some (r0, S0) → fd_H E S s H locs → lv_has ls 4 [(0, .ref (E.2.2 73)), (1, .int x1)] → W p l e (fd_rm 2 44) s m args below meth c H locs 0 0 (MQ below (fd_Q E (some (.int r0)) S0) args s 0 0 (fd_A E)) (F0 m 60 ls []) := by
  have hx := C.1
  have hb := C.2.1
  intro S x1 H locs ls hf hH hl
  unfold zM_makeRecord_60 at hf
  refine lv_aload_n hx hb dX7_makeRecord_60 rfl (lv_at hl 0 rfl) ?_
  refine fd_get 73 7 4 C hH (by decide) rfl (by decide) (by decide) wf_X7_30 (v := .ref (E.2.2 78)) rfl dX7_makeRecord_61 ?_
  refine lv_bipush (v := (64 : Int32)) hx hb dX7_makeRecord_64 (by decide) ?_
  refine fd_iald 78 (275 : Int32) C hH (by decide) rfl rfl (by decide) dX7_makeRecord_66 ?_
  refine lv_topi (fun y5 ey5 => ?_)
  have hf := fd_ltN ey5 hf
  refine lv_istore_n (lv' := [(2, .int y5), (0, .ref (E.2.2 73)), (1, .int x1)]) hx hb dX7_makeRecord_67 rfl hl (by decide) rfl (fun ls hl => ?_)
  refine lv_aload_n hx hb dX7_makeRecord_68 rfl (lv_at hl 1 rfl) ?_
  refine fd_get 73 7 4 C hH (by decide) rfl (by decide) (by decide) wf_X7_30 (v := .ref (E.2.2 78)) rfl dX7_makeRecord_69 ?_
  refine lv_bipush (v := (64 : Int32)) hx hb dX7_makeRecord_72 (by decide) ?_
  refine lv_dup2_11 hx hb dX7_makeRecord_74 rfl rfl ?_
  refine fd_iald 78 (275 : Int32) C hH (by decide) rfl rfl (by decide) dX7_makeRecord_75 ?_
  refine lv_iconst (v := (1 : Int32)) hx hb dX7_makeRecord_76 (by decide) ?_
  refine lv_iadd hx hb dX7_makeRecord_77 ?_
  refine fd_iast 78 (275 : Int32) C hH (by decide) rfl rfl (by decide) dX7_makeRecord_78 (fun H locs hH => ?_)
  obtain ⟨S6, eS6, hf⟩ := fd_ltS hf
  rw [← eS6] at hH
  refine lv_iconst (v := (0 : Int32)) hx hb dX7_makeRecord_79 (by decide) ?_
  refine lv_istore_n (lv' := [(3, .int (0 : Int32)), (2, .int y5), (0, .ref (E.2.2 73)), (1, .int x1)]) hx hb dX7_makeRecord_80 rfl hl (by decide) rfl (fun ls hl => ?_)
  exact wM_makeRecord_81 C hr hlk fu fu S6 x1 y5 (0 : Int32) _ _ _ hf hH (lv_sub hl [2, 3, 1, 0] rfl)
set_option maxHeartbeats 4000000 in
set_option maxRecDepth 100000 in
theorem wM_makeRecord_26 {p : Program} {l : Launch} {e : Env} {s : State} {m : MethodId} {args : Array Value} {below : List Frame} {meth : Method} {c : Code} {E : fd_E} (C : fd_C p s m args c yX7_makeRecord.cls cX7_makeRecord 4 E) (hr : meth.sig.returnType = (some .int)) (hlk : meth.locks = false) (fu : Nat) {r0 : Int32} {S0 : fd_S} : ∀ (n : Nat) (S : fd_S) (x1 : Int32) (x3 : Int32) (H : Heap) (locs : List Loc) (ls : Array Slot), zM_makeRecord_26 fu n S x1 x3 = some (r0, S0) → fd_H E S s H locs → lv_has ls 4 [(0, .ref (E.2.2 73)), (1, .int x1), (3, .int x3)] → W p l e (fd_rm 2 44) s m args below meth c H locs 0 0 (MQ below (fd_Q E (some (.int r0)) S0) args s 0 0 (fd_A E)) (F0 m 26 ls []) := by
  have hx := C.1
  have hb := C.2.1
  intro n
  induction n with
  | zero =>
    intro S x1 x3 H locs ls hf
    rw [zM_makeRecord_26] at hf
    cases hf
  | succ n ih =>
    intro S x1 x3 H locs ls hf hH hl
    rw [zM_makeRecord_26] at hf
    refine lv_iload_n hx hb dX7_makeRecord_26 rfl (lv_at hl 2 rfl) ?_
    refine lv_bipush (v := (6 : Int32)) hx hb dX7_makeRecord_27 (by decide) ?_
    refine lv_icmp_ge (tgt := 46) hx hb dX7_makeRecord_29 (by decide) (fun c15 => ?_) (fun c15 => ?_)
    · have hf := fd_ifp c15 hf
      refine lv_iload_n hx hb dX7_makeRecord_46 rfl (lv_at hl 2 rfl) ?_
      refine lv_bipush (v := (6 : Int32)) hx hb dX7_makeRecord_47 (by decide) ?_
      refine lv_icmp_ne (tgt := 55) hx hb dX7_makeRecord_49 (by decide) (fun c16 => ?_) (fun c16 => ?_)
      · have hf := fd_ifn c16 hf
        refine lv_aload_n hx hb dX7_makeRecord_55 rfl (lv_at hl 0 rfl) ?_
        refine lv_iload_n hx hb dX7_makeRecord_56 rfl (lv_at hl 2 rfl) ?_
        obtain ⟨S17, e18, hf⟩ := fd_bnd hf
        refine fd_callV0 73 7 [.int x3] C hl.1 hH (cM_remove l E fu S x3 e18) wm_X7_88 (by decide) rfl (by decide) rfl ⟨rfl, rfl, Nat.le_of_ble_eq_true rfl, Nat.le_of_ble_eq_true rfl⟩ rfl rfl (Nat.le_of_ble_eq_true rfl) ⟨Nat.le_refl _, Nat.le_refl _⟩ dX7_makeRecord_57 (fun H locs hH => ?_)
        exact wM_makeRecord_60 C hr hlk fu S17 x1 _ _ _ hf hH (lv_sub hl [0, 1] rfl)
      · have hf := fd_ifp c16 hf
        refine lv_bipush (v := (-6 : Int32)) hx hb dX7_makeRecord_52 (by decide) ?_
        cases hf
        exact fd_iret C hr hlk hH dX7_makeRecord_54
    · have hf := fd_ifn c15 hf
      refine lv_aload_n hx hb dX7_makeRecord_32 rfl (lv_at hl 0 rfl) ?_
      refine lv_iload_n hx hb dX7_makeRecord_33 rfl (lv_at hl 2 rfl) ?_
      obtain ⟨r19, e20, hf⟩ := fd_bnd hf
      refine fd_callV1 73 7 [.int x3] C hl.1 hH (cM_isHeld l E S x3 e20) wm_X7_85 (by decide) rfl (by decide) rfl ⟨rfl, rfl, Nat.le_of_ble_eq_true rfl, Nat.le_of_ble_eq_true rfl⟩ rfl rfl (Nat.le_of_ble_eq_true rfl) ⟨Nat.le_refl _, Nat.le_refl _⟩ dX7_makeRecord_34 (fun H locs hH => ?_)
      refine lv_if_eq (tgt := 46) hx hb dX7_makeRecord_37 (by decide) (fun c21 => ?_) (fun c21 => ?_)
      · have hf := fd_ifp c21 hf
        refine lv_iload_n hx hb dX7_makeRecord_46 rfl (lv_at hl 2 rfl) ?_
        refine lv_bipush (v := (6 : Int32)) hx hb dX7_makeRecord_47 (by decide) ?_
        refine lv_icmp_ne (tgt := 55) hx hb dX7_makeRecord_49 (by decide) (fun c22 => ?_) (fun c22 => ?_)
        · have hf := fd_ifn c22 hf
          refine lv_aload_n hx hb dX7_makeRecord_55 rfl (lv_at hl 0 rfl) ?_
          refine lv_iload_n hx hb dX7_makeRecord_56 rfl (lv_at hl 2 rfl) ?_
          obtain ⟨S23, e24, hf⟩ := fd_bnd hf
          refine fd_callV0 73 7 [.int x3] C hl.1 hH (cM_remove l E fu S x3 e24) wm_X7_88 (by decide) rfl (by decide) rfl ⟨rfl, rfl, Nat.le_of_ble_eq_true rfl, Nat.le_of_ble_eq_true rfl⟩ rfl rfl (Nat.le_of_ble_eq_true rfl) ⟨Nat.le_refl _, Nat.le_refl _⟩ dX7_makeRecord_57 (fun H locs hH => ?_)
          exact wM_makeRecord_60 C hr hlk fu S23 x1 _ _ _ hf hH (lv_sub hl [0, 1] rfl)
        · have hf := fd_ifp c22 hf
          refine lv_bipush (v := (-6 : Int32)) hx hb dX7_makeRecord_52 (by decide) ?_
          cases hf
          exact fd_iret C hr hlk hH dX7_makeRecord_54
      · have hf := fd_ifn c21 hf
        obtain ⟨y25, ey25, hf⟩ := fd_ltS hf
        refine lv_iinc (v := y25) (lv' := [(3, .int y25), (0, .ref (E.2.2 73)), (1, .int x1)]) hx hb dX7_makeRecord_40 hl (k := 2) rfl (by rw [ey25]; rfl) (by decide) rfl (fun ls hl => ?_)
        refine lv_goto (tgt := 26) hx hb dX7_makeRecord_43 (by decide) ?_
        exact ih S x1 y25 _ _ _ hf hH (lv_sub hl [1, 2, 0] rfl)
set_option maxHeartbeats 4000000 in
set_option maxRecDepth 100000 in
theorem cM_makeRecord (l : Launch) (E : fd_E) (fu : Nat) (S : fd_S) (x1 : Int32) {r0 : Int32} {S0 : fd_S} (hf : zM_makeRecord fu S x1 = some (r0, S0)) : fd_Ct l yX7_makeRecord cX7_makeRecord 4 (some .int) (fd_rm 2 44) E S [.ref (E.2.2 73), .int x1] (some (.int r0)) S0 := by
  unfold zM_makeRecord at hf
  refine fd_Ct_of (by decide +kernel) (Nat.le_of_ble_eq_true rfl) ?_
  intro p e s m below meth c ls C hr hlk hH hl
  have hx := C.1
  have hb := C.2.1
  have hl : lv_has ls 4 [(0, .ref (E.2.2 73)), (1, .int x1)] := hl
  refine lv_aload_n hx hb dX7_makeRecord_0 rfl (lv_at hl 0 rfl) ?_
  refine lv_iload_n hx hb dX7_makeRecord_1 rfl (lv_at hl 1 rfl) ?_
  obtain ⟨r1, e2, hf⟩ := fd_bnd hf
  refine fd_callV1 73 7 [.int x1] C hl.1 hH (cM_recordOf l E fu S x1 e2) wm_X7_82 (by decide) rfl (by decide) rfl ⟨rfl, rfl, Nat.le_of_ble_eq_true rfl, Nat.le_of_ble_eq_true rfl⟩ rfl rfl (Nat.le_of_ble_eq_true rfl) ⟨Nat.le_refl _, Nat.le_refl _⟩ dX7_makeRecord_2 (fun H locs hH => ?_)
  refine lv_istore_n (lv' := [(2, .int r1), (0, .ref (E.2.2 73)), (1, .int x1)]) hx hb dX7_makeRecord_5 rfl hl (by decide) rfl (fun ls hl => ?_)
  refine lv_iload_n hx hb dX7_makeRecord_6 rfl (lv_at hl 0 rfl) ?_
  refine lv_if_lt (tgt := 12) hx hb dX7_makeRecord_7 (by decide) (fun c3 => ?_) (fun c3 => ?_)
  · have hf := fd_ifp c3 hf
    refine lv_aload_n hx hb dX7_makeRecord_12 rfl (lv_at hl 1 rfl) ?_
    refine fd_get 73 7 4 C hH (by decide) rfl (by decide) (by decide) wf_X7_30 (v := .ref (E.2.2 78)) rfl dX7_makeRecord_13 ?_
    refine lv_bipush (v := (64 : Int32)) hx hb dX7_makeRecord_16 (by decide) ?_
    refine fd_iald 78 (275 : Int32) C hH (by decide) rfl rfl (by decide) dX7_makeRecord_18 ?_
    refine lv_bipush (v := (6 : Int32)) hx hb dX7_makeRecord_19 (by decide) ?_
    refine lv_icmp_ne (tgt := 60) hx hb dX7_makeRecord_21 (by decide) (fun c4 => ?_) (fun c4 => ?_)
    · have hf := fd_ifn c4 hf
      exact wM_makeRecord_60 C hr hlk fu S x1 _ _ _ hf hH (lv_sub hl [1, 2] rfl)
    · have hf := fd_ifp c4 hf
      refine lv_iconst (v := (0 : Int32)) hx hb dX7_makeRecord_24 (by decide) ?_
      refine lv_istore_n (lv' := [(3, .int (0 : Int32)), (2, .int r1), (0, .ref (E.2.2 73)), (1, .int x1)]) hx hb dX7_makeRecord_25 rfl hl (by decide) rfl (fun ls hl => ?_)
      exact wM_makeRecord_26 C hr hlk fu fu S x1 (0 : Int32) _ _ _ hf hH (lv_sub hl [2, 3, 0] rfl)
  · have hf := fd_ifn c3 hf
    refine lv_iload_n hx hb dX7_makeRecord_10 rfl (lv_at hl 0 rfl) ?_
    cases hf
    exact fd_iret C hr hlk hH dX7_makeRecord_11
