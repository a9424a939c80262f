theorem dX7_image_0 : decode cX7_image 0 = .ok (.iload_n 1, 1) := by decide +kernel
theorem dX7_image_1 : decode cX7_image 1 = .ok (.iconst 0, 1) := by decide +kernel
theorem dX7_image_2 : decode cX7_image 2 = .ok (.iconst 1, 1) := by decide +kernel
theorem dX7_image_3 : decode cX7_image 3 = .ok (.invokestatic 43, 3) := by decide +kernel
theorem dX7_image_6 : decode cX7_image 6 = .ok (.ifCond .ne 6, 3) := by decide +kernel
theorem dX7_image_9 : decode cX7_image 9 = .ok (.bipush (-2), 2) := by decide +kernel
theorem dX7_image_11 : decode cX7_image 11 = .ok (.ireturn, 1) := by decide +kernel
theorem dX7_image_12 : decode cX7_image 12 = .ok (.iconst 0, 1) := by decide +kernel
theorem dX7_image_13 : decode cX7_image 13 = .ok (.istore_n 2, 1) := by decide +kernel
theorem dX7_image_14 : decode cX7_image 14 = .ok (.iload_n 2, 1) := by decide +kernel
theorem dX7_image_15 : decode cX7_image 15 = .ok (.sipush 275, 3) := by decide +kernel
theorem dX7_image_18 : decode cX7_image 18 = .ok (.if_icmp .ge 27, 3) := by decide +kernel
theorem dX7_image_21 : decode cX7_image 21 = .ok (.aload_n 0, 1) := by decide +kernel
theorem dX7_image_22 : decode cX7_image 22 = .ok (.getfield 33, 3) := by decide +kernel
theorem dX7_image_25 : decode cX7_image 25 = .ok (.sipush 275, 3) := by decide +kernel
theorem dX7_image_28 : decode cX7_image 28 = .ok (.iload_n 1, 1) := by decide +kernel
theorem dX7_image_29 : decode cX7_image 29 = .ok (.imul, 1) := by decide +kernel
theorem dX7_image_30 : decode cX7_image 30 = .ok (.iload_n 2, 1) := by decide +kernel
theorem dX7_image_31 : decode cX7_image 31 = .ok (.iadd, 1) := by decide +kernel
theorem dX7_image_32 : decode cX7_image 32 = .ok (.aload_n 0, 1) := by decide +kernel
theorem dX7_image_33 : decode cX7_image 33 = .ok (.getfield 30, 3) := by decide +kernel
theorem dX7_image_36 : decode cX7_image 36 = .ok (.iload_n 2, 1) := by decide +kernel
theorem dX7_image_37 : decode cX7_image 37 = .ok (.iaload, 1) := by decide +kernel
theorem dX7_image_38 : decode cX7_image 38 = .ok (.iastore, 1) := by decide +kernel
theorem dX7_image_39 : decode cX7_image 39 = .ok (.iinc 2 1, 3) := by decide +kernel
theorem dX7_image_42 : decode cX7_image 42 = .ok (.goto (-28), 3) := by decide +kernel
theorem dX7_image_45 : decode cX7_image 45 = .ok (.aload_n 0, 1) := by decide +kernel
theorem dX7_image_46 : decode cX7_image 46 = .ok (.getfield 36, 3) := by decide +kernel
theorem dX7_image_49 : decode cX7_image 49 = .ok (.iload_n 1, 1) := by decide +kernel
theorem dX7_image_50 : decode cX7_image 50 = .ok (.iconst 1, 1) := by decide +kernel
theorem dX7_image_51 : decode cX7_image 51 = .ok (.bastore, 1) := by decide +kernel
theorem dX7_image_52 : decode cX7_image 52 = .ok (.iconst 1, 1) := by decide +kernel
theorem dX7_image_53 : decode cX7_image 53 = .ok (.ireturn, 1) := by decide +kernel
set_option maxHeartbeats 4000000 in
set_option maxRecDepth 100000 in
theorem wM_image_14 {p : Program} {l : Launch} {e : Env} {s : State} {m : MethodId} {args : Array Value} {below : List Frame} {meth : Method} {c : Code} {E : fd_E} (C : fd_C p s m args c yX7_image.cls cX7_image 3 E) (hr : meth.sig.returnType = (some .int)) (hlk : meth.locks = false) (fu : Nat) {r0 : Int32} {S0 : fd_S} : ∀ (n : Nat) (S : fd_S) (x1 : Int32) (x2 : Int32) (H : Heap) (locs : List Loc) (ls : Array Slot), zM_image_14 fu n S x1 x2 = some (r0, S0) → fd_H E S s H locs → lv_has ls 3 [(0, .ref (E.2.2 73)), (1, .int x1), (2, .int x2)] → W p l e (fd_rm 1 22) s m args below meth c H locs 0 0 (MQ below (fd_Q E (some (.int r0)) S0) args s 0 0 (fd_A E)) (F0 m 14 ls []) := by
  have hx := C.1
  have hb := C.2.1
  intro n
  induction n with
  | zero =>
    intro S x1 x2 H locs ls hf
    rw [zM_image_14] at hf
    cases hf
  | succ n ih =>
    intro S x1 x2 H locs ls hf hH hl
    rw [zM_image_14] at hf
    refine lv_iload_n hx hb dX7_image_14 rfl (lv_at hl 2 rfl) ?_
    refine lv_sipush (v := (275 : Int32)) hx hb dX7_image_15 (by decide) ?_
    refine lv_icmp_ge (tgt := 45) hx hb dX7_image_18 (by decide) (fun c2 => ?_) (fun c2 => ?_)
    · have hf := fd_ifp c2 hf
      refine lv_aload_n hx hb dX7_image_45 rfl (lv_at hl 0 rfl) ?_
      refine fd_get 73 7 6 C hH (by decide) rfl (by decide) (by decide) wf_X7_36 (v := .ref (E.2.2 80)) rfl dX7_image_46 ?_
      refine lv_iload_n hx hb dX7_image_49 rfl (lv_at hl 1 rfl) ?_
      refine lv_iconst (v := (1 : Int32)) hx hb dX7_image_50 (by decide) ?_
      obtain ⟨g3, hf⟩ := fd_grd hf
      refine fd_zast 80 (2 : Int32) C hH (by decide) rfl rfl g3 rfl dX7_image_51 (fun H locs hH => ?_)
      obtain ⟨S4, eS4, hf⟩ := fd_ltS hf
      rw [← eS4] at hH
      refine lv_iconst (v := (1 : Int32)) hx hb dX7_image_52 (by decide) ?_
      cases hf
      exact fd_iret C hr hlk hH dX7_image_53
    · have hf := fd_ifn c2 hf
      refine lv_aload_n hx hb dX7_image_21 rfl (lv_at hl 0 rfl) ?_
      refine fd_get 73 7 5 C hH (by decide) rfl (by decide) (by decide) wf_X7_33 (v := .ref (E.2.2 79)) rfl dX7_image_22 ?_
      refine lv_sipush (v := (275 : Int32)) hx hb dX7_image_25 (by decide) ?_
      refine lv_iload_n hx hb dX7_image_28 rfl (lv_at hl 1 rfl) ?_
      refine lv_imul hx hb dX7_image_29 ?_
      refine lv_iload_n hx hb dX7_image_30 rfl (lv_at hl 2 rfl) ?_
      refine lv_iadd hx hb dX7_image_31 ?_
      refine lv_aload_n hx hb dX7_image_32 rfl (lv_at hl 0 rfl) ?_
      refine fd_get 73 7 4 C hH (by decide) rfl (by decide) (by decide) wf_X7_30 (v := .ref (E.2.2 78)) rfl dX7_image_33 ?_
      refine lv_iload_n hx hb dX7_image_36 rfl (lv_at hl 2 rfl) ?_
      obtain ⟨g5, hf⟩ := fd_grd hf
      refine fd_iald 78 (275 : Int32) C hH (by decide) rfl rfl g5 dX7_image_37 ?_
      obtain ⟨g6, hf⟩ := fd_grd hf
      refine fd_iast 79 (550 : Int32) C hH (by decide) rfl rfl g6 dX7_image_38 (fun H locs hH => ?_)
      obtain ⟨S7, eS7, hf⟩ := fd_ltS hf
      rw [← eS7] at hH
      obtain ⟨y8, ey8, hf⟩ := fd_ltS hf
      refine lv_iinc (v := y8) (lv' := [(2, .int y8), (0, .ref (E.2.2 73)), (1, .int x1)]) hx hb dX7_image_39 hl (k := 2) rfl (by rw [ey8]; rfl) (by decide) rfl (fun ls hl => ?_)
      refine lv_goto (tgt := 14) hx hb dX7_image_42 (by decide) ?_
      exact ih S7 x1 y8 _ _ _ hf hH (lv_sub hl [1, 2, 0] rfl)
set_option maxHeartbeats 4000000 in
set_option maxRecDepth 100000 in
theorem cM_image (l : Launch) (E : fd_E) (fu : Nat) (S : fd_S) (x1 : Int32) {r0 : Int32} {S0 : fd_S} (hf : zM_image fu S x1 = some (r0, S0)) : fd_Ct l yX7_image cX7_image 3 (some .int) (fd_rm 1 22) E S [.ref (E.2.2 73), .int x1] (some (.int r0)) S0 := by
  unfold zM_image at hf
  refine fd_Ct_of (by decide +kernel) (Nat.le_of_ble_eq_true rfl) ?_
  intro p e s m below meth c ls C hr hlk hH hl
  have hx := C.1
  have hb := C.2.1
  have hl : lv_has ls 3 [(0, .ref (E.2.2 73)), (1, .int x1)] := hl
  refine lv_iload_n hx hb dX7_image_0 rfl (lv_at hl 1 rfl) ?_
  refine lv_iconst (v := (0 : Int32)) hx hb dX7_image_1 (by decide) ?_
  refine lv_iconst (v := (1 : Int32)) hx hb dX7_image_2 (by decide) ?_
  refine fd_callS1 [.int x1, .int (0 : Int32), .int (1 : Int32)] C hl.1 hH (cM_in l E S x1 (0 : Int32) (1 : Int32)) wm_X7_43 ⟨rfl, rfl, Nat.le_of_ble_eq_true rfl, Nat.le_of_ble_eq_true rfl⟩ rfl rfl (Nat.le_of_ble_eq_true rfl) ⟨Nat.le_refl _, Nat.le_refl _⟩ dX7_image_3 (fun H locs hH => ?_)
  refine lv_if_ne (tgt := 12) hx hb dX7_image_6 (by decide) (fun c1 => ?_) (fun c1 => ?_)
  · have hf := fd_ifn c1 hf
    refine lv_iconst (v := (0 : Int32)) hx hb dX7_image_12 (by decide) ?_
    refine lv_istore_n (lv' := [(2, .int (0 : Int32)), (0, .ref (E.2.2 73)), (1, .int x1)]) hx hb dX7_image_13 rfl hl (by decide) rfl (fun ls hl => ?_)
    exact wM_image_14 C hr hlk fu fu S x1 (0 : Int32) _ _ _ hf hH (lv_sub hl [1, 2, 0] rfl)
  · have hf := fd_ifp c1 hf
    refine lv_bipush (v := (-2 : Int32)) hx hb dX7_image_9 (by decide) ?_
    cases hf
    exact fd_iret C hr hlk hH dX7_image_11
theorem dX7_restore_0 : decode cX7_restore 0 = .ok (.iload_n 1, 1) := by decide +kernel
theorem dX7_restore_1 : decode cX7_restore 1 = .ok (.iconst 0, 1) := by decide +kernel
theorem dX7_restore_2 : decode cX7_restore 2 = .ok (.iconst 1, 1) := by decide +kernel
theorem dX7_restore_3 : decode cX7_restore 3 = .ok (.invokestatic 43, 3) := by decide +kernel
theorem dX7_restore_6 : decode cX7_restore 6 = .ok (.ifCond .ne 6, 3) := by decide +kernel
theorem dX7_restore_9 : decode cX7_restore 9 = .ok (.bipush (-2), 2) := by decide +kernel
theorem dX7_restore_11 : decode cX7_restore 11 = .ok (.ireturn, 1) := by decide +kernel
theorem dX7_restore_12 : decode cX7_restore 12 = .ok (.aload_n 0, 1) := by decide +kernel
theorem dX7_restore_13 : decode cX7_restore 13 = .ok (.getfield 36, 3) := by decide +kernel
theorem dX7_restore_16 : decode cX7_restore 16 = .ok (.iload_n 1, 1) := by decide +kernel
theorem dX7_restore_17 : decode cX7_restore 17 = .ok (.baload, 1) := by decide +kernel
theorem dX7_restore_18 : decode cX7_restore 18 = .ok (.ifCond .ne 6, 3) := by decide +kernel
theorem dX7_restore_21 : decode cX7_restore 21 = .ok (.bipush (-3), 2) := by decide +kernel
theorem dX7_restore_23 : decode cX7_restore 23 = .ok (.ireturn, 1) := by decide +kernel
theorem dX7_restore_24 : decode cX7_restore 24 = .ok (.iconst 0, 1) := by decide +kernel
theorem dX7_restore_25 : decode cX7_restore 25 = .ok (.istore_n 2, 1) := by decide +kernel
theorem dX7_restore_26 : decode cX7_restore 26 = .ok (.iload_n 2, 1) := by decide +kernel
theorem dX7_restore_27 : decode cX7_restore 27 = .ok (.sipush 275, 3) := by decide +kernel
theorem dX7_restore_30 : decode cX7_restore 30 = .ok (.if_icmp .ge 27, 3) := by decide +kernel
theorem dX7_restore_33 : decode cX7_restore 33 = .ok (.aload_n 0, 1) := by decide +kernel
theorem dX7_restore_34 : decode cX7_restore 34 = .ok (.getfield 30, 3) := by decide +kernel
theorem dX7_restore_37 : decode cX7_restore 37 = .ok (.iload_n 2, 1) := by decide +kernel
theorem dX7_restore_38 : decode cX7_restore 38 = .ok (.aload_n 0, 1) := by decide +kernel
theorem dX7_restore_39 : decode cX7_restore 39 = .ok (.getfield 33, 3) := by decide +kernel
theorem dX7_restore_42 : decode cX7_restore 42 = .ok (.sipush 275, 3) := by decide +kernel
theorem dX7_restore_45 : decode cX7_restore 45 = .ok (.iload_n 1, 1) := by decide +kernel
theorem dX7_restore_46 : decode cX7_restore 46 = .ok (.imul, 1) := by decide +kernel
theorem dX7_restore_47 : decode cX7_restore 47 = .ok (.iload_n 2, 1) := by decide +kernel
theorem dX7_restore_48 : decode cX7_restore 48 = .ok (.iadd, 1) := by decide +kernel
theorem dX7_restore_49 : decode cX7_restore 49 = .ok (.iaload, 1) := by decide +kernel
theorem dX7_restore_50 : decode cX7_restore 50 = .ok (.iastore, 1) := by decide +kernel
theorem dX7_restore_51 : decode cX7_restore 51 = .ok (.iinc 2 1, 3) := by decide +kernel
theorem dX7_restore_54 : decode cX7_restore 54 = .ok (.goto (-28), 3) := by decide +kernel
theorem dX7_restore_57 : decode cX7_restore 57 = .ok (.iconst 1, 1) := by decide +kernel
theorem dX7_restore_58 : decode cX7_restore 58 = .ok (.ireturn, 1) := by decide +kernel
set_option maxHeartbeats 4000000 in
set_option maxRecDepth 100000 in
theorem wM_restore_26 {p : Program} {l : Launch} {e : Env} {s : State} {m : MethodId} {args : Array Value} {below : List Frame} {meth : Method} {c : Code} {E : fd_E} (C : fd_C p s m args c yX7_restore.cls cX7_restore 3 E) (hr : meth.sig.returnType = (some .int)) (hlk : meth.locks = false) (fu : Nat) {r0 : Int32} {S0 : fd_S} : ∀ (n : Nat) (S : fd_S) (x1 : Int32) (x2 : Int32) (H : Heap) (locs : List Loc) (ls : Array Slot), zM_restore_26 fu n S x1 x2 = some (r0, S0) → fd_H E S s H locs → lv_has ls 3 [(0, .ref (E.2.2 73)), (1, .int x1), (2, .int x2)] → W p l e (fd_rm 1 22) s m args below meth c H locs 0 0 (MQ below (fd_Q E (some (.int r0)) S0) args s 0 0 (fd_A E)) (F0 m 26 ls []) := by
  have hx := C.1
  have hb := C.2.1
  intro n
  induction n with
  | zero =>
    intro S x1 x2 H locs ls hf
    rw [zM_restore_26] at hf
    cases hf
  | succ n ih =>
    intro S x1 x2 H locs ls hf hH hl
    rw [zM_restore_26] at hf
    refine lv_iload_n hx hb dX7_restore_26 rfl (lv_at hl 2 rfl) ?_
    refine lv_sipush (v := (275 : Int32)) hx hb dX7_restore_27 (by decide) ?_
    refine lv_icmp_ge (tgt := 57) hx hb dX7_restore_30 (by decide) (fun c4 => ?_) (fun c4 => ?_)
    · have hf := fd_ifp c4 hf
      refine lv_iconst (v := (1 : Int32)) hx hb dX7_restore_57 (by decide) ?_
      cases hf
      exact fd_iret C hr hlk hH dX7_restore_58
    · have hf := fd_ifn c4 hf
      refine lv_aload_n hx hb dX7_restore_33 rfl (lv_at hl 0 rfl) ?_
      refine fd_get 73 7 4 C hH (by decide) rfl (by decide) (by decide) wf_X7_30 (v := .ref (E.2.2 78)) rfl dX7_restore_34 ?_
      refine lv_iload_n hx hb dX7_restore_37 rfl (lv_at hl 2 rfl) ?_
      refine lv_aload_n hx hb dX7_restore_38 rfl (lv_at hl 0 rfl) ?_
      refine fd_get 73 7 5 C hH (by decide) rfl (by decide) (by decide) wf_X7_33 (v := .ref (E.2.2 79)) rfl dX7_restore_39 ?_
      refine lv_sipush (v := (275 : Int32)) hx hb dX7_restore_42 (by decide) ?_
      refine lv_iload_n hx hb dX7_restore_45 rfl (lv_at hl 1 rfl) ?_
      refine lv_imul hx hb dX7_restore_46 ?_
      refine lv_iload_n hx hb dX7_restore_47 rfl (lv_at hl 2 rfl) ?_
      refine lv_iadd hx hb dX7_restore_48 ?_
      obtain ⟨g5, hf⟩ := fd_grd hf
      refine fd_iald 79 (550 : Int32) C hH (by decide) rfl rfl g5 dX7_restore_49 ?_
      obtain ⟨g6, hf⟩ := fd_grd hf
      refine fd_iast 78 (275 : Int32) C hH (by decide) rfl rfl g6 dX7_restore_50 (fun H locs hH => ?_)
      obtain ⟨S7, eS7, hf⟩ := fd_ltS hf
      rw [← eS7] at hH
      obtain ⟨y8, ey8, hf⟩ := fd_ltS hf
      refine lv_iinc (v := y8) (lv' := [(2, .int y8), (0, .ref (E.2.2 73)), (1, .int x1)]) hx hb dX7_restore_51 hl (k := 2) rfl (by rw [ey8]; rfl) (by decide) rfl (fun ls hl => ?_)
      refine lv_goto (tgt := 26) hx hb dX7_restore_54 (by decide) ?_
      exact ih S7 x1 y8 _ _ _ hf hH (lv_sub hl [1, 2, 0] rfl)
set_option maxHeartbeats 4000000 in
set_option maxRecDepth 100000 in
theorem cM_restore (l : Launch) (E : fd_E) (fu : Nat) (S : fd_S) (x1 : Int32) {r0 : Int32} {S0 : fd_S} (hf : zM_restore fu S x1 = some (r0, S0)) : fd_Ct l yX7_restore cX7_restore 3 (some .int) (fd_rm 1 22) E S [.ref (E.2.2 73), .int x1] (some (.int r0)) S0 := by
  unfold zM_restore at hf
  refine fd_Ct_of (by decide +kernel) (Nat.le_of_ble_eq_true rfl) ?_
  intro p e s m below meth c ls C hr hlk hH hl
  have hx := C.1
  have hb := C.2.1
  have hl : lv_has ls 3 [(0, .ref (E.2.2 73)), (1, .int x1)] := hl
  refine lv_iload_n hx hb dX7_restore_0 rfl (lv_at hl 1 rfl) ?_
  refine lv_iconst (v := (0 : Int32)) hx hb dX7_restore_1 (by decide) ?_
  refine lv_iconst (v := (1 : Int32)) hx hb dX7_restore_2 (by decide) ?_
  refine fd_callS1 [.int x1, .int (0 : Int32), .int (1 : Int32)] C hl.1 hH (cM_in l E S x1 (0 : Int32) (1 : Int32)) wm_X7_43 ⟨rfl, rfl, Nat.le_of_ble_eq_true rfl, Nat.le_of_ble_eq_true rfl⟩ rfl rfl (Nat.le_of_ble_eq_true rfl) ⟨Nat.le_refl _, Nat.le_refl _⟩ dX7_restore_3 (fun H locs hH => ?_)
  refine lv_if_ne (tgt := 12) hx hb dX7_restore_6 (by decide) (fun c1 => ?_) (fun c1 => ?_)
  · have hf := fd_ifn c1 hf
    refine lv_aload_n hx hb dX7_restore_12 rfl (lv_at hl 0 rfl) ?_
    refine fd_get 73 7 6 C hH (by decide) rfl (by decide) (by decide) wf_X7_36 (v := .ref (E.2.2 80)) rfl dX7_restore_13 ?_
    refine lv_iload_n hx hb dX7_restore_16 rfl (lv_at hl 1 rfl) ?_
    obtain ⟨g2, hf⟩ := fd_grd hf
    refine fd_zald 80 (2 : Int32) C hH (by decide) rfl rfl g2 dX7_restore_17 ?_
    refine lv_if_ne (tgt := 24) hx hb dX7_restore_18 (by decide) (fun c3 => ?_) (fun c3 => ?_)
    · have hf := fd_ifn c3 hf
      refine lv_iconst (v := (0 : Int32)) hx hb dX7_restore_24 (by decide) ?_
      refine lv_istore_n (lv' := [(2, .int (0 : Int32)), (0, .ref (E.2.2 73)), (1, .int x1)]) hx hb dX7_restore_25 rfl hl (by decide) rfl (fun ls hl => ?_)
      exact wM_restore_26 C hr hlk fu fu S x1 (0 : Int32) _ _ _ hf hH (lv_sub hl [1, 2, 0] rfl)
    · have hf := fd_ifp c3 hf
      refine lv_bipush (v := (-3 : Int32)) hx hb dX7_restore_21 (by decide) ?_
      cases hf
      exact fd_iret C hr hlk hH dX7_restore_23
  · have hf := fd_ifp c1 hf
    refine lv_bipush (v := (-2 : Int32)) hx hb dX7_restore_9 (by decide) ?_
    cases hf
    exact fd_iret C hr hlk hH dX7_restore_11
