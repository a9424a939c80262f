theorem dX6_isWithin_0 : decode cX6_isWithin 0 = .ok (.iload_n 0, 1) := by decide +kernel
theorem dX6_isWithin_1 : decode cX6_isWithin 1 = .ok (.iload_n 1, 1) := by decide +kernel
theorem dX6_isWithin_2 : decode cX6_isWithin 2 = .ok (.if_icmp .lt 12, 3) := by decide +kernel
theorem dX6_isWithin_5 : decode cX6_isWithin 5 = .ok (.iload_n 0, 1) := by decide +kernel
theorem dX6_isWithin_6 : decode cX6_isWithin 6 = .ok (.iload_n 2, 1) := by decide +kernel
theorem dX6_isWithin_7 : decode cX6_isWithin 7 = .ok (.if_icmp .gt 7, 3) := by decide +kernel
theorem dX6_isWithin_10 : decode cX6_isWithin 10 = .ok (.iconst 1, 1) := by decide +kernel
theorem dX6_isWithin_11 : decode cX6_isWithin 11 = .ok (.goto 4, 3) := by decide +kernel
theorem dX6_isWithin_14 : decode cX6_isWithin 14 = .ok (.iconst 0, 1) := by decide +kernel
theorem dX6_isWithin_15 : decode cX6_isWithin 15 = .ok (.ireturn, 1) := by decide +kernel
set_option maxHeartbeats 4000000 in
set_option maxRecDepth 100000 in
theorem cF_isWithin (l : Launch) (E : fd_E) (S : fd_S) (x0 : Int32) (x1 : Int32) (x2 : Int32) : fd_Ct l yX6_isWithin cX6_isWithin 3 (some .boolean) (fd_rm 0 0) E S [.int x0, .int x1, .int x2] (some (.int (zF_isWithin x0 x1 x2))) S := by
  generalize hf : zF_isWithin x0 x1 x2 = r0
  unfold zF_isWithin at hf
  refine fd_Ct_of (by decide +kernel) (Nat.le_of_ble_eq_true rfl) ?_
  intro p e s m below meth c ls C hr hlk hH hl
  have hx := C.1
  have hb := C.2.1
  have hl : lv_has ls 3 [(0, .int x0), (1, .int x1), (2, .int x2)] := hl
  refine lv_iload_n hx hb dX6_isWithin_0 rfl (lv_at hl 0 rfl) ?_
  refine lv_iload_n hx hb dX6_isWithin_1 rfl (lv_at hl 1 rfl) ?_
  refine lv_icmp_lt (tgt := 14) hx hb dX6_isWithin_2 (by decide) (fun c1 => ?_) (fun c1 => ?_)
  · have hf := fd_ifp c1 hf
    refine lv_iconst (v := (0 : Int32)) hx hb dX6_isWithin_14 (by decide) ?_
    cases hf
    exact fd_zret .boolean C hr hlk hH rfl dX6_isWithin_15
  · have hf := fd_ifn c1 hf
    refine lv_iload_n hx hb dX6_isWithin_5 rfl (lv_at hl 0 rfl) ?_
    refine lv_iload_n hx hb dX6_isWithin_6 rfl (lv_at hl 2 rfl) ?_
    refine lv_icmp_gt (tgt := 14) hx hb dX6_isWithin_7 (by decide) (fun c2 => ?_) (fun c2 => ?_)
    · have hf := fd_ifp c2 hf
      refine lv_iconst (v := (0 : Int32)) hx hb dX6_isWithin_14 (by decide) ?_
      cases hf
      exact fd_zret .boolean C hr hlk hH rfl dX6_isWithin_15
    · have hf := fd_ifn c2 hf
      refine lv_iconst (v := (1 : Int32)) hx hb dX6_isWithin_10 (by decide) ?_
      refine lv_goto (tgt := 15) hx hb dX6_isWithin_11 (by decide) ?_
      cases hf
      exact fd_zret .boolean C hr hlk hH rfl dX6_isWithin_15
theorem dX6_isRoute_0 : decode cX6_isRoute 0 = .ok (.iload_n 0, 1) := by decide +kernel
theorem dX6_isRoute_1 : decode cX6_isRoute 1 = .ok (.iconst 0, 1) := by decide +kernel
theorem dX6_isRoute_2 : decode cX6_isRoute 2 = .ok (.iconst 3, 1) := by decide +kernel
theorem dX6_isRoute_3 : decode cX6_isRoute 3 = .ok (.invokestatic 33, 3) := by decide +kernel
theorem dX6_isRoute_6 : decode cX6_isRoute 6 = .ok (.ifCond .eq 17, 3) := by decide +kernel
theorem dX6_isRoute_9 : decode cX6_isRoute 9 = .ok (.iload_n 1, 1) := by decide +kernel
theorem dX6_isRoute_10 : decode cX6_isRoute 10 = .ok (.iconst 0, 1) := by decide +kernel
theorem dX6_isRoute_11 : decode cX6_isRoute 11 = .ok (.bipush 7, 2) := by decide +kernel
theorem dX6_isRoute_13 : decode cX6_isRoute 13 = .ok (.invokestatic 33, 3) := by decide +kernel
theorem dX6_isRoute_16 : decode cX6_isRoute 16 = .ok (.ifCond .eq 7, 3) := by decide +kernel
theorem dX6_isRoute_19 : decode cX6_isRoute 19 = .ok (.iconst 1, 1) := by decide +kernel
theorem dX6_isRoute_20 : decode cX6_isRoute 20 = .ok (.goto 4, 3) := by decide +kernel
theorem dX6_isRoute_23 : decode cX6_isRoute 23 = .ok (.iconst 0, 1) := by decide +kernel
theorem dX6_isRoute_24 : decode cX6_isRoute 24 = .ok (.ireturn, 1) := by decide +kernel
set_option maxHeartbeats 4000000 in
set_option maxRecDepth 100000 in
theorem cF_isRoute (l : Launch) (E : fd_E) (S : fd_S) (x0 : Int32) (x1 : Int32) : fd_Ct l yX6_isRoute cX6_isRoute 2 (some .boolean) (fd_rm 1 22) E S [.int x0, .int x1] (some (.int (zF_isRoute x0 x1))) S := by
  generalize hf : zF_isRoute x0 x1 = r0
  unfold zF_isRoute at hf
  refine fd_Ct_of (by decide +kernel) (Nat.le_of_ble_eq_true rfl) ?_
  intro p e s m below meth c ls C hr hlk hH hl
  have hx := C.1
  have hb := C.2.1
  have hl : lv_has ls 2 [(0, .int x0), (1, .int x1)] := hl
  refine lv_iload_n hx hb dX6_isRoute_0 rfl (lv_at hl 0 rfl) ?_
  refine lv_iconst (v := (0 : Int32)) hx hb dX6_isRoute_1 (by decide) ?_
  refine lv_iconst (v := (3 : Int32)) hx hb dX6_isRoute_2 (by decide) ?_
  refine fd_callS1 [.int x0, .int (0 : Int32), .int (3 : Int32)] C hl.1 hH (cF_isWithin l E S x0 (0 : Int32) (3 : Int32)) wm_X6_33 ⟨rfl, rfl, Nat.le_of_ble_eq_true rfl, Nat.le_of_ble_eq_true rfl⟩ rfl rfl (Nat.le_of_ble_eq_true rfl) ⟨Nat.le_refl _, Nat.le_refl _⟩ dX6_isRoute_3 (fun H locs hH => ?_)
  refine lv_if_eq (tgt := 23) hx hb dX6_isRoute_6 (by decide) (fun c1 => ?_) (fun c1 => ?_)
  · have hf := fd_ifp c1 hf
    refine lv_iconst (v := (0 : Int32)) hx hb dX6_isRoute_23 (by decide) ?_
    cases hf
    exact fd_zret .boolean C hr hlk hH rfl dX6_isRoute_24
  · have hf := fd_ifn c1 hf
    refine lv_iload_n hx hb dX6_isRoute_9 rfl (lv_at hl 1 rfl) ?_
    refine lv_iconst (v := (0 : Int32)) hx hb dX6_isRoute_10 (by decide) ?_
    refine lv_bipush (v := (7 : Int32)) hx hb dX6_isRoute_11 (by decide) ?_
    refine fd_callS1 [.int x1, .int (0 : Int32), .int (7 : Int32)] C hl.1 hH (cF_isWithin l E S x1 (0 : Int32) (7 : Int32)) wm_X6_33 ⟨rfl, rfl, Nat.le_of_ble_eq_true rfl, Nat.le_of_ble_eq_true rfl⟩ rfl rfl (Nat.le_of_ble_eq_true rfl) ⟨Nat.le_refl _, Nat.le_refl _⟩ dX6_isRoute_13 (fun H locs hH => ?_)
    refine lv_if_eq (tgt := 23) hx hb dX6_isRoute_16 (by decide) (fun c2 => ?_) (fun c2 => ?_)
    · have hf := fd_ifp c2 hf
      refine lv_iconst (v := (0 : Int32)) hx hb dX6_isRoute_23 (by decide) ?_
      cases hf
      exact fd_zret .boolean C hr hlk hH rfl dX6_isRoute_24
    · have hf := fd_ifn c2 hf
      refine lv_iconst (v := (1 : Int32)) hx hb dX6_isRoute_19 (by decide) ?_
      refine lv_goto (tgt := 24) hx hb dX6_isRoute_20 (by decide) ?_
      cases hf
      exact fd_zret .boolean C hr hlk hH rfl dX6_isRoute_24
theorem dX6_routeOf_0 : decode cX6_routeOf 0 = .ok (.iload_n 0, 1) := by decide +kernel
theorem dX6_routeOf_1 : decode cX6_routeOf 1 = .ok (.bipush 8, 2) := by decide +kernel
theorem dX6_routeOf_3 : decode cX6_routeOf 3 = .ok (.imul, 1) := by decide +kernel
theorem dX6_routeOf_4 : decode cX6_routeOf 4 = .ok (.iload_n 1, 1) := by decide +kernel
theorem dX6_routeOf_5 : decode cX6_routeOf 5 = .ok (.iadd, 1) := by decide +kernel
theorem dX6_routeOf_6 : decode cX6_routeOf 6 = .ok (.ireturn, 1) := by decide +kernel
set_option maxHeartbeats 4000000 in
set_option maxRecDepth 100000 in
theorem cF_routeOf (l : Launch) (E : fd_E) (S : fd_S) (x0 : Int32) (x1 : Int32) : fd_Ct l yX6_routeOf cX6_routeOf 2 (some .int) (fd_rm 0 0) E S [.int x0, .int x1] (some (.int (zF_routeOf x0 x1))) S := by
  generalize hf : zF_routeOf x0 x1 = r0
  unfold zF_routeOf at hf
  refine fd_Ct_of (by decide +kernel) (Nat.le_of_ble_eq_true rfl) ?_
  intro p e s m below meth c ls C hr hlk hH hl
  have hx := C.1
  have hb := C.2.1
  have hl : lv_has ls 2 [(0, .int x0), (1, .int x1)] := hl
  refine lv_iload_n hx hb dX6_routeOf_0 rfl (lv_at hl 0 rfl) ?_
  refine lv_bipush (v := (8 : Int32)) hx hb dX6_routeOf_1 (by decide) ?_
  refine lv_imul hx hb dX6_routeOf_3 ?_
  refine lv_iload_n hx hb dX6_routeOf_4 rfl (lv_at hl 1 rfl) ?_
  refine lv_iadd hx hb dX6_routeOf_5 ?_
  cases hf
  exact fd_iret C hr hlk hH dX6_routeOf_6
theorem dX0_replace_0 : decode cX0_replace 0 = .ok (.aload_n 0, 1) := by decide +kernel
theorem dX0_replace_1 : decode cX0_replace 1 = .ok (.getfield 18, 3) := by decide +kernel
theorem dX0_replace_4 : decode cX0_replace 4 = .ok (.iload_n 1, 1) := by decide +kernel
theorem dX0_replace_5 : decode cX0_replace 5 = .ok (.iaload, 1) := by decide +kernel
theorem dX0_replace_6 : decode cX0_replace 6 = .ok (.istore_n 3, 1) := by decide +kernel
theorem dX0_replace_7 : decode cX0_replace 7 = .ok (.aload_n 0, 1) := by decide +kernel
theorem dX0_replace_8 : decode cX0_replace 8 = .ok (.getfield 18, 3) := by decide +kernel
theorem dX0_replace_11 : decode cX0_replace 11 = .ok (.iload_n 1, 1) := by decide +kernel
theorem dX0_replace_12 : decode cX0_replace 12 = .ok (.iload_n 2, 1) := by decide +kernel
theorem dX0_replace_13 : decode cX0_replace 13 = .ok (.iastore, 1) := by decide +kernel
theorem dX0_replace_14 : decode cX0_replace 14 = .ok (.iload_n 3, 1) := by decide +kernel
theorem dX0_replace_15 : decode cX0_replace 15 = .ok (.ireturn, 1) := by decide +kernel
set_option maxHeartbeats 4000000 in
set_option maxRecDepth 100000 in
theorem cB_replace (l : Launch) (E : fd_E) (S : fd_S) (x1 : Int32) (x2 : Int32) {r0 : Int32} {S0 : fd_S} (hf : zB_replace S x1 x2 = some (r0, S0)) : fd_Ct l yX0_replace cX0_replace 4 (some .int) (fd_rm 0 0) E S [.ref (E.2.2 1), .int x1, .int x2] (some (.int r0)) S0 := by
  unfold zB_replace at hf
  refine fd_Ct_of (by decide +kernel) (Nat.le_of_ble_eq_true rfl) ?_
  intro p e s m below meth c ls C hr hlk hH hl
  have hx := C.1
  have hb := C.2.1
  have hl : lv_has ls 4 [(0, .ref (E.2.2 1)), (1, .int x1), (2, .int x2)] := hl
  refine lv_aload_n hx hb dX0_replace_0 rfl (lv_at hl 0 rfl) ?_
  refine fd_get 1 0 0 C hH (by decide) rfl (by decide) (by decide) wf_X0_18 (v := .ref (E.2.2 2)) rfl dX0_replace_1 ?_
  refine lv_iload_n hx hb dX0_replace_4 rfl (lv_at hl 1 rfl) ?_
  obtain ⟨g1, hf⟩ := fd_grd hf
  refine fd_iald 2 (7 : Int32) C hH (by decide) rfl rfl g1 dX0_replace_5 ?_
  refine lv_topi (fun y2 ey2 => ?_)
  have hf := fd_ltN ey2 hf
  refine lv_istore_n (lv' := [(3, .int y2), (0, .ref (E.2.2 1)), (1, .int x1), (2, .int x2)]) hx hb dX0_replace_6 rfl hl (by decide) rfl (fun ls hl => ?_)
  refine lv_aload_n hx hb dX0_replace_7 rfl (lv_at hl 1 rfl) ?_
  refine fd_get 1 0 0 C hH (by decide) rfl (by decide) (by decide) wf_X0_18 (v := .ref (E.2.2 2)) rfl dX0_replace_8 ?_
  refine lv_iload_n hx hb dX0_replace_11 rfl (lv_at hl 2 rfl) ?_
  refine lv_iload_n hx hb dX0_replace_12 rfl (lv_at hl 3 rfl) ?_
  obtain ⟨g3, hf⟩ := fd_grd hf
  refine fd_iast 2 (7 : Int32) C hH (by decide) rfl rfl g3 dX0_replace_13 (fun H locs hH => ?_)
  obtain ⟨S4, eS4, hf⟩ := fd_ltS hf
  rw [← eS4] at hH
  refine lv_iload_n hx hb dX0_replace_14 rfl (lv_at hl 0 rfl) ?_
  cases hf
  exact fd_iret C hr hlk hH dX0_replace_15
theorem dX0_lessened_0 : decode cX0_lessened 0 = .ok (.aload_n 0, 1) := by decide +kernel
theorem dX0_lessened_1 : decode cX0_lessened 1 = .ok (.getfield 18, 3) := by decide +kernel
theorem dX0_lessened_4 : decode cX0_lessened 4 = .ok (.iconst 0, 1) := by decide +kernel
theorem dX0_lessened_5 : decode cX0_lessened 5 = .ok (.iaload, 1) := by decide +kernel
theorem dX0_lessened_6 : decode cX0_lessened 6 = .ok (.istore_n 3, 1) := by decide +kernel
theorem dX0_lessened_7 : decode cX0_lessened 7 = .ok (.iload_n 3, 1) := by decide +kernel
theorem dX0_lessened_8 : decode cX0_lessened 8 = .ok (.iconst 1, 1) := by decide +kernel
theorem dX0_lessened_9 : decode cX0_lessened 9 = .ok (.if_icmp .lt 7, 3) := by decide +kernel
theorem dX0_lessened_12 : decode cX0_lessened 12 = .ok (.iload_n 2, 1) := by decide +kernel
theorem dX0_lessened_13 : decode cX0_lessened 13 = .ok (.ifCond .ge 5, 3) := by decide +kernel
theorem dX0_lessened_16 : decode cX0_lessened 16 = .ok (.iload_n 1, 1) := by decide +kernel
theorem dX0_lessened_17 : decode cX0_lessened 17 = .ok (.ireturn, 1) := by decide +kernel
theorem dX0_lessened_18 : decode cX0_lessened 18 = .ok (.iload_n 2, 1) := by decide +kernel
theorem dX0_lessened_19 : decode cX0_lessened 19 = .ok (.iload_n 3, 1) := by decide +kernel
theorem dX0_lessened_20 : decode cX0_lessened 20 = .ok (.idiv, 1) := by decide +kernel
theorem dX0_lessened_21 : decode cX0_lessened 21 = .ok (.istore 4, 2) := by decide +kernel
theorem dX0_lessened_23 : decode cX0_lessened 23 = .ok (.iload 4, 2) := by decide +kernel
theorem dX0_lessened_25 : decode cX0_lessened 25 = .ok (.bipush 30, 2) := by decide +kernel
theorem dX0_lessened_27 : decode cX0_lessened 27 = .ok (.if_icmp .le 5, 3) := by decide +kernel
theorem dX0_lessened_30 : decode cX0_lessened 30 = .ok (.iconst 0, 1) := by decide +kernel
theorem dX0_lessened_31 : decode cX0_lessened 31 = .ok (.ireturn, 1) := by decide +kernel
theorem dX0_lessened_32 : decode cX0_lessened 32 = .ok (.iload_n 1, 1) := by decide +kernel
theorem dX0_lessened_33 : decode cX0_lessened 33 = .ok (.iload 4, 2) := by decide +kernel
theorem dX0_lessened_35 : decode cX0_lessened 35 = .ok (.ishr, 1) := by decide +kernel
theorem dX0_lessened_36 : decode cX0_lessened 36 = .ok (.i2l, 1) := by decide +kernel
theorem dX0_lessened_37 : decode cX0_lessened 37 = .ok (.lstore 5, 2) := by decide +kernel
theorem dX0_lessened_39 : decode cX0_lessened 39 = .ok (.getstatic 23, 3) := by decide +kernel
theorem dX0_lessened_42 : decode cX0_lessened 42 = .ok (.arraylength, 1) := by decide +kernel
theorem dX0_lessened_43 : decode cX0_lessened 43 = .ok (.iload_n 2, 1) := by decide +kernel
theorem dX0_lessened_44 : decode cX0_lessened 44 = .ok (.iload_n 3, 1) := by decide +kernel
theorem dX0_lessened_45 : decode cX0_lessened 45 = .ok (.irem, 1) := by decide +kernel
theorem dX0_lessened_46 : decode cX0_lessened 46 = .ok (.imul, 1) := by decide +kernel
theorem dX0_lessened_47 : decode cX0_lessened 47 = .ok (.iload_n 3, 1) := by decide +kernel
theorem dX0_lessened_48 : decode cX0_lessened 48 = .ok (.idiv, 1) := by decide +kernel
theorem dX0_lessened_49 : decode cX0_lessened 49 = .ok (.istore 7, 2) := by decide +kernel
theorem dX0_lessened_51 : decode cX0_lessened 51 = .ok (.lload 5, 2) := by decide +kernel
theorem dX0_lessened_53 : decode cX0_lessened 53 = .ok (.getstatic 23, 3) := by decide +kernel
theorem dX0_lessened_56 : decode cX0_lessened 56 = .ok (.iload 7, 2) := by decide +kernel
theorem dX0_lessened_58 : decode cX0_lessened 58 = .ok (.iaload, 1) := by decide +kernel
theorem dX0_lessened_59 : decode cX0_lessened 59 = .ok (.i2l, 1) := by decide +kernel
theorem dX0_lessened_60 : decode cX0_lessened 60 = .ok (.lmul, 1) := by decide +kernel
theorem dX0_lessened_61 : decode cX0_lessened 61 = .ok (.ldc2_w 26, 3) := by decide +kernel
theorem dX0_lessened_64 : decode cX0_lessened 64 = .ok (.ldiv, 1) := by decide +kernel
theorem dX0_lessened_65 : decode cX0_lessened 65 = .ok (.l2i, 1) := by decide +kernel
theorem dX0_lessened_66 : decode cX0_lessened 66 = .ok (.ireturn, 1) := by decide +kernel
set_option maxHeartbeats 4000000 in
set_option maxRecDepth 100000 in
theorem cB_lessened (l : Launch) (E : fd_E) (S : fd_S) (x1 : Int32) (x2 : Int32) {r0 : Int32} (hf : zB_lessened S x1 x2 = some r0) : fd_Ct l yX0_lessened cX0_lessened 8 (some .int) (fd_rm 0 0) E S [.ref (E.2.2 1), .int x1, .int x2] (some (.int r0)) S := by
  unfold zB_lessened at hf
  refine fd_Ct_of (by decide +kernel) (Nat.le_of_ble_eq_true rfl) ?_
  intro p e s m below meth c ls C hr hlk hH hl
  have hx := C.1
  have hb := C.2.1
  have hl : lv_has ls 8 [(0, .ref (E.2.2 1)), (1, .int x1), (2, .int x2)] := hl
  refine lv_aload_n hx hb dX0_lessened_0 rfl (lv_at hl 0 rfl) ?_
  refine fd_get 1 0 0 C hH (by decide) rfl (by decide) (by decide) wf_X0_18 (v := .ref (E.2.2 2)) rfl dX0_lessened_1 ?_
  refine lv_iconst (v := (0 : Int32)) hx hb dX0_lessened_4 (by decide) ?_
  refine fd_iald 2 (7 : Int32) C hH (by decide) rfl rfl (by decide) dX0_lessened_5 ?_
  refine lv_topi (fun y1 ey1 => ?_)
  have hf := fd_ltN ey1 hf
  refine lv_istore_n (lv' := [(3, .int y1), (0, .ref (E.2.2 1)), (1, .int x1), (2, .int x2)]) hx hb dX0_lessened_6 rfl hl (by decide) rfl (fun ls hl => ?_)
  refine lv_iload_n hx hb dX0_lessened_7 rfl (lv_at hl 0 rfl) ?_
  refine lv_iconst (v := (1 : Int32)) hx hb dX0_lessened_8 (by decide) ?_
  refine lv_icmp_lt (tgt := 16) hx hb dX0_lessened_9 (by decide) (fun c2 => ?_) (fun c2 => ?_)
  · have hf := fd_ifp c2 hf
    refine lv_iload_n hx hb dX0_lessened_16 rfl (lv_at hl 2 rfl) ?_
    cases hf
    exact fd_iret C hr hlk hH dX0_lessened_17
  · have hf := fd_ifn c2 hf
    refine lv_iload_n hx hb dX0_lessened_12 rfl (lv_at hl 3 rfl) ?_
    refine lv_if_ge (tgt := 18) hx hb dX0_lessened_13 (by decide) (fun c3 => ?_) (fun c3 => ?_)
    · have hf := fd_ifp c3 hf
      refine lv_iload_n hx hb dX0_lessened_18 rfl (lv_at hl 3 rfl) ?_
      refine lv_iload_n hx hb dX0_lessened_19 rfl (lv_at hl 0 rfl) ?_
      obtain ⟨g4, hf⟩ := fd_grd hf
      refine lv_idiv hx hb dX0_lessened_20 g4 ?_
      refine lv_topi (fun y5 ey5 => ?_)
      have hf := fd_ltN ey5 hf
      refine lv_istore (lv' := [(4, .int y5), (3, .int y1), (0, .ref (E.2.2 1)), (1, .int x1), (2, .int x2)]) hx hb dX0_lessened_21 hl (by decide) rfl (fun ls hl => ?_)
      refine lv_iload hx hb dX0_lessened_23 (lv_at hl 0 rfl) ?_
      refine lv_bipush (v := (30 : Int32)) hx hb dX0_lessened_25 (by decide) ?_
      refine lv_icmp_le (tgt := 32) hx hb dX0_lessened_27 (by decide) (fun c6 => ?_) (fun c6 => ?_)
      · have hf := fd_ifp c6 hf
        refine lv_iload_n hx hb dX0_lessened_32 rfl (lv_at hl 3 rfl) ?_
        refine lv_iload hx hb dX0_lessened_33 (lv_at hl 0 rfl) ?_
        refine lv_ishr hx hb dX0_lessened_35 ?_
        refine lv_i2l (v := (x1 >>> (y5 &&& (31 : Int32))).toInt64) hx hb dX0_lessened_36 rfl ?_
        refine lv_topl (fun y7 ey7 => ?_)
        have hf := fd_ltN ey7 hf
        refine lv_lstore (lv' := [(5, .long y7), (4, .int y5), (3, .int y1), (0, .ref (E.2.2 1)), (1, .int x1), (2, .int x2)]) hx hb dX0_lessened_37 hl (by decide) rfl (fun ls hl => ?_)
        refine fd_getsRow C hH dX0_lessened_39 ?_
        refine fd_tln 102 8 (8 : Int32) fd_row C hH C.2.2.2.2.2.2.2.2.2.1.2 rfl dX0_lessened_42 ?_
        refine lv_iload_n hx hb dX0_lessened_43 rfl (lv_at hl 5 rfl) ?_
        refine lv_iload_n hx hb dX0_lessened_44 rfl (lv_at hl 2 rfl) ?_
        obtain ⟨g8, hf⟩ := fd_grd hf
        refine fd_irem hx hb dX0_lessened_45 g8 ?_
        refine lv_imul hx hb dX0_lessened_46 ?_
        refine lv_iload_n hx hb dX0_lessened_47 rfl (lv_at hl 2 rfl) ?_
        obtain ⟨g9, hf⟩ := fd_grd hf
        refine lv_idiv hx hb dX0_lessened_48 g9 ?_
        refine lv_topi (fun y10 ey10 => ?_)
        have hf := fd_ltN ey10 hf
        refine lv_istore (lv' := [(7, .int y10), (5, .long y7), (4, .int y5), (3, .int y1), (0, .ref (E.2.2 1)), (1, .int x1), (2, .int x2)]) hx hb dX0_lessened_49 hl (by decide) rfl (fun ls hl => ?_)
        refine lv_lload hx hb dX0_lessened_51 (lv_at hl 1 rfl) ?_
        refine fd_getsRow C hH dX0_lessened_53 ?_
        refine lv_iload hx hb dX0_lessened_56 (lv_at hl 0 rfl) ?_
        obtain ⟨g11, hf⟩ := fd_grd hf
        refine fd_tld 102 8 (8 : Int32) fd_row C hH C.2.2.2.2.2.2.2.2.2.1.2 (by decide) rfl g11 dX0_lessened_58 ?_
        refine lv_i2l (v := (fd_tl fd_row y10).toInt64) hx hb dX0_lessened_59 rfl ?_
        refine lv_lmul hx hb dX0_lessened_60 ?_
        refine lv_ldc2 (v := (65536 : Int64)) hx hb C.2.2.2.1 (C.2.2.2.2.1 _ wc_X0_26) dX0_lessened_61 ?_
        refine lv_ldiv hx hb dX0_lessened_64 (by decide) ?_
        refine lv_l2i (v := ((y7 * (fd_tl fd_row y10).toInt64) / (65536 : Int64)).toInt32) hx hb dX0_lessened_65 rfl ?_
        cases hf
        exact fd_iret C hr hlk hH dX0_lessened_66
      · have hf := fd_ifn c6 hf
        refine lv_iconst (v := (0 : Int32)) hx hb dX0_lessened_30 (by decide) ?_
        cases hf
        exact fd_iret C hr hlk hH dX0_lessened_31
    · have hf := fd_ifn c3 hf
      refine lv_iload_n hx hb dX0_lessened_16 rfl (lv_at hl 2 rfl) ?_
      cases hf
      exact fd_iret C hr hlk hH dX0_lessened_17
theorem dX0_copyFrom_0 : decode cX0_copyFrom 0 = .ok (.aload_n 1, 1) := by decide +kernel
theorem dX0_copyFrom_1 : decode cX0_copyFrom 1 = .ok (.getfield 18, 3) := by decide +kernel
theorem dX0_copyFrom_4 : decode cX0_copyFrom 4 = .ok (.iconst 0, 1) := by decide +kernel
theorem dX0_copyFrom_5 : decode cX0_copyFrom 5 = .ok (.aload_n 0, 1) := by decide +kernel
theorem dX0_copyFrom_6 : decode cX0_copyFrom 6 = .ok (.getfield 18, 3) := by decide +kernel
theorem dX0_copyFrom_9 : decode cX0_copyFrom 9 = .ok (.iconst 0, 1) := by decide +kernel
theorem dX0_copyFrom_10 : decode cX0_copyFrom 10 = .ok (.bipush 7, 2) := by decide +kernel
theorem dX0_copyFrom_12 : decode cX0_copyFrom 12 = .ok (.invokestatic 28, 3) := by decide +kernel
theorem dX0_copyFrom_15 : decode cX0_copyFrom 15 = .ok (.return_, 1) := by decide +kernel
set_option maxHeartbeats 4000000 in
set_option maxRecDepth 100000 in
theorem cB_copyFrom (l : Launch) (E : fd_E) (S : fd_S) (u : Nat) (v : Nat) (hu : fd_st u) (hv : fd_st v) {S0 : fd_S} (hf : zB_copyFrom S u v = some S0) : fd_Ct l yX0_copyFrom cX0_copyFrom 2 none (fd_rm 1 18) E S [.ref (E.2.2 (u + 1)), .ref (E.2.2 (v + 1))] none S0 := by
  unfold zB_copyFrom at hf
  refine fd_Ct_of (by decide +kernel) (Nat.le_of_ble_eq_true rfl) ?_
  intro p e s m below meth c ls C hr hlk hH hl
  have hx := C.1
  have hb := C.2.1
  have hl : lv_has ls 2 [(0, .ref (E.2.2 (u + 1))), (1, .ref (E.2.2 (v + 1)))] := hl
  refine lv_aload_n hx hb dX0_copyFrom_0 rfl (lv_at hl 1 rfl) ?_
  refine fd_get (v + 1) 0 0 C hH (fd_st1 hv 1 (by decide)) (fd_st2 hv 1 (by decide) rfl) (by decide) (by decide) wf_X0_18 (v := .ref (E.2.2 (v + 2))) rfl dX0_copyFrom_1 ?_
  refine lv_iconst (v := (0 : Int32)) hx hb dX0_copyFrom_4 (by decide) ?_
  refine lv_aload_n hx hb dX0_copyFrom_5 rfl (lv_at hl 0 rfl) ?_
  refine fd_get (u + 1) 0 0 C hH (fd_st1 hu 1 (by decide)) (fd_st2 hu 1 (by decide) rfl) (by decide) (by decide) wf_X0_18 (v := .ref (E.2.2 (u + 2))) rfl dX0_copyFrom_6 ?_
  refine lv_iconst (v := (0 : Int32)) hx hb dX0_copyFrom_9 (by decide) ?_
  refine lv_bipush (v := (7 : Int32)) hx hb dX0_copyFrom_10 (by decide) ?_
  refine fd_copy (v + 2) (u + 2) 0 0 7 (0 : Int32) (0 : Int32) (7 : Int32) C hl.1 hH (fd_st1 hv 2 (by decide)) (fd_st2 hv 2 (by decide) rfl) (fd_st1 hu 2 (by decide)) (fd_st2 hu 2 (by decide) rfl) rfl rfl rfl (by rw [fd_st3 hv 2 (by decide) rfl]; decide) (by rw [fd_st3 hu 2 (by decide) rfl]; decide) ⟨(by rw [fd_st3 hv 2 (by decide) rfl]; decide), (by rw [fd_st3 hu 2 (by decide) rfl]; decide)⟩ wl_X0_28 fd_acw (Nat.le_of_ble_eq_true rfl) (Nat.le_of_ble_eq_true rfl) dX0_copyFrom_12 (fun H locs hH => ?_)
  obtain ⟨S1, eS1, hf⟩ := fd_ltS hf
  rw [← eS1] at hH
  cases hf
  exact fd_vret C hr hlk hH dX0_copyFrom_15
theorem dX3_begin_0 : decode cX3_begin 0 = .ok (.aload_n 0, 1) := by decide +kernel
theorem dX3_begin_1 : decode cX3_begin 1 = .ok (.iload_n 1, 1) := by decide +kernel
theorem dX3_begin_2 : decode cX3_begin 2 = .ok (.putfield 15, 3) := by decide +kernel
theorem dX3_begin_5 : decode cX3_begin 5 = .ok (.aload_n 0, 1) := by decide +kernel
theorem dX3_begin_6 : decode cX3_begin 6 = .ok (.iconst 0, 1) := by decide +kernel
theorem dX3_begin_7 : decode cX3_begin 7 = .ok (.putfield 19, 3) := by decide +kernel
theorem dX3_begin_10 : decode cX3_begin 10 = .ok (.aload_n 0, 1) := by decide +kernel
theorem dX3_begin_11 : decode cX3_begin 11 = .ok (.iload_n 2, 1) := by decide +kernel
theorem dX3_begin_12 : decode cX3_begin 12 = .ok (.putfield 22, 3) := by decide +kernel
theorem dX3_begin_15 : decode cX3_begin 15 = .ok (.aload_n 0, 1) := by decide +kernel
theorem dX3_begin_16 : decode cX3_begin 16 = .ok (.iconst 0, 1) := by decide +kernel
theorem dX3_begin_17 : decode cX3_begin 17 = .ok (.putfield 25, 3) := by decide +kernel
theorem dX3_begin_20 : decode cX3_begin 20 = .ok (.aload_n 0, 1) := by decide +kernel
theorem dX3_begin_21 : decode cX3_begin 21 = .ok (.iconst 0, 1) := by decide +kernel
theorem dX3_begin_22 : decode cX3_begin 22 = .ok (.putfield 29, 3) := by decide +kernel
theorem dX3_begin_25 : decode cX3_begin 25 = .ok (.aload_n 0, 1) := by decide +kernel
theorem dX3_begin_26 : decode cX3_begin 26 = .ok (.iconst 0, 1) := by decide +kernel
theorem dX3_begin_27 : decode cX3_begin 27 = .ok (.putfield 32, 3) := by decide +kernel
theorem dX3_begin_30 : decode cX3_begin 30 = .ok (.return_, 1) := by decide +kernel
set_option maxHeartbeats 4000000 in
set_option maxRecDepth 100000 in
theorem cR_begin (l : Launch) (E : fd_E) (S : fd_S) (k0 : Nat) (x1 : Int32) (x2 : Int32) {S0 : fd_S} (hf : zR_begin S k0 x1 x2 = some S0) : fd_Ct l yX3_begin cX3_begin 3 none (fd_rm 0 0) E S [.ref (E.2.2 k0), .int x1, .int x2] none S0 := by
  unfold zR_begin at hf
  refine fd_Ct_of (by decide +kernel) (Nat.le_of_ble_eq_true rfl) ?_
  intro p e s m below meth c ls C hr hlk hH hl
  have hx := C.1
  have hb := C.2.1
  have hl : lv_has ls 3 [(0, .ref (E.2.2 k0)), (1, .int x1), (2, .int x2)] := hl
  refine lv_aload_n hx hb dX3_begin_0 rfl (lv_at hl 0 rfl) ?_
  refine lv_iload_n hx hb dX3_begin_1 rfl (lv_at hl 1 rfl) ?_
  obtain ⟨g1, hf⟩ := fd_grd hf
  refine fd_put k0 3 0 (0 : Int32) C hH (fd_rk1 g1) (fd_rk3 g1) (by decide) (by decide) wf_X3_15 rfl rfl rfl rfl rfl (Nat.le_of_ble_eq_true rfl) dX3_begin_2 (fun H locs hH => ?_)
  obtain ⟨S2, eS2, hf⟩ := fd_ltS hf
  rw [← eS2] at hH
  refine lv_aload_n hx hb dX3_begin_5 rfl (lv_at hl 0 rfl) ?_
  refine lv_iconst (v := (0 : Int32)) hx hb dX3_begin_6 (by decide) ?_
  refine fd_put k0 3 1 (1 : Int32) C hH (fd_rk1 g1) (fd_rk3 g1) (by decide) (by decide) wf_X3_19 rfl rfl rfl rfl rfl (Nat.le_of_ble_eq_true rfl) dX3_begin_7 (fun H locs hH => ?_)
  obtain ⟨S3, eS3, hf⟩ := fd_ltS hf
  rw [← eS3] at hH
  refine lv_aload_n hx hb dX3_begin_10 rfl (lv_at hl 0 rfl) ?_
  refine lv_iload_n hx hb dX3_begin_11 rfl (lv_at hl 2 rfl) ?_
  refine fd_put k0 3 2 (2 : Int32) C hH (fd_rk1 g1) (fd_rk3 g1) (by decide) (by decide) wf_X3_22 rfl rfl rfl rfl rfl (Nat.le_of_ble_eq_true rfl) dX3_begin_12 (fun H locs hH => ?_)
  obtain ⟨S4, eS4, hf⟩ := fd_ltS hf
  rw [← eS4] at hH
  refine lv_aload_n hx hb dX3_begin_15 rfl (lv_at hl 0 rfl) ?_
  refine lv_iconst (v := (0 : Int32)) hx hb dX3_begin_16 (by decide) ?_
  refine fd_put k0 3 3 (3 : Int32) C hH (fd_rk1 g1) (fd_rk3 g1) (by decide) (by decide) wf_X3_25 rfl rfl rfl rfl rfl (Nat.le_of_ble_eq_true rfl) dX3_begin_17 (fun H locs hH => ?_)
  obtain ⟨S5, eS5, hf⟩ := fd_ltS hf
  rw [← eS5] at hH
  refine lv_aload_n hx hb dX3_begin_20 rfl (lv_at hl 0 rfl) ?_
  refine lv_iconst (v := (0 : Int32)) hx hb dX3_begin_21 (by decide) ?_
  refine fd_put k0 3 4 (4 : Int32) C hH (fd_rk1 g1) (fd_rk3 g1) (by decide) (by decide) wf_X3_29 rfl rfl rfl rfl rfl (Nat.le_of_ble_eq_true rfl) dX3_begin_22 (fun H locs hH => ?_)
  obtain ⟨S6, eS6, hf⟩ := fd_ltS hf
  rw [← eS6] at hH
  refine lv_aload_n hx hb dX3_begin_25 rfl (lv_at hl 0 rfl) ?_
  refine lv_iconst (v := (0 : Int32)) hx hb dX3_begin_26 (by decide) ?_
  refine fd_put k0 3 6 (6 : Int32) C hH (fd_rk1 g1) (fd_rk3 g1) (by decide) (by decide) wf_X3_32 rfl rfl rfl rfl rfl (Nat.le_of_ble_eq_true rfl) dX3_begin_27 (fun H locs hH => ?_)
  obtain ⟨S7, eS7, hf⟩ := fd_ltS hf
  rw [← eS7] at hH
  cases hf
  exact fd_vret C hr hlk hH dX3_begin_30
theorem dX3_hasCause_0 : decode cX3_hasCause 0 = .ok (.iconst 0, 1) := by decide +kernel
theorem dX3_hasCause_1 : decode cX3_hasCause 1 = .ok (.istore_n 2, 1) := by decide +kernel
theorem dX3_hasCause_2 : decode cX3_hasCause 2 = .ok (.iload_n 2, 1) := by decide +kernel
theorem dX3_hasCause_3 : decode cX3_hasCause 3 = .ok (.aload_n 0, 1) := by decide +kernel
theorem dX3_hasCause_4 : decode cX3_hasCause 4 = .ok (.getfield 32, 3) := by decide +kernel
theorem dX3_hasCause_7 : decode cX3_hasCause 7 = .ok (.if_icmp .ge 21, 3) := by decide +kernel
theorem dX3_hasCause_10 : decode cX3_hasCause 10 = .ok (.aload_n 0, 1) := by decide +kernel
theorem dX3_hasCause_11 : decode cX3_hasCause 11 = .ok (.getfield 9, 3) := by decide +kernel
theorem dX3_hasCause_14 : decode cX3_hasCause 14 = .ok (.iload_n 2, 1) := by decide +kernel
theorem dX3_hasCause_15 : decode cX3_hasCause 15 = .ok (.iaload, 1) := by decide +kernel
theorem dX3_hasCause_16 : decode cX3_hasCause 16 = .ok (.iload_n 1, 1) := by decide +kernel
theorem dX3_hasCause_17 : decode cX3_hasCause 17 = .ok (.if_icmp .ne 5, 3) := by decide +kernel
theorem dX3_hasCause_20 : decode cX3_hasCause 20 = .ok (.iconst 1, 1) := by decide +kernel
theorem dX3_hasCause_21 : decode cX3_hasCause 21 = .ok (.ireturn, 1) := by decide +kernel
theorem dX3_hasCause_22 : decode cX3_hasCause 22 = .ok (.iinc 2 1, 3) := by decide +kernel
theorem dX3_hasCause_25 : decode cX3_hasCause 25 = .ok (.goto (-23), 3) := by decide +kernel
theorem dX3_hasCause_28 : decode cX3_hasCause 28 = .ok (.iconst 0, 1) := by decide +kernel
theorem dX3_hasCause_29 : decode cX3_hasCause 29 = .ok (.ireturn, 1) := by decide +kernel
set_option maxHeartbeats 4000000 in
set_option maxRecDepth 100000 in
theorem wR_hasCause_2 {p : Program} {l : Launch} {e : Env} {s : State} {m : MethodId} {args : Array Value} {below : List Frame} {meth : Method} {c : Code} {E : fd_E} (C : fd_C p s m args c yX3_hasCause.cls cX3_hasCause 3 E) (hr : meth.sig.returnType = (some .boolean)) (hlk : meth.locks = false) (fu : Nat) {r0 : Int32} : ∀ (n : Nat) (S : fd_S) (k0 : Nat) (x1 : Int32) (x2 : Int32) (H : Heap) (locs : List Loc) (ls : Array Slot), zR_hasCause_2 fu n S k0 x1 x2 = some r0 → fd_H E S s H locs → lv_has ls 3 [(0, .ref (E.2.2 k0)), (1, .int x1), (2, .int x2)] → W p l e (fd_rm 0 0) s m args below meth c H locs 0 0 (MQ below (fd_Q E (some (.int r0)) S) args s 0 0 (fd_A E)) (F0 m 2 ls []) := by
  have hx := C.1
  have hb := C.2.1
  intro n
  induction n with
  | zero =>
    intro S k0 x1 x2 H locs ls hf
    rw [zR_hasCause_2] at hf
    cases hf
  | succ n ih =>
    intro S k0 x1 x2 H locs ls hf hH hl
    rw [zR_hasCause_2] at hf
    refine lv_iload_n hx hb dX3_hasCause_2 rfl (lv_at hl 2 rfl) ?_
    refine lv_aload_n hx hb dX3_hasCause_3 rfl (lv_at hl 0 rfl) ?_
    obtain ⟨g1, hf⟩ := fd_grd hf
    refine fd_get k0 3 6 C hH (fd_rk1 g1) (fd_rk3 g1) (by decide) (by decide) wf_X3_32 (v := .int (S k0 (6 : Int32))) rfl dX3_hasCause_4 ?_
    refine lv_icmp_ge (tgt := 28) hx hb dX3_hasCause_7 (by decide) (fun c2 => ?_) (fun c2 => ?_)
    · have hf := fd_ifp c2 hf
      refine lv_iconst (v := (0 : Int32)) hx hb dX3_hasCause_28 (by decide) ?_
      cases hf
      exact fd_zret .boolean C hr hlk hH rfl dX3_hasCause_29
    · have hf := fd_ifn c2 hf
      refine lv_aload_n hx hb dX3_hasCause_10 rfl (lv_at hl 0 rfl) ?_
      refine fd_get k0 3 5 C hH (fd_rk1 g1) (fd_rk3 g1) (by decide) (by decide) wf_X3_9 (v := .ref (E.2.2 (k0 + 6))) rfl dX3_hasCause_11 ?_
      refine lv_iload_n hx hb dX3_hasCause_14 rfl (lv_at hl 2 rfl) ?_
      obtain ⟨g3, hf⟩ := fd_grd hf
      refine fd_iald (k0 + 6) (4 : Int32) C hH (fd_rk2 g1) (fd_rk4 g1) (fd_rk5 g1) g3 dX3_hasCause_15 ?_
      refine lv_iload_n hx hb dX3_hasCause_16 rfl (lv_at hl 1 rfl) ?_
      refine lv_icmp_ne (tgt := 22) hx hb dX3_hasCause_17 (by decide) (fun c4 => ?_) (fun c4 => ?_)
      · have hf := fd_ifn c4 hf
        obtain ⟨y5, ey5, hf⟩ := fd_ltS hf
        refine lv_iinc (v := y5) (lv' := [(2, .int y5), (0, .ref (E.2.2 k0)), (1, .int x1)]) hx hb dX3_hasCause_22 hl (k := 2) rfl (by rw [ey5]; rfl) (by decide) rfl (fun ls hl => ?_)
        refine lv_goto (tgt := 2) hx hb dX3_hasCause_25 (by decide) ?_
        exact ih S k0 x1 y5 _ _ _ hf hH (lv_sub hl [1, 2, 0] rfl)
      · have hf := fd_ifp c4 hf
        refine lv_iconst (v := (1 : Int32)) hx hb dX3_hasCause_20 (by decide) ?_
        cases hf
        exact fd_zret .boolean C hr hlk hH rfl dX3_hasCause_21
set_option maxHeartbeats 4000000 in
set_option maxRecDepth 100000 in
theorem cR_hasCause (l : Launch) (E : fd_E) (fu : Nat) (S : fd_S) (k0 : Nat) (x1 : Int32) {r0 : Int32} (hf : zR_hasCause fu S k0 x1 = some r0) : fd_Ct l yX3_hasCause cX3_hasCause 3 (some .boolean) (fd_rm 0 0) E S [.ref (E.2.2 k0), .int x1] (some (.int r0)) S := by
  unfold zR_hasCause at hf
  refine fd_Ct_of (by decide +kernel) (Nat.le_of_ble_eq_true rfl) ?_
  intro p e s m below meth c ls C hr hlk hH hl
  have hx := C.1
  have hb := C.2.1
  have hl : lv_has ls 3 [(0, .ref (E.2.2 k0)), (1, .int x1)] := hl
  refine lv_iconst (v := (0 : Int32)) hx hb dX3_hasCause_0 (by decide) ?_
  refine lv_istore_n (lv' := [(2, .int (0 : Int32)), (0, .ref (E.2.2 k0)), (1, .int x1)]) hx hb dX3_hasCause_1 rfl hl (by decide) rfl (fun ls hl => ?_)
  exact wR_hasCause_2 C hr hlk fu fu S k0 x1 (0 : Int32) _ _ _ hf hH (lv_sub hl [1, 2, 0] rfl)
theorem dX3_addCause_0 : decode cX3_addCause 0 = .ok (.aload_n 0, 1) := by decide +kernel
theorem dX3_addCause_1 : decode cX3_addCause 1 = .ok (.getfield 32, 3) := by decide +kernel
theorem dX3_addCause_4 : decode cX3_addCause 4 = .ok (.iconst 4, 1) := by decide +kernel
theorem dX3_addCause_5 : decode cX3_addCause 5 = .ok (.if_icmp .ge 24, 3) := by decide +kernel
theorem dX3_addCause_8 : decode cX3_addCause 8 = .ok (.aload_n 0, 1) := by decide +kernel
theorem dX3_addCause_9 : decode cX3_addCause 9 = .ok (.getfield 9, 3) := by decide +kernel
theorem dX3_addCause_12 : decode cX3_addCause 12 = .ok (.aload_n 0, 1) := by decide +kernel
theorem dX3_addCause_13 : decode cX3_addCause 13 = .ok (.getfield 32, 3) := by decide +kernel
theorem dX3_addCause_16 : decode cX3_addCause 16 = .ok (.iload_n 1, 1) := by decide +kernel
theorem dX3_addCause_17 : decode cX3_addCause 17 = .ok (.iastore, 1) := by decide +kernel
theorem dX3_addCause_18 : decode cX3_addCause 18 = .ok (.aload_n 0, 1) := by decide +kernel
theorem dX3_addCause_19 : decode cX3_addCause 19 = .ok (.dup, 1) := by decide +kernel
theorem dX3_addCause_20 : decode cX3_addCause 20 = .ok (.getfield 32, 3) := by decide +kernel
theorem dX3_addCause_23 : decode cX3_addCause 23 = .ok (.iconst 1, 1) := by decide +kernel
theorem dX3_addCause_24 : decode cX3_addCause 24 = .ok (.iadd, 1) := by decide +kernel
theorem dX3_addCause_25 : decode cX3_addCause 25 = .ok (.putfield 32, 3) := by decide +kernel
theorem dX3_addCause_28 : decode cX3_addCause 28 = .ok (.return_, 1) := by decide +kernel
theorem dX3_addCause_29 : decode cX3_addCause 29 = .ok (.aload_n 0, 1) := by decide +kernel
theorem dX3_addCause_30 : decode cX3_addCause 30 = .ok (.getfield 9, 3) := by decide +kernel
theorem dX3_addCause_33 : decode cX3_addCause 33 = .ok (.iconst 1, 1) := by decide +kernel
theorem dX3_addCause_34 : decode cX3_addCause 34 = .ok (.aload_n 0, 1) := by decide +kernel
theorem dX3_addCause_35 : decode cX3_addCause 35 = .ok (.getfield 9, 3) := by decide +kernel
theorem dX3_addCause_38 : decode cX3_addCause 38 = .ok (.iconst 0, 1) := by decide +kernel
theorem dX3_addCause_39 : decode cX3_addCause 39 = .ok (.iconst 3, 1) := by decide +kernel
theorem dX3_addCause_40 : decode cX3_addCause 40 = .ok (.invokestatic 35, 3) := by decide +kernel
theorem dX3_addCause_43 : decode cX3_addCause 43 = .ok (.aload_n 0, 1) := by decide +kernel
theorem dX3_addCause_44 : decode cX3_addCause 44 = .ok (.getfield 9, 3) := by decide +kernel
theorem dX3_addCause_47 : decode cX3_addCause 47 = .ok (.iconst 3, 1) := by decide +kernel
theorem dX3_addCause_48 : decode cX3_addCause 48 = .ok (.iload_n 1, 1) := by decide +kernel
theorem dX3_addCause_49 : decode cX3_addCause 49 = .ok (.iastore, 1) := by decide +kernel
theorem dX3_addCause_50 : decode cX3_addCause 50 = .ok (.return_, 1) := by decide +kernel
set_option maxHeartbeats 4000000 in
set_option maxRecDepth 100000 in
theorem cR_addCause (l : Launch) (E : fd_E) (S : fd_S) (k0 : Nat) (x1 : Int32) {S0 : fd_S} (hf : zR_addCause S k0 x1 = some S0) : fd_Ct l yX3_addCause cX3_addCause 2 none (fd_rm 1 18) E S [.ref (E.2.2 k0), .int x1] none S0 := by
  unfold zR_addCause at hf
  refine fd_Ct_of (by decide +kernel) (Nat.le_of_ble_eq_true rfl) ?_
  intro p e s m below meth c ls C hr hlk hH hl
  have hx := C.1
  have hb := C.2.1
  have hl : lv_has ls 2 [(0, .ref (E.2.2 k0)), (1, .int x1)] := hl
  refine lv_aload_n hx hb dX3_addCause_0 rfl (lv_at hl 0 rfl) ?_
  obtain ⟨g1, hf⟩ := fd_grd hf
  refine fd_get k0 3 6 C hH (fd_rk1 g1) (fd_rk3 g1) (by decide) (by decide) wf_X3_32 (v := .int (S k0 (6 : Int32))) rfl dX3_addCause_1 ?_
  refine lv_iconst (v := (4 : Int32)) hx hb dX3_addCause_4 (by decide) ?_
  refine lv_icmp_ge (tgt := 29) hx hb dX3_addCause_5 (by decide) (fun c2 => ?_) (fun c2 => ?_)
  · have hf := fd_ifp c2 hf
    refine lv_aload_n hx hb dX3_addCause_29 rfl (lv_at hl 0 rfl) ?_
    refine fd_get k0 3 5 C hH (fd_rk1 g1) (fd_rk3 g1) (by decide) (by decide) wf_X3_9 (v := .ref (E.2.2 (k0 + 6))) rfl dX3_addCause_30 ?_
    refine lv_iconst (v := (1 : Int32)) hx hb dX3_addCause_33 (by decide) ?_
    refine lv_aload_n hx hb dX3_addCause_34 rfl (lv_at hl 0 rfl) ?_
    refine fd_get k0 3 5 C hH (fd_rk1 g1) (fd_rk3 g1) (by decide) (by decide) wf_X3_9 (v := .ref (E.2.2 (k0 + 6))) rfl dX3_addCause_35 ?_
    refine lv_iconst (v := (0 : Int32)) hx hb dX3_addCause_38 (by decide) ?_
    refine lv_iconst (v := (3 : Int32)) hx hb dX3_addCause_39 (by decide) ?_
    refine fd_copy (k0 + 6) (k0 + 6) 1 0 3 (1 : Int32) (0 : Int32) (3 : Int32) C hl.1 hH (fd_rk2 g1) (fd_rk4 g1) (fd_rk2 g1) (fd_rk4 g1) rfl rfl rfl (by rw [fd_rk6 g1]; decide) (by rw [fd_rk6 g1]; decide) ⟨(by rw [fd_rk6 g1]; decide), (by rw [fd_rk6 g1]; decide)⟩ wl_X3_35 fd_acw (Nat.le_of_ble_eq_true rfl) (Nat.le_of_ble_eq_true rfl) dX3_addCause_40 (fun H locs hH => ?_)
    obtain ⟨S3, eS3, hf⟩ := fd_ltS hf
    rw [← eS3] at hH
    refine lv_aload_n hx hb dX3_addCause_43 rfl (lv_at hl 0 rfl) ?_
    refine fd_get k0 3 5 C hH (fd_rk1 g1) (fd_rk3 g1) (by decide) (by decide) wf_X3_9 (v := .ref (E.2.2 (k0 + 6))) rfl dX3_addCause_44 ?_
    refine lv_iconst (v := (3 : Int32)) hx hb dX3_addCause_47 (by decide) ?_
    refine lv_iload_n hx hb dX3_addCause_48 rfl (lv_at hl 1 rfl) ?_
    refine fd_iast (k0 + 6) (4 : Int32) C hH (fd_rk2 g1) (fd_rk4 g1) (fd_rk5 g1) (by decide) dX3_addCause_49 (fun H locs hH => ?_)
    obtain ⟨S4, eS4, hf⟩ := fd_ltS hf
    rw [← eS4] at hH
    cases hf
    exact fd_vret C hr hlk hH dX3_addCause_50
  · have hf := fd_ifn c2 hf
    refine lv_aload_n hx hb dX3_addCause_8 rfl (lv_at hl 0 rfl) ?_
    refine fd_get k0 3 5 C hH (fd_rk1 g1) (fd_rk3 g1) (by decide) (by decide) wf_X3_9 (v := .ref (E.2.2 (k0 + 6))) rfl dX3_addCause_9 ?_
    refine lv_aload_n hx hb dX3_addCause_12 rfl (lv_at hl 0 rfl) ?_
    refine fd_get k0 3 6 C hH (fd_rk1 g1) (fd_rk3 g1) (by decide) (by decide) wf_X3_32 (v := .int (S k0 (6 : Int32))) rfl dX3_addCause_13 ?_
    refine lv_iload_n hx hb dX3_addCause_16 rfl (lv_at hl 1 rfl) ?_
    obtain ⟨g5, hf⟩ := fd_grd hf
    refine fd_iast (k0 + 6) (4 : Int32) C hH (fd_rk2 g1) (fd_rk4 g1) (fd_rk5 g1) g5 dX3_addCause_17 (fun H locs hH => ?_)
    obtain ⟨S6, eS6, hf⟩ := fd_ltS hf
    rw [← eS6] at hH
    refine lv_aload_n hx hb dX3_addCause_18 rfl (lv_at hl 0 rfl) ?_
    refine lv_dup hx hb dX3_addCause_19 rfl ?_
    refine fd_get k0 3 6 C hH (fd_rk1 g1) (fd_rk3 g1) (by decide) (by decide) wf_X3_32 (v := .int (S6 k0 (6 : Int32))) rfl dX3_addCause_20 ?_
    refine lv_iconst (v := (1 : Int32)) hx hb dX3_addCause_23 (by decide) ?_
    refine lv_iadd hx hb dX3_addCause_24 ?_
    refine fd_put k0 3 6 (6 : Int32) C hH (fd_rk1 g1) (fd_rk3 g1) (by decide) (by decide) wf_X3_32 rfl rfl rfl rfl rfl (Nat.le_of_ble_eq_true rfl) dX3_addCause_25 (fun H locs hH => ?_)
    obtain ⟨S7, eS7, hf⟩ := fd_ltS hf
    rw [← eS7] at hH
    cases hf
    exact fd_vret C hr hlk hH dX3_addCause_28
theorem dX3_copyFrom_0 : decode cX3_copyFrom 0 = .ok (.aload_n 0, 1) := by decide +kernel
theorem dX3_copyFrom_1 : decode cX3_copyFrom 1 = .ok (.aload_n 1, 1) := by decide +kernel
theorem dX3_copyFrom_2 : decode cX3_copyFrom 2 = .ok (.getfield 15, 3) := by decide +kernel
theorem dX3_copyFrom_5 : decode cX3_copyFrom 5 = .ok (.putfield 15, 3) := by decide +kernel
theorem dX3_copyFrom_8 : decode cX3_copyFrom 8 = .ok (.aload_n 0, 1) := by decide +kernel
theorem dX3_copyFrom_9 : decode cX3_copyFrom 9 = .ok (.aload_n 1, 1) := by decide +kernel
theorem dX3_copyFrom_10 : decode cX3_copyFrom 10 = .ok (.getfield 19, 3) := by decide +kernel
theorem dX3_copyFrom_13 : decode cX3_copyFrom 13 = .ok (.putfield 19, 3) := by decide +kernel
theorem dX3_copyFrom_16 : decode cX3_copyFrom 16 = .ok (.aload_n 0, 1) := by decide +kernel
theorem dX3_copyFrom_17 : decode cX3_copyFrom 17 = .ok (.aload_n 1, 1) := by decide +kernel
theorem dX3_copyFrom_18 : decode cX3_copyFrom 18 = .ok (.getfield 22, 3) := by decide +kernel
theorem dX3_copyFrom_21 : decode cX3_copyFrom 21 = .ok (.putfield 22, 3) := by decide +kernel
theorem dX3_copyFrom_24 : decode cX3_copyFrom 24 = .ok (.aload_n 0, 1) := by decide +kernel
theorem dX3_copyFrom_25 : decode cX3_copyFrom 25 = .ok (.aload_n 1, 1) := by decide +kernel
theorem dX3_copyFrom_26 : decode cX3_copyFrom 26 = .ok (.getfield 25, 3) := by decide +kernel
theorem dX3_copyFrom_29 : decode cX3_copyFrom 29 = .ok (.putfield 25, 3) := by decide +kernel
theorem dX3_copyFrom_32 : decode cX3_copyFrom 32 = .ok (.aload_n 0, 1) := by decide +kernel
theorem dX3_copyFrom_33 : decode cX3_copyFrom 33 = .ok (.aload_n 1, 1) := by decide +kernel
theorem dX3_copyFrom_34 : decode cX3_copyFrom 34 = .ok (.getfield 29, 3) := by decide +kernel
theorem dX3_copyFrom_37 : decode cX3_copyFrom 37 = .ok (.putfield 29, 3) := by decide +kernel
theorem dX3_copyFrom_40 : decode cX3_copyFrom 40 = .ok (.aload_n 1, 1) := by decide +kernel
theorem dX3_copyFrom_41 : decode cX3_copyFrom 41 = .ok (.getfield 9, 3) := by decide +kernel
theorem dX3_copyFrom_44 : decode cX3_copyFrom 44 = .ok (.iconst 0, 1) := by decide +kernel
theorem dX3_copyFrom_45 : decode cX3_copyFrom 45 = .ok (.aload_n 0, 1) := by decide +kernel
theorem dX3_copyFrom_46 : decode cX3_copyFrom 46 = .ok (.getfield 9, 3) := by decide +kernel
theorem dX3_copyFrom_49 : decode cX3_copyFrom 49 = .ok (.iconst 0, 1) := by decide +kernel
theorem dX3_copyFrom_50 : decode cX3_copyFrom 50 = .ok (.iconst 4, 1) := by decide +kernel
theorem dX3_copyFrom_51 : decode cX3_copyFrom 51 = .ok (.invokestatic 35, 3) := by decide +kernel
theorem dX3_copyFrom_54 : decode cX3_copyFrom 54 = .ok (.aload_n 0, 1) := by decide +kernel
theorem dX3_copyFrom_55 : decode cX3_copyFrom 55 = .ok (.aload_n 1, 1) := by decide +kernel
theorem dX3_copyFrom_56 : decode cX3_copyFrom 56 = .ok (.getfield 32, 3) := by decide +kernel
theorem dX3_copyFrom_59 : decode cX3_copyFrom 59 = .ok (.putfield 32, 3) := by decide +kernel
theorem dX3_copyFrom_62 : decode cX3_copyFrom 62 = .ok (.return_, 1) := by decide +kernel
set_option maxHeartbeats 4000000 in
set_option maxRecDepth 100000 in
theorem cR_copyFrom (l : Launch) (E : fd_E) (S : fd_S) (k0 : Nat) (k1 : Nat) {S0 : fd_S} (hf : zR_copyFrom S k0 k1 = some S0) : fd_Ct l yX3_copyFrom cX3_copyFrom 2 none (fd_rm 1 18) E S [.ref (E.2.2 k0), .ref (E.2.2 k1)] none S0 := by
  unfold zR_copyFrom at hf
  refine fd_Ct_of (by decide +kernel) (Nat.le_of_ble_eq_true rfl) ?_
  intro p e s m below meth c ls C hr hlk hH hl
  have hx := C.1
  have hb := C.2.1
  have hl : lv_has ls 2 [(0, .ref (E.2.2 k0)), (1, .ref (E.2.2 k1))] := hl
  refine lv_aload_n hx hb dX3_copyFrom_0 rfl (lv_at hl 0 rfl) ?_
  refine lv_aload_n hx hb dX3_copyFrom_1 rfl (lv_at hl 1 rfl) ?_
  obtain ⟨g1, hf⟩ := fd_grd hf
  refine fd_get k1 3 0 C hH (fd_rk1 g1) (fd_rk3 g1) (by decide) (by decide) wf_X3_15 (v := .int (S k1 (0 : Int32))) rfl dX3_copyFrom_2 ?_
  obtain ⟨g2, hf⟩ := fd_grd hf
  refine fd_put k0 3 0 (0 : Int32) C hH (fd_rk1 g2) (fd_rk3 g2) (by decide) (by decide) wf_X3_15 rfl rfl rfl rfl rfl (Nat.le_of_ble_eq_true rfl) dX3_copyFrom_5 (fun H locs hH => ?_)
  obtain ⟨S3, eS3, hf⟩ := fd_ltS hf
  rw [← eS3] at hH
  refine lv_aload_n hx hb dX3_copyFrom_8 rfl (lv_at hl 0 rfl) ?_
  refine lv_aload_n hx hb dX3_copyFrom_9 rfl (lv_at hl 1 rfl) ?_
  refine fd_get k1 3 1 C hH (fd_rk1 g1) (fd_rk3 g1) (by decide) (by decide) wf_X3_19 (v := .int (S3 k1 (1 : Int32))) rfl dX3_copyFrom_10 ?_
  refine fd_put k0 3 1 (1 : Int32) C hH (fd_rk1 g2) (fd_rk3 g2) (by decide) (by decide) wf_X3_19 rfl rfl rfl rfl rfl (Nat.le_of_ble_eq_true rfl) dX3_copyFrom_13 (fun H locs hH => ?_)
  obtain ⟨S4, eS4, hf⟩ := fd_ltS hf
  rw [← eS4] at hH
  refine lv_aload_n hx hb dX3_copyFrom_16 rfl (lv_at hl 0 rfl) ?_
  refine lv_aload_n hx hb dX3_copyFrom_17 rfl (lv_at hl 1 rfl) ?_
  refine fd_get k1 3 2 C hH (fd_rk1 g1) (fd_rk3 g1) (by decide) (by decide) wf_X3_22 (v := .int (S4 k1 (2 : Int32))) rfl dX3_copyFrom_18 ?_
  refine fd_put k0 3 2 (2 : Int32) C hH (fd_rk1 g2) (fd_rk3 g2) (by decide) (by decide) wf_X3_22 rfl rfl rfl rfl rfl (Nat.le_of_ble_eq_true rfl) dX3_copyFrom_21 (fun H locs hH => ?_)
  obtain ⟨S5, eS5, hf⟩ := fd_ltS hf
  rw [← eS5] at hH
  refine lv_aload_n hx hb dX3_copyFrom_24 rfl (lv_at hl 0 rfl) ?_
  refine lv_aload_n hx hb dX3_copyFrom_25 rfl (lv_at hl 1 rfl) ?_
  refine fd_get k1 3 3 C hH (fd_rk1 g1) (fd_rk3 g1) (by decide) (by decide) wf_X3_25 (v := .int (S5 k1 (3 : Int32))) rfl dX3_copyFrom_26 ?_
  obtain ⟨g6, hf⟩ := fd_grd hf
  refine fd_put k0 3 3 (3 : Int32) C hH (fd_rk1 g2) (fd_rk3 g2) (by decide) (by decide) wf_X3_25 rfl rfl (fd_nb g6) (fd_fb g6) rfl (Nat.le_of_ble_eq_true rfl) dX3_copyFrom_29 (fun H locs hH => ?_)
  obtain ⟨S7, eS7, hf⟩ := fd_ltS hf
  rw [← eS7] at hH
  refine lv_aload_n hx hb dX3_copyFrom_32 rfl (lv_at hl 0 rfl) ?_
  refine lv_aload_n hx hb dX3_copyFrom_33 rfl (lv_at hl 1 rfl) ?_
  refine fd_get k1 3 4 C hH (fd_rk1 g1) (fd_rk3 g1) (by decide) (by decide) wf_X3_29 (v := .int (S7 k1 (4 : Int32))) rfl dX3_copyFrom_34 ?_
  refine fd_put k0 3 4 (4 : Int32) C hH (fd_rk1 g2) (fd_rk3 g2) (by decide) (by decide) wf_X3_29 rfl rfl rfl rfl rfl (Nat.le_of_ble_eq_true rfl) dX3_copyFrom_37 (fun H locs hH => ?_)
  obtain ⟨S8, eS8, hf⟩ := fd_ltS hf
  rw [← eS8] at hH
  refine lv_aload_n hx hb dX3_copyFrom_40 rfl (lv_at hl 1 rfl) ?_
  refine fd_get k1 3 5 C hH (fd_rk1 g1) (fd_rk3 g1) (by decide) (by decide) wf_X3_9 (v := .ref (E.2.2 (k1 + 6))) rfl dX3_copyFrom_41 ?_
  refine lv_iconst (v := (0 : Int32)) hx hb dX3_copyFrom_44 (by decide) ?_
  refine lv_aload_n hx hb dX3_copyFrom_45 rfl (lv_at hl 0 rfl) ?_
  refine fd_get k0 3 5 C hH (fd_rk1 g2) (fd_rk3 g2) (by decide) (by decide) wf_X3_9 (v := .ref (E.2.2 (k0 + 6))) rfl dX3_copyFrom_46 ?_
  refine lv_iconst (v := (0 : Int32)) hx hb dX3_copyFrom_49 (by decide) ?_
  refine lv_iconst (v := (4 : Int32)) hx hb dX3_copyFrom_50 (by decide) ?_
  refine fd_copy (k1 + 6) (k0 + 6) 0 0 4 (0 : Int32) (0 : Int32) (4 : Int32) C hl.1 hH (fd_rk2 g1) (fd_rk4 g1) (fd_rk2 g2) (fd_rk4 g2) rfl rfl rfl (by rw [fd_rk6 g1]; decide) (by rw [fd_rk6 g2]; decide) ⟨(by rw [fd_rk6 g1]; decide), (by rw [fd_rk6 g2]; decide)⟩ wl_X3_35 fd_acw (Nat.le_of_ble_eq_true rfl) (Nat.le_of_ble_eq_true rfl) dX3_copyFrom_51 (fun H locs hH => ?_)
  obtain ⟨S9, eS9, hf⟩ := fd_ltS hf
  rw [← eS9] at hH
  refine lv_aload_n hx hb dX3_copyFrom_54 rfl (lv_at hl 0 rfl) ?_
  refine lv_aload_n hx hb dX3_copyFrom_55 rfl (lv_at hl 1 rfl) ?_
  refine fd_get k1 3 6 C hH (fd_rk1 g1) (fd_rk3 g1) (by decide) (by decide) wf_X3_32 (v := .int (S9 k1 (6 : Int32))) rfl dX3_copyFrom_56 ?_
  refine fd_put k0 3 6 (6 : Int32) C hH (fd_rk1 g2) (fd_rk3 g2) (by decide) (by decide) wf_X3_32 rfl rfl rfl rfl rfl (Nat.le_of_ble_eq_true rfl) dX3_copyFrom_59 (fun H locs hH => ?_)
  obtain ⟨S10, eS10, hf⟩ := fd_ltS hf
  rw [← eS10] at hH
  cases hf
  exact fd_vret C hr hlk hH dX3_copyFrom_62
theorem dX2_find_0 : decode cX2_find 0 = .ok (.iconst 0, 1) := by decide +kernel
theorem dX2_find_1 : decode cX2_find 1 = .ok (.istore_n 2, 1) := by decide +kernel
theorem dX2_find_2 : decode cX2_find 2 = .ok (.iload_n 2, 1) := by decide +kernel
theorem dX2_find_3 : decode cX2_find 3 = .ok (.aload_n 0, 1) := by decide +kernel
theorem dX2_find_4 : decode cX2_find 4 = .ok (.getfield 18, 3) := by decide +kernel
theorem dX2_find_7 : decode cX2_find 7 = .ok (.if_icmp .ge 29, 3) := by decide +kernel
theorem dX2_find_10 : decode cX2_find 10 = .ok (.aload_n 0, 1) := by decide +kernel
theorem dX2_find_11 : decode cX2_find 11 = .ok (.getfield 11, 3) := by decide +kernel
theorem dX2_find_14 : decode cX2_find 14 = .ok (.iload_n 2, 1) := by decide +kernel
theorem dX2_find_15 : decode cX2_find 15 = .ok (.aaload, 1) := by decide +kernel
theorem dX2_find_16 : decode cX2_find 16 = .ok (.getfield 22, 3) := by decide +kernel
theorem dX2_find_19 : decode cX2_find 19 = .ok (.iload_n 1, 1) := by decide +kernel
theorem dX2_find_20 : decode cX2_find 20 = .ok (.if_icmp .ne 10, 3) := by decide +kernel
theorem dX2_find_23 : decode cX2_find 23 = .ok (.aload_n 0, 1) := by decide +kernel
theorem dX2_find_24 : decode cX2_find 24 = .ok (.getfield 11, 3) := by decide +kernel
theorem dX2_find_27 : decode cX2_find 27 = .ok (.iload_n 2, 1) := by decide +kernel
theorem dX2_find_28 : decode cX2_find 28 = .ok (.aaload, 1) := by decide +kernel
theorem dX2_find_29 : decode cX2_find 29 = .ok (.areturn, 1) := by decide +kernel
theorem dX2_find_30 : decode cX2_find 30 = .ok (.iinc 2 1, 3) := by decide +kernel
theorem dX2_find_33 : decode cX2_find 33 = .ok (.goto (-31), 3) := by decide +kernel
theorem dX2_find_36 : decode cX2_find 36 = .ok (.aconst_null, 1) := by decide +kernel
theorem dX2_find_37 : decode cX2_find 37 = .ok (.areturn, 1) := by decide +kernel
set_option maxHeartbeats 4000000 in
set_option maxRecDepth 100000 in
theorem wQ_find_2 {p : Program} {l : Launch} {e : Env} {s : State} {m : MethodId} {args : Array Value} {below : List Frame} {meth : Method} {c : Code} {E : fd_E} (C : fd_C p s m args c yX2_find.cls cX2_find 3 E) (hr : meth.sig.returnType = (some (.object "FlapDamper$RouteRecord"))) (hlk : meth.locks = false) (fu : Nat) {r0 : (Option Nat)} : ∀ (n : Nat) (S : fd_S) (x1 : Int32) (x2 : Int32) (H : Heap) (locs : List Loc) (ls : Array Slot), zQ_find_2 fu n S x1 x2 = some r0 → fd_H E S s H locs → lv_has ls 3 [(0, .ref (E.2.2 3)), (1, .int x1), (2, .int x2)] → W p l e (fd_rm 0 0) s m args below meth c H locs 0 0 (MQ below (fd_Q E (some (fd_rv E r0)) S) args s 0 0 (fd_A E)) (F0 m 2 ls []) := by
  have hx := C.1
  have hb := C.2.1
  intro n
  induction n with
  | zero =>
    intro S x1 x2 H locs ls hf
    rw [zQ_find_2] at hf
    cases hf
  | succ n ih =>
    intro S x1 x2 H locs ls hf hH hl
    rw [zQ_find_2] at hf
    refine lv_iload_n hx hb dX2_find_2 rfl (lv_at hl 2 rfl) ?_
    refine lv_aload_n hx hb dX2_find_3 rfl (lv_at hl 0 rfl) ?_
    refine fd_get 3 2 1 C hH (by decide) rfl (by decide) (by decide) wf_X2_18 (v := .int (S 3 (1 : Int32))) rfl dX2_find_4 ?_
    refine lv_icmp_ge (tgt := 36) hx hb dX2_find_7 (by decide) (fun c1 => ?_) (fun c1 => ?_)
    · have hf := fd_ifp c1 hf
      refine lv_null hx hb dX2_find_36 ?_
      cases hf
      exact fd_aret "FlapDamper$RouteRecord" C hr hlk hH (Or.inl rfl) dX2_find_37
    · have hf := fd_ifn c1 hf
      refine lv_aload_n hx hb dX2_find_10 rfl (lv_at hl 0 rfl) ?_
      refine fd_get 3 2 0 C hH (by decide) rfl (by decide) (by decide) wf_X2_11 (v := .ref (E.2.2 4)) rfl dX2_find_11 ?_
      refine lv_iload_n hx hb dX2_find_14 rfl (lv_at hl 2 rfl) ?_
      obtain ⟨g2, hf⟩ := fd_grd hf
      refine fd_aald 4 (6 : Int32) C hH (by decide) rfl rfl g2 dX2_find_15 ?_
      refine fd_topr (fun k3 ek3 => ?_)
      have hf := fd_ltN ek3 hf
      obtain ⟨g4, hf⟩ := fd_grd hf
      refine fd_get k3 3 0 C hH (fd_rk1 g4) (fd_rk3 g4) (by decide) (by decide) wf_X2_22 (v := .int (S k3 (0 : Int32))) rfl dX2_find_16 ?_
      refine lv_iload_n hx hb dX2_find_19 rfl (lv_at hl 1 rfl) ?_
      refine lv_icmp_ne (tgt := 30) hx hb dX2_find_20 (by decide) (fun c5 => ?_) (fun c5 => ?_)
      · have hf := fd_ifn c5 hf
        obtain ⟨y6, ey6, hf⟩ := fd_ltS hf
        refine lv_iinc (v := y6) (lv' := [(2, .int y6), (0, .ref (E.2.2 3)), (1, .int x1)]) hx hb dX2_find_30 hl (k := 2) rfl (by rw [ey6]; rfl) (by decide) rfl (fun ls hl => ?_)
        refine lv_goto (tgt := 2) hx hb dX2_find_33 (by decide) ?_
        exact ih S x1 y6 _ _ _ hf hH (lv_sub hl [1, 2, 0] rfl)
      · have hf := fd_ifp c5 hf
        refine lv_aload_n hx hb dX2_find_23 rfl (lv_at hl 0 rfl) ?_
        refine fd_get 3 2 0 C hH (by decide) rfl (by decide) (by decide) wf_X2_11 (v := .ref (E.2.2 4)) rfl dX2_find_24 ?_
        refine lv_iload_n hx hb dX2_find_27 rfl (lv_at hl 2 rfl) ?_
        obtain ⟨g7, hf⟩ := fd_grd hf
        refine fd_aald 4 (6 : Int32) C hH (by decide) rfl rfl g7 dX2_find_28 ?_
        refine fd_topr (fun k8 ek8 => ?_)
        have hf := fd_ltN ek8 hf
        cases hf
        exact fd_aret "FlapDamper$RouteRecord" C hr hlk hH (Or.inr ⟨_, rfl⟩) dX2_find_29
set_option maxHeartbeats 4000000 in
set_option maxRecDepth 100000 in
theorem cQ_find (l : Launch) (E : fd_E) (fu : Nat) (S : fd_S) (x1 : Int32) {r0 : (Option Nat)} (hf : zQ_find fu S x1 = some r0) : fd_Ct l yX2_find cX2_find 3 (some (.object "FlapDamper$RouteRecord")) (fd_rm 0 0) E S [.ref (E.2.2 3), .int x1] (some (fd_rv E r0)) S := by
  unfold zQ_find at hf
  refine fd_Ct_of (by decide +kernel) (Nat.le_of_ble_eq_true rfl) ?_
  intro p e s m below meth c ls C hr hlk hH hl
  have hx := C.1
  have hb := C.2.1
  have hl : lv_has ls 3 [(0, .ref (E.2.2 3)), (1, .int x1)] := hl
  refine lv_iconst (v := (0 : Int32)) hx hb dX2_find_0 (by decide) ?_
  refine lv_istore_n (lv' := [(2, .int (0 : Int32)), (0, .ref (E.2.2 3)), (1, .int x1)]) hx hb dX2_find_1 rfl hl (by decide) rfl (fun ls hl => ?_)
  exact wQ_find_2 C hr hlk fu fu S x1 (0 : Int32) _ _ _ hf hH (lv_sub hl [1, 2, 0] rfl)
theorem dX2_drop_0 : decode cX2_drop 0 = .ok (.iload_n 1, 1) := by decide +kernel
theorem dX2_drop_1 : decode cX2_drop 1 = .ok (.iconst 0, 1) := by decide +kernel
theorem dX2_drop_2 : decode cX2_drop 2 = .ok (.aload_n 0, 1) := by decide +kernel
theorem dX2_drop_3 : decode cX2_drop 3 = .ok (.getfield 18, 3) := by decide +kernel
theorem dX2_drop_6 : decode cX2_drop 6 = .ok (.iconst 1, 1) := by decide +kernel
theorem dX2_drop_7 : decode cX2_drop 7 = .ok (.isub, 1) := by decide +kernel
theorem dX2_drop_8 : decode cX2_drop 8 = .ok (.invokestatic 41, 3) := by decide +kernel
theorem dX2_drop_11 : decode cX2_drop 11 = .ok (.ifCond .ne 4, 3) := by decide +kernel
theorem dX2_drop_14 : decode cX2_drop 14 = .ok (.return_, 1) := by decide +kernel
theorem dX2_drop_15 : decode cX2_drop 15 = .ok (.aload_n 0, 1) := by decide +kernel
theorem dX2_drop_16 : decode cX2_drop 16 = .ok (.getfield 11, 3) := by decide +kernel
theorem dX2_drop_19 : decode cX2_drop 19 = .ok (.iload_n 1, 1) := by decide +kernel
theorem dX2_drop_20 : decode cX2_drop 20 = .ok (.aaload, 1) := by decide +kernel
theorem dX2_drop_21 : decode cX2_drop 21 = .ok (.astore_n 2, 1) := by decide +kernel
theorem dX2_drop_22 : decode cX2_drop 22 = .ok (.iload_n 1, 1) := by decide +kernel
theorem dX2_drop_23 : decode cX2_drop 23 = .ok (.istore_n 3, 1) := by decide +kernel
theorem dX2_drop_24 : decode cX2_drop 24 = .ok (.iload_n 3, 1) := by decide +kernel
theorem dX2_drop_25 : decode cX2_drop 25 = .ok (.aload_n 0, 1) := by decide +kernel
theorem dX2_drop_26 : decode cX2_drop 26 = .ok (.getfield 18, 3) := by decide +kernel
theorem dX2_drop_29 : decode cX2_drop 29 = .ok (.iconst 1, 1) := by decide +kernel
theorem dX2_drop_30 : decode cX2_drop 30 = .ok (.isub, 1) := by decide +kernel
theorem dX2_drop_31 : decode cX2_drop 31 = .ok (.if_icmp .ge 23, 3) := by decide +kernel
theorem dX2_drop_34 : decode cX2_drop 34 = .ok (.aload_n 0, 1) := by decide +kernel
theorem dX2_drop_35 : decode cX2_drop 35 = .ok (.getfield 11, 3) := by decide +kernel
theorem dX2_drop_38 : decode cX2_drop 38 = .ok (.iload_n 3, 1) := by decide +kernel
theorem dX2_drop_39 : decode cX2_drop 39 = .ok (.aload_n 0, 1) := by decide +kernel
theorem dX2_drop_40 : decode cX2_drop 40 = .ok (.getfield 11, 3) := by decide +kernel
theorem dX2_drop_43 : decode cX2_drop 43 = .ok (.iload_n 3, 1) := by decide +kernel
theorem dX2_drop_44 : decode cX2_drop 44 = .ok (.iconst 1, 1) := by decide +kernel
theorem dX2_drop_45 : decode cX2_drop 45 = .ok (.iadd, 1) := by decide +kernel
theorem dX2_drop_46 : decode cX2_drop 46 = .ok (.aaload, 1) := by decide +kernel
theorem dX2_drop_47 : decode cX2_drop 47 = .ok (.aastore, 1) := by decide +kernel
theorem dX2_drop_48 : decode cX2_drop 48 = .ok (.iinc 3 1, 3) := by decide +kernel
theorem dX2_drop_51 : decode cX2_drop 51 = .ok (.goto (-27), 3) := by decide +kernel
theorem dX2_drop_54 : decode cX2_drop 54 = .ok (.aload_n 0, 1) := by decide +kernel
theorem dX2_drop_55 : decode cX2_drop 55 = .ok (.dup, 1) := by decide +kernel
theorem dX2_drop_56 : decode cX2_drop 56 = .ok (.getfield 18, 3) := by decide +kernel
theorem dX2_drop_59 : decode cX2_drop 59 = .ok (.iconst 1, 1) := by decide +kernel
theorem dX2_drop_60 : decode cX2_drop 60 = .ok (.isub, 1) := by decide +kernel
theorem dX2_drop_61 : decode cX2_drop 61 = .ok (.putfield 18, 3) := by decide +kernel
theorem dX2_drop_64 : decode cX2_drop 64 = .ok (.aload_n 0, 1) := by decide +kernel
theorem dX2_drop_65 : decode cX2_drop 65 = .ok (.getfield 11, 3) := by decide +kernel
theorem dX2_drop_68 : decode cX2_drop 68 = .ok (.aload_n 0, 1) := by decide +kernel
theorem dX2_drop_69 : decode cX2_drop 69 = .ok (.getfield 18, 3) := by decide +kernel
theorem dX2_drop_72 : decode cX2_drop 72 = .ok (.aload_n 2, 1) := by decide +kernel
theorem dX2_drop_73 : decode cX2_drop 73 = .ok (.aastore, 1) := by decide +kernel
theorem dX2_drop_74 : decode cX2_drop 74 = .ok (.aload_n 0, 1) := by decide +kernel
theorem dX2_drop_75 : decode cX2_drop 75 = .ok (.dup, 1) := by decide +kernel
theorem dX2_drop_76 : decode cX2_drop 76 = .ok (.getfield 45, 3) := by decide +kernel
theorem dX2_drop_79 : decode cX2_drop 79 = .ok (.iconst 1, 1) := by decide +kernel
theorem dX2_drop_80 : decode cX2_drop 80 = .ok (.iadd, 1) := by decide +kernel
theorem dX2_drop_81 : decode cX2_drop 81 = .ok (.putfield 45, 3) := by decide +kernel
theorem dX2_drop_84 : decode cX2_drop 84 = .ok (.return_, 1) := by decide +kernel
set_option maxHeartbeats 4000000 in
set_option maxRecDepth 100000 in
theorem wQ_drop_24 {p : Program} {l : Launch} {e : Env} {s : State} {m : MethodId} {args : Array Value} {below : List Frame} {meth : Method} {c : Code} {E : fd_E} (C : fd_C p s m args c yX2_drop.cls cX2_drop 4 E) (hr : meth.sig.returnType = none) (hlk : meth.locks = false) (fu : Nat) {S0 : fd_S} : ∀ (n : Nat) (S : fd_S) (k2 : Nat) (x3 : Int32) (H : Heap) (locs : List Loc) (ls : Array Slot), zQ_drop_24 fu n S k2 x3 = some S0 → fd_H E S s H locs → lv_has ls 4 [(0, .ref (E.2.2 3)), (2, .ref (E.2.2 k2)), (3, .int x3)] → W p l e (fd_rm 1 22) s m args below meth c H locs 0 0 (MQ below (fd_Q E none S0) args s 0 0 (fd_A E)) (F0 m 24 ls []) := by
  have hx := C.1
  have hb := C.2.1
  intro n
  induction n with
  | zero =>
    intro S k2 x3 H locs ls hf
    rw [zQ_drop_24] at hf
    cases hf
  | succ n ih =>
    intro S k2 x3 H locs ls hf hH hl
    rw [zQ_drop_24] at hf
    refine lv_iload_n hx hb dX2_drop_24 rfl (lv_at hl 2 rfl) ?_
    refine lv_aload_n hx hb dX2_drop_25 rfl (lv_at hl 0 rfl) ?_
    refine fd_get 3 2 1 C hH (by decide) rfl (by decide) (by decide) wf_X2_18 (v := .int (S 3 (1 : Int32))) rfl dX2_drop_26 ?_
    refine lv_iconst (v := (1 : Int32)) hx hb dX2_drop_29 (by decide) ?_
    refine lv_isub hx hb dX2_drop_30 ?_
    refine lv_icmp_ge (tgt := 54) hx hb dX2_drop_31 (by decide) (fun c4 => ?_) (fun c4 => ?_)
    · have hf := fd_ifp c4 hf
      refine lv_aload_n hx hb dX2_drop_54 rfl (lv_at hl 0 rfl) ?_
      refine lv_dup hx hb dX2_drop_55 rfl ?_
      refine fd_get 3 2 1 C hH (by decide) rfl (by decide) (by decide) wf_X2_18 (v := .int (S 3 (1 : Int32))) rfl dX2_drop_56 ?_
      refine lv_iconst (v := (1 : Int32)) hx hb dX2_drop_59 (by decide) ?_
      refine lv_isub hx hb dX2_drop_60 ?_
      refine fd_put 3 2 1 (1 : Int32) C hH (by decide) rfl (by decide) (by decide) wf_X2_18 rfl rfl rfl rfl rfl (Nat.le_of_ble_eq_true rfl) dX2_drop_61 (fun H locs hH => ?_)
      obtain ⟨S5, eS5, hf⟩ := fd_ltS hf
      rw [← eS5] at hH
      refine lv_aload_n hx hb dX2_drop_64 rfl (lv_at hl 0 rfl) ?_
      refine fd_get 3 2 0 C hH (by decide) rfl (by decide) (by decide) wf_X2_11 (v := .ref (E.2.2 4)) rfl dX2_drop_65 ?_
      refine lv_aload_n hx hb dX2_drop_68 rfl (lv_at hl 0 rfl) ?_
      refine fd_get 3 2 1 C hH (by decide) rfl (by decide) (by decide) wf_X2_18 (v := .int (S5 3 (1 : Int32))) rfl dX2_drop_69 ?_
      refine lv_aload_n hx hb dX2_drop_72 rfl (lv_at hl 1 rfl) ?_
      obtain ⟨g6, hf⟩ := fd_grd hf
      obtain ⟨g7, hf⟩ := fd_grd hf
      refine fd_aast0 C hH g6 g7 dX2_drop_73 (fun H locs hH => ?_)
      obtain ⟨S8, eS8, hf⟩ := fd_ltS hf
      rw [← eS8] at hH
      refine lv_aload_n hx hb dX2_drop_74 rfl (lv_at hl 0 rfl) ?_
      refine lv_dup hx hb dX2_drop_75 rfl ?_
      refine fd_get 3 2 2 C hH (by decide) rfl (by decide) (by decide) wf_X2_45 (v := .int (S8 3 (2 : Int32))) rfl dX2_drop_76 ?_
      refine lv_iconst (v := (1 : Int32)) hx hb dX2_drop_79 (by decide) ?_
      refine lv_iadd hx hb dX2_drop_80 ?_
      refine fd_put 3 2 2 (2 : Int32) C hH (by decide) rfl (by decide) (by decide) wf_X2_45 rfl rfl rfl rfl rfl (Nat.le_of_ble_eq_true rfl) dX2_drop_81 (fun H locs hH => ?_)
      obtain ⟨S9, eS9, hf⟩ := fd_ltS hf
      rw [← eS9] at hH
      cases hf
      exact fd_vret C hr hlk hH dX2_drop_84
    · have hf := fd_ifn c4 hf
      refine lv_aload_n hx hb dX2_drop_34 rfl (lv_at hl 0 rfl) ?_
      refine fd_get 3 2 0 C hH (by decide) rfl (by decide) (by decide) wf_X2_11 (v := .ref (E.2.2 4)) rfl dX2_drop_35 ?_
      refine lv_iload_n hx hb dX2_drop_38 rfl (lv_at hl 2 rfl) ?_
      refine lv_aload_n hx hb dX2_drop_39 rfl (lv_at hl 0 rfl) ?_
      refine fd_get 3 2 0 C hH (by decide) rfl (by decide) (by decide) wf_X2_11 (v := .ref (E.2.2 4)) rfl dX2_drop_40 ?_
      refine lv_iload_n hx hb dX2_drop_43 rfl (lv_at hl 2 rfl) ?_
      refine lv_iconst (v := (1 : Int32)) hx hb dX2_drop_44 (by decide) ?_
      refine lv_iadd hx hb dX2_drop_45 ?_
      obtain ⟨g10, hf⟩ := fd_grd hf
      refine fd_aald 4 (6 : Int32) C hH (by decide) rfl rfl g10 dX2_drop_46 ?_
      refine fd_topr (fun k11 ek11 => ?_)
      have hf := fd_ltN ek11 hf
      obtain ⟨g12, hf⟩ := fd_grd hf
      obtain ⟨g13, hf⟩ := fd_grd hf
      refine fd_aast0 C hH g12 g13 dX2_drop_47 (fun H locs hH => ?_)
      obtain ⟨S14, eS14, hf⟩ := fd_ltS hf
      rw [← eS14] at hH
      obtain ⟨y15, ey15, hf⟩ := fd_ltS hf
      refine lv_iinc (v := y15) (lv' := [(3, .int y15), (0, .ref (E.2.2 3)), (2, .ref (E.2.2 k2))]) hx hb dX2_drop_48 hl (k := 2) rfl (by rw [ey15]; rfl) (by decide) rfl (fun ls hl => ?_)
      refine lv_goto (tgt := 24) hx hb dX2_drop_51 (by decide) ?_
      exact ih S14 k2 y15 _ _ _ hf hH (lv_sub hl [1, 2, 0] rfl)
set_option maxHeartbeats 4000000 in
set_option maxRecDepth 100000 in
theorem cQ_drop (l : Launch) (E : fd_E) (fu : Nat) (S : fd_S) (x1 : Int32) {S0 : fd_S} (hf : zQ_drop fu S x1 = some S0) : fd_Ct l yX2_drop cX2_drop 4 none (fd_rm 1 22) E S [.ref (E.2.2 3), .int x1] none S0 := by
  unfold zQ_drop at hf
  refine fd_Ct_of (by decide +kernel) (Nat.le_of_ble_eq_true rfl) ?_
  intro p e s m below meth c ls C hr hlk hH hl
  have hx := C.1
  have hb := C.2.1
  have hl : lv_has ls 4 [(0, .ref (E.2.2 3)), (1, .int x1)] := hl
  refine lv_iload_n hx hb dX2_drop_0 rfl (lv_at hl 1 rfl) ?_
  refine lv_iconst (v := (0 : Int32)) hx hb dX2_drop_1 (by decide) ?_
  refine lv_aload_n hx hb dX2_drop_2 rfl (lv_at hl 0 rfl) ?_
  refine fd_get 3 2 1 C hH (by decide) rfl (by decide) (by decide) wf_X2_18 (v := .int (S 3 (1 : Int32))) rfl dX2_drop_3 ?_
  refine lv_iconst (v := (1 : Int32)) hx hb dX2_drop_6 (by decide) ?_
  refine lv_isub hx hb dX2_drop_7 ?_
  refine fd_callN1 "FlapDamper" [.int x1, .int (0 : Int32), .int ((S 3 (1 : Int32)) - (1 : Int32))] C hl.1 hH (cF_isWithin l E S x1 (0 : Int32) ((S 3 (1 : Int32)) - (1 : Int32))) wm_X2_41 C.2.2.2.2.2.2.1.1 ⟨rfl, rfl, Nat.le_of_ble_eq_true rfl, Nat.le_of_ble_eq_true rfl⟩ rfl rfl (Nat.le_of_ble_eq_true rfl) ⟨Nat.le_refl _, Nat.le_refl _⟩ dX2_drop_8 (fun H locs hH => ?_)
  refine lv_if_ne (tgt := 15) hx hb dX2_drop_11 (by decide) (fun c1 => ?_) (fun c1 => ?_)
  · have hf := fd_ifn c1 hf
    refine lv_aload_n hx hb dX2_drop_15 rfl (lv_at hl 0 rfl) ?_
    refine fd_get 3 2 0 C hH (by decide) rfl (by decide) (by decide) wf_X2_11 (v := .ref (E.2.2 4)) rfl dX2_drop_16 ?_
    refine lv_iload_n hx hb dX2_drop_19 rfl (lv_at hl 1 rfl) ?_
    obtain ⟨g2, hf⟩ := fd_grd hf
    refine fd_aald 4 (6 : Int32) C hH (by decide) rfl rfl g2 dX2_drop_20 ?_
    refine fd_topr (fun k3 ek3 => ?_)
    have hf := fd_ltN ek3 hf
    refine lv_astore_n (lv' := [(2, .ref (E.2.2 k3)), (0, .ref (E.2.2 3)), (1, .int x1)]) hx hb dX2_drop_21 rfl hl (by decide) rfl (fun ls hl => ?_)
    refine lv_iload_n hx hb dX2_drop_22 rfl (lv_at hl 2 rfl) ?_
    refine lv_istore_n (lv' := [(3, .int x1), (2, .ref (E.2.2 k3)), (0, .ref (E.2.2 3)), (1, .int x1)]) hx hb dX2_drop_23 rfl hl (by decide) rfl (fun ls hl => ?_)
    exact wQ_drop_24 C hr hlk fu fu S k3 x1 _ _ _ hf hH (lv_sub hl [2, 1, 0] rfl)
  · have hf := fd_ifp c1 hf
    cases hf
    exact fd_vret C hr hlk hH dX2_drop_14
