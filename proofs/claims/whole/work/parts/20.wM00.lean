theorem dX7_in_0 : decode cX7_in 0 = .ok (.iload_n 0, 1) := by decide +kernel
theorem dX7_in_1 : decode cX7_in 1 = .ok (.iload_n 1, 1) := by decide +kernel
theorem dX7_in_2 : decode cX7_in 2 = .ok (.if_icmp .lt 12, 3) := by decide +kernel
theorem dX7_in_5 : decode cX7_in 5 = .ok (.iload_n 0, 1) := by decide +kernel
theorem dX7_in_6 : decode cX7_in 6 = .ok (.iload_n 2, 1) := by decide +kernel
theorem dX7_in_7 : decode cX7_in 7 = .ok (.if_icmp .gt 7, 3) := by decide +kernel
theorem dX7_in_10 : decode cX7_in 10 = .ok (.iconst 1, 1) := by decide +kernel
theorem dX7_in_11 : decode cX7_in 11 = .ok (.goto 4, 3) := by decide +kernel
theorem dX7_in_14 : decode cX7_in 14 = .ok (.iconst 0, 1) := by decide +kernel
theorem dX7_in_15 : decode cX7_in 15 = .ok (.ireturn, 1) := by decide +kernel
set_option maxHeartbeats 4000000 in
set_option maxRecDepth 100000 in
theorem cM_in (l : Launch) (E : fd_E) (S : fd_S) (x0 : Int32) (x1 : Int32) (x2 : Int32) : fd_Ct l yX7_in cX7_in 3 (some .boolean) (fd_rm 0 0) E S [.int x0, .int x1, .int x2] (some (.int (zM_in x0 x1 x2))) S := by
  generalize hf : zM_in x0 x1 x2 = r0
  unfold zM_in at hf
  refine fd_Ct_of (by decide +kernel) (Nat.le_of_ble_eq_true rfl) ?_
  intro p e s m below meth c ls C hr hlk hH hl
  have hx := C.1
  have hb := C.2.1
  have hl : lv_has ls 3 [(0, .int x0), (1, .int x1), (2, .int x2)] := hl
  refine lv_iload_n hx hb dX7_in_0 rfl (lv_at hl 0 rfl) ?_
  refine lv_iload_n hx hb dX7_in_1 rfl (lv_at hl 1 rfl) ?_
  refine lv_icmp_lt (tgt := 14) hx hb dX7_in_2 (by decide) (fun c1 => ?_) (fun c1 => ?_)
  · have hf := fd_ifp c1 hf
    refine lv_iconst (v := (0 : Int32)) hx hb dX7_in_14 (by decide) ?_
    cases hf
    exact fd_zret .boolean C hr hlk hH rfl dX7_in_15
  · have hf := fd_ifn c1 hf
    refine lv_iload_n hx hb dX7_in_5 rfl (lv_at hl 0 rfl) ?_
    refine lv_iload_n hx hb dX7_in_6 rfl (lv_at hl 2 rfl) ?_
    refine lv_icmp_gt (tgt := 14) hx hb dX7_in_7 (by decide) (fun c2 => ?_) (fun c2 => ?_)
    · have hf := fd_ifp c2 hf
      refine lv_iconst (v := (0 : Int32)) hx hb dX7_in_14 (by decide) ?_
      cases hf
      exact fd_zret .boolean C hr hlk hH rfl dX7_in_15
    · have hf := fd_ifn c2 hf
      refine lv_iconst (v := (1 : Int32)) hx hb dX7_in_10 (by decide) ?_
      refine lv_goto (tgt := 15) hx hb dX7_in_11 (by decide) ?_
      cases hf
      exact fd_zret .boolean C hr hlk hH rfl dX7_in_15
theorem dX7_bounded_0 : decode cX7_bounded 0 = .ok (.aload_n 0, 1) := by decide +kernel
theorem dX7_bounded_1 : decode cX7_bounded 1 = .ok (.getfield 30, 3) := by decide +kernel
theorem dX7_bounded_4 : decode cX7_bounded 4 = .ok (.bipush 32, 2) := by decide +kernel
theorem dX7_bounded_6 : decode cX7_bounded 6 = .ok (.iload_n 1, 1) := by decide +kernel
theorem dX7_bounded_7 : decode cX7_bounded 7 = .ok (.iadd, 1) := by decide +kernel
theorem dX7_bounded_8 : decode cX7_bounded 8 = .ok (.iaload, 1) := by decide +kernel
theorem dX7_bounded_9 : decode cX7_bounded 9 = .ok (.ireturn, 1) := by decide +kernel
set_option maxHeartbeats 4000000 in
set_option maxRecDepth 100000 in
theorem cM_bounded (l : Launch) (E : fd_E) (S : fd_S) (x1 : Int32) {r0 : Int32} (hf : zM_bounded S x1 = some r0) : fd_Ct l yX7_bounded cX7_bounded 2 (some .int) (fd_rm 0 0) E S [.ref (E.2.2 73), .int x1] (some (.int r0)) S := by
  unfold zM_bounded at hf
  refine fd_Ct_of (by decide +kernel) (Nat.le_of_ble_eq_true rfl) ?_
  intro p e s m below meth c ls C hr hlk hH hl
  have hx := C.1
  have hb := C.2.1
  have hl : lv_has ls 2 [(0, .ref (E.2.2 73)), (1, .int x1)] := hl
  refine lv_aload_n hx hb dX7_bounded_0 rfl (lv_at hl 0 rfl) ?_
  refine fd_get 73 7 4 C hH (by decide) rfl (by decide) (by decide) wf_X7_30 (v := .ref (E.2.2 78)) rfl dX7_bounded_1 ?_
  refine lv_bipush (v := (32 : Int32)) hx hb dX7_bounded_4 (by decide) ?_
  refine lv_iload_n hx hb dX7_bounded_6 rfl (lv_at hl 1 rfl) ?_
  refine lv_iadd hx hb dX7_bounded_7 ?_
  obtain ⟨g1, hf⟩ := fd_grd hf
  refine fd_iald 78 (275 : Int32) C hH (by decide) rfl rfl g1 dX7_bounded_8 ?_
  cases hf
  exact fd_iret C hr hlk hH dX7_bounded_9
theorem dX7_say_0 : decode cX7_say 0 = .ok (.iload_n 1, 1) := by decide +kernel
theorem dX7_say_1 : decode cX7_say 1 = .ok (.bipush 33, 2) := by decide +kernel
theorem dX7_say_3 : decode cX7_say 3 = .ok (.bipush 126, 2) := by decide +kernel
theorem dX7_say_5 : decode cX7_say 5 = .ok (.invokestatic 43, 3) := by decide +kernel
theorem dX7_say_8 : decode cX7_say 8 = .ok (.ifCond .ne 6, 3) := by decide +kernel
theorem dX7_say_11 : decode cX7_say 11 = .ok (.bipush (-2), 2) := by decide +kernel
theorem dX7_say_13 : decode cX7_say 13 = .ok (.ireturn, 1) := by decide +kernel
theorem dX7_say_14 : decode cX7_say 14 = .ok (.aload_n 0, 1) := by decide +kernel
theorem dX7_say_15 : decode cX7_say 15 = .ok (.getfield 47, 3) := by decide +kernel
theorem dX7_say_18 : decode cX7_say 18 = .ok (.bipush 12, 2) := by decide +kernel
theorem dX7_say_20 : decode cX7_say 20 = .ok (.if_icmp .ne 6, 3) := by decide +kernel
theorem dX7_say_23 : decode cX7_say 23 = .ok (.bipush (-4), 2) := by decide +kernel
theorem dX7_say_25 : decode cX7_say 25 = .ok (.ireturn, 1) := by decide +kernel
theorem dX7_say_26 : decode cX7_say 26 = .ok (.aload_n 0, 1) := by decide +kernel
theorem dX7_say_27 : decode cX7_say 27 = .ok (.getfield 40, 3) := by decide +kernel
theorem dX7_say_30 : decode cX7_say 30 = .ok (.aload_n 0, 1) := by decide +kernel
theorem dX7_say_31 : decode cX7_say 31 = .ok (.getfield 47, 3) := by decide +kernel
theorem dX7_say_34 : decode cX7_say 34 = .ok (.iload_n 1, 1) := by decide +kernel
theorem dX7_say_35 : decode cX7_say 35 = .ok (.iastore, 1) := by decide +kernel
theorem dX7_say_36 : decode cX7_say 36 = .ok (.aload_n 0, 1) := by decide +kernel
theorem dX7_say_37 : decode cX7_say 37 = .ok (.dup, 1) := by decide +kernel
theorem dX7_say_38 : decode cX7_say 38 = .ok (.getfield 47, 3) := by decide +kernel
theorem dX7_say_41 : decode cX7_say 41 = .ok (.iconst 1, 1) := by decide +kernel
theorem dX7_say_42 : decode cX7_say 42 = .ok (.iadd, 1) := by decide +kernel
theorem dX7_say_43 : decode cX7_say 43 = .ok (.putfield 47, 3) := by decide +kernel
theorem dX7_say_46 : decode cX7_say 46 = .ok (.aload_n 0, 1) := by decide +kernel
theorem dX7_say_47 : decode cX7_say 47 = .ok (.getfield 47, 3) := by decide +kernel
theorem dX7_say_50 : decode cX7_say 50 = .ok (.ireturn, 1) := by decide +kernel
set_option maxHeartbeats 4000000 in
set_option maxRecDepth 100000 in
theorem cM_say (l : Launch) (E : fd_E) (S : fd_S) (x1 : Int32) {r0 : Int32} {S0 : fd_S} (hf : zM_say S x1 = some (r0, S0)) : fd_Ct l yX7_say cX7_say 2 (some .int) (fd_rm 1 22) E S [.ref (E.2.2 73), .int x1] (some (.int r0)) S0 := by
  unfold zM_say at hf
  refine fd_Ct_of (by decide +kernel) (Nat.le_of_ble_eq_true rfl) ?_
  intro p e s m below meth c ls C hr hlk hH hl
  have hx := C.1
  have hb := C.2.1
  have hl : lv_has ls 2 [(0, .ref (E.2.2 73)), (1, .int x1)] := hl
  refine lv_iload_n hx hb dX7_say_0 rfl (lv_at hl 1 rfl) ?_
  refine lv_bipush (v := (33 : Int32)) hx hb dX7_say_1 (by decide) ?_
  refine lv_bipush (v := (126 : Int32)) hx hb dX7_say_3 (by decide) ?_
  refine fd_callS1 [.int x1, .int (33 : Int32), .int (126 : Int32)] C hl.1 hH (cM_in l E S x1 (33 : Int32) (126 : Int32)) wm_X7_43 ⟨rfl, rfl, Nat.le_of_ble_eq_true rfl, Nat.le_of_ble_eq_true rfl⟩ rfl rfl (Nat.le_of_ble_eq_true rfl) ⟨Nat.le_refl _, Nat.le_refl _⟩ dX7_say_5 (fun H locs hH => ?_)
  refine lv_if_ne (tgt := 14) hx hb dX7_say_8 (by decide) (fun c1 => ?_) (fun c1 => ?_)
  · have hf := fd_ifn c1 hf
    refine lv_aload_n hx hb dX7_say_14 rfl (lv_at hl 0 rfl) ?_
    refine fd_get 73 7 8 C hH (by decide) rfl (by decide) (by decide) wf_X7_47 (v := .int (S 73 (8 : Int32))) rfl dX7_say_15 ?_
    refine lv_bipush (v := (12 : Int32)) hx hb dX7_say_18 (by decide) ?_
    refine lv_icmp_ne (tgt := 26) hx hb dX7_say_20 (by decide) (fun c2 => ?_) (fun c2 => ?_)
    · have hf := fd_ifn c2 hf
      refine lv_aload_n hx hb dX7_say_26 rfl (lv_at hl 0 rfl) ?_
      refine fd_get 73 7 7 C hH (by decide) rfl (by decide) (by decide) wf_X7_40 (v := .ref (E.2.2 81)) rfl dX7_say_27 ?_
      refine lv_aload_n hx hb dX7_say_30 rfl (lv_at hl 0 rfl) ?_
      refine fd_get 73 7 8 C hH (by decide) rfl (by decide) (by decide) wf_X7_47 (v := .int (S 73 (8 : Int32))) rfl dX7_say_31 ?_
      refine lv_iload_n hx hb dX7_say_34 rfl (lv_at hl 1 rfl) ?_
      obtain ⟨g3, hf⟩ := fd_grd hf
      refine fd_iast 81 (12 : Int32) C hH (by decide) rfl rfl g3 dX7_say_35 (fun H locs hH => ?_)
      obtain ⟨S4, eS4, hf⟩ := fd_ltS hf
      rw [← eS4] at hH
      refine lv_aload_n hx hb dX7_say_36 rfl (lv_at hl 0 rfl) ?_
      refine lv_dup hx hb dX7_say_37 rfl ?_
      refine fd_get 73 7 8 C hH (by decide) rfl (by decide) (by decide) wf_X7_47 (v := .int (S4 73 (8 : Int32))) rfl dX7_say_38 ?_
      refine lv_iconst (v := (1 : Int32)) hx hb dX7_say_41 (by decide) ?_
      refine lv_iadd hx hb dX7_say_42 ?_
      refine fd_put 73 7 8 (8 : Int32) C hH (by decide) rfl (by decide) (by decide) wf_X7_47 rfl rfl rfl rfl rfl (Nat.le_of_ble_eq_true rfl) dX7_say_43 (fun H locs hH => ?_)
      obtain ⟨S5, eS5, hf⟩ := fd_ltS hf
      rw [← eS5] at hH
      refine lv_aload_n hx hb dX7_say_46 rfl (lv_at hl 0 rfl) ?_
      refine fd_get 73 7 8 C hH (by decide) rfl (by decide) (by decide) wf_X7_47 (v := .int (S5 73 (8 : Int32))) rfl dX7_say_47 ?_
      cases hf
      exact fd_iret C hr hlk hH dX7_say_50
    · have hf := fd_ifp c2 hf
      refine lv_bipush (v := (-4 : Int32)) hx hb dX7_say_23 (by decide) ?_
      cases hf
      exact fd_iret C hr hlk hH dX7_say_25
  · have hf := fd_ifp c1 hf
    refine lv_bipush (v := (-2 : Int32)) hx hb dX7_say_11 (by decide) ?_
    cases hf
    exact fd_iret C hr hlk hH dX7_say_13
theorem dX7_wipe_0 : decode cX7_wipe 0 = .ok (.aload_n 0, 1) := by decide +kernel
theorem dX7_wipe_1 : decode cX7_wipe 1 = .ok (.getfield 47, 3) := by decide +kernel
theorem dX7_wipe_4 : decode cX7_wipe 4 = .ok (.istore_n 1, 1) := by decide +kernel
theorem dX7_wipe_5 : decode cX7_wipe 5 = .ok (.aload_n 0, 1) := by decide +kernel
theorem dX7_wipe_6 : decode cX7_wipe 6 = .ok (.iconst 0, 1) := by decide +kernel
theorem dX7_wipe_7 : decode cX7_wipe 7 = .ok (.putfield 47, 3) := by decide +kernel
theorem dX7_wipe_10 : decode cX7_wipe 10 = .ok (.iload_n 1, 1) := by decide +kernel
theorem dX7_wipe_11 : decode cX7_wipe 11 = .ok (.ireturn, 1) := by decide +kernel
set_option maxHeartbeats 4000000 in
set_option maxRecDepth 100000 in
theorem cM_wipe (l : Launch) (E : fd_E) (S : fd_S) {r0 : Int32} {S0 : fd_S} (hf : zM_wipe S = some (r0, S0)) : fd_Ct l yX7_wipe cX7_wipe 2 (some .int) (fd_rm 0 0) E S [.ref (E.2.2 73)] (some (.int r0)) S0 := by
  unfold zM_wipe at hf
  refine fd_Ct_of (by decide +kernel) (Nat.le_of_ble_eq_true rfl) ?_
  intro p e s m below meth c ls C hr hlk hH hl
  have hx := C.1
  have hb := C.2.1
  have hl : lv_has ls 2 [(0, .ref (E.2.2 73))] := hl
  refine lv_aload_n hx hb dX7_wipe_0 rfl (lv_at hl 0 rfl) ?_
  refine fd_get 73 7 8 C hH (by decide) rfl (by decide) (by decide) wf_X7_47 (v := .int (S 73 (8 : Int32))) rfl dX7_wipe_1 ?_
  refine lv_topi (fun y1 ey1 => ?_)
  have hf := fd_ltN ey1 hf
  refine lv_istore_n (lv' := [(1, .int y1), (0, .ref (E.2.2 73))]) hx hb dX7_wipe_4 rfl hl (by decide) rfl (fun ls hl => ?_)
  refine lv_aload_n hx hb dX7_wipe_5 rfl (lv_at hl 1 rfl) ?_
  refine lv_iconst (v := (0 : Int32)) hx hb dX7_wipe_6 (by decide) ?_
  refine fd_put 73 7 8 (8 : Int32) C hH (by decide) rfl (by decide) (by decide) wf_X7_47 rfl rfl rfl rfl rfl (Nat.le_of_ble_eq_true rfl) dX7_wipe_7 (fun H locs hH => ?_)
  obtain ⟨S2, eS2, hf⟩ := fd_ltS hf
  rw [← eS2] at hH
  refine lv_iload_n hx hb dX7_wipe_10 rfl (lv_at hl 0 rfl) ?_
  cases hf
  exact fd_iret C hr hlk hH dX7_wipe_11
theorem dX7_size_0 : decode cX7_size 0 = .ok (.iload_n 0, 1) := by decide +kernel
theorem dX7_size_1 : decode cX7_size 1 = .ok (.bipush 6, 2) := by decide +kernel
theorem dX7_size_3 : decode cX7_size 3 = .ok (.if_icmp .ne 7, 3) := by decide +kernel
theorem dX7_size_6 : decode cX7_size 6 = .ok (.iconst 3, 1) := by decide +kernel
theorem dX7_size_7 : decode cX7_size 7 = .ok (.goto 4, 3) := by decide +kernel
theorem dX7_size_10 : decode cX7_size 10 = .ok (.iconst 4, 1) := by decide +kernel
theorem dX7_size_11 : decode cX7_size 11 = .ok (.ireturn, 1) := by decide +kernel
set_option maxHeartbeats 4000000 in
set_option maxRecDepth 100000 in
theorem cM_size (l : Launch) (E : fd_E) (S : fd_S) (x0 : Int32) : fd_Ct l yX7_size cX7_size 1 (some .int) (fd_rm 0 0) E S [.int x0] (some (.int (zM_size x0))) S := by
  generalize hf : zM_size x0 = r0
  unfold zM_size at hf
  refine fd_Ct_of (by decide +kernel) (Nat.le_of_ble_eq_true rfl) ?_
  intro p e s m below meth c ls C hr hlk hH hl
  have hx := C.1
  have hb := C.2.1
  have hl : lv_has ls 1 [(0, .int x0)] := hl
  refine lv_iload_n hx hb dX7_size_0 rfl (lv_at hl 0 rfl) ?_
  refine lv_bipush (v := (6 : Int32)) hx hb dX7_size_1 (by decide) ?_
  refine lv_icmp_ne (tgt := 10) hx hb dX7_size_3 (by decide) (fun c1 => ?_) (fun c1 => ?_)
  · have hf := fd_ifn c1 hf
    refine lv_iconst (v := (4 : Int32)) hx hb dX7_size_10 (by decide) ?_
    cases hf
    exact fd_iret C hr hlk hH dX7_size_11
  · have hf := fd_ifp c1 hf
    refine lv_iconst (v := (3 : Int32)) hx hb dX7_size_6 (by decide) ?_
    refine lv_goto (tgt := 11) hx hb dX7_size_7 (by decide) ?_
    cases hf
    exact fd_iret C hr hlk hH dX7_size_11
theorem dX7_isFigure_0 : decode cX7_isFigure 0 = .ok (.iload_n 0, 1) := by decide +kernel
theorem dX7_isFigure_1 : decode cX7_isFigure 1 = .ok (.bipush 48, 2) := by decide +kernel
theorem dX7_isFigure_3 : decode cX7_isFigure 3 = .ok (.bipush 57, 2) := by decide +kernel
theorem dX7_isFigure_5 : decode cX7_isFigure 5 = .ok (.invokestatic 43, 3) := by decide +kernel
theorem dX7_isFigure_8 : decode cX7_isFigure 8 = .ok (.ireturn, 1) := by decide +kernel
set_option maxHeartbeats 4000000 in
set_option maxRecDepth 100000 in
theorem cM_isFigure (l : Launch) (E : fd_E) (S : fd_S) (x0 : Int32) : fd_Ct l yX7_isFigure cX7_isFigure 1 (some .boolean) (fd_rm 1 22) E S [.int x0] (some (.int (zM_isFigure x0))) S := by
  generalize hf : zM_isFigure x0 = r0
  unfold zM_isFigure at hf
  refine fd_Ct_of (by decide +kernel) (Nat.le_of_ble_eq_true rfl) ?_
  intro p e s m below meth c ls C hr hlk hH hl
  have hx := C.1
  have hb := C.2.1
  have hl : lv_has ls 1 [(0, .int x0)] := hl
  refine lv_iload_n hx hb dX7_isFigure_0 rfl (lv_at hl 0 rfl) ?_
  refine lv_bipush (v := (48 : Int32)) hx hb dX7_isFigure_1 (by decide) ?_
  refine lv_bipush (v := (57 : Int32)) hx hb dX7_isFigure_3 (by decide) ?_
  refine fd_callS1 [.int x0, .int (48 : Int32), .int (57 : Int32)] C hl.1 hH (cM_in l E S x0 (48 : Int32) (57 : Int32)) wm_X7_43 ⟨rfl, rfl, Nat.le_of_ble_eq_true rfl, Nat.le_of_ble_eq_true rfl⟩ rfl rfl (Nat.le_of_ble_eq_true rfl) ⟨Nat.le_refl _, Nat.le_refl _⟩ dX7_isFigure_5 (fun H locs hH => ?_)
  cases hf
  exact fd_zret .boolean C hr hlk hH (fd_nb (zM_in_b _ _ _)) dX7_isFigure_8
theorem dX7_fitting_0 : decode cX7_fitting 0 = .ok (.iload_n 1, 1) := by decide +kernel
theorem dX7_fitting_1 : decode cX7_fitting 1 = .ok (.invokestatic 51, 3) := by decide +kernel
theorem dX7_fitting_4 : decode cX7_fitting 4 = .ok (.istore_n 2, 1) := by decide +kernel
theorem dX7_fitting_5 : decode cX7_fitting 5 = .ok (.iconst 0, 1) := by decide +kernel
theorem dX7_fitting_6 : decode cX7_fitting 6 = .ok (.istore_n 3, 1) := by decide +kernel
theorem dX7_fitting_7 : decode cX7_fitting 7 = .ok (.iload_n 3, 1) := by decide +kernel
theorem dX7_fitting_8 : decode cX7_fitting 8 = .ok (.aload_n 0, 1) := by decide +kernel
theorem dX7_fitting_9 : decode cX7_fitting 9 = .ok (.getfield 47, 3) := by decide +kernel
theorem dX7_fitting_12 : decode cX7_fitting 12 = .ok (.if_icmp .ge 33, 3) := by decide +kernel
theorem dX7_fitting_15 : decode cX7_fitting 15 = .ok (.iload_n 3, 1) := by decide +kernel
theorem dX7_fitting_16 : decode cX7_fitting 16 = .ok (.iload_n 2, 1) := by decide +kernel
theorem dX7_fitting_17 : decode cX7_fitting 17 = .ok (.if_icmp .ge 28, 3) := by decide +kernel
theorem dX7_fitting_20 : decode cX7_fitting 20 = .ok (.aload_n 0, 1) := by decide +kernel
theorem dX7_fitting_21 : decode cX7_fitting 21 = .ok (.getfield 40, 3) := by decide +kernel
theorem dX7_fitting_24 : decode cX7_fitting 24 = .ok (.iload_n 3, 1) := by decide +kernel
theorem dX7_fitting_25 : decode cX7_fitting 25 = .ok (.iaload, 1) := by decide +kernel
theorem dX7_fitting_26 : decode cX7_fitting 26 = .ok (.aload_n 0, 1) := by decide +kernel
theorem dX7_fitting_27 : decode cX7_fitting 27 = .ok (.getfield 21, 3) := by decide +kernel
theorem dX7_fitting_30 : decode cX7_fitting 30 = .ok (.iconst 4, 1) := by decide +kernel
theorem dX7_fitting_31 : decode cX7_fitting 31 = .ok (.iload_n 1, 1) := by decide +kernel
theorem dX7_fitting_32 : decode cX7_fitting 32 = .ok (.imul, 1) := by decide +kernel
theorem dX7_fitting_33 : decode cX7_fitting 33 = .ok (.iload_n 3, 1) := by decide +kernel
theorem dX7_fitting_34 : decode cX7_fitting 34 = .ok (.iadd, 1) := by decide +kernel
theorem dX7_fitting_35 : decode cX7_fitting 35 = .ok (.iaload, 1) := by decide +kernel
theorem dX7_fitting_36 : decode cX7_fitting 36 = .ok (.if_icmp .ne 9, 3) := by decide +kernel
theorem dX7_fitting_39 : decode cX7_fitting 39 = .ok (.iinc 3 1, 3) := by decide +kernel
theorem dX7_fitting_42 : decode cX7_fitting 42 = .ok (.goto (-35), 3) := by decide +kernel
theorem dX7_fitting_45 : decode cX7_fitting 45 = .ok (.iload_n 3, 1) := by decide +kernel
theorem dX7_fitting_46 : decode cX7_fitting 46 = .ok (.iload_n 2, 1) := by decide +kernel
theorem dX7_fitting_47 : decode cX7_fitting 47 = .ok (.if_icmp .ne 59, 3) := by decide +kernel
theorem dX7_fitting_50 : decode cX7_fitting 50 = .ok (.iload_n 3, 1) := by decide +kernel
theorem dX7_fitting_51 : decode cX7_fitting 51 = .ok (.aload_n 0, 1) := by decide +kernel
theorem dX7_fitting_52 : decode cX7_fitting 52 = .ok (.getfield 47, 3) := by decide +kernel
theorem dX7_fitting_55 : decode cX7_fitting 55 = .ok (.if_icmp .ge 51, 3) := by decide +kernel
theorem dX7_fitting_58 : decode cX7_fitting 58 = .ok (.aload_n 0, 1) := by decide +kernel
theorem dX7_fitting_59 : decode cX7_fitting 59 = .ok (.getfield 40, 3) := by decide +kernel
theorem dX7_fitting_62 : decode cX7_fitting 62 = .ok (.iload_n 3, 1) := by decide +kernel
theorem dX7_fitting_63 : decode cX7_fitting 63 = .ok (.iaload, 1) := by decide +kernel
theorem dX7_fitting_64 : decode cX7_fitting 64 = .ok (.bipush 61, 2) := by decide +kernel
theorem dX7_fitting_66 : decode cX7_fitting 66 = .ok (.if_icmp .ne 40, 3) := by decide +kernel
theorem dX7_fitting_69 : decode cX7_fitting 69 = .ok (.iinc 3 1, 3) := by decide +kernel
theorem dX7_fitting_72 : decode cX7_fitting 72 = .ok (.iload_n 3, 1) := by decide +kernel
theorem dX7_fitting_73 : decode cX7_fitting 73 = .ok (.aload_n 0, 1) := by decide +kernel
theorem dX7_fitting_74 : decode cX7_fitting 74 = .ok (.getfield 47, 3) := by decide +kernel
theorem dX7_fitting_77 : decode cX7_fitting 77 = .ok (.if_icmp .ge 29, 3) := by decide +kernel
theorem dX7_fitting_80 : decode cX7_fitting 80 = .ok (.iload_n 3, 1) := by decide +kernel
theorem dX7_fitting_81 : decode cX7_fitting 81 = .ok (.iload_n 2, 1) := by decide +kernel
theorem dX7_fitting_82 : decode cX7_fitting 82 = .ok (.bipush 6, 2) := by decide +kernel
theorem dX7_fitting_84 : decode cX7_fitting 84 = .ok (.iadd, 1) := by decide +kernel
theorem dX7_fitting_85 : decode cX7_fitting 85 = .ok (.if_icmp .ge 21, 3) := by decide +kernel
theorem dX7_fitting_88 : decode cX7_fitting 88 = .ok (.aload_n 0, 1) := by decide +kernel
theorem dX7_fitting_89 : decode cX7_fitting 89 = .ok (.getfield 40, 3) := by decide +kernel
theorem dX7_fitting_92 : decode cX7_fitting 92 = .ok (.iload_n 3, 1) := by decide +kernel
theorem dX7_fitting_93 : decode cX7_fitting 93 = .ok (.iaload, 1) := by decide +kernel
theorem dX7_fitting_94 : decode cX7_fitting 94 = .ok (.invokestatic 55, 3) := by decide +kernel
theorem dX7_fitting_97 : decode cX7_fitting 97 = .ok (.ifCond .eq 9, 3) := by decide +kernel
theorem dX7_fitting_100 : decode cX7_fitting 100 = .ok (.iinc 3 1, 3) := by decide +kernel
theorem dX7_fitting_103 : decode cX7_fitting 103 = .ok (.goto (-31), 3) := by decide +kernel
theorem dX7_fitting_106 : decode cX7_fitting 106 = .ok (.iload_n 3, 1) := by decide +kernel
theorem dX7_fitting_107 : decode cX7_fitting 107 = .ok (.ireturn, 1) := by decide +kernel
set_option maxHeartbeats 4000000 in
set_option maxRecDepth 100000 in
theorem wM_fitting_72 {p : Program} {l : Launch} {e : Env} {s : State} {m : MethodId} {args : Array Value} {below : List Frame} {meth : Method} {c : Code} {E : fd_E} (C : fd_C p s m args c yX7_fitting.cls cX7_fitting 4 E) (hr : meth.sig.returnType = (some .int)) (hlk : meth.locks = false) (fu : Nat) {r0 : Int32} : ∀ (n : Nat) (S : fd_S) (x2 : Int32) (x3 : Int32) (H : Heap) (locs : List Loc) (ls : Array Slot), zM_fitting_72 fu n S x2 x3 = some r0 → fd_H E S s H locs → lv_has ls 4 [(0, .ref (E.2.2 73)), (2, .int x2), (3, .int x3)] → W p l e (fd_rm 2 42) s m args below meth c H locs 0 0 (MQ below (fd_Q E (some (.int r0)) S) args s 0 0 (fd_A E)) (F0 m 72 ls []) := by
  have hx := C.1
  have hb := C.2.1
  intro n
  induction n with
  | zero =>
    intro S x2 x3 H locs ls hf
    rw [zM_fitting_72] at hf
    cases hf
  | succ n ih =>
    intro S x2 x3 H locs ls hf hH hl
    rw [zM_fitting_72] at hf
    refine lv_iload_n hx hb dX7_fitting_72 rfl (lv_at hl 2 rfl) ?_
    refine lv_aload_n hx hb dX7_fitting_73 rfl (lv_at hl 0 rfl) ?_
    refine fd_get 73 7 8 C hH (by decide) rfl (by decide) (by decide) wf_X7_47 (v := .int (S 73 (8 : Int32))) rfl dX7_fitting_74 ?_
    refine lv_icmp_ge (tgt := 106) hx hb dX7_fitting_77 (by decide) (fun c8 => ?_) (fun c8 => ?_)
    · have hf := fd_ifp c8 hf
      refine lv_iload_n hx hb dX7_fitting_106 rfl (lv_at hl 2 rfl) ?_
      cases hf
      exact fd_iret C hr hlk hH dX7_fitting_107
    · have hf := fd_ifn c8 hf
      refine lv_iload_n hx hb dX7_fitting_80 rfl (lv_at hl 2 rfl) ?_
      refine lv_iload_n hx hb dX7_fitting_81 rfl (lv_at hl 1 rfl) ?_
      refine lv_bipush (v := (6 : Int32)) hx hb dX7_fitting_82 (by decide) ?_
      refine lv_iadd hx hb dX7_fitting_84 ?_
      refine lv_icmp_ge (tgt := 106) hx hb dX7_fitting_85 (by decide) (fun c9 => ?_) (fun c9 => ?_)
      · have hf := fd_ifp c9 hf
        refine lv_iload_n hx hb dX7_fitting_106 rfl (lv_at hl 2 rfl) ?_
        cases hf
        exact fd_iret C hr hlk hH dX7_fitting_107
      · have hf := fd_ifn c9 hf
        refine lv_aload_n hx hb dX7_fitting_88 rfl (lv_at hl 0 rfl) ?_
        refine fd_get 73 7 7 C hH (by decide) rfl (by decide) (by decide) wf_X7_40 (v := .ref (E.2.2 81)) rfl dX7_fitting_89 ?_
        refine lv_iload_n hx hb dX7_fitting_92 rfl (lv_at hl 2 rfl) ?_
        obtain ⟨g10, hf⟩ := fd_grd hf
        refine fd_iald 81 (12 : Int32) C hH (by decide) rfl rfl g10 dX7_fitting_93 ?_
        refine fd_callS1 [.int (S 81 x3)] C hl.1 hH (cM_isFigure l E S (S 81 x3)) wm_X7_55 ⟨rfl, rfl, Nat.le_of_ble_eq_true rfl, Nat.le_of_ble_eq_true rfl⟩ rfl rfl (Nat.le_of_ble_eq_true rfl) ⟨Nat.le_refl _, Nat.le_refl _⟩ dX7_fitting_94 (fun H locs hH => ?_)
        refine lv_if_eq (tgt := 106) hx hb dX7_fitting_97 (by decide) (fun c11 => ?_) (fun c11 => ?_)
        · have hf := fd_ifp c11 hf
          refine lv_iload_n hx hb dX7_fitting_106 rfl (lv_at hl 2 rfl) ?_
          cases hf
          exact fd_iret C hr hlk hH dX7_fitting_107
        · have hf := fd_ifn c11 hf
          obtain ⟨y12, ey12, hf⟩ := fd_ltS hf
          refine lv_iinc (v := y12) (lv' := [(3, .int y12), (0, .ref (E.2.2 73)), (2, .int x2)]) hx hb dX7_fitting_100 hl (k := 2) rfl (by rw [ey12]; rfl) (by decide) rfl (fun ls hl => ?_)
          refine lv_goto (tgt := 72) hx hb dX7_fitting_103 (by decide) ?_
          exact ih S x2 y12 _ _ _ hf hH (lv_sub hl [1, 2, 0] rfl)
set_option maxHeartbeats 4000000 in
set_option maxRecDepth 100000 in
theorem wM_fitting_45 {p : Program} {l : Launch} {e : Env} {s : State} {m : MethodId} {args : Array Value} {below : List Frame} {meth : Method} {c : Code} {E : fd_E} (C : fd_C p s m args c yX7_fitting.cls cX7_fitting 4 E) (hr : meth.sig.returnType = (some .int)) (hlk : meth.locks = false) (fu : Nat) {r0 : Int32} : ∀ (S : fd_S) (x2 : Int32) (x3 : Int32) (H : Heap) (locs : List Loc) (ls : Array Slot), zM_fitting_45 fu S x2 x3 = some r0 → fd_H E S s H locs → lv_has ls 4 [(0, .ref (E.2.2 73)), (2, .int x2), (3, .int x3)] → W p l e (fd_rm 2 42) s m args below meth c H locs 0 0 (MQ below (fd_Q E (some (.int r0)) S) args s 0 0 (fd_A E)) (F0 m 45 ls []) := by
  have hx := C.1
  have hb := C.2.1
  intro S x2 x3 H locs ls hf hH hl
  unfold zM_fitting_45 at hf
  refine lv_iload_n hx hb dX7_fitting_45 rfl (lv_at hl 2 rfl) ?_
  refine lv_iload_n hx hb dX7_fitting_46 rfl (lv_at hl 1 rfl) ?_
  refine lv_icmp_ne (tgt := 106) hx hb dX7_fitting_47 (by decide) (fun c3 => ?_) (fun c3 => ?_)
  · have hf := fd_ifn c3 hf
    refine lv_iload_n hx hb dX7_fitting_106 rfl (lv_at hl 2 rfl) ?_
    cases hf
    exact fd_iret C hr hlk hH dX7_fitting_107
  · have hf := fd_ifp c3 hf
    refine lv_iload_n hx hb dX7_fitting_50 rfl (lv_at hl 2 rfl) ?_
    refine lv_aload_n hx hb dX7_fitting_51 rfl (lv_at hl 0 rfl) ?_
    refine fd_get 73 7 8 C hH (by decide) rfl (by decide) (by decide) wf_X7_47 (v := .int (S 73 (8 : Int32))) rfl dX7_fitting_52 ?_
    refine lv_icmp_ge (tgt := 106) hx hb dX7_fitting_55 (by decide) (fun c4 => ?_) (fun c4 => ?_)
    · have hf := fd_ifp c4 hf
      refine lv_iload_n hx hb dX7_fitting_106 rfl (lv_at hl 2 rfl) ?_
      cases hf
      exact fd_iret C hr hlk hH dX7_fitting_107
    · have hf := fd_ifn c4 hf
      refine lv_aload_n hx hb dX7_fitting_58 rfl (lv_at hl 0 rfl) ?_
      refine fd_get 73 7 7 C hH (by decide) rfl (by decide) (by decide) wf_X7_40 (v := .ref (E.2.2 81)) rfl dX7_fitting_59 ?_
      refine lv_iload_n hx hb dX7_fitting_62 rfl (lv_at hl 2 rfl) ?_
      obtain ⟨g5, hf⟩ := fd_grd hf
      refine fd_iald 81 (12 : Int32) C hH (by decide) rfl rfl g5 dX7_fitting_63 ?_
      refine lv_bipush (v := (61 : Int32)) hx hb dX7_fitting_64 (by decide) ?_
      refine lv_icmp_ne (tgt := 106) hx hb dX7_fitting_66 (by decide) (fun c6 => ?_) (fun c6 => ?_)
      · have hf := fd_ifn c6 hf
        refine lv_iload_n hx hb dX7_fitting_106 rfl (lv_at hl 2 rfl) ?_
        cases hf
        exact fd_iret C hr hlk hH dX7_fitting_107
      · have hf := fd_ifp c6 hf
        obtain ⟨y7, ey7, hf⟩ := fd_ltS hf
        refine lv_iinc (v := y7) (lv' := [(3, .int y7), (0, .ref (E.2.2 73)), (2, .int x2)]) hx hb dX7_fitting_69 hl (k := 2) rfl (by rw [ey7]; rfl) (by decide) rfl (fun ls hl => ?_)
        exact wM_fitting_72 C hr hlk fu fu S x2 y7 _ _ _ hf hH (lv_sub hl [1, 2, 0] rfl)
set_option maxHeartbeats 4000000 in
set_option maxRecDepth 100000 in
theorem wM_fitting_7 {p : Program} {l : Launch} {e : Env} {s : State} {m : MethodId} {args : Array Value} {below : List Frame} {meth : Method} {c : Code} {E : fd_E} (C : fd_C p s m args c yX7_fitting.cls cX7_fitting 4 E) (hr : meth.sig.returnType = (some .int)) (hlk : meth.locks = false) (fu : Nat) {r0 : Int32} : ∀ (n : Nat) (S : fd_S) (x1 : Int32) (x2 : Int32) (x3 : Int32) (H : Heap) (locs : List Loc) (ls : Array Slot), zM_fitting_7 fu n S x1 x2 x3 = some r0 → fd_H E S s H locs → lv_has ls 4 [(0, .ref (E.2.2 73)), (1, .int x1), (2, .int x2), (3, .int x3)] → W p l e (fd_rm 2 42) s m args below meth c H locs 0 0 (MQ below (fd_Q E (some (.int r0)) S) args s 0 0 (fd_A E)) (F0 m 7 ls []) := by
  have hx := C.1
  have hb := C.2.1
  intro n
  induction n with
  | zero =>
    intro S x1 x2 x3 H locs ls hf
    rw [zM_fitting_7] at hf
    cases hf
  | succ n ih =>
    intro S x1 x2 x3 H locs ls hf hH hl
    rw [zM_fitting_7] at hf
    refine lv_iload_n hx hb dX7_fitting_7 rfl (lv_at hl 3 rfl) ?_
    refine lv_aload_n hx hb dX7_fitting_8 rfl (lv_at hl 0 rfl) ?_
    refine fd_get 73 7 8 C hH (by decide) rfl (by decide) (by decide) wf_X7_47 (v := .int (S 73 (8 : Int32))) rfl dX7_fitting_9 ?_
    refine lv_icmp_ge (tgt := 45) hx hb dX7_fitting_12 (by decide) (fun c2 => ?_) (fun c2 => ?_)
    · have hf := fd_ifp c2 hf
      exact wM_fitting_45 C hr hlk fu S x2 x3 _ _ _ hf hH (lv_sub hl [0, 2, 3] rfl)
    · have hf := fd_ifn c2 hf
      refine lv_iload_n hx hb dX7_fitting_15 rfl (lv_at hl 3 rfl) ?_
      refine lv_iload_n hx hb dX7_fitting_16 rfl (lv_at hl 2 rfl) ?_
      refine lv_icmp_ge (tgt := 45) hx hb dX7_fitting_17 (by decide) (fun c13 => ?_) (fun c13 => ?_)
      · have hf := fd_ifp c13 hf
        exact wM_fitting_45 C hr hlk fu S x2 x3 _ _ _ hf hH (lv_sub hl [0, 2, 3] rfl)
      · have hf := fd_ifn c13 hf
        refine lv_aload_n hx hb dX7_fitting_20 rfl (lv_at hl 0 rfl) ?_
        refine fd_get 73 7 7 C hH (by decide) rfl (by decide) (by decide) wf_X7_40 (v := .ref (E.2.2 81)) rfl dX7_fitting_21 ?_
        refine lv_iload_n hx hb dX7_fitting_24 rfl (lv_at hl 3 rfl) ?_
        obtain ⟨g14, hf⟩ := fd_grd hf
        refine fd_iald 81 (12 : Int32) C hH (by decide) rfl rfl g14 dX7_fitting_25 ?_
        refine lv_aload_n hx hb dX7_fitting_26 rfl (lv_at hl 0 rfl) ?_
        refine fd_get 73 7 1 C hH (by decide) rfl (by decide) (by decide) wf_X7_21 (v := .ref (E.2.2 75)) rfl dX7_fitting_27 ?_
        refine lv_iconst (v := (4 : Int32)) hx hb dX7_fitting_30 (by decide) ?_
        refine lv_iload_n hx hb dX7_fitting_31 rfl (lv_at hl 1 rfl) ?_
        refine lv_imul hx hb dX7_fitting_32 ?_
        refine lv_iload_n hx hb dX7_fitting_33 rfl (lv_at hl 3 rfl) ?_
        refine lv_iadd hx hb dX7_fitting_34 ?_
        obtain ⟨g15, hf⟩ := fd_grd hf
        refine fd_iald 75 (28 : Int32) C hH (by decide) rfl rfl g15 dX7_fitting_35 ?_
        refine lv_icmp_ne (tgt := 45) hx hb dX7_fitting_36 (by decide) (fun c16 => ?_) (fun c16 => ?_)
        · have hf := fd_ifn c16 hf
          exact wM_fitting_45 C hr hlk fu S x2 x3 _ _ _ hf hH (lv_sub hl [0, 2, 3] rfl)
        · have hf := fd_ifp c16 hf
          obtain ⟨y17, ey17, hf⟩ := fd_ltS hf
          refine lv_iinc (v := y17) (lv' := [(3, .int y17), (0, .ref (E.2.2 73)), (1, .int x1), (2, .int x2)]) hx hb dX7_fitting_39 hl (k := 3) rfl (by rw [ey17]; rfl) (by decide) rfl (fun ls hl => ?_)
          refine lv_goto (tgt := 7) hx hb dX7_fitting_42 (by decide) ?_
          exact ih S x1 x2 y17 _ _ _ hf hH (lv_sub hl [1, 2, 3, 0] rfl)
set_option maxHeartbeats 4000000 in
set_option maxRecDepth 100000 in
theorem cM_fitting (l : Launch) (E : fd_E) (fu : Nat) (S : fd_S) (x1 : Int32) {r0 : Int32} (hf : zM_fitting fu S x1 = some r0) : fd_Ct l yX7_fitting cX7_fitting 4 (some .int) (fd_rm 2 42) E S [.ref (E.2.2 73), .int x1] (some (.int r0)) S := by
  unfold zM_fitting at hf
  refine fd_Ct_of (by decide +kernel) (Nat.le_of_ble_eq_true rfl) ?_
  intro p e s m below meth c ls C hr hlk hH hl
  have hx := C.1
  have hb := C.2.1
  have hl : lv_has ls 4 [(0, .ref (E.2.2 73)), (1, .int x1)] := hl
  refine lv_iload_n hx hb dX7_fitting_0 rfl (lv_at hl 1 rfl) ?_
  refine fd_callS1 [.int x1] C hl.1 hH (cM_size l E S x1) wm_X7_51 ⟨rfl, rfl, Nat.le_of_ble_eq_true rfl, Nat.le_of_ble_eq_true rfl⟩ rfl rfl (Nat.le_of_ble_eq_true rfl) ⟨Nat.le_refl _, Nat.le_refl _⟩ dX7_fitting_1 (fun H locs hH => ?_)
  refine lv_topi (fun y1 ey1 => ?_)
  have hf := fd_ltN ey1 hf
  refine lv_istore_n (lv' := [(2, .int y1), (0, .ref (E.2.2 73)), (1, .int x1)]) hx hb dX7_fitting_4 rfl hl (by decide) rfl (fun ls hl => ?_)
  refine lv_iconst (v := (0 : Int32)) hx hb dX7_fitting_5 (by decide) ?_
  refine lv_istore_n (lv' := [(3, .int (0 : Int32)), (2, .int y1), (0, .ref (E.2.2 73)), (1, .int x1)]) hx hb dX7_fitting_6 rfl hl (by decide) rfl (fun ls hl => ?_)
  exact wM_fitting_7 C hr hlk fu fu S x1 y1 (0 : Int32) _ _ _ hf hH (lv_sub hl [2, 3, 1, 0] rfl)
theorem dX7_told_0 : decode cX7_told 0 = .ok (.bipush (-6), 2) := by decide +kernel
theorem dX7_told_2 : decode cX7_told 2 = .ok (.istore_n 1, 1) := by decide +kernel
theorem dX7_told_3 : decode cX7_told 3 = .ok (.iconst 0, 1) := by decide +kernel
theorem dX7_told_4 : decode cX7_told 4 = .ok (.istore_n 2, 1) := by decide +kernel
theorem dX7_told_5 : decode cX7_told 5 = .ok (.iload_n 2, 1) := by decide +kernel
theorem dX7_told_6 : decode cX7_told 6 = .ok (.bipush 7, 2) := by decide +kernel
theorem dX7_told_8 : decode cX7_told 8 = .ok (.if_icmp .ge 40, 3) := by decide +kernel
theorem dX7_told_11 : decode cX7_told 11 = .ok (.aload_n 0, 1) := by decide +kernel
theorem dX7_told_12 : decode cX7_told 12 = .ok (.getfield 47, 3) := by decide +kernel
theorem dX7_told_15 : decode cX7_told 15 = .ok (.iload_n 2, 1) := by decide +kernel
theorem dX7_told_16 : decode cX7_told 16 = .ok (.invokestatic 51, 3) := by decide +kernel
theorem dX7_told_19 : decode cX7_told 19 = .ok (.iconst 1, 1) := by decide +kernel
theorem dX7_told_20 : decode cX7_told 20 = .ok (.iadd, 1) := by decide +kernel
theorem dX7_told_21 : decode cX7_told 21 = .ok (.if_icmp .le 19, 3) := by decide +kernel
theorem dX7_told_24 : decode cX7_told 24 = .ok (.aload_n 0, 1) := by decide +kernel
theorem dX7_told_25 : decode cX7_told 25 = .ok (.iload_n 2, 1) := by decide +kernel
theorem dX7_told_26 : decode cX7_told 26 = .ok (.invokevirtual 59, 3) := by decide +kernel
theorem dX7_told_29 : decode cX7_told 29 = .ok (.aload_n 0, 1) := by decide +kernel
theorem dX7_told_30 : decode cX7_told 30 = .ok (.getfield 47, 3) := by decide +kernel
theorem dX7_told_33 : decode cX7_told 33 = .ok (.if_icmp .ne 7, 3) := by decide +kernel
theorem dX7_told_36 : decode cX7_told 36 = .ok (.iload_n 2, 1) := by decide +kernel
theorem dX7_told_37 : decode cX7_told 37 = .ok (.goto 4, 3) := by decide +kernel
theorem dX7_told_40 : decode cX7_told 40 = .ok (.iload_n 1, 1) := by decide +kernel
theorem dX7_told_41 : decode cX7_told 41 = .ok (.istore_n 1, 1) := by decide +kernel
theorem dX7_told_42 : decode cX7_told 42 = .ok (.iinc 2 1, 3) := by decide +kernel
theorem dX7_told_45 : decode cX7_told 45 = .ok (.goto (-40), 3) := by decide +kernel
theorem dX7_told_48 : decode cX7_told 48 = .ok (.iload_n 1, 1) := by decide +kernel
theorem dX7_told_49 : decode cX7_told 49 = .ok (.ireturn, 1) := by decide +kernel
set_option maxHeartbeats 4000000 in
set_option maxRecDepth 100000 in
theorem wM_told_5 {p : Program} {l : Launch} {e : Env} {s : State} {m : MethodId} {args : Array Value} {below : List Frame} {meth : Method} {c : Code} {E : fd_E} (C : fd_C p s m args c yX7_told.cls cX7_told 3 E) (hr : meth.sig.returnType = (some .int)) (hlk : meth.locks = false) (fu : Nat) {r0 : Int32} : ∀ (n : Nat) (S : fd_S) (x1 : Int32) (x2 : Int32) (H : Heap) (locs : List Loc) (ls : Array Slot), zM_told_5 fu n S x1 x2 = some r0 → fd_H E S s H locs → lv_has ls 3 [(0, .ref (E.2.2 73)), (1, .int x1), (2, .int x2)] → W p l e (fd_rm 3 65) s m args below meth c H locs 0 0 (MQ below (fd_Q E (some (.int r0)) S) args s 0 0 (fd_A E)) (F0 m 5 ls []) := by
  have hx := C.1
  have hb := C.2.1
  intro n
  induction n with
  | zero =>
    intro S x1 x2 H locs ls hf
    rw [zM_told_5] at hf
    cases hf
  | succ n ih =>
    intro S x1 x2 H locs ls hf hH hl
    rw [zM_told_5] at hf
    refine lv_iload_n hx hb dX7_told_5 rfl (lv_at hl 2 rfl) ?_
    refine lv_bipush (v := (7 : Int32)) hx hb dX7_told_6 (by decide) ?_
    refine lv_icmp_ge (tgt := 48) hx hb dX7_told_8 (by decide) (fun c1 => ?_) (fun c1 => ?_)
    · have hf := fd_ifp c1 hf
      refine lv_iload_n hx hb dX7_told_48 rfl (lv_at hl 1 rfl) ?_
      cases hf
      exact fd_iret C hr hlk hH dX7_told_49
    · have hf := fd_ifn c1 hf
      refine lv_aload_n hx hb dX7_told_11 rfl (lv_at hl 0 rfl) ?_
      refine fd_get 73 7 8 C hH (by decide) rfl (by decide) (by decide) wf_X7_47 (v := .int (S 73 (8 : Int32))) rfl dX7_told_12 ?_
      refine lv_iload_n hx hb dX7_told_15 rfl (lv_at hl 2 rfl) ?_
      refine fd_callS1 [.int x2] C hl.1 hH (cM_size l E S x2) wm_X7_51 ⟨rfl, rfl, Nat.le_of_ble_eq_true rfl, Nat.le_of_ble_eq_true rfl⟩ rfl rfl (Nat.le_of_ble_eq_true rfl) ⟨Nat.le_refl _, Nat.le_refl _⟩ dX7_told_16 (fun H locs hH => ?_)
      refine lv_iconst (v := (1 : Int32)) hx hb dX7_told_19 (by decide) ?_
      refine lv_iadd hx hb dX7_told_20 ?_
      refine lv_icmp_le (tgt := 40) hx hb dX7_told_21 (by decide) (fun c2 => ?_) (fun c2 => ?_)
      · have hf := fd_ifp c2 hf
        refine lv_iload_n hx hb dX7_told_40 rfl (lv_at hl 1 rfl) ?_
        refine lv_istore_n (lv' := [(1, .int x1), (0, .ref (E.2.2 73)), (2, .int x2)]) hx hb dX7_told_41 rfl hl (by decide) rfl (fun ls hl => ?_)
        obtain ⟨y3, ey3, hf⟩ := fd_ltS hf
        refine lv_iinc (v := y3) (lv' := [(2, .int y3), (1, .int x1), (0, .ref (E.2.2 73))]) hx hb dX7_told_42 hl (k := 2) rfl (by rw [ey3]; rfl) (by decide) rfl (fun ls hl => ?_)
        refine lv_goto (tgt := 5) hx hb dX7_told_45 (by decide) ?_
        exact ih S x1 y3 _ _ _ hf hH (lv_sub hl [2, 1, 0] rfl)
      · have hf := fd_ifn c2 hf
        refine lv_aload_n hx hb dX7_told_24 rfl (lv_at hl 0 rfl) ?_
        refine lv_iload_n hx hb dX7_told_25 rfl (lv_at hl 2 rfl) ?_
        obtain ⟨r4, e5, hf⟩ := fd_bnd hf
        refine fd_callV1 73 7 [.int x2] C hl.1 hH (cM_fitting l E fu S x2 e5) wm_X7_59 (by decide) rfl (by decide) rfl ⟨rfl, rfl, Nat.le_of_ble_eq_true rfl, Nat.le_of_ble_eq_true rfl⟩ rfl rfl (Nat.le_of_ble_eq_true rfl) ⟨Nat.le_refl _, Nat.le_refl _⟩ dX7_told_26 (fun H locs hH => ?_)
        refine lv_aload_n hx hb dX7_told_29 rfl (lv_at hl 0 rfl) ?_
        refine fd_get 73 7 8 C hH (by decide) rfl (by decide) (by decide) wf_X7_47 (v := .int (S 73 (8 : Int32))) rfl dX7_told_30 ?_
        refine lv_icmp_ne (tgt := 40) hx hb dX7_told_33 (by decide) (fun c6 => ?_) (fun c6 => ?_)
        · have hf := fd_ifn c6 hf
          refine lv_iload_n hx hb dX7_told_40 rfl (lv_at hl 1 rfl) ?_
          refine lv_istore_n (lv' := [(1, .int x1), (0, .ref (E.2.2 73)), (2, .int x2)]) hx hb dX7_told_41 rfl hl (by decide) rfl (fun ls hl => ?_)
          obtain ⟨y7, ey7, hf⟩ := fd_ltS hf
          refine lv_iinc (v := y7) (lv' := [(2, .int y7), (1, .int x1), (0, .ref (E.2.2 73))]) hx hb dX7_told_42 hl (k := 2) rfl (by rw [ey7]; rfl) (by decide) rfl (fun ls hl => ?_)
          refine lv_goto (tgt := 5) hx hb dX7_told_45 (by decide) ?_
          exact ih S x1 y7 _ _ _ hf hH (lv_sub hl [2, 1, 0] rfl)
        · have hf := fd_ifp c6 hf
          refine lv_iload_n hx hb dX7_told_36 rfl (lv_at hl 2 rfl) ?_
          refine lv_goto (tgt := 41) hx hb dX7_told_37 (by decide) ?_
          refine lv_istore_n (lv' := [(1, .int x2), (0, .ref (E.2.2 73)), (2, .int x2)]) hx hb dX7_told_41 rfl hl (by decide) rfl (fun ls hl => ?_)
          obtain ⟨y8, ey8, hf⟩ := fd_ltS hf
          refine lv_iinc (v := y8) (lv' := [(2, .int y8), (1, .int x2), (0, .ref (E.2.2 73))]) hx hb dX7_told_42 hl (k := 2) rfl (by rw [ey8]; rfl) (by decide) rfl (fun ls hl => ?_)
          refine lv_goto (tgt := 5) hx hb dX7_told_45 (by decide) ?_
          exact ih S x2 y8 _ _ _ hf hH (lv_sub hl [2, 1, 0] rfl)
set_option maxHeartbeats 4000000 in
set_option maxRecDepth 100000 in
theorem cM_told (l : Launch) (E : fd_E) (fu : Nat) (S : fd_S) {r0 : Int32} (hf : zM_told fu S = some r0) : fd_Ct l yX7_told cX7_told 3 (some .int) (fd_rm 3 65) E S [.ref (E.2.2 73)] (some (.int r0)) S := by
  unfold zM_told at hf
  refine fd_Ct_of (by decide +kernel) (Nat.le_of_ble_eq_true rfl) ?_
  intro p e s m below meth c ls C hr hlk hH hl
  have hx := C.1
  have hb := C.2.1
  have hl : lv_has ls 3 [(0, .ref (E.2.2 73))] := hl
  refine lv_bipush (v := (-6 : Int32)) hx hb dX7_told_0 (by decide) ?_
  refine lv_istore_n (lv' := [(1, .int (-6 : Int32)), (0, .ref (E.2.2 73))]) hx hb dX7_told_2 rfl hl (by decide) rfl (fun ls hl => ?_)
  refine lv_iconst (v := (0 : Int32)) hx hb dX7_told_3 (by decide) ?_
  refine lv_istore_n (lv' := [(2, .int (0 : Int32)), (1, .int (-6 : Int32)), (0, .ref (E.2.2 73))]) hx hb dX7_told_4 rfl hl (by decide) rfl (fun ls hl => ?_)
  exact wM_told_5 C hr hlk fu fu S (-6 : Int32) (0 : Int32) _ _ _ hf hH (lv_sub hl [2, 1, 0] rfl)
theorem dX7_faultNow_0 : decode cX7_faultNow 0 = .ok (.iconst 0, 1) := by decide +kernel
theorem dX7_faultNow_1 : decode cX7_faultNow 1 = .ok (.istore_n 1, 1) := by decide +kernel
theorem dX7_faultNow_2 : decode cX7_faultNow 2 = .ok (.iconst 0, 1) := by decide +kernel
theorem dX7_faultNow_3 : decode cX7_faultNow 3 = .ok (.istore_n 2, 1) := by decide +kernel
theorem dX7_faultNow_4 : decode cX7_faultNow 4 = .ok (.iload_n 2, 1) := by decide +kernel
theorem dX7_faultNow_5 : decode cX7_faultNow 5 = .ok (.bipush 7, 2) := by decide +kernel
theorem dX7_faultNow_7 : decode cX7_faultNow 7 = .ok (.if_icmp .ge 28, 3) := by decide +kernel
theorem dX7_faultNow_10 : decode cX7_faultNow 10 = .ok (.aload_n 0, 1) := by decide +kernel
theorem dX7_faultNow_11 : decode cX7_faultNow 11 = .ok (.iload_n 2, 1) := by decide +kernel
theorem dX7_faultNow_12 : decode cX7_faultNow 12 = .ok (.invokevirtual 59, 3) := by decide +kernel
theorem dX7_faultNow_15 : decode cX7_faultNow 15 = .ok (.iload_n 1, 1) := by decide +kernel
theorem dX7_faultNow_16 : decode cX7_faultNow 16 = .ok (.if_icmp .le 11, 3) := by decide +kernel
theorem dX7_faultNow_19 : decode cX7_faultNow 19 = .ok (.aload_n 0, 1) := by decide +kernel
theorem dX7_faultNow_20 : decode cX7_faultNow 20 = .ok (.iload_n 2, 1) := by decide +kernel
theorem dX7_faultNow_21 : decode cX7_faultNow 21 = .ok (.invokevirtual 59, 3) := by decide +kernel
theorem dX7_faultNow_24 : decode cX7_faultNow 24 = .ok (.goto 4, 3) := by decide +kernel
theorem dX7_faultNow_27 : decode cX7_faultNow 27 = .ok (.iload_n 1, 1) := by decide +kernel
theorem dX7_faultNow_28 : decode cX7_faultNow 28 = .ok (.istore_n 1, 1) := by decide +kernel
theorem dX7_faultNow_29 : decode cX7_faultNow 29 = .ok (.iinc 2 1, 3) := by decide +kernel
theorem dX7_faultNow_32 : decode cX7_faultNow 32 = .ok (.goto (-28), 3) := by decide +kernel
theorem dX7_faultNow_35 : decode cX7_faultNow 35 = .ok (.aload_n 0, 1) := by decide +kernel
theorem dX7_faultNow_36 : decode cX7_faultNow 36 = .ok (.invokevirtual 62, 3) := by decide +kernel
theorem dX7_faultNow_39 : decode cX7_faultNow 39 = .ok (.ifCond .lt 8, 3) := by decide +kernel
theorem dX7_faultNow_42 : decode cX7_faultNow 42 = .ok (.bipush (-6), 2) := by decide +kernel
theorem dX7_faultNow_44 : decode cX7_faultNow 44 = .ok (.goto 4, 3) := by decide +kernel
theorem dX7_faultNow_47 : decode cX7_faultNow 47 = .ok (.iload_n 1, 1) := by decide +kernel
theorem dX7_faultNow_48 : decode cX7_faultNow 48 = .ok (.ireturn, 1) := by decide +kernel
set_option maxHeartbeats 4000000 in
set_option maxRecDepth 100000 in
theorem wM_faultNow_4 {p : Program} {l : Launch} {e : Env} {s : State} {m : MethodId} {args : Array Value} {below : List Frame} {meth : Method} {c : Code} {E : fd_E} (C : fd_C p s m args c yX7_faultNow.cls cX7_faultNow 3 E) (hr : meth.sig.returnType = (some .int)) (hlk : meth.locks = false) (fu : Nat) {r0 : Int32} : ∀ (n : Nat) (S : fd_S) (x1 : Int32) (x2 : Int32) (H : Heap) (locs : List Loc) (ls : Array Slot), zM_faultNow_4 fu n S x1 x2 = some r0 → fd_H E S s H locs → lv_has ls 3 [(0, .ref (E.2.2 73)), (1, .int x1), (2, .int x2)] → W p l e (fd_rm 4 87) s m args below meth c H locs 0 0 (MQ below (fd_Q E (some (.int r0)) S) args s 0 0 (fd_A E)) (F0 m 4 ls []) := by
  have hx := C.1
  have hb := C.2.1
  intro n
  induction n with
  | zero =>
    intro S x1 x2 H locs ls hf
    rw [zM_faultNow_4] at hf
    cases hf
  | succ n ih =>
    intro S x1 x2 H locs ls hf hH hl
    rw [zM_faultNow_4] at hf
    refine lv_iload_n hx hb dX7_faultNow_4 rfl (lv_at hl 2 rfl) ?_
    refine lv_bipush (v := (7 : Int32)) hx hb dX7_faultNow_5 (by decide) ?_
    refine lv_icmp_ge (tgt := 35) hx hb dX7_faultNow_7 (by decide) (fun c1 => ?_) (fun c1 => ?_)
    · have hf := fd_ifp c1 hf
      refine lv_aload_n hx hb dX7_faultNow_35 rfl (lv_at hl 0 rfl) ?_
      obtain ⟨r2, e3, hf⟩ := fd_bnd hf
      refine fd_callV1 73 7 [] C hl.1 hH (cM_told l E fu S e3) wm_X7_62 (by decide) rfl (by decide) rfl ⟨rfl, rfl, Nat.le_of_ble_eq_true rfl, Nat.le_of_ble_eq_true rfl⟩ rfl rfl (Nat.le_of_ble_eq_true rfl) ⟨Nat.le_refl _, Nat.le_refl _⟩ dX7_faultNow_36 (fun H locs hH => ?_)
      refine lv_if_lt (tgt := 47) hx hb dX7_faultNow_39 (by decide) (fun c4 => ?_) (fun c4 => ?_)
      · have hf := fd_ifp c4 hf
        refine lv_iload_n hx hb dX7_faultNow_47 rfl (lv_at hl 1 rfl) ?_
        cases hf
        exact fd_iret C hr hlk hH dX7_faultNow_48
      · have hf := fd_ifn c4 hf
        refine lv_bipush (v := (-6 : Int32)) hx hb dX7_faultNow_42 (by decide) ?_
        refine lv_goto (tgt := 48) hx hb dX7_faultNow_44 (by decide) ?_
        cases hf
        exact fd_iret C hr hlk hH dX7_faultNow_48
    · have hf := fd_ifn c1 hf
      refine lv_aload_n hx hb dX7_faultNow_10 rfl (lv_at hl 0 rfl) ?_
      refine lv_iload_n hx hb dX7_faultNow_11 rfl (lv_at hl 2 rfl) ?_
      obtain ⟨r5, e6, hf⟩ := fd_bnd hf
      refine fd_callV1 73 7 [.int x2] C hl.1 hH (cM_fitting l E fu S x2 e6) wm_X7_59 (by decide) rfl (by decide) rfl ⟨rfl, rfl, Nat.le_of_ble_eq_true rfl, Nat.le_of_ble_eq_true rfl⟩ rfl rfl (Nat.le_of_ble_eq_true rfl) ⟨Nat.le_refl _, Nat.le_refl _⟩ dX7_faultNow_12 (fun H locs hH => ?_)
      refine lv_iload_n hx hb dX7_faultNow_15 rfl (lv_at hl 1 rfl) ?_
      refine lv_icmp_le (tgt := 27) hx hb dX7_faultNow_16 (by decide) (fun c7 => ?_) (fun c7 => ?_)
      · have hf := fd_ifp c7 hf
        refine lv_iload_n hx hb dX7_faultNow_27 rfl (lv_at hl 1 rfl) ?_
        refine lv_istore_n (lv' := [(1, .int x1), (0, .ref (E.2.2 73)), (2, .int x2)]) hx hb dX7_faultNow_28 rfl hl (by decide) rfl (fun ls hl => ?_)
        obtain ⟨y8, ey8, hf⟩ := fd_ltS hf
        refine lv_iinc (v := y8) (lv' := [(2, .int y8), (1, .int x1), (0, .ref (E.2.2 73))]) hx hb dX7_faultNow_29 hl (k := 2) rfl (by rw [ey8]; rfl) (by decide) rfl (fun ls hl => ?_)
        refine lv_goto (tgt := 4) hx hb dX7_faultNow_32 (by decide) ?_
        exact ih S x1 y8 _ _ _ hf hH (lv_sub hl [2, 1, 0] rfl)
      · have hf := fd_ifn c7 hf
        refine lv_aload_n hx hb dX7_faultNow_19 rfl (lv_at hl 0 rfl) ?_
        refine lv_iload_n hx hb dX7_faultNow_20 rfl (lv_at hl 2 rfl) ?_
        obtain ⟨r9, e10, hf⟩ := fd_bnd hf
        refine fd_callV1 73 7 [.int x2] C hl.1 hH (cM_fitting l E fu S x2 e10) wm_X7_59 (by decide) rfl (by decide) rfl ⟨rfl, rfl, Nat.le_of_ble_eq_true rfl, Nat.le_of_ble_eq_true rfl⟩ rfl rfl (Nat.le_of_ble_eq_true rfl) ⟨Nat.le_refl _, Nat.le_refl _⟩ dX7_faultNow_21 (fun H locs hH => ?_)
        refine lv_goto (tgt := 28) hx hb dX7_faultNow_24 (by decide) ?_
        refine lv_istore_n (lv' := [(1, .int r9), (0, .ref (E.2.2 73)), (2, .int x2)]) hx hb dX7_faultNow_28 rfl hl (by decide) rfl (fun ls hl => ?_)
        obtain ⟨y11, ey11, hf⟩ := fd_ltS hf
        refine lv_iinc (v := y11) (lv' := [(2, .int y11), (1, .int r9), (0, .ref (E.2.2 73))]) hx hb dX7_faultNow_29 hl (k := 2) rfl (by rw [ey11]; rfl) (by decide) rfl (fun ls hl => ?_)
        refine lv_goto (tgt := 4) hx hb dX7_faultNow_32 (by decide) ?_
        exact ih S r9 y11 _ _ _ hf hH (lv_sub hl [2, 1, 0] rfl)
set_option maxHeartbeats 4000000 in
set_option maxRecDepth 100000 in
theorem cM_faultNow (l : Launch) (E : fd_E) (fu : Nat) (S : fd_S) {r0 : Int32} (hf : zM_faultNow fu S = some r0) : fd_Ct l yX7_faultNow cX7_faultNow 3 (some .int) (fd_rm 4 87) E S [.ref (E.2.2 73)] (some (.int r0)) S := by
  unfold zM_faultNow at hf
  refine fd_Ct_of (by decide +kernel) (Nat.le_of_ble_eq_true rfl) ?_
  intro p e s m below meth c ls C hr hlk hH hl
  have hx := C.1
  have hb := C.2.1
  have hl : lv_has ls 3 [(0, .ref (E.2.2 73))] := hl
  refine lv_iconst (v := (0 : Int32)) hx hb dX7_faultNow_0 (by decide) ?_
  refine lv_istore_n (lv' := [(1, .int (0 : Int32)), (0, .ref (E.2.2 73))]) hx hb dX7_faultNow_1 rfl hl (by decide) rfl (fun ls hl => ?_)
  refine lv_iconst (v := (0 : Int32)) hx hb dX7_faultNow_2 (by decide) ?_
  refine lv_istore_n (lv' := [(2, .int (0 : Int32)), (1, .int (0 : Int32)), (0, .ref (E.2.2 73))]) hx hb dX7_faultNow_3 rfl hl (by decide) rfl (fun ls hl => ?_)
  exact wM_faultNow_4 C hr hlk fu fu S (0 : Int32) (0 : Int32) _ _ _ hf hH (lv_sub hl [2, 1, 0] rfl)
theorem dX7_fault_0 : decode cX7_fault 0 = .ok (.aload_n 0, 1) := by decide +kernel
theorem dX7_fault_1 : decode cX7_fault 1 = .ok (.invokevirtual 66, 3) := by decide +kernel
theorem dX7_fault_4 : decode cX7_fault 4 = .ok (.ireturn, 1) := by decide +kernel
set_option maxHeartbeats 4000000 in
set_option maxRecDepth 100000 in
theorem cM_fault (l : Launch) (E : fd_E) (fu : Nat) (S : fd_S) {r0 : Int32} (hf : zM_fault fu S = some r0) : fd_Ct l yX7_fault cX7_fault 1 (some .int) (fd_rm 5 109) E S [.ref (E.2.2 73)] (some (.int r0)) S := by
  unfold zM_fault at hf
  refine fd_Ct_of (by decide +kernel) (Nat.le_of_ble_eq_true rfl) ?_
  intro p e s m below meth c ls C hr hlk hH hl
  have hx := C.1
  have hb := C.2.1
  have hl : lv_has ls 1 [(0, .ref (E.2.2 73))] := hl
  refine lv_aload_n hx hb dX7_fault_0 rfl (lv_at hl 0 rfl) ?_
  obtain ⟨r1, e2, hf⟩ := fd_bnd hf
  refine fd_callV1 73 7 [] C hl.1 hH (cM_faultNow l E fu S e2) wm_X7_66 (by decide) rfl (by decide) rfl ⟨rfl, rfl, Nat.le_of_ble_eq_true rfl, Nat.le_of_ble_eq_true rfl⟩ rfl rfl (Nat.le_of_ble_eq_true rfl) ⟨Nat.le_refl _, Nat.le_refl _⟩ dX7_fault_1 (fun H locs hH => ?_)
  cases hf
  exact fd_iret C hr hlk hH dX7_fault_4
theorem dX7_set_0 : decode cX7_set 0 = .ok (.aload_n 0, 1) := by decide +kernel
theorem dX7_set_1 : decode cX7_set 1 = .ok (.invokevirtual 62, 3) := by decide +kernel
theorem dX7_set_4 : decode cX7_set 4 = .ok (.istore_n 1, 1) := by decide +kernel
theorem dX7_set_5 : decode cX7_set 5 = .ok (.iload_n 1, 1) := by decide +kernel
theorem dX7_set_6 : decode cX7_set 6 = .ok (.ifCond .ge 6, 3) := by decide +kernel
theorem dX7_set_9 : decode cX7_set 9 = .ok (.bipush (-7), 2) := by decide +kernel
theorem dX7_set_11 : decode cX7_set 11 = .ok (.ireturn, 1) := by decide +kernel
theorem dX7_set_12 : decode cX7_set 12 = .ok (.iconst 0, 1) := by decide +kernel
theorem dX7_set_13 : decode cX7_set 13 = .ok (.istore_n 2, 1) := by decide +kernel
theorem dX7_set_14 : decode cX7_set 14 = .ok (.iload_n 1, 1) := by decide +kernel
theorem dX7_set_15 : decode cX7_set 15 = .ok (.invokestatic 51, 3) := by decide +kernel
theorem dX7_set_18 : decode cX7_set 18 = .ok (.iconst 1, 1) := by decide +kernel
theorem dX7_set_19 : decode cX7_set 19 = .ok (.iadd, 1) := by decide +kernel
theorem dX7_set_20 : decode cX7_set 20 = .ok (.istore_n 3, 1) := by decide +kernel
theorem dX7_set_21 : decode cX7_set 21 = .ok (.iload_n 3, 1) := by decide +kernel
theorem dX7_set_22 : decode cX7_set 22 = .ok (.aload_n 0, 1) := by decide +kernel
theorem dX7_set_23 : decode cX7_set 23 = .ok (.getfield 47, 3) := by decide +kernel
theorem dX7_set_26 : decode cX7_set 26 = .ok (.if_icmp .ge 24, 3) := by decide +kernel
theorem dX7_set_29 : decode cX7_set 29 = .ok (.bipush 10, 2) := by decide +kernel
theorem dX7_set_31 : decode cX7_set 31 = .ok (.iload_n 2, 1) := by decide +kernel
theorem dX7_set_32 : decode cX7_set 32 = .ok (.imul, 1) := by decide +kernel
theorem dX7_set_33 : decode cX7_set 33 = .ok (.aload_n 0, 1) := by decide +kernel
theorem dX7_set_34 : decode cX7_set 34 = .ok (.getfield 40, 3) := by decide +kernel
theorem dX7_set_37 : decode cX7_set 37 = .ok (.iload_n 3, 1) := by decide +kernel
theorem dX7_set_38 : decode cX7_set 38 = .ok (.iaload, 1) := by decide +kernel
theorem dX7_set_39 : decode cX7_set 39 = .ok (.iadd, 1) := by decide +kernel
theorem dX7_set_40 : decode cX7_set 40 = .ok (.bipush 48, 2) := by decide +kernel
theorem dX7_set_42 : decode cX7_set 42 = .ok (.isub, 1) := by decide +kernel
theorem dX7_set_43 : decode cX7_set 43 = .ok (.istore_n 2, 1) := by decide +kernel
theorem dX7_set_44 : decode cX7_set 44 = .ok (.iinc 3 1, 3) := by decide +kernel
theorem dX7_set_47 : decode cX7_set 47 = .ok (.goto (-26), 3) := by decide +kernel
theorem dX7_set_50 : decode cX7_set 50 = .ok (.iload_n 2, 1) := by decide +kernel
theorem dX7_set_51 : decode cX7_set 51 = .ok (.aload_n 0, 1) := by decide +kernel
theorem dX7_set_52 : decode cX7_set 52 = .ok (.getfield 24, 3) := by decide +kernel
theorem dX7_set_55 : decode cX7_set 55 = .ok (.iload_n 1, 1) := by decide +kernel
theorem dX7_set_56 : decode cX7_set 56 = .ok (.iaload, 1) := by decide +kernel
theorem dX7_set_57 : decode cX7_set 57 = .ok (.aload_n 0, 1) := by decide +kernel
theorem dX7_set_58 : decode cX7_set 58 = .ok (.getfield 27, 3) := by decide +kernel
theorem dX7_set_61 : decode cX7_set 61 = .ok (.iload_n 1, 1) := by decide +kernel
theorem dX7_set_62 : decode cX7_set 62 = .ok (.iaload, 1) := by decide +kernel
theorem dX7_set_63 : decode cX7_set 63 = .ok (.invokestatic 43, 3) := by decide +kernel
theorem dX7_set_66 : decode cX7_set 66 = .ok (.ifCond .ne 6, 3) := by decide +kernel
theorem dX7_set_69 : decode cX7_set 69 = .ok (.bipush (-2), 2) := by decide +kernel
theorem dX7_set_71 : decode cX7_set 71 = .ok (.ireturn, 1) := by decide +kernel
theorem dX7_set_72 : decode cX7_set 72 = .ok (.aload_n 0, 1) := by decide +kernel
theorem dX7_set_73 : decode cX7_set 73 = .ok (.iload_n 1, 1) := by decide +kernel
theorem dX7_set_74 : decode cX7_set 74 = .ok (.invokevirtual 69, 3) := by decide +kernel
theorem dX7_set_77 : decode cX7_set 77 = .ok (.istore_n 3, 1) := by decide +kernel
theorem dX7_set_78 : decode cX7_set 78 = .ok (.aload_n 0, 1) := by decide +kernel
theorem dX7_set_79 : decode cX7_set 79 = .ok (.getfield 30, 3) := by decide +kernel
theorem dX7_set_82 : decode cX7_set 82 = .ok (.bipush 32, 2) := by decide +kernel
theorem dX7_set_84 : decode cX7_set 84 = .ok (.iload_n 1, 1) := by decide +kernel
theorem dX7_set_85 : decode cX7_set 85 = .ok (.iadd, 1) := by decide +kernel
theorem dX7_set_86 : decode cX7_set 86 = .ok (.iload_n 2, 1) := by decide +kernel
theorem dX7_set_87 : decode cX7_set 87 = .ok (.iastore, 1) := by decide +kernel
theorem dX7_set_88 : decode cX7_set 88 = .ok (.aload_n 0, 1) := by decide +kernel
theorem dX7_set_89 : decode cX7_set 89 = .ok (.iconst 0, 1) := by decide +kernel
theorem dX7_set_90 : decode cX7_set 90 = .ok (.putfield 47, 3) := by decide +kernel
theorem dX7_set_93 : decode cX7_set 93 = .ok (.iload_n 3, 1) := by decide +kernel
theorem dX7_set_94 : decode cX7_set 94 = .ok (.ireturn, 1) := by decide +kernel
set_option maxHeartbeats 4000000 in
set_option maxRecDepth 100000 in
theorem wM_set_21 {p : Program} {l : Launch} {e : Env} {s : State} {m : MethodId} {args : Array Value} {below : List Frame} {meth : Method} {c : Code} {E : fd_E} (C : fd_C p s m args c yX7_set.cls cX7_set 4 E) (hr : meth.sig.returnType = (some .int)) (hlk : meth.locks = false) (fu : Nat) {r0 : Int32} {S0 : fd_S} : ∀ (n : Nat) (S : fd_S) (x1 : Int32) (x2 : Int32) (x3 : Int32) (H : Heap) (locs : List Loc) (ls : Array Slot), zM_set_21 fu n S x1 x2 x3 = some (r0, S0) → fd_H E S s H locs → lv_has ls 4 [(0, .ref (E.2.2 73)), (1, .int x1), (2, .int x2), (3, .int x3)] → W p l e (fd_rm 4 87) s m args below meth c H locs 0 0 (MQ below (fd_Q E (some (.int r0)) S0) args s 0 0 (fd_A E)) (F0 m 21 ls []) := by
  have hx := C.1
  have hb := C.2.1
  intro n
  induction n with
  | zero =>
    intro S x1 x2 x3 H locs ls hf
    rw [zM_set_21] at hf
    cases hf
  | succ n ih =>
    intro S x1 x2 x3 H locs ls hf hH hl
    rw [zM_set_21] at hf
    refine lv_iload_n hx hb dX7_set_21 rfl (lv_at hl 3 rfl) ?_
    refine lv_aload_n hx hb dX7_set_22 rfl (lv_at hl 0 rfl) ?_
    refine fd_get 73 7 8 C hH (by decide) rfl (by decide) (by decide) wf_X7_47 (v := .int (S 73 (8 : Int32))) rfl dX7_set_23 ?_
    refine lv_icmp_ge (tgt := 50) hx hb dX7_set_26 (by decide) (fun c5 => ?_) (fun c5 => ?_)
    · have hf := fd_ifp c5 hf
      refine lv_iload_n hx hb dX7_set_50 rfl (lv_at hl 2 rfl) ?_
      refine lv_aload_n hx hb dX7_set_51 rfl (lv_at hl 0 rfl) ?_
      refine fd_get 73 7 2 C hH (by decide) rfl (by decide) (by decide) wf_X7_24 (v := .ref (E.2.2 76)) rfl dX7_set_52 ?_
      refine lv_iload_n hx hb dX7_set_55 rfl (lv_at hl 1 rfl) ?_
      obtain ⟨g6, hf⟩ := fd_grd hf
      refine fd_iald 76 (7 : Int32) C hH (by decide) rfl rfl g6 dX7_set_56 ?_
      refine lv_aload_n hx hb dX7_set_57 rfl (lv_at hl 0 rfl) ?_
      refine fd_get 73 7 3 C hH (by decide) rfl (by decide) (by decide) wf_X7_27 (v := .ref (E.2.2 77)) rfl dX7_set_58 ?_
      refine lv_iload_n hx hb dX7_set_61 rfl (lv_at hl 1 rfl) ?_
      obtain ⟨g7, hf⟩ := fd_grd hf
      refine fd_iald 77 (7 : Int32) C hH (by decide) rfl rfl g7 dX7_set_62 ?_
      refine fd_callS1 [.int x2, .int (S 76 x1), .int (S 77 x1)] C hl.1 hH (cM_in l E S x2 (S 76 x1) (S 77 x1)) wm_X7_43 ⟨rfl, rfl, Nat.le_of_ble_eq_true rfl, Nat.le_of_ble_eq_true rfl⟩ rfl rfl (Nat.le_of_ble_eq_true rfl) ⟨Nat.le_refl _, Nat.le_refl _⟩ dX7_set_63 (fun H locs hH => ?_)
      refine lv_if_ne (tgt := 72) hx hb dX7_set_66 (by decide) (fun c8 => ?_) (fun c8 => ?_)
      · have hf := fd_ifn c8 hf
        refine lv_aload_n hx hb dX7_set_72 rfl (lv_at hl 0 rfl) ?_
        refine lv_iload_n hx hb dX7_set_73 rfl (lv_at hl 1 rfl) ?_
        obtain ⟨r9, e10, hf⟩ := fd_bnd hf
        refine fd_callV1 73 7 [.int x1] C hl.1 hH (cM_bounded l E S x1 e10) wm_X7_69 (by decide) rfl (by decide) rfl ⟨rfl, rfl, Nat.le_of_ble_eq_true rfl, Nat.le_of_ble_eq_true rfl⟩ rfl rfl (Nat.le_of_ble_eq_true rfl) ⟨Nat.le_refl _, Nat.le_refl _⟩ dX7_set_74 (fun H locs hH => ?_)
        refine lv_istore_n (lv' := [(3, .int r9), (0, .ref (E.2.2 73)), (1, .int x1), (2, .int x2)]) hx hb dX7_set_77 rfl hl (by decide) rfl (fun ls hl => ?_)
        refine lv_aload_n hx hb dX7_set_78 rfl (lv_at hl 1 rfl) ?_
        refine fd_get 73 7 4 C hH (by decide) rfl (by decide) (by decide) wf_X7_30 (v := .ref (E.2.2 78)) rfl dX7_set_79 ?_
        refine lv_bipush (v := (32 : Int32)) hx hb dX7_set_82 (by decide) ?_
        refine lv_iload_n hx hb dX7_set_84 rfl (lv_at hl 2 rfl) ?_
        refine lv_iadd hx hb dX7_set_85 ?_
        refine lv_iload_n hx hb dX7_set_86 rfl (lv_at hl 3 rfl) ?_
        obtain ⟨g11, hf⟩ := fd_grd hf
        refine fd_iast 78 (275 : Int32) C hH (by decide) rfl rfl g11 dX7_set_87 (fun H locs hH => ?_)
        obtain ⟨S12, eS12, hf⟩ := fd_ltS hf
        rw [← eS12] at hH
        refine lv_aload_n hx hb dX7_set_88 rfl (lv_at hl 1 rfl) ?_
        refine lv_iconst (v := (0 : Int32)) hx hb dX7_set_89 (by decide) ?_
        refine fd_put 73 7 8 (8 : Int32) C hH (by decide) rfl (by decide) (by decide) wf_X7_47 rfl rfl rfl rfl rfl (Nat.le_of_ble_eq_true rfl) dX7_set_90 (fun H locs hH => ?_)
        obtain ⟨S13, eS13, hf⟩ := fd_ltS hf
        rw [← eS13] at hH
        refine lv_iload_n hx hb dX7_set_93 rfl (lv_at hl 0 rfl) ?_
        cases hf
        exact fd_iret C hr hlk hH dX7_set_94
      · have hf := fd_ifp c8 hf
        refine lv_bipush (v := (-2 : Int32)) hx hb dX7_set_69 (by decide) ?_
        cases hf
        exact fd_iret C hr hlk hH dX7_set_71
    · have hf := fd_ifn c5 hf
      refine lv_bipush (v := (10 : Int32)) hx hb dX7_set_29 (by decide) ?_
      refine lv_iload_n hx hb dX7_set_31 rfl (lv_at hl 2 rfl) ?_
      refine lv_imul hx hb dX7_set_32 ?_
      refine lv_aload_n hx hb dX7_set_33 rfl (lv_at hl 0 rfl) ?_
      refine fd_get 73 7 7 C hH (by decide) rfl (by decide) (by decide) wf_X7_40 (v := .ref (E.2.2 81)) rfl dX7_set_34 ?_
      refine lv_iload_n hx hb dX7_set_37 rfl (lv_at hl 3 rfl) ?_
      obtain ⟨g14, hf⟩ := fd_grd hf
      refine fd_iald 81 (12 : Int32) C hH (by decide) rfl rfl g14 dX7_set_38 ?_
      refine lv_iadd hx hb dX7_set_39 ?_
      refine lv_bipush (v := (48 : Int32)) hx hb dX7_set_40 (by decide) ?_
      refine lv_isub hx hb dX7_set_42 ?_
      refine lv_topi (fun y15 ey15 => ?_)
      have hf := fd_ltN ey15 hf
      refine lv_istore_n (lv' := [(2, .int y15), (0, .ref (E.2.2 73)), (1, .int x1), (3, .int x3)]) hx hb dX7_set_43 rfl hl (by decide) rfl (fun ls hl => ?_)
      obtain ⟨y16, ey16, hf⟩ := fd_ltS hf
      refine lv_iinc (v := y16) (lv' := [(3, .int y16), (2, .int y15), (0, .ref (E.2.2 73)), (1, .int x1)]) hx hb dX7_set_44 hl (k := 3) rfl (by rw [ey16]; rfl) (by decide) rfl (fun ls hl => ?_)
      refine lv_goto (tgt := 21) hx hb dX7_set_47 (by decide) ?_
      exact ih S x1 y15 y16 _ _ _ hf hH (lv_sub hl [2, 3, 1, 0] rfl)
set_option maxHeartbeats 4000000 in
set_option maxRecDepth 100000 in
theorem cM_set (l : Launch) (E : fd_E) (fu : Nat) (S : fd_S) {r0 : Int32} {S0 : fd_S} (hf : zM_set fu S = some (r0, S0)) : fd_Ct l yX7_set cX7_set 4 (some .int) (fd_rm 4 87) E S [.ref (E.2.2 73)] (some (.int r0)) S0 := by
  unfold zM_set at hf
  refine fd_Ct_of (by decide +kernel) (Nat.le_of_ble_eq_true rfl) ?_
  intro p e s m below meth c ls C hr hlk hH hl
  have hx := C.1
  have hb := C.2.1
  have hl : lv_has ls 4 [(0, .ref (E.2.2 73))] := hl
  refine lv_aload_n hx hb dX7_set_0 rfl (lv_at hl 0 rfl) ?_
  obtain ⟨r1, e2, hf⟩ := fd_bnd hf
  refine fd_callV1 73 7 [] C hl.1 hH (cM_told l E fu S e2) wm_X7_62 (by decide) rfl (by decide) rfl ⟨rfl, rfl, Nat.le_of_ble_eq_true rfl, Nat.le_of_ble_eq_true rfl⟩ rfl rfl (Nat.le_of_ble_eq_true rfl) ⟨Nat.le_refl _, Nat.le_refl _⟩ dX7_set_1 (fun H locs hH => ?_)
  refine lv_istore_n (lv' := [(1, .int r1), (0, .ref (E.2.2 73))]) hx hb dX7_set_4 rfl hl (by decide) rfl (fun ls hl => ?_)
  refine lv_iload_n hx hb dX7_set_5 rfl (lv_at hl 0 rfl) ?_
  refine lv_if_ge (tgt := 12) hx hb dX7_set_6 (by decide) (fun c3 => ?_) (fun c3 => ?_)
  · have hf := fd_ifp c3 hf
    refine lv_iconst (v := (0 : Int32)) hx hb dX7_set_12 (by decide) ?_
    refine lv_istore_n (lv' := [(2, .int (0 : Int32)), (1, .int r1), (0, .ref (E.2.2 73))]) hx hb dX7_set_13 rfl hl (by decide) rfl (fun ls hl => ?_)
    refine lv_iload_n hx hb dX7_set_14 rfl (lv_at hl 1 rfl) ?_
    refine fd_callS1 [.int r1] C hl.1 hH (cM_size l E S r1) wm_X7_51 ⟨rfl, rfl, Nat.le_of_ble_eq_true rfl, Nat.le_of_ble_eq_true rfl⟩ rfl rfl (Nat.le_of_ble_eq_true rfl) ⟨Nat.le_refl _, Nat.le_refl _⟩ dX7_set_15 (fun H locs hH => ?_)
    refine lv_iconst (v := (1 : Int32)) hx hb dX7_set_18 (by decide) ?_
    refine lv_iadd hx hb dX7_set_19 ?_
    refine lv_topi (fun y4 ey4 => ?_)
    have hf := fd_ltN ey4 hf
    refine lv_istore_n (lv' := [(3, .int y4), (2, .int (0 : Int32)), (1, .int r1), (0, .ref (E.2.2 73))]) hx hb dX7_set_20 rfl hl (by decide) rfl (fun ls hl => ?_)
    exact wM_set_21 C hr hlk fu fu S r1 (0 : Int32) y4 _ _ _ hf hH (lv_sub hl [3, 2, 1, 0] rfl)
  · have hf := fd_ifn c3 hf
    refine lv_bipush (v := (-7 : Int32)) hx hb dX7_set_9 (by decide) ?_
    cases hf
    exact fd_iret C hr hlk hH dX7_set_11
