theorem dX5_append_0 : decode cX5_append 0 = .ok (.aload_n 0, 1) := by decide +kernel
theorem dX5_append_1 : decode cX5_append 1 = .ok (.getfield 15, 3) := by decide +kernel
theorem dX5_append_4 : decode cX5_append 4 = .ok (.bipush 12, 2) := by decide +kernel
theorem dX5_append_6 : decode cX5_append 6 = .ok (.if_icmp .lt 5, 3) := by decide +kernel
theorem dX5_append_9 : decode cX5_append 9 = .ok (.iconst 0, 1) := by decide +kernel
theorem dX5_append_10 : decode cX5_append 10 = .ok (.ireturn, 1) := by decide +kernel
theorem dX5_append_11 : decode cX5_append 11 = .ok (.aload_n 0, 1) := by decide +kernel
theorem dX5_append_12 : decode cX5_append 12 = .ok (.getfield 9, 3) := by decide +kernel
theorem dX5_append_15 : decode cX5_append 15 = .ok (.aload_n 0, 1) := by decide +kernel
theorem dX5_append_16 : decode cX5_append 16 = .ok (.getfield 15, 3) := by decide +kernel
theorem dX5_append_19 : decode cX5_append 19 = .ok (.iload_n 1, 1) := by decide +kernel
theorem dX5_append_20 : decode cX5_append 20 = .ok (.iastore, 1) := by decide +kernel
theorem dX5_append_21 : decode cX5_append 21 = .ok (.aload_n 0, 1) := by decide +kernel
theorem dX5_append_22 : decode cX5_append 22 = .ok (.dup, 1) := by decide +kernel
theorem dX5_append_23 : decode cX5_append 23 = .ok (.getfield 15, 3) := by decide +kernel
theorem dX5_append_26 : decode cX5_append 26 = .ok (.iconst 1, 1) := by decide +kernel
theorem dX5_append_27 : decode cX5_append 27 = .ok (.iadd, 1) := by decide +kernel
theorem dX5_append_28 : decode cX5_append 28 = .ok (.putfield 15, 3) := by decide +kernel
theorem dX5_append_31 : decode cX5_append 31 = .ok (.iconst 1, 1) := by decide +kernel
theorem dX5_append_32 : decode cX5_append 32 = .ok (.ireturn, 1) := by decide +kernel
set_option maxHeartbeats 4000000 in
set_option maxRecDepth 100000 in
theorem cT_append (l : Launch) (E : fd_E) (S : fd_S) (x1 : Int32) {r0 : Int32} {S0 : fd_S} (hf : zT_append S x1 = some (r0, S0)) : fd_Ct l yX5_append cX5_append 2 (some .boolean) (fd_rm 0 0) E S [.ref (E.2.2 71), .int x1] (some (.int r0)) S0 := by
  unfold zT_append at hf
  refine fd_Ct_of (by decide +kernel) (Nat.le_of_ble_eq_true rfl) ?_
  intro p e s m below meth c ls C hr hlk hH hl
  have hx := C.1
  have hb := C.2.1
  have hl : lv_has ls 2 [(0, .ref (E.2.2 71)), (1, .int x1)] := hl
  refine lv_aload_n hx hb dX5_append_0 rfl (lv_at hl 0 rfl) ?_
  refine fd_get 71 5 1 C hH (by decide) rfl (by decide) (by decide) wf_X5_15 (v := .int (S 71 (1 : Int32))) rfl dX5_append_1 ?_
  refine lv_bipush (v := (12 : Int32)) hx hb dX5_append_4 (by decide) ?_
  refine lv_icmp_lt (tgt := 11) hx hb dX5_append_6 (by decide) (fun c1 => ?_) (fun c1 => ?_)
  · have hf := fd_ifp c1 hf
    refine lv_aload_n hx hb dX5_append_11 rfl (lv_at hl 0 rfl) ?_
    refine fd_get 71 5 0 C hH (by decide) rfl (by decide) (by decide) wf_X5_9 (v := .ref (E.2.2 72)) rfl dX5_append_12 ?_
    refine lv_aload_n hx hb dX5_append_15 rfl (lv_at hl 0 rfl) ?_
    refine fd_get 71 5 1 C hH (by decide) rfl (by decide) (by decide) wf_X5_15 (v := .int (S 71 (1 : Int32))) rfl dX5_append_16 ?_
    refine lv_iload_n hx hb dX5_append_19 rfl (lv_at hl 1 rfl) ?_
    obtain ⟨g2, hf⟩ := fd_grd hf
    refine fd_iast 72 (12 : Int32) C hH (by decide) rfl rfl g2 dX5_append_20 (fun H locs hH => ?_)
    obtain ⟨S3, eS3, hf⟩ := fd_ltS hf
    rw [← eS3] at hH
    refine lv_aload_n hx hb dX5_append_21 rfl (lv_at hl 0 rfl) ?_
    refine lv_dup hx hb dX5_append_22 rfl ?_
    refine fd_get 71 5 1 C hH (by decide) rfl (by decide) (by decide) wf_X5_15 (v := .int (S3 71 (1 : Int32))) rfl dX5_append_23 ?_
    refine lv_iconst (v := (1 : Int32)) hx hb dX5_append_26 (by decide) ?_
    refine lv_iadd hx hb dX5_append_27 ?_
    refine fd_put 71 5 1 (1 : Int32) C hH (by decide) rfl (by decide) (by decide) wf_X5_15 rfl rfl rfl rfl rfl (Nat.le_of_ble_eq_true rfl) dX5_append_28 (fun H locs hH => ?_)
    obtain ⟨S4, eS4, hf⟩ := fd_ltS hf
    rw [← eS4] at hH
    refine lv_iconst (v := (1 : Int32)) hx hb dX5_append_31 (by decide) ?_
    cases hf
    exact fd_zret .boolean C hr hlk hH rfl dX5_append_32
  · have hf := fd_ifn c1 hf
    refine lv_iconst (v := (0 : Int32)) hx hb dX5_append_9 (by decide) ?_
    cases hf
    exact fd_zret .boolean C hr hlk hH rfl dX5_append_10
theorem dX5_clear_0 : decode cX5_clear 0 = .ok (.aload_n 0, 1) := by decide +kernel
theorem dX5_clear_1 : decode cX5_clear 1 = .ok (.getfield 15, 3) := by decide +kernel
theorem dX5_clear_4 : decode cX5_clear 4 = .ok (.istore_n 1, 1) := by decide +kernel
theorem dX5_clear_5 : decode cX5_clear 5 = .ok (.aload_n 0, 1) := by decide +kernel
theorem dX5_clear_6 : decode cX5_clear 6 = .ok (.iconst 0, 1) := by decide +kernel
theorem dX5_clear_7 : decode cX5_clear 7 = .ok (.putfield 15, 3) := by decide +kernel
theorem dX5_clear_10 : decode cX5_clear 10 = .ok (.iload_n 1, 1) := by decide +kernel
theorem dX5_clear_11 : decode cX5_clear 11 = .ok (.ireturn, 1) := by decide +kernel
set_option maxHeartbeats 4000000 in
set_option maxRecDepth 100000 in
theorem cT_clear (l : Launch) (E : fd_E) (S : fd_S) {r0 : Int32} {S0 : fd_S} (hf : zT_clear S = some (r0, S0)) : fd_Ct l yX5_clear cX5_clear 2 (some .int) (fd_rm 0 0) E S [.ref (E.2.2 71)] (some (.int r0)) S0 := by
  unfold zT_clear at hf
  refine fd_Ct_of (by decide +kernel) (Nat.le_of_ble_eq_true rfl) ?_
  intro p e s m below meth c ls C hr hlk hH hl
  have hx := C.1
  have hb := C.2.1
  have hl : lv_has ls 2 [(0, .ref (E.2.2 71))] := hl
  refine lv_aload_n hx hb dX5_clear_0 rfl (lv_at hl 0 rfl) ?_
  refine fd_get 71 5 1 C hH (by decide) rfl (by decide) (by decide) wf_X5_15 (v := .int (S 71 (1 : Int32))) rfl dX5_clear_1 ?_
  refine lv_topi (fun y1 ey1 => ?_)
  have hf := fd_ltN ey1 hf
  refine lv_istore_n (lv' := [(1, .int y1), (0, .ref (E.2.2 71))]) hx hb dX5_clear_4 rfl hl (by decide) rfl (fun ls hl => ?_)
  refine lv_aload_n hx hb dX5_clear_5 rfl (lv_at hl 1 rfl) ?_
  refine lv_iconst (v := (0 : Int32)) hx hb dX5_clear_6 (by decide) ?_
  refine fd_put 71 5 1 (1 : Int32) C hH (by decide) rfl (by decide) (by decide) wf_X5_15 rfl rfl rfl rfl rfl (Nat.le_of_ble_eq_true rfl) dX5_clear_7 (fun H locs hH => ?_)
  obtain ⟨S2, eS2, hf⟩ := fd_ltS hf
  rw [← eS2] at hH
  refine lv_iload_n hx hb dX5_clear_10 rfl (lv_at hl 0 rfl) ?_
  cases hf
  exact fd_iret C hr hlk hH dX5_clear_11
theorem dX5_isFigure_0 : decode cX5_isFigure 0 = .ok (.iload_n 0, 1) := by decide +kernel
theorem dX5_isFigure_1 : decode cX5_isFigure 1 = .ok (.bipush 48, 2) := by decide +kernel
theorem dX5_isFigure_3 : decode cX5_isFigure 3 = .ok (.if_icmp .lt 13, 3) := by decide +kernel
theorem dX5_isFigure_6 : decode cX5_isFigure 6 = .ok (.iload_n 0, 1) := by decide +kernel
theorem dX5_isFigure_7 : decode cX5_isFigure 7 = .ok (.bipush 57, 2) := by decide +kernel
theorem dX5_isFigure_9 : decode cX5_isFigure 9 = .ok (.if_icmp .gt 7, 3) := by decide +kernel
theorem dX5_isFigure_12 : decode cX5_isFigure 12 = .ok (.iconst 1, 1) := by decide +kernel
theorem dX5_isFigure_13 : decode cX5_isFigure 13 = .ok (.goto 4, 3) := by decide +kernel
theorem dX5_isFigure_16 : decode cX5_isFigure 16 = .ok (.iconst 0, 1) := by decide +kernel
theorem dX5_isFigure_17 : decode cX5_isFigure 17 = .ok (.ireturn, 1) := by decide +kernel
set_option maxHeartbeats 4000000 in
set_option maxRecDepth 100000 in
theorem cT_isFigure (l : Launch) (E : fd_E) (S : fd_S) (x0 : Int32) : fd_Ct l yX5_isFigure cX5_isFigure 1 (some .boolean) (fd_rm 0 0) E S [.int x0] (some (.int (zT_isFigure x0))) S := by
  generalize hf : zT_isFigure x0 = r0
  unfold zT_isFigure at hf
  refine fd_Ct_of (by decide +kernel) (Nat.le_of_ble_eq_true rfl) ?_
  intro p e s m below meth c ls C hr hlk hH hl
  have hx := C.1
  have hb := C.2.1
  have hl : lv_has ls 1 [(0, .int x0)] := hl
  refine lv_iload_n hx hb dX5_isFigure_0 rfl (lv_at hl 0 rfl) ?_
  refine lv_bipush (v := (48 : Int32)) hx hb dX5_isFigure_1 (by decide) ?_
  refine lv_icmp_lt (tgt := 16) hx hb dX5_isFigure_3 (by decide) (fun c1 => ?_) (fun c1 => ?_)
  · have hf := fd_ifp c1 hf
    refine lv_iconst (v := (0 : Int32)) hx hb dX5_isFigure_16 (by decide) ?_
    cases hf
    exact fd_zret .boolean C hr hlk hH rfl dX5_isFigure_17
  · have hf := fd_ifn c1 hf
    refine lv_iload_n hx hb dX5_isFigure_6 rfl (lv_at hl 0 rfl) ?_
    refine lv_bipush (v := (57 : Int32)) hx hb dX5_isFigure_7 (by decide) ?_
    refine lv_icmp_gt (tgt := 16) hx hb dX5_isFigure_9 (by decide) (fun c2 => ?_) (fun c2 => ?_)
    · have hf := fd_ifp c2 hf
      refine lv_iconst (v := (0 : Int32)) hx hb dX5_isFigure_16 (by decide) ?_
      cases hf
      exact fd_zret .boolean C hr hlk hH rfl dX5_isFigure_17
    · have hf := fd_ifn c2 hf
      refine lv_iconst (v := (1 : Int32)) hx hb dX5_isFigure_12 (by decide) ?_
      refine lv_goto (tgt := 17) hx hb dX5_isFigure_13 (by decide) ?_
      cases hf
      exact fd_zret .boolean C hr hlk hH rfl dX5_isFigure_17
theorem dX5_nameOf_0 : decode cX5_nameOf 0 = .ok (.iload_n 0, 1) := by decide +kernel
theorem dX5_nameOf_1 : decode cX5_nameOf 1 = .ok (.tableswitch 57 0 5 #[39, 42, 45, 48, 51, 54], 39) := by decide +kernel
theorem dX5_nameOf_40 : decode cX5_nameOf 40 = .ok (.ldc 57, 2) := by decide +kernel
theorem dX5_nameOf_42 : decode cX5_nameOf 42 = .ok (.areturn, 1) := by decide +kernel
theorem dX5_nameOf_43 : decode cX5_nameOf 43 = .ok (.ldc 59, 2) := by decide +kernel
theorem dX5_nameOf_45 : decode cX5_nameOf 45 = .ok (.areturn, 1) := by decide +kernel
theorem dX5_nameOf_46 : decode cX5_nameOf 46 = .ok (.ldc 61, 2) := by decide +kernel
theorem dX5_nameOf_48 : decode cX5_nameOf 48 = .ok (.areturn, 1) := by decide +kernel
theorem dX5_nameOf_49 : decode cX5_nameOf 49 = .ok (.ldc 63, 2) := by decide +kernel
theorem dX5_nameOf_51 : decode cX5_nameOf 51 = .ok (.areturn, 1) := by decide +kernel
theorem dX5_nameOf_52 : decode cX5_nameOf 52 = .ok (.ldc 65, 2) := by decide +kernel
theorem dX5_nameOf_54 : decode cX5_nameOf 54 = .ok (.areturn, 1) := by decide +kernel
theorem dX5_nameOf_55 : decode cX5_nameOf 55 = .ok (.ldc 67, 2) := by decide +kernel
theorem dX5_nameOf_57 : decode cX5_nameOf 57 = .ok (.areturn, 1) := by decide +kernel
theorem dX5_nameOf_58 : decode cX5_nameOf 58 = .ok (.ldc 69, 2) := by decide +kernel
theorem dX5_nameOf_60 : decode cX5_nameOf 60 = .ok (.areturn, 1) := by decide +kernel
set_option maxHeartbeats 4000000 in
set_option maxRecDepth 100000 in
theorem cT_nameOf (l : Launch) (E : fd_E) (S : fd_S) (x0 : Int32) : fd_Ct l yX5_nameOf cX5_nameOf 1 (some (.object "java/lang/String")) (fd_rm 0 0) E S [.int x0] (some (.ref (E.2.2 (110 + (zT_nameOf x0))))) S := by
  generalize hf : zT_nameOf x0 = r0
  unfold zT_nameOf at hf
  refine fd_Ct_of (by decide +kernel) (Nat.le_of_ble_eq_true rfl) ?_
  intro p e s m below meth c ls C hr hlk hH hl
  have hx := C.1
  have hb := C.2.1
  have hl : lv_has ls 1 [(0, .int x0)] := hl
  refine lv_iload_n hx hb dX5_nameOf_0 rfl (lv_at hl 0 rfl) ?_
  by_cases c1 : x0 = (0 : Int32)
  · have hf := fd_ifp c1 hf
    refine lv_tableIn (off := 39) (tgt := 40) hx hb dX5_nameOf_1 (by rw [c1]; decide) (by rw [c1]; decide) (by rw [c1]; rfl) (by decide) ?_
    refine fd_ldcS 0 (by decide) rfl C dX5_nameOf_40 ?_
    cases hf
    exact fd_aret "java/lang/String" C hr hlk hH (Or.inr ⟨_, rfl⟩) dX5_nameOf_42
  · have hf := fd_ifn c1 hf
    by_cases c2 : x0 = (1 : Int32)
    · have hf := fd_ifp c2 hf
      refine lv_tableIn (off := 42) (tgt := 43) hx hb dX5_nameOf_1 (by rw [c2]; decide) (by rw [c2]; decide) (by rw [c2]; rfl) (by decide) ?_
      refine fd_ldcS 1 (by decide) rfl C dX5_nameOf_43 ?_
      cases hf
      exact fd_aret "java/lang/String" C hr hlk hH (Or.inr ⟨_, rfl⟩) dX5_nameOf_45
    · have hf := fd_ifn c2 hf
      by_cases c3 : x0 = (2 : Int32)
      · have hf := fd_ifp c3 hf
        refine lv_tableIn (off := 45) (tgt := 46) hx hb dX5_nameOf_1 (by rw [c3]; decide) (by rw [c3]; decide) (by rw [c3]; rfl) (by decide) ?_
        refine fd_ldcS 2 (by decide) rfl C dX5_nameOf_46 ?_
        cases hf
        exact fd_aret "java/lang/String" C hr hlk hH (Or.inr ⟨_, rfl⟩) dX5_nameOf_48
      · have hf := fd_ifn c3 hf
        by_cases c4 : x0 = (3 : Int32)
        · have hf := fd_ifp c4 hf
          refine lv_tableIn (off := 48) (tgt := 49) hx hb dX5_nameOf_1 (by rw [c4]; decide) (by rw [c4]; decide) (by rw [c4]; rfl) (by decide) ?_
          refine fd_ldcS 3 (by decide) rfl C dX5_nameOf_49 ?_
          cases hf
          exact fd_aret "java/lang/String" C hr hlk hH (Or.inr ⟨_, rfl⟩) dX5_nameOf_51
        · have hf := fd_ifn c4 hf
          by_cases c5 : x0 = (4 : Int32)
          · have hf := fd_ifp c5 hf
            refine lv_tableIn (off := 51) (tgt := 52) hx hb dX5_nameOf_1 (by rw [c5]; decide) (by rw [c5]; decide) (by rw [c5]; rfl) (by decide) ?_
            refine fd_ldcS 4 (by decide) rfl C dX5_nameOf_52 ?_
            cases hf
            exact fd_aret "java/lang/String" C hr hlk hH (Or.inr ⟨_, rfl⟩) dX5_nameOf_54
          · have hf := fd_ifn c5 hf
            by_cases c6 : x0 = (5 : Int32)
            · have hf := fd_ifp c6 hf
              refine lv_tableIn (off := 54) (tgt := 55) hx hb dX5_nameOf_1 (by rw [c6]; decide) (by rw [c6]; decide) (by rw [c6]; rfl) (by decide) ?_
              refine fd_ldcS 5 (by decide) rfl C dX5_nameOf_55 ?_
              cases hf
              exact fd_aret "java/lang/String" C hr hlk hH (Or.inr ⟨_, rfl⟩) dX5_nameOf_57
            · have hf := fd_ifn c6 hf
              refine lv_tableOut (tgt := 58) hx hb dX5_nameOf_1 (by have hc1 := fd_ne (0 : Int32) (z := 0) (by decide) c1; have hc2 := fd_ne (1 : Int32) (z := 1) (by decide) c2; have hc3 := fd_ne (2 : Int32) (z := 2) (by decide) c3; have hc4 := fd_ne (3 : Int32) (z := 3) (by decide) c4; have hc5 := fd_ne (4 : Int32) (z := 4) (by decide) c5; have hc6 := fd_ne (5 : Int32) (z := 5) (by decide) c6; omega) (by decide) ?_
              refine fd_ldcS 6 (by decide) rfl C dX5_nameOf_58 ?_
              cases hf
              exact fd_aret "java/lang/String" C hr hlk hH (Or.inr ⟨_, rfl⟩) dX5_nameOf_60
theorem dX5_fits_0 : decode cX5_fits 0 = .ok (.iload_n 2, 1) := by decide +kernel
theorem dX5_fits_1 : decode cX5_fits 1 = .ok (.aload_n 1, 1) := by decide +kernel
theorem dX5_fits_2 : decode cX5_fits 2 = .ok (.invokevirtual 45, 3) := by decide +kernel
theorem dX5_fits_5 : decode cX5_fits 5 = .ok (.if_icmp .ge 23, 3) := by decide +kernel
theorem dX5_fits_8 : decode cX5_fits 8 = .ok (.aload_n 0, 1) := by decide +kernel
theorem dX5_fits_9 : decode cX5_fits 9 = .ok (.getfield 9, 3) := by decide +kernel
theorem dX5_fits_12 : decode cX5_fits 12 = .ok (.iload_n 2, 1) := by decide +kernel
theorem dX5_fits_13 : decode cX5_fits 13 = .ok (.iaload, 1) := by decide +kernel
theorem dX5_fits_14 : decode cX5_fits 14 = .ok (.aload_n 1, 1) := by decide +kernel
theorem dX5_fits_15 : decode cX5_fits 15 = .ok (.iload_n 2, 1) := by decide +kernel
theorem dX5_fits_16 : decode cX5_fits 16 = .ok (.invokevirtual 53, 3) := by decide +kernel
theorem dX5_fits_19 : decode cX5_fits 19 = .ok (.if_icmp .ne 7, 3) := by decide +kernel
theorem dX5_fits_22 : decode cX5_fits 22 = .ok (.iconst 1, 1) := by decide +kernel
theorem dX5_fits_23 : decode cX5_fits 23 = .ok (.goto 4, 3) := by decide +kernel
theorem dX5_fits_26 : decode cX5_fits 26 = .ok (.iconst 0, 1) := by decide +kernel
theorem dX5_fits_27 : decode cX5_fits 27 = .ok (.ireturn, 1) := by decide +kernel
theorem dX5_fits_28 : decode cX5_fits 28 = .ok (.iload_n 2, 1) := by decide +kernel
theorem dX5_fits_29 : decode cX5_fits 29 = .ok (.aload_n 1, 1) := by decide +kernel
theorem dX5_fits_30 : decode cX5_fits 30 = .ok (.invokevirtual 45, 3) := by decide +kernel
theorem dX5_fits_33 : decode cX5_fits 33 = .ok (.if_icmp .ne 20, 3) := by decide +kernel
theorem dX5_fits_36 : decode cX5_fits 36 = .ok (.aload_n 0, 1) := by decide +kernel
theorem dX5_fits_37 : decode cX5_fits 37 = .ok (.getfield 9, 3) := by decide +kernel
theorem dX5_fits_40 : decode cX5_fits 40 = .ok (.iload_n 2, 1) := by decide +kernel
theorem dX5_fits_41 : decode cX5_fits 41 = .ok (.iaload, 1) := by decide +kernel
theorem dX5_fits_42 : decode cX5_fits 42 = .ok (.bipush 61, 2) := by decide +kernel
theorem dX5_fits_44 : decode cX5_fits 44 = .ok (.if_icmp .ne 7, 3) := by decide +kernel
theorem dX5_fits_47 : decode cX5_fits 47 = .ok (.iconst 1, 1) := by decide +kernel
theorem dX5_fits_48 : decode cX5_fits 48 = .ok (.goto 4, 3) := by decide +kernel
theorem dX5_fits_51 : decode cX5_fits 51 = .ok (.iconst 0, 1) := by decide +kernel
theorem dX5_fits_52 : decode cX5_fits 52 = .ok (.ireturn, 1) := by decide +kernel
theorem dX5_fits_53 : decode cX5_fits 53 = .ok (.iload_n 2, 1) := by decide +kernel
theorem dX5_fits_54 : decode cX5_fits 54 = .ok (.aload_n 1, 1) := by decide +kernel
theorem dX5_fits_55 : decode cX5_fits 55 = .ok (.invokevirtual 45, 3) := by decide +kernel
theorem dX5_fits_58 : decode cX5_fits 58 = .ok (.iconst 5, 1) := by decide +kernel
theorem dX5_fits_59 : decode cX5_fits 59 = .ok (.iadd, 1) := by decide +kernel
theorem dX5_fits_60 : decode cX5_fits 60 = .ok (.if_icmp .gt 19, 3) := by decide +kernel
theorem dX5_fits_63 : decode cX5_fits 63 = .ok (.aload_n 0, 1) := by decide +kernel
theorem dX5_fits_64 : decode cX5_fits 64 = .ok (.getfield 9, 3) := by decide +kernel
theorem dX5_fits_67 : decode cX5_fits 67 = .ok (.iload_n 2, 1) := by decide +kernel
theorem dX5_fits_68 : decode cX5_fits 68 = .ok (.iaload, 1) := by decide +kernel
theorem dX5_fits_69 : decode cX5_fits 69 = .ok (.invokestatic 41, 3) := by decide +kernel
theorem dX5_fits_72 : decode cX5_fits 72 = .ok (.ifCond .eq 7, 3) := by decide +kernel
theorem dX5_fits_75 : decode cX5_fits 75 = .ok (.iconst 1, 1) := by decide +kernel
theorem dX5_fits_76 : decode cX5_fits 76 = .ok (.goto 4, 3) := by decide +kernel
theorem dX5_fits_79 : decode cX5_fits 79 = .ok (.iconst 0, 1) := by decide +kernel
theorem dX5_fits_80 : decode cX5_fits 80 = .ok (.ireturn, 1) := by decide +kernel
set_option maxHeartbeats 4000000 in
set_option maxRecDepth 100000 in
theorem cT_fits (l : Launch) (E : fd_E) (S : fd_S) (i1 : Nat) (x2 : Int32) {r0 : Int32} (hf : zT_fits S i1 x2 = some r0) : fd_Ct l yX5_fits cX5_fits 3 (some .boolean) (fd_rm 4 85) E S [.ref (E.2.2 71), .ref (E.2.2 (110 + i1)), .int x2] (some (.int r0)) S := by
  unfold zT_fits at hf
  refine fd_Ct_of (by decide +kernel) (Nat.le_of_ble_eq_true rfl) ?_
  intro p e s m below meth c ls C hr hlk hH hl
  have hx := C.1
  have hb := C.2.1
  have hl : lv_has ls 3 [(0, .ref (E.2.2 71)), (1, .ref (E.2.2 (110 + i1))), (2, .int x2)] := hl
  refine lv_iload_n hx hb dX5_fits_0 rfl (lv_at hl 2 rfl) ?_
  refine lv_aload_n hx hb dX5_fits_1 rfl (lv_at hl 1 rfl) ?_
  obtain ⟨g1, hf⟩ := fd_grd hf
  refine fd_callR1 [] C hl.1 hH (cJ_length l E S i1 g1) wm_X5_45 (fd_srecv g1 C hH) ⟨rfl, rfl, Nat.le_of_ble_eq_true rfl, Nat.le_of_ble_eq_true rfl⟩ rfl rfl (Nat.le_of_ble_eq_true rfl) ⟨Nat.le_refl _, Nat.le_refl _⟩ dX5_fits_2 (fun H locs hH => ?_)
  refine lv_icmp_ge (tgt := 28) hx hb dX5_fits_5 (by decide) (fun c2 => ?_) (fun c2 => ?_)
  · have hf := fd_ifp c2 hf
    refine lv_iload_n hx hb dX5_fits_28 rfl (lv_at hl 2 rfl) ?_
    refine lv_aload_n hx hb dX5_fits_29 rfl (lv_at hl 1 rfl) ?_
    refine fd_callR1 [] C hl.1 hH (cJ_length l E S i1 g1) wm_X5_45 (fd_srecv g1 C hH) ⟨rfl, rfl, Nat.le_of_ble_eq_true rfl, Nat.le_of_ble_eq_true rfl⟩ rfl rfl (Nat.le_of_ble_eq_true rfl) ⟨Nat.le_refl _, Nat.le_refl _⟩ dX5_fits_30 (fun H locs hH => ?_)
    refine lv_icmp_ne (tgt := 53) hx hb dX5_fits_33 (by decide) (fun c3 => ?_) (fun c3 => ?_)
    · have hf := fd_ifn c3 hf
      refine lv_iload_n hx hb dX5_fits_53 rfl (lv_at hl 2 rfl) ?_
      refine lv_aload_n hx hb dX5_fits_54 rfl (lv_at hl 1 rfl) ?_
      refine fd_callR1 [] C hl.1 hH (cJ_length l E S i1 g1) wm_X5_45 (fd_srecv g1 C hH) ⟨rfl, rfl, Nat.le_of_ble_eq_true rfl, Nat.le_of_ble_eq_true rfl⟩ rfl rfl (Nat.le_of_ble_eq_true rfl) ⟨Nat.le_refl _, Nat.le_refl _⟩ dX5_fits_55 (fun H locs hH => ?_)
      refine lv_iconst (v := (5 : Int32)) hx hb dX5_fits_58 (by decide) ?_
      refine lv_iadd hx hb dX5_fits_59 ?_
      refine lv_icmp_gt (tgt := 79) hx hb dX5_fits_60 (by decide) (fun c4 => ?_) (fun c4 => ?_)
      · have hf := fd_ifp c4 hf
        refine lv_iconst (v := (0 : Int32)) hx hb dX5_fits_79 (by decide) ?_
        cases hf
        exact fd_zret .boolean C hr hlk hH rfl dX5_fits_80
      · have hf := fd_ifn c4 hf
        refine lv_aload_n hx hb dX5_fits_63 rfl (lv_at hl 0 rfl) ?_
        refine fd_get 71 5 0 C hH (by decide) rfl (by decide) (by decide) wf_X5_9 (v := .ref (E.2.2 72)) rfl dX5_fits_64 ?_
        refine lv_iload_n hx hb dX5_fits_67 rfl (lv_at hl 2 rfl) ?_
        obtain ⟨g5, hf⟩ := fd_grd hf
        refine fd_iald 72 (12 : Int32) C hH (by decide) rfl rfl g5 dX5_fits_68 ?_
        refine fd_callS1 [.int (S 72 x2)] C hl.1 hH (cT_isFigure l E S (S 72 x2)) wm_X5_41 ⟨rfl, rfl, Nat.le_of_ble_eq_true rfl, Nat.le_of_ble_eq_true rfl⟩ rfl rfl (Nat.le_of_ble_eq_true rfl) ⟨Nat.le_refl _, Nat.le_refl _⟩ dX5_fits_69 (fun H locs hH => ?_)
        refine lv_if_eq (tgt := 79) hx hb dX5_fits_72 (by decide) (fun c6 => ?_) (fun c6 => ?_)
        · have hf := fd_ifp c6 hf
          refine lv_iconst (v := (0 : Int32)) hx hb dX5_fits_79 (by decide) ?_
          cases hf
          exact fd_zret .boolean C hr hlk hH rfl dX5_fits_80
        · have hf := fd_ifn c6 hf
          refine lv_iconst (v := (1 : Int32)) hx hb dX5_fits_75 (by decide) ?_
          refine lv_goto (tgt := 80) hx hb dX5_fits_76 (by decide) ?_
          cases hf
          exact fd_zret .boolean C hr hlk hH rfl dX5_fits_80
    · have hf := fd_ifp c3 hf
      refine lv_aload_n hx hb dX5_fits_36 rfl (lv_at hl 0 rfl) ?_
      refine fd_get 71 5 0 C hH (by decide) rfl (by decide) (by decide) wf_X5_9 (v := .ref (E.2.2 72)) rfl dX5_fits_37 ?_
      refine lv_iload_n hx hb dX5_fits_40 rfl (lv_at hl 2 rfl) ?_
      obtain ⟨g7, hf⟩ := fd_grd hf
      refine fd_iald 72 (12 : Int32) C hH (by decide) rfl rfl g7 dX5_fits_41 ?_
      refine lv_bipush (v := (61 : Int32)) hx hb dX5_fits_42 (by decide) ?_
      refine lv_icmp_ne (tgt := 51) hx hb dX5_fits_44 (by decide) (fun c8 => ?_) (fun c8 => ?_)
      · have hf := fd_ifn c8 hf
        refine lv_iconst (v := (0 : Int32)) hx hb dX5_fits_51 (by decide) ?_
        cases hf
        exact fd_zret .boolean C hr hlk hH rfl dX5_fits_52
      · have hf := fd_ifp c8 hf
        refine lv_iconst (v := (1 : Int32)) hx hb dX5_fits_47 (by decide) ?_
        refine lv_goto (tgt := 52) hx hb dX5_fits_48 (by decide) ?_
        cases hf
        exact fd_zret .boolean C hr hlk hH rfl dX5_fits_52
  · have hf := fd_ifn c2 hf
    refine lv_aload_n hx hb dX5_fits_8 rfl (lv_at hl 0 rfl) ?_
    refine fd_get 71 5 0 C hH (by decide) rfl (by decide) (by decide) wf_X5_9 (v := .ref (E.2.2 72)) rfl dX5_fits_9 ?_
    refine lv_iload_n hx hb dX5_fits_12 rfl (lv_at hl 2 rfl) ?_
    obtain ⟨g9, hf⟩ := fd_grd hf
    refine fd_iald 72 (12 : Int32) C hH (by decide) rfl rfl g9 dX5_fits_13 ?_
    refine lv_aload_n hx hb dX5_fits_14 rfl (lv_at hl 1 rfl) ?_
    refine lv_iload_n hx hb dX5_fits_15 rfl (lv_at hl 2 rfl) ?_
    obtain ⟨g10, hf⟩ := fd_grd hf
    refine fd_callR1 [.int x2] C hl.1 hH (cJ_charAt l E S i1 x2 g1 g10) wm_X5_53 (fd_srecv g1 C hH) ⟨rfl, rfl, Nat.le_of_ble_eq_true rfl, Nat.le_of_ble_eq_true rfl⟩ rfl rfl (Nat.le_of_ble_eq_true rfl) ⟨Nat.le_refl _, Nat.le_refl _⟩ dX5_fits_16 (fun H locs hH => ?_)
    refine lv_icmp_ne (tgt := 26) hx hb dX5_fits_19 (by decide) (fun c11 => ?_) (fun c11 => ?_)
    · have hf := fd_ifn c11 hf
      refine lv_iconst (v := (0 : Int32)) hx hb dX5_fits_26 (by decide) ?_
      cases hf
      exact fd_zret .boolean C hr hlk hH rfl dX5_fits_27
    · have hf := fd_ifp c11 hf
      refine lv_iconst (v := (1 : Int32)) hx hb dX5_fits_22 (by decide) ?_
      refine lv_goto (tgt := 27) hx hb dX5_fits_23 (by decide) ?_
      cases hf
      exact fd_zret .boolean C hr hlk hH rfl dX5_fits_27
theorem dX5_fittingSigns_0 : decode cX5_fittingSigns 0 = .ok (.iconst 0, 1) := by decide +kernel
theorem dX5_fittingSigns_1 : decode cX5_fittingSigns 1 = .ok (.istore_n 2, 1) := by decide +kernel
theorem dX5_fittingSigns_2 : decode cX5_fittingSigns 2 = .ok (.iload_n 2, 1) := by decide +kernel
theorem dX5_fittingSigns_3 : decode cX5_fittingSigns 3 = .ok (.aload_n 0, 1) := by decide +kernel
theorem dX5_fittingSigns_4 : decode cX5_fittingSigns 4 = .ok (.getfield 15, 3) := by decide +kernel
theorem dX5_fittingSigns_7 : decode cX5_fittingSigns 7 = .ok (.if_icmp .ge 18, 3) := by decide +kernel
theorem dX5_fittingSigns_10 : decode cX5_fittingSigns 10 = .ok (.aload_n 0, 1) := by decide +kernel
theorem dX5_fittingSigns_11 : decode cX5_fittingSigns 11 = .ok (.aload_n 1, 1) := by decide +kernel
theorem dX5_fittingSigns_12 : decode cX5_fittingSigns 12 = .ok (.iload_n 2, 1) := by decide +kernel
theorem dX5_fittingSigns_13 : decode cX5_fittingSigns 13 = .ok (.invokevirtual 49, 3) := by decide +kernel
theorem dX5_fittingSigns_16 : decode cX5_fittingSigns 16 = .ok (.ifCond .eq 9, 3) := by decide +kernel
theorem dX5_fittingSigns_19 : decode cX5_fittingSigns 19 = .ok (.iinc 2 1, 3) := by decide +kernel
theorem dX5_fittingSigns_22 : decode cX5_fittingSigns 22 = .ok (.goto (-20), 3) := by decide +kernel
theorem dX5_fittingSigns_25 : decode cX5_fittingSigns 25 = .ok (.iload_n 2, 1) := by decide +kernel
theorem dX5_fittingSigns_26 : decode cX5_fittingSigns 26 = .ok (.ireturn, 1) := by decide +kernel
set_option maxHeartbeats 4000000 in
set_option maxRecDepth 100000 in
theorem wT_fittingSigns_2 {p : Program} {l : Launch} {e : Env} {s : State} {m : MethodId} {args : Array Value} {below : List Frame} {meth : Method} {c : Code} {E : fd_E} (C : fd_C p s m args c yX5_fittingSigns.cls cX5_fittingSigns 3 E) (hr : meth.sig.returnType = (some .int)) (hlk : meth.locks = false) (fu : Nat) {r0 : Int32} : ∀ (n : Nat) (S : fd_S) (i1 : Nat) (x2 : Int32) (H : Heap) (locs : List Loc) (ls : Array Slot), zT_fittingSigns_2 fu n S i1 x2 = some r0 → fd_H E S s H locs → lv_has ls 3 [(0, .ref (E.2.2 71)), (1, .ref (E.2.2 (110 + i1))), (2, .int x2)] → W p l e (fd_rm 5 107) s m args below meth c H locs 0 0 (MQ below (fd_Q E (some (.int r0)) S) args s 0 0 (fd_A E)) (F0 m 2 ls []) := by
  have hx := C.1
  have hb := C.2.1
  intro n
  induction n with
  | zero =>
    intro S i1 x2 H locs ls hf
    rw [zT_fittingSigns_2] at hf
    cases hf
  | succ n ih =>
    intro S i1 x2 H locs ls hf hH hl
    rw [zT_fittingSigns_2] at hf
    refine lv_iload_n hx hb dX5_fittingSigns_2 rfl (lv_at hl 2 rfl) ?_
    refine lv_aload_n hx hb dX5_fittingSigns_3 rfl (lv_at hl 0 rfl) ?_
    refine fd_get 71 5 1 C hH (by decide) rfl (by decide) (by decide) wf_X5_15 (v := .int (S 71 (1 : Int32))) rfl dX5_fittingSigns_4 ?_
    refine lv_icmp_ge (tgt := 25) hx hb dX5_fittingSigns_7 (by decide) (fun c1 => ?_) (fun c1 => ?_)
    · have hf := fd_ifp c1 hf
      refine lv_iload_n hx hb dX5_fittingSigns_25 rfl (lv_at hl 2 rfl) ?_
      cases hf
      exact fd_iret C hr hlk hH dX5_fittingSigns_26
    · have hf := fd_ifn c1 hf
      refine lv_aload_n hx hb dX5_fittingSigns_10 rfl (lv_at hl 0 rfl) ?_
      refine lv_aload_n hx hb dX5_fittingSigns_11 rfl (lv_at hl 1 rfl) ?_
      refine lv_iload_n hx hb dX5_fittingSigns_12 rfl (lv_at hl 2 rfl) ?_
      obtain ⟨r2, e3, hf⟩ := fd_bnd hf
      refine fd_callV1 71 5 [.ref (E.2.2 (110 + i1)), .int x2] C hl.1 hH (cT_fits l E S i1 x2 e3) wm_X5_49 (by decide) rfl (by decide) rfl ⟨rfl, rfl, Nat.le_of_ble_eq_true rfl, Nat.le_of_ble_eq_true rfl⟩ rfl rfl (Nat.le_of_ble_eq_true rfl) ⟨Nat.le_refl _, Nat.le_refl _⟩ dX5_fittingSigns_13 (fun H locs hH => ?_)
      refine lv_if_eq (tgt := 25) hx hb dX5_fittingSigns_16 (by decide) (fun c4 => ?_) (fun c4 => ?_)
      · have hf := fd_ifp c4 hf
        refine lv_iload_n hx hb dX5_fittingSigns_25 rfl (lv_at hl 2 rfl) ?_
        cases hf
        exact fd_iret C hr hlk hH dX5_fittingSigns_26
      · have hf := fd_ifn c4 hf
        obtain ⟨y5, ey5, hf⟩ := fd_ltS hf
        refine lv_iinc (v := y5) (lv' := [(2, .int y5), (0, .ref (E.2.2 71)), (1, .ref (E.2.2 (110 + i1)))]) hx hb dX5_fittingSigns_19 hl (k := 2) rfl (by rw [ey5]; rfl) (by decide) rfl (fun ls hl => ?_)
        refine lv_goto (tgt := 2) hx hb dX5_fittingSigns_22 (by decide) ?_
        exact ih S i1 y5 _ _ _ hf hH (lv_sub hl [1, 2, 0] rfl)
set_option maxHeartbeats 4000000 in
set_option maxRecDepth 100000 in
theorem cT_fittingSigns (l : Launch) (E : fd_E) (fu : Nat) (S : fd_S) (i1 : Nat) {r0 : Int32} (hf : zT_fittingSigns fu S i1 = some r0) : fd_Ct l yX5_fittingSigns cX5_fittingSigns 3 (some .int) (fd_rm 5 107) E S [.ref (E.2.2 71), .ref (E.2.2 (110 + i1))] (some (.int r0)) S := by
  unfold zT_fittingSigns at hf
  refine fd_Ct_of (by decide +kernel) (Nat.le_of_ble_eq_true rfl) ?_
  intro p e s m below meth c ls C hr hlk hH hl
  have hx := C.1
  have hb := C.2.1
  have hl : lv_has ls 3 [(0, .ref (E.2.2 71)), (1, .ref (E.2.2 (110 + i1)))] := hl
  refine lv_iconst (v := (0 : Int32)) hx hb dX5_fittingSigns_0 (by decide) ?_
  refine lv_istore_n (lv' := [(2, .int (0 : Int32)), (0, .ref (E.2.2 71)), (1, .ref (E.2.2 (110 + i1)))]) hx hb dX5_fittingSigns_1 rfl hl (by decide) rfl (fun ls hl => ?_)
  exact wT_fittingSigns_2 C hr hlk fu fu S i1 (0 : Int32) _ _ _ hf hH (lv_sub hl [1, 2, 0] rfl)
theorem dX5_tells_0 : decode cX5_tells 0 = .ok (.aload_n 0, 1) := by decide +kernel
theorem dX5_tells_1 : decode cX5_tells 1 = .ok (.getfield 15, 3) := by decide +kernel
theorem dX5_tells_4 : decode cX5_tells 4 = .ok (.aload_n 1, 1) := by decide +kernel
theorem dX5_tells_5 : decode cX5_tells 5 = .ok (.invokevirtual 45, 3) := by decide +kernel
theorem dX5_tells_8 : decode cX5_tells 8 = .ok (.iconst 1, 1) := by decide +kernel
theorem dX5_tells_9 : decode cX5_tells 9 = .ok (.iadd, 1) := by decide +kernel
theorem dX5_tells_10 : decode cX5_tells 10 = .ok (.if_icmp .le 19, 3) := by decide +kernel
theorem dX5_tells_13 : decode cX5_tells 13 = .ok (.aload_n 0, 1) := by decide +kernel
theorem dX5_tells_14 : decode cX5_tells 14 = .ok (.aload_n 1, 1) := by decide +kernel
theorem dX5_tells_15 : decode cX5_tells 15 = .ok (.invokevirtual 27, 3) := by decide +kernel
theorem dX5_tells_18 : decode cX5_tells 18 = .ok (.aload_n 0, 1) := by decide +kernel
theorem dX5_tells_19 : decode cX5_tells 19 = .ok (.getfield 15, 3) := by decide +kernel
theorem dX5_tells_22 : decode cX5_tells 22 = .ok (.if_icmp .ne 7, 3) := by decide +kernel
theorem dX5_tells_25 : decode cX5_tells 25 = .ok (.iconst 1, 1) := by decide +kernel
theorem dX5_tells_26 : decode cX5_tells 26 = .ok (.goto 4, 3) := by decide +kernel
theorem dX5_tells_29 : decode cX5_tells 29 = .ok (.iconst 0, 1) := by decide +kernel
theorem dX5_tells_30 : decode cX5_tells 30 = .ok (.ireturn, 1) := by decide +kernel
set_option maxHeartbeats 4000000 in
set_option maxRecDepth 100000 in
theorem cT_tells (l : Launch) (E : fd_E) (fu : Nat) (S : fd_S) (i1 : Nat) {r0 : Int32} (hf : zT_tells fu S i1 = some r0) : fd_Ct l yX5_tells cX5_tells 2 (some .boolean) (fd_rm 6 129) E S [.ref (E.2.2 71), .ref (E.2.2 (110 + i1))] (some (.int r0)) S := by
  unfold zT_tells at hf
  refine fd_Ct_of (by decide +kernel) (Nat.le_of_ble_eq_true rfl) ?_
  intro p e s m below meth c ls C hr hlk hH hl
  have hx := C.1
  have hb := C.2.1
  have hl : lv_has ls 2 [(0, .ref (E.2.2 71)), (1, .ref (E.2.2 (110 + i1)))] := hl
  refine lv_aload_n hx hb dX5_tells_0 rfl (lv_at hl 0 rfl) ?_
  refine fd_get 71 5 1 C hH (by decide) rfl (by decide) (by decide) wf_X5_15 (v := .int (S 71 (1 : Int32))) rfl dX5_tells_1 ?_
  refine lv_aload_n hx hb dX5_tells_4 rfl (lv_at hl 1 rfl) ?_
  obtain ⟨g1, hf⟩ := fd_grd hf
  refine fd_callR1 [] C hl.1 hH (cJ_length l E S i1 g1) wm_X5_45 (fd_srecv g1 C hH) ⟨rfl, rfl, Nat.le_of_ble_eq_true rfl, Nat.le_of_ble_eq_true rfl⟩ rfl rfl (Nat.le_of_ble_eq_true rfl) ⟨Nat.le_refl _, Nat.le_refl _⟩ dX5_tells_5 (fun H locs hH => ?_)
  refine lv_iconst (v := (1 : Int32)) hx hb dX5_tells_8 (by decide) ?_
  refine lv_iadd hx hb dX5_tells_9 ?_
  refine lv_icmp_le (tgt := 29) hx hb dX5_tells_10 (by decide) (fun c2 => ?_) (fun c2 => ?_)
  · have hf := fd_ifp c2 hf
    refine lv_iconst (v := (0 : Int32)) hx hb dX5_tells_29 (by decide) ?_
    cases hf
    exact fd_zret .boolean C hr hlk hH rfl dX5_tells_30
  · have hf := fd_ifn c2 hf
    refine lv_aload_n hx hb dX5_tells_13 rfl (lv_at hl 0 rfl) ?_
    refine lv_aload_n hx hb dX5_tells_14 rfl (lv_at hl 1 rfl) ?_
    obtain ⟨r3, e4, hf⟩ := fd_bnd hf
    refine fd_callV1 71 5 [.ref (E.2.2 (110 + i1))] C hl.1 hH (cT_fittingSigns l E fu S i1 e4) wm_X5_27 (by decide) rfl (by decide) rfl ⟨rfl, rfl, Nat.le_of_ble_eq_true rfl, Nat.le_of_ble_eq_true rfl⟩ rfl rfl (Nat.le_of_ble_eq_true rfl) ⟨Nat.le_refl _, Nat.le_refl _⟩ dX5_tells_15 (fun H locs hH => ?_)
    refine lv_aload_n hx hb dX5_tells_18 rfl (lv_at hl 0 rfl) ?_
    refine fd_get 71 5 1 C hH (by decide) rfl (by decide) (by decide) wf_X5_15 (v := .int (S 71 (1 : Int32))) rfl dX5_tells_19 ?_
    refine lv_icmp_ne (tgt := 29) hx hb dX5_tells_22 (by decide) (fun c5 => ?_) (fun c5 => ?_)
    · have hf := fd_ifn c5 hf
      refine lv_iconst (v := (0 : Int32)) hx hb dX5_tells_29 (by decide) ?_
      cases hf
      exact fd_zret .boolean C hr hlk hH rfl dX5_tells_30
    · have hf := fd_ifp c5 hf
      refine lv_iconst (v := (1 : Int32)) hx hb dX5_tells_25 (by decide) ?_
      refine lv_goto (tgt := 30) hx hb dX5_tells_26 (by decide) ?_
      cases hf
      exact fd_zret .boolean C hr hlk hH rfl dX5_tells_30
theorem dX5_toldBound_0 : decode cX5_toldBound 0 = .ok (.iconst 0, 1) := by decide +kernel
theorem dX5_toldBound_1 : decode cX5_toldBound 1 = .ok (.istore_n 1, 1) := by decide +kernel
theorem dX5_toldBound_2 : decode cX5_toldBound 2 = .ok (.iload_n 1, 1) := by decide +kernel
theorem dX5_toldBound_3 : decode cX5_toldBound 3 = .ok (.bipush 7, 2) := by decide +kernel
theorem dX5_toldBound_5 : decode cX5_toldBound 5 = .ok (.if_icmp .ge 22, 3) := by decide +kernel
theorem dX5_toldBound_8 : decode cX5_toldBound 8 = .ok (.aload_n 0, 1) := by decide +kernel
theorem dX5_toldBound_9 : decode cX5_toldBound 9 = .ok (.iload_n 1, 1) := by decide +kernel
theorem dX5_toldBound_10 : decode cX5_toldBound 10 = .ok (.invokestatic 23, 3) := by decide +kernel
theorem dX5_toldBound_13 : decode cX5_toldBound 13 = .ok (.invokevirtual 37, 3) := by decide +kernel
theorem dX5_toldBound_16 : decode cX5_toldBound 16 = .ok (.ifCond .eq 5, 3) := by decide +kernel
theorem dX5_toldBound_19 : decode cX5_toldBound 19 = .ok (.iload_n 1, 1) := by decide +kernel
theorem dX5_toldBound_20 : decode cX5_toldBound 20 = .ok (.ireturn, 1) := by decide +kernel
theorem dX5_toldBound_21 : decode cX5_toldBound 21 = .ok (.iinc 1 1, 3) := by decide +kernel
theorem dX5_toldBound_24 : decode cX5_toldBound 24 = .ok (.goto (-22), 3) := by decide +kernel
theorem dX5_toldBound_27 : decode cX5_toldBound 27 = .ok (.bipush (-6), 2) := by decide +kernel
theorem dX5_toldBound_29 : decode cX5_toldBound 29 = .ok (.ireturn, 1) := by decide +kernel
set_option maxHeartbeats 4000000 in
set_option maxRecDepth 100000 in
theorem wT_toldBound_2 {p : Program} {l : Launch} {e : Env} {s : State} {m : MethodId} {args : Array Value} {below : List Frame} {meth : Method} {c : Code} {E : fd_E} (C : fd_C p s m args c yX5_toldBound.cls cX5_toldBound 2 E) (hr : meth.sig.returnType = (some .int)) (hlk : meth.locks = false) (fu : Nat) {r0 : Int32} : ∀ (n : Nat) (S : fd_S) (x1 : Int32) (H : Heap) (locs : List Loc) (ls : Array Slot), zT_toldBound_2 fu n S x1 = some r0 → fd_H E S s H locs → lv_has ls 2 [(0, .ref (E.2.2 71)), (1, .int x1)] → W p l e (fd_rm 7 150) s m args below meth c H locs 0 0 (MQ below (fd_Q E (some (.int r0)) S) args s 0 0 (fd_A E)) (F0 m 2 ls []) := by
  have hx := C.1
  have hb := C.2.1
  intro n
  induction n with
  | zero =>
    intro S x1 H locs ls hf
    rw [zT_toldBound_2] at hf
    cases hf
  | succ n ih =>
    intro S x1 H locs ls hf hH hl
    rw [zT_toldBound_2] at hf
    refine lv_iload_n hx hb dX5_toldBound_2 rfl (lv_at hl 1 rfl) ?_
    refine lv_bipush (v := (7 : Int32)) hx hb dX5_toldBound_3 (by decide) ?_
    refine lv_icmp_ge (tgt := 27) hx hb dX5_toldBound_5 (by decide) (fun c1 => ?_) (fun c1 => ?_)
    · have hf := fd_ifp c1 hf
      refine lv_bipush (v := (-6 : Int32)) hx hb dX5_toldBound_27 (by decide) ?_
      cases hf
      exact fd_iret C hr hlk hH dX5_toldBound_29
    · have hf := fd_ifn c1 hf
      refine lv_aload_n hx hb dX5_toldBound_8 rfl (lv_at hl 0 rfl) ?_
      refine lv_iload_n hx hb dX5_toldBound_9 rfl (lv_at hl 1 rfl) ?_
      refine fd_callS1 [.int x1] C hl.1 hH (cT_nameOf l E S x1) wm_X5_23 ⟨rfl, rfl, Nat.le_of_ble_eq_true rfl, Nat.le_of_ble_eq_true rfl⟩ rfl rfl (Nat.le_of_ble_eq_true rfl) ⟨Nat.le_refl _, Nat.le_refl _⟩ dX5_toldBound_10 (fun H locs hH => ?_)
      obtain ⟨r2, e3, hf⟩ := fd_bnd hf
      refine fd_callV1 71 5 [.ref (E.2.2 (110 + (zT_nameOf x1)))] C hl.1 hH (cT_tells l E fu S (zT_nameOf x1) e3) wm_X5_37 (by decide) rfl (by decide) rfl ⟨rfl, rfl, Nat.le_of_ble_eq_true rfl, Nat.le_of_ble_eq_true rfl⟩ rfl rfl (Nat.le_of_ble_eq_true rfl) ⟨Nat.le_refl _, Nat.le_refl _⟩ dX5_toldBound_13 (fun H locs hH => ?_)
      refine lv_if_eq (tgt := 21) hx hb dX5_toldBound_16 (by decide) (fun c4 => ?_) (fun c4 => ?_)
      · have hf := fd_ifp c4 hf
        obtain ⟨y5, ey5, hf⟩ := fd_ltS hf
        refine lv_iinc (v := y5) (lv' := [(1, .int y5), (0, .ref (E.2.2 71))]) hx hb dX5_toldBound_21 hl (k := 1) rfl (by rw [ey5]; rfl) (by decide) rfl (fun ls hl => ?_)
        refine lv_goto (tgt := 2) hx hb dX5_toldBound_24 (by decide) ?_
        exact ih S y5 _ _ _ hf hH (lv_sub hl [1, 0] rfl)
      · have hf := fd_ifn c4 hf
        refine lv_iload_n hx hb dX5_toldBound_19 rfl (lv_at hl 1 rfl) ?_
        cases hf
        exact fd_iret C hr hlk hH dX5_toldBound_20
set_option maxHeartbeats 4000000 in
set_option maxRecDepth 100000 in
theorem cT_toldBound (l : Launch) (E : fd_E) (fu : Nat) (S : fd_S) {r0 : Int32} (hf : zT_toldBound fu S = some r0) : fd_Ct l yX5_toldBound cX5_toldBound 2 (some .int) (fd_rm 7 150) E S [.ref (E.2.2 71)] (some (.int r0)) S := by
  unfold zT_toldBound at hf
  refine fd_Ct_of (by decide +kernel) (Nat.le_of_ble_eq_true rfl) ?_
  intro p e s m below meth c ls C hr hlk hH hl
  have hx := C.1
  have hb := C.2.1
  have hl : lv_has ls 2 [(0, .ref (E.2.2 71))] := hl
  refine lv_iconst (v := (0 : Int32)) hx hb dX5_toldBound_0 (by decide) ?_
  refine lv_istore_n (lv' := [(1, .int (0 : Int32)), (0, .ref (E.2.2 71))]) hx hb dX5_toldBound_1 rfl hl (by decide) rfl (fun ls hl => ?_)
  exact wT_toldBound_2 C hr hlk fu fu S (0 : Int32) _ _ _ hf hH (lv_sub hl [1, 0] rfl)
theorem dX5_toldNumber_0 : decode cX5_toldNumber 0 = .ok (.iconst 0, 1) := by decide +kernel
theorem dX5_toldNumber_1 : decode cX5_toldNumber 1 = .ok (.istore_n 1, 1) := by decide +kernel
theorem dX5_toldNumber_2 : decode cX5_toldNumber 2 = .ok (.iconst 0, 1) := by decide +kernel
theorem dX5_toldNumber_3 : decode cX5_toldNumber 3 = .ok (.istore_n 2, 1) := by decide +kernel
theorem dX5_toldNumber_4 : decode cX5_toldNumber 4 = .ok (.iload_n 2, 1) := by decide +kernel
theorem dX5_toldNumber_5 : decode cX5_toldNumber 5 = .ok (.aload_n 0, 1) := by decide +kernel
theorem dX5_toldNumber_6 : decode cX5_toldNumber 6 = .ok (.getfield 15, 3) := by decide +kernel
theorem dX5_toldNumber_9 : decode cX5_toldNumber 9 = .ok (.if_icmp .ge 36, 3) := by decide +kernel
theorem dX5_toldNumber_12 : decode cX5_toldNumber 12 = .ok (.aload_n 0, 1) := by decide +kernel
theorem dX5_toldNumber_13 : decode cX5_toldNumber 13 = .ok (.getfield 9, 3) := by decide +kernel
theorem dX5_toldNumber_16 : decode cX5_toldNumber 16 = .ok (.iload_n 2, 1) := by decide +kernel
theorem dX5_toldNumber_17 : decode cX5_toldNumber 17 = .ok (.iaload, 1) := by decide +kernel
theorem dX5_toldNumber_18 : decode cX5_toldNumber 18 = .ok (.invokestatic 41, 3) := by decide +kernel
theorem dX5_toldNumber_21 : decode cX5_toldNumber 21 = .ok (.ifCond .eq 18, 3) := by decide +kernel
theorem dX5_toldNumber_24 : decode cX5_toldNumber 24 = .ok (.iload_n 1, 1) := by decide +kernel
theorem dX5_toldNumber_25 : decode cX5_toldNumber 25 = .ok (.bipush 10, 2) := by decide +kernel
theorem dX5_toldNumber_27 : decode cX5_toldNumber 27 = .ok (.imul, 1) := by decide +kernel
theorem dX5_toldNumber_28 : decode cX5_toldNumber 28 = .ok (.aload_n 0, 1) := by decide +kernel
theorem dX5_toldNumber_29 : decode cX5_toldNumber 29 = .ok (.getfield 9, 3) := by decide +kernel
theorem dX5_toldNumber_32 : decode cX5_toldNumber 32 = .ok (.iload_n 2, 1) := by decide +kernel
theorem dX5_toldNumber_33 : decode cX5_toldNumber 33 = .ok (.iaload, 1) := by decide +kernel
theorem dX5_toldNumber_34 : decode cX5_toldNumber 34 = .ok (.iadd, 1) := by decide +kernel
theorem dX5_toldNumber_35 : decode cX5_toldNumber 35 = .ok (.bipush 48, 2) := by decide +kernel
theorem dX5_toldNumber_37 : decode cX5_toldNumber 37 = .ok (.isub, 1) := by decide +kernel
theorem dX5_toldNumber_38 : decode cX5_toldNumber 38 = .ok (.istore_n 1, 1) := by decide +kernel
theorem dX5_toldNumber_39 : decode cX5_toldNumber 39 = .ok (.iinc 2 1, 3) := by decide +kernel
theorem dX5_toldNumber_42 : decode cX5_toldNumber 42 = .ok (.goto (-38), 3) := by decide +kernel
theorem dX5_toldNumber_45 : decode cX5_toldNumber 45 = .ok (.iload_n 1, 1) := by decide +kernel
theorem dX5_toldNumber_46 : decode cX5_toldNumber 46 = .ok (.ireturn, 1) := by decide +kernel
set_option maxHeartbeats 4000000 in
set_option maxRecDepth 100000 in
theorem wT_toldNumber_4 {p : Program} {l : Launch} {e : Env} {s : State} {m : MethodId} {args : Array Value} {below : List Frame} {meth : Method} {c : Code} {E : fd_E} (C : fd_C p s m args c yX5_toldNumber.cls cX5_toldNumber 3 E) (hr : meth.sig.returnType = (some .int)) (hlk : meth.locks = false) (fu : Nat) {r0 : Int32} : ∀ (n : Nat) (S : fd_S) (x1 : Int32) (x2 : Int32) (H : Heap) (locs : List Loc) (ls : Array Slot), zT_toldNumber_4 fu n S x1 x2 = some r0 → fd_H E S s H locs → lv_has ls 3 [(0, .ref (E.2.2 71)), (1, .int x1), (2, .int x2)] → W p l e (fd_rm 1 20) s m args below meth c H locs 0 0 (MQ below (fd_Q E (some (.int r0)) S) args s 0 0 (fd_A E)) (F0 m 4 ls []) := by
  have hx := C.1
  have hb := C.2.1
  intro n
  induction n with
  | zero =>
    intro S x1 x2 H locs ls hf
    rw [zT_toldNumber_4] at hf
    cases hf
  | succ n ih =>
    intro S x1 x2 H locs ls hf hH hl
    rw [zT_toldNumber_4] at hf
    refine lv_iload_n hx hb dX5_toldNumber_4 rfl (lv_at hl 2 rfl) ?_
    refine lv_aload_n hx hb dX5_toldNumber_5 rfl (lv_at hl 0 rfl) ?_
    refine fd_get 71 5 1 C hH (by decide) rfl (by decide) (by decide) wf_X5_15 (v := .int (S 71 (1 : Int32))) rfl dX5_toldNumber_6 ?_
    refine lv_icmp_ge (tgt := 45) hx hb dX5_toldNumber_9 (by decide) (fun c1 => ?_) (fun c1 => ?_)
    · have hf := fd_ifp c1 hf
      refine lv_iload_n hx hb dX5_toldNumber_45 rfl (lv_at hl 1 rfl) ?_
      cases hf
      exact fd_iret C hr hlk hH dX5_toldNumber_46
    · have hf := fd_ifn c1 hf
      refine lv_aload_n hx hb dX5_toldNumber_12 rfl (lv_at hl 0 rfl) ?_
      refine fd_get 71 5 0 C hH (by decide) rfl (by decide) (by decide) wf_X5_9 (v := .ref (E.2.2 72)) rfl dX5_toldNumber_13 ?_
      refine lv_iload_n hx hb dX5_toldNumber_16 rfl (lv_at hl 2 rfl) ?_
      obtain ⟨g2, hf⟩ := fd_grd hf
      refine fd_iald 72 (12 : Int32) C hH (by decide) rfl rfl g2 dX5_toldNumber_17 ?_
      refine fd_callS1 [.int (S 72 x2)] C hl.1 hH (cT_isFigure l E S (S 72 x2)) wm_X5_41 ⟨rfl, rfl, Nat.le_of_ble_eq_true rfl, Nat.le_of_ble_eq_true rfl⟩ rfl rfl (Nat.le_of_ble_eq_true rfl) ⟨Nat.le_refl _, Nat.le_refl _⟩ dX5_toldNumber_18 (fun H locs hH => ?_)
      refine lv_if_eq (tgt := 39) hx hb dX5_toldNumber_21 (by decide) (fun c3 => ?_) (fun c3 => ?_)
      · have hf := fd_ifp c3 hf
        obtain ⟨y4, ey4, hf⟩ := fd_ltS hf
        refine lv_iinc (v := y4) (lv' := [(2, .int y4), (0, .ref (E.2.2 71)), (1, .int x1)]) hx hb dX5_toldNumber_39 hl (k := 2) rfl (by rw [ey4]; rfl) (by decide) rfl (fun ls hl => ?_)
        refine lv_goto (tgt := 4) hx hb dX5_toldNumber_42 (by decide) ?_
        exact ih S x1 y4 _ _ _ hf hH (lv_sub hl [1, 2, 0] rfl)
      · have hf := fd_ifn c3 hf
        refine lv_iload_n hx hb dX5_toldNumber_24 rfl (lv_at hl 1 rfl) ?_
        refine lv_bipush (v := (10 : Int32)) hx hb dX5_toldNumber_25 (by decide) ?_
        refine lv_imul hx hb dX5_toldNumber_27 ?_
        refine lv_aload_n hx hb dX5_toldNumber_28 rfl (lv_at hl 0 rfl) ?_
        refine fd_get 71 5 0 C hH (by decide) rfl (by decide) (by decide) wf_X5_9 (v := .ref (E.2.2 72)) rfl dX5_toldNumber_29 ?_
        refine lv_iload_n hx hb dX5_toldNumber_32 rfl (lv_at hl 2 rfl) ?_
        obtain ⟨g5, hf⟩ := fd_grd hf
        refine fd_iald 72 (12 : Int32) C hH (by decide) rfl rfl g5 dX5_toldNumber_33 ?_
        refine lv_iadd hx hb dX5_toldNumber_34 ?_
        refine lv_bipush (v := (48 : Int32)) hx hb dX5_toldNumber_35 (by decide) ?_
        refine lv_isub hx hb dX5_toldNumber_37 ?_
        refine lv_topi (fun y6 ey6 => ?_)
        have hf := fd_ltN ey6 hf
        refine lv_istore_n (lv' := [(1, .int y6), (0, .ref (E.2.2 71)), (2, .int x2)]) hx hb dX5_toldNumber_38 rfl hl (by decide) rfl (fun ls hl => ?_)
        obtain ⟨y7, ey7, hf⟩ := fd_ltS hf
        refine lv_iinc (v := y7) (lv' := [(2, .int y7), (1, .int y6), (0, .ref (E.2.2 71))]) hx hb dX5_toldNumber_39 hl (k := 2) rfl (by rw [ey7]; rfl) (by decide) rfl (fun ls hl => ?_)
        refine lv_goto (tgt := 4) hx hb dX5_toldNumber_42 (by decide) ?_
        exact ih S y6 y7 _ _ _ hf hH (lv_sub hl [2, 1, 0] rfl)
set_option maxHeartbeats 4000000 in
set_option maxRecDepth 100000 in
theorem cT_toldNumber (l : Launch) (E : fd_E) (fu : Nat) (S : fd_S) {r0 : Int32} (hf : zT_toldNumber fu S = some r0) : fd_Ct l yX5_toldNumber cX5_toldNumber 3 (some .int) (fd_rm 1 20) E S [.ref (E.2.2 71)] (some (.int r0)) S := by
  unfold zT_toldNumber at hf
  refine fd_Ct_of (by decide +kernel) (Nat.le_of_ble_eq_true rfl) ?_
  intro p e s m below meth c ls C hr hlk hH hl
  have hx := C.1
  have hb := C.2.1
  have hl : lv_has ls 3 [(0, .ref (E.2.2 71))] := hl
  refine lv_iconst (v := (0 : Int32)) hx hb dX5_toldNumber_0 (by decide) ?_
  refine lv_istore_n (lv' := [(1, .int (0 : Int32)), (0, .ref (E.2.2 71))]) hx hb dX5_toldNumber_1 rfl hl (by decide) rfl (fun ls hl => ?_)
  refine lv_iconst (v := (0 : Int32)) hx hb dX5_toldNumber_2 (by decide) ?_
  refine lv_istore_n (lv' := [(2, .int (0 : Int32)), (1, .int (0 : Int32)), (0, .ref (E.2.2 71))]) hx hb dX5_toldNumber_3 rfl hl (by decide) rfl (fun ls hl => ?_)
  exact wT_toldNumber_4 C hr hlk fu fu S (0 : Int32) (0 : Int32) _ _ _ hf hH (lv_sub hl [2, 1, 0] rfl)
theorem dX5_findFault_0 : decode cX5_findFault 0 = .ok (.aload_n 0, 1) := by decide +kernel
theorem dX5_findFault_1 : decode cX5_findFault 1 = .ok (.invokevirtual 19, 3) := by decide +kernel
theorem dX5_findFault_4 : decode cX5_findFault 4 = .ok (.bipush (-6), 2) := by decide +kernel
theorem dX5_findFault_6 : decode cX5_findFault 6 = .ok (.if_icmp .eq 6, 3) := by decide +kernel
theorem dX5_findFault_9 : decode cX5_findFault 9 = .ok (.bipush (-6), 2) := by decide +kernel
theorem dX5_findFault_11 : decode cX5_findFault 11 = .ok (.ireturn, 1) := by decide +kernel
theorem dX5_findFault_12 : decode cX5_findFault 12 = .ok (.iconst 0, 1) := by decide +kernel
theorem dX5_findFault_13 : decode cX5_findFault 13 = .ok (.istore_n 1, 1) := by decide +kernel
theorem dX5_findFault_14 : decode cX5_findFault 14 = .ok (.iconst 0, 1) := by decide +kernel
theorem dX5_findFault_15 : decode cX5_findFault 15 = .ok (.istore_n 2, 1) := by decide +kernel
theorem dX5_findFault_16 : decode cX5_findFault 16 = .ok (.iload_n 2, 1) := by decide +kernel
theorem dX5_findFault_17 : decode cX5_findFault 17 = .ok (.bipush 7, 2) := by decide +kernel
theorem dX5_findFault_19 : decode cX5_findFault 19 = .ok (.if_icmp .ge 22, 3) := by decide +kernel
theorem dX5_findFault_22 : decode cX5_findFault 22 = .ok (.iload_n 1, 1) := by decide +kernel
theorem dX5_findFault_23 : decode cX5_findFault 23 = .ok (.aload_n 0, 1) := by decide +kernel
theorem dX5_findFault_24 : decode cX5_findFault 24 = .ok (.iload_n 2, 1) := by decide +kernel
theorem dX5_findFault_25 : decode cX5_findFault 25 = .ok (.invokestatic 23, 3) := by decide +kernel
theorem dX5_findFault_28 : decode cX5_findFault 28 = .ok (.invokevirtual 27, 3) := by decide +kernel
theorem dX5_findFault_31 : decode cX5_findFault 31 = .ok (.invokestatic 31, 3) := by decide +kernel
theorem dX5_findFault_34 : decode cX5_findFault 34 = .ok (.istore_n 1, 1) := by decide +kernel
theorem dX5_findFault_35 : decode cX5_findFault 35 = .ok (.iinc 2 1, 3) := by decide +kernel
theorem dX5_findFault_38 : decode cX5_findFault 38 = .ok (.goto (-22), 3) := by decide +kernel
theorem dX5_findFault_41 : decode cX5_findFault 41 = .ok (.iload_n 1, 1) := by decide +kernel
theorem dX5_findFault_42 : decode cX5_findFault 42 = .ok (.ireturn, 1) := by decide +kernel
set_option maxHeartbeats 4000000 in
set_option maxRecDepth 100000 in
theorem wT_findFault_16 {p : Program} {l : Launch} {e : Env} {s : State} {m : MethodId} {args : Array Value} {below : List Frame} {meth : Method} {c : Code} {E : fd_E} (C : fd_C p s m args c yX5_findFault.cls cX5_findFault 3 E) (hr : meth.sig.returnType = (some .int)) (hlk : meth.locks = false) (fu : Nat) {r0 : Int32} : ∀ (n : Nat) (S : fd_S) (x1 : Int32) (x2 : Int32) (H : Heap) (locs : List Loc) (ls : Array Slot), zT_findFault_16 fu n S x1 x2 = some r0 → fd_H E S s H locs → lv_has ls 3 [(0, .ref (E.2.2 71)), (1, .int x1), (2, .int x2)] → W p l e (fd_rm 8 171) s m args below meth c H locs 0 0 (MQ below (fd_Q E (some (.int r0)) S) args s 0 0 (fd_A E)) (F0 m 16 ls []) := by
  have hx := C.1
  have hb := C.2.1
  intro n
  induction n with
  | zero =>
    intro S x1 x2 H locs ls hf
    rw [zT_findFault_16] at hf
    cases hf
  | succ n ih =>
    intro S x1 x2 H locs ls hf hH hl
    rw [zT_findFault_16] at hf
    refine lv_iload_n hx hb dX5_findFault_16 rfl (lv_at hl 2 rfl) ?_
    refine lv_bipush (v := (7 : Int32)) hx hb dX5_findFault_17 (by decide) ?_
    refine lv_icmp_ge (tgt := 41) hx hb dX5_findFault_19 (by decide) (fun c4 => ?_) (fun c4 => ?_)
    · have hf := fd_ifp c4 hf
      refine lv_iload_n hx hb dX5_findFault_41 rfl (lv_at hl 1 rfl) ?_
      cases hf
      exact fd_iret C hr hlk hH dX5_findFault_42
    · have hf := fd_ifn c4 hf
      refine lv_iload_n hx hb dX5_findFault_22 rfl (lv_at hl 1 rfl) ?_
      refine lv_aload_n hx hb dX5_findFault_23 rfl (lv_at hl 0 rfl) ?_
      refine lv_iload_n hx hb dX5_findFault_24 rfl (lv_at hl 2 rfl) ?_
      refine fd_callS1 [.int x2] C hl.1 hH (cT_nameOf l E S x2) wm_X5_23 ⟨rfl, rfl, Nat.le_of_ble_eq_true rfl, Nat.le_of_ble_eq_true rfl⟩ rfl rfl (Nat.le_of_ble_eq_true rfl) ⟨Nat.le_refl _, Nat.le_refl _⟩ dX5_findFault_25 (fun H locs hH => ?_)
      obtain ⟨r5, e6, hf⟩ := fd_bnd hf
      refine fd_callV1 71 5 [.ref (E.2.2 (110 + (zT_nameOf x2)))] C hl.1 hH (cT_fittingSigns l E fu S (zT_nameOf x2) e6) wm_X5_27 (by decide) rfl (by decide) rfl ⟨rfl, rfl, Nat.le_of_ble_eq_true rfl, Nat.le_of_ble_eq_true rfl⟩ rfl rfl (Nat.le_of_ble_eq_true rfl) ⟨Nat.le_refl _, Nat.le_refl _⟩ dX5_findFault_28 (fun H locs hH => ?_)
      refine fd_mmax C hl.1 wl_X5_31 fd_wmax (Nat.le_of_ble_eq_true rfl) (Nat.le_of_ble_eq_true rfl) (Nat.le_refl _) (Nat.le_refl _) dX5_findFault_31 ?_
      refine lv_topi (fun y7 ey7 => ?_)
      have hf := fd_ltN ey7 hf
      refine lv_istore_n (lv' := [(1, .int y7), (0, .ref (E.2.2 71)), (2, .int x2)]) hx hb dX5_findFault_34 rfl hl (by decide) rfl (fun ls hl => ?_)
      obtain ⟨y8, ey8, hf⟩ := fd_ltS hf
      refine lv_iinc (v := y8) (lv' := [(2, .int y8), (1, .int y7), (0, .ref (E.2.2 71))]) hx hb dX5_findFault_35 hl (k := 2) rfl (by rw [ey8]; rfl) (by decide) rfl (fun ls hl => ?_)
      refine lv_goto (tgt := 16) hx hb dX5_findFault_38 (by decide) ?_
      exact ih S y7 y8 _ _ _ hf hH (lv_sub hl [2, 1, 0] rfl)
set_option maxHeartbeats 4000000 in
set_option maxRecDepth 100000 in
theorem cT_findFault (l : Launch) (E : fd_E) (fu : Nat) (S : fd_S) {r0 : Int32} (hf : zT_findFault fu S = some r0) : fd_Ct l yX5_findFault cX5_findFault 3 (some .int) (fd_rm 8 171) E S [.ref (E.2.2 71)] (some (.int r0)) S := by
  unfold zT_findFault at hf
  refine fd_Ct_of (by decide +kernel) (Nat.le_of_ble_eq_true rfl) ?_
  intro p e s m below meth c ls C hr hlk hH hl
  have hx := C.1
  have hb := C.2.1
  have hl : lv_has ls 3 [(0, .ref (E.2.2 71))] := hl
  refine lv_aload_n hx hb dX5_findFault_0 rfl (lv_at hl 0 rfl) ?_
  obtain ⟨r1, e2, hf⟩ := fd_bnd hf
  refine fd_callV1 71 5 [] C hl.1 hH (cT_toldBound l E fu S e2) wm_X5_19 (by decide) rfl (by decide) rfl ⟨rfl, rfl, Nat.le_of_ble_eq_true rfl, Nat.le_of_ble_eq_true rfl⟩ rfl rfl (Nat.le_of_ble_eq_true rfl) ⟨Nat.le_refl _, Nat.le_refl _⟩ dX5_findFault_1 (fun H locs hH => ?_)
  refine lv_bipush (v := (-6 : Int32)) hx hb dX5_findFault_4 (by decide) ?_
  refine lv_icmp_eq (tgt := 12) hx hb dX5_findFault_6 (by decide) (fun c3 => ?_) (fun c3 => ?_)
  · have hf := fd_ifp c3 hf
    refine lv_iconst (v := (0 : Int32)) hx hb dX5_findFault_12 (by decide) ?_
    refine lv_istore_n (lv' := [(1, .int (0 : Int32)), (0, .ref (E.2.2 71))]) hx hb dX5_findFault_13 rfl hl (by decide) rfl (fun ls hl => ?_)
    refine lv_iconst (v := (0 : Int32)) hx hb dX5_findFault_14 (by decide) ?_
    refine lv_istore_n (lv' := [(2, .int (0 : Int32)), (1, .int (0 : Int32)), (0, .ref (E.2.2 71))]) hx hb dX5_findFault_15 rfl hl (by decide) rfl (fun ls hl => ?_)
    exact wT_findFault_16 C hr hlk fu fu S (0 : Int32) (0 : Int32) _ _ _ hf hH (lv_sub hl [2, 1, 0] rfl)
  · have hf := fd_ifn c3 hf
    refine lv_bipush (v := (-6 : Int32)) hx hb dX5_findFault_9 (by decide) ?_
    cases hf
    exact fd_iret C hr hlk hH dX5_findFault_11
theorem dX6_say_0 : decode cX6_say 0 = .ok (.iload_n 1, 1) := by decide +kernel
theorem dX6_say_1 : decode cX6_say 1 = .ok (.bipush 33, 2) := by decide +kernel
theorem dX6_say_3 : decode cX6_say 3 = .ok (.bipush 126, 2) := by decide +kernel
theorem dX6_say_5 : decode cX6_say 5 = .ok (.invokestatic 33, 3) := by decide +kernel
theorem dX6_say_8 : decode cX6_say 8 = .ok (.ifCond .ne 6, 3) := by decide +kernel
theorem dX6_say_11 : decode cX6_say 11 = .ok (.bipush (-2), 2) := by decide +kernel
theorem dX6_say_13 : decode cX6_say 13 = .ok (.ireturn, 1) := by decide +kernel
theorem dX6_say_14 : decode cX6_say 14 = .ok (.aload_n 0, 1) := by decide +kernel
theorem dX6_say_15 : decode cX6_say 15 = .ok (.getfield 12, 3) := by decide +kernel
theorem dX6_say_18 : decode cX6_say 18 = .ok (.iload_n 1, 1) := by decide +kernel
theorem dX6_say_19 : decode cX6_say 19 = .ok (.invokevirtual 37, 3) := by decide +kernel
theorem dX6_say_22 : decode cX6_say 22 = .ok (.ifCond .eq 13, 3) := by decide +kernel
theorem dX6_say_25 : decode cX6_say 25 = .ok (.aload_n 0, 1) := by decide +kernel
theorem dX6_say_26 : decode cX6_say 26 = .ok (.getfield 12, 3) := by decide +kernel
theorem dX6_say_29 : decode cX6_say 29 = .ok (.getfield 41, 3) := by decide +kernel
theorem dX6_say_32 : decode cX6_say 32 = .ok (.goto 5, 3) := by decide +kernel
theorem dX6_say_35 : decode cX6_say 35 = .ok (.bipush (-4), 2) := by decide +kernel
theorem dX6_say_37 : decode cX6_say 37 = .ok (.ireturn, 1) := by decide +kernel
set_option maxHeartbeats 4000000 in
set_option maxRecDepth 100000 in
theorem cF_say (l : Launch) (E : fd_E) (S : fd_S) (x1 : Int32) {r0 : Int32} {S0 : fd_S} (hf : zF_say S x1 = some (r0, S0)) : fd_Ct l yX6_say cX6_say 2 (some .int) (fd_rm 1 22) E S [.ref (E.2.2 69), .int x1] (some (.int r0)) S0 := by
  unfold zF_say at hf
  refine fd_Ct_of (by decide +kernel) (Nat.le_of_ble_eq_true rfl) ?_
  intro p e s m below meth c ls C hr hlk hH hl
  have hx := C.1
  have hb := C.2.1
  have hl : lv_has ls 2 [(0, .ref (E.2.2 69)), (1, .int x1)] := hl
  refine lv_iload_n hx hb dX6_say_0 rfl (lv_at hl 1 rfl) ?_
  refine lv_bipush (v := (33 : Int32)) hx hb dX6_say_1 (by decide) ?_
  refine lv_bipush (v := (126 : Int32)) hx hb dX6_say_3 (by decide) ?_
  refine fd_callS1 [.int x1, .int (33 : Int32), .int (126 : Int32)] C hl.1 hH (cF_isWithin l E S x1 (33 : Int32) (126 : Int32)) wm_X6_33 ⟨rfl, rfl, Nat.le_of_ble_eq_true rfl, Nat.le_of_ble_eq_true rfl⟩ rfl rfl (Nat.le_of_ble_eq_true rfl) ⟨Nat.le_refl _, Nat.le_refl _⟩ dX6_say_5 (fun H locs hH => ?_)
  refine lv_if_ne (tgt := 14) hx hb dX6_say_8 (by decide) (fun c1 => ?_) (fun c1 => ?_)
  · have hf := fd_ifn c1 hf
    refine lv_aload_n hx hb dX6_say_14 rfl (lv_at hl 0 rfl) ?_
    refine fd_get 69 6 0 C hH (by decide) rfl (by decide) (by decide) wf_X6_12 (v := .ref (E.2.2 71)) rfl dX6_say_15 ?_
    refine lv_iload_n hx hb dX6_say_18 rfl (lv_at hl 1 rfl) ?_
    obtain ⟨q5, e3, hf⟩ := fd_bnd hf
    obtain ⟨r4, S2⟩ := q5
    have hf := fd_prE hf
    refine fd_callV1 71 5 [.int x1] C hl.1 hH (cT_append l E S x1 e3) wm_X6_37 (by decide) rfl (by decide) rfl ⟨rfl, rfl, Nat.le_of_ble_eq_true rfl, Nat.le_of_ble_eq_true rfl⟩ rfl rfl (Nat.le_of_ble_eq_true rfl) ⟨Nat.le_refl _, Nat.le_refl _⟩ dX6_say_19 (fun H locs hH => ?_)
    refine lv_if_eq (tgt := 35) hx hb dX6_say_22 (by decide) (fun c6 => ?_) (fun c6 => ?_)
    · have hf := fd_ifp c6 hf
      refine lv_bipush (v := (-4 : Int32)) hx hb dX6_say_35 (by decide) ?_
      cases hf
      exact fd_iret C hr hlk hH dX6_say_37
    · have hf := fd_ifn c6 hf
      refine lv_aload_n hx hb dX6_say_25 rfl (lv_at hl 0 rfl) ?_
      refine fd_get 69 6 0 C hH (by decide) rfl (by decide) (by decide) wf_X6_12 (v := .ref (E.2.2 71)) rfl dX6_say_26 ?_
      refine fd_get 71 5 1 C hH (by decide) rfl (by decide) (by decide) wf_X6_41 (v := .int (S2 71 (1 : Int32))) rfl dX6_say_29 ?_
      refine lv_goto (tgt := 37) hx hb dX6_say_32 (by decide) ?_
      cases hf
      exact fd_iret C hr hlk hH dX6_say_37
  · have hf := fd_ifp c1 hf
    refine lv_bipush (v := (-2 : Int32)) hx hb dX6_say_11 (by decide) ?_
    cases hf
    exact fd_iret C hr hlk hH dX6_say_13
theorem dX6_wipe_0 : decode cX6_wipe 0 = .ok (.aload_n 0, 1) := by decide +kernel
theorem dX6_wipe_1 : decode cX6_wipe 1 = .ok (.getfield 12, 3) := by decide +kernel
theorem dX6_wipe_4 : decode cX6_wipe 4 = .ok (.invokevirtual 45, 3) := by decide +kernel
theorem dX6_wipe_7 : decode cX6_wipe 7 = .ok (.ireturn, 1) := by decide +kernel
set_option maxHeartbeats 4000000 in
set_option maxRecDepth 100000 in
theorem cF_wipe (l : Launch) (E : fd_E) (S : fd_S) {r0 : Int32} {S0 : fd_S} (hf : zF_wipe S = some (r0, S0)) : fd_Ct l yX6_wipe cX6_wipe 1 (some .int) (fd_rm 1 21) E S [.ref (E.2.2 69)] (some (.int r0)) S0 := by
  unfold zF_wipe at hf
  refine fd_Ct_of (by decide +kernel) (Nat.le_of_ble_eq_true rfl) ?_
  intro p e s m below meth c ls C hr hlk hH hl
  have hx := C.1
  have hb := C.2.1
  have hl : lv_has ls 1 [(0, .ref (E.2.2 69))] := hl
  refine lv_aload_n hx hb dX6_wipe_0 rfl (lv_at hl 0 rfl) ?_
  refine fd_get 69 6 0 C hH (by decide) rfl (by decide) (by decide) wf_X6_12 (v := .ref (E.2.2 71)) rfl dX6_wipe_1 ?_
  obtain ⟨q4, e2, hf⟩ := fd_bnd hf
  obtain ⟨r3, S1⟩ := q4
  have hf := fd_prE hf
  refine fd_callV1 71 5 [] C hl.1 hH (cT_clear l E S e2) wm_X6_45 (by decide) rfl (by decide) rfl ⟨rfl, rfl, Nat.le_of_ble_eq_true rfl, Nat.le_of_ble_eq_true rfl⟩ rfl rfl (Nat.le_of_ble_eq_true rfl) ⟨Nat.le_refl _, Nat.le_refl _⟩ dX6_wipe_4 (fun H locs hH => ?_)
  cases hf
  exact fd_iret C hr hlk hH dX6_wipe_7
theorem dX6_fault_0 : decode cX6_fault 0 = .ok (.aload_n 0, 1) := by decide +kernel
theorem dX6_fault_1 : decode cX6_fault 1 = .ok (.getfield 12, 3) := by decide +kernel
theorem dX6_fault_4 : decode cX6_fault 4 = .ok (.invokevirtual 49, 3) := by decide +kernel
theorem dX6_fault_7 : decode cX6_fault 7 = .ok (.ireturn, 1) := by decide +kernel
set_option maxHeartbeats 4000000 in
set_option maxRecDepth 100000 in
theorem cF_fault (l : Launch) (E : fd_E) (fu : Nat) (S : fd_S) {r0 : Int32} (hf : zF_fault fu S = some r0) : fd_Ct l yX6_fault cX6_fault 1 (some .int) (fd_rm 9 193) E S [.ref (E.2.2 69)] (some (.int r0)) S := by
  unfold zF_fault at hf
  refine fd_Ct_of (by decide +kernel) (Nat.le_of_ble_eq_true rfl) ?_
  intro p e s m below meth c ls C hr hlk hH hl
  have hx := C.1
  have hb := C.2.1
  have hl : lv_has ls 1 [(0, .ref (E.2.2 69))] := hl
  refine lv_aload_n hx hb dX6_fault_0 rfl (lv_at hl 0 rfl) ?_
  refine fd_get 69 6 0 C hH (by decide) rfl (by decide) (by decide) wf_X6_12 (v := .ref (E.2.2 71)) rfl dX6_fault_1 ?_
  obtain ⟨r1, e2, hf⟩ := fd_bnd hf
  refine fd_callV1 71 5 [] C hl.1 hH (cT_findFault l E fu S e2) wm_X6_49 (by decide) rfl (by decide) rfl ⟨rfl, rfl, Nat.le_of_ble_eq_true rfl, Nat.le_of_ble_eq_true rfl⟩ rfl rfl (Nat.le_of_ble_eq_true rfl) ⟨Nat.le_refl _, Nat.le_refl _⟩ dX6_fault_4 (fun H locs hH => ?_)
  cases hf
  exact fd_iret C hr hlk hH dX6_fault_7
