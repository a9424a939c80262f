theorem dX6_best_0 : decode cX6_best 0 = .ok (.iload_n 1, 1) := by decide +kernel
theorem dX6_best_1 : decode cX6_best 1 = .ok (.iconst 0, 1) := by decide +kernel
theorem dX6_best_2 : decode cX6_best 2 = .ok (.bipush 7, 2) := by decide +kernel
theorem dX6_best_4 : decode cX6_best 4 = .ok (.invokestatic 33, 3) := by decide +kernel
theorem dX6_best_7 : decode cX6_best 7 = .ok (.ifCond .ne 5, 3) := by decide +kernel
theorem dX6_best_10 : decode cX6_best 10 = .ok (.iconst (-1), 1) := by decide +kernel
theorem dX6_best_11 : decode cX6_best 11 = .ok (.ireturn, 1) := by decide +kernel
theorem dX6_best_12 : decode cX6_best 12 = .ok (.iload_n 2, 1) := by decide +kernel
theorem dX6_best_13 : decode cX6_best 13 = .ok (.iconst 0, 1) := by decide +kernel
theorem dX6_best_14 : decode cX6_best 14 = .ok (.iconst 2, 1) := by decide +kernel
theorem dX6_best_15 : decode cX6_best 15 = .ok (.invokestatic 33, 3) := by decide +kernel
theorem dX6_best_18 : decode cX6_best 18 = .ok (.ifCond .ne 6, 3) := by decide +kernel
theorem dX6_best_21 : decode cX6_best 21 = .ok (.bipush (-2), 2) := by decide +kernel
theorem dX6_best_23 : decode cX6_best 23 = .ok (.ireturn, 1) := by decide +kernel
theorem dX6_best_24 : decode cX6_best 24 = .ok (.aload_n 0, 1) := by decide +kernel
theorem dX6_best_25 : decode cX6_best 25 = .ok (.getfield 19, 3) := by decide +kernel
theorem dX6_best_28 : decode cX6_best 28 = .ok (.iload_n 1, 1) := by decide +kernel
theorem dX6_best_29 : decode cX6_best 29 = .ok (.iload_n 2, 1) := by decide +kernel
theorem dX6_best_30 : decode cX6_best 30 = .ok (.invokevirtual 125, 3) := by decide +kernel
theorem dX6_best_33 : decode cX6_best 33 = .ok (.ireturn, 1) := by decide +kernel
set_option maxHeartbeats 4000000 in
set_option maxRecDepth 100000 in
theorem cF_best (l : Launch) (E : fd_E) (S : fd_S) (x1 : Int32) (x2 : Int32) {r0 : Int32} (hf : zF_best S x1 x2 = some r0) : fd_Ct l yX6_best cX6_best 3 (some .int) (fd_rm 1 22) E S [.ref (E.2.2 69), .int x1, .int x2] (some (.int r0)) S := by
  unfold zF_best at hf
  refine fd_Ct_of (by decide +kernel) (Nat.le_of_ble_eq_true rfl) ?_
  intro p e s m below meth c ls C hr hlk hH hl
  have hx := C.1
  have hb := C.2.1
  have hl : lv_has ls 3 [(0, .ref (E.2.2 69)), (1, .int x1), (2, .int x2)] := hl
  refine lv_iload_n hx hb dX6_best_0 rfl (lv_at hl 1 rfl) ?_
  refine lv_iconst (v := (0 : Int32)) hx hb dX6_best_1 (by decide) ?_
  refine lv_bipush (v := (7 : Int32)) hx hb dX6_best_2 (by decide) ?_
  refine fd_callS1 [.int x1, .int (0 : Int32), .int (7 : Int32)] C hl.1 hH (cF_isWithin l E S x1 (0 : Int32) (7 : Int32)) wm_X6_33 ⟨rfl, rfl, Nat.le_of_ble_eq_true rfl, Nat.le_of_ble_eq_true rfl⟩ rfl rfl (Nat.le_of_ble_eq_true rfl) ⟨Nat.le_refl _, Nat.le_refl _⟩ dX6_best_4 (fun H locs hH => ?_)
  refine lv_if_ne (tgt := 12) hx hb dX6_best_7 (by decide) (fun c1 => ?_) (fun c1 => ?_)
  · have hf := fd_ifn c1 hf
    refine lv_iload_n hx hb dX6_best_12 rfl (lv_at hl 2 rfl) ?_
    refine lv_iconst (v := (0 : Int32)) hx hb dX6_best_13 (by decide) ?_
    refine lv_iconst (v := (2 : Int32)) hx hb dX6_best_14 (by decide) ?_
    refine fd_callS1 [.int x2, .int (0 : Int32), .int (2 : Int32)] C hl.1 hH (cF_isWithin l E S x2 (0 : Int32) (2 : Int32)) wm_X6_33 ⟨rfl, rfl, Nat.le_of_ble_eq_true rfl, Nat.le_of_ble_eq_true rfl⟩ rfl rfl (Nat.le_of_ble_eq_true rfl) ⟨Nat.le_refl _, Nat.le_refl _⟩ dX6_best_15 (fun H locs hH => ?_)
    refine lv_if_ne (tgt := 24) hx hb dX6_best_18 (by decide) (fun c2 => ?_) (fun c2 => ?_)
    · have hf := fd_ifn c2 hf
      refine lv_aload_n hx hb dX6_best_24 rfl (lv_at hl 0 rfl) ?_
      refine fd_get 69 6 1 C hH (by decide) rfl (by decide) (by decide) wf_X6_19 (v := .ref (E.2.2 0)) rfl dX6_best_25 ?_
      refine lv_iload_n hx hb dX6_best_28 rfl (lv_at hl 1 rfl) ?_
      refine lv_iload_n hx hb dX6_best_29 rfl (lv_at hl 2 rfl) ?_
      obtain ⟨r3, e4, hf⟩ := fd_bnd hf
      refine fd_callV1 0 4 [.int x1, .int x2] C hl.1 hH (cS_tellBest l E S x1 x2 e4) wm_X6_125 (by decide) rfl (by decide) rfl ⟨rfl, rfl, Nat.le_of_ble_eq_true rfl, Nat.le_of_ble_eq_true rfl⟩ rfl rfl (Nat.le_of_ble_eq_true rfl) ⟨Nat.le_refl _, Nat.le_refl _⟩ dX6_best_30 (fun H locs hH => ?_)
      cases hf
      exact fd_iret C hr hlk hH dX6_best_33
    · have hf := fd_ifp c2 hf
      refine lv_bipush (v := (-2 : Int32)) hx hb dX6_best_21 (by decide) ?_
      cases hf
      exact fd_iret C hr hlk hH dX6_best_23
  · have hf := fd_ifp c1 hf
    refine lv_iconst (v := (-1 : Int32)) hx hb dX6_best_10 (by decide) ?_
    cases hf
    exact fd_iret C hr hlk hH dX6_best_11
theorem dX6_record_0 : decode cX6_record 0 = .ok (.iload_n 1, 1) := by decide +kernel
theorem dX6_record_1 : decode cX6_record 1 = .ok (.iconst 0, 1) := by decide +kernel
theorem dX6_record_2 : decode cX6_record 2 = .ok (.aload_n 0, 1) := by decide +kernel
theorem dX6_record_3 : decode cX6_record 3 = .ok (.getfield 19, 3) := by decide +kernel
theorem dX6_record_6 : decode cX6_record 6 = .ok (.getfield 95, 3) := by decide +kernel
theorem dX6_record_9 : decode cX6_record 9 = .ok (.getfield 128, 3) := by decide +kernel
theorem dX6_record_12 : decode cX6_record 12 = .ok (.iconst 1, 1) := by decide +kernel
theorem dX6_record_13 : decode cX6_record 13 = .ok (.isub, 1) := by decide +kernel
theorem dX6_record_14 : decode cX6_record 14 = .ok (.invokestatic 33, 3) := by decide +kernel
theorem dX6_record_17 : decode cX6_record 17 = .ok (.ifCond .eq 21, 3) := by decide +kernel
theorem dX6_record_20 : decode cX6_record 20 = .ok (.aload_n 0, 1) := by decide +kernel
theorem dX6_record_21 : decode cX6_record 21 = .ok (.getfield 19, 3) := by decide +kernel
theorem dX6_record_24 : decode cX6_record 24 = .ok (.getfield 95, 3) := by decide +kernel
theorem dX6_record_27 : decode cX6_record 27 = .ok (.getfield 131, 3) := by decide +kernel
theorem dX6_record_30 : decode cX6_record 30 = .ok (.iload_n 1, 1) := by decide +kernel
theorem dX6_record_31 : decode cX6_record 31 = .ok (.aaload, 1) := by decide +kernel
theorem dX6_record_32 : decode cX6_record 32 = .ok (.getfield 135, 3) := by decide +kernel
theorem dX6_record_35 : decode cX6_record 35 = .ok (.goto 5, 3) := by decide +kernel
theorem dX6_record_38 : decode cX6_record 38 = .ok (.bipush (-6), 2) := by decide +kernel
theorem dX6_record_40 : decode cX6_record 40 = .ok (.ireturn, 1) := by decide +kernel
set_option maxHeartbeats 4000000 in
set_option maxRecDepth 100000 in
theorem cF_record (l : Launch) (E : fd_E) (S : fd_S) (x1 : Int32) {r0 : Int32} (hf : zF_record S x1 = some r0) : fd_Ct l yX6_record cX6_record 2 (some .int) (fd_rm 1 22) E S [.ref (E.2.2 69), .int x1] (some (.int r0)) S := by
  unfold zF_record at hf
  refine fd_Ct_of (by decide +kernel) (Nat.le_of_ble_eq_true rfl) ?_
  intro p e s m below meth c ls C hr hlk hH hl
  have hx := C.1
  have hb := C.2.1
  have hl : lv_has ls 2 [(0, .ref (E.2.2 69)), (1, .int x1)] := hl
  refine lv_iload_n hx hb dX6_record_0 rfl (lv_at hl 1 rfl) ?_
  refine lv_iconst (v := (0 : Int32)) hx hb dX6_record_1 (by decide) ?_
  refine lv_aload_n hx hb dX6_record_2 rfl (lv_at hl 0 rfl) ?_
  refine fd_get 69 6 1 C hH (by decide) rfl (by decide) (by decide) wf_X6_19 (v := .ref (E.2.2 0)) rfl dX6_record_3 ?_
  refine fd_get 0 4 1 C hH (by decide) rfl (by decide) (by decide) wf_X6_95 (v := .ref (E.2.2 3)) rfl dX6_record_6 ?_
  refine fd_get 3 2 1 C hH (by decide) rfl (by decide) (by decide) wf_X6_128 (v := .int (S 3 (1 : Int32))) rfl dX6_record_9 ?_
  refine lv_iconst (v := (1 : Int32)) hx hb dX6_record_12 (by decide) ?_
  refine lv_isub hx hb dX6_record_13 ?_
  refine fd_callS1 [.int x1, .int (0 : Int32), .int ((S 3 (1 : Int32)) - (1 : Int32))] C hl.1 hH (cF_isWithin l E S x1 (0 : Int32) ((S 3 (1 : Int32)) - (1 : Int32))) wm_X6_33 ⟨rfl, rfl, Nat.le_of_ble_eq_true rfl, Nat.le_of_ble_eq_true rfl⟩ rfl rfl (Nat.le_of_ble_eq_true rfl) ⟨Nat.le_refl _, Nat.le_refl _⟩ dX6_record_14 (fun H locs hH => ?_)
  refine lv_if_eq (tgt := 38) hx hb dX6_record_17 (by decide) (fun c1 => ?_) (fun c1 => ?_)
  · have hf := fd_ifp c1 hf
    refine lv_bipush (v := (-6 : Int32)) hx hb dX6_record_38 (by decide) ?_
    cases hf
    exact fd_iret C hr hlk hH dX6_record_40
  · have hf := fd_ifn c1 hf
    refine lv_aload_n hx hb dX6_record_20 rfl (lv_at hl 0 rfl) ?_
    refine fd_get 69 6 1 C hH (by decide) rfl (by decide) (by decide) wf_X6_19 (v := .ref (E.2.2 0)) rfl dX6_record_21 ?_
    refine fd_get 0 4 1 C hH (by decide) rfl (by decide) (by decide) wf_X6_95 (v := .ref (E.2.2 3)) rfl dX6_record_24 ?_
    refine fd_get 3 2 0 C hH (by decide) rfl (by decide) (by decide) wf_X6_131 (v := .ref (E.2.2 4)) rfl dX6_record_27 ?_
    refine lv_iload_n hx hb dX6_record_30 rfl (lv_at hl 1 rfl) ?_
    obtain ⟨g2, hf⟩ := fd_grd hf
    refine fd_aald 4 (6 : Int32) C hH (by decide) rfl rfl g2 dX6_record_31 ?_
    refine fd_topr (fun k3 ek3 => ?_)
    have hf := fd_ltN ek3 hf
    obtain ⟨g4, hf⟩ := fd_grd hf
    refine fd_get k3 3 0 C hH (fd_rk1 g4) (fd_rk3 g4) (by decide) (by decide) wf_X6_135 (v := .int (S k3 (0 : Int32))) rfl dX6_record_32 ?_
    refine lv_goto (tgt := 40) hx hb dX6_record_35 (by decide) ?_
    cases hf
    exact fd_iret C hr hlk hH dX6_record_40
theorem dX6_line_0 : decode cX6_line 0 = .ok (.aload_n 0, 1) := by decide +kernel
theorem dX6_line_1 : decode cX6_line 1 = .ok (.getfield 19, 3) := by decide +kernel
theorem dX6_line_4 : decode cX6_line 4 = .ok (.getfield 140, 3) := by decide +kernel
theorem dX6_line_7 : decode cX6_line 7 = .ok (.iload_n 1, 1) := by decide +kernel
theorem dX6_line_8 : decode cX6_line 8 = .ok (.iload_n 2, 1) := by decide +kernel
theorem dX6_line_9 : decode cX6_line 9 = .ok (.invokevirtual 144, 3) := by decide +kernel
theorem dX6_line_12 : decode cX6_line 12 = .ok (.ireturn, 1) := by decide +kernel
set_option maxHeartbeats 4000000 in
set_option maxRecDepth 100000 in
theorem cF_line (l : Launch) (E : fd_E) (S : fd_S) (x1 : Int32) (x2 : Int32) {r0 : Int32} (hf : zF_line S x1 x2 = some r0) : fd_Ct l yX6_line cX6_line 3 (some .int) (fd_rm 2 45) E S [.ref (E.2.2 69), .int x1, .int x2] (some (.int r0)) S := by
  unfold zF_line at hf
  refine fd_Ct_of (by decide +kernel) (Nat.le_of_ble_eq_true rfl) ?_
  intro p e s m below meth c ls C hr hlk hH hl
  have hx := C.1
  have hb := C.2.1
  have hl : lv_has ls 3 [(0, .ref (E.2.2 69)), (1, .int x1), (2, .int x2)] := hl
  refine lv_aload_n hx hb dX6_line_0 rfl (lv_at hl 0 rfl) ?_
  refine fd_get 69 6 1 C hH (by decide) rfl (by decide) (by decide) wf_X6_19 (v := .ref (E.2.2 0)) rfl dX6_line_1 ?_
  refine fd_get 0 4 2 C hH (by decide) rfl (by decide) (by decide) wf_X6_140 (v := .ref (E.2.2 5)) rfl dX6_line_4 ?_
  refine lv_iload_n hx hb dX6_line_7 rfl (lv_at hl 1 rfl) ?_
  refine lv_iload_n hx hb dX6_line_8 rfl (lv_at hl 2 rfl) ?_
  obtain ⟨r1, e2, hf⟩ := fd_bnd hf
  refine fd_callV1 5 1 [.int x1, .int x2] C hl.1 hH (cL_tell l E S x1 x2 e2) wm_X6_144 (by decide) rfl (by decide) rfl ⟨rfl, rfl, Nat.le_of_ble_eq_true rfl, Nat.le_of_ble_eq_true rfl⟩ rfl rfl (Nat.le_of_ble_eq_true rfl) ⟨Nat.le_refl _, Nat.le_refl _⟩ dX6_line_9 (fun H locs hH => ?_)
  cases hf
  exact fd_iret C hr hlk hH dX6_line_12
theorem dX6_imageOf_0 : decode cX6_imageOf 0 = .ok (.iload_n 1, 1) := by decide +kernel
theorem dX6_imageOf_1 : decode cX6_imageOf 1 = .ok (.ifCond .ne 10, 3) := by decide +kernel
theorem dX6_imageOf_4 : decode cX6_imageOf 4 = .ok (.aload_n 0, 1) := by decide +kernel
theorem dX6_imageOf_5 : decode cX6_imageOf 5 = .ok (.getfield 23, 3) := by decide +kernel
theorem dX6_imageOf_8 : decode cX6_imageOf 8 = .ok (.goto 7, 3) := by decide +kernel
theorem dX6_imageOf_11 : decode cX6_imageOf 11 = .ok (.aload_n 0, 1) := by decide +kernel
theorem dX6_imageOf_12 : decode cX6_imageOf 12 = .ok (.getfield 26, 3) := by decide +kernel
theorem dX6_imageOf_15 : decode cX6_imageOf 15 = .ok (.areturn, 1) := by decide +kernel
set_option maxHeartbeats 4000000 in
set_option maxRecDepth 100000 in
theorem cF_imageOf (l : Launch) (E : fd_E) (S : fd_S) (x1 : Int32) : fd_Ct l yX6_imageOf cX6_imageOf 2 (some (.object "FlapDamper$State")) (fd_rm 0 0) E S [.ref (E.2.2 69), .int x1] (some (.ref (E.2.2 (zF_imageOf x1)))) S := by
  generalize hf : zF_imageOf x1 = r0
  unfold zF_imageOf at hf
  refine fd_Ct_of (by decide +kernel) (Nat.le_of_ble_eq_true rfl) ?_
  intro p e s m below meth c ls C hr hlk hH hl
  have hx := C.1
  have hb := C.2.1
  have hl : lv_has ls 2 [(0, .ref (E.2.2 69)), (1, .int x1)] := hl
  refine lv_iload_n hx hb dX6_imageOf_0 rfl (lv_at hl 1 rfl) ?_
  refine lv_if_ne (tgt := 11) hx hb dX6_imageOf_1 (by decide) (fun c1 => ?_) (fun c1 => ?_)
  · have hf := fd_ifn c1 hf
    refine lv_aload_n hx hb dX6_imageOf_11 rfl (lv_at hl 0 rfl) ?_
    refine fd_get 69 6 3 C hH (by decide) rfl (by decide) (by decide) wf_X6_26 (v := .ref (E.2.2 46)) rfl dX6_imageOf_12 ?_
    cases hf
    exact fd_aret "FlapDamper$State" C hr hlk hH (Or.inr ⟨_, rfl⟩) dX6_imageOf_15
  · have hf := fd_ifp c1 hf
    refine lv_aload_n hx hb dX6_imageOf_4 rfl (lv_at hl 0 rfl) ?_
    refine fd_get 69 6 2 C hH (by decide) rfl (by decide) (by decide) wf_X6_23 (v := .ref (E.2.2 23)) rfl dX6_imageOf_5 ?_
    refine lv_goto (tgt := 15) hx hb dX6_imageOf_8 (by decide) ?_
    cases hf
    exact fd_aret "FlapDamper$State" C hr hlk hH (Or.inr ⟨_, rfl⟩) dX6_imageOf_15
theorem dX6_keptImages_0 : decode cX6_keptImages 0 = .ok (.aload_n 0, 1) := by decide +kernel
theorem dX6_keptImages_1 : decode cX6_keptImages 1 = .ok (.getfield 29, 3) := by decide +kernel
theorem dX6_keptImages_4 : decode cX6_keptImages 4 = .ok (.iconst 0, 1) := by decide +kernel
theorem dX6_keptImages_5 : decode cX6_keptImages 5 = .ok (.baload, 1) := by decide +kernel
theorem dX6_keptImages_6 : decode cX6_keptImages 6 = .ok (.ifCond .eq 7, 3) := by decide +kernel
theorem dX6_keptImages_9 : decode cX6_keptImages 9 = .ok (.iconst 1, 1) := by decide +kernel
theorem dX6_keptImages_10 : decode cX6_keptImages 10 = .ok (.goto 4, 3) := by decide +kernel
theorem dX6_keptImages_13 : decode cX6_keptImages 13 = .ok (.iconst 0, 1) := by decide +kernel
theorem dX6_keptImages_14 : decode cX6_keptImages 14 = .ok (.aload_n 0, 1) := by decide +kernel
theorem dX6_keptImages_15 : decode cX6_keptImages 15 = .ok (.getfield 29, 3) := by decide +kernel
theorem dX6_keptImages_18 : decode cX6_keptImages 18 = .ok (.iconst 1, 1) := by decide +kernel
theorem dX6_keptImages_19 : decode cX6_keptImages 19 = .ok (.baload, 1) := by decide +kernel
theorem dX6_keptImages_20 : decode cX6_keptImages 20 = .ok (.ifCond .eq 7, 3) := by decide +kernel
theorem dX6_keptImages_23 : decode cX6_keptImages 23 = .ok (.iconst 2, 1) := by decide +kernel
theorem dX6_keptImages_24 : decode cX6_keptImages 24 = .ok (.goto 4, 3) := by decide +kernel
theorem dX6_keptImages_27 : decode cX6_keptImages 27 = .ok (.iconst 0, 1) := by decide +kernel
theorem dX6_keptImages_28 : decode cX6_keptImages 28 = .ok (.iadd, 1) := by decide +kernel
theorem dX6_keptImages_29 : decode cX6_keptImages 29 = .ok (.ireturn, 1) := by decide +kernel
set_option maxHeartbeats 4000000 in
set_option maxRecDepth 100000 in
theorem cF_keptImages (l : Launch) (E : fd_E) (S : fd_S) : fd_Ct l yX6_keptImages cX6_keptImages 1 (some .int) (fd_rm 0 0) E S [.ref (E.2.2 69)] (some (.int (zF_keptImages S))) S := by
  generalize hf : zF_keptImages S = r0
  unfold zF_keptImages at hf
  refine fd_Ct_of (by decide +kernel) (Nat.le_of_ble_eq_true rfl) ?_
  intro p e s m below meth c ls C hr hlk hH hl
  have hx := C.1
  have hb := C.2.1
  have hl : lv_has ls 1 [(0, .ref (E.2.2 69))] := hl
  refine lv_aload_n hx hb dX6_keptImages_0 rfl (lv_at hl 0 rfl) ?_
  refine fd_get 69 6 4 C hH (by decide) rfl (by decide) (by decide) wf_X6_29 (v := .ref (E.2.2 70)) rfl dX6_keptImages_1 ?_
  refine lv_iconst (v := (0 : Int32)) hx hb dX6_keptImages_4 (by decide) ?_
  refine fd_zald 70 (2 : Int32) C hH (by decide) rfl rfl (by decide) dX6_keptImages_5 ?_
  refine lv_if_eq (tgt := 13) hx hb dX6_keptImages_6 (by decide) (fun c1 => ?_) (fun c1 => ?_)
  · have hf := fd_ifp c1 hf
    refine lv_iconst (v := (0 : Int32)) hx hb dX6_keptImages_13 (by decide) ?_
    refine lv_aload_n hx hb dX6_keptImages_14 rfl (lv_at hl 0 rfl) ?_
    refine fd_get 69 6 4 C hH (by decide) rfl (by decide) (by decide) wf_X6_29 (v := .ref (E.2.2 70)) rfl dX6_keptImages_15 ?_
    refine lv_iconst (v := (1 : Int32)) hx hb dX6_keptImages_18 (by decide) ?_
    refine fd_zald 70 (2 : Int32) C hH (by decide) rfl rfl (by decide) dX6_keptImages_19 ?_
    refine lv_if_eq (tgt := 27) hx hb dX6_keptImages_20 (by decide) (fun c2 => ?_) (fun c2 => ?_)
    · have hf := fd_ifp c2 hf
      refine lv_iconst (v := (0 : Int32)) hx hb dX6_keptImages_27 (by decide) ?_
      refine lv_iadd hx hb dX6_keptImages_28 ?_
      cases hf
      exact fd_iret C hr hlk hH dX6_keptImages_29
    · have hf := fd_ifn c2 hf
      refine lv_iconst (v := (2 : Int32)) hx hb dX6_keptImages_23 (by decide) ?_
      refine lv_goto (tgt := 28) hx hb dX6_keptImages_24 (by decide) ?_
      refine lv_iadd hx hb dX6_keptImages_28 ?_
      cases hf
      exact fd_iret C hr hlk hH dX6_keptImages_29
  · have hf := fd_ifn c1 hf
    refine lv_iconst (v := (1 : Int32)) hx hb dX6_keptImages_9 (by decide) ?_
    refine lv_goto (tgt := 14) hx hb dX6_keptImages_10 (by decide) ?_
    refine lv_aload_n hx hb dX6_keptImages_14 rfl (lv_at hl 0 rfl) ?_
    refine fd_get 69 6 4 C hH (by decide) rfl (by decide) (by decide) wf_X6_29 (v := .ref (E.2.2 70)) rfl dX6_keptImages_15 ?_
    refine lv_iconst (v := (1 : Int32)) hx hb dX6_keptImages_18 (by decide) ?_
    refine fd_zald 70 (2 : Int32) C hH (by decide) rfl rfl (by decide) dX6_keptImages_19 ?_
    refine lv_if_eq (tgt := 27) hx hb dX6_keptImages_20 (by decide) (fun c3 => ?_) (fun c3 => ?_)
    · have hf := fd_ifp c3 hf
      refine lv_iconst (v := (0 : Int32)) hx hb dX6_keptImages_27 (by decide) ?_
      refine lv_iadd hx hb dX6_keptImages_28 ?_
      cases hf
      exact fd_iret C hr hlk hH dX6_keptImages_29
    · have hf := fd_ifn c3 hf
      refine lv_iconst (v := (2 : Int32)) hx hb dX6_keptImages_23 (by decide) ?_
      refine lv_goto (tgt := 28) hx hb dX6_keptImages_24 (by decide) ?_
      refine lv_iadd hx hb dX6_keptImages_28 ?_
      cases hf
      exact fd_iret C hr hlk hH dX6_keptImages_29
theorem dX6_count_0 : decode cX6_count 0 = .ok (.iload_n 1, 1) := by decide +kernel
theorem dX6_count_1 : decode cX6_count 1 = .ok (.iconst 0, 1) := by decide +kernel
theorem dX6_count_2 : decode cX6_count 2 = .ok (.bipush 9, 2) := by decide +kernel
theorem dX6_count_4 : decode cX6_count 4 = .ok (.invokestatic 33, 3) := by decide +kernel
theorem dX6_count_7 : decode cX6_count 7 = .ok (.ifCond .ne 6, 3) := by decide +kernel
theorem dX6_count_10 : decode cX6_count 10 = .ok (.bipush (-2), 2) := by decide +kernel
theorem dX6_count_12 : decode cX6_count 12 = .ok (.ireturn, 1) := by decide +kernel
theorem dX6_count_13 : decode cX6_count 13 = .ok (.iload_n 1, 1) := by decide +kernel
theorem dX6_count_14 : decode cX6_count 14 = .ok (.bipush 9, 2) := by decide +kernel
theorem dX6_count_16 : decode cX6_count 16 = .ok (.if_icmp .ne 10, 3) := by decide +kernel
theorem dX6_count_19 : decode cX6_count 19 = .ok (.aload_n 0, 1) := by decide +kernel
theorem dX6_count_20 : decode cX6_count 20 = .ok (.invokevirtual 149, 3) := by decide +kernel
theorem dX6_count_23 : decode cX6_count 23 = .ok (.goto 11, 3) := by decide +kernel
theorem dX6_count_26 : decode cX6_count 26 = .ok (.aload_n 0, 1) := by decide +kernel
theorem dX6_count_27 : decode cX6_count 27 = .ok (.getfield 19, 3) := by decide +kernel
theorem dX6_count_30 : decode cX6_count 30 = .ok (.iload_n 1, 1) := by decide +kernel
theorem dX6_count_31 : decode cX6_count 31 = .ok (.invokevirtual 152, 3) := by decide +kernel
theorem dX6_count_34 : decode cX6_count 34 = .ok (.ireturn, 1) := by decide +kernel
set_option maxHeartbeats 4000000 in
set_option maxRecDepth 100000 in
theorem cF_count (l : Launch) (E : fd_E) (fu : Nat) (S : fd_S) (x1 : Int32) {r0 : Int32} (hf : zF_count fu S x1 = some r0) : fd_Ct l yX6_count cX6_count 2 (some .int) (fd_rm 2 43) E S [.ref (E.2.2 69), .int x1] (some (.int r0)) S := by
  unfold zF_count at hf
  refine fd_Ct_of (by decide +kernel) (Nat.le_of_ble_eq_true rfl) ?_
  intro p e s m below meth c ls C hr hlk hH hl
  have hx := C.1
  have hb := C.2.1
  have hl : lv_has ls 2 [(0, .ref (E.2.2 69)), (1, .int x1)] := hl
  refine lv_iload_n hx hb dX6_count_0 rfl (lv_at hl 1 rfl) ?_
  refine lv_iconst (v := (0 : Int32)) hx hb dX6_count_1 (by decide) ?_
  refine lv_bipush (v := (9 : Int32)) hx hb dX6_count_2 (by decide) ?_
  refine fd_callS1 [.int x1, .int (0 : Int32), .int (9 : Int32)] C hl.1 hH (cF_isWithin l E S x1 (0 : Int32) (9 : Int32)) wm_X6_33 ⟨rfl, rfl, Nat.le_of_ble_eq_true rfl, Nat.le_of_ble_eq_true rfl⟩ rfl rfl (Nat.le_of_ble_eq_true rfl) ⟨Nat.le_refl _, Nat.le_refl _⟩ dX6_count_4 (fun H locs hH => ?_)
  refine lv_if_ne (tgt := 13) hx hb dX6_count_7 (by decide) (fun c1 => ?_) (fun c1 => ?_)
  · have hf := fd_ifn c1 hf
    refine lv_iload_n hx hb dX6_count_13 rfl (lv_at hl 1 rfl) ?_
    refine lv_bipush (v := (9 : Int32)) hx hb dX6_count_14 (by decide) ?_
    refine lv_icmp_ne (tgt := 26) hx hb dX6_count_16 (by decide) (fun c2 => ?_) (fun c2 => ?_)
    · have hf := fd_ifn c2 hf
      refine lv_aload_n hx hb dX6_count_26 rfl (lv_at hl 0 rfl) ?_
      refine fd_get 69 6 1 C hH (by decide) rfl (by decide) (by decide) wf_X6_19 (v := .ref (E.2.2 0)) rfl dX6_count_27 ?_
      refine lv_iload_n hx hb dX6_count_30 rfl (lv_at hl 1 rfl) ?_
      obtain ⟨r3, e4, hf⟩ := fd_bnd hf
      refine fd_callV1 0 4 [.int x1] C hl.1 hH (cS_tellCount l E fu S x1 e4) wm_X6_152 (by decide) rfl (by decide) rfl ⟨rfl, rfl, Nat.le_of_ble_eq_true rfl, Nat.le_of_ble_eq_true rfl⟩ rfl rfl (Nat.le_of_ble_eq_true rfl) ⟨Nat.le_refl _, Nat.le_refl _⟩ dX6_count_31 (fun H locs hH => ?_)
      cases hf
      exact fd_iret C hr hlk hH dX6_count_34
    · have hf := fd_ifp c2 hf
      refine lv_aload_n hx hb dX6_count_19 rfl (lv_at hl 0 rfl) ?_
      refine fd_callV1 69 6 [] C hl.1 hH (cF_keptImages l E S) wm_X6_149 (by decide) rfl (by decide) rfl ⟨rfl, rfl, Nat.le_of_ble_eq_true rfl, Nat.le_of_ble_eq_true rfl⟩ rfl rfl (Nat.le_of_ble_eq_true rfl) ⟨Nat.le_refl _, Nat.le_refl _⟩ dX6_count_20 (fun H locs hH => ?_)
      refine lv_goto (tgt := 34) hx hb dX6_count_23 (by decide) ?_
      cases hf
      exact fd_iret C hr hlk hH dX6_count_34
  · have hf := fd_ifp c1 hf
    refine lv_bipush (v := (-2 : Int32)) hx hb dX6_count_10 (by decide) ?_
    cases hf
    exact fd_iret C hr hlk hH dX6_count_12
theorem dX6_image_0 : decode cX6_image 0 = .ok (.iload_n 1, 1) := by decide +kernel
theorem dX6_image_1 : decode cX6_image 1 = .ok (.iconst 0, 1) := by decide +kernel
theorem dX6_image_2 : decode cX6_image 2 = .ok (.iconst 1, 1) := by decide +kernel
theorem dX6_image_3 : decode cX6_image 3 = .ok (.invokestatic 33, 3) := by decide +kernel
theorem dX6_image_6 : decode cX6_image 6 = .ok (.ifCond .ne 6, 3) := by decide +kernel
theorem dX6_image_9 : decode cX6_image 9 = .ok (.bipush (-2), 2) := by decide +kernel
theorem dX6_image_11 : decode cX6_image 11 = .ok (.ireturn, 1) := by decide +kernel
theorem dX6_image_12 : decode cX6_image 12 = .ok (.aload_n 0, 1) := by decide +kernel
theorem dX6_image_13 : decode cX6_image 13 = .ok (.iload_n 1, 1) := by decide +kernel
theorem dX6_image_14 : decode cX6_image 14 = .ok (.invokevirtual 156, 3) := by decide +kernel
theorem dX6_image_17 : decode cX6_image 17 = .ok (.aload_n 0, 1) := by decide +kernel
theorem dX6_image_18 : decode cX6_image 18 = .ok (.getfield 19, 3) := by decide +kernel
theorem dX6_image_21 : decode cX6_image 21 = .ok (.invokevirtual 160, 3) := by decide +kernel
theorem dX6_image_24 : decode cX6_image 24 = .ok (.aload_n 0, 1) := by decide +kernel
theorem dX6_image_25 : decode cX6_image 25 = .ok (.getfield 29, 3) := by decide +kernel
theorem dX6_image_28 : decode cX6_image 28 = .ok (.iload_n 1, 1) := by decide +kernel
theorem dX6_image_29 : decode cX6_image 29 = .ok (.iconst 1, 1) := by decide +kernel
theorem dX6_image_30 : decode cX6_image 30 = .ok (.bastore, 1) := by decide +kernel
theorem dX6_image_31 : decode cX6_image 31 = .ok (.iconst 1, 1) := by decide +kernel
theorem dX6_image_32 : decode cX6_image 32 = .ok (.ireturn, 1) := by decide +kernel
set_option maxHeartbeats 4000000 in
set_option maxRecDepth 100000 in
theorem cF_image (l : Launch) (E : fd_E) (fu : Nat) (S : fd_S) (x1 : Int32) {r0 : Int32} {S0 : fd_S} (hf : zF_image fu S x1 = some (r0, S0)) : fd_Ct l yX6_image cX6_image 2 (some .int) (fd_rm 4 82) E S [.ref (E.2.2 69), .int x1] (some (.int r0)) S0 := by
  unfold zF_image at hf
  refine fd_Ct_of (by decide +kernel) (Nat.le_of_ble_eq_true rfl) ?_
  intro p e s m below meth c ls C hr hlk hH hl
  have hx := C.1
  have hb := C.2.1
  have hl : lv_has ls 2 [(0, .ref (E.2.2 69)), (1, .int x1)] := hl
  refine lv_iload_n hx hb dX6_image_0 rfl (lv_at hl 1 rfl) ?_
  refine lv_iconst (v := (0 : Int32)) hx hb dX6_image_1 (by decide) ?_
  refine lv_iconst (v := (1 : Int32)) hx hb dX6_image_2 (by decide) ?_
  refine fd_callS1 [.int x1, .int (0 : Int32), .int (1 : Int32)] C hl.1 hH (cF_isWithin l E S x1 (0 : Int32) (1 : Int32)) wm_X6_33 ⟨rfl, rfl, Nat.le_of_ble_eq_true rfl, Nat.le_of_ble_eq_true rfl⟩ rfl rfl (Nat.le_of_ble_eq_true rfl) ⟨Nat.le_refl _, Nat.le_refl _⟩ dX6_image_3 (fun H locs hH => ?_)
  refine lv_if_ne (tgt := 12) hx hb dX6_image_6 (by decide) (fun c1 => ?_) (fun c1 => ?_)
  · have hf := fd_ifn c1 hf
    refine lv_aload_n hx hb dX6_image_12 rfl (lv_at hl 0 rfl) ?_
    refine lv_iload_n hx hb dX6_image_13 rfl (lv_at hl 1 rfl) ?_
    refine fd_callV1 69 6 [.int x1] C hl.1 hH (cF_imageOf l E S x1) wm_X6_156 (by decide) rfl (by decide) rfl ⟨rfl, rfl, Nat.le_of_ble_eq_true rfl, Nat.le_of_ble_eq_true rfl⟩ rfl rfl (Nat.le_of_ble_eq_true rfl) ⟨Nat.le_refl _, Nat.le_refl _⟩ dX6_image_14 (fun H locs hH => ?_)
    refine lv_aload_n hx hb dX6_image_17 rfl (lv_at hl 0 rfl) ?_
    refine fd_get 69 6 1 C hH (by decide) rfl (by decide) (by decide) wf_X6_19 (v := .ref (E.2.2 0)) rfl dX6_image_18 ?_
    obtain ⟨S2, e3, hf⟩ := fd_bnd hf
    refine fd_callV0 (zF_imageOf x1) 4 [.ref (E.2.2 0)] C hl.1 hH (cS_copyFrom l E fu S ((zF_imageOf x1)) 0 (zF_imageOf_st _) (by first | exact Or.inl rfl | exact Or.inr (Or.inl rfl) | exact Or.inr (Or.inr rfl)) e3) wm_X6_160 (fd_st1 (zF_imageOf_st _) 0 (by decide)) (fd_st2 (zF_imageOf_st _) 0 (by decide) rfl) (by decide) rfl ⟨rfl, rfl, Nat.le_of_ble_eq_true rfl, Nat.le_of_ble_eq_true rfl⟩ rfl rfl (Nat.le_of_ble_eq_true rfl) ⟨Nat.le_refl _, Nat.le_refl _⟩ dX6_image_21 (fun H locs hH => ?_)
    refine lv_aload_n hx hb dX6_image_24 rfl (lv_at hl 0 rfl) ?_
    refine fd_get 69 6 4 C hH (by decide) rfl (by decide) (by decide) wf_X6_29 (v := .ref (E.2.2 70)) rfl dX6_image_25 ?_
    refine lv_iload_n hx hb dX6_image_28 rfl (lv_at hl 1 rfl) ?_
    refine lv_iconst (v := (1 : Int32)) hx hb dX6_image_29 (by decide) ?_
    obtain ⟨g4, hf⟩ := fd_grd hf
    refine fd_zast 70 (2 : Int32) C hH (by decide) rfl rfl g4 rfl dX6_image_30 (fun H locs hH => ?_)
    obtain ⟨S5, eS5, hf⟩ := fd_ltS hf
    rw [← eS5] at hH
    refine lv_iconst (v := (1 : Int32)) hx hb dX6_image_31 (by decide) ?_
    cases hf
    exact fd_iret C hr hlk hH dX6_image_32
  · have hf := fd_ifp c1 hf
    refine lv_bipush (v := (-2 : Int32)) hx hb dX6_image_9 (by decide) ?_
    cases hf
    exact fd_iret C hr hlk hH dX6_image_11
theorem dX6_restore_0 : decode cX6_restore 0 = .ok (.iload_n 1, 1) := by decide +kernel
theorem dX6_restore_1 : decode cX6_restore 1 = .ok (.iconst 0, 1) := by decide +kernel
theorem dX6_restore_2 : decode cX6_restore 2 = .ok (.iconst 1, 1) := by decide +kernel
theorem dX6_restore_3 : decode cX6_restore 3 = .ok (.invokestatic 33, 3) := by decide +kernel
theorem dX6_restore_6 : decode cX6_restore 6 = .ok (.ifCond .ne 6, 3) := by decide +kernel
theorem dX6_restore_9 : decode cX6_restore 9 = .ok (.bipush (-2), 2) := by decide +kernel
theorem dX6_restore_11 : decode cX6_restore 11 = .ok (.ireturn, 1) := by decide +kernel
theorem dX6_restore_12 : decode cX6_restore 12 = .ok (.aload_n 0, 1) := by decide +kernel
theorem dX6_restore_13 : decode cX6_restore 13 = .ok (.getfield 29, 3) := by decide +kernel
theorem dX6_restore_16 : decode cX6_restore 16 = .ok (.iload_n 1, 1) := by decide +kernel
theorem dX6_restore_17 : decode cX6_restore 17 = .ok (.baload, 1) := by decide +kernel
theorem dX6_restore_18 : decode cX6_restore 18 = .ok (.ifCond .ne 6, 3) := by decide +kernel
theorem dX6_restore_21 : decode cX6_restore 21 = .ok (.bipush (-3), 2) := by decide +kernel
theorem dX6_restore_23 : decode cX6_restore 23 = .ok (.ireturn, 1) := by decide +kernel
theorem dX6_restore_24 : decode cX6_restore 24 = .ok (.aload_n 0, 1) := by decide +kernel
theorem dX6_restore_25 : decode cX6_restore 25 = .ok (.getfield 19, 3) := by decide +kernel
theorem dX6_restore_28 : decode cX6_restore 28 = .ok (.aload_n 0, 1) := by decide +kernel
theorem dX6_restore_29 : decode cX6_restore 29 = .ok (.iload_n 1, 1) := by decide +kernel
theorem dX6_restore_30 : decode cX6_restore 30 = .ok (.invokevirtual 156, 3) := by decide +kernel
theorem dX6_restore_33 : decode cX6_restore 33 = .ok (.invokevirtual 160, 3) := by decide +kernel
theorem dX6_restore_36 : decode cX6_restore 36 = .ok (.iconst 1, 1) := by decide +kernel
theorem dX6_restore_37 : decode cX6_restore 37 = .ok (.ireturn, 1) := by decide +kernel
set_option maxHeartbeats 4000000 in
set_option maxRecDepth 100000 in
theorem cF_restore (l : Launch) (E : fd_E) (fu : Nat) (S : fd_S) (x1 : Int32) {r0 : Int32} {S0 : fd_S} (hf : zF_restore fu S x1 = some (r0, S0)) : fd_Ct l yX6_restore cX6_restore 2 (some .int) (fd_rm 4 82) E S [.ref (E.2.2 69), .int x1] (some (.int r0)) S0 := by
  unfold zF_restore at hf
  refine fd_Ct_of (by decide +kernel) (Nat.le_of_ble_eq_true rfl) ?_
  intro p e s m below meth c ls C hr hlk hH hl
  have hx := C.1
  have hb := C.2.1
  have hl : lv_has ls 2 [(0, .ref (E.2.2 69)), (1, .int x1)] := hl
  refine lv_iload_n hx hb dX6_restore_0 rfl (lv_at hl 1 rfl) ?_
  refine lv_iconst (v := (0 : Int32)) hx hb dX6_restore_1 (by decide) ?_
  refine lv_iconst (v := (1 : Int32)) hx hb dX6_restore_2 (by decide) ?_
  refine fd_callS1 [.int x1, .int (0 : Int32), .int (1 : Int32)] C hl.1 hH (cF_isWithin l E S x1 (0 : Int32) (1 : Int32)) wm_X6_33 ⟨rfl, rfl, Nat.le_of_ble_eq_true rfl, Nat.le_of_ble_eq_true rfl⟩ rfl rfl (Nat.le_of_ble_eq_true rfl) ⟨Nat.le_refl _, Nat.le_refl _⟩ dX6_restore_3 (fun H locs hH => ?_)
  refine lv_if_ne (tgt := 12) hx hb dX6_restore_6 (by decide) (fun c1 => ?_) (fun c1 => ?_)
  · have hf := fd_ifn c1 hf
    refine lv_aload_n hx hb dX6_restore_12 rfl (lv_at hl 0 rfl) ?_
    refine fd_get 69 6 4 C hH (by decide) rfl (by decide) (by decide) wf_X6_29 (v := .ref (E.2.2 70)) rfl dX6_restore_13 ?_
    refine lv_iload_n hx hb dX6_restore_16 rfl (lv_at hl 1 rfl) ?_
    obtain ⟨g2, hf⟩ := fd_grd hf
    refine fd_zald 70 (2 : Int32) C hH (by decide) rfl rfl g2 dX6_restore_17 ?_
    refine lv_if_ne (tgt := 24) hx hb dX6_restore_18 (by decide) (fun c3 => ?_) (fun c3 => ?_)
    · have hf := fd_ifn c3 hf
      refine lv_aload_n hx hb dX6_restore_24 rfl (lv_at hl 0 rfl) ?_
      refine fd_get 69 6 1 C hH (by decide) rfl (by decide) (by decide) wf_X6_19 (v := .ref (E.2.2 0)) rfl dX6_restore_25 ?_
      refine lv_aload_n hx hb dX6_restore_28 rfl (lv_at hl 0 rfl) ?_
      refine lv_iload_n hx hb dX6_restore_29 rfl (lv_at hl 1 rfl) ?_
      refine fd_callV1 69 6 [.int x1] C hl.1 hH (cF_imageOf l E S x1) wm_X6_156 (by decide) rfl (by decide) rfl ⟨rfl, rfl, Nat.le_of_ble_eq_true rfl, Nat.le_of_ble_eq_true rfl⟩ rfl rfl (Nat.le_of_ble_eq_true rfl) ⟨Nat.le_refl _, Nat.le_refl _⟩ dX6_restore_30 (fun H locs hH => ?_)
      obtain ⟨S4, e5, hf⟩ := fd_bnd hf
      refine fd_callV0 0 4 [.ref (E.2.2 (zF_imageOf x1))] C hl.1 hH (cS_copyFrom l E fu S 0 ((zF_imageOf x1)) (by first | exact Or.inl rfl | exact Or.inr (Or.inl rfl) | exact Or.inr (Or.inr rfl)) (zF_imageOf_st _) e5) wm_X6_160 (by decide) rfl (by decide) rfl ⟨rfl, rfl, Nat.le_of_ble_eq_true rfl, Nat.le_of_ble_eq_true rfl⟩ rfl rfl (Nat.le_of_ble_eq_true rfl) ⟨Nat.le_refl _, Nat.le_refl _⟩ dX6_restore_33 (fun H locs hH => ?_)
      refine lv_iconst (v := (1 : Int32)) hx hb dX6_restore_36 (by decide) ?_
      cases hf
      exact fd_iret C hr hlk hH dX6_restore_37
    · have hf := fd_ifp c3 hf
      refine lv_bipush (v := (-3 : Int32)) hx hb dX6_restore_21 (by decide) ?_
      cases hf
      exact fd_iret C hr hlk hH dX6_restore_23
  · have hf := fd_ifp c1 hf
    refine lv_bipush (v := (-2 : Int32)) hx hb dX6_restore_9 (by decide) ?_
    cases hf
    exact fd_iret C hr hlk hH dX6_restore_11
