theorem dX6_set_0 : decode cX6_set 0 = .ok (.aload_n 0, 1) := by decide +kernel
theorem dX6_set_1 : decode cX6_set 1 = .ok (.getfield 12, 3) := by decide +kernel
theorem dX6_set_4 : decode cX6_set 4 = .ok (.invokevirtual 52, 3) := by decide +kernel
theorem dX6_set_7 : decode cX6_set 7 = .ok (.istore_n 1, 1) := by decide +kernel
theorem dX6_set_8 : decode cX6_set 8 = .ok (.iload_n 1, 1) := by decide +kernel
theorem dX6_set_9 : decode cX6_set 9 = .ok (.bipush (-6), 2) := by decide +kernel
theorem dX6_set_11 : decode cX6_set 11 = .ok (.if_icmp .ne 6, 3) := by decide +kernel
theorem dX6_set_14 : decode cX6_set 14 = .ok (.bipush (-7), 2) := by decide +kernel
theorem dX6_set_16 : decode cX6_set 16 = .ok (.ireturn, 1) := by decide +kernel
theorem dX6_set_17 : decode cX6_set 17 = .ok (.aload_n 0, 1) := by decide +kernel
theorem dX6_set_18 : decode cX6_set 18 = .ok (.getfield 12, 3) := by decide +kernel
theorem dX6_set_21 : decode cX6_set 21 = .ok (.invokevirtual 55, 3) := by decide +kernel
theorem dX6_set_24 : decode cX6_set 24 = .ok (.istore_n 2, 1) := by decide +kernel
theorem dX6_set_25 : decode cX6_set 25 = .ok (.iload_n 2, 1) := by decide +kernel
theorem dX6_set_26 : decode cX6_set 26 = .ok (.getstatic 58, 3) := by decide +kernel
theorem dX6_set_29 : decode cX6_set 29 = .ok (.iload_n 1, 1) := by decide +kernel
theorem dX6_set_30 : decode cX6_set 30 = .ok (.iaload, 1) := by decide +kernel
theorem dX6_set_31 : decode cX6_set 31 = .ok (.getstatic 62, 3) := by decide +kernel
theorem dX6_set_34 : decode cX6_set 34 = .ok (.iload_n 1, 1) := by decide +kernel
theorem dX6_set_35 : decode cX6_set 35 = .ok (.iaload, 1) := by decide +kernel
theorem dX6_set_36 : decode cX6_set 36 = .ok (.invokestatic 33, 3) := by decide +kernel
theorem dX6_set_39 : decode cX6_set 39 = .ok (.ifCond .ne 6, 3) := by decide +kernel
theorem dX6_set_42 : decode cX6_set 42 = .ok (.bipush (-2), 2) := by decide +kernel
theorem dX6_set_44 : decode cX6_set 44 = .ok (.ireturn, 1) := by decide +kernel
theorem dX6_set_45 : decode cX6_set 45 = .ok (.aload_n 0, 1) := by decide +kernel
theorem dX6_set_46 : decode cX6_set 46 = .ok (.getfield 12, 3) := by decide +kernel
theorem dX6_set_49 : decode cX6_set 49 = .ok (.invokevirtual 45, 3) := by decide +kernel
theorem dX6_set_52 : decode cX6_set 52 = .ok (.pop, 1) := by decide +kernel
theorem dX6_set_53 : decode cX6_set 53 = .ok (.aload_n 0, 1) := by decide +kernel
theorem dX6_set_54 : decode cX6_set 54 = .ok (.getfield 19, 3) := by decide +kernel
theorem dX6_set_57 : decode cX6_set 57 = .ok (.getfield 65, 3) := by decide +kernel
theorem dX6_set_60 : decode cX6_set 60 = .ok (.iload_n 1, 1) := by decide +kernel
theorem dX6_set_61 : decode cX6_set 61 = .ok (.iload_n 2, 1) := by decide +kernel
theorem dX6_set_62 : decode cX6_set 62 = .ok (.invokevirtual 69, 3) := by decide +kernel
theorem dX6_set_65 : decode cX6_set 65 = .ok (.ireturn, 1) := by decide +kernel
set_option maxHeartbeats 4000000 in
set_option maxRecDepth 100000 in
theorem cF_set (l : Launch) (E : fd_E) (fu : Nat) (S : fd_S) {r0 : Int32} {S0 : fd_S} (hf : zF_set fu S = some (r0, S0)) : fd_Ct l yX6_set cX6_set 3 (some .int) (fd_rm 8 171) E S [.ref (E.2.2 69)] (some (.int r0)) S0 := by
  unfold zF_set at hf
  refine fd_Ct_of (by decide +kernel) (Nat.le_of_ble_eq_true rfl) ?_
  intro p e s m below meth c ls C hr hlk hH hl
  have hx := C.1
  have hb := C.2.1
  have hl : lv_has ls 3 [(0, .ref (E.2.2 69))] := hl
  refine lv_aload_n hx hb dX6_set_0 rfl (lv_at hl 0 rfl) ?_
  refine fd_get 69 6 0 C hH (by decide) rfl (by decide) (by decide) wf_X6_12 (v := .ref (E.2.2 71)) rfl dX6_set_1 ?_
  obtain ⟨r1, e2, hf⟩ := fd_bnd hf
  refine fd_callV1 71 5 [] C hl.1 hH (cT_toldBound l E fu S e2) wm_X6_52 (by decide) rfl (by decide) rfl ⟨rfl, rfl, Nat.le_of_ble_eq_true rfl, Nat.le_of_ble_eq_true rfl⟩ rfl rfl (Nat.le_of_ble_eq_true rfl) ⟨Nat.le_refl _, Nat.le_refl _⟩ dX6_set_4 (fun H locs hH => ?_)
  refine lv_istore_n (lv' := [(1, .int r1), (0, .ref (E.2.2 69))]) hx hb dX6_set_7 rfl hl (by decide) rfl (fun ls hl => ?_)
  refine lv_iload_n hx hb dX6_set_8 rfl (lv_at hl 0 rfl) ?_
  refine lv_bipush (v := (-6 : Int32)) hx hb dX6_set_9 (by decide) ?_
  refine lv_icmp_ne (tgt := 17) hx hb dX6_set_11 (by decide) (fun c3 => ?_) (fun c3 => ?_)
  · have hf := fd_ifn c3 hf
    refine lv_aload_n hx hb dX6_set_17 rfl (lv_at hl 1 rfl) ?_
    refine fd_get 69 6 0 C hH (by decide) rfl (by decide) (by decide) wf_X6_12 (v := .ref (E.2.2 71)) rfl dX6_set_18 ?_
    obtain ⟨r4, e5, hf⟩ := fd_bnd hf
    refine fd_callV1 71 5 [] C hl.1 hH (cT_toldNumber l E fu S e5) wm_X6_55 (by decide) rfl (by decide) rfl ⟨rfl, rfl, Nat.le_of_ble_eq_true rfl, Nat.le_of_ble_eq_true rfl⟩ rfl rfl (Nat.le_of_ble_eq_true rfl) ⟨Nat.le_refl _, Nat.le_refl _⟩ dX6_set_21 (fun H locs hH => ?_)
    refine lv_istore_n (lv' := [(2, .int r4), (1, .int r1), (0, .ref (E.2.2 69))]) hx hb dX6_set_24 rfl hl (by decide) rfl (fun ls hl => ?_)
    refine lv_iload_n hx hb dX6_set_25 rfl (lv_at hl 0 rfl) ?_
    refine fd_gets "LEAST" 100 C hH C.2.2.2.2.2.2.2.1.1 wf_X6_58 dX6_set_26 ?_
    refine lv_iload_n hx hb dX6_set_29 rfl (lv_at hl 1 rfl) ?_
    obtain ⟨g6, hf⟩ := fd_grd hf
    refine fd_tld 100 7 (7 : Int32) fd_least C hH C.2.2.2.2.2.2.2.1.2 (by decide) rfl g6 dX6_set_30 ?_
    refine fd_gets "MOST" 101 C hH C.2.2.2.2.2.2.2.2.1.1 wf_X6_62 dX6_set_31 ?_
    refine lv_iload_n hx hb dX6_set_34 rfl (lv_at hl 1 rfl) ?_
    obtain ⟨g7, hf⟩ := fd_grd hf
    refine fd_tld 101 7 (7 : Int32) fd_most C hH C.2.2.2.2.2.2.2.2.1.2 (by decide) rfl g7 dX6_set_35 ?_
    refine fd_callS1 [.int r4, .int (fd_tl fd_least r1), .int (fd_tl fd_most r1)] C hl.1 hH (cF_isWithin l E S r4 (fd_tl fd_least r1) (fd_tl fd_most r1)) wm_X6_33 ⟨rfl, rfl, Nat.le_of_ble_eq_true rfl, Nat.le_of_ble_eq_true rfl⟩ rfl rfl (Nat.le_of_ble_eq_true rfl) ⟨Nat.le_refl _, Nat.le_refl _⟩ dX6_set_36 (fun H locs hH => ?_)
    refine lv_if_ne (tgt := 45) hx hb dX6_set_39 (by decide) (fun c8 => ?_) (fun c8 => ?_)
    · have hf := fd_ifn c8 hf
      refine lv_aload_n hx hb dX6_set_45 rfl (lv_at hl 2 rfl) ?_
      refine fd_get 69 6 0 C hH (by decide) rfl (by decide) (by decide) wf_X6_12 (v := .ref (E.2.2 71)) rfl dX6_set_46 ?_
      obtain ⟨q12, e10, hf⟩ := fd_bnd hf
      obtain ⟨r11, S9⟩ := q12
      have hf := fd_prE hf
      refine fd_callV1 71 5 [] C hl.1 hH (cT_clear l E S e10) wm_X6_45 (by decide) rfl (by decide) rfl ⟨rfl, rfl, Nat.le_of_ble_eq_true rfl, Nat.le_of_ble_eq_true rfl⟩ rfl rfl (Nat.le_of_ble_eq_true rfl) ⟨Nat.le_refl _, Nat.le_refl _⟩ dX6_set_49 (fun H locs hH => ?_)
      refine lv_pop hx hb dX6_set_52 rfl ?_
      refine lv_aload_n hx hb dX6_set_53 rfl (lv_at hl 2 rfl) ?_
      refine fd_get 69 6 1 C hH (by decide) rfl (by decide) (by decide) wf_X6_19 (v := .ref (E.2.2 0)) rfl dX6_set_54 ?_
      refine fd_get 0 4 0 C hH (by decide) rfl (by decide) (by decide) wf_X6_65 (v := .ref (E.2.2 1)) rfl dX6_set_57 ?_
      refine lv_iload_n hx hb dX6_set_60 rfl (lv_at hl 1 rfl) ?_
      refine lv_iload_n hx hb dX6_set_61 rfl (lv_at hl 0 rfl) ?_
      obtain ⟨q16, e14, hf⟩ := fd_bnd hf
      obtain ⟨r15, S13⟩ := q16
      have hf := fd_prE hf
      refine fd_callV1 1 0 [.int r1, .int r4] C hl.1 hH (cB_replace l E S9 r1 r4 e14) wm_X6_69 (by decide) rfl (by decide) rfl ⟨rfl, rfl, Nat.le_of_ble_eq_true rfl, Nat.le_of_ble_eq_true rfl⟩ rfl rfl (Nat.le_of_ble_eq_true rfl) ⟨Nat.le_refl _, Nat.le_refl _⟩ dX6_set_62 (fun H locs hH => ?_)
      cases hf
      exact fd_iret C hr hlk hH dX6_set_65
    · have hf := fd_ifp c8 hf
      refine lv_bipush (v := (-2 : Int32)) hx hb dX6_set_42 (by decide) ?_
      cases hf
      exact fd_iret C hr hlk hH dX6_set_44
  · have hf := fd_ifp c3 hf
    refine lv_bipush (v := (-7 : Int32)) hx hb dX6_set_14 (by decide) ?_
    cases hf
    exact fd_iret C hr hlk hH dX6_set_16
theorem dX6_bound_0 : decode cX6_bound 0 = .ok (.iload_n 1, 1) := by decide +kernel
theorem dX6_bound_1 : decode cX6_bound 1 = .ok (.iconst 0, 1) := by decide +kernel
theorem dX6_bound_2 : decode cX6_bound 2 = .ok (.bipush 6, 2) := by decide +kernel
theorem dX6_bound_4 : decode cX6_bound 4 = .ok (.invokestatic 33, 3) := by decide +kernel
theorem dX6_bound_7 : decode cX6_bound 7 = .ok (.ifCond .eq 18, 3) := by decide +kernel
theorem dX6_bound_10 : decode cX6_bound 10 = .ok (.aload_n 0, 1) := by decide +kernel
theorem dX6_bound_11 : decode cX6_bound 11 = .ok (.getfield 19, 3) := by decide +kernel
theorem dX6_bound_14 : decode cX6_bound 14 = .ok (.getfield 65, 3) := by decide +kernel
theorem dX6_bound_17 : decode cX6_bound 17 = .ok (.getfield 75, 3) := by decide +kernel
theorem dX6_bound_20 : decode cX6_bound 20 = .ok (.iload_n 1, 1) := by decide +kernel
theorem dX6_bound_21 : decode cX6_bound 21 = .ok (.iaload, 1) := by decide +kernel
theorem dX6_bound_22 : decode cX6_bound 22 = .ok (.goto 5, 3) := by decide +kernel
theorem dX6_bound_25 : decode cX6_bound 25 = .ok (.bipush (-2), 2) := by decide +kernel
theorem dX6_bound_27 : decode cX6_bound 27 = .ok (.ireturn, 1) := by decide +kernel
set_option maxHeartbeats 4000000 in
set_option maxRecDepth 100000 in
theorem cF_bound (l : Launch) (E : fd_E) (S : fd_S) (x1 : Int32) {r0 : Int32} (hf : zF_bound S x1 = some r0) : fd_Ct l yX6_bound cX6_bound 2 (some .int) (fd_rm 1 22) E S [.ref (E.2.2 69), .int x1] (some (.int r0)) S := by
  unfold zF_bound at hf
  refine fd_Ct_of (by decide +kernel) (Nat.le_of_ble_eq_true rfl) ?_
  intro p e s m below meth c ls C hr hlk hH hl
  have hx := C.1
  have hb := C.2.1
  have hl : lv_has ls 2 [(0, .ref (E.2.2 69)), (1, .int x1)] := hl
  refine lv_iload_n hx hb dX6_bound_0 rfl (lv_at hl 1 rfl) ?_
  refine lv_iconst (v := (0 : Int32)) hx hb dX6_bound_1 (by decide) ?_
  refine lv_bipush (v := (6 : Int32)) hx hb dX6_bound_2 (by decide) ?_
  refine fd_callS1 [.int x1, .int (0 : Int32), .int (6 : Int32)] C hl.1 hH (cF_isWithin l E S x1 (0 : Int32) (6 : Int32)) wm_X6_33 ⟨rfl, rfl, Nat.le_of_ble_eq_true rfl, Nat.le_of_ble_eq_true rfl⟩ rfl rfl (Nat.le_of_ble_eq_true rfl) ⟨Nat.le_refl _, Nat.le_refl _⟩ dX6_bound_4 (fun H locs hH => ?_)
  refine lv_if_eq (tgt := 25) hx hb dX6_bound_7 (by decide) (fun c1 => ?_) (fun c1 => ?_)
  · have hf := fd_ifp c1 hf
    refine lv_bipush (v := (-2 : Int32)) hx hb dX6_bound_25 (by decide) ?_
    cases hf
    exact fd_iret C hr hlk hH dX6_bound_27
  · have hf := fd_ifn c1 hf
    refine lv_aload_n hx hb dX6_bound_10 rfl (lv_at hl 0 rfl) ?_
    refine fd_get 69 6 1 C hH (by decide) rfl (by decide) (by decide) wf_X6_19 (v := .ref (E.2.2 0)) rfl dX6_bound_11 ?_
    refine fd_get 0 4 0 C hH (by decide) rfl (by decide) (by decide) wf_X6_65 (v := .ref (E.2.2 1)) rfl dX6_bound_14 ?_
    refine fd_get 1 0 0 C hH (by decide) rfl (by decide) (by decide) wf_X6_75 (v := .ref (E.2.2 2)) rfl dX6_bound_17 ?_
    refine lv_iload_n hx hb dX6_bound_20 rfl (lv_at hl 1 rfl) ?_
    obtain ⟨g2, hf⟩ := fd_grd hf
    refine fd_iald 2 (7 : Int32) C hH (by decide) rfl rfl g2 dX6_bound_21 ?_
    refine lv_goto (tgt := 27) hx hb dX6_bound_22 (by decide) ?_
    cases hf
    exact fd_iret C hr hlk hH dX6_bound_27
theorem dX6_announce_0 : decode cX6_announce 0 = .ok (.iload_n 1, 1) := by decide +kernel
theorem dX6_announce_1 : decode cX6_announce 1 = .ok (.iload_n 2, 1) := by decide +kernel
theorem dX6_announce_2 : decode cX6_announce 2 = .ok (.invokestatic 78, 3) := by decide +kernel
theorem dX6_announce_5 : decode cX6_announce 5 = .ok (.ifCond .ne 5, 3) := by decide +kernel
theorem dX6_announce_8 : decode cX6_announce 8 = .ok (.iconst (-1), 1) := by decide +kernel
theorem dX6_announce_9 : decode cX6_announce 9 = .ok (.ireturn, 1) := by decide +kernel
theorem dX6_announce_10 : decode cX6_announce 10 = .ok (.iload_n 3, 1) := by decide +kernel
theorem dX6_announce_11 : decode cX6_announce 11 = .ok (.iconst 0, 1) := by decide +kernel
theorem dX6_announce_12 : decode cX6_announce 12 = .ok (.bipush 9, 2) := by decide +kernel
theorem dX6_announce_14 : decode cX6_announce 14 = .ok (.invokestatic 33, 3) := by decide +kernel
theorem dX6_announce_17 : decode cX6_announce 17 = .ok (.ifCond .eq 14, 3) := by decide +kernel
theorem dX6_announce_20 : decode cX6_announce 20 = .ok (.iload 4, 2) := by decide +kernel
theorem dX6_announce_22 : decode cX6_announce 22 = .ok (.iconst 0, 1) := by decide +kernel
theorem dX6_announce_23 : decode cX6_announce 23 = .ok (.bipush 99, 2) := by decide +kernel
theorem dX6_announce_25 : decode cX6_announce 25 = .ok (.invokestatic 33, 3) := by decide +kernel
theorem dX6_announce_28 : decode cX6_announce 28 = .ok (.ifCond .ne 6, 3) := by decide +kernel
theorem dX6_announce_31 : decode cX6_announce 31 = .ok (.bipush (-2), 2) := by decide +kernel
theorem dX6_announce_33 : decode cX6_announce 33 = .ok (.ireturn, 1) := by decide +kernel
theorem dX6_announce_34 : decode cX6_announce 34 = .ok (.iload_n 1, 1) := by decide +kernel
theorem dX6_announce_35 : decode cX6_announce 35 = .ok (.iload_n 2, 1) := by decide +kernel
theorem dX6_announce_36 : decode cX6_announce 36 = .ok (.invokestatic 82, 3) := by decide +kernel
theorem dX6_announce_39 : decode cX6_announce 39 = .ok (.istore 5, 2) := by decide +kernel
theorem dX6_announce_41 : decode cX6_announce 41 = .ok (.aload_n 0, 1) := by decide +kernel
theorem dX6_announce_42 : decode cX6_announce 42 = .ok (.getfield 19, 3) := by decide +kernel
theorem dX6_announce_45 : decode cX6_announce 45 = .ok (.getfield 85, 3) := by decide +kernel
theorem dX6_announce_48 : decode cX6_announce 48 = .ok (.iload 5, 2) := by decide +kernel
theorem dX6_announce_50 : decode cX6_announce 50 = .ok (.iaload, 1) := by decide +kernel
theorem dX6_announce_51 : decode cX6_announce 51 = .ok (.iload_n 3, 1) := by decide +kernel
theorem dX6_announce_52 : decode cX6_announce 52 = .ok (.if_icmp .ne 8, 3) := by decide +kernel
theorem dX6_announce_55 : decode cX6_announce 55 = .ok (.bipush (-5), 2) := by decide +kernel
theorem dX6_announce_57 : decode cX6_announce 57 = .ok (.goto 15, 3) := by decide +kernel
theorem dX6_announce_60 : decode cX6_announce 60 = .ok (.aload_n 0, 1) := by decide +kernel
theorem dX6_announce_61 : decode cX6_announce 61 = .ok (.getfield 19, 3) := by decide +kernel
theorem dX6_announce_64 : decode cX6_announce 64 = .ok (.iload 5, 2) := by decide +kernel
theorem dX6_announce_66 : decode cX6_announce 66 = .ok (.iload_n 3, 1) := by decide +kernel
theorem dX6_announce_67 : decode cX6_announce 67 = .ok (.iload 4, 2) := by decide +kernel
theorem dX6_announce_69 : decode cX6_announce 69 = .ok (.invokevirtual 88, 3) := by decide +kernel
theorem dX6_announce_72 : decode cX6_announce 72 = .ok (.ireturn, 1) := by decide +kernel
set_option maxHeartbeats 4000000 in
set_option maxRecDepth 100000 in
theorem cF_announce (l : Launch) (E : fd_E) (fu : Nat) (S : fd_S) (x1 : Int32) (x2 : Int32) (x3 : Int32) (x4 : Int32) {r0 : Int32} {S0 : fd_S} (hf : zF_announce fu S x1 x2 x3 x4 = some (r0, S0)) : fd_Ct l yX6_announce cX6_announce 6 (some .int) (fd_rm 6 146) E S [.ref (E.2.2 69), .int x1, .int x2, .int x3, .int x4] (some (.int r0)) S0 := by
  unfold zF_announce at hf
  refine fd_Ct_of (by decide +kernel) (Nat.le_of_ble_eq_true rfl) ?_
  intro p e s m below meth c ls C hr hlk hH hl
  have hx := C.1
  have hb := C.2.1
  have hl : lv_has ls 6 [(0, .ref (E.2.2 69)), (1, .int x1), (2, .int x2), (3, .int x3), (4, .int x4)] := hl
  refine lv_iload_n hx hb dX6_announce_0 rfl (lv_at hl 1 rfl) ?_
  refine lv_iload_n hx hb dX6_announce_1 rfl (lv_at hl 2 rfl) ?_
  refine fd_callS1 [.int x1, .int x2] C hl.1 hH (cF_isRoute l E S x1 x2) wm_X6_78 ⟨rfl, rfl, Nat.le_of_ble_eq_true rfl, Nat.le_of_ble_eq_true rfl⟩ rfl rfl (Nat.le_of_ble_eq_true rfl) ⟨Nat.le_refl _, Nat.le_refl _⟩ dX6_announce_2 (fun H locs hH => ?_)
  refine lv_if_ne (tgt := 10) hx hb dX6_announce_5 (by decide) (fun c1 => ?_) (fun c1 => ?_)
  · have hf := fd_ifn c1 hf
    refine lv_iload_n hx hb dX6_announce_10 rfl (lv_at hl 3 rfl) ?_
    refine lv_iconst (v := (0 : Int32)) hx hb dX6_announce_11 (by decide) ?_
    refine lv_bipush (v := (9 : Int32)) hx hb dX6_announce_12 (by decide) ?_
    refine fd_callS1 [.int x3, .int (0 : Int32), .int (9 : Int32)] C hl.1 hH (cF_isWithin l E S x3 (0 : Int32) (9 : Int32)) wm_X6_33 ⟨rfl, rfl, Nat.le_of_ble_eq_true rfl, Nat.le_of_ble_eq_true rfl⟩ rfl rfl (Nat.le_of_ble_eq_true rfl) ⟨Nat.le_refl _, Nat.le_refl _⟩ dX6_announce_14 (fun H locs hH => ?_)
    refine lv_if_eq (tgt := 31) hx hb dX6_announce_17 (by decide) (fun c2 => ?_) (fun c2 => ?_)
    · have hf := fd_ifp c2 hf
      refine lv_bipush (v := (-2 : Int32)) hx hb dX6_announce_31 (by decide) ?_
      cases hf
      exact fd_iret C hr hlk hH dX6_announce_33
    · have hf := fd_ifn c2 hf
      refine lv_iload hx hb dX6_announce_20 (lv_at hl 4 rfl) ?_
      refine lv_iconst (v := (0 : Int32)) hx hb dX6_announce_22 (by decide) ?_
      refine lv_bipush (v := (99 : Int32)) hx hb dX6_announce_23 (by decide) ?_
      refine fd_callS1 [.int x4, .int (0 : Int32), .int (99 : Int32)] C hl.1 hH (cF_isWithin l E S x4 (0 : Int32) (99 : Int32)) wm_X6_33 ⟨rfl, rfl, Nat.le_of_ble_eq_true rfl, Nat.le_of_ble_eq_true rfl⟩ rfl rfl (Nat.le_of_ble_eq_true rfl) ⟨Nat.le_refl _, Nat.le_refl _⟩ dX6_announce_25 (fun H locs hH => ?_)
      refine lv_if_ne (tgt := 34) hx hb dX6_announce_28 (by decide) (fun c3 => ?_) (fun c3 => ?_)
      · have hf := fd_ifn c3 hf
        refine lv_iload_n hx hb dX6_announce_34 rfl (lv_at hl 1 rfl) ?_
        refine lv_iload_n hx hb dX6_announce_35 rfl (lv_at hl 2 rfl) ?_
        refine fd_callS1 [.int x1, .int x2] C hl.1 hH (cF_routeOf l E S x1 x2) wm_X6_82 ⟨rfl, rfl, Nat.le_of_ble_eq_true rfl, Nat.le_of_ble_eq_true rfl⟩ rfl rfl (Nat.le_of_ble_eq_true rfl) ⟨Nat.le_refl _, Nat.le_refl _⟩ dX6_announce_36 (fun H locs hH => ?_)
        refine lv_topi (fun y4 ey4 => ?_)
        have hf := fd_ltN ey4 hf
        refine lv_istore (lv' := [(5, .int y4), (0, .ref (E.2.2 69)), (1, .int x1), (2, .int x2), (3, .int x3), (4, .int x4)]) hx hb dX6_announce_39 hl (by decide) rfl (fun ls hl => ?_)
        refine lv_aload_n hx hb dX6_announce_41 rfl (lv_at hl 1 rfl) ?_
        refine fd_get 69 6 1 C hH (by decide) rfl (by decide) (by decide) wf_X6_19 (v := .ref (E.2.2 0)) rfl dX6_announce_42 ?_
        refine fd_get 0 4 3 C hH (by decide) rfl (by decide) (by decide) wf_X6_85 (v := .ref (E.2.2 20)) rfl dX6_announce_45 ?_
        refine lv_iload hx hb dX6_announce_48 (lv_at hl 0 rfl) ?_
        obtain ⟨g5, hf⟩ := fd_grd hf
        refine fd_iald 20 (32 : Int32) C hH (by decide) rfl rfl g5 dX6_announce_50 ?_
        refine lv_iload_n hx hb dX6_announce_51 rfl (lv_at hl 4 rfl) ?_
        refine lv_icmp_ne (tgt := 60) hx hb dX6_announce_52 (by decide) (fun c6 => ?_) (fun c6 => ?_)
        · have hf := fd_ifn c6 hf
          refine lv_aload_n hx hb dX6_announce_60 rfl (lv_at hl 1 rfl) ?_
          refine fd_get 69 6 1 C hH (by decide) rfl (by decide) (by decide) wf_X6_19 (v := .ref (E.2.2 0)) rfl dX6_announce_61 ?_
          refine lv_iload hx hb dX6_announce_64 (lv_at hl 0 rfl) ?_
          refine lv_iload_n hx hb dX6_announce_66 rfl (lv_at hl 4 rfl) ?_
          refine lv_iload hx hb dX6_announce_67 (lv_at hl 5 rfl) ?_
          obtain ⟨q10, e8, hf⟩ := fd_bnd hf
          obtain ⟨r9, S7⟩ := q10
          have hf := fd_prE hf
          refine fd_callV1 0 4 [.int y4, .int x3, .int x4] C hl.1 hH (cS_happen l E fu S y4 x3 x4 e8) wm_X6_88 (by decide) rfl (by decide) rfl ⟨rfl, rfl, Nat.le_of_ble_eq_true rfl, Nat.le_of_ble_eq_true rfl⟩ rfl rfl (Nat.le_of_ble_eq_true rfl) ⟨Nat.le_refl _, Nat.le_refl _⟩ dX6_announce_69 (fun H locs hH => ?_)
          cases hf
          exact fd_iret C hr hlk hH dX6_announce_72
        · have hf := fd_ifp c6 hf
          refine lv_bipush (v := (-5 : Int32)) hx hb dX6_announce_55 (by decide) ?_
          refine lv_goto (tgt := 72) hx hb dX6_announce_57 (by decide) ?_
          cases hf
          exact fd_iret C hr hlk hH dX6_announce_72
      · have hf := fd_ifp c3 hf
        refine lv_bipush (v := (-2 : Int32)) hx hb dX6_announce_31 (by decide) ?_
        cases hf
        exact fd_iret C hr hlk hH dX6_announce_33
  · have hf := fd_ifp c1 hf
    refine lv_iconst (v := (-1 : Int32)) hx hb dX6_announce_8 (by decide) ?_
    cases hf
    exact fd_iret C hr hlk hH dX6_announce_9
theorem dX6_withdraw_0 : decode cX6_withdraw 0 = .ok (.iload_n 1, 1) := by decide +kernel
theorem dX6_withdraw_1 : decode cX6_withdraw 1 = .ok (.iload_n 2, 1) := by decide +kernel
theorem dX6_withdraw_2 : decode cX6_withdraw 2 = .ok (.invokestatic 78, 3) := by decide +kernel
theorem dX6_withdraw_5 : decode cX6_withdraw 5 = .ok (.ifCond .ne 5, 3) := by decide +kernel
theorem dX6_withdraw_8 : decode cX6_withdraw 8 = .ok (.iconst (-1), 1) := by decide +kernel
theorem dX6_withdraw_9 : decode cX6_withdraw 9 = .ok (.ireturn, 1) := by decide +kernel
theorem dX6_withdraw_10 : decode cX6_withdraw 10 = .ok (.iload_n 3, 1) := by decide +kernel
theorem dX6_withdraw_11 : decode cX6_withdraw 11 = .ok (.iconst 0, 1) := by decide +kernel
theorem dX6_withdraw_12 : decode cX6_withdraw 12 = .ok (.bipush 99, 2) := by decide +kernel
theorem dX6_withdraw_14 : decode cX6_withdraw 14 = .ok (.invokestatic 33, 3) := by decide +kernel
theorem dX6_withdraw_17 : decode cX6_withdraw 17 = .ok (.ifCond .ne 6, 3) := by decide +kernel
theorem dX6_withdraw_20 : decode cX6_withdraw 20 = .ok (.bipush (-2), 2) := by decide +kernel
theorem dX6_withdraw_22 : decode cX6_withdraw 22 = .ok (.ireturn, 1) := by decide +kernel
theorem dX6_withdraw_23 : decode cX6_withdraw 23 = .ok (.iload_n 1, 1) := by decide +kernel
theorem dX6_withdraw_24 : decode cX6_withdraw 24 = .ok (.iload_n 2, 1) := by decide +kernel
theorem dX6_withdraw_25 : decode cX6_withdraw 25 = .ok (.invokestatic 82, 3) := by decide +kernel
theorem dX6_withdraw_28 : decode cX6_withdraw 28 = .ok (.istore 4, 2) := by decide +kernel
theorem dX6_withdraw_30 : decode cX6_withdraw 30 = .ok (.aload_n 0, 1) := by decide +kernel
theorem dX6_withdraw_31 : decode cX6_withdraw 31 = .ok (.getfield 19, 3) := by decide +kernel
theorem dX6_withdraw_34 : decode cX6_withdraw 34 = .ok (.getfield 85, 3) := by decide +kernel
theorem dX6_withdraw_37 : decode cX6_withdraw 37 = .ok (.iload 4, 2) := by decide +kernel
theorem dX6_withdraw_39 : decode cX6_withdraw 39 = .ok (.iaload, 1) := by decide +kernel
theorem dX6_withdraw_40 : decode cX6_withdraw 40 = .ok (.bipush (-6), 2) := by decide +kernel
theorem dX6_withdraw_42 : decode cX6_withdraw 42 = .ok (.if_icmp .ne 8, 3) := by decide +kernel
theorem dX6_withdraw_45 : decode cX6_withdraw 45 = .ok (.bipush (-5), 2) := by decide +kernel
theorem dX6_withdraw_47 : decode cX6_withdraw 47 = .ok (.goto 15, 3) := by decide +kernel
theorem dX6_withdraw_50 : decode cX6_withdraw 50 = .ok (.aload_n 0, 1) := by decide +kernel
theorem dX6_withdraw_51 : decode cX6_withdraw 51 = .ok (.getfield 19, 3) := by decide +kernel
theorem dX6_withdraw_54 : decode cX6_withdraw 54 = .ok (.iload 4, 2) := by decide +kernel
theorem dX6_withdraw_56 : decode cX6_withdraw 56 = .ok (.bipush (-6), 2) := by decide +kernel
theorem dX6_withdraw_58 : decode cX6_withdraw 58 = .ok (.iload_n 3, 1) := by decide +kernel
theorem dX6_withdraw_59 : decode cX6_withdraw 59 = .ok (.invokevirtual 88, 3) := by decide +kernel
theorem dX6_withdraw_62 : decode cX6_withdraw 62 = .ok (.ireturn, 1) := by decide +kernel
set_option maxHeartbeats 4000000 in
set_option maxRecDepth 100000 in
theorem cF_withdraw (l : Launch) (E : fd_E) (fu : Nat) (S : fd_S) (x1 : Int32) (x2 : Int32) (x3 : Int32) {r0 : Int32} {S0 : fd_S} (hf : zF_withdraw fu S x1 x2 x3 = some (r0, S0)) : fd_Ct l yX6_withdraw cX6_withdraw 5 (some .int) (fd_rm 6 146) E S [.ref (E.2.2 69), .int x1, .int x2, .int x3] (some (.int r0)) S0 := by
  unfold zF_withdraw at hf
  refine fd_Ct_of (by decide +kernel) (Nat.le_of_ble_eq_true rfl) ?_
  intro p e s m below meth c ls C hr hlk hH hl
  have hx := C.1
  have hb := C.2.1
  have hl : lv_has ls 5 [(0, .ref (E.2.2 69)), (1, .int x1), (2, .int x2), (3, .int x3)] := hl
  refine lv_iload_n hx hb dX6_withdraw_0 rfl (lv_at hl 1 rfl) ?_
  refine lv_iload_n hx hb dX6_withdraw_1 rfl (lv_at hl 2 rfl) ?_
  refine fd_callS1 [.int x1, .int x2] C hl.1 hH (cF_isRoute l E S x1 x2) wm_X6_78 ⟨rfl, rfl, Nat.le_of_ble_eq_true rfl, Nat.le_of_ble_eq_true rfl⟩ rfl rfl (Nat.le_of_ble_eq_true rfl) ⟨Nat.le_refl _, Nat.le_refl _⟩ dX6_withdraw_2 (fun H locs hH => ?_)
  refine lv_if_ne (tgt := 10) hx hb dX6_withdraw_5 (by decide) (fun c1 => ?_) (fun c1 => ?_)
  · have hf := fd_ifn c1 hf
    refine lv_iload_n hx hb dX6_withdraw_10 rfl (lv_at hl 3 rfl) ?_
    refine lv_iconst (v := (0 : Int32)) hx hb dX6_withdraw_11 (by decide) ?_
    refine lv_bipush (v := (99 : Int32)) hx hb dX6_withdraw_12 (by decide) ?_
    refine fd_callS1 [.int x3, .int (0 : Int32), .int (99 : Int32)] C hl.1 hH (cF_isWithin l E S x3 (0 : Int32) (99 : Int32)) wm_X6_33 ⟨rfl, rfl, Nat.le_of_ble_eq_true rfl, Nat.le_of_ble_eq_true rfl⟩ rfl rfl (Nat.le_of_ble_eq_true rfl) ⟨Nat.le_refl _, Nat.le_refl _⟩ dX6_withdraw_14 (fun H locs hH => ?_)
    refine lv_if_ne (tgt := 23) hx hb dX6_withdraw_17 (by decide) (fun c2 => ?_) (fun c2 => ?_)
    · have hf := fd_ifn c2 hf
      refine lv_iload_n hx hb dX6_withdraw_23 rfl (lv_at hl 1 rfl) ?_
      refine lv_iload_n hx hb dX6_withdraw_24 rfl (lv_at hl 2 rfl) ?_
      refine fd_callS1 [.int x1, .int x2] C hl.1 hH (cF_routeOf l E S x1 x2) wm_X6_82 ⟨rfl, rfl, Nat.le_of_ble_eq_true rfl, Nat.le_of_ble_eq_true rfl⟩ rfl rfl (Nat.le_of_ble_eq_true rfl) ⟨Nat.le_refl _, Nat.le_refl _⟩ dX6_withdraw_25 (fun H locs hH => ?_)
      refine lv_topi (fun y3 ey3 => ?_)
      have hf := fd_ltN ey3 hf
      refine lv_istore (lv' := [(4, .int y3), (0, .ref (E.2.2 69)), (1, .int x1), (2, .int x2), (3, .int x3)]) hx hb dX6_withdraw_28 hl (by decide) rfl (fun ls hl => ?_)
      refine lv_aload_n hx hb dX6_withdraw_30 rfl (lv_at hl 1 rfl) ?_
      refine fd_get 69 6 1 C hH (by decide) rfl (by decide) (by decide) wf_X6_19 (v := .ref (E.2.2 0)) rfl dX6_withdraw_31 ?_
      refine fd_get 0 4 3 C hH (by decide) rfl (by decide) (by decide) wf_X6_85 (v := .ref (E.2.2 20)) rfl dX6_withdraw_34 ?_
      refine lv_iload hx hb dX6_withdraw_37 (lv_at hl 0 rfl) ?_
      obtain ⟨g4, hf⟩ := fd_grd hf
      refine fd_iald 20 (32 : Int32) C hH (by decide) rfl rfl g4 dX6_withdraw_39 ?_
      refine lv_bipush (v := (-6 : Int32)) hx hb dX6_withdraw_40 (by decide) ?_
      refine lv_icmp_ne (tgt := 50) hx hb dX6_withdraw_42 (by decide) (fun c5 => ?_) (fun c5 => ?_)
      · have hf := fd_ifn c5 hf
        refine lv_aload_n hx hb dX6_withdraw_50 rfl (lv_at hl 1 rfl) ?_
        refine fd_get 69 6 1 C hH (by decide) rfl (by decide) (by decide) wf_X6_19 (v := .ref (E.2.2 0)) rfl dX6_withdraw_51 ?_
        refine lv_iload hx hb dX6_withdraw_54 (lv_at hl 0 rfl) ?_
        refine lv_bipush (v := (-6 : Int32)) hx hb dX6_withdraw_56 (by decide) ?_
        refine lv_iload_n hx hb dX6_withdraw_58 rfl (lv_at hl 4 rfl) ?_
        obtain ⟨q9, e7, hf⟩ := fd_bnd hf
        obtain ⟨r8, S6⟩ := q9
        have hf := fd_prE hf
        refine fd_callV1 0 4 [.int y3, .int (-6 : Int32), .int x3] C hl.1 hH (cS_happen l E fu S y3 (-6 : Int32) x3 e7) wm_X6_88 (by decide) rfl (by decide) rfl ⟨rfl, rfl, Nat.le_of_ble_eq_true rfl, Nat.le_of_ble_eq_true rfl⟩ rfl rfl (Nat.le_of_ble_eq_true rfl) ⟨Nat.le_refl _, Nat.le_refl _⟩ dX6_withdraw_59 (fun H locs hH => ?_)
        cases hf
        exact fd_iret C hr hlk hH dX6_withdraw_62
      · have hf := fd_ifp c5 hf
        refine lv_bipush (v := (-5 : Int32)) hx hb dX6_withdraw_45 (by decide) ?_
        refine lv_goto (tgt := 62) hx hb dX6_withdraw_47 (by decide) ?_
        cases hf
        exact fd_iret C hr hlk hH dX6_withdraw_62
    · have hf := fd_ifp c2 hf
      refine lv_bipush (v := (-2 : Int32)) hx hb dX6_withdraw_20 (by decide) ?_
      cases hf
      exact fd_iret C hr hlk hH dX6_withdraw_22
  · have hf := fd_ifp c1 hf
    refine lv_iconst (v := (-1 : Int32)) hx hb dX6_withdraw_8 (by decide) ?_
    cases hf
    exact fd_iret C hr hlk hH dX6_withdraw_9
theorem dX6_pass_0 : decode cX6_pass 0 = .ok (.iload_n 1, 1) := by decide +kernel
theorem dX6_pass_1 : decode cX6_pass 1 = .ok (.iconst 1, 1) := by decide +kernel
theorem dX6_pass_2 : decode cX6_pass 2 = .ok (.sipush 200, 3) := by decide +kernel
theorem dX6_pass_5 : decode cX6_pass 5 = .ok (.invokestatic 33, 3) := by decide +kernel
theorem dX6_pass_8 : decode cX6_pass 8 = .ok (.ifCond .ne 6, 3) := by decide +kernel
theorem dX6_pass_11 : decode cX6_pass 11 = .ok (.bipush (-2), 2) := by decide +kernel
theorem dX6_pass_13 : decode cX6_pass 13 = .ok (.ireturn, 1) := by decide +kernel
theorem dX6_pass_14 : decode cX6_pass 14 = .ok (.iconst 0, 1) := by decide +kernel
theorem dX6_pass_15 : decode cX6_pass 15 = .ok (.istore_n 2, 1) := by decide +kernel
theorem dX6_pass_16 : decode cX6_pass 16 = .ok (.iload_n 2, 1) := by decide +kernel
theorem dX6_pass_17 : decode cX6_pass 17 = .ok (.iload_n 1, 1) := by decide +kernel
theorem dX6_pass_18 : decode cX6_pass 18 = .ok (.if_icmp .ge 16, 3) := by decide +kernel
theorem dX6_pass_21 : decode cX6_pass 21 = .ok (.aload_n 0, 1) := by decide +kernel
theorem dX6_pass_22 : decode cX6_pass 22 = .ok (.getfield 19, 3) := by decide +kernel
theorem dX6_pass_25 : decode cX6_pass 25 = .ok (.invokevirtual 92, 3) := by decide +kernel
theorem dX6_pass_28 : decode cX6_pass 28 = .ok (.iinc 2 1, 3) := by decide +kernel
theorem dX6_pass_31 : decode cX6_pass 31 = .ok (.goto (-15), 3) := by decide +kernel
theorem dX6_pass_34 : decode cX6_pass 34 = .ok (.aload_n 0, 1) := by decide +kernel
theorem dX6_pass_35 : decode cX6_pass 35 = .ok (.getfield 19, 3) := by decide +kernel
theorem dX6_pass_38 : decode cX6_pass 38 = .ok (.getfield 95, 3) := by decide +kernel
theorem dX6_pass_41 : decode cX6_pass 41 = .ok (.invokevirtual 99, 3) := by decide +kernel
theorem dX6_pass_44 : decode cX6_pass 44 = .ok (.ireturn, 1) := by decide +kernel
set_option maxHeartbeats 4000000 in
set_option maxRecDepth 100000 in
theorem wF_pass_16 {p : Program} {l : Launch} {e : Env} {s : State} {m : MethodId} {args : Array Value} {below : List Frame} {meth : Method} {c : Code} {E : fd_E} (C : fd_C p s m args c yX6_pass.cls cX6_pass 3 E) (hr : meth.sig.returnType = (some .int)) (hlk : meth.locks = false) (fu : Nat) {r0 : Int32} {S0 : fd_S} : ∀ (n : Nat) (S : fd_S) (x1 : Int32) (x2 : Int32) (H : Heap) (locs : List Loc) (ls : Array Slot), zF_pass_16 fu n S x1 x2 = some (r0, S0) → fd_H E S s H locs → lv_has ls 3 [(0, .ref (E.2.2 69)), (1, .int x1), (2, .int x2)] → W p l e (fd_rm 5 117) s m args below meth c H locs 0 0 (MQ below (fd_Q E (some (.int r0)) S0) args s 0 0 (fd_A E)) (F0 m 16 ls []) := by
  have hx := C.1
  have hb := C.2.1
  intro n
  induction n with
  | zero =>
    intro S x1 x2 H locs ls hf
    rw [zF_pass_16] at hf
    cases hf
  | succ n ih =>
    intro S x1 x2 H locs ls hf hH hl
    rw [zF_pass_16] at hf
    refine lv_iload_n hx hb dX6_pass_16 rfl (lv_at hl 2 rfl) ?_
    refine lv_iload_n hx hb dX6_pass_17 rfl (lv_at hl 1 rfl) ?_
    refine lv_icmp_ge (tgt := 34) hx hb dX6_pass_18 (by decide) (fun c2 => ?_) (fun c2 => ?_)
    · have hf := fd_ifp c2 hf
      refine lv_aload_n hx hb dX6_pass_34 rfl (lv_at hl 0 rfl) ?_
      refine fd_get 69 6 1 C hH (by decide) rfl (by decide) (by decide) wf_X6_19 (v := .ref (E.2.2 0)) rfl dX6_pass_35 ?_
      refine fd_get 0 4 1 C hH (by decide) rfl (by decide) (by decide) wf_X6_95 (v := .ref (E.2.2 3)) rfl dX6_pass_38 ?_
      obtain ⟨r3, e4, hf⟩ := fd_bnd hf
      refine fd_callV1 3 2 [] C hl.1 hH (cQ_heldOnes l E fu S e4) wm_X6_99 (by decide) rfl (by decide) rfl ⟨rfl, rfl, Nat.le_of_ble_eq_true rfl, Nat.le_of_ble_eq_true rfl⟩ rfl rfl (Nat.le_of_ble_eq_true rfl) ⟨Nat.le_refl _, Nat.le_refl _⟩ dX6_pass_41 (fun H locs hH => ?_)
      cases hf
      exact fd_iret C hr hlk hH dX6_pass_44
    · have hf := fd_ifn c2 hf
      refine lv_aload_n hx hb dX6_pass_21 rfl (lv_at hl 0 rfl) ?_
      refine fd_get 69 6 1 C hH (by decide) rfl (by decide) (by decide) wf_X6_19 (v := .ref (E.2.2 0)) rfl dX6_pass_22 ?_
      obtain ⟨S5, e6, hf⟩ := fd_bnd hf
      refine fd_callV0 0 4 [] C hl.1 hH (cS_nextTick l E fu S e6) wm_X6_92 (by decide) rfl (by decide) rfl ⟨rfl, rfl, Nat.le_of_ble_eq_true rfl, Nat.le_of_ble_eq_true rfl⟩ rfl rfl (Nat.le_of_ble_eq_true rfl) ⟨Nat.le_refl _, Nat.le_refl _⟩ dX6_pass_25 (fun H locs hH => ?_)
      obtain ⟨y7, ey7, hf⟩ := fd_ltS hf
      refine lv_iinc (v := y7) (lv' := [(2, .int y7), (0, .ref (E.2.2 69)), (1, .int x1)]) hx hb dX6_pass_28 hl (k := 2) rfl (by rw [ey7]; rfl) (by decide) rfl (fun ls hl => ?_)
      refine lv_goto (tgt := 16) hx hb dX6_pass_31 (by decide) ?_
      exact ih S5 x1 y7 _ _ _ hf hH (lv_sub hl [1, 2, 0] rfl)
set_option maxHeartbeats 4000000 in
set_option maxRecDepth 100000 in
theorem cF_pass (l : Launch) (E : fd_E) (fu : Nat) (S : fd_S) (x1 : Int32) {r0 : Int32} {S0 : fd_S} (hf : zF_pass fu S x1 = some (r0, S0)) : fd_Ct l yX6_pass cX6_pass 3 (some .int) (fd_rm 5 117) E S [.ref (E.2.2 69), .int x1] (some (.int r0)) S0 := by
  unfold zF_pass at hf
  refine fd_Ct_of (by decide +kernel) (Nat.le_of_ble_eq_true rfl) ?_
  intro p e s m below meth c ls C hr hlk hH hl
  have hx := C.1
  have hb := C.2.1
  have hl : lv_has ls 3 [(0, .ref (E.2.2 69)), (1, .int x1)] := hl
  refine lv_iload_n hx hb dX6_pass_0 rfl (lv_at hl 1 rfl) ?_
  refine lv_iconst (v := (1 : Int32)) hx hb dX6_pass_1 (by decide) ?_
  refine lv_sipush (v := (200 : Int32)) hx hb dX6_pass_2 (by decide) ?_
  refine fd_callS1 [.int x1, .int (1 : Int32), .int (200 : Int32)] C hl.1 hH (cF_isWithin l E S x1 (1 : Int32) (200 : Int32)) wm_X6_33 ⟨rfl, rfl, Nat.le_of_ble_eq_true rfl, Nat.le_of_ble_eq_true rfl⟩ rfl rfl (Nat.le_of_ble_eq_true rfl) ⟨Nat.le_refl _, Nat.le_refl _⟩ dX6_pass_5 (fun H locs hH => ?_)
  refine lv_if_ne (tgt := 14) hx hb dX6_pass_8 (by decide) (fun c1 => ?_) (fun c1 => ?_)
  · have hf := fd_ifn c1 hf
    refine lv_iconst (v := (0 : Int32)) hx hb dX6_pass_14 (by decide) ?_
    refine lv_istore_n (lv' := [(2, .int (0 : Int32)), (0, .ref (E.2.2 69)), (1, .int x1)]) hx hb dX6_pass_15 rfl hl (by decide) rfl (fun ls hl => ?_)
    exact wF_pass_16 C hr hlk fu fu S x1 (0 : Int32) _ _ _ hf hH (lv_sub hl [1, 2, 0] rfl)
  · have hf := fd_ifp c1 hf
    refine lv_bipush (v := (-2 : Int32)) hx hb dX6_pass_11 (by decide) ?_
    cases hf
    exact fd_iret C hr hlk hH dX6_pass_13
theorem dX6_route_0 : decode cX6_route 0 = .ok (.iload_n 1, 1) := by decide +kernel
theorem dX6_route_1 : decode cX6_route 1 = .ok (.iload_n 2, 1) := by decide +kernel
theorem dX6_route_2 : decode cX6_route 2 = .ok (.invokestatic 78, 3) := by decide +kernel
theorem dX6_route_5 : decode cX6_route 5 = .ok (.ifCond .ne 5, 3) := by decide +kernel
theorem dX6_route_8 : decode cX6_route 8 = .ok (.iconst (-1), 1) := by decide +kernel
theorem dX6_route_9 : decode cX6_route 9 = .ok (.ireturn, 1) := by decide +kernel
theorem dX6_route_10 : decode cX6_route 10 = .ok (.iload_n 3, 1) := by decide +kernel
theorem dX6_route_11 : decode cX6_route 11 = .ok (.iconst 0, 1) := by decide +kernel
theorem dX6_route_12 : decode cX6_route 12 = .ok (.bipush 6, 2) := by decide +kernel
theorem dX6_route_14 : decode cX6_route 14 = .ok (.invokestatic 33, 3) := by decide +kernel
theorem dX6_route_17 : decode cX6_route 17 = .ok (.ifCond .ne 6, 3) := by decide +kernel
theorem dX6_route_20 : decode cX6_route 20 = .ok (.bipush (-2), 2) := by decide +kernel
theorem dX6_route_22 : decode cX6_route 22 = .ok (.ireturn, 1) := by decide +kernel
theorem dX6_route_23 : decode cX6_route 23 = .ok (.iload_n 1, 1) := by decide +kernel
theorem dX6_route_24 : decode cX6_route 24 = .ok (.iload_n 2, 1) := by decide +kernel
theorem dX6_route_25 : decode cX6_route 25 = .ok (.invokestatic 82, 3) := by decide +kernel
theorem dX6_route_28 : decode cX6_route 28 = .ok (.istore 4, 2) := by decide +kernel
theorem dX6_route_30 : decode cX6_route 30 = .ok (.iload_n 3, 1) := by decide +kernel
theorem dX6_route_31 : decode cX6_route 31 = .ok (.ifCond .ne 16, 3) := by decide +kernel
theorem dX6_route_34 : decode cX6_route 34 = .ok (.aload_n 0, 1) := by decide +kernel
theorem dX6_route_35 : decode cX6_route 35 = .ok (.getfield 19, 3) := by decide +kernel
theorem dX6_route_38 : decode cX6_route 38 = .ok (.getfield 85, 3) := by decide +kernel
theorem dX6_route_41 : decode cX6_route 41 = .ok (.iload 4, 2) := by decide +kernel
theorem dX6_route_43 : decode cX6_route 43 = .ok (.iaload, 1) := by decide +kernel
theorem dX6_route_44 : decode cX6_route 44 = .ok (.goto 23, 3) := by decide +kernel
theorem dX6_route_47 : decode cX6_route 47 = .ok (.aload_n 0, 1) := by decide +kernel
theorem dX6_route_48 : decode cX6_route 48 = .ok (.getfield 19, 3) := by decide +kernel
theorem dX6_route_51 : decode cX6_route 51 = .ok (.aload_n 0, 1) := by decide +kernel
theorem dX6_route_52 : decode cX6_route 52 = .ok (.getfield 19, 3) := by decide +kernel
theorem dX6_route_55 : decode cX6_route 55 = .ok (.getfield 95, 3) := by decide +kernel
theorem dX6_route_58 : decode cX6_route 58 = .ok (.iload 4, 2) := by decide +kernel
theorem dX6_route_60 : decode cX6_route 60 = .ok (.invokevirtual 104, 3) := by decide +kernel
theorem dX6_route_63 : decode cX6_route 63 = .ok (.iload_n 3, 1) := by decide +kernel
theorem dX6_route_64 : decode cX6_route 64 = .ok (.invokevirtual 108, 3) := by decide +kernel
theorem dX6_route_67 : decode cX6_route 67 = .ok (.ireturn, 1) := by decide +kernel
set_option maxHeartbeats 4000000 in
set_option maxRecDepth 100000 in
theorem cF_route (l : Launch) (E : fd_E) (fu : Nat) (S : fd_S) (x1 : Int32) (x2 : Int32) (x3 : Int32) {r0 : Int32} (hf : zF_route fu S x1 x2 x3 = some r0) : fd_Ct l yX6_route cX6_route 5 (some .int) (fd_rm 3 71) E S [.ref (E.2.2 69), .int x1, .int x2, .int x3] (some (.int r0)) S := by
  unfold zF_route at hf
  refine fd_Ct_of (by decide +kernel) (Nat.le_of_ble_eq_true rfl) ?_
  intro p e s m below meth c ls C hr hlk hH hl
  have hx := C.1
  have hb := C.2.1
  have hl : lv_has ls 5 [(0, .ref (E.2.2 69)), (1, .int x1), (2, .int x2), (3, .int x3)] := hl
  refine lv_iload_n hx hb dX6_route_0 rfl (lv_at hl 1 rfl) ?_
  refine lv_iload_n hx hb dX6_route_1 rfl (lv_at hl 2 rfl) ?_
  refine fd_callS1 [.int x1, .int x2] C hl.1 hH (cF_isRoute l E S x1 x2) wm_X6_78 ⟨rfl, rfl, Nat.le_of_ble_eq_true rfl, Nat.le_of_ble_eq_true rfl⟩ rfl rfl (Nat.le_of_ble_eq_true rfl) ⟨Nat.le_refl _, Nat.le_refl _⟩ dX6_route_2 (fun H locs hH => ?_)
  refine lv_if_ne (tgt := 10) hx hb dX6_route_5 (by decide) (fun c1 => ?_) (fun c1 => ?_)
  · have hf := fd_ifn c1 hf
    refine lv_iload_n hx hb dX6_route_10 rfl (lv_at hl 3 rfl) ?_
    refine lv_iconst (v := (0 : Int32)) hx hb dX6_route_11 (by decide) ?_
    refine lv_bipush (v := (6 : Int32)) hx hb dX6_route_12 (by decide) ?_
    refine fd_callS1 [.int x3, .int (0 : Int32), .int (6 : Int32)] C hl.1 hH (cF_isWithin l E S x3 (0 : Int32) (6 : Int32)) wm_X6_33 ⟨rfl, rfl, Nat.le_of_ble_eq_true rfl, Nat.le_of_ble_eq_true rfl⟩ rfl rfl (Nat.le_of_ble_eq_true rfl) ⟨Nat.le_refl _, Nat.le_refl _⟩ dX6_route_14 (fun H locs hH => ?_)
    refine lv_if_ne (tgt := 23) hx hb dX6_route_17 (by decide) (fun c2 => ?_) (fun c2 => ?_)
    · have hf := fd_ifn c2 hf
      refine lv_iload_n hx hb dX6_route_23 rfl (lv_at hl 1 rfl) ?_
      refine lv_iload_n hx hb dX6_route_24 rfl (lv_at hl 2 rfl) ?_
      refine fd_callS1 [.int x1, .int x2] C hl.1 hH (cF_routeOf l E S x1 x2) wm_X6_82 ⟨rfl, rfl, Nat.le_of_ble_eq_true rfl, Nat.le_of_ble_eq_true rfl⟩ rfl rfl (Nat.le_of_ble_eq_true rfl) ⟨Nat.le_refl _, Nat.le_refl _⟩ dX6_route_25 (fun H locs hH => ?_)
      refine lv_topi (fun y3 ey3 => ?_)
      have hf := fd_ltN ey3 hf
      refine lv_istore (lv' := [(4, .int y3), (0, .ref (E.2.2 69)), (1, .int x1), (2, .int x2), (3, .int x3)]) hx hb dX6_route_28 hl (by decide) rfl (fun ls hl => ?_)
      refine lv_iload_n hx hb dX6_route_30 rfl (lv_at hl 4 rfl) ?_
      refine lv_if_ne (tgt := 47) hx hb dX6_route_31 (by decide) (fun c4 => ?_) (fun c4 => ?_)
      · have hf := fd_ifn c4 hf
        refine lv_aload_n hx hb dX6_route_47 rfl (lv_at hl 1 rfl) ?_
        refine fd_get 69 6 1 C hH (by decide) rfl (by decide) (by decide) wf_X6_19 (v := .ref (E.2.2 0)) rfl dX6_route_48 ?_
        refine lv_aload_n hx hb dX6_route_51 rfl (lv_at hl 1 rfl) ?_
        refine fd_get 69 6 1 C hH (by decide) rfl (by decide) (by decide) wf_X6_19 (v := .ref (E.2.2 0)) rfl dX6_route_52 ?_
        refine fd_get 0 4 1 C hH (by decide) rfl (by decide) (by decide) wf_X6_95 (v := .ref (E.2.2 3)) rfl dX6_route_55 ?_
        refine lv_iload hx hb dX6_route_58 (lv_at hl 0 rfl) ?_
        obtain ⟨r5, e6, hf⟩ := fd_bnd hf
        refine fd_callV1 3 2 [.int y3] C hl.1 hH (cQ_find l E fu S y3 e6) wm_X6_104 (by decide) rfl (by decide) rfl ⟨rfl, rfl, Nat.le_of_ble_eq_true rfl, Nat.le_of_ble_eq_true rfl⟩ rfl rfl (Nat.le_of_ble_eq_true rfl) ⟨Nat.le_refl _, Nat.le_refl _⟩ dX6_route_60 (fun H locs hH => ?_)
        refine lv_iload_n hx hb dX6_route_63 rfl (lv_at hl 4 rfl) ?_
        obtain ⟨r7, e8, hf⟩ := fd_bnd hf
        refine fd_callV1 0 4 [fd_rv E r5, .int x3] C hl.1 hH (cS_tellRecord l E S r5 x3 e8) wm_X6_108 (by decide) rfl (by decide) rfl ⟨rfl, rfl, Nat.le_of_ble_eq_true rfl, Nat.le_of_ble_eq_true rfl⟩ rfl rfl (Nat.le_of_ble_eq_true rfl) ⟨Nat.le_refl _, Nat.le_refl _⟩ dX6_route_64 (fun H locs hH => ?_)
        cases hf
        exact fd_iret C hr hlk hH dX6_route_67
      · have hf := fd_ifp c4 hf
        refine lv_aload_n hx hb dX6_route_34 rfl (lv_at hl 1 rfl) ?_
        refine fd_get 69 6 1 C hH (by decide) rfl (by decide) (by decide) wf_X6_19 (v := .ref (E.2.2 0)) rfl dX6_route_35 ?_
        refine fd_get 0 4 3 C hH (by decide) rfl (by decide) (by decide) wf_X6_85 (v := .ref (E.2.2 20)) rfl dX6_route_38 ?_
        refine lv_iload hx hb dX6_route_41 (lv_at hl 0 rfl) ?_
        obtain ⟨g9, hf⟩ := fd_grd hf
        refine fd_iald 20 (32 : Int32) C hH (by decide) rfl rfl g9 dX6_route_43 ?_
        refine lv_goto (tgt := 67) hx hb dX6_route_44 (by decide) ?_
        cases hf
        exact fd_iret C hr hlk hH dX6_route_67
    · have hf := fd_ifp c2 hf
      refine lv_bipush (v := (-2 : Int32)) hx hb dX6_route_20 (by decide) ?_
      cases hf
      exact fd_iret C hr hlk hH dX6_route_22
  · have hf := fd_ifp c1 hf
    refine lv_iconst (v := (-1 : Int32)) hx hb dX6_route_8 (by decide) ?_
    cases hf
    exact fd_iret C hr hlk hH dX6_route_9
theorem dX6_later_0 : decode cX6_later 0 = .ok (.iload_n 1, 1) := by decide +kernel
theorem dX6_later_1 : decode cX6_later 1 = .ok (.iload_n 2, 1) := by decide +kernel
theorem dX6_later_2 : decode cX6_later 2 = .ok (.invokestatic 78, 3) := by decide +kernel
theorem dX6_later_5 : decode cX6_later 5 = .ok (.ifCond .ne 5, 3) := by decide +kernel
theorem dX6_later_8 : decode cX6_later 8 = .ok (.iconst (-1), 1) := by decide +kernel
theorem dX6_later_9 : decode cX6_later 9 = .ok (.ireturn, 1) := by decide +kernel
theorem dX6_later_10 : decode cX6_later 10 = .ok (.iload_n 3, 1) := by decide +kernel
theorem dX6_later_11 : decode cX6_later 11 = .ok (.iconst 0, 1) := by decide +kernel
theorem dX6_later_12 : decode cX6_later 12 = .ok (.sipush 2000, 3) := by decide +kernel
theorem dX6_later_15 : decode cX6_later 15 = .ok (.invokestatic 33, 3) := by decide +kernel
theorem dX6_later_18 : decode cX6_later 18 = .ok (.ifCond .ne 6, 3) := by decide +kernel
theorem dX6_later_21 : decode cX6_later 21 = .ok (.bipush (-2), 2) := by decide +kernel
theorem dX6_later_23 : decode cX6_later 23 = .ok (.ireturn, 1) := by decide +kernel
theorem dX6_later_24 : decode cX6_later 24 = .ok (.aload_n 0, 1) := by decide +kernel
theorem dX6_later_25 : decode cX6_later 25 = .ok (.getfield 19, 3) := by decide +kernel
theorem dX6_later_28 : decode cX6_later 28 = .ok (.aload_n 0, 1) := by decide +kernel
theorem dX6_later_29 : decode cX6_later 29 = .ok (.getfield 19, 3) := by decide +kernel
theorem dX6_later_32 : decode cX6_later 32 = .ok (.getfield 95, 3) := by decide +kernel
theorem dX6_later_35 : decode cX6_later 35 = .ok (.iload_n 1, 1) := by decide +kernel
theorem dX6_later_36 : decode cX6_later 36 = .ok (.iload_n 2, 1) := by decide +kernel
theorem dX6_later_37 : decode cX6_later 37 = .ok (.invokestatic 82, 3) := by decide +kernel
theorem dX6_later_40 : decode cX6_later 40 = .ok (.invokevirtual 104, 3) := by decide +kernel
theorem dX6_later_43 : decode cX6_later 43 = .ok (.aload_n 0, 1) := by decide +kernel
theorem dX6_later_44 : decode cX6_later 44 = .ok (.getfield 19, 3) := by decide +kernel
theorem dX6_later_47 : decode cX6_later 47 = .ok (.getfield 112, 3) := by decide +kernel
theorem dX6_later_50 : decode cX6_later 50 = .ok (.iload_n 3, 1) := by decide +kernel
theorem dX6_later_51 : decode cX6_later 51 = .ok (.iadd, 1) := by decide +kernel
theorem dX6_later_52 : decode cX6_later 52 = .ok (.invokevirtual 115, 3) := by decide +kernel
theorem dX6_later_55 : decode cX6_later 55 = .ok (.ireturn, 1) := by decide +kernel
set_option maxHeartbeats 4000000 in
set_option maxRecDepth 100000 in
theorem cF_later (l : Launch) (E : fd_E) (fu : Nat) (S : fd_S) (x1 : Int32) (x2 : Int32) (x3 : Int32) {r0 : Int32} (hf : zF_later fu S x1 x2 x3 = some r0) : fd_Ct l yX6_later cX6_later 4 (some .int) (fd_rm 2 49) E S [.ref (E.2.2 69), .int x1, .int x2, .int x3] (some (.int r0)) S := by
  unfold zF_later at hf
  refine fd_Ct_of (by decide +kernel) (Nat.le_of_ble_eq_true rfl) ?_
  intro p e s m below meth c ls C hr hlk hH hl
  have hx := C.1
  have hb := C.2.1
  have hl : lv_has ls 4 [(0, .ref (E.2.2 69)), (1, .int x1), (2, .int x2), (3, .int x3)] := hl
  refine lv_iload_n hx hb dX6_later_0 rfl (lv_at hl 1 rfl) ?_
  refine lv_iload_n hx hb dX6_later_1 rfl (lv_at hl 2 rfl) ?_
  refine fd_callS1 [.int x1, .int x2] C hl.1 hH (cF_isRoute l E S x1 x2) wm_X6_78 ⟨rfl, rfl, Nat.le_of_ble_eq_true rfl, Nat.le_of_ble_eq_true rfl⟩ rfl rfl (Nat.le_of_ble_eq_true rfl) ⟨Nat.le_refl _, Nat.le_refl _⟩ dX6_later_2 (fun H locs hH => ?_)
  refine lv_if_ne (tgt := 10) hx hb dX6_later_5 (by decide) (fun c1 => ?_) (fun c1 => ?_)
  · have hf := fd_ifn c1 hf
    refine lv_iload_n hx hb dX6_later_10 rfl (lv_at hl 3 rfl) ?_
    refine lv_iconst (v := (0 : Int32)) hx hb dX6_later_11 (by decide) ?_
    refine lv_sipush (v := (2000 : Int32)) hx hb dX6_later_12 (by decide) ?_
    refine fd_callS1 [.int x3, .int (0 : Int32), .int (2000 : Int32)] C hl.1 hH (cF_isWithin l E S x3 (0 : Int32) (2000 : Int32)) wm_X6_33 ⟨rfl, rfl, Nat.le_of_ble_eq_true rfl, Nat.le_of_ble_eq_true rfl⟩ rfl rfl (Nat.le_of_ble_eq_true rfl) ⟨Nat.le_refl _, Nat.le_refl _⟩ dX6_later_15 (fun H locs hH => ?_)
    refine lv_if_ne (tgt := 24) hx hb dX6_later_18 (by decide) (fun c2 => ?_) (fun c2 => ?_)
    · have hf := fd_ifn c2 hf
      refine lv_aload_n hx hb dX6_later_24 rfl (lv_at hl 0 rfl) ?_
      refine fd_get 69 6 1 C hH (by decide) rfl (by decide) (by decide) wf_X6_19 (v := .ref (E.2.2 0)) rfl dX6_later_25 ?_
      refine lv_aload_n hx hb dX6_later_28 rfl (lv_at hl 0 rfl) ?_
      refine fd_get 69 6 1 C hH (by decide) rfl (by decide) (by decide) wf_X6_19 (v := .ref (E.2.2 0)) rfl dX6_later_29 ?_
      refine fd_get 0 4 1 C hH (by decide) rfl (by decide) (by decide) wf_X6_95 (v := .ref (E.2.2 3)) rfl dX6_later_32 ?_
      refine lv_iload_n hx hb dX6_later_35 rfl (lv_at hl 1 rfl) ?_
      refine lv_iload_n hx hb dX6_later_36 rfl (lv_at hl 2 rfl) ?_
      refine fd_callS1 [.int x1, .int x2] C hl.1 hH (cF_routeOf l E S x1 x2) wm_X6_82 ⟨rfl, rfl, Nat.le_of_ble_eq_true rfl, Nat.le_of_ble_eq_true rfl⟩ rfl rfl (Nat.le_of_ble_eq_true rfl) ⟨Nat.le_refl _, Nat.le_refl _⟩ dX6_later_37 (fun H locs hH => ?_)
      obtain ⟨r3, e4, hf⟩ := fd_bnd hf
      refine fd_callV1 3 2 [.int (zF_routeOf x1 x2)] C hl.1 hH (cQ_find l E fu S (zF_routeOf x1 x2) e4) wm_X6_104 (by decide) rfl (by decide) rfl ⟨rfl, rfl, Nat.le_of_ble_eq_true rfl, Nat.le_of_ble_eq_true rfl⟩ rfl rfl (Nat.le_of_ble_eq_true rfl) ⟨Nat.le_refl _, Nat.le_refl _⟩ dX6_later_40 (fun H locs hH => ?_)
      refine lv_aload_n hx hb dX6_later_43 rfl (lv_at hl 0 rfl) ?_
      refine fd_get 69 6 1 C hH (by decide) rfl (by decide) (by decide) wf_X6_19 (v := .ref (E.2.2 0)) rfl dX6_later_44 ?_
      refine fd_get 0 4 6 C hH (by decide) rfl (by decide) (by decide) wf_X6_112 (v := .int (S 0 (6 : Int32))) rfl dX6_later_47 ?_
      refine lv_iload_n hx hb dX6_later_50 rfl (lv_at hl 3 rfl) ?_
      refine lv_iadd hx hb dX6_later_51 ?_
      obtain ⟨r5, e6, hf⟩ := fd_bnd hf
      refine fd_callV1 0 4 [fd_rv E r3, .int ((S 0 (6 : Int32)) + x3)] C hl.1 hH (cS_penaltyAt l E S r3 ((S 0 (6 : Int32)) + x3) e6) wm_X6_115 (by decide) rfl (by decide) rfl ⟨rfl, rfl, Nat.le_of_ble_eq_true rfl, Nat.le_of_ble_eq_true rfl⟩ rfl rfl (Nat.le_of_ble_eq_true rfl) ⟨Nat.le_refl _, Nat.le_refl _⟩ dX6_later_52 (fun H locs hH => ?_)
      cases hf
      exact fd_iret C hr hlk hH dX6_later_55
    · have hf := fd_ifp c2 hf
      refine lv_bipush (v := (-2 : Int32)) hx hb dX6_later_21 (by decide) ?_
      cases hf
      exact fd_iret C hr hlk hH dX6_later_23
  · have hf := fd_ifp c1 hf
    refine lv_iconst (v := (-1 : Int32)) hx hb dX6_later_8 (by decide) ?_
    cases hf
    exact fd_iret C hr hlk hH dX6_later_9
theorem dX6_when_0 : decode cX6_when 0 = .ok (.iload_n 1, 1) := by decide +kernel
theorem dX6_when_1 : decode cX6_when 1 = .ok (.iload_n 2, 1) := by decide +kernel
theorem dX6_when_2 : decode cX6_when 2 = .ok (.invokestatic 78, 3) := by decide +kernel
theorem dX6_when_5 : decode cX6_when 5 = .ok (.ifCond .ne 5, 3) := by decide +kernel
theorem dX6_when_8 : decode cX6_when 8 = .ok (.iconst (-1), 1) := by decide +kernel
theorem dX6_when_9 : decode cX6_when 9 = .ok (.ireturn, 1) := by decide +kernel
theorem dX6_when_10 : decode cX6_when 10 = .ok (.aload_n 0, 1) := by decide +kernel
theorem dX6_when_11 : decode cX6_when 11 = .ok (.getfield 19, 3) := by decide +kernel
theorem dX6_when_14 : decode cX6_when 14 = .ok (.aload_n 0, 1) := by decide +kernel
theorem dX6_when_15 : decode cX6_when 15 = .ok (.getfield 19, 3) := by decide +kernel
theorem dX6_when_18 : decode cX6_when 18 = .ok (.getfield 95, 3) := by decide +kernel
theorem dX6_when_21 : decode cX6_when 21 = .ok (.iload_n 1, 1) := by decide +kernel
theorem dX6_when_22 : decode cX6_when 22 = .ok (.iload_n 2, 1) := by decide +kernel
theorem dX6_when_23 : decode cX6_when 23 = .ok (.invokestatic 82, 3) := by decide +kernel
theorem dX6_when_26 : decode cX6_when 26 = .ok (.invokevirtual 104, 3) := by decide +kernel
theorem dX6_when_29 : decode cX6_when 29 = .ok (.invokevirtual 118, 3) := by decide +kernel
theorem dX6_when_32 : decode cX6_when 32 = .ok (.ireturn, 1) := by decide +kernel
set_option maxHeartbeats 4000000 in
set_option maxRecDepth 100000 in
theorem cF_when (l : Launch) (E : fd_E) (fu : Nat) (S : fd_S) (x1 : Int32) (x2 : Int32) {r0 : Int32} (hf : zF_when fu S x1 x2 = some r0) : fd_Ct l yX6_when cX6_when 3 (some .int) (fd_rm 4 98) E S [.ref (E.2.2 69), .int x1, .int x2] (some (.int r0)) S := by
  unfold zF_when at hf
  refine fd_Ct_of (by decide +kernel) (Nat.le_of_ble_eq_true rfl) ?_
  intro p e s m below meth c ls C hr hlk hH hl
  have hx := C.1
  have hb := C.2.1
  have hl : lv_has ls 3 [(0, .ref (E.2.2 69)), (1, .int x1), (2, .int x2)] := hl
  refine lv_iload_n hx hb dX6_when_0 rfl (lv_at hl 1 rfl) ?_
  refine lv_iload_n hx hb dX6_when_1 rfl (lv_at hl 2 rfl) ?_
  refine fd_callS1 [.int x1, .int x2] C hl.1 hH (cF_isRoute l E S x1 x2) wm_X6_78 ⟨rfl, rfl, Nat.le_of_ble_eq_true rfl, Nat.le_of_ble_eq_true rfl⟩ rfl rfl (Nat.le_of_ble_eq_true rfl) ⟨Nat.le_refl _, Nat.le_refl _⟩ dX6_when_2 (fun H locs hH => ?_)
  refine lv_if_ne (tgt := 10) hx hb dX6_when_5 (by decide) (fun c1 => ?_) (fun c1 => ?_)
  · have hf := fd_ifn c1 hf
    refine lv_aload_n hx hb dX6_when_10 rfl (lv_at hl 0 rfl) ?_
    refine fd_get 69 6 1 C hH (by decide) rfl (by decide) (by decide) wf_X6_19 (v := .ref (E.2.2 0)) rfl dX6_when_11 ?_
    refine lv_aload_n hx hb dX6_when_14 rfl (lv_at hl 0 rfl) ?_
    refine fd_get 69 6 1 C hH (by decide) rfl (by decide) (by decide) wf_X6_19 (v := .ref (E.2.2 0)) rfl dX6_when_15 ?_
    refine fd_get 0 4 1 C hH (by decide) rfl (by decide) (by decide) wf_X6_95 (v := .ref (E.2.2 3)) rfl dX6_when_18 ?_
    refine lv_iload_n hx hb dX6_when_21 rfl (lv_at hl 1 rfl) ?_
    refine lv_iload_n hx hb dX6_when_22 rfl (lv_at hl 2 rfl) ?_
    refine fd_callS1 [.int x1, .int x2] C hl.1 hH (cF_routeOf l E S x1 x2) wm_X6_82 ⟨rfl, rfl, Nat.le_of_ble_eq_true rfl, Nat.le_of_ble_eq_true rfl⟩ rfl rfl (Nat.le_of_ble_eq_true rfl) ⟨Nat.le_refl _, Nat.le_refl _⟩ dX6_when_23 (fun H locs hH => ?_)
    obtain ⟨r2, e3, hf⟩ := fd_bnd hf
    refine fd_callV1 3 2 [.int (zF_routeOf x1 x2)] C hl.1 hH (cQ_find l E fu S (zF_routeOf x1 x2) e3) wm_X6_104 (by decide) rfl (by decide) rfl ⟨rfl, rfl, Nat.le_of_ble_eq_true rfl, Nat.le_of_ble_eq_true rfl⟩ rfl rfl (Nat.le_of_ble_eq_true rfl) ⟨Nat.le_refl _, Nat.le_refl _⟩ dX6_when_26 (fun H locs hH => ?_)
    obtain ⟨r4, e5, hf⟩ := fd_bnd hf
    refine fd_callV1 0 4 [fd_rv E r2] C hl.1 hH (cS_letGoAt l E fu S r2 e5) wm_X6_118 (by decide) rfl (by decide) rfl ⟨rfl, rfl, Nat.le_of_ble_eq_true rfl, Nat.le_of_ble_eq_true rfl⟩ rfl rfl (Nat.le_of_ble_eq_true rfl) ⟨Nat.le_refl _, Nat.le_refl _⟩ dX6_when_29 (fun H locs hH => ?_)
    cases hf
    exact fd_iret C hr hlk hH dX6_when_32
  · have hf := fd_ifp c1 hf
    refine lv_iconst (v := (-1 : Int32)) hx hb dX6_when_8 (by decide) ?_
    cases hf
    exact fd_iret C hr hlk hH dX6_when_9
theorem dX6_longest_0 : decode cX6_longest 0 = .ok (.aload_n 0, 1) := by decide +kernel
theorem dX6_longest_1 : decode cX6_longest 1 = .ok (.getfield 19, 3) := by decide +kernel
theorem dX6_longest_4 : decode cX6_longest 4 = .ok (.getfield 65, 3) := by decide +kernel
theorem dX6_longest_7 : decode cX6_longest 7 = .ok (.astore_n 1, 1) := by decide +kernel
theorem dX6_longest_8 : decode cX6_longest 8 = .ok (.iconst 0, 1) := by decide +kernel
theorem dX6_longest_9 : decode cX6_longest 9 = .ok (.istore_n 2, 1) := by decide +kernel
theorem dX6_longest_10 : decode cX6_longest 10 = .ok (.iload_n 2, 1) := by decide +kernel
theorem dX6_longest_11 : decode cX6_longest 11 = .ok (.sipush 5000, 3) := by decide +kernel
theorem dX6_longest_14 : decode cX6_longest 14 = .ok (.if_icmp .gt 32, 3) := by decide +kernel
theorem dX6_longest_17 : decode cX6_longest 17 = .ok (.aload_n 1, 1) := by decide +kernel
theorem dX6_longest_18 : decode cX6_longest 18 = .ok (.aload_n 1, 1) := by decide +kernel
theorem dX6_longest_19 : decode cX6_longest 19 = .ok (.getfield 75, 3) := by decide +kernel
theorem dX6_longest_22 : decode cX6_longest 22 = .ok (.bipush 6, 2) := by decide +kernel
theorem dX6_longest_24 : decode cX6_longest 24 = .ok (.iaload, 1) := by decide +kernel
theorem dX6_longest_25 : decode cX6_longest 25 = .ok (.iload_n 2, 1) := by decide +kernel
theorem dX6_longest_26 : decode cX6_longest 26 = .ok (.invokevirtual 122, 3) := by decide +kernel
theorem dX6_longest_29 : decode cX6_longest 29 = .ok (.aload_n 1, 1) := by decide +kernel
theorem dX6_longest_30 : decode cX6_longest 30 = .ok (.getfield 75, 3) := by decide +kernel
theorem dX6_longest_33 : decode cX6_longest 33 = .ok (.iconst 5, 1) := by decide +kernel
theorem dX6_longest_34 : decode cX6_longest 34 = .ok (.iaload, 1) := by decide +kernel
theorem dX6_longest_35 : decode cX6_longest 35 = .ok (.if_icmp .ge 5, 3) := by decide +kernel
theorem dX6_longest_38 : decode cX6_longest 38 = .ok (.iload_n 2, 1) := by decide +kernel
theorem dX6_longest_39 : decode cX6_longest 39 = .ok (.ireturn, 1) := by decide +kernel
theorem dX6_longest_40 : decode cX6_longest 40 = .ok (.iinc 2 1, 3) := by decide +kernel
theorem dX6_longest_43 : decode cX6_longest 43 = .ok (.goto (-33), 3) := by decide +kernel
theorem dX6_longest_46 : decode cX6_longest 46 = .ok (.bipush (-6), 2) := by decide +kernel
theorem dX6_longest_48 : decode cX6_longest 48 = .ok (.ireturn, 1) := by decide +kernel
set_option maxHeartbeats 4000000 in
set_option maxRecDepth 100000 in
theorem wF_longest_10 {p : Program} {l : Launch} {e : Env} {s : State} {m : MethodId} {args : Array Value} {below : List Frame} {meth : Method} {c : Code} {E : fd_E} (C : fd_C p s m args c yX6_longest.cls cX6_longest 3 E) (hr : meth.sig.returnType = (some .int)) (hlk : meth.locks = false) (fu : Nat) {r0 : Int32} : ∀ (n : Nat) (S : fd_S) (x2 : Int32) (H : Heap) (locs : List Loc) (ls : Array Slot), zF_longest_10 fu n S x2 = some r0 → fd_H E S s H locs → lv_has ls 3 [(1, .ref (E.2.2 1)), (2, .int x2)] → W p l e (fd_rm 1 27) s m args below meth c H locs 0 0 (MQ below (fd_Q E (some (.int r0)) S) args s 0 0 (fd_A E)) (F0 m 10 ls []) := by
  have hx := C.1
  have hb := C.2.1
  intro n
  induction n with
  | zero =>
    intro S x2 H locs ls hf
    rw [zF_longest_10] at hf
    cases hf
  | succ n ih =>
    intro S x2 H locs ls hf hH hl
    rw [zF_longest_10] at hf
    refine lv_iload_n hx hb dX6_longest_10 rfl (lv_at hl 1 rfl) ?_
    refine lv_sipush (v := (5000 : Int32)) hx hb dX6_longest_11 (by decide) ?_
    refine lv_icmp_gt (tgt := 46) hx hb dX6_longest_14 (by decide) (fun c1 => ?_) (fun c1 => ?_)
    · have hf := fd_ifp c1 hf
      refine lv_bipush (v := (-6 : Int32)) hx hb dX6_longest_46 (by decide) ?_
      cases hf
      exact fd_iret C hr hlk hH dX6_longest_48
    · have hf := fd_ifn c1 hf
      refine lv_aload_n hx hb dX6_longest_17 rfl (lv_at hl 0 rfl) ?_
      refine lv_aload_n hx hb dX6_longest_18 rfl (lv_at hl 0 rfl) ?_
      refine fd_get 1 0 0 C hH (by decide) rfl (by decide) (by decide) wf_X6_75 (v := .ref (E.2.2 2)) rfl dX6_longest_19 ?_
      refine lv_bipush (v := (6 : Int32)) hx hb dX6_longest_22 (by decide) ?_
      refine fd_iald 2 (7 : Int32) C hH (by decide) rfl rfl (by decide) dX6_longest_24 ?_
      refine lv_iload_n hx hb dX6_longest_25 rfl (lv_at hl 1 rfl) ?_
      obtain ⟨r2, e3, hf⟩ := fd_bnd hf
      refine fd_callV1 1 0 [.int (S 2 (6 : Int32)), .int x2] C hl.1 hH (cB_lessened l E S (S 2 (6 : Int32)) x2 e3) wm_X6_122 (by decide) rfl (by decide) rfl ⟨rfl, rfl, Nat.le_of_ble_eq_true rfl, Nat.le_of_ble_eq_true rfl⟩ rfl rfl (Nat.le_of_ble_eq_true rfl) ⟨Nat.le_refl _, Nat.le_refl _⟩ dX6_longest_26 (fun H locs hH => ?_)
      refine lv_aload_n hx hb dX6_longest_29 rfl (lv_at hl 0 rfl) ?_
      refine fd_get 1 0 0 C hH (by decide) rfl (by decide) (by decide) wf_X6_75 (v := .ref (E.2.2 2)) rfl dX6_longest_30 ?_
      refine lv_iconst (v := (5 : Int32)) hx hb dX6_longest_33 (by decide) ?_
      refine fd_iald 2 (7 : Int32) C hH (by decide) rfl rfl (by decide) dX6_longest_34 ?_
      refine lv_icmp_ge (tgt := 40) hx hb dX6_longest_35 (by decide) (fun c4 => ?_) (fun c4 => ?_)
      · have hf := fd_ifp c4 hf
        obtain ⟨y5, ey5, hf⟩ := fd_ltS hf
        refine lv_iinc (v := y5) (lv' := [(2, .int y5), (1, .ref (E.2.2 1))]) hx hb dX6_longest_40 hl (k := 1) rfl (by rw [ey5]; rfl) (by decide) rfl (fun ls hl => ?_)
        refine lv_goto (tgt := 10) hx hb dX6_longest_43 (by decide) ?_
        exact ih S y5 _ _ _ hf hH (lv_sub hl [1, 0] rfl)
      · have hf := fd_ifn c4 hf
        refine lv_iload_n hx hb dX6_longest_38 rfl (lv_at hl 1 rfl) ?_
        cases hf
        exact fd_iret C hr hlk hH dX6_longest_39
set_option maxHeartbeats 4000000 in
set_option maxRecDepth 100000 in
theorem cF_longest (l : Launch) (E : fd_E) (fu : Nat) (S : fd_S) {r0 : Int32} (hf : zF_longest fu S = some r0) : fd_Ct l yX6_longest cX6_longest 3 (some .int) (fd_rm 1 27) E S [.ref (E.2.2 69)] (some (.int r0)) S := by
  unfold zF_longest at hf
  refine fd_Ct_of (by decide +kernel) (Nat.le_of_ble_eq_true rfl) ?_
  intro p e s m below meth c ls C hr hlk hH hl
  have hx := C.1
  have hb := C.2.1
  have hl : lv_has ls 3 [(0, .ref (E.2.2 69))] := hl
  refine lv_aload_n hx hb dX6_longest_0 rfl (lv_at hl 0 rfl) ?_
  refine fd_get 69 6 1 C hH (by decide) rfl (by decide) (by decide) wf_X6_19 (v := .ref (E.2.2 0)) rfl dX6_longest_1 ?_
  refine fd_get 0 4 0 C hH (by decide) rfl (by decide) (by decide) wf_X6_65 (v := .ref (E.2.2 1)) rfl dX6_longest_4 ?_
  refine lv_astore_n (lv' := [(1, .ref (E.2.2 1)), (0, .ref (E.2.2 69))]) hx hb dX6_longest_7 rfl hl (by decide) rfl (fun ls hl => ?_)
  refine lv_iconst (v := (0 : Int32)) hx hb dX6_longest_8 (by decide) ?_
  refine lv_istore_n (lv' := [(2, .int (0 : Int32)), (1, .ref (E.2.2 1)), (0, .ref (E.2.2 69))]) hx hb dX6_longest_9 rfl hl (by decide) rfl (fun ls hl => ?_)
  exact wF_longest_10 C hr hlk fu fu S (0 : Int32) _ _ _ hf hH (lv_sub hl [1, 0] rfl)
