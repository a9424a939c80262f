theorem dX4_weigh_0 : decode cX4_weigh 0 = .ok (.iload_n 2, 1) := by decide +kernel
theorem dX4_weigh_1 : decode cX4_weigh 1 = .ok (.bipush (-6), 2) := by decide +kernel
theorem dX4_weigh_3 : decode cX4_weigh 3 = .ok (.if_icmp .ne 13, 3) := by decide +kernel
theorem dX4_weigh_6 : decode cX4_weigh 6 = .ok (.aload_n 0, 1) := by decide +kernel
theorem dX4_weigh_7 : decode cX4_weigh 7 = .ok (.getfield 12, 3) := by decide +kernel
theorem dX4_weigh_10 : decode cX4_weigh 10 = .ok (.getfield 68, 3) := by decide +kernel
theorem dX4_weigh_13 : decode cX4_weigh 13 = .ok (.iconst 2, 1) := by decide +kernel
theorem dX4_weigh_14 : decode cX4_weigh 14 = .ok (.iaload, 1) := by decide +kernel
theorem dX4_weigh_15 : decode cX4_weigh 15 = .ok (.ireturn, 1) := by decide +kernel
theorem dX4_weigh_16 : decode cX4_weigh 16 = .ok (.iload_n 1, 1) := by decide +kernel
theorem dX4_weigh_17 : decode cX4_weigh 17 = .ok (.bipush (-6), 2) := by decide +kernel
theorem dX4_weigh_19 : decode cX4_weigh 19 = .ok (.if_icmp .ne 7, 3) := by decide +kernel
theorem dX4_weigh_22 : decode cX4_weigh 22 = .ok (.iconst 0, 1) := by decide +kernel
theorem dX4_weigh_23 : decode cX4_weigh 23 = .ok (.goto 12, 3) := by decide +kernel
theorem dX4_weigh_26 : decode cX4_weigh 26 = .ok (.aload_n 0, 1) := by decide +kernel
theorem dX4_weigh_27 : decode cX4_weigh 27 = .ok (.getfield 12, 3) := by decide +kernel
theorem dX4_weigh_30 : decode cX4_weigh 30 = .ok (.getfield 68, 3) := by decide +kernel
theorem dX4_weigh_33 : decode cX4_weigh 33 = .ok (.iconst 3, 1) := by decide +kernel
theorem dX4_weigh_34 : decode cX4_weigh 34 = .ok (.iaload, 1) := by decide +kernel
theorem dX4_weigh_35 : decode cX4_weigh 35 = .ok (.ireturn, 1) := by decide +kernel
set_option maxHeartbeats 4000000 in
set_option maxRecDepth 100000 in
theorem cS_weigh (l : Launch) (E : fd_E) (S : fd_S) (x1 : Int32) (x2 : Int32) : fd_Ct l yX4_weigh cX4_weigh 3 (some .int) (fd_rm 0 0) E S [.ref (E.2.2 0), .int x1, .int x2] (some (.int (zS_weigh S x1 x2))) S := by
  generalize hf : zS_weigh S x1 x2 = r0
  unfold zS_weigh at hf
  refine fd_Ct_of (by decide +kernel) (Nat.le_of_ble_eq_true rfl) ?_
  intro p e s m below meth c ls C hr hlk hH hl
  have hx := C.1
  have hb := C.2.1
  have hl : lv_has ls 3 [(0, .ref (E.2.2 0)), (1, .int x1), (2, .int x2)] := hl
  refine lv_iload_n hx hb dX4_weigh_0 rfl (lv_at hl 2 rfl) ?_
  refine lv_bipush (v := (-6 : Int32)) hx hb dX4_weigh_1 (by decide) ?_
  refine lv_icmp_ne (tgt := 16) hx hb dX4_weigh_3 (by decide) (fun c1 => ?_) (fun c1 => ?_)
  · have hf := fd_ifn c1 hf
    refine lv_iload_n hx hb dX4_weigh_16 rfl (lv_at hl 1 rfl) ?_
    refine lv_bipush (v := (-6 : Int32)) hx hb dX4_weigh_17 (by decide) ?_
    refine lv_icmp_ne (tgt := 26) hx hb dX4_weigh_19 (by decide) (fun c2 => ?_) (fun c2 => ?_)
    · have hf := fd_ifn c2 hf
      refine lv_aload_n hx hb dX4_weigh_26 rfl (lv_at hl 0 rfl) ?_
      refine fd_get 0 4 0 C hH (by decide) rfl (by decide) (by decide) wf_X4_12 (v := .ref (E.2.2 1)) rfl dX4_weigh_27 ?_
      refine fd_get 1 0 0 C hH (by decide) rfl (by decide) (by decide) wf_X4_68 (v := .ref (E.2.2 2)) rfl dX4_weigh_30 ?_
      refine lv_iconst (v := (3 : Int32)) hx hb dX4_weigh_33 (by decide) ?_
      refine fd_iald 2 (7 : Int32) C hH (by decide) rfl rfl (by decide) dX4_weigh_34 ?_
      cases hf
      exact fd_iret C hr hlk hH dX4_weigh_35
    · have hf := fd_ifp c2 hf
      refine lv_iconst (v := (0 : Int32)) hx hb dX4_weigh_22 (by decide) ?_
      refine lv_goto (tgt := 35) hx hb dX4_weigh_23 (by decide) ?_
      cases hf
      exact fd_iret C hr hlk hH dX4_weigh_35
  · have hf := fd_ifp c1 hf
    refine lv_aload_n hx hb dX4_weigh_6 rfl (lv_at hl 0 rfl) ?_
    refine fd_get 0 4 0 C hH (by decide) rfl (by decide) (by decide) wf_X4_12 (v := .ref (E.2.2 1)) rfl dX4_weigh_7 ?_
    refine fd_get 1 0 0 C hH (by decide) rfl (by decide) (by decide) wf_X4_68 (v := .ref (E.2.2 2)) rfl dX4_weigh_10 ?_
    refine lv_iconst (v := (2 : Int32)) hx hb dX4_weigh_13 (by decide) ?_
    refine fd_iald 2 (7 : Int32) C hH (by decide) rfl rfl (by decide) dX4_weigh_14 ?_
    cases hf
    exact fd_iret C hr hlk hH dX4_weigh_15
theorem dX4_penaltyAt_0 : decode cX4_penaltyAt 0 = .ok (.aload_n 1, 1) := by decide +kernel
theorem dX4_penaltyAt_1 : decode cX4_penaltyAt 1 = .ok (.ifnonnull 7, 3) := by decide +kernel
theorem dX4_penaltyAt_4 : decode cX4_penaltyAt 4 = .ok (.iconst 0, 1) := by decide +kernel
theorem dX4_penaltyAt_5 : decode cX4_penaltyAt 5 = .ok (.goto 20, 3) := by decide +kernel
theorem dX4_penaltyAt_8 : decode cX4_penaltyAt 8 = .ok (.aload_n 0, 1) := by decide +kernel
theorem dX4_penaltyAt_9 : decode cX4_penaltyAt 9 = .ok (.getfield 12, 3) := by decide +kernel
theorem dX4_penaltyAt_12 : decode cX4_penaltyAt 12 = .ok (.aload_n 1, 1) := by decide +kernel
theorem dX4_penaltyAt_13 : decode cX4_penaltyAt 13 = .ok (.getfield 107, 3) := by decide +kernel
theorem dX4_penaltyAt_16 : decode cX4_penaltyAt 16 = .ok (.iload_n 2, 1) := by decide +kernel
theorem dX4_penaltyAt_17 : decode cX4_penaltyAt 17 = .ok (.aload_n 1, 1) := by decide +kernel
theorem dX4_penaltyAt_18 : decode cX4_penaltyAt 18 = .ok (.getfield 110, 3) := by decide +kernel
theorem dX4_penaltyAt_21 : decode cX4_penaltyAt 21 = .ok (.isub, 1) := by decide +kernel
theorem dX4_penaltyAt_22 : decode cX4_penaltyAt 22 = .ok (.invokevirtual 136, 3) := by decide +kernel
theorem dX4_penaltyAt_25 : decode cX4_penaltyAt 25 = .ok (.ireturn, 1) := by decide +kernel
set_option maxHeartbeats 4000000 in
set_option maxRecDepth 100000 in
theorem cS_penaltyAt (l : Launch) (E : fd_E) (S : fd_S) (o1 : (Option Nat)) (x2 : Int32) {r0 : Int32} (hf : zS_penaltyAt S o1 x2 = some r0) : fd_Ct l yX4_penaltyAt cX4_penaltyAt 3 (some .int) (fd_rm 1 27) E S [.ref (E.2.2 0), fd_rv E o1, .int x2] (some (.int r0)) S := by
  unfold zS_penaltyAt at hf
  cases o1 with
  | none =>
    have hf := fd_on_n hf
    refine fd_Ct_of (by decide +kernel) (Nat.le_of_ble_eq_true rfl) ?_
    intro p e s m below meth c ls C hr hlk hH hl
    have hx := C.1
    have hb := C.2.1
    have hl : lv_has ls 3 [(0, .ref (E.2.2 0)), (1, .null), (2, .int x2)] := hl
    refine lv_aload_nN hx hb dX4_penaltyAt_0 rfl (lv_at hl 1 rfl) ?_
    refine lv_ifnonnullN hx hb dX4_penaltyAt_1 ?_
    refine lv_iconst (v := (0 : Int32)) hx hb dX4_penaltyAt_4 (by decide) ?_
    refine lv_goto (tgt := 25) hx hb dX4_penaltyAt_5 (by decide) ?_
    cases hf
    exact fd_iret C hr hlk hH dX4_penaltyAt_25
  | some k1 =>
    have hf := fd_on_s hf
    refine fd_Ct_of (by decide +kernel) (Nat.le_of_ble_eq_true rfl) ?_
    intro p e s m below meth c ls C hr hlk hH hl
    have hx := C.1
    have hb := C.2.1
    have hl : lv_has ls 3 [(0, .ref (E.2.2 0)), (1, .ref (E.2.2 k1)), (2, .int x2)] := hl
    refine lv_aload_n hx hb dX4_penaltyAt_0 rfl (lv_at hl 1 rfl) ?_
    refine lv_ifnonnull (tgt := 8) hx hb dX4_penaltyAt_1 (by decide) ?_
    refine lv_aload_n hx hb dX4_penaltyAt_8 rfl (lv_at hl 0 rfl) ?_
    refine fd_get 0 4 0 C hH (by decide) rfl (by decide) (by decide) wf_X4_12 (v := .ref (E.2.2 1)) rfl dX4_penaltyAt_9 ?_
    refine lv_aload_n hx hb dX4_penaltyAt_12 rfl (lv_at hl 1 rfl) ?_
    obtain ⟨g1, hf⟩ := fd_grd hf
    refine fd_get k1 3 1 C hH (fd_rk1 g1) (fd_rk3 g1) (by decide) (by decide) wf_X4_107 (v := .int (S k1 (1 : Int32))) rfl dX4_penaltyAt_13 ?_
    refine lv_iload_n hx hb dX4_penaltyAt_16 rfl (lv_at hl 2 rfl) ?_
    refine lv_aload_n hx hb dX4_penaltyAt_17 rfl (lv_at hl 1 rfl) ?_
    refine fd_get k1 3 2 C hH (fd_rk1 g1) (fd_rk3 g1) (by decide) (by decide) wf_X4_110 (v := .int (S k1 (2 : Int32))) rfl dX4_penaltyAt_18 ?_
    refine lv_isub hx hb dX4_penaltyAt_21 ?_
    obtain ⟨r2, e3, hf⟩ := fd_bnd hf
    refine fd_callV1 1 0 [.int (S k1 (1 : Int32)), .int (x2 - (S k1 (2 : Int32)))] C hl.1 hH (cB_lessened l E S (S k1 (1 : Int32)) (x2 - (S k1 (2 : Int32))) e3) wm_X4_136 (by decide) rfl (by decide) rfl ⟨rfl, rfl, Nat.le_of_ble_eq_true rfl, Nat.le_of_ble_eq_true rfl⟩ rfl rfl (Nat.le_of_ble_eq_true rfl) ⟨Nat.le_refl _, Nat.le_refl _⟩ dX4_penaltyAt_22 (fun H locs hH => ?_)
    cases hf
    exact fd_iret C hr hlk hH dX4_penaltyAt_25
theorem dX4_isBelowBack_0 : decode cX4_isBelowBack 0 = .ok (.aload_n 0, 1) := by decide +kernel
theorem dX4_isBelowBack_1 : decode cX4_isBelowBack 1 = .ok (.getfield 12, 3) := by decide +kernel
theorem dX4_isBelowBack_4 : decode cX4_isBelowBack 4 = .ok (.aload_n 1, 1) := by decide +kernel
theorem dX4_isBelowBack_5 : decode cX4_isBelowBack 5 = .ok (.getfield 107, 3) := by decide +kernel
theorem dX4_isBelowBack_8 : decode cX4_isBelowBack 8 = .ok (.iload_n 2, 1) := by decide +kernel
theorem dX4_isBelowBack_9 : decode cX4_isBelowBack 9 = .ok (.aload_n 1, 1) := by decide +kernel
theorem dX4_isBelowBack_10 : decode cX4_isBelowBack 10 = .ok (.getfield 110, 3) := by decide +kernel
theorem dX4_isBelowBack_13 : decode cX4_isBelowBack 13 = .ok (.isub, 1) := by decide +kernel
theorem dX4_isBelowBack_14 : decode cX4_isBelowBack 14 = .ok (.invokevirtual 136, 3) := by decide +kernel
theorem dX4_isBelowBack_17 : decode cX4_isBelowBack 17 = .ok (.aload_n 0, 1) := by decide +kernel
theorem dX4_isBelowBack_18 : decode cX4_isBelowBack 18 = .ok (.getfield 12, 3) := by decide +kernel
theorem dX4_isBelowBack_21 : decode cX4_isBelowBack 21 = .ok (.getfield 68, 3) := by decide +kernel
theorem dX4_isBelowBack_24 : decode cX4_isBelowBack 24 = .ok (.iconst 5, 1) := by decide +kernel
theorem dX4_isBelowBack_25 : decode cX4_isBelowBack 25 = .ok (.iaload, 1) := by decide +kernel
theorem dX4_isBelowBack_26 : decode cX4_isBelowBack 26 = .ok (.if_icmp .ge 7, 3) := by decide +kernel
theorem dX4_isBelowBack_29 : decode cX4_isBelowBack 29 = .ok (.iconst 1, 1) := by decide +kernel
theorem dX4_isBelowBack_30 : decode cX4_isBelowBack 30 = .ok (.goto 4, 3) := by decide +kernel
theorem dX4_isBelowBack_33 : decode cX4_isBelowBack 33 = .ok (.iconst 0, 1) := by decide +kernel
theorem dX4_isBelowBack_34 : decode cX4_isBelowBack 34 = .ok (.ireturn, 1) := by decide +kernel
set_option maxHeartbeats 4000000 in
set_option maxRecDepth 100000 in
theorem cS_isBelowBack (l : Launch) (E : fd_E) (S : fd_S) (k1 : Nat) (x2 : Int32) {r0 : Int32} (hf : zS_isBelowBack S k1 x2 = some r0) : fd_Ct l yX4_isBelowBack cX4_isBelowBack 3 (some .boolean) (fd_rm 1 27) E S [.ref (E.2.2 0), .ref (E.2.2 k1), .int x2] (some (.int r0)) S := by
  unfold zS_isBelowBack at hf
  refine fd_Ct_of (by decide +kernel) (Nat.le_of_ble_eq_true rfl) ?_
  intro p e s m below meth c ls C hr hlk hH hl
  have hx := C.1
  have hb := C.2.1
  have hl : lv_has ls 3 [(0, .ref (E.2.2 0)), (1, .ref (E.2.2 k1)), (2, .int x2)] := hl
  refine lv_aload_n hx hb dX4_isBelowBack_0 rfl (lv_at hl 0 rfl) ?_
  refine fd_get 0 4 0 C hH (by decide) rfl (by decide) (by decide) wf_X4_12 (v := .ref (E.2.2 1)) rfl dX4_isBelowBack_1 ?_
  refine lv_aload_n hx hb dX4_isBelowBack_4 rfl (lv_at hl 1 rfl) ?_
  obtain ⟨g1, hf⟩ := fd_grd hf
  refine fd_get k1 3 1 C hH (fd_rk1 g1) (fd_rk3 g1) (by decide) (by decide) wf_X4_107 (v := .int (S k1 (1 : Int32))) rfl dX4_isBelowBack_5 ?_
  refine lv_iload_n hx hb dX4_isBelowBack_8 rfl (lv_at hl 2 rfl) ?_
  refine lv_aload_n hx hb dX4_isBelowBack_9 rfl (lv_at hl 1 rfl) ?_
  refine fd_get k1 3 2 C hH (fd_rk1 g1) (fd_rk3 g1) (by decide) (by decide) wf_X4_110 (v := .int (S k1 (2 : Int32))) rfl dX4_isBelowBack_10 ?_
  refine lv_isub hx hb dX4_isBelowBack_13 ?_
  obtain ⟨r2, e3, hf⟩ := fd_bnd hf
  refine fd_callV1 1 0 [.int (S k1 (1 : Int32)), .int (x2 - (S k1 (2 : Int32)))] C hl.1 hH (cB_lessened l E S (S k1 (1 : Int32)) (x2 - (S k1 (2 : Int32))) e3) wm_X4_136 (by decide) rfl (by decide) rfl ⟨rfl, rfl, Nat.le_of_ble_eq_true rfl, Nat.le_of_ble_eq_true rfl⟩ rfl rfl (Nat.le_of_ble_eq_true rfl) ⟨Nat.le_refl _, Nat.le_refl _⟩ dX4_isBelowBack_14 (fun H locs hH => ?_)
  refine lv_aload_n hx hb dX4_isBelowBack_17 rfl (lv_at hl 0 rfl) ?_
  refine fd_get 0 4 0 C hH (by decide) rfl (by decide) (by decide) wf_X4_12 (v := .ref (E.2.2 1)) rfl dX4_isBelowBack_18 ?_
  refine fd_get 1 0 0 C hH (by decide) rfl (by decide) (by decide) wf_X4_68 (v := .ref (E.2.2 2)) rfl dX4_isBelowBack_21 ?_
  refine lv_iconst (v := (5 : Int32)) hx hb dX4_isBelowBack_24 (by decide) ?_
  refine fd_iald 2 (7 : Int32) C hH (by decide) rfl rfl (by decide) dX4_isBelowBack_25 ?_
  refine lv_icmp_ge (tgt := 33) hx hb dX4_isBelowBack_26 (by decide) (fun c4 => ?_) (fun c4 => ?_)
  · have hf := fd_ifp c4 hf
    refine lv_iconst (v := (0 : Int32)) hx hb dX4_isBelowBack_33 (by decide) ?_
    cases hf
    exact fd_zret .boolean C hr hlk hH rfl dX4_isBelowBack_34
  · have hf := fd_ifn c4 hf
    refine lv_iconst (v := (1 : Int32)) hx hb dX4_isBelowBack_29 (by decide) ?_
    refine lv_goto (tgt := 34) hx hb dX4_isBelowBack_30 (by decide) ?_
    cases hf
    exact fd_zret .boolean C hr hlk hH rfl dX4_isBelowBack_34
theorem dX4_dueAfter_0 : decode cX4_dueAfter 0 = .ok (.aload_n 0, 1) := by decide +kernel
theorem dX4_dueAfter_1 : decode cX4_dueAfter 1 = .ok (.getfield 12, 3) := by decide +kernel
theorem dX4_dueAfter_4 : decode cX4_dueAfter 4 = .ok (.getfield 68, 3) := by decide +kernel
theorem dX4_dueAfter_7 : decode cX4_dueAfter 7 = .ok (.iconst 1, 1) := by decide +kernel
theorem dX4_dueAfter_8 : decode cX4_dueAfter 8 = .ok (.iaload, 1) := by decide +kernel
theorem dX4_dueAfter_9 : decode cX4_dueAfter 9 = .ok (.iconst 1, 1) := by decide +kernel
theorem dX4_dueAfter_10 : decode cX4_dueAfter 10 = .ok (.invokestatic 139, 3) := by decide +kernel
theorem dX4_dueAfter_13 : decode cX4_dueAfter 13 = .ok (.istore_n 3, 1) := by decide +kernel
theorem dX4_dueAfter_14 : decode cX4_dueAfter 14 = .ok (.iload_n 2, 1) := by decide +kernel
theorem dX4_dueAfter_15 : decode cX4_dueAfter 15 = .ok (.iload_n 2, 1) := by decide +kernel
theorem dX4_dueAfter_16 : decode cX4_dueAfter 16 = .ok (.iload_n 3, 1) := by decide +kernel
theorem dX4_dueAfter_17 : decode cX4_dueAfter 17 = .ok (.irem, 1) := by decide +kernel
theorem dX4_dueAfter_18 : decode cX4_dueAfter 18 = .ok (.isub, 1) := by decide +kernel
theorem dX4_dueAfter_19 : decode cX4_dueAfter 19 = .ok (.istore 4, 2) := by decide +kernel
theorem dX4_dueAfter_21 : decode cX4_dueAfter 21 = .ok (.iconst 0, 1) := by decide +kernel
theorem dX4_dueAfter_22 : decode cX4_dueAfter 22 = .ok (.istore 5, 2) := by decide +kernel
theorem dX4_dueAfter_24 : decode cX4_dueAfter 24 = .ok (.iload 5, 2) := by decide +kernel
theorem dX4_dueAfter_26 : decode cX4_dueAfter 26 = .ok (.bipush 8, 2) := by decide +kernel
theorem dX4_dueAfter_28 : decode cX4_dueAfter 28 = .ok (.if_icmp .ge 28, 3) := by decide +kernel
theorem dX4_dueAfter_31 : decode cX4_dueAfter 31 = .ok (.iload 4, 2) := by decide +kernel
theorem dX4_dueAfter_33 : decode cX4_dueAfter 33 = .ok (.iload_n 3, 1) := by decide +kernel
theorem dX4_dueAfter_34 : decode cX4_dueAfter 34 = .ok (.iadd, 1) := by decide +kernel
theorem dX4_dueAfter_35 : decode cX4_dueAfter 35 = .ok (.istore 4, 2) := by decide +kernel
theorem dX4_dueAfter_37 : decode cX4_dueAfter 37 = .ok (.aload_n 0, 1) := by decide +kernel
theorem dX4_dueAfter_38 : decode cX4_dueAfter 38 = .ok (.aload_n 1, 1) := by decide +kernel
theorem dX4_dueAfter_39 : decode cX4_dueAfter 39 = .ok (.iload 4, 2) := by decide +kernel
theorem dX4_dueAfter_41 : decode cX4_dueAfter 41 = .ok (.invokevirtual 142, 3) := by decide +kernel
theorem dX4_dueAfter_44 : decode cX4_dueAfter 44 = .ok (.ifCond .eq 6, 3) := by decide +kernel
theorem dX4_dueAfter_47 : decode cX4_dueAfter 47 = .ok (.iload 4, 2) := by decide +kernel
theorem dX4_dueAfter_49 : decode cX4_dueAfter 49 = .ok (.ireturn, 1) := by decide +kernel
theorem dX4_dueAfter_50 : decode cX4_dueAfter 50 = .ok (.iinc 5 1, 3) := by decide +kernel
theorem dX4_dueAfter_53 : decode cX4_dueAfter 53 = .ok (.goto (-29), 3) := by decide +kernel
theorem dX4_dueAfter_56 : decode cX4_dueAfter 56 = .ok (.iload 4, 2) := by decide +kernel
theorem dX4_dueAfter_58 : decode cX4_dueAfter 58 = .ok (.ireturn, 1) := by decide +kernel
set_option maxHeartbeats 4000000 in
set_option maxRecDepth 100000 in
theorem wS_dueAfter_24 {p : Program} {l : Launch} {e : Env} {s : State} {m : MethodId} {args : Array Value} {below : List Frame} {meth : Method} {c : Code} {E : fd_E} (C : fd_C p s m args c yX4_dueAfter.cls cX4_dueAfter 6 E) (hr : meth.sig.returnType = (some .int)) (hlk : meth.locks = false) (fu : Nat) {r0 : Int32} : ∀ (n : Nat) (S : fd_S) (k1 : Nat) (x3 : Int32) (x4 : Int32) (x5 : Int32) (H : Heap) (locs : List Loc) (ls : Array Slot), zS_dueAfter_24 fu n S k1 x3 x4 x5 = some r0 → fd_H E S s H locs → lv_has ls 6 [(0, .ref (E.2.2 0)), (1, .ref (E.2.2 k1)), (3, .int x3), (4, .int x4), (5, .int x5)] → W p l e (fd_rm 2 49) s m args below meth c H locs 0 0 (MQ below (fd_Q E (some (.int r0)) S) args s 0 0 (fd_A E)) (F0 m 24 ls []) := by
  have hx := C.1
  have hb := C.2.1
  intro n
  induction n with
  | zero =>
    intro S k1 x3 x4 x5 H locs ls hf
    rw [zS_dueAfter_24] at hf
    cases hf
  | succ n ih =>
    intro S k1 x3 x4 x5 H locs ls hf hH hl
    rw [zS_dueAfter_24] at hf
    refine lv_iload hx hb dX4_dueAfter_24 (lv_at hl 4 rfl) ?_
    refine lv_bipush (v := (8 : Int32)) hx hb dX4_dueAfter_26 (by decide) ?_
    refine lv_icmp_ge (tgt := 56) hx hb dX4_dueAfter_28 (by decide) (fun c4 => ?_) (fun c4 => ?_)
    · have hf := fd_ifp c4 hf
      refine lv_iload hx hb dX4_dueAfter_56 (lv_at hl 3 rfl) ?_
      cases hf
      exact fd_iret C hr hlk hH dX4_dueAfter_58
    · have hf := fd_ifn c4 hf
      refine lv_iload hx hb dX4_dueAfter_31 (lv_at hl 3 rfl) ?_
      refine lv_iload_n hx hb dX4_dueAfter_33 rfl (lv_at hl 2 rfl) ?_
      refine lv_iadd hx hb dX4_dueAfter_34 ?_
      refine lv_topi (fun y5 ey5 => ?_)
      have hf := fd_ltN ey5 hf
      refine lv_istore (lv' := [(4, .int y5), (0, .ref (E.2.2 0)), (1, .ref (E.2.2 k1)), (3, .int x3), (5, .int x5)]) hx hb dX4_dueAfter_35 hl (by decide) rfl (fun ls hl => ?_)
      refine lv_aload_n hx hb dX4_dueAfter_37 rfl (lv_at hl 1 rfl) ?_
      refine lv_aload_n hx hb dX4_dueAfter_38 rfl (lv_at hl 2 rfl) ?_
      refine lv_iload hx hb dX4_dueAfter_39 (lv_at hl 0 rfl) ?_
      obtain ⟨r6, e7, hf⟩ := fd_bnd hf
      refine fd_callV1 0 4 [.ref (E.2.2 k1), .int y5] C hl.1 hH (cS_isBelowBack l E S k1 y5 e7) wm_X4_142 (by decide) rfl (by decide) rfl ⟨rfl, rfl, Nat.le_of_ble_eq_true rfl, Nat.le_of_ble_eq_true rfl⟩ rfl rfl (Nat.le_of_ble_eq_true rfl) ⟨Nat.le_refl _, Nat.le_refl _⟩ dX4_dueAfter_41 (fun H locs hH => ?_)
      refine lv_if_eq (tgt := 50) hx hb dX4_dueAfter_44 (by decide) (fun c8 => ?_) (fun c8 => ?_)
      · have hf := fd_ifp c8 hf
        obtain ⟨y9, ey9, hf⟩ := fd_ltS hf
        refine lv_iinc (v := y9) (lv' := [(5, .int y9), (4, .int y5), (0, .ref (E.2.2 0)), (1, .ref (E.2.2 k1)), (3, .int x3)]) hx hb dX4_dueAfter_50 hl (k := 4) rfl (by rw [ey9]; rfl) (by decide) rfl (fun ls hl => ?_)
        refine lv_goto (tgt := 24) hx hb dX4_dueAfter_53 (by decide) ?_
        exact ih S k1 x3 y5 y9 _ _ _ hf hH (lv_sub hl [2, 3, 4, 1, 0] rfl)
      · have hf := fd_ifn c8 hf
        refine lv_iload hx hb dX4_dueAfter_47 (lv_at hl 0 rfl) ?_
        cases hf
        exact fd_iret C hr hlk hH dX4_dueAfter_49
set_option maxHeartbeats 4000000 in
set_option maxRecDepth 100000 in
theorem cS_dueAfter (l : Launch) (E : fd_E) (fu : Nat) (S : fd_S) (k1 : Nat) (x2 : Int32) {r0 : Int32} (hf : zS_dueAfter fu S k1 x2 = some r0) : fd_Ct l yX4_dueAfter cX4_dueAfter 6 (some .int) (fd_rm 2 49) E S [.ref (E.2.2 0), .ref (E.2.2 k1), .int x2] (some (.int r0)) S := by
  unfold zS_dueAfter at hf
  refine fd_Ct_of (by decide +kernel) (Nat.le_of_ble_eq_true rfl) ?_
  intro p e s m below meth c ls C hr hlk hH hl
  have hx := C.1
  have hb := C.2.1
  have hl : lv_has ls 6 [(0, .ref (E.2.2 0)), (1, .ref (E.2.2 k1)), (2, .int x2)] := hl
  refine lv_aload_n hx hb dX4_dueAfter_0 rfl (lv_at hl 0 rfl) ?_
  refine fd_get 0 4 0 C hH (by decide) rfl (by decide) (by decide) wf_X4_12 (v := .ref (E.2.2 1)) rfl dX4_dueAfter_1 ?_
  refine fd_get 1 0 0 C hH (by decide) rfl (by decide) (by decide) wf_X4_68 (v := .ref (E.2.2 2)) rfl dX4_dueAfter_4 ?_
  refine lv_iconst (v := (1 : Int32)) hx hb dX4_dueAfter_7 (by decide) ?_
  refine fd_iald 2 (7 : Int32) C hH (by decide) rfl rfl (by decide) dX4_dueAfter_8 ?_
  refine lv_iconst (v := (1 : Int32)) hx hb dX4_dueAfter_9 (by decide) ?_
  refine fd_mmax C hl.1 wl_X4_139 fd_wmax (Nat.le_of_ble_eq_true rfl) (Nat.le_of_ble_eq_true rfl) (Nat.le_refl _) (Nat.le_refl _) dX4_dueAfter_10 ?_
  refine lv_topi (fun y1 ey1 => ?_)
  have hf := fd_ltN ey1 hf
  refine lv_istore_n (lv' := [(3, .int y1), (0, .ref (E.2.2 0)), (1, .ref (E.2.2 k1)), (2, .int x2)]) hx hb dX4_dueAfter_13 rfl hl (by decide) rfl (fun ls hl => ?_)
  refine lv_iload_n hx hb dX4_dueAfter_14 rfl (lv_at hl 3 rfl) ?_
  refine lv_iload_n hx hb dX4_dueAfter_15 rfl (lv_at hl 3 rfl) ?_
  refine lv_iload_n hx hb dX4_dueAfter_16 rfl (lv_at hl 0 rfl) ?_
  obtain ⟨g2, hf⟩ := fd_grd hf
  refine fd_irem hx hb dX4_dueAfter_17 g2 ?_
  refine lv_isub hx hb dX4_dueAfter_18 ?_
  refine lv_topi (fun y3 ey3 => ?_)
  have hf := fd_ltN ey3 hf
  refine lv_istore (lv' := [(4, .int y3), (3, .int y1), (0, .ref (E.2.2 0)), (1, .ref (E.2.2 k1)), (2, .int x2)]) hx hb dX4_dueAfter_19 hl (by decide) rfl (fun ls hl => ?_)
  refine lv_iconst (v := (0 : Int32)) hx hb dX4_dueAfter_21 (by decide) ?_
  refine lv_istore (lv' := [(5, .int (0 : Int32)), (4, .int y3), (3, .int y1), (0, .ref (E.2.2 0)), (1, .ref (E.2.2 k1)), (2, .int x2)]) hx hb dX4_dueAfter_22 hl (by decide) rfl (fun ls hl => ?_)
  exact wS_dueAfter_24 C hr hlk fu fu S k1 y1 y3 (0 : Int32) _ _ _ hf hH (lv_sub hl [3, 4, 2, 1, 0] rfl)
theorem dX4_addTo_0 : decode cX4_addTo 0 = .ok (.aload_n 1, 1) := by decide +kernel
theorem dX4_addTo_1 : decode cX4_addTo 1 = .ok (.aload_n 0, 1) := by decide +kernel
theorem dX4_addTo_2 : decode cX4_addTo 2 = .ok (.aload_n 1, 1) := by decide +kernel
theorem dX4_addTo_3 : decode cX4_addTo 3 = .ok (.aload_n 0, 1) := by decide +kernel
theorem dX4_addTo_4 : decode cX4_addTo 4 = .ok (.getfield 84, 3) := by decide +kernel
theorem dX4_addTo_7 : decode cX4_addTo 7 = .ok (.invokevirtual 98, 3) := by decide +kernel
theorem dX4_addTo_10 : decode cX4_addTo 10 = .ok (.iload_n 2, 1) := by decide +kernel
theorem dX4_addTo_11 : decode cX4_addTo 11 = .ok (.iadd, 1) := by decide +kernel
theorem dX4_addTo_12 : decode cX4_addTo 12 = .ok (.aload_n 0, 1) := by decide +kernel
theorem dX4_addTo_13 : decode cX4_addTo 13 = .ok (.getfield 12, 3) := by decide +kernel
theorem dX4_addTo_16 : decode cX4_addTo 16 = .ok (.getfield 68, 3) := by decide +kernel
theorem dX4_addTo_19 : decode cX4_addTo 19 = .ok (.bipush 6, 2) := by decide +kernel
theorem dX4_addTo_21 : decode cX4_addTo 21 = .ok (.iaload, 1) := by decide +kernel
theorem dX4_addTo_22 : decode cX4_addTo 22 = .ok (.invokestatic 102, 3) := by decide +kernel
theorem dX4_addTo_25 : decode cX4_addTo 25 = .ok (.putfield 107, 3) := by decide +kernel
theorem dX4_addTo_28 : decode cX4_addTo 28 = .ok (.aload_n 1, 1) := by decide +kernel
theorem dX4_addTo_29 : decode cX4_addTo 29 = .ok (.aload_n 0, 1) := by decide +kernel
theorem dX4_addTo_30 : decode cX4_addTo 30 = .ok (.getfield 84, 3) := by decide +kernel
theorem dX4_addTo_33 : decode cX4_addTo 33 = .ok (.putfield 110, 3) := by decide +kernel
theorem dX4_addTo_36 : decode cX4_addTo 36 = .ok (.iload_n 3, 1) := by decide +kernel
theorem dX4_addTo_37 : decode cX4_addTo 37 = .ok (.ifCond .eq 8, 3) := by decide +kernel
theorem dX4_addTo_40 : decode cX4_addTo 40 = .ok (.aload_n 1, 1) := by decide +kernel
theorem dX4_addTo_41 : decode cX4_addTo 41 = .ok (.iload_n 3, 1) := by decide +kernel
theorem dX4_addTo_42 : decode cX4_addTo 42 = .ok (.invokevirtual 113, 3) := by decide +kernel
theorem dX4_addTo_45 : decode cX4_addTo 45 = .ok (.aload_n 1, 1) := by decide +kernel
theorem dX4_addTo_46 : decode cX4_addTo 46 = .ok (.getfield 116, 3) := by decide +kernel
theorem dX4_addTo_49 : decode cX4_addTo 49 = .ok (.ifCond .ne 19, 3) := by decide +kernel
theorem dX4_addTo_52 : decode cX4_addTo 52 = .ok (.aload_n 1, 1) := by decide +kernel
theorem dX4_addTo_53 : decode cX4_addTo 53 = .ok (.getfield 107, 3) := by decide +kernel
theorem dX4_addTo_56 : decode cX4_addTo 56 = .ok (.aload_n 0, 1) := by decide +kernel
theorem dX4_addTo_57 : decode cX4_addTo 57 = .ok (.getfield 12, 3) := by decide +kernel
theorem dX4_addTo_60 : decode cX4_addTo 60 = .ok (.getfield 68, 3) := by decide +kernel
theorem dX4_addTo_63 : decode cX4_addTo 63 = .ok (.iconst 4, 1) := by decide +kernel
theorem dX4_addTo_64 : decode cX4_addTo 64 = .ok (.iaload, 1) := by decide +kernel
theorem dX4_addTo_65 : decode cX4_addTo 65 = .ok (.if_icmp .gt 5, 3) := by decide +kernel
theorem dX4_addTo_68 : decode cX4_addTo 68 = .ok (.iconst 3, 1) := by decide +kernel
theorem dX4_addTo_69 : decode cX4_addTo 69 = .ok (.ireturn, 1) := by decide +kernel
theorem dX4_addTo_70 : decode cX4_addTo 70 = .ok (.aload_n 1, 1) := by decide +kernel
theorem dX4_addTo_71 : decode cX4_addTo 71 = .ok (.iconst 1, 1) := by decide +kernel
theorem dX4_addTo_72 : decode cX4_addTo 72 = .ok (.putfield 116, 3) := by decide +kernel
theorem dX4_addTo_75 : decode cX4_addTo 75 = .ok (.aload_n 1, 1) := by decide +kernel
theorem dX4_addTo_76 : decode cX4_addTo 76 = .ok (.aload_n 0, 1) := by decide +kernel
theorem dX4_addTo_77 : decode cX4_addTo 77 = .ok (.aload_n 1, 1) := by decide +kernel
theorem dX4_addTo_78 : decode cX4_addTo 78 = .ok (.aload_n 0, 1) := by decide +kernel
theorem dX4_addTo_79 : decode cX4_addTo 79 = .ok (.getfield 84, 3) := by decide +kernel
theorem dX4_addTo_82 : decode cX4_addTo 82 = .ok (.invokevirtual 120, 3) := by decide +kernel
theorem dX4_addTo_85 : decode cX4_addTo 85 = .ok (.putfield 123, 3) := by decide +kernel
theorem dX4_addTo_88 : decode cX4_addTo 88 = .ok (.iconst 4, 1) := by decide +kernel
theorem dX4_addTo_89 : decode cX4_addTo 89 = .ok (.ireturn, 1) := by decide +kernel
set_option maxHeartbeats 4000000 in
set_option maxRecDepth 100000 in
theorem wS_addTo_45 {p : Program} {l : Launch} {e : Env} {s : State} {m : MethodId} {args : Array Value} {below : List Frame} {meth : Method} {c : Code} {E : fd_E} (C : fd_C p s m args c yX4_addTo.cls cX4_addTo 4 E) (hr : meth.sig.returnType = (some .int)) (hlk : meth.locks = false) (fu : Nat) {r0 : Int32} {S0 : fd_S} : ∀ (S : fd_S) (k1 : Nat) (H : Heap) (locs : List Loc) (ls : Array Slot), zS_addTo_45 fu S k1 = some (r0, S0) → fd_H E S s H locs → lv_has ls 4 [(0, .ref (E.2.2 0)), (1, .ref (E.2.2 k1))] → W p l e (fd_rm 3 74) s m args below meth c H locs 0 0 (MQ below (fd_Q E (some (.int r0)) S0) args s 0 0 (fd_A E)) (F0 m 45 ls []) := by
  have hx := C.1
  have hb := C.2.1
  intro S k1 H locs ls hf hH hl
  unfold zS_addTo_45 at hf
  refine lv_aload_n hx hb dX4_addTo_45 rfl (lv_at hl 1 rfl) ?_
  obtain ⟨g7, hf⟩ := fd_grd hf
  refine fd_get k1 3 3 C hH (fd_rk1 g7) (fd_rk3 g7) (by decide) (by decide) wf_X4_116 (v := .int (S k1 (3 : Int32))) rfl dX4_addTo_46 ?_
  refine lv_if_ne (tgt := 68) hx hb dX4_addTo_49 (by decide) (fun c8 => ?_) (fun c8 => ?_)
  · have hf := fd_ifn c8 hf
    refine lv_iconst (v := (3 : Int32)) hx hb dX4_addTo_68 (by decide) ?_
    cases hf
    exact fd_iret C hr hlk hH dX4_addTo_69
  · have hf := fd_ifp c8 hf
    refine lv_aload_n hx hb dX4_addTo_52 rfl (lv_at hl 1 rfl) ?_
    refine fd_get k1 3 1 C hH (fd_rk1 g7) (fd_rk3 g7) (by decide) (by decide) wf_X4_107 (v := .int (S k1 (1 : Int32))) rfl dX4_addTo_53 ?_
    refine lv_aload_n hx hb dX4_addTo_56 rfl (lv_at hl 0 rfl) ?_
    refine fd_get 0 4 0 C hH (by decide) rfl (by decide) (by decide) wf_X4_12 (v := .ref (E.2.2 1)) rfl dX4_addTo_57 ?_
    refine fd_get 1 0 0 C hH (by decide) rfl (by decide) (by decide) wf_X4_68 (v := .ref (E.2.2 2)) rfl dX4_addTo_60 ?_
    refine lv_iconst (v := (4 : Int32)) hx hb dX4_addTo_63 (by decide) ?_
    refine fd_iald 2 (7 : Int32) C hH (by decide) rfl rfl (by decide) dX4_addTo_64 ?_
    refine lv_icmp_gt (tgt := 70) hx hb dX4_addTo_65 (by decide) (fun c9 => ?_) (fun c9 => ?_)
    · have hf := fd_ifp c9 hf
      refine lv_aload_n hx hb dX4_addTo_70 rfl (lv_at hl 1 rfl) ?_
      refine lv_iconst (v := (1 : Int32)) hx hb dX4_addTo_71 (by decide) ?_
      refine fd_put k1 3 3 (3 : Int32) C hH (fd_rk1 g7) (fd_rk3 g7) (by decide) (by decide) wf_X4_116 rfl rfl rfl rfl rfl (Nat.le_of_ble_eq_true rfl) dX4_addTo_72 (fun H locs hH => ?_)
      obtain ⟨S10, eS10, hf⟩ := fd_ltS hf
      rw [← eS10] at hH
      refine lv_aload_n hx hb dX4_addTo_75 rfl (lv_at hl 1 rfl) ?_
      refine lv_aload_n hx hb dX4_addTo_76 rfl (lv_at hl 0 rfl) ?_
      refine lv_aload_n hx hb dX4_addTo_77 rfl (lv_at hl 1 rfl) ?_
      refine lv_aload_n hx hb dX4_addTo_78 rfl (lv_at hl 0 rfl) ?_
      refine fd_get 0 4 6 C hH (by decide) rfl (by decide) (by decide) wf_X4_84 (v := .int (S10 0 (6 : Int32))) rfl dX4_addTo_79 ?_
      obtain ⟨r11, e12, hf⟩ := fd_bnd hf
      refine fd_callV1 0 4 [.ref (E.2.2 k1), .int (S10 0 (6 : Int32))] C hl.1 hH (cS_dueAfter l E fu S10 k1 (S10 0 (6 : Int32)) e12) wm_X4_120 (by decide) rfl (by decide) rfl ⟨rfl, rfl, Nat.le_of_ble_eq_true rfl, Nat.le_of_ble_eq_true rfl⟩ rfl rfl (Nat.le_of_ble_eq_true rfl) ⟨Nat.le_refl _, Nat.le_refl _⟩ dX4_addTo_82 (fun H locs hH => ?_)
      refine fd_put k1 3 4 (4 : Int32) C hH (fd_rk1 g7) (fd_rk3 g7) (by decide) (by decide) wf_X4_123 rfl rfl rfl rfl rfl (Nat.le_of_ble_eq_true rfl) dX4_addTo_85 (fun H locs hH => ?_)
      obtain ⟨S13, eS13, hf⟩ := fd_ltS hf
      rw [← eS13] at hH
      refine lv_iconst (v := (4 : Int32)) hx hb dX4_addTo_88 (by decide) ?_
      cases hf
      exact fd_iret C hr hlk hH dX4_addTo_89
    · have hf := fd_ifn c9 hf
      refine lv_iconst (v := (3 : Int32)) hx hb dX4_addTo_68 (by decide) ?_
      cases hf
      exact fd_iret C hr hlk hH dX4_addTo_69
set_option maxHeartbeats 4000000 in
set_option maxRecDepth 100000 in
theorem cS_addTo (l : Launch) (E : fd_E) (fu : Nat) (S : fd_S) (k1 : Nat) (x2 : Int32) (x3 : Int32) {r0 : Int32} {S0 : fd_S} (hf : zS_addTo fu S k1 x2 x3 = some (r0, S0)) : fd_Ct l yX4_addTo cX4_addTo 4 (some .int) (fd_rm 3 74) E S [.ref (E.2.2 0), .ref (E.2.2 k1), .int x2, .int x3] (some (.int r0)) S0 := by
  unfold zS_addTo at hf
  refine fd_Ct_of (by decide +kernel) (Nat.le_of_ble_eq_true rfl) ?_
  intro p e s m below meth c ls C hr hlk hH hl
  have hx := C.1
  have hb := C.2.1
  have hl : lv_has ls 4 [(0, .ref (E.2.2 0)), (1, .ref (E.2.2 k1)), (2, .int x2), (3, .int x3)] := hl
  refine lv_aload_n hx hb dX4_addTo_0 rfl (lv_at hl 1 rfl) ?_
  refine lv_aload_n hx hb dX4_addTo_1 rfl (lv_at hl 0 rfl) ?_
  refine lv_aload_n hx hb dX4_addTo_2 rfl (lv_at hl 1 rfl) ?_
  refine lv_aload_n hx hb dX4_addTo_3 rfl (lv_at hl 0 rfl) ?_
  refine fd_get 0 4 6 C hH (by decide) rfl (by decide) (by decide) wf_X4_84 (v := .int (S 0 (6 : Int32))) rfl dX4_addTo_4 ?_
  obtain ⟨r1, e2, hf⟩ := fd_bnd hf
  refine fd_callV1 0 4 [.ref (E.2.2 k1), .int (S 0 (6 : Int32))] C hl.1 hH (cS_penaltyAt l E S (some k1) (S 0 (6 : Int32)) e2) wm_X4_98 (by decide) rfl (by decide) rfl ⟨rfl, rfl, Nat.le_of_ble_eq_true rfl, Nat.le_of_ble_eq_true rfl⟩ rfl rfl (Nat.le_of_ble_eq_true rfl) ⟨Nat.le_refl _, Nat.le_refl _⟩ dX4_addTo_7 (fun H locs hH => ?_)
  refine lv_iload_n hx hb dX4_addTo_10 rfl (lv_at hl 2 rfl) ?_
  refine lv_iadd hx hb dX4_addTo_11 ?_
  refine lv_aload_n hx hb dX4_addTo_12 rfl (lv_at hl 0 rfl) ?_
  refine fd_get 0 4 0 C hH (by decide) rfl (by decide) (by decide) wf_X4_12 (v := .ref (E.2.2 1)) rfl dX4_addTo_13 ?_
  refine fd_get 1 0 0 C hH (by decide) rfl (by decide) (by decide) wf_X4_68 (v := .ref (E.2.2 2)) rfl dX4_addTo_16 ?_
  refine lv_bipush (v := (6 : Int32)) hx hb dX4_addTo_19 (by decide) ?_
  refine fd_iald 2 (7 : Int32) C hH (by decide) rfl rfl (by decide) dX4_addTo_21 ?_
  refine fd_mmin C hl.1 wl_X4_102 fd_wmin (Nat.le_of_ble_eq_true rfl) (Nat.le_of_ble_eq_true rfl) (Nat.le_refl _) (Nat.le_refl _) dX4_addTo_22 ?_
  obtain ⟨g3, hf⟩ := fd_grd hf
  refine fd_put k1 3 1 (1 : Int32) C hH (fd_rk1 g3) (fd_rk3 g3) (by decide) (by decide) wf_X4_107 rfl rfl rfl rfl rfl (Nat.le_of_ble_eq_true rfl) dX4_addTo_25 (fun H locs hH => ?_)
  obtain ⟨S4, eS4, hf⟩ := fd_ltS hf
  rw [← eS4] at hH
  refine lv_aload_n hx hb dX4_addTo_28 rfl (lv_at hl 1 rfl) ?_
  refine lv_aload_n hx hb dX4_addTo_29 rfl (lv_at hl 0 rfl) ?_
  refine fd_get 0 4 6 C hH (by decide) rfl (by decide) (by decide) wf_X4_84 (v := .int (S4 0 (6 : Int32))) rfl dX4_addTo_30 ?_
  refine fd_put k1 3 2 (2 : Int32) C hH (fd_rk1 g3) (fd_rk3 g3) (by decide) (by decide) wf_X4_110 rfl rfl rfl rfl rfl (Nat.le_of_ble_eq_true rfl) dX4_addTo_33 (fun H locs hH => ?_)
  obtain ⟨S5, eS5, hf⟩ := fd_ltS hf
  rw [← eS5] at hH
  refine lv_iload_n hx hb dX4_addTo_36 rfl (lv_at hl 3 rfl) ?_
  refine lv_if_eq (tgt := 45) hx hb dX4_addTo_37 (by decide) (fun c6 => ?_) (fun c6 => ?_)
  · have hf := fd_ifp c6 hf
    exact wS_addTo_45 C hr hlk fu S5 k1 _ _ _ hf hH (lv_sub hl [0, 1] rfl)
  · have hf := fd_ifn c6 hf
    refine lv_aload_n hx hb dX4_addTo_40 rfl (lv_at hl 1 rfl) ?_
    refine lv_iload_n hx hb dX4_addTo_41 rfl (lv_at hl 3 rfl) ?_
    obtain ⟨S14, e15, hf⟩ := fd_bnd hf
    refine fd_callV0 k1 3 [.int x3] C hl.1 hH (cR_addCause l E S5 k1 x3 e15) wm_X4_113 (fd_rk1 g3) (fd_rk3 g3) (by decide) rfl ⟨rfl, rfl, Nat.le_of_ble_eq_true rfl, Nat.le_of_ble_eq_true rfl⟩ rfl rfl (Nat.le_of_ble_eq_true rfl) ⟨Nat.le_refl _, Nat.le_refl _⟩ dX4_addTo_42 (fun H locs hH => ?_)
    exact wS_addTo_45 C hr hlk fu S14 k1 _ _ _ hf hH (lv_sub hl [0, 1] rfl)
theorem dX4_judge_0 : decode cX4_judge 0 = .ok (.iload_n 2, 1) := by decide +kernel
theorem dX4_judge_1 : decode cX4_judge 1 = .ok (.ifCond .ne 5, 3) := by decide +kernel
theorem dX4_judge_4 : decode cX4_judge 4 = .ok (.iconst 0, 1) := by decide +kernel
theorem dX4_judge_5 : decode cX4_judge 5 = .ok (.ireturn, 1) := by decide +kernel
theorem dX4_judge_6 : decode cX4_judge 6 = .ok (.aload_n 0, 1) := by decide +kernel
theorem dX4_judge_7 : decode cX4_judge 7 = .ok (.getfield 21, 3) := by decide +kernel
theorem dX4_judge_10 : decode cX4_judge 10 = .ok (.iload_n 1, 1) := by decide +kernel
theorem dX4_judge_11 : decode cX4_judge 11 = .ok (.invokevirtual 71, 3) := by decide +kernel
theorem dX4_judge_14 : decode cX4_judge 14 = .ok (.astore 4, 2) := by decide +kernel
theorem dX4_judge_16 : decode cX4_judge 16 = .ok (.aload 4, 2) := by decide +kernel
theorem dX4_judge_18 : decode cX4_judge 18 = .ok (.ifnull 28, 3) := by decide +kernel
theorem dX4_judge_21 : decode cX4_judge 21 = .ok (.iload_n 3, 1) := by decide +kernel
theorem dX4_judge_22 : decode cX4_judge 22 = .ok (.ifCond .eq 24, 3) := by decide +kernel
theorem dX4_judge_25 : decode cX4_judge 25 = .ok (.aload 4, 2) := by decide +kernel
theorem dX4_judge_27 : decode cX4_judge 27 = .ok (.iload_n 3, 1) := by decide +kernel
theorem dX4_judge_28 : decode cX4_judge 28 = .ok (.invokevirtual 75, 3) := by decide +kernel
theorem dX4_judge_31 : decode cX4_judge 31 = .ok (.ifCond .eq 15, 3) := by decide +kernel
theorem dX4_judge_34 : decode cX4_judge 34 = .ok (.aload_n 0, 1) := by decide +kernel
theorem dX4_judge_35 : decode cX4_judge 35 = .ok (.dup, 1) := by decide +kernel
theorem dX4_judge_36 : decode cX4_judge 36 = .ok (.getfield 81, 3) := by decide +kernel
theorem dX4_judge_39 : decode cX4_judge 39 = .ok (.iconst 1, 1) := by decide +kernel
theorem dX4_judge_40 : decode cX4_judge 40 = .ok (.iadd, 1) := by decide +kernel
theorem dX4_judge_41 : decode cX4_judge 41 = .ok (.putfield 81, 3) := by decide +kernel
theorem dX4_judge_44 : decode cX4_judge 44 = .ok (.iconst 1, 1) := by decide +kernel
theorem dX4_judge_45 : decode cX4_judge 45 = .ok (.ireturn, 1) := by decide +kernel
theorem dX4_judge_46 : decode cX4_judge 46 = .ok (.aload 4, 2) := by decide +kernel
theorem dX4_judge_48 : decode cX4_judge 48 = .ok (.ifnonnull 17, 3) := by decide +kernel
theorem dX4_judge_51 : decode cX4_judge 51 = .ok (.aload_n 0, 1) := by decide +kernel
theorem dX4_judge_52 : decode cX4_judge 52 = .ok (.getfield 21, 3) := by decide +kernel
theorem dX4_judge_55 : decode cX4_judge 55 = .ok (.iload_n 1, 1) := by decide +kernel
theorem dX4_judge_56 : decode cX4_judge 56 = .ok (.aload_n 0, 1) := by decide +kernel
theorem dX4_judge_57 : decode cX4_judge 57 = .ok (.getfield 84, 3) := by decide +kernel
theorem dX4_judge_60 : decode cX4_judge 60 = .ok (.invokevirtual 87, 3) := by decide +kernel
theorem dX4_judge_63 : decode cX4_judge 63 = .ok (.astore 4, 2) := by decide +kernel
theorem dX4_judge_65 : decode cX4_judge 65 = .ok (.aload 4, 2) := by decide +kernel
theorem dX4_judge_67 : decode cX4_judge 67 = .ok (.ifnonnull 15, 3) := by decide +kernel
theorem dX4_judge_70 : decode cX4_judge 70 = .ok (.aload_n 0, 1) := by decide +kernel
theorem dX4_judge_71 : decode cX4_judge 71 = .ok (.dup, 1) := by decide +kernel
theorem dX4_judge_72 : decode cX4_judge 72 = .ok (.getfield 91, 3) := by decide +kernel
theorem dX4_judge_75 : decode cX4_judge 75 = .ok (.iconst 1, 1) := by decide +kernel
theorem dX4_judge_76 : decode cX4_judge 76 = .ok (.iadd, 1) := by decide +kernel
theorem dX4_judge_77 : decode cX4_judge 77 = .ok (.putfield 91, 3) := by decide +kernel
theorem dX4_judge_80 : decode cX4_judge 80 = .ok (.iconst 2, 1) := by decide +kernel
theorem dX4_judge_81 : decode cX4_judge 81 = .ok (.ireturn, 1) := by decide +kernel
theorem dX4_judge_82 : decode cX4_judge 82 = .ok (.aload_n 0, 1) := by decide +kernel
theorem dX4_judge_83 : decode cX4_judge 83 = .ok (.aload 4, 2) := by decide +kernel
theorem dX4_judge_85 : decode cX4_judge 85 = .ok (.iload_n 2, 1) := by decide +kernel
theorem dX4_judge_86 : decode cX4_judge 86 = .ok (.iload_n 3, 1) := by decide +kernel
theorem dX4_judge_87 : decode cX4_judge 87 = .ok (.invokevirtual 94, 3) := by decide +kernel
theorem dX4_judge_90 : decode cX4_judge 90 = .ok (.ireturn, 1) := by decide +kernel
set_option maxHeartbeats 4000000 in
set_option maxRecDepth 100000 in
theorem cS_judge (l : Launch) (E : fd_E) (fu : Nat) (S : fd_S) (x1 : Int32) (x2 : Int32) (x3 : Int32) {r0 : Int32} {S0 : fd_S} (hf : zS_judge fu S x1 x2 x3 = some (r0, S0)) : fd_Ct l yX4_judge cX4_judge 5 (some .int) (fd_rm 4 97) E S [.ref (E.2.2 0), .int x1, .int x2, .int x3] (some (.int r0)) S0 := by
  unfold zS_judge at hf
  refine fd_Ct_of (by decide +kernel) (Nat.le_of_ble_eq_true rfl) ?_
  intro p e s m below meth c ls C hr hlk hH hl
  have hx := C.1
  have hb := C.2.1
  have hl : lv_has ls 5 [(0, .ref (E.2.2 0)), (1, .int x1), (2, .int x2), (3, .int x3)] := hl
  refine lv_iload_n hx hb dX4_judge_0 rfl (lv_at hl 2 rfl) ?_
  refine lv_if_ne (tgt := 6) hx hb dX4_judge_1 (by decide) (fun c1 => ?_) (fun c1 => ?_)
  · have hf := fd_ifn c1 hf
    refine lv_aload_n hx hb dX4_judge_6 rfl (lv_at hl 0 rfl) ?_
    refine fd_get 0 4 1 C hH (by decide) rfl (by decide) (by decide) wf_X4_21 (v := .ref (E.2.2 3)) rfl dX4_judge_7 ?_
    refine lv_iload_n hx hb dX4_judge_10 rfl (lv_at hl 1 rfl) ?_
    obtain ⟨r2, e3, hf⟩ := fd_bnd hf
    refine fd_callV1 3 2 [.int x1] C hl.1 hH (cQ_find l E fu S x1 e3) wm_X4_71 (by decide) rfl (by decide) rfl ⟨rfl, rfl, Nat.le_of_ble_eq_true rfl, Nat.le_of_ble_eq_true rfl⟩ rfl rfl (Nat.le_of_ble_eq_true rfl) ⟨Nat.le_refl _, Nat.le_refl _⟩ dX4_judge_11 (fun H locs hH => ?_)
    cases r2 with
    | none =>
      have hf := fd_on_n hf
      refine lv_astoreN (lv' := [(4, .null), (0, .ref (E.2.2 0)), (1, .int x1), (2, .int x2), (3, .int x3)]) hx hb dX4_judge_14 hl (by decide) rfl (fun ls hl => ?_)
      refine lv_aloadN hx hb dX4_judge_16 (lv_at hl 0 rfl) ?_
      refine lv_ifnullN (tgt := 46) hx hb dX4_judge_18 (by decide) ?_
      refine lv_aloadN hx hb dX4_judge_46 (lv_at hl 0 rfl) ?_
      refine lv_ifnonnullN hx hb dX4_judge_48 ?_
      refine lv_aload_n hx hb dX4_judge_51 rfl (lv_at hl 1 rfl) ?_
      refine fd_get 0 4 1 C hH (by decide) rfl (by decide) (by decide) wf_X4_21 (v := .ref (E.2.2 3)) rfl dX4_judge_52 ?_
      refine lv_iload_n hx hb dX4_judge_55 rfl (lv_at hl 2 rfl) ?_
      refine lv_aload_n hx hb dX4_judge_56 rfl (lv_at hl 1 rfl) ?_
      refine fd_get 0 4 6 C hH (by decide) rfl (by decide) (by decide) wf_X4_84 (v := .int (S 0 (6 : Int32))) rfl dX4_judge_57 ?_
      obtain ⟨q8, e6, hf⟩ := fd_bnd hf
      obtain ⟨r7, S5⟩ := q8
      have hf := fd_prE hf
      refine fd_callV1 3 2 [.int x1, .int (S 0 (6 : Int32))] C hl.1 hH (cQ_make l E fu S x1 (S 0 (6 : Int32)) e6) wm_X4_87 (by decide) rfl (by decide) rfl ⟨rfl, rfl, Nat.le_of_ble_eq_true rfl, Nat.le_of_ble_eq_true rfl⟩ rfl rfl (Nat.le_of_ble_eq_true rfl) ⟨Nat.le_refl _, Nat.le_refl _⟩ dX4_judge_60 (fun H locs hH => ?_)
      cases r7 with
      | none =>
        have hf := fd_on_n hf
        refine lv_astoreN (lv' := [(4, .null), (0, .ref (E.2.2 0)), (1, .int x1), (2, .int x2), (3, .int x3)]) hx hb dX4_judge_63 hl (by decide) rfl (fun ls hl => ?_)
        refine lv_aloadN hx hb dX4_judge_65 (lv_at hl 0 rfl) ?_
        refine lv_ifnonnullN hx hb dX4_judge_67 ?_
        refine lv_aload_n hx hb dX4_judge_70 rfl (lv_at hl 1 rfl) ?_
        refine lv_dup hx hb dX4_judge_71 rfl ?_
        refine fd_get 0 4 9 C hH (by decide) rfl (by decide) (by decide) wf_X4_91 (v := .int (S5 0 (9 : Int32))) rfl dX4_judge_72 ?_
        refine lv_iconst (v := (1 : Int32)) hx hb dX4_judge_75 (by decide) ?_
        refine lv_iadd hx hb dX4_judge_76 ?_
        refine fd_put 0 4 9 (9 : Int32) C hH (by decide) rfl (by decide) (by decide) wf_X4_91 rfl rfl rfl rfl rfl (Nat.le_of_ble_eq_true rfl) dX4_judge_77 (fun H locs hH => ?_)
        obtain ⟨S10, eS10, hf⟩ := fd_ltS hf
        rw [← eS10] at hH
        refine lv_iconst (v := (2 : Int32)) hx hb dX4_judge_80 (by decide) ?_
        cases hf
        exact fd_iret C hr hlk hH dX4_judge_81
      | some k9 =>
        have hf := fd_on_s hf
        refine lv_astore (lv' := [(4, .ref (E.2.2 k9)), (0, .ref (E.2.2 0)), (1, .int x1), (2, .int x2), (3, .int x3)]) hx hb dX4_judge_63 hl (by decide) rfl (fun ls hl => ?_)
        refine lv_aload hx hb dX4_judge_65 (lv_at hl 0 rfl) ?_
        refine lv_ifnonnull (tgt := 82) hx hb dX4_judge_67 (by decide) ?_
        refine lv_aload_n hx hb dX4_judge_82 rfl (lv_at hl 1 rfl) ?_
        refine lv_aload hx hb dX4_judge_83 (lv_at hl 0 rfl) ?_
        refine lv_iload_n hx hb dX4_judge_85 rfl (lv_at hl 3 rfl) ?_
        refine lv_iload_n hx hb dX4_judge_86 rfl (lv_at hl 4 rfl) ?_
        obtain ⟨q14, e12, hf⟩ := fd_bnd hf
        obtain ⟨r13, S11⟩ := q14
        have hf := fd_prE hf
        refine fd_callV1 0 4 [.ref (E.2.2 k9), .int x2, .int x3] C hl.1 hH (cS_addTo l E fu S5 k9 x2 x3 e12) wm_X4_94 (by decide) rfl (by decide) rfl ⟨rfl, rfl, Nat.le_of_ble_eq_true rfl, Nat.le_of_ble_eq_true rfl⟩ rfl rfl (Nat.le_of_ble_eq_true rfl) ⟨Nat.le_refl _, Nat.le_refl _⟩ dX4_judge_87 (fun H locs hH => ?_)
        cases hf
        exact fd_iret C hr hlk hH dX4_judge_90
    | some k4 =>
      have hf := fd_on_s hf
      refine lv_astore (lv' := [(4, .ref (E.2.2 k4)), (0, .ref (E.2.2 0)), (1, .int x1), (2, .int x2), (3, .int x3)]) hx hb dX4_judge_14 hl (by decide) rfl (fun ls hl => ?_)
      refine lv_aload hx hb dX4_judge_16 (lv_at hl 0 rfl) ?_
      refine lv_ifnull hx hb dX4_judge_18 ?_
      refine lv_iload_n hx hb dX4_judge_21 rfl (lv_at hl 4 rfl) ?_
      refine lv_if_eq (tgt := 46) hx hb dX4_judge_22 (by decide) (fun c15 => ?_) (fun c15 => ?_)
      · have hf := fd_ifp c15 hf
        refine lv_aload hx hb dX4_judge_46 (lv_at hl 0 rfl) ?_
        refine lv_ifnonnull (tgt := 65) hx hb dX4_judge_48 (by decide) ?_
        refine lv_aload hx hb dX4_judge_65 (lv_at hl 0 rfl) ?_
        refine lv_ifnonnull (tgt := 82) hx hb dX4_judge_67 (by decide) ?_
        refine lv_aload_n hx hb dX4_judge_82 rfl (lv_at hl 1 rfl) ?_
        refine lv_aload hx hb dX4_judge_83 (lv_at hl 0 rfl) ?_
        refine lv_iload_n hx hb dX4_judge_85 rfl (lv_at hl 3 rfl) ?_
        refine lv_iload_n hx hb dX4_judge_86 rfl (lv_at hl 4 rfl) ?_
        obtain ⟨q19, e17, hf⟩ := fd_bnd hf
        obtain ⟨r18, S16⟩ := q19
        have hf := fd_prE hf
        refine fd_callV1 0 4 [.ref (E.2.2 k4), .int x2, .int x3] C hl.1 hH (cS_addTo l E fu S k4 x2 x3 e17) wm_X4_94 (by decide) rfl (by decide) rfl ⟨rfl, rfl, Nat.le_of_ble_eq_true rfl, Nat.le_of_ble_eq_true rfl⟩ rfl rfl (Nat.le_of_ble_eq_true rfl) ⟨Nat.le_refl _, Nat.le_refl _⟩ dX4_judge_87 (fun H locs hH => ?_)
        cases hf
        exact fd_iret C hr hlk hH dX4_judge_90
      · have hf := fd_ifn c15 hf
        refine lv_aload hx hb dX4_judge_25 (lv_at hl 0 rfl) ?_
        refine lv_iload_n hx hb dX4_judge_27 rfl (lv_at hl 4 rfl) ?_
        obtain ⟨g20, hf⟩ := fd_grd hf
        obtain ⟨r21, e22, hf⟩ := fd_bnd hf
        refine fd_callV1 k4 3 [.int x3] C hl.1 hH (cR_hasCause l E fu S k4 x3 e22) wm_X4_75 (fd_rk1 g20) (fd_rk3 g20) (by decide) rfl ⟨rfl, rfl, Nat.le_of_ble_eq_true rfl, Nat.le_of_ble_eq_true rfl⟩ rfl rfl (Nat.le_of_ble_eq_true rfl) ⟨Nat.le_refl _, Nat.le_refl _⟩ dX4_judge_28 (fun H locs hH => ?_)
        refine lv_if_eq (tgt := 46) hx hb dX4_judge_31 (by decide) (fun c23 => ?_) (fun c23 => ?_)
        · have hf := fd_ifp c23 hf
          refine lv_aload hx hb dX4_judge_46 (lv_at hl 0 rfl) ?_
          refine lv_ifnonnull (tgt := 65) hx hb dX4_judge_48 (by decide) ?_
          refine lv_aload hx hb dX4_judge_65 (lv_at hl 0 rfl) ?_
          refine lv_ifnonnull (tgt := 82) hx hb dX4_judge_67 (by decide) ?_
          refine lv_aload_n hx hb dX4_judge_82 rfl (lv_at hl 1 rfl) ?_
          refine lv_aload hx hb dX4_judge_83 (lv_at hl 0 rfl) ?_
          refine lv_iload_n hx hb dX4_judge_85 rfl (lv_at hl 3 rfl) ?_
          refine lv_iload_n hx hb dX4_judge_86 rfl (lv_at hl 4 rfl) ?_
          obtain ⟨q27, e25, hf⟩ := fd_bnd hf
          obtain ⟨r26, S24⟩ := q27
          have hf := fd_prE hf
          refine fd_callV1 0 4 [.ref (E.2.2 k4), .int x2, .int x3] C hl.1 hH (cS_addTo l E fu S k4 x2 x3 e25) wm_X4_94 (by decide) rfl (by decide) rfl ⟨rfl, rfl, Nat.le_of_ble_eq_true rfl, Nat.le_of_ble_eq_true rfl⟩ rfl rfl (Nat.le_of_ble_eq_true rfl) ⟨Nat.le_refl _, Nat.le_refl _⟩ dX4_judge_87 (fun H locs hH => ?_)
          cases hf
          exact fd_iret C hr hlk hH dX4_judge_90
        · have hf := fd_ifn c23 hf
          refine lv_aload_n hx hb dX4_judge_34 rfl (lv_at hl 1 rfl) ?_
          refine lv_dup hx hb dX4_judge_35 rfl ?_
          refine fd_get 0 4 8 C hH (by decide) rfl (by decide) (by decide) wf_X4_81 (v := .int (S 0 (8 : Int32))) rfl dX4_judge_36 ?_
          refine lv_iconst (v := (1 : Int32)) hx hb dX4_judge_39 (by decide) ?_
          refine lv_iadd hx hb dX4_judge_40 ?_
          refine fd_put 0 4 8 (8 : Int32) C hH (by decide) rfl (by decide) (by decide) wf_X4_81 rfl rfl rfl rfl rfl (Nat.le_of_ble_eq_true rfl) dX4_judge_41 (fun H locs hH => ?_)
          obtain ⟨S28, eS28, hf⟩ := fd_ltS hf
          rw [← eS28] at hH
          refine lv_iconst (v := (1 : Int32)) hx hb dX4_judge_44 (by decide) ?_
          cases hf
          exact fd_iret C hr hlk hH dX4_judge_45
  · have hf := fd_ifp c1 hf
    refine lv_iconst (v := (0 : Int32)) hx hb dX4_judge_4 (by decide) ?_
    cases hf
    exact fd_iret C hr hlk hH dX4_judge_5
theorem dX4_writeEvent_0 : decode cX4_writeEvent 0 = .ok (.aload_n 0, 1) := by decide +kernel
theorem dX4_writeEvent_1 : decode cX4_writeEvent 1 = .ok (.getfield 32, 3) := by decide +kernel
theorem dX4_writeEvent_4 : decode cX4_writeEvent 4 = .ok (.iload_n 1, 1) := by decide +kernel
theorem dX4_writeEvent_5 : decode cX4_writeEvent 5 = .ok (.iaload, 1) := by decide +kernel
theorem dX4_writeEvent_6 : decode cX4_writeEvent 6 = .ok (.istore 4, 2) := by decide +kernel
theorem dX4_writeEvent_8 : decode cX4_writeEvent 8 = .ok (.aload_n 0, 1) := by decide +kernel
theorem dX4_writeEvent_9 : decode cX4_writeEvent 9 = .ok (.getfield 28, 3) := by decide +kernel
theorem dX4_writeEvent_12 : decode cX4_writeEvent 12 = .ok (.iload 4, 2) := by decide +kernel
theorem dX4_writeEvent_14 : decode cX4_writeEvent 14 = .ok (.bipush (-6), 2) := by decide +kernel
theorem dX4_writeEvent_16 : decode cX4_writeEvent 16 = .ok (.if_icmp .ne 8, 3) := by decide +kernel
theorem dX4_writeEvent_19 : decode cX4_writeEvent 19 = .ok (.bipush 87, 2) := by decide +kernel
theorem dX4_writeEvent_21 : decode cX4_writeEvent 21 = .ok (.goto 5, 3) := by decide +kernel
theorem dX4_writeEvent_24 : decode cX4_writeEvent 24 = .ok (.bipush 65, 2) := by decide +kernel
theorem dX4_writeEvent_26 : decode cX4_writeEvent 26 = .ok (.iload_n 1, 1) := by decide +kernel
theorem dX4_writeEvent_27 : decode cX4_writeEvent 27 = .ok (.invokevirtual 126, 3) := by decide +kernel
theorem dX4_writeEvent_30 : decode cX4_writeEvent 30 = .ok (.iload 4, 2) := by decide +kernel
theorem dX4_writeEvent_32 : decode cX4_writeEvent 32 = .ok (.bipush (-6), 2) := by decide +kernel
theorem dX4_writeEvent_34 : decode cX4_writeEvent 34 = .ok (.if_icmp .eq 21, 3) := by decide +kernel
theorem dX4_writeEvent_37 : decode cX4_writeEvent 37 = .ok (.aload_n 0, 1) := by decide +kernel
theorem dX4_writeEvent_38 : decode cX4_writeEvent 38 = .ok (.getfield 28, 3) := by decide +kernel
theorem dX4_writeEvent_41 : decode cX4_writeEvent 41 = .ok (.bipush 58, 2) := by decide +kernel
theorem dX4_writeEvent_43 : decode cX4_writeEvent 43 = .ok (.invokevirtual 130, 3) := by decide +kernel
theorem dX4_writeEvent_46 : decode cX4_writeEvent 46 = .ok (.aload_n 0, 1) := by decide +kernel
theorem dX4_writeEvent_47 : decode cX4_writeEvent 47 = .ok (.getfield 28, 3) := by decide +kernel
theorem dX4_writeEvent_50 : decode cX4_writeEvent 50 = .ok (.iload 4, 2) := by decide +kernel
theorem dX4_writeEvent_52 : decode cX4_writeEvent 52 = .ok (.invokevirtual 133, 3) := by decide +kernel
theorem dX4_writeEvent_55 : decode cX4_writeEvent 55 = .ok (.iload_n 3, 1) := by decide +kernel
theorem dX4_writeEvent_56 : decode cX4_writeEvent 56 = .ok (.iconst 1, 1) := by decide +kernel
theorem dX4_writeEvent_57 : decode cX4_writeEvent 57 = .ok (.if_icmp .ne 12, 3) := by decide +kernel
theorem dX4_writeEvent_60 : decode cX4_writeEvent 60 = .ok (.aload_n 0, 1) := by decide +kernel
theorem dX4_writeEvent_61 : decode cX4_writeEvent 61 = .ok (.getfield 28, 3) := by decide +kernel
theorem dX4_writeEvent_64 : decode cX4_writeEvent 64 = .ok (.bipush 126, 2) := by decide +kernel
theorem dX4_writeEvent_66 : decode cX4_writeEvent 66 = .ok (.invokevirtual 130, 3) := by decide +kernel
theorem dX4_writeEvent_69 : decode cX4_writeEvent 69 = .ok (.iload_n 3, 1) := by decide +kernel
theorem dX4_writeEvent_70 : decode cX4_writeEvent 70 = .ok (.iconst 2, 1) := by decide +kernel
theorem dX4_writeEvent_71 : decode cX4_writeEvent 71 = .ok (.if_icmp .ne 12, 3) := by decide +kernel
theorem dX4_writeEvent_74 : decode cX4_writeEvent 74 = .ok (.aload_n 0, 1) := by decide +kernel
theorem dX4_writeEvent_75 : decode cX4_writeEvent 75 = .ok (.getfield 28, 3) := by decide +kernel
theorem dX4_writeEvent_78 : decode cX4_writeEvent 78 = .ok (.bipush 63, 2) := by decide +kernel
theorem dX4_writeEvent_80 : decode cX4_writeEvent 80 = .ok (.invokevirtual 130, 3) := by decide +kernel
theorem dX4_writeEvent_83 : decode cX4_writeEvent 83 = .ok (.aload_n 0, 1) := by decide +kernel
theorem dX4_writeEvent_84 : decode cX4_writeEvent 84 = .ok (.getfield 21, 3) := by decide +kernel
theorem dX4_writeEvent_87 : decode cX4_writeEvent 87 = .ok (.iload_n 1, 1) := by decide +kernel
theorem dX4_writeEvent_88 : decode cX4_writeEvent 88 = .ok (.invokevirtual 71, 3) := by decide +kernel
theorem dX4_writeEvent_91 : decode cX4_writeEvent 91 = .ok (.astore 5, 2) := by decide +kernel
theorem dX4_writeEvent_93 : decode cX4_writeEvent 93 = .ok (.aload 5, 2) := by decide +kernel
theorem dX4_writeEvent_95 : decode cX4_writeEvent 95 = .ok (.ifnull 51, 3) := by decide +kernel
theorem dX4_writeEvent_98 : decode cX4_writeEvent 98 = .ok (.iload_n 3, 1) := by decide +kernel
theorem dX4_writeEvent_99 : decode cX4_writeEvent 99 = .ok (.iconst 3, 1) := by decide +kernel
theorem dX4_writeEvent_100 : decode cX4_writeEvent 100 = .ok (.if_icmp .eq 8, 3) := by decide +kernel
theorem dX4_writeEvent_103 : decode cX4_writeEvent 103 = .ok (.iload_n 3, 1) := by decide +kernel
theorem dX4_writeEvent_104 : decode cX4_writeEvent 104 = .ok (.iconst 4, 1) := by decide +kernel
theorem dX4_writeEvent_105 : decode cX4_writeEvent 105 = .ok (.if_icmp .ne 41, 3) := by decide +kernel
theorem dX4_writeEvent_108 : decode cX4_writeEvent 108 = .ok (.aload_n 0, 1) := by decide +kernel
theorem dX4_writeEvent_109 : decode cX4_writeEvent 109 = .ok (.getfield 28, 3) := by decide +kernel
theorem dX4_writeEvent_112 : decode cX4_writeEvent 112 = .ok (.bipush 43, 2) := by decide +kernel
theorem dX4_writeEvent_114 : decode cX4_writeEvent 114 = .ok (.invokevirtual 130, 3) := by decide +kernel
theorem dX4_writeEvent_117 : decode cX4_writeEvent 117 = .ok (.aload_n 0, 1) := by decide +kernel
theorem dX4_writeEvent_118 : decode cX4_writeEvent 118 = .ok (.getfield 28, 3) := by decide +kernel
theorem dX4_writeEvent_121 : decode cX4_writeEvent 121 = .ok (.iload_n 2, 1) := by decide +kernel
theorem dX4_writeEvent_122 : decode cX4_writeEvent 122 = .ok (.invokevirtual 133, 3) := by decide +kernel
theorem dX4_writeEvent_125 : decode cX4_writeEvent 125 = .ok (.aload_n 0, 1) := by decide +kernel
theorem dX4_writeEvent_126 : decode cX4_writeEvent 126 = .ok (.getfield 28, 3) := by decide +kernel
theorem dX4_writeEvent_129 : decode cX4_writeEvent 129 = .ok (.bipush 61, 2) := by decide +kernel
theorem dX4_writeEvent_131 : decode cX4_writeEvent 131 = .ok (.invokevirtual 130, 3) := by decide +kernel
theorem dX4_writeEvent_134 : decode cX4_writeEvent 134 = .ok (.aload_n 0, 1) := by decide +kernel
theorem dX4_writeEvent_135 : decode cX4_writeEvent 135 = .ok (.getfield 28, 3) := by decide +kernel
theorem dX4_writeEvent_138 : decode cX4_writeEvent 138 = .ok (.aload 5, 2) := by decide +kernel
theorem dX4_writeEvent_140 : decode cX4_writeEvent 140 = .ok (.getfield 107, 3) := by decide +kernel
theorem dX4_writeEvent_143 : decode cX4_writeEvent 143 = .ok (.invokevirtual 133, 3) := by decide +kernel
theorem dX4_writeEvent_146 : decode cX4_writeEvent 146 = .ok (.iload_n 3, 1) := by decide +kernel
theorem dX4_writeEvent_147 : decode cX4_writeEvent 147 = .ok (.iconst 4, 1) := by decide +kernel
theorem dX4_writeEvent_148 : decode cX4_writeEvent 148 = .ok (.if_icmp .ne 12, 3) := by decide +kernel
theorem dX4_writeEvent_151 : decode cX4_writeEvent 151 = .ok (.aload_n 0, 1) := by decide +kernel
theorem dX4_writeEvent_152 : decode cX4_writeEvent 152 = .ok (.getfield 28, 3) := by decide +kernel
theorem dX4_writeEvent_155 : decode cX4_writeEvent 155 = .ok (.bipush 33, 2) := by decide +kernel
theorem dX4_writeEvent_157 : decode cX4_writeEvent 157 = .ok (.invokevirtual 130, 3) := by decide +kernel
theorem dX4_writeEvent_160 : decode cX4_writeEvent 160 = .ok (.return_, 1) := by decide +kernel
set_option maxHeartbeats 4000000 in
set_option maxRecDepth 100000 in
theorem wS_writeEvent_108 {p : Program} {l : Launch} {e : Env} {s : State} {m : MethodId} {args : Array Value} {below : List Frame} {meth : Method} {c : Code} {E : fd_E} (C : fd_C p s m args c yX4_writeEvent.cls cX4_writeEvent 6 E) (hr : meth.sig.returnType = none) (hlk : meth.locks = false) (fu : Nat) {S0 : fd_S} : ∀ (S : fd_S) (x2 : Int32) (x3 : Int32) (k5 : Nat) (H : Heap) (locs : List Loc) (ls : Array Slot), zS_writeEvent_108 fu S x2 x3 k5 = some S0 → fd_H E S s H locs → lv_has ls 6 [(0, .ref (E.2.2 0)), (2, .int x2), (3, .int x3), (5, .ref (E.2.2 k5))] → W p l e (fd_rm 3 67) s m args below meth c H locs 0 0 (MQ below (fd_Q E none S0) args s 0 0 (fd_A E)) (F0 m 108 ls []) := by
  have hx := C.1
  have hb := C.2.1
  intro S x2 x3 k5 H locs ls hf hH hl
  unfold zS_writeEvent_108 at hf
  refine lv_aload_n hx hb dX4_writeEvent_108 rfl (lv_at hl 0 rfl) ?_
  refine fd_get 0 4 2 C hH (by decide) rfl (by decide) (by decide) wf_X4_28 (v := .ref (E.2.2 5)) rfl dX4_writeEvent_109 ?_
  refine lv_bipush (v := (43 : Int32)) hx hb dX4_writeEvent_112 (by decide) ?_
  obtain ⟨S16, e17, hf⟩ := fd_bnd hf
  refine fd_callV0 5 1 [.int (43 : Int32)] C hl.1 hH (cL_put l E S (43 : Int32) e17) wm_X4_130 (by decide) rfl (by decide) rfl ⟨rfl, rfl, Nat.le_of_ble_eq_true rfl, Nat.le_of_ble_eq_true rfl⟩ rfl rfl (Nat.le_of_ble_eq_true rfl) ⟨Nat.le_refl _, Nat.le_refl _⟩ dX4_writeEvent_114 (fun H locs hH => ?_)
  refine lv_aload_n hx hb dX4_writeEvent_117 rfl (lv_at hl 0 rfl) ?_
  refine fd_get 0 4 2 C hH (by decide) rfl (by decide) (by decide) wf_X4_28 (v := .ref (E.2.2 5)) rfl dX4_writeEvent_118 ?_
  refine lv_iload_n hx hb dX4_writeEvent_121 rfl (lv_at hl 1 rfl) ?_
  obtain ⟨S18, e19, hf⟩ := fd_bnd hf
  refine fd_callV0 5 1 [.int x2] C hl.1 hH (cL_putNumber l E fu S16 x2 e19) wm_X4_133 (by decide) rfl (by decide) rfl ⟨rfl, rfl, Nat.le_of_ble_eq_true rfl, Nat.le_of_ble_eq_true rfl⟩ rfl rfl (Nat.le_of_ble_eq_true rfl) ⟨Nat.le_refl _, Nat.le_refl _⟩ dX4_writeEvent_122 (fun H locs hH => ?_)
  refine lv_aload_n hx hb dX4_writeEvent_125 rfl (lv_at hl 0 rfl) ?_
  refine fd_get 0 4 2 C hH (by decide) rfl (by decide) (by decide) wf_X4_28 (v := .ref (E.2.2 5)) rfl dX4_writeEvent_126 ?_
  refine lv_bipush (v := (61 : Int32)) hx hb dX4_writeEvent_129 (by decide) ?_
  obtain ⟨S20, e21, hf⟩ := fd_bnd hf
  refine fd_callV0 5 1 [.int (61 : Int32)] C hl.1 hH (cL_put l E S18 (61 : Int32) e21) wm_X4_130 (by decide) rfl (by decide) rfl ⟨rfl, rfl, Nat.le_of_ble_eq_true rfl, Nat.le_of_ble_eq_true rfl⟩ rfl rfl (Nat.le_of_ble_eq_true rfl) ⟨Nat.le_refl _, Nat.le_refl _⟩ dX4_writeEvent_131 (fun H locs hH => ?_)
  refine lv_aload_n hx hb dX4_writeEvent_134 rfl (lv_at hl 0 rfl) ?_
  refine fd_get 0 4 2 C hH (by decide) rfl (by decide) (by decide) wf_X4_28 (v := .ref (E.2.2 5)) rfl dX4_writeEvent_135 ?_
  refine lv_aload hx hb dX4_writeEvent_138 (lv_at hl 3 rfl) ?_
  obtain ⟨g22, hf⟩ := fd_grd hf
  refine fd_get k5 3 1 C hH (fd_rk1 g22) (fd_rk3 g22) (by decide) (by decide) wf_X4_107 (v := .int (S20 k5 (1 : Int32))) rfl dX4_writeEvent_140 ?_
  obtain ⟨S23, e24, hf⟩ := fd_bnd hf
  refine fd_callV0 5 1 [.int (S20 k5 (1 : Int32))] C hl.1 hH (cL_putNumber l E fu S20 (S20 k5 (1 : Int32)) e24) wm_X4_133 (by decide) rfl (by decide) rfl ⟨rfl, rfl, Nat.le_of_ble_eq_true rfl, Nat.le_of_ble_eq_true rfl⟩ rfl rfl (Nat.le_of_ble_eq_true rfl) ⟨Nat.le_refl _, Nat.le_refl _⟩ dX4_writeEvent_143 (fun H locs hH => ?_)
  refine lv_iload_n hx hb dX4_writeEvent_146 rfl (lv_at hl 2 rfl) ?_
  refine lv_iconst (v := (4 : Int32)) hx hb dX4_writeEvent_147 (by decide) ?_
  refine lv_icmp_ne (tgt := 160) hx hb dX4_writeEvent_148 (by decide) (fun c25 => ?_) (fun c25 => ?_)
  · have hf := fd_ifn c25 hf
    cases hf
    exact fd_vret C hr hlk hH dX4_writeEvent_160
  · have hf := fd_ifp c25 hf
    refine lv_aload_n hx hb dX4_writeEvent_151 rfl (lv_at hl 0 rfl) ?_
    refine fd_get 0 4 2 C hH (by decide) rfl (by decide) (by decide) wf_X4_28 (v := .ref (E.2.2 5)) rfl dX4_writeEvent_152 ?_
    refine lv_bipush (v := (33 : Int32)) hx hb dX4_writeEvent_155 (by decide) ?_
    obtain ⟨S26, e27, hf⟩ := fd_bnd hf
    refine fd_callV0 5 1 [.int (33 : Int32)] C hl.1 hH (cL_put l E S23 (33 : Int32) e27) wm_X4_130 (by decide) rfl (by decide) rfl ⟨rfl, rfl, Nat.le_of_ble_eq_true rfl, Nat.le_of_ble_eq_true rfl⟩ rfl rfl (Nat.le_of_ble_eq_true rfl) ⟨Nat.le_refl _, Nat.le_refl _⟩ dX4_writeEvent_157 (fun H locs hH => ?_)
    cases hf
    exact fd_vret C hr hlk hH dX4_writeEvent_160
set_option maxHeartbeats 4000000 in
set_option maxRecDepth 100000 in
theorem wS_writeEvent_83 {p : Program} {l : Launch} {e : Env} {s : State} {m : MethodId} {args : Array Value} {below : List Frame} {meth : Method} {c : Code} {E : fd_E} (C : fd_C p s m args c yX4_writeEvent.cls cX4_writeEvent 6 E) (hr : meth.sig.returnType = none) (hlk : meth.locks = false) (fu : Nat) {S0 : fd_S} : ∀ (S : fd_S) (x1 : Int32) (x2 : Int32) (x3 : Int32) (H : Heap) (locs : List Loc) (ls : Array Slot), zS_writeEvent_83 fu S x1 x2 x3 = some S0 → fd_H E S s H locs → lv_has ls 6 [(0, .ref (E.2.2 0)), (1, .int x1), (2, .int x2), (3, .int x3)] → W p l e (fd_rm 3 67) s m args below meth c H locs 0 0 (MQ below (fd_Q E none S0) args s 0 0 (fd_A E)) (F0 m 83 ls []) := by
  have hx := C.1
  have hb := C.2.1
  intro S x1 x2 x3 H locs ls hf hH hl
  unfold zS_writeEvent_83 at hf
  refine lv_aload_n hx hb dX4_writeEvent_83 rfl (lv_at hl 0 rfl) ?_
  refine fd_get 0 4 1 C hH (by decide) rfl (by decide) (by decide) wf_X4_21 (v := .ref (E.2.2 3)) rfl dX4_writeEvent_84 ?_
  refine lv_iload_n hx hb dX4_writeEvent_87 rfl (lv_at hl 1 rfl) ?_
  obtain ⟨r9, e10, hf⟩ := fd_bnd hf
  refine fd_callV1 3 2 [.int x1] C hl.1 hH (cQ_find l E fu S x1 e10) wm_X4_71 (by decide) rfl (by decide) rfl ⟨rfl, rfl, Nat.le_of_ble_eq_true rfl, Nat.le_of_ble_eq_true rfl⟩ rfl rfl (Nat.le_of_ble_eq_true rfl) ⟨Nat.le_refl _, Nat.le_refl _⟩ dX4_writeEvent_88 (fun H locs hH => ?_)
  cases r9 with
  | none =>
    have hf := fd_on_n hf
    refine lv_astoreN (lv' := [(5, .null), (0, .ref (E.2.2 0)), (1, .int x1), (2, .int x2), (3, .int x3)]) hx hb dX4_writeEvent_91 hl (by decide) rfl (fun ls hl => ?_)
    refine lv_aloadN hx hb dX4_writeEvent_93 (lv_at hl 0 rfl) ?_
    refine lv_ifnullN (tgt := 146) hx hb dX4_writeEvent_95 (by decide) ?_
    refine lv_iload_n hx hb dX4_writeEvent_146 rfl (lv_at hl 4 rfl) ?_
    refine lv_iconst (v := (4 : Int32)) hx hb dX4_writeEvent_147 (by decide) ?_
    refine lv_icmp_ne (tgt := 160) hx hb dX4_writeEvent_148 (by decide) (fun c12 => ?_) (fun c12 => ?_)
    · have hf := fd_ifn c12 hf
      cases hf
      exact fd_vret C hr hlk hH dX4_writeEvent_160
    · have hf := fd_ifp c12 hf
      refine lv_aload_n hx hb dX4_writeEvent_151 rfl (lv_at hl 1 rfl) ?_
      refine fd_get 0 4 2 C hH (by decide) rfl (by decide) (by decide) wf_X4_28 (v := .ref (E.2.2 5)) rfl dX4_writeEvent_152 ?_
      refine lv_bipush (v := (33 : Int32)) hx hb dX4_writeEvent_155 (by decide) ?_
      obtain ⟨S13, e14, hf⟩ := fd_bnd hf
      refine fd_callV0 5 1 [.int (33 : Int32)] C hl.1 hH (cL_put l E S (33 : Int32) e14) wm_X4_130 (by decide) rfl (by decide) rfl ⟨rfl, rfl, Nat.le_of_ble_eq_true rfl, Nat.le_of_ble_eq_true rfl⟩ rfl rfl (Nat.le_of_ble_eq_true rfl) ⟨Nat.le_refl _, Nat.le_refl _⟩ dX4_writeEvent_157 (fun H locs hH => ?_)
      cases hf
      exact fd_vret C hr hlk hH dX4_writeEvent_160
  | some k11 =>
    have hf := fd_on_s hf
    refine lv_astore (lv' := [(5, .ref (E.2.2 k11)), (0, .ref (E.2.2 0)), (1, .int x1), (2, .int x2), (3, .int x3)]) hx hb dX4_writeEvent_91 hl (by decide) rfl (fun ls hl => ?_)
    refine lv_aload hx hb dX4_writeEvent_93 (lv_at hl 0 rfl) ?_
    refine lv_ifnull hx hb dX4_writeEvent_95 ?_
    refine lv_iload_n hx hb dX4_writeEvent_98 rfl (lv_at hl 4 rfl) ?_
    refine lv_iconst (v := (3 : Int32)) hx hb dX4_writeEvent_99 (by decide) ?_
    refine lv_icmp_eq (tgt := 108) hx hb dX4_writeEvent_100 (by decide) (fun c15 => ?_) (fun c15 => ?_)
    · have hf := fd_ifp c15 hf
      exact wS_writeEvent_108 C hr hlk fu S x2 x3 k11 _ _ _ hf hH (lv_sub hl [1, 3, 4, 0] rfl)
    · have hf := fd_ifn c15 hf
      refine lv_iload_n hx hb dX4_writeEvent_103 rfl (lv_at hl 4 rfl) ?_
      refine lv_iconst (v := (4 : Int32)) hx hb dX4_writeEvent_104 (by decide) ?_
      refine lv_icmp_ne (tgt := 146) hx hb dX4_writeEvent_105 (by decide) (fun c28 => ?_) (fun c28 => ?_)
      · have hf := fd_ifn c28 hf
        refine lv_iload_n hx hb dX4_writeEvent_146 rfl (lv_at hl 4 rfl) ?_
        refine lv_iconst (v := (4 : Int32)) hx hb dX4_writeEvent_147 (by decide) ?_
        refine lv_icmp_ne (tgt := 160) hx hb dX4_writeEvent_148 (by decide) (fun c29 => ?_) (fun c29 => ?_)
        · have hf := fd_ifn c29 hf
          cases hf
          exact fd_vret C hr hlk hH dX4_writeEvent_160
        · have hf := fd_ifp c29 hf
          refine lv_aload_n hx hb dX4_writeEvent_151 rfl (lv_at hl 1 rfl) ?_
          refine fd_get 0 4 2 C hH (by decide) rfl (by decide) (by decide) wf_X4_28 (v := .ref (E.2.2 5)) rfl dX4_writeEvent_152 ?_
          refine lv_bipush (v := (33 : Int32)) hx hb dX4_writeEvent_155 (by decide) ?_
          obtain ⟨S30, e31, hf⟩ := fd_bnd hf
          refine fd_callV0 5 1 [.int (33 : Int32)] C hl.1 hH (cL_put l E S (33 : Int32) e31) wm_X4_130 (by decide) rfl (by decide) rfl ⟨rfl, rfl, Nat.le_of_ble_eq_true rfl, Nat.le_of_ble_eq_true rfl⟩ rfl rfl (Nat.le_of_ble_eq_true rfl) ⟨Nat.le_refl _, Nat.le_refl _⟩ dX4_writeEvent_157 (fun H locs hH => ?_)
          cases hf
          exact fd_vret C hr hlk hH dX4_writeEvent_160
      · have hf := fd_ifp c28 hf
        exact wS_writeEvent_108 C hr hlk fu S x2 x3 k11 _ _ _ hf hH (lv_sub hl [1, 3, 4, 0] rfl)
set_option maxHeartbeats 4000000 in
set_option maxRecDepth 100000 in
theorem wS_writeEvent_26 {p : Program} {l : Launch} {e : Env} {s : State} {m : MethodId} {args : Array Value} {below : List Frame} {meth : Method} {c : Code} {E : fd_E} (C : fd_C p s m args c yX4_writeEvent.cls cX4_writeEvent 6 E) (hr : meth.sig.returnType = none) (hlk : meth.locks = false) (fu : Nat) {S0 : fd_S} : ∀ (S : fd_S) (x1 : Int32) (x2 : Int32) (x3 : Int32) (x4 : Int32) (t1 : Int32) (H : Heap) (locs : List Loc) (ls : Array Slot), zS_writeEvent_26 fu S x1 x2 x3 x4 t1 = some S0 → fd_H E S s H locs → lv_has ls 6 [(0, .ref (E.2.2 0)), (1, .int x1), (2, .int x2), (3, .int x3), (4, .int x4)] → W p l e (fd_rm 3 67) s m args below meth c H locs 0 0 (MQ below (fd_Q E none S0) args s 0 0 (fd_A E)) (F0 m 26 ls [.int t1, .ref (E.2.2 5)]) := by
  have hx := C.1
  have hb := C.2.1
  intro S x1 x2 x3 x4 t1 H locs ls hf hH hl
  unfold zS_writeEvent_26 at hf
  refine lv_iload_n hx hb dX4_writeEvent_26 rfl (lv_at hl 1 rfl) ?_
  obtain ⟨S4, e5, hf⟩ := fd_bnd hf
  refine fd_callV0 5 1 [.int t1, .int x1] C hl.1 hH (cL_begin l E fu S t1 x1 e5) wm_X4_126 (by decide) rfl (by decide) rfl ⟨rfl, rfl, Nat.le_of_ble_eq_true rfl, Nat.le_of_ble_eq_true rfl⟩ rfl rfl (Nat.le_of_ble_eq_true rfl) ⟨Nat.le_refl _, Nat.le_refl _⟩ dX4_writeEvent_27 (fun H locs hH => ?_)
  refine lv_iload hx hb dX4_writeEvent_30 (lv_at hl 4 rfl) ?_
  refine lv_bipush (v := (-6 : Int32)) hx hb dX4_writeEvent_32 (by decide) ?_
  refine lv_icmp_eq (tgt := 55) hx hb dX4_writeEvent_34 (by decide) (fun c6 => ?_) (fun c6 => ?_)
  · have hf := fd_ifp c6 hf
    refine lv_iload_n hx hb dX4_writeEvent_55 rfl (lv_at hl 3 rfl) ?_
    refine lv_iconst (v := (1 : Int32)) hx hb dX4_writeEvent_56 (by decide) ?_
    refine lv_icmp_ne (tgt := 69) hx hb dX4_writeEvent_57 (by decide) (fun c7 => ?_) (fun c7 => ?_)
    · have hf := fd_ifn c7 hf
      refine lv_iload_n hx hb dX4_writeEvent_69 rfl (lv_at hl 3 rfl) ?_
      refine lv_iconst (v := (2 : Int32)) hx hb dX4_writeEvent_70 (by decide) ?_
      refine lv_icmp_ne (tgt := 83) hx hb dX4_writeEvent_71 (by decide) (fun c8 => ?_) (fun c8 => ?_)
      · have hf := fd_ifn c8 hf
        exact wS_writeEvent_83 C hr hlk fu S4 x1 x2 x3 _ _ _ hf hH (lv_sub hl [0, 1, 2, 3] rfl)
      · have hf := fd_ifp c8 hf
        refine lv_aload_n hx hb dX4_writeEvent_74 rfl (lv_at hl 0 rfl) ?_
        refine fd_get 0 4 2 C hH (by decide) rfl (by decide) (by decide) wf_X4_28 (v := .ref (E.2.2 5)) rfl dX4_writeEvent_75 ?_
        refine lv_bipush (v := (63 : Int32)) hx hb dX4_writeEvent_78 (by decide) ?_
        obtain ⟨S32, e33, hf⟩ := fd_bnd hf
        refine fd_callV0 5 1 [.int (63 : Int32)] C hl.1 hH (cL_put l E S4 (63 : Int32) e33) wm_X4_130 (by decide) rfl (by decide) rfl ⟨rfl, rfl, Nat.le_of_ble_eq_true rfl, Nat.le_of_ble_eq_true rfl⟩ rfl rfl (Nat.le_of_ble_eq_true rfl) ⟨Nat.le_refl _, Nat.le_refl _⟩ dX4_writeEvent_80 (fun H locs hH => ?_)
        exact wS_writeEvent_83 C hr hlk fu S32 x1 x2 x3 _ _ _ hf hH (lv_sub hl [0, 1, 2, 3] rfl)
    · have hf := fd_ifp c7 hf
      refine lv_aload_n hx hb dX4_writeEvent_60 rfl (lv_at hl 0 rfl) ?_
      refine fd_get 0 4 2 C hH (by decide) rfl (by decide) (by decide) wf_X4_28 (v := .ref (E.2.2 5)) rfl dX4_writeEvent_61 ?_
      refine lv_bipush (v := (126 : Int32)) hx hb dX4_writeEvent_64 (by decide) ?_
      obtain ⟨S34, e35, hf⟩ := fd_bnd hf
      refine fd_callV0 5 1 [.int (126 : Int32)] C hl.1 hH (cL_put l E S4 (126 : Int32) e35) wm_X4_130 (by decide) rfl (by decide) rfl ⟨rfl, rfl, Nat.le_of_ble_eq_true rfl, Nat.le_of_ble_eq_true rfl⟩ rfl rfl (Nat.le_of_ble_eq_true rfl) ⟨Nat.le_refl _, Nat.le_refl _⟩ dX4_writeEvent_66 (fun H locs hH => ?_)
      refine lv_iload_n hx hb dX4_writeEvent_69 rfl (lv_at hl 3 rfl) ?_
      refine lv_iconst (v := (2 : Int32)) hx hb dX4_writeEvent_70 (by decide) ?_
      refine lv_icmp_ne (tgt := 83) hx hb dX4_writeEvent_71 (by decide) (fun c36 => ?_) (fun c36 => ?_)
      · have hf := fd_ifn c36 hf
        exact wS_writeEvent_83 C hr hlk fu S34 x1 x2 x3 _ _ _ hf hH (lv_sub hl [0, 1, 2, 3] rfl)
      · have hf := fd_ifp c36 hf
        refine lv_aload_n hx hb dX4_writeEvent_74 rfl (lv_at hl 0 rfl) ?_
        refine fd_get 0 4 2 C hH (by decide) rfl (by decide) (by decide) wf_X4_28 (v := .ref (E.2.2 5)) rfl dX4_writeEvent_75 ?_
        refine lv_bipush (v := (63 : Int32)) hx hb dX4_writeEvent_78 (by decide) ?_
        obtain ⟨S37, e38, hf⟩ := fd_bnd hf
        refine fd_callV0 5 1 [.int (63 : Int32)] C hl.1 hH (cL_put l E S34 (63 : Int32) e38) wm_X4_130 (by decide) rfl (by decide) rfl ⟨rfl, rfl, Nat.le_of_ble_eq_true rfl, Nat.le_of_ble_eq_true rfl⟩ rfl rfl (Nat.le_of_ble_eq_true rfl) ⟨Nat.le_refl _, Nat.le_refl _⟩ dX4_writeEvent_80 (fun H locs hH => ?_)
        exact wS_writeEvent_83 C hr hlk fu S37 x1 x2 x3 _ _ _ hf hH (lv_sub hl [0, 1, 2, 3] rfl)
  · have hf := fd_ifn c6 hf
    refine lv_aload_n hx hb dX4_writeEvent_37 rfl (lv_at hl 0 rfl) ?_
    refine fd_get 0 4 2 C hH (by decide) rfl (by decide) (by decide) wf_X4_28 (v := .ref (E.2.2 5)) rfl dX4_writeEvent_38 ?_
    refine lv_bipush (v := (58 : Int32)) hx hb dX4_writeEvent_41 (by decide) ?_
    obtain ⟨S39, e40, hf⟩ := fd_bnd hf
    refine fd_callV0 5 1 [.int (58 : Int32)] C hl.1 hH (cL_put l E S4 (58 : Int32) e40) wm_X4_130 (by decide) rfl (by decide) rfl ⟨rfl, rfl, Nat.le_of_ble_eq_true rfl, Nat.le_of_ble_eq_true rfl⟩ rfl rfl (Nat.le_of_ble_eq_true rfl) ⟨Nat.le_refl _, Nat.le_refl _⟩ dX4_writeEvent_43 (fun H locs hH => ?_)
    refine lv_aload_n hx hb dX4_writeEvent_46 rfl (lv_at hl 0 rfl) ?_
    refine fd_get 0 4 2 C hH (by decide) rfl (by decide) (by decide) wf_X4_28 (v := .ref (E.2.2 5)) rfl dX4_writeEvent_47 ?_
    refine lv_iload hx hb dX4_writeEvent_50 (lv_at hl 4 rfl) ?_
    obtain ⟨S41, e42, hf⟩ := fd_bnd hf
    refine fd_callV0 5 1 [.int x4] C hl.1 hH (cL_putNumber l E fu S39 x4 e42) wm_X4_133 (by decide) rfl (by decide) rfl ⟨rfl, rfl, Nat.le_of_ble_eq_true rfl, Nat.le_of_ble_eq_true rfl⟩ rfl rfl (Nat.le_of_ble_eq_true rfl) ⟨Nat.le_refl _, Nat.le_refl _⟩ dX4_writeEvent_52 (fun H locs hH => ?_)
    refine lv_iload_n hx hb dX4_writeEvent_55 rfl (lv_at hl 3 rfl) ?_
    refine lv_iconst (v := (1 : Int32)) hx hb dX4_writeEvent_56 (by decide) ?_
    refine lv_icmp_ne (tgt := 69) hx hb dX4_writeEvent_57 (by decide) (fun c43 => ?_) (fun c43 => ?_)
    · have hf := fd_ifn c43 hf
      refine lv_iload_n hx hb dX4_writeEvent_69 rfl (lv_at hl 3 rfl) ?_
      refine lv_iconst (v := (2 : Int32)) hx hb dX4_writeEvent_70 (by decide) ?_
      refine lv_icmp_ne (tgt := 83) hx hb dX4_writeEvent_71 (by decide) (fun c44 => ?_) (fun c44 => ?_)
      · have hf := fd_ifn c44 hf
        exact wS_writeEvent_83 C hr hlk fu S41 x1 x2 x3 _ _ _ hf hH (lv_sub hl [0, 1, 2, 3] rfl)
      · have hf := fd_ifp c44 hf
        refine lv_aload_n hx hb dX4_writeEvent_74 rfl (lv_at hl 0 rfl) ?_
        refine fd_get 0 4 2 C hH (by decide) rfl (by decide) (by decide) wf_X4_28 (v := .ref (E.2.2 5)) rfl dX4_writeEvent_75 ?_
        refine lv_bipush (v := (63 : Int32)) hx hb dX4_writeEvent_78 (by decide) ?_
        obtain ⟨S45, e46, hf⟩ := fd_bnd hf
        refine fd_callV0 5 1 [.int (63 : Int32)] C hl.1 hH (cL_put l E S41 (63 : Int32) e46) wm_X4_130 (by decide) rfl (by decide) rfl ⟨rfl, rfl, Nat.le_of_ble_eq_true rfl, Nat.le_of_ble_eq_true rfl⟩ rfl rfl (Nat.le_of_ble_eq_true rfl) ⟨Nat.le_refl _, Nat.le_refl _⟩ dX4_writeEvent_80 (fun H locs hH => ?_)
        exact wS_writeEvent_83 C hr hlk fu S45 x1 x2 x3 _ _ _ hf hH (lv_sub hl [0, 1, 2, 3] rfl)
    · have hf := fd_ifp c43 hf
      refine lv_aload_n hx hb dX4_writeEvent_60 rfl (lv_at hl 0 rfl) ?_
      refine fd_get 0 4 2 C hH (by decide) rfl (by decide) (by decide) wf_X4_28 (v := .ref (E.2.2 5)) rfl dX4_writeEvent_61 ?_
      refine lv_bipush (v := (126 : Int32)) hx hb dX4_writeEvent_64 (by decide) ?_
      obtain ⟨S47, e48, hf⟩ := fd_bnd hf
      refine fd_callV0 5 1 [.int (126 : Int32)] C hl.1 hH (cL_put l E S41 (126 : Int32) e48) wm_X4_130 (by decide) rfl (by decide) rfl ⟨rfl, rfl, Nat.le_of_ble_eq_true rfl, Nat.le_of_ble_eq_true rfl⟩ rfl rfl (Nat.le_of_ble_eq_true rfl) ⟨Nat.le_refl _, Nat.le_refl _⟩ dX4_writeEvent_66 (fun H locs hH => ?_)
      refine lv_iload_n hx hb dX4_writeEvent_69 rfl (lv_at hl 3 rfl) ?_
      refine lv_iconst (v := (2 : Int32)) hx hb dX4_writeEvent_70 (by decide) ?_
      refine lv_icmp_ne (tgt := 83) hx hb dX4_writeEvent_71 (by decide) (fun c49 => ?_) (fun c49 => ?_)
      · have hf := fd_ifn c49 hf
        exact wS_writeEvent_83 C hr hlk fu S47 x1 x2 x3 _ _ _ hf hH (lv_sub hl [0, 1, 2, 3] rfl)
      · have hf := fd_ifp c49 hf
        refine lv_aload_n hx hb dX4_writeEvent_74 rfl (lv_at hl 0 rfl) ?_
        refine fd_get 0 4 2 C hH (by decide) rfl (by decide) (by decide) wf_X4_28 (v := .ref (E.2.2 5)) rfl dX4_writeEvent_75 ?_
        refine lv_bipush (v := (63 : Int32)) hx hb dX4_writeEvent_78 (by decide) ?_
        obtain ⟨S50, e51, hf⟩ := fd_bnd hf
        refine fd_callV0 5 1 [.int (63 : Int32)] C hl.1 hH (cL_put l E S47 (63 : Int32) e51) wm_X4_130 (by decide) rfl (by decide) rfl ⟨rfl, rfl, Nat.le_of_ble_eq_true rfl, Nat.le_of_ble_eq_true rfl⟩ rfl rfl (Nat.le_of_ble_eq_true rfl) ⟨Nat.le_refl _, Nat.le_refl _⟩ dX4_writeEvent_80 (fun H locs hH => ?_)
        exact wS_writeEvent_83 C hr hlk fu S50 x1 x2 x3 _ _ _ hf hH (lv_sub hl [0, 1, 2, 3] rfl)
set_option maxHeartbeats 4000000 in
set_option maxRecDepth 100000 in
theorem cS_writeEvent (l : Launch) (E : fd_E) (fu : Nat) (S : fd_S) (x1 : Int32) (x2 : Int32) (x3 : Int32) {S0 : fd_S} (hf : zS_writeEvent fu S x1 x2 x3 = some S0) : fd_Ct l yX4_writeEvent cX4_writeEvent 6 none (fd_rm 3 67) E S [.ref (E.2.2 0), .int x1, .int x2, .int x3] none S0 := by
  unfold zS_writeEvent at hf
  refine fd_Ct_of (by decide +kernel) (Nat.le_of_ble_eq_true rfl) ?_
  intro p e s m below meth c ls C hr hlk hH hl
  have hx := C.1
  have hb := C.2.1
  have hl : lv_has ls 6 [(0, .ref (E.2.2 0)), (1, .int x1), (2, .int x2), (3, .int x3)] := hl
  refine lv_aload_n hx hb dX4_writeEvent_0 rfl (lv_at hl 0 rfl) ?_
  refine fd_get 0 4 3 C hH (by decide) rfl (by decide) (by decide) wf_X4_32 (v := .ref (E.2.2 20)) rfl dX4_writeEvent_1 ?_
  refine lv_iload_n hx hb dX4_writeEvent_4 rfl (lv_at hl 1 rfl) ?_
  obtain ⟨g1, hf⟩ := fd_grd hf
  refine fd_iald 20 (32 : Int32) C hH (by decide) rfl rfl g1 dX4_writeEvent_5 ?_
  refine lv_topi (fun y2 ey2 => ?_)
  have hf := fd_ltN ey2 hf
  refine lv_istore (lv' := [(4, .int y2), (0, .ref (E.2.2 0)), (1, .int x1), (2, .int x2), (3, .int x3)]) hx hb dX4_writeEvent_6 hl (by decide) rfl (fun ls hl => ?_)
  refine lv_aload_n hx hb dX4_writeEvent_8 rfl (lv_at hl 1 rfl) ?_
  refine fd_get 0 4 2 C hH (by decide) rfl (by decide) (by decide) wf_X4_28 (v := .ref (E.2.2 5)) rfl dX4_writeEvent_9 ?_
  refine lv_iload hx hb dX4_writeEvent_12 (lv_at hl 0 rfl) ?_
  refine lv_bipush (v := (-6 : Int32)) hx hb dX4_writeEvent_14 (by decide) ?_
  refine lv_icmp_ne (tgt := 24) hx hb dX4_writeEvent_16 (by decide) (fun c3 => ?_) (fun c3 => ?_)
  · have hf := fd_ifn c3 hf
    refine lv_bipush (v := (65 : Int32)) hx hb dX4_writeEvent_24 (by decide) ?_
    exact wS_writeEvent_26 C hr hlk fu S x1 x2 x3 y2 (65 : Int32) _ _ _ hf hH (lv_sub hl [1, 2, 3, 4, 0] rfl)
  · have hf := fd_ifp c3 hf
    refine lv_bipush (v := (87 : Int32)) hx hb dX4_writeEvent_19 (by decide) ?_
    refine lv_goto (tgt := 26) hx hb dX4_writeEvent_21 (by decide) ?_
    exact wS_writeEvent_26 C hr hlk fu S x1 x2 x3 y2 (87 : Int32) _ _ _ hf hH (lv_sub hl [1, 2, 3, 4, 0] rfl)
