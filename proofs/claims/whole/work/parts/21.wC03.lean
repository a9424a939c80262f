theorem dX4_isHeld_0 : decode cX4_isHeld 0 = .ok (.aload_n 0, 1) := by decide +kernel
theorem dX4_isHeld_1 : decode cX4_isHeld 1 = .ok (.ifnull 14, 3) := by decide +kernel
theorem dX4_isHeld_4 : decode cX4_isHeld 4 = .ok (.aload_n 0, 1) := by decide +kernel
theorem dX4_isHeld_5 : decode cX4_isHeld 5 = .ok (.getfield 116, 3) := by decide +kernel
theorem dX4_isHeld_8 : decode cX4_isHeld 8 = .ok (.ifCond .eq 7, 3) := by decide +kernel
theorem dX4_isHeld_11 : decode cX4_isHeld 11 = .ok (.iconst 1, 1) := by decide +kernel
theorem dX4_isHeld_12 : decode cX4_isHeld 12 = .ok (.goto 4, 3) := by decide +kernel
theorem dX4_isHeld_15 : decode cX4_isHeld 15 = .ok (.iconst 0, 1) := by decide +kernel
theorem dX4_isHeld_16 : decode cX4_isHeld 16 = .ok (.ireturn, 1) := by decide +kernel
set_option maxHeartbeats 4000000 in
set_option maxRecDepth 100000 in
theorem cS_isHeld (l : Launch) (E : fd_E) (S : fd_S) (o0 : (Option Nat)) {r0 : Int32} (hf : zS_isHeld S o0 = some r0) : fd_Ct l yX4_isHeld cX4_isHeld 1 (some .boolean) (fd_rm 0 0) E S [fd_rv E o0] (some (.int r0)) S := by
  unfold zS_isHeld at hf
  cases o0 with
  | none =>
    have hf := fd_on_n hf
    refine fd_Ct_of (by decide +kernel) (Nat.le_of_ble_eq_true rfl) ?_
    intro p e s m below meth c ls C hr hlk hH hl
    have hx := C.1
    have hb := C.2.1
    have hl : lv_has ls 1 [(0, .null)] := hl
    refine lv_aload_nN hx hb dX4_isHeld_0 rfl (lv_at hl 0 rfl) ?_
    refine lv_ifnullN (tgt := 15) hx hb dX4_isHeld_1 (by decide) ?_
    refine lv_iconst (v := (0 : Int32)) hx hb dX4_isHeld_15 (by decide) ?_
    cases hf
    exact fd_zret .boolean C hr hlk hH rfl dX4_isHeld_16
  | some k0 =>
    have hf := fd_on_s hf
    refine fd_Ct_of (by decide +kernel) (Nat.le_of_ble_eq_true rfl) ?_
    intro p e s m below meth c ls C hr hlk hH hl
    have hx := C.1
    have hb := C.2.1
    have hl : lv_has ls 1 [(0, .ref (E.2.2 k0))] := hl
    refine lv_aload_n hx hb dX4_isHeld_0 rfl (lv_at hl 0 rfl) ?_
    refine lv_ifnull hx hb dX4_isHeld_1 ?_
    refine lv_aload_n hx hb dX4_isHeld_4 rfl (lv_at hl 0 rfl) ?_
    obtain ⟨g1, hf⟩ := fd_grd hf
    refine fd_get k0 3 3 C hH (fd_rk1 g1) (fd_rk3 g1) (by decide) (by decide) wf_X4_116 (v := .int (S k0 (3 : Int32))) rfl dX4_isHeld_5 ?_
    refine lv_if_eq (tgt := 15) hx hb dX4_isHeld_8 (by decide) (fun c2 => ?_) (fun c2 => ?_)
    · have hf := fd_ifp c2 hf
      refine lv_iconst (v := (0 : Int32)) hx hb dX4_isHeld_15 (by decide) ?_
      cases hf
      exact fd_zret .boolean C hr hlk hH rfl dX4_isHeld_16
    · have hf := fd_ifn c2 hf
      refine lv_iconst (v := (1 : Int32)) hx hb dX4_isHeld_11 (by decide) ?_
      refine lv_goto (tgt := 16) hx hb dX4_isHeld_12 (by decide) ?_
      cases hf
      exact fd_zret .boolean C hr hlk hH rfl dX4_isHeld_16
theorem dX4_findBest_0 : decode cX4_findBest 0 = .ok (.bipush (-6), 2) := by decide +kernel
theorem dX4_findBest_2 : decode cX4_findBest 2 = .ok (.istore_n 2, 1) := by decide +kernel
theorem dX4_findBest_3 : decode cX4_findBest 3 = .ok (.iconst 0, 1) := by decide +kernel
theorem dX4_findBest_4 : decode cX4_findBest 4 = .ok (.istore_n 3, 1) := by decide +kernel
theorem dX4_findBest_5 : decode cX4_findBest 5 = .ok (.iload_n 3, 1) := by decide +kernel
theorem dX4_findBest_6 : decode cX4_findBest 6 = .ok (.iconst 4, 1) := by decide +kernel
theorem dX4_findBest_7 : decode cX4_findBest 7 = .ok (.if_icmp .ge 70, 3) := by decide +kernel
theorem dX4_findBest_10 : decode cX4_findBest 10 = .ok (.iload_n 3, 1) := by decide +kernel
theorem dX4_findBest_11 : decode cX4_findBest 11 = .ok (.iload_n 1, 1) := by decide +kernel
theorem dX4_findBest_12 : decode cX4_findBest 12 = .ok (.invokestatic 176, 3) := by decide +kernel
theorem dX4_findBest_15 : decode cX4_findBest 15 = .ok (.istore 4, 2) := by decide +kernel
theorem dX4_findBest_17 : decode cX4_findBest 17 = .ok (.aload_n 0, 1) := by decide +kernel
theorem dX4_findBest_18 : decode cX4_findBest 18 = .ok (.getfield 32, 3) := by decide +kernel
theorem dX4_findBest_21 : decode cX4_findBest 21 = .ok (.iload 4, 2) := by decide +kernel
theorem dX4_findBest_23 : decode cX4_findBest 23 = .ok (.iaload, 1) := by decide +kernel
theorem dX4_findBest_24 : decode cX4_findBest 24 = .ok (.istore 5, 2) := by decide +kernel
theorem dX4_findBest_26 : decode cX4_findBest 26 = .ok (.iload 5, 2) := by decide +kernel
theorem dX4_findBest_28 : decode cX4_findBest 28 = .ok (.iconst 4, 1) := by decide +kernel
theorem dX4_findBest_29 : decode cX4_findBest 29 = .ok (.imul, 1) := by decide +kernel
theorem dX4_findBest_30 : decode cX4_findBest 30 = .ok (.iload_n 3, 1) := by decide +kernel
theorem dX4_findBest_31 : decode cX4_findBest 31 = .ok (.iadd, 1) := by decide +kernel
theorem dX4_findBest_32 : decode cX4_findBest 32 = .ok (.istore 6, 2) := by decide +kernel
theorem dX4_findBest_34 : decode cX4_findBest 34 = .ok (.iload 5, 2) := by decide +kernel
theorem dX4_findBest_36 : decode cX4_findBest 36 = .ok (.bipush (-6), 2) := by decide +kernel
theorem dX4_findBest_38 : decode cX4_findBest 38 = .ok (.if_icmp .eq 33, 3) := by decide +kernel
theorem dX4_findBest_41 : decode cX4_findBest 41 = .ok (.iload_n 2, 1) := by decide +kernel
theorem dX4_findBest_42 : decode cX4_findBest 42 = .ok (.bipush (-6), 2) := by decide +kernel
theorem dX4_findBest_44 : decode cX4_findBest 44 = .ok (.if_icmp .eq 9, 3) := by decide +kernel
theorem dX4_findBest_47 : decode cX4_findBest 47 = .ok (.iload 6, 2) := by decide +kernel
theorem dX4_findBest_49 : decode cX4_findBest 49 = .ok (.iload_n 2, 1) := by decide +kernel
theorem dX4_findBest_50 : decode cX4_findBest 50 = .ok (.if_icmp .ge 21, 3) := by decide +kernel
theorem dX4_findBest_53 : decode cX4_findBest 53 = .ok (.aload_n 0, 1) := by decide +kernel
theorem dX4_findBest_54 : decode cX4_findBest 54 = .ok (.getfield 21, 3) := by decide +kernel
theorem dX4_findBest_57 : decode cX4_findBest 57 = .ok (.iload 4, 2) := by decide +kernel
theorem dX4_findBest_59 : decode cX4_findBest 59 = .ok (.invokevirtual 71, 3) := by decide +kernel
theorem dX4_findBest_62 : decode cX4_findBest 62 = .ok (.invokestatic 179, 3) := by decide +kernel
theorem dX4_findBest_65 : decode cX4_findBest 65 = .ok (.ifCond .ne 6, 3) := by decide +kernel
theorem dX4_findBest_68 : decode cX4_findBest 68 = .ok (.iload 6, 2) := by decide +kernel
theorem dX4_findBest_70 : decode cX4_findBest 70 = .ok (.istore_n 2, 1) := by decide +kernel
theorem dX4_findBest_71 : decode cX4_findBest 71 = .ok (.iinc 3 1, 3) := by decide +kernel
theorem dX4_findBest_74 : decode cX4_findBest 74 = .ok (.goto (-69), 3) := by decide +kernel
theorem dX4_findBest_77 : decode cX4_findBest 77 = .ok (.iload_n 2, 1) := by decide +kernel
theorem dX4_findBest_78 : decode cX4_findBest 78 = .ok (.ireturn, 1) := by decide +kernel
set_option maxHeartbeats 4000000 in
set_option maxRecDepth 100000 in
theorem wS_findBest_5 {p : Program} {l : Launch} {e : Env} {s : State} {m : MethodId} {args : Array Value} {below : List Frame} {meth : Method} {c : Code} {E : fd_E} (C : fd_C p s m args c yX4_findBest.cls cX4_findBest 7 E) (hr : meth.sig.returnType = (some .int)) (hlk : meth.locks = false) (fu : Nat) {r0 : Int32} : ∀ (n : Nat) (S : fd_S) (x1 : Int32) (x2 : Int32) (x3 : Int32) (H : Heap) (locs : List Loc) (ls : Array Slot), zS_findBest_5 fu n S x1 x2 x3 = some r0 → fd_H E S s H locs → lv_has ls 7 [(0, .ref (E.2.2 0)), (1, .int x1), (2, .int x2), (3, .int x3)] → W p l e (fd_rm 1 22) s m args below meth c H locs 0 0 (MQ below (fd_Q E (some (.int r0)) S) args s 0 0 (fd_A E)) (F0 m 5 ls []) := by
  have hx := C.1
  have hb := C.2.1
  intro n
  induction n with
  | zero =>
    intro S x1 x2 x3 H locs ls hf
    rw [zS_findBest_5] at hf
    cases hf
  | succ n ih =>
    intro S x1 x2 x3 H locs ls hf hH hl
    rw [zS_findBest_5] at hf
    refine lv_iload_n hx hb dX4_findBest_5 rfl (lv_at hl 3 rfl) ?_
    refine lv_iconst (v := (4 : Int32)) hx hb dX4_findBest_6 (by decide) ?_
    refine lv_icmp_ge (tgt := 77) hx hb dX4_findBest_7 (by decide) (fun c1 => ?_) (fun c1 => ?_)
    · have hf := fd_ifp c1 hf
      refine lv_iload_n hx hb dX4_findBest_77 rfl (lv_at hl 2 rfl) ?_
      cases hf
      exact fd_iret C hr hlk hH dX4_findBest_78
    · have hf := fd_ifn c1 hf
      refine lv_iload_n hx hb dX4_findBest_10 rfl (lv_at hl 3 rfl) ?_
      refine lv_iload_n hx hb dX4_findBest_11 rfl (lv_at hl 1 rfl) ?_
      refine fd_callN1 "FlapDamper" [.int x3, .int x1] C hl.1 hH (cF_routeOf l E S x3 x1) wm_X4_176 C.2.2.2.2.2.2.1.2.2.1 ⟨rfl, rfl, Nat.le_of_ble_eq_true rfl, Nat.le_of_ble_eq_true rfl⟩ rfl rfl (Nat.le_of_ble_eq_true rfl) ⟨Nat.le_refl _, Nat.le_refl _⟩ dX4_findBest_12 (fun H locs hH => ?_)
      refine lv_topi (fun y2 ey2 => ?_)
      have hf := fd_ltN ey2 hf
      refine lv_istore (lv' := [(4, .int y2), (0, .ref (E.2.2 0)), (1, .int x1), (2, .int x2), (3, .int x3)]) hx hb dX4_findBest_15 hl (by decide) rfl (fun ls hl => ?_)
      refine lv_aload_n hx hb dX4_findBest_17 rfl (lv_at hl 1 rfl) ?_
      refine fd_get 0 4 3 C hH (by decide) rfl (by decide) (by decide) wf_X4_32 (v := .ref (E.2.2 20)) rfl dX4_findBest_18 ?_
      refine lv_iload hx hb dX4_findBest_21 (lv_at hl 0 rfl) ?_
      obtain ⟨g3, hf⟩ := fd_grd hf
      refine fd_iald 20 (32 : Int32) C hH (by decide) rfl rfl g3 dX4_findBest_23 ?_
      refine lv_topi (fun y4 ey4 => ?_)
      have hf := fd_ltN ey4 hf
      refine lv_istore (lv' := [(5, .int y4), (4, .int y2), (0, .ref (E.2.2 0)), (1, .int x1), (2, .int x2), (3, .int x3)]) hx hb dX4_findBest_24 hl (by decide) rfl (fun ls hl => ?_)
      refine lv_iload hx hb dX4_findBest_26 (lv_at hl 0 rfl) ?_
      refine lv_iconst (v := (4 : Int32)) hx hb dX4_findBest_28 (by decide) ?_
      refine lv_imul hx hb dX4_findBest_29 ?_
      refine lv_iload_n hx hb dX4_findBest_30 rfl (lv_at hl 5 rfl) ?_
      refine lv_iadd hx hb dX4_findBest_31 ?_
      refine lv_topi (fun y5 ey5 => ?_)
      have hf := fd_ltN ey5 hf
      refine lv_istore (lv' := [(6, .int y5), (5, .int y4), (4, .int y2), (0, .ref (E.2.2 0)), (1, .int x1), (2, .int x2), (3, .int x3)]) hx hb dX4_findBest_32 hl (by decide) rfl (fun ls hl => ?_)
      refine lv_iload hx hb dX4_findBest_34 (lv_at hl 1 rfl) ?_
      refine lv_bipush (v := (-6 : Int32)) hx hb dX4_findBest_36 (by decide) ?_
      refine lv_icmp_eq (tgt := 71) hx hb dX4_findBest_38 (by decide) (fun c6 => ?_) (fun c6 => ?_)
      · have hf := fd_ifp c6 hf
        obtain ⟨y7, ey7, hf⟩ := fd_ltS hf
        refine lv_iinc (v := y7) (lv' := [(3, .int y7), (6, .int y5), (5, .int y4), (4, .int y2), (0, .ref (E.2.2 0)), (1, .int x1), (2, .int x2)]) hx hb dX4_findBest_71 hl (k := 6) rfl (by rw [ey7]; rfl) (by decide) rfl (fun ls hl => ?_)
        refine lv_goto (tgt := 5) hx hb dX4_findBest_74 (by decide) ?_
        exact ih S x1 x2 y7 _ _ _ hf hH (lv_sub hl [4, 5, 6, 0] rfl)
      · have hf := fd_ifn c6 hf
        refine lv_iload_n hx hb dX4_findBest_41 rfl (lv_at hl 5 rfl) ?_
        refine lv_bipush (v := (-6 : Int32)) hx hb dX4_findBest_42 (by decide) ?_
        refine lv_icmp_eq (tgt := 53) hx hb dX4_findBest_44 (by decide) (fun c8 => ?_) (fun c8 => ?_)
        · have hf := fd_ifp c8 hf
          refine lv_aload_n hx hb dX4_findBest_53 rfl (lv_at hl 3 rfl) ?_
          refine fd_get 0 4 1 C hH (by decide) rfl (by decide) (by decide) wf_X4_21 (v := .ref (E.2.2 3)) rfl dX4_findBest_54 ?_
          refine lv_iload hx hb dX4_findBest_57 (lv_at hl 2 rfl) ?_
          obtain ⟨r9, e10, hf⟩ := fd_bnd hf
          refine fd_callV1 3 2 [.int y2] C hl.1 hH (cQ_find l E fu S y2 e10) wm_X4_71 (by decide) rfl (by decide) rfl ⟨rfl, rfl, Nat.le_of_ble_eq_true rfl, Nat.le_of_ble_eq_true rfl⟩ rfl rfl (Nat.le_of_ble_eq_true rfl) ⟨Nat.le_refl _, Nat.le_refl _⟩ dX4_findBest_59 (fun H locs hH => ?_)
          obtain ⟨r11, e12, hf⟩ := fd_bnd hf
          refine fd_callS1 [fd_rv E r9] C hl.1 hH (cS_isHeld l E S r9 e12) wm_X4_179 ⟨rfl, rfl, Nat.le_of_ble_eq_true rfl, Nat.le_of_ble_eq_true rfl⟩ rfl rfl (Nat.le_of_ble_eq_true rfl) ⟨Nat.le_refl _, Nat.le_refl _⟩ dX4_findBest_62 (fun H locs hH => ?_)
          refine lv_if_ne (tgt := 71) hx hb dX4_findBest_65 (by decide) (fun c13 => ?_) (fun c13 => ?_)
          · have hf := fd_ifn c13 hf
            obtain ⟨y14, ey14, hf⟩ := fd_ltS hf
            refine lv_iinc (v := y14) (lv' := [(3, .int y14), (6, .int y5), (5, .int y4), (4, .int y2), (0, .ref (E.2.2 0)), (1, .int x1), (2, .int x2)]) hx hb dX4_findBest_71 hl (k := 6) rfl (by rw [ey14]; rfl) (by decide) rfl (fun ls hl => ?_)
            refine lv_goto (tgt := 5) hx hb dX4_findBest_74 (by decide) ?_
            exact ih S x1 x2 y14 _ _ _ hf hH (lv_sub hl [4, 5, 6, 0] rfl)
          · have hf := fd_ifp c13 hf
            refine lv_iload hx hb dX4_findBest_68 (lv_at hl 0 rfl) ?_
            refine lv_istore_n (lv' := [(2, .int y5), (6, .int y5), (5, .int y4), (4, .int y2), (0, .ref (E.2.2 0)), (1, .int x1), (3, .int x3)]) hx hb dX4_findBest_70 rfl hl (by decide) rfl (fun ls hl => ?_)
            obtain ⟨y15, ey15, hf⟩ := fd_ltS hf
            refine lv_iinc (v := y15) (lv' := [(3, .int y15), (2, .int y5), (6, .int y5), (5, .int y4), (4, .int y2), (0, .ref (E.2.2 0)), (1, .int x1)]) hx hb dX4_findBest_71 hl (k := 6) rfl (by rw [ey15]; rfl) (by decide) rfl (fun ls hl => ?_)
            refine lv_goto (tgt := 5) hx hb dX4_findBest_74 (by decide) ?_
            exact ih S x1 y5 y15 _ _ _ hf hH (lv_sub hl [5, 6, 1, 0] rfl)
        · have hf := fd_ifn c8 hf
          refine lv_iload hx hb dX4_findBest_47 (lv_at hl 0 rfl) ?_
          refine lv_iload_n hx hb dX4_findBest_49 rfl (lv_at hl 5 rfl) ?_
          refine lv_icmp_ge (tgt := 71) hx hb dX4_findBest_50 (by decide) (fun c16 => ?_) (fun c16 => ?_)
          · have hf := fd_ifp c16 hf
            obtain ⟨y17, ey17, hf⟩ := fd_ltS hf
            refine lv_iinc (v := y17) (lv' := [(3, .int y17), (6, .int y5), (5, .int y4), (4, .int y2), (0, .ref (E.2.2 0)), (1, .int x1), (2, .int x2)]) hx hb dX4_findBest_71 hl (k := 6) rfl (by rw [ey17]; rfl) (by decide) rfl (fun ls hl => ?_)
            refine lv_goto (tgt := 5) hx hb dX4_findBest_74 (by decide) ?_
            exact ih S x1 x2 y17 _ _ _ hf hH (lv_sub hl [4, 5, 6, 0] rfl)
          · have hf := fd_ifn c16 hf
            refine lv_aload_n hx hb dX4_findBest_53 rfl (lv_at hl 3 rfl) ?_
            refine fd_get 0 4 1 C hH (by decide) rfl (by decide) (by decide) wf_X4_21 (v := .ref (E.2.2 3)) rfl dX4_findBest_54 ?_
            refine lv_iload hx hb dX4_findBest_57 (lv_at hl 2 rfl) ?_
            obtain ⟨r18, e19, hf⟩ := fd_bnd hf
            refine fd_callV1 3 2 [.int y2] C hl.1 hH (cQ_find l E fu S y2 e19) wm_X4_71 (by decide) rfl (by decide) rfl ⟨rfl, rfl, Nat.le_of_ble_eq_true rfl, Nat.le_of_ble_eq_true rfl⟩ rfl rfl (Nat.le_of_ble_eq_true rfl) ⟨Nat.le_refl _, Nat.le_refl _⟩ dX4_findBest_59 (fun H locs hH => ?_)
            obtain ⟨r20, e21, hf⟩ := fd_bnd hf
            refine fd_callS1 [fd_rv E r18] C hl.1 hH (cS_isHeld l E S r18 e21) wm_X4_179 ⟨rfl, rfl, Nat.le_of_ble_eq_true rfl, Nat.le_of_ble_eq_true rfl⟩ rfl rfl (Nat.le_of_ble_eq_true rfl) ⟨Nat.le_refl _, Nat.le_refl _⟩ dX4_findBest_62 (fun H locs hH => ?_)
            refine lv_if_ne (tgt := 71) hx hb dX4_findBest_65 (by decide) (fun c22 => ?_) (fun c22 => ?_)
            · have hf := fd_ifn c22 hf
              obtain ⟨y23, ey23, hf⟩ := fd_ltS hf
              refine lv_iinc (v := y23) (lv' := [(3, .int y23), (6, .int y5), (5, .int y4), (4, .int y2), (0, .ref (E.2.2 0)), (1, .int x1), (2, .int x2)]) hx hb dX4_findBest_71 hl (k := 6) rfl (by rw [ey23]; rfl) (by decide) rfl (fun ls hl => ?_)
              refine lv_goto (tgt := 5) hx hb dX4_findBest_74 (by decide) ?_
              exact ih S x1 x2 y23 _ _ _ hf hH (lv_sub hl [4, 5, 6, 0] rfl)
            · have hf := fd_ifp c22 hf
              refine lv_iload hx hb dX4_findBest_68 (lv_at hl 0 rfl) ?_
              refine lv_istore_n (lv' := [(2, .int y5), (6, .int y5), (5, .int y4), (4, .int y2), (0, .ref (E.2.2 0)), (1, .int x1), (3, .int x3)]) hx hb dX4_findBest_70 rfl hl (by decide) rfl (fun ls hl => ?_)
              obtain ⟨y24, ey24, hf⟩ := fd_ltS hf
              refine lv_iinc (v := y24) (lv' := [(3, .int y24), (2, .int y5), (6, .int y5), (5, .int y4), (4, .int y2), (0, .ref (E.2.2 0)), (1, .int x1)]) hx hb dX4_findBest_71 hl (k := 6) rfl (by rw [ey24]; rfl) (by decide) rfl (fun ls hl => ?_)
              refine lv_goto (tgt := 5) hx hb dX4_findBest_74 (by decide) ?_
              exact ih S x1 y5 y24 _ _ _ hf hH (lv_sub hl [5, 6, 1, 0] rfl)
set_option maxHeartbeats 4000000 in
set_option maxRecDepth 100000 in
theorem cS_findBest (l : Launch) (E : fd_E) (fu : Nat) (S : fd_S) (x1 : Int32) {r0 : Int32} (hf : zS_findBest fu S x1 = some r0) : fd_Ct l yX4_findBest cX4_findBest 7 (some .int) (fd_rm 1 22) E S [.ref (E.2.2 0), .int x1] (some (.int r0)) S := by
  unfold zS_findBest at hf
  refine fd_Ct_of (by decide +kernel) (Nat.le_of_ble_eq_true rfl) ?_
  intro p e s m below meth c ls C hr hlk hH hl
  have hx := C.1
  have hb := C.2.1
  have hl : lv_has ls 7 [(0, .ref (E.2.2 0)), (1, .int x1)] := hl
  refine lv_bipush (v := (-6 : Int32)) hx hb dX4_findBest_0 (by decide) ?_
  refine lv_istore_n (lv' := [(2, .int (-6 : Int32)), (0, .ref (E.2.2 0)), (1, .int x1)]) hx hb dX4_findBest_2 rfl hl (by decide) rfl (fun ls hl => ?_)
  refine lv_iconst (v := (0 : Int32)) hx hb dX4_findBest_3 (by decide) ?_
  refine lv_istore_n (lv' := [(3, .int (0 : Int32)), (2, .int (-6 : Int32)), (0, .ref (E.2.2 0)), (1, .int x1)]) hx hb dX4_findBest_4 rfl hl (by decide) rfl (fun ls hl => ?_)
  exact wS_findBest_5 C hr hlk fu fu S x1 (-6 : Int32) (0 : Int32) _ _ _ hf hH (lv_sub hl [2, 3, 1, 0] rfl)
theorem dX4_refreshBest_0 : decode cX4_refreshBest 0 = .ok (.aload_n 0, 1) := by decide +kernel
theorem dX4_refreshBest_1 : decode cX4_refreshBest 1 = .ok (.iload_n 1, 1) := by decide +kernel
theorem dX4_refreshBest_2 : decode cX4_refreshBest 2 = .ok (.invokevirtual 172, 3) := by decide +kernel
theorem dX4_refreshBest_5 : decode cX4_refreshBest 5 = .ok (.istore_n 2, 1) := by decide +kernel
theorem dX4_refreshBest_6 : decode cX4_refreshBest 6 = .ok (.iload_n 2, 1) := by decide +kernel
theorem dX4_refreshBest_7 : decode cX4_refreshBest 7 = .ok (.aload_n 0, 1) := by decide +kernel
theorem dX4_refreshBest_8 : decode cX4_refreshBest 8 = .ok (.getfield 36, 3) := by decide +kernel
theorem dX4_refreshBest_11 : decode cX4_refreshBest 11 = .ok (.iload_n 1, 1) := by decide +kernel
theorem dX4_refreshBest_12 : decode cX4_refreshBest 12 = .ok (.iaload, 1) := by decide +kernel
theorem dX4_refreshBest_13 : decode cX4_refreshBest 13 = .ok (.if_icmp .eq 20, 3) := by decide +kernel
theorem dX4_refreshBest_16 : decode cX4_refreshBest 16 = .ok (.aload_n 0, 1) := by decide +kernel
theorem dX4_refreshBest_17 : decode cX4_refreshBest 17 = .ok (.getfield 36, 3) := by decide +kernel
theorem dX4_refreshBest_20 : decode cX4_refreshBest 20 = .ok (.iload_n 1, 1) := by decide +kernel
theorem dX4_refreshBest_21 : decode cX4_refreshBest 21 = .ok (.iload_n 2, 1) := by decide +kernel
theorem dX4_refreshBest_22 : decode cX4_refreshBest 22 = .ok (.iastore, 1) := by decide +kernel
theorem dX4_refreshBest_23 : decode cX4_refreshBest 23 = .ok (.aload_n 0, 1) := by decide +kernel
theorem dX4_refreshBest_24 : decode cX4_refreshBest 24 = .ok (.getfield 39, 3) := by decide +kernel
theorem dX4_refreshBest_27 : decode cX4_refreshBest 27 = .ok (.iload_n 1, 1) := by decide +kernel
theorem dX4_refreshBest_28 : decode cX4_refreshBest 28 = .ok (.dup2, 1) := by decide +kernel
theorem dX4_refreshBest_29 : decode cX4_refreshBest 29 = .ok (.iaload, 1) := by decide +kernel
theorem dX4_refreshBest_30 : decode cX4_refreshBest 30 = .ok (.iconst 1, 1) := by decide +kernel
theorem dX4_refreshBest_31 : decode cX4_refreshBest 31 = .ok (.iadd, 1) := by decide +kernel
theorem dX4_refreshBest_32 : decode cX4_refreshBest 32 = .ok (.iastore, 1) := by decide +kernel
theorem dX4_refreshBest_33 : decode cX4_refreshBest 33 = .ok (.return_, 1) := by decide +kernel
set_option maxHeartbeats 4000000 in
set_option maxRecDepth 100000 in
theorem cS_refreshBest (l : Launch) (E : fd_E) (fu : Nat) (S : fd_S) (x1 : Int32) {S0 : fd_S} (hf : zS_refreshBest fu S x1 = some S0) : fd_Ct l yX4_refreshBest cX4_refreshBest 3 none (fd_rm 2 48) E S [.ref (E.2.2 0), .int x1] none S0 := by
  unfold zS_refreshBest at hf
  refine fd_Ct_of (by decide +kernel) (Nat.le_of_ble_eq_true rfl) ?_
  intro p e s m below meth c ls C hr hlk hH hl
  have hx := C.1
  have hb := C.2.1
  have hl : lv_has ls 3 [(0, .ref (E.2.2 0)), (1, .int x1)] := hl
  refine lv_aload_n hx hb dX4_refreshBest_0 rfl (lv_at hl 0 rfl) ?_
  refine lv_iload_n hx hb dX4_refreshBest_1 rfl (lv_at hl 1 rfl) ?_
  obtain ⟨r1, e2, hf⟩ := fd_bnd hf
  refine fd_callV1 0 4 [.int x1] C hl.1 hH (cS_findBest l E fu S x1 e2) wm_X4_172 (by decide) rfl (by decide) rfl ⟨rfl, rfl, Nat.le_of_ble_eq_true rfl, Nat.le_of_ble_eq_true rfl⟩ rfl rfl (Nat.le_of_ble_eq_true rfl) ⟨Nat.le_refl _, Nat.le_refl _⟩ dX4_refreshBest_2 (fun H locs hH => ?_)
  refine lv_istore_n (lv' := [(2, .int r1), (0, .ref (E.2.2 0)), (1, .int x1)]) hx hb dX4_refreshBest_5 rfl hl (by decide) rfl (fun ls hl => ?_)
  refine lv_iload_n hx hb dX4_refreshBest_6 rfl (lv_at hl 0 rfl) ?_
  refine lv_aload_n hx hb dX4_refreshBest_7 rfl (lv_at hl 1 rfl) ?_
  refine fd_get 0 4 4 C hH (by decide) rfl (by decide) (by decide) wf_X4_36 (v := .ref (E.2.2 21)) rfl dX4_refreshBest_8 ?_
  refine lv_iload_n hx hb dX4_refreshBest_11 rfl (lv_at hl 2 rfl) ?_
  obtain ⟨g3, hf⟩ := fd_grd hf
  refine fd_iald 21 (8 : Int32) C hH (by decide) rfl rfl g3 dX4_refreshBest_12 ?_
  refine lv_icmp_eq (tgt := 33) hx hb dX4_refreshBest_13 (by decide) (fun c4 => ?_) (fun c4 => ?_)
  · have hf := fd_ifp c4 hf
    cases hf
    exact fd_vret C hr hlk hH dX4_refreshBest_33
  · have hf := fd_ifn c4 hf
    refine lv_aload_n hx hb dX4_refreshBest_16 rfl (lv_at hl 1 rfl) ?_
    refine fd_get 0 4 4 C hH (by decide) rfl (by decide) (by decide) wf_X4_36 (v := .ref (E.2.2 21)) rfl dX4_refreshBest_17 ?_
    refine lv_iload_n hx hb dX4_refreshBest_20 rfl (lv_at hl 2 rfl) ?_
    refine lv_iload_n hx hb dX4_refreshBest_21 rfl (lv_at hl 0 rfl) ?_
    obtain ⟨g5, hf⟩ := fd_grd hf
    refine fd_iast 21 (8 : Int32) C hH (by decide) rfl rfl g5 dX4_refreshBest_22 (fun H locs hH => ?_)
    obtain ⟨S6, eS6, hf⟩ := fd_ltS hf
    rw [← eS6] at hH
    refine lv_aload_n hx hb dX4_refreshBest_23 rfl (lv_at hl 1 rfl) ?_
    refine fd_get 0 4 5 C hH (by decide) rfl (by decide) (by decide) wf_X4_39 (v := .ref (E.2.2 22)) rfl dX4_refreshBest_24 ?_
    refine lv_iload_n hx hb dX4_refreshBest_27 rfl (lv_at hl 2 rfl) ?_
    refine lv_dup2_11 hx hb dX4_refreshBest_28 rfl rfl ?_
    obtain ⟨g7, hf⟩ := fd_grd hf
    refine fd_iald 22 (8 : Int32) C hH (by decide) rfl rfl g7 dX4_refreshBest_29 ?_
    refine lv_iconst (v := (1 : Int32)) hx hb dX4_refreshBest_30 (by decide) ?_
    refine lv_iadd hx hb dX4_refreshBest_31 ?_
    obtain ⟨g8, hf⟩ := fd_grd hf
    refine fd_iast 22 (8 : Int32) C hH (by decide) rfl rfl g8 dX4_refreshBest_32 (fun H locs hH => ?_)
    obtain ⟨S9, eS9, hf⟩ := fd_ltS hf
    rw [← eS9] at hH
    cases hf
    exact fd_vret C hr hlk hH dX4_refreshBest_33
theorem dX4_happen_0 : decode cX4_happen 0 = .ok (.aload_n 0, 1) := by decide +kernel
theorem dX4_happen_1 : decode cX4_happen 1 = .ok (.aload_n 0, 1) := by decide +kernel
theorem dX4_happen_2 : decode cX4_happen 2 = .ok (.getfield 32, 3) := by decide +kernel
theorem dX4_happen_5 : decode cX4_happen 5 = .ok (.iload_n 1, 1) := by decide +kernel
theorem dX4_happen_6 : decode cX4_happen 6 = .ok (.iaload, 1) := by decide +kernel
theorem dX4_happen_7 : decode cX4_happen 7 = .ok (.iload_n 2, 1) := by decide +kernel
theorem dX4_happen_8 : decode cX4_happen 8 = .ok (.invokevirtual 48, 3) := by decide +kernel
theorem dX4_happen_11 : decode cX4_happen 11 = .ok (.istore 4, 2) := by decide +kernel
theorem dX4_happen_13 : decode cX4_happen 13 = .ok (.aload_n 0, 1) := by decide +kernel
theorem dX4_happen_14 : decode cX4_happen 14 = .ok (.getfield 32, 3) := by decide +kernel
theorem dX4_happen_17 : decode cX4_happen 17 = .ok (.iload_n 1, 1) := by decide +kernel
theorem dX4_happen_18 : decode cX4_happen 18 = .ok (.iload_n 2, 1) := by decide +kernel
theorem dX4_happen_19 : decode cX4_happen 19 = .ok (.iastore, 1) := by decide +kernel
theorem dX4_happen_20 : decode cX4_happen 20 = .ok (.aload_n 0, 1) := by decide +kernel
theorem dX4_happen_21 : decode cX4_happen 21 = .ok (.dup, 1) := by decide +kernel
theorem dX4_happen_22 : decode cX4_happen 22 = .ok (.getfield 52, 3) := by decide +kernel
theorem dX4_happen_25 : decode cX4_happen 25 = .ok (.iconst 1, 1) := by decide +kernel
theorem dX4_happen_26 : decode cX4_happen 26 = .ok (.iadd, 1) := by decide +kernel
theorem dX4_happen_27 : decode cX4_happen 27 = .ok (.putfield 52, 3) := by decide +kernel
theorem dX4_happen_30 : decode cX4_happen 30 = .ok (.aload_n 0, 1) := by decide +kernel
theorem dX4_happen_31 : decode cX4_happen 31 = .ok (.iload_n 1, 1) := by decide +kernel
theorem dX4_happen_32 : decode cX4_happen 32 = .ok (.iload 4, 2) := by decide +kernel
theorem dX4_happen_34 : decode cX4_happen 34 = .ok (.iload_n 3, 1) := by decide +kernel
theorem dX4_happen_35 : decode cX4_happen 35 = .ok (.invokevirtual 56, 3) := by decide +kernel
theorem dX4_happen_38 : decode cX4_happen 38 = .ok (.istore 5, 2) := by decide +kernel
theorem dX4_happen_40 : decode cX4_happen 40 = .ok (.aload_n 0, 1) := by decide +kernel
theorem dX4_happen_41 : decode cX4_happen 41 = .ok (.iload_n 1, 1) := by decide +kernel
theorem dX4_happen_42 : decode cX4_happen 42 = .ok (.iload 4, 2) := by decide +kernel
theorem dX4_happen_44 : decode cX4_happen 44 = .ok (.iload 5, 2) := by decide +kernel
theorem dX4_happen_46 : decode cX4_happen 46 = .ok (.invokevirtual 60, 3) := by decide +kernel
theorem dX4_happen_49 : decode cX4_happen 49 = .ok (.aload_n 0, 1) := by decide +kernel
theorem dX4_happen_50 : decode cX4_happen 50 = .ok (.iload_n 1, 1) := by decide +kernel
theorem dX4_happen_51 : decode cX4_happen 51 = .ok (.bipush 8, 2) := by decide +kernel
theorem dX4_happen_53 : decode cX4_happen 53 = .ok (.irem, 1) := by decide +kernel
theorem dX4_happen_54 : decode cX4_happen 54 = .ok (.invokevirtual 64, 3) := by decide +kernel
theorem dX4_happen_57 : decode cX4_happen 57 = .ok (.iload 5, 2) := by decide +kernel
theorem dX4_happen_59 : decode cX4_happen 59 = .ok (.ireturn, 1) := by decide +kernel
set_option maxHeartbeats 4000000 in
set_option maxRecDepth 100000 in
theorem cS_happen (l : Launch) (E : fd_E) (fu : Nat) (S : fd_S) (x1 : Int32) (x2 : Int32) (x3 : Int32) {r0 : Int32} {S0 : fd_S} (hf : zS_happen fu S x1 x2 x3 = some (r0, S0)) : fd_Ct l yX4_happen cX4_happen 6 (some .int) (fd_rm 5 121) E S [.ref (E.2.2 0), .int x1, .int x2, .int x3] (some (.int r0)) S0 := by
  unfold zS_happen at hf
  refine fd_Ct_of (by decide +kernel) (Nat.le_of_ble_eq_true rfl) ?_
  intro p e s m below meth c ls C hr hlk hH hl
  have hx := C.1
  have hb := C.2.1
  have hl : lv_has ls 6 [(0, .ref (E.2.2 0)), (1, .int x1), (2, .int x2), (3, .int x3)] := hl
  refine lv_aload_n hx hb dX4_happen_0 rfl (lv_at hl 0 rfl) ?_
  refine lv_aload_n hx hb dX4_happen_1 rfl (lv_at hl 0 rfl) ?_
  refine fd_get 0 4 3 C hH (by decide) rfl (by decide) (by decide) wf_X4_32 (v := .ref (E.2.2 20)) rfl dX4_happen_2 ?_
  refine lv_iload_n hx hb dX4_happen_5 rfl (lv_at hl 1 rfl) ?_
  obtain ⟨g1, hf⟩ := fd_grd hf
  refine fd_iald 20 (32 : Int32) C hH (by decide) rfl rfl g1 dX4_happen_6 ?_
  refine lv_iload_n hx hb dX4_happen_7 rfl (lv_at hl 2 rfl) ?_
  refine fd_callV1 0 4 [.int (S 20 x1), .int x2] C hl.1 hH (cS_weigh l E S (S 20 x1) x2) wm_X4_48 (by decide) rfl (by decide) rfl ⟨rfl, rfl, Nat.le_of_ble_eq_true rfl, Nat.le_of_ble_eq_true rfl⟩ rfl rfl (Nat.le_of_ble_eq_true rfl) ⟨Nat.le_refl _, Nat.le_refl _⟩ dX4_happen_8 (fun H locs hH => ?_)
  refine lv_topi (fun y2 ey2 => ?_)
  have hf := fd_ltN ey2 hf
  refine lv_istore (lv' := [(4, .int y2), (0, .ref (E.2.2 0)), (1, .int x1), (2, .int x2), (3, .int x3)]) hx hb dX4_happen_11 hl (by decide) rfl (fun ls hl => ?_)
  refine lv_aload_n hx hb dX4_happen_13 rfl (lv_at hl 1 rfl) ?_
  refine fd_get 0 4 3 C hH (by decide) rfl (by decide) (by decide) wf_X4_32 (v := .ref (E.2.2 20)) rfl dX4_happen_14 ?_
  refine lv_iload_n hx hb dX4_happen_17 rfl (lv_at hl 2 rfl) ?_
  refine lv_iload_n hx hb dX4_happen_18 rfl (lv_at hl 3 rfl) ?_
  obtain ⟨g3, hf⟩ := fd_grd hf
  refine fd_iast 20 (32 : Int32) C hH (by decide) rfl rfl g3 dX4_happen_19 (fun H locs hH => ?_)
  obtain ⟨S4, eS4, hf⟩ := fd_ltS hf
  rw [← eS4] at hH
  refine lv_aload_n hx hb dX4_happen_20 rfl (lv_at hl 1 rfl) ?_
  refine lv_dup hx hb dX4_happen_21 rfl ?_
  refine fd_get 0 4 7 C hH (by decide) rfl (by decide) (by decide) wf_X4_52 (v := .int (S4 0 (7 : Int32))) rfl dX4_happen_22 ?_
  refine lv_iconst (v := (1 : Int32)) hx hb dX4_happen_25 (by decide) ?_
  refine lv_iadd hx hb dX4_happen_26 ?_
  refine fd_put 0 4 7 (7 : Int32) C hH (by decide) rfl (by decide) (by decide) wf_X4_52 rfl rfl rfl rfl rfl (Nat.le_of_ble_eq_true rfl) dX4_happen_27 (fun H locs hH => ?_)
  obtain ⟨S5, eS5, hf⟩ := fd_ltS hf
  rw [← eS5] at hH
  refine lv_aload_n hx hb dX4_happen_30 rfl (lv_at hl 1 rfl) ?_
  refine lv_iload_n hx hb dX4_happen_31 rfl (lv_at hl 2 rfl) ?_
  refine lv_iload hx hb dX4_happen_32 (lv_at hl 0 rfl) ?_
  refine lv_iload_n hx hb dX4_happen_34 rfl (lv_at hl 4 rfl) ?_
  obtain ⟨q9, e7, hf⟩ := fd_bnd hf
  obtain ⟨r8, S6⟩ := q9
  have hf := fd_prE hf
  refine fd_callV1 0 4 [.int x1, .int y2, .int x3] C hl.1 hH (cS_judge l E fu S5 x1 y2 x3 e7) wm_X4_56 (by decide) rfl (by decide) rfl ⟨rfl, rfl, Nat.le_of_ble_eq_true rfl, Nat.le_of_ble_eq_true rfl⟩ rfl rfl (Nat.le_of_ble_eq_true rfl) ⟨Nat.le_refl _, Nat.le_refl _⟩ dX4_happen_35 (fun H locs hH => ?_)
  refine lv_istore (lv' := [(5, .int r8), (4, .int y2), (0, .ref (E.2.2 0)), (1, .int x1), (2, .int x2), (3, .int x3)]) hx hb dX4_happen_38 hl (by decide) rfl (fun ls hl => ?_)
  refine lv_aload_n hx hb dX4_happen_40 rfl (lv_at hl 2 rfl) ?_
  refine lv_iload_n hx hb dX4_happen_41 rfl (lv_at hl 3 rfl) ?_
  refine lv_iload hx hb dX4_happen_42 (lv_at hl 1 rfl) ?_
  refine lv_iload hx hb dX4_happen_44 (lv_at hl 0 rfl) ?_
  obtain ⟨S10, e11, hf⟩ := fd_bnd hf
  refine fd_callV0 0 4 [.int x1, .int y2, .int r8] C hl.1 hH (cS_writeEvent l E fu S6 x1 y2 r8 e11) wm_X4_60 (by decide) rfl (by decide) rfl ⟨rfl, rfl, Nat.le_of_ble_eq_true rfl, Nat.le_of_ble_eq_true rfl⟩ rfl rfl (Nat.le_of_ble_eq_true rfl) ⟨Nat.le_refl _, Nat.le_refl _⟩ dX4_happen_46 (fun H locs hH => ?_)
  refine lv_aload_n hx hb dX4_happen_49 rfl (lv_at hl 2 rfl) ?_
  refine lv_iload_n hx hb dX4_happen_50 rfl (lv_at hl 3 rfl) ?_
  refine lv_bipush (v := (8 : Int32)) hx hb dX4_happen_51 (by decide) ?_
  refine fd_irem hx hb dX4_happen_53 (by decide) ?_
  obtain ⟨S12, e13, hf⟩ := fd_bnd hf
  refine fd_callV0 0 4 [.int (fd_rem x1 (8 : Int32))] C hl.1 hH (cS_refreshBest l E fu S10 (fd_rem x1 (8 : Int32)) e13) wm_X4_64 (by decide) rfl (by decide) rfl ⟨rfl, rfl, Nat.le_of_ble_eq_true rfl, Nat.le_of_ble_eq_true rfl⟩ rfl rfl (Nat.le_of_ble_eq_true rfl) ⟨Nat.le_refl _, Nat.le_refl _⟩ dX4_happen_54 (fun H locs hH => ?_)
  refine lv_iload hx hb dX4_happen_57 (lv_at hl 0 rfl) ?_
  cases hf
  exact fd_iret C hr hlk hH dX4_happen_59
theorem dX4_isLookedAt_0 : decode cX4_isLookedAt 0 = .ok (.iload_n 1, 1) := by decide +kernel
theorem dX4_isLookedAt_1 : decode cX4_isLookedAt 1 = .ok (.aload_n 0, 1) := by decide +kernel
theorem dX4_isLookedAt_2 : decode cX4_isLookedAt 2 = .ok (.getfield 12, 3) := by decide +kernel
theorem dX4_isLookedAt_5 : decode cX4_isLookedAt 5 = .ok (.getfield 68, 3) := by decide +kernel
theorem dX4_isLookedAt_8 : decode cX4_isLookedAt 8 = .ok (.iconst 1, 1) := by decide +kernel
theorem dX4_isLookedAt_9 : decode cX4_isLookedAt 9 = .ok (.iaload, 1) := by decide +kernel
theorem dX4_isLookedAt_10 : decode cX4_isLookedAt 10 = .ok (.iconst 1, 1) := by decide +kernel
theorem dX4_isLookedAt_11 : decode cX4_isLookedAt 11 = .ok (.invokestatic 139, 3) := by decide +kernel
theorem dX4_isLookedAt_14 : decode cX4_isLookedAt 14 = .ok (.irem, 1) := by decide +kernel
theorem dX4_isLookedAt_15 : decode cX4_isLookedAt 15 = .ok (.ifCond .ne 7, 3) := by decide +kernel
theorem dX4_isLookedAt_18 : decode cX4_isLookedAt 18 = .ok (.iconst 1, 1) := by decide +kernel
theorem dX4_isLookedAt_19 : decode cX4_isLookedAt 19 = .ok (.goto 4, 3) := by decide +kernel
theorem dX4_isLookedAt_22 : decode cX4_isLookedAt 22 = .ok (.iconst 0, 1) := by decide +kernel
theorem dX4_isLookedAt_23 : decode cX4_isLookedAt 23 = .ok (.ireturn, 1) := by decide +kernel
set_option maxHeartbeats 4000000 in
set_option maxRecDepth 100000 in
theorem cS_isLookedAt (l : Launch) (E : fd_E) (S : fd_S) (x1 : Int32) {r0 : Int32} (hf : zS_isLookedAt S x1 = some r0) : fd_Ct l yX4_isLookedAt cX4_isLookedAt 2 (some .boolean) (fd_rm 1 14) E S [.ref (E.2.2 0), .int x1] (some (.int r0)) S := by
  unfold zS_isLookedAt at hf
  refine fd_Ct_of (by decide +kernel) (Nat.le_of_ble_eq_true rfl) ?_
  intro p e s m below meth c ls C hr hlk hH hl
  have hx := C.1
  have hb := C.2.1
  have hl : lv_has ls 2 [(0, .ref (E.2.2 0)), (1, .int x1)] := hl
  refine lv_iload_n hx hb dX4_isLookedAt_0 rfl (lv_at hl 1 rfl) ?_
  refine lv_aload_n hx hb dX4_isLookedAt_1 rfl (lv_at hl 0 rfl) ?_
  refine fd_get 0 4 0 C hH (by decide) rfl (by decide) (by decide) wf_X4_12 (v := .ref (E.2.2 1)) rfl dX4_isLookedAt_2 ?_
  refine fd_get 1 0 0 C hH (by decide) rfl (by decide) (by decide) wf_X4_68 (v := .ref (E.2.2 2)) rfl dX4_isLookedAt_5 ?_
  refine lv_iconst (v := (1 : Int32)) hx hb dX4_isLookedAt_8 (by decide) ?_
  refine fd_iald 2 (7 : Int32) C hH (by decide) rfl rfl (by decide) dX4_isLookedAt_9 ?_
  refine lv_iconst (v := (1 : Int32)) hx hb dX4_isLookedAt_10 (by decide) ?_
  refine fd_mmax C hl.1 wl_X4_139 fd_wmax (Nat.le_of_ble_eq_true rfl) (Nat.le_of_ble_eq_true rfl) (Nat.le_refl _) (Nat.le_refl _) dX4_isLookedAt_11 ?_
  obtain ⟨g1, hf⟩ := fd_grd hf
  refine fd_irem hx hb dX4_isLookedAt_14 g1 ?_
  refine lv_if_ne (tgt := 22) hx hb dX4_isLookedAt_15 (by decide) (fun c2 => ?_) (fun c2 => ?_)
  · have hf := fd_ifn c2 hf
    refine lv_iconst (v := (0 : Int32)) hx hb dX4_isLookedAt_22 (by decide) ?_
    cases hf
    exact fd_zret .boolean C hr hlk hH rfl dX4_isLookedAt_23
  · have hf := fd_ifp c2 hf
    refine lv_iconst (v := (1 : Int32)) hx hb dX4_isLookedAt_18 (by decide) ?_
    refine lv_goto (tgt := 23) hx hb dX4_isLookedAt_19 (by decide) ?_
    cases hf
    exact fd_zret .boolean C hr hlk hH rfl dX4_isLookedAt_23
theorem dX4_lookAt_0 : decode cX4_lookAt 0 = .ok (.aload_n 1, 1) := by decide +kernel
theorem dX4_lookAt_1 : decode cX4_lookAt 1 = .ok (.getfield 116, 3) := by decide +kernel
theorem dX4_lookAt_4 : decode cX4_lookAt 4 = .ok (.ifCond .eq 14, 3) := by decide +kernel
theorem dX4_lookAt_7 : decode cX4_lookAt 7 = .ok (.aload_n 1, 1) := by decide +kernel
theorem dX4_lookAt_8 : decode cX4_lookAt 8 = .ok (.getfield 123, 3) := by decide +kernel
theorem dX4_lookAt_11 : decode cX4_lookAt 11 = .ok (.aload_n 0, 1) := by decide +kernel
theorem dX4_lookAt_12 : decode cX4_lookAt 12 = .ok (.getfield 84, 3) := by decide +kernel
theorem dX4_lookAt_15 : decode cX4_lookAt 15 = .ok (.if_icmp .le 4, 3) := by decide +kernel
theorem dX4_lookAt_18 : decode cX4_lookAt 18 = .ok (.return_, 1) := by decide +kernel
theorem dX4_lookAt_19 : decode cX4_lookAt 19 = .ok (.aload_n 0, 1) := by decide +kernel
theorem dX4_lookAt_20 : decode cX4_lookAt 20 = .ok (.aload_n 1, 1) := by decide +kernel
theorem dX4_lookAt_21 : decode cX4_lookAt 21 = .ok (.aload_n 0, 1) := by decide +kernel
theorem dX4_lookAt_22 : decode cX4_lookAt 22 = .ok (.getfield 84, 3) := by decide +kernel
theorem dX4_lookAt_25 : decode cX4_lookAt 25 = .ok (.invokevirtual 142, 3) := by decide +kernel
theorem dX4_lookAt_28 : decode cX4_lookAt 28 = .ok (.ifCond .ne 17, 3) := by decide +kernel
theorem dX4_lookAt_31 : decode cX4_lookAt 31 = .ok (.aload_n 1, 1) := by decide +kernel
theorem dX4_lookAt_32 : decode cX4_lookAt 32 = .ok (.aload_n 0, 1) := by decide +kernel
theorem dX4_lookAt_33 : decode cX4_lookAt 33 = .ok (.aload_n 1, 1) := by decide +kernel
theorem dX4_lookAt_34 : decode cX4_lookAt 34 = .ok (.aload_n 0, 1) := by decide +kernel
theorem dX4_lookAt_35 : decode cX4_lookAt 35 = .ok (.getfield 84, 3) := by decide +kernel
theorem dX4_lookAt_38 : decode cX4_lookAt 38 = .ok (.invokevirtual 120, 3) := by decide +kernel
theorem dX4_lookAt_41 : decode cX4_lookAt 41 = .ok (.putfield 123, 3) := by decide +kernel
theorem dX4_lookAt_44 : decode cX4_lookAt 44 = .ok (.return_, 1) := by decide +kernel
theorem dX4_lookAt_45 : decode cX4_lookAt 45 = .ok (.aload_n 1, 1) := by decide +kernel
theorem dX4_lookAt_46 : decode cX4_lookAt 46 = .ok (.iconst 0, 1) := by decide +kernel
theorem dX4_lookAt_47 : decode cX4_lookAt 47 = .ok (.putfield 116, 3) := by decide +kernel
theorem dX4_lookAt_50 : decode cX4_lookAt 50 = .ok (.aload_n 0, 1) := by decide +kernel
theorem dX4_lookAt_51 : decode cX4_lookAt 51 = .ok (.dup, 1) := by decide +kernel
theorem dX4_lookAt_52 : decode cX4_lookAt 52 = .ok (.getfield 149, 3) := by decide +kernel
theorem dX4_lookAt_55 : decode cX4_lookAt 55 = .ok (.iconst 1, 1) := by decide +kernel
theorem dX4_lookAt_56 : decode cX4_lookAt 56 = .ok (.iadd, 1) := by decide +kernel
theorem dX4_lookAt_57 : decode cX4_lookAt 57 = .ok (.putfield 149, 3) := by decide +kernel
theorem dX4_lookAt_60 : decode cX4_lookAt 60 = .ok (.aload_n 0, 1) := by decide +kernel
theorem dX4_lookAt_61 : decode cX4_lookAt 61 = .ok (.getfield 28, 3) := by decide +kernel
theorem dX4_lookAt_64 : decode cX4_lookAt 64 = .ok (.bipush 82, 2) := by decide +kernel
theorem dX4_lookAt_66 : decode cX4_lookAt 66 = .ok (.aload_n 1, 1) := by decide +kernel
theorem dX4_lookAt_67 : decode cX4_lookAt 67 = .ok (.getfield 166, 3) := by decide +kernel
theorem dX4_lookAt_70 : decode cX4_lookAt 70 = .ok (.invokevirtual 126, 3) := by decide +kernel
theorem dX4_lookAt_73 : decode cX4_lookAt 73 = .ok (.aload_n 0, 1) := by decide +kernel
theorem dX4_lookAt_74 : decode cX4_lookAt 74 = .ok (.getfield 28, 3) := by decide +kernel
theorem dX4_lookAt_77 : decode cX4_lookAt 77 = .ok (.bipush 64, 2) := by decide +kernel
theorem dX4_lookAt_79 : decode cX4_lookAt 79 = .ok (.invokevirtual 130, 3) := by decide +kernel
theorem dX4_lookAt_82 : decode cX4_lookAt 82 = .ok (.aload_n 0, 1) := by decide +kernel
theorem dX4_lookAt_83 : decode cX4_lookAt 83 = .ok (.getfield 28, 3) := by decide +kernel
theorem dX4_lookAt_86 : decode cX4_lookAt 86 = .ok (.aload_n 0, 1) := by decide +kernel
theorem dX4_lookAt_87 : decode cX4_lookAt 87 = .ok (.getfield 84, 3) := by decide +kernel
theorem dX4_lookAt_90 : decode cX4_lookAt 90 = .ok (.invokevirtual 133, 3) := by decide +kernel
theorem dX4_lookAt_93 : decode cX4_lookAt 93 = .ok (.return_, 1) := by decide +kernel
set_option maxHeartbeats 4000000 in
set_option maxRecDepth 100000 in
theorem cS_lookAt (l : Launch) (E : fd_E) (fu : Nat) (S : fd_S) (k1 : Nat) {S0 : fd_S} (hf : zS_lookAt fu S k1 = some S0) : fd_Ct l yX4_lookAt cX4_lookAt 2 none (fd_rm 3 74) E S [.ref (E.2.2 0), .ref (E.2.2 k1)] none S0 := by
  unfold zS_lookAt at hf
  refine fd_Ct_of (by decide +kernel) (Nat.le_of_ble_eq_true rfl) ?_
  intro p e s m below meth c ls C hr hlk hH hl
  have hx := C.1
  have hb := C.2.1
  have hl : lv_has ls 2 [(0, .ref (E.2.2 0)), (1, .ref (E.2.2 k1))] := hl
  refine lv_aload_n hx hb dX4_lookAt_0 rfl (lv_at hl 1 rfl) ?_
  obtain ⟨g1, hf⟩ := fd_grd hf
  refine fd_get k1 3 3 C hH (fd_rk1 g1) (fd_rk3 g1) (by decide) (by decide) wf_X4_116 (v := .int (S k1 (3 : Int32))) rfl dX4_lookAt_1 ?_
  refine lv_if_eq (tgt := 18) hx hb dX4_lookAt_4 (by decide) (fun c2 => ?_) (fun c2 => ?_)
  · have hf := fd_ifp c2 hf
    cases hf
    exact fd_vret C hr hlk hH dX4_lookAt_18
  · have hf := fd_ifn c2 hf
    refine lv_aload_n hx hb dX4_lookAt_7 rfl (lv_at hl 1 rfl) ?_
    refine fd_get k1 3 4 C hH (fd_rk1 g1) (fd_rk3 g1) (by decide) (by decide) wf_X4_123 (v := .int (S k1 (4 : Int32))) rfl dX4_lookAt_8 ?_
    refine lv_aload_n hx hb dX4_lookAt_11 rfl (lv_at hl 0 rfl) ?_
    refine fd_get 0 4 6 C hH (by decide) rfl (by decide) (by decide) wf_X4_84 (v := .int (S 0 (6 : Int32))) rfl dX4_lookAt_12 ?_
    refine lv_icmp_le (tgt := 19) hx hb dX4_lookAt_15 (by decide) (fun c3 => ?_) (fun c3 => ?_)
    · have hf := fd_ifp c3 hf
      refine lv_aload_n hx hb dX4_lookAt_19 rfl (lv_at hl 0 rfl) ?_
      refine lv_aload_n hx hb dX4_lookAt_20 rfl (lv_at hl 1 rfl) ?_
      refine lv_aload_n hx hb dX4_lookAt_21 rfl (lv_at hl 0 rfl) ?_
      refine fd_get 0 4 6 C hH (by decide) rfl (by decide) (by decide) wf_X4_84 (v := .int (S 0 (6 : Int32))) rfl dX4_lookAt_22 ?_
      obtain ⟨r4, e5, hf⟩ := fd_bnd hf
      refine fd_callV1 0 4 [.ref (E.2.2 k1), .int (S 0 (6 : Int32))] C hl.1 hH (cS_isBelowBack l E S k1 (S 0 (6 : Int32)) e5) wm_X4_142 (by decide) rfl (by decide) rfl ⟨rfl, rfl, Nat.le_of_ble_eq_true rfl, Nat.le_of_ble_eq_true rfl⟩ rfl rfl (Nat.le_of_ble_eq_true rfl) ⟨Nat.le_refl _, Nat.le_refl _⟩ dX4_lookAt_25 (fun H locs hH => ?_)
      refine lv_if_ne (tgt := 45) hx hb dX4_lookAt_28 (by decide) (fun c6 => ?_) (fun c6 => ?_)
      · have hf := fd_ifn c6 hf
        refine lv_aload_n hx hb dX4_lookAt_45 rfl (lv_at hl 1 rfl) ?_
        refine lv_iconst (v := (0 : Int32)) hx hb dX4_lookAt_46 (by decide) ?_
        refine fd_put k1 3 3 (3 : Int32) C hH (fd_rk1 g1) (fd_rk3 g1) (by decide) (by decide) wf_X4_116 rfl rfl rfl rfl rfl (Nat.le_of_ble_eq_true rfl) dX4_lookAt_47 (fun H locs hH => ?_)
        obtain ⟨S7, eS7, hf⟩ := fd_ltS hf
        rw [← eS7] at hH
        refine lv_aload_n hx hb dX4_lookAt_50 rfl (lv_at hl 0 rfl) ?_
        refine lv_dup hx hb dX4_lookAt_51 rfl ?_
        refine fd_get 0 4 10 C hH (by decide) rfl (by decide) (by decide) wf_X4_149 (v := .int (S7 0 (10 : Int32))) rfl dX4_lookAt_52 ?_
        refine lv_iconst (v := (1 : Int32)) hx hb dX4_lookAt_55 (by decide) ?_
        refine lv_iadd hx hb dX4_lookAt_56 ?_
        refine fd_put 0 4 10 (10 : Int32) C hH (by decide) rfl (by decide) (by decide) wf_X4_149 rfl rfl rfl rfl rfl (Nat.le_of_ble_eq_true rfl) dX4_lookAt_57 (fun H locs hH => ?_)
        obtain ⟨S8, eS8, hf⟩ := fd_ltS hf
        rw [← eS8] at hH
        refine lv_aload_n hx hb dX4_lookAt_60 rfl (lv_at hl 0 rfl) ?_
        refine fd_get 0 4 2 C hH (by decide) rfl (by decide) (by decide) wf_X4_28 (v := .ref (E.2.2 5)) rfl dX4_lookAt_61 ?_
        refine lv_bipush (v := (82 : Int32)) hx hb dX4_lookAt_64 (by decide) ?_
        refine lv_aload_n hx hb dX4_lookAt_66 rfl (lv_at hl 1 rfl) ?_
        refine fd_get k1 3 0 C hH (fd_rk1 g1) (fd_rk3 g1) (by decide) (by decide) wf_X4_166 (v := .int (S8 k1 (0 : Int32))) rfl dX4_lookAt_67 ?_
        obtain ⟨S9, e10, hf⟩ := fd_bnd hf
        refine fd_callV0 5 1 [.int (82 : Int32), .int (S8 k1 (0 : Int32))] C hl.1 hH (cL_begin l E fu S8 (82 : Int32) (S8 k1 (0 : Int32)) e10) wm_X4_126 (by decide) rfl (by decide) rfl ⟨rfl, rfl, Nat.le_of_ble_eq_true rfl, Nat.le_of_ble_eq_true rfl⟩ rfl rfl (Nat.le_of_ble_eq_true rfl) ⟨Nat.le_refl _, Nat.le_refl _⟩ dX4_lookAt_70 (fun H locs hH => ?_)
        refine lv_aload_n hx hb dX4_lookAt_73 rfl (lv_at hl 0 rfl) ?_
        refine fd_get 0 4 2 C hH (by decide) rfl (by decide) (by decide) wf_X4_28 (v := .ref (E.2.2 5)) rfl dX4_lookAt_74 ?_
        refine lv_bipush (v := (64 : Int32)) hx hb dX4_lookAt_77 (by decide) ?_
        obtain ⟨S11, e12, hf⟩ := fd_bnd hf
        refine fd_callV0 5 1 [.int (64 : Int32)] C hl.1 hH (cL_put l E S9 (64 : Int32) e12) wm_X4_130 (by decide) rfl (by decide) rfl ⟨rfl, rfl, Nat.le_of_ble_eq_true rfl, Nat.le_of_ble_eq_true rfl⟩ rfl rfl (Nat.le_of_ble_eq_true rfl) ⟨Nat.le_refl _, Nat.le_refl _⟩ dX4_lookAt_79 (fun H locs hH => ?_)
        refine lv_aload_n hx hb dX4_lookAt_82 rfl (lv_at hl 0 rfl) ?_
        refine fd_get 0 4 2 C hH (by decide) rfl (by decide) (by decide) wf_X4_28 (v := .ref (E.2.2 5)) rfl dX4_lookAt_83 ?_
        refine lv_aload_n hx hb dX4_lookAt_86 rfl (lv_at hl 0 rfl) ?_
        refine fd_get 0 4 6 C hH (by decide) rfl (by decide) (by decide) wf_X4_84 (v := .int (S11 0 (6 : Int32))) rfl dX4_lookAt_87 ?_
        obtain ⟨S13, e14, hf⟩ := fd_bnd hf
        refine fd_callV0 5 1 [.int (S11 0 (6 : Int32))] C hl.1 hH (cL_putNumber l E fu S11 (S11 0 (6 : Int32)) e14) wm_X4_133 (by decide) rfl (by decide) rfl ⟨rfl, rfl, Nat.le_of_ble_eq_true rfl, Nat.le_of_ble_eq_true rfl⟩ rfl rfl (Nat.le_of_ble_eq_true rfl) ⟨Nat.le_refl _, Nat.le_refl _⟩ dX4_lookAt_90 (fun H locs hH => ?_)
        cases hf
        exact fd_vret C hr hlk hH dX4_lookAt_93
      · have hf := fd_ifp c6 hf
        refine lv_aload_n hx hb dX4_lookAt_31 rfl (lv_at hl 1 rfl) ?_
        refine lv_aload_n hx hb dX4_lookAt_32 rfl (lv_at hl 0 rfl) ?_
        refine lv_aload_n hx hb dX4_lookAt_33 rfl (lv_at hl 1 rfl) ?_
        refine lv_aload_n hx hb dX4_lookAt_34 rfl (lv_at hl 0 rfl) ?_
        refine fd_get 0 4 6 C hH (by decide) rfl (by decide) (by decide) wf_X4_84 (v := .int (S 0 (6 : Int32))) rfl dX4_lookAt_35 ?_
        obtain ⟨r15, e16, hf⟩ := fd_bnd hf
        refine fd_callV1 0 4 [.ref (E.2.2 k1), .int (S 0 (6 : Int32))] C hl.1 hH (cS_dueAfter l E fu S k1 (S 0 (6 : Int32)) e16) wm_X4_120 (by decide) rfl (by decide) rfl ⟨rfl, rfl, Nat.le_of_ble_eq_true rfl, Nat.le_of_ble_eq_true rfl⟩ rfl rfl (Nat.le_of_ble_eq_true rfl) ⟨Nat.le_refl _, Nat.le_refl _⟩ dX4_lookAt_38 (fun H locs hH => ?_)
        refine fd_put k1 3 4 (4 : Int32) C hH (fd_rk1 g1) (fd_rk3 g1) (by decide) (by decide) wf_X4_123 rfl rfl rfl rfl rfl (Nat.le_of_ble_eq_true rfl) dX4_lookAt_41 (fun H locs hH => ?_)
        obtain ⟨S17, eS17, hf⟩ := fd_ltS hf
        rw [← eS17] at hH
        cases hf
        exact fd_vret C hr hlk hH dX4_lookAt_44
    · have hf := fd_ifn c3 hf
      cases hf
      exact fd_vret C hr hlk hH dX4_lookAt_18
theorem dX4_dropSmallOnes_0 : decode cX4_dropSmallOnes 0 = .ok (.aload_n 0, 1) := by decide +kernel
theorem dX4_dropSmallOnes_1 : decode cX4_dropSmallOnes 1 = .ok (.getfield 21, 3) := by decide +kernel
theorem dX4_dropSmallOnes_4 : decode cX4_dropSmallOnes 4 = .ok (.getfield 152, 3) := by decide +kernel
theorem dX4_dropSmallOnes_7 : decode cX4_dropSmallOnes 7 = .ok (.iconst 1, 1) := by decide +kernel
theorem dX4_dropSmallOnes_8 : decode cX4_dropSmallOnes 8 = .ok (.isub, 1) := by decide +kernel
theorem dX4_dropSmallOnes_9 : decode cX4_dropSmallOnes 9 = .ok (.istore_n 1, 1) := by decide +kernel
theorem dX4_dropSmallOnes_10 : decode cX4_dropSmallOnes 10 = .ok (.iload_n 1, 1) := by decide +kernel
theorem dX4_dropSmallOnes_11 : decode cX4_dropSmallOnes 11 = .ok (.ifCond .lt 57, 3) := by decide +kernel
theorem dX4_dropSmallOnes_14 : decode cX4_dropSmallOnes 14 = .ok (.aload_n 0, 1) := by decide +kernel
theorem dX4_dropSmallOnes_15 : decode cX4_dropSmallOnes 15 = .ok (.getfield 21, 3) := by decide +kernel
theorem dX4_dropSmallOnes_18 : decode cX4_dropSmallOnes 18 = .ok (.getfield 155, 3) := by decide +kernel
theorem dX4_dropSmallOnes_21 : decode cX4_dropSmallOnes 21 = .ok (.iload_n 1, 1) := by decide +kernel
theorem dX4_dropSmallOnes_22 : decode cX4_dropSmallOnes 22 = .ok (.aaload, 1) := by decide +kernel
theorem dX4_dropSmallOnes_23 : decode cX4_dropSmallOnes 23 = .ok (.astore_n 2, 1) := by decide +kernel
theorem dX4_dropSmallOnes_24 : decode cX4_dropSmallOnes 24 = .ok (.aload_n 2, 1) := by decide +kernel
theorem dX4_dropSmallOnes_25 : decode cX4_dropSmallOnes 25 = .ok (.getfield 116, 3) := by decide +kernel
theorem dX4_dropSmallOnes_28 : decode cX4_dropSmallOnes 28 = .ok (.ifCond .ne 34, 3) := by decide +kernel
theorem dX4_dropSmallOnes_31 : decode cX4_dropSmallOnes 31 = .ok (.iconst 2, 1) := by decide +kernel
theorem dX4_dropSmallOnes_32 : decode cX4_dropSmallOnes 32 = .ok (.aload_n 0, 1) := by decide +kernel
theorem dX4_dropSmallOnes_33 : decode cX4_dropSmallOnes 33 = .ok (.aload_n 2, 1) := by decide +kernel
theorem dX4_dropSmallOnes_34 : decode cX4_dropSmallOnes 34 = .ok (.aload_n 0, 1) := by decide +kernel
theorem dX4_dropSmallOnes_35 : decode cX4_dropSmallOnes 35 = .ok (.getfield 84, 3) := by decide +kernel
theorem dX4_dropSmallOnes_38 : decode cX4_dropSmallOnes 38 = .ok (.invokevirtual 98, 3) := by decide +kernel
theorem dX4_dropSmallOnes_41 : decode cX4_dropSmallOnes 41 = .ok (.imul, 1) := by decide +kernel
theorem dX4_dropSmallOnes_42 : decode cX4_dropSmallOnes 42 = .ok (.aload_n 0, 1) := by decide +kernel
theorem dX4_dropSmallOnes_43 : decode cX4_dropSmallOnes 43 = .ok (.getfield 12, 3) := by decide +kernel
theorem dX4_dropSmallOnes_46 : decode cX4_dropSmallOnes 46 = .ok (.getfield 68, 3) := by decide +kernel
theorem dX4_dropSmallOnes_49 : decode cX4_dropSmallOnes 49 = .ok (.iconst 5, 1) := by decide +kernel
theorem dX4_dropSmallOnes_50 : decode cX4_dropSmallOnes 50 = .ok (.iaload, 1) := by decide +kernel
theorem dX4_dropSmallOnes_51 : decode cX4_dropSmallOnes 51 = .ok (.if_icmp .ge 11, 3) := by decide +kernel
theorem dX4_dropSmallOnes_54 : decode cX4_dropSmallOnes 54 = .ok (.aload_n 0, 1) := by decide +kernel
theorem dX4_dropSmallOnes_55 : decode cX4_dropSmallOnes 55 = .ok (.getfield 21, 3) := by decide +kernel
theorem dX4_dropSmallOnes_58 : decode cX4_dropSmallOnes 58 = .ok (.iload_n 1, 1) := by decide +kernel
theorem dX4_dropSmallOnes_59 : decode cX4_dropSmallOnes 59 = .ok (.invokevirtual 169, 3) := by decide +kernel
theorem dX4_dropSmallOnes_62 : decode cX4_dropSmallOnes 62 = .ok (.iinc 1 (-1), 3) := by decide +kernel
theorem dX4_dropSmallOnes_65 : decode cX4_dropSmallOnes 65 = .ok (.goto (-55), 3) := by decide +kernel
theorem dX4_dropSmallOnes_68 : decode cX4_dropSmallOnes 68 = .ok (.return_, 1) := by decide +kernel
set_option maxHeartbeats 4000000 in
set_option maxRecDepth 100000 in
theorem wS_dropSmallOnes_10 {p : Program} {l : Launch} {e : Env} {s : State} {m : MethodId} {args : Array Value} {below : List Frame} {meth : Method} {c : Code} {E : fd_E} (C : fd_C p s m args c yX4_dropSmallOnes.cls cX4_dropSmallOnes 3 E) (hr : meth.sig.returnType = none) (hlk : meth.locks = false) (fu : Nat) {S0 : fd_S} : ∀ (n : Nat) (S : fd_S) (x1 : Int32) (H : Heap) (locs : List Loc) (ls : Array Slot), zS_dropSmallOnes_10 fu n S x1 = some S0 → fd_H E S s H locs → lv_has ls 3 [(0, .ref (E.2.2 0)), (1, .int x1)] → W p l e (fd_rm 2 49) s m args below meth c H locs 0 0 (MQ below (fd_Q E none S0) args s 0 0 (fd_A E)) (F0 m 10 ls []) := by
  have hx := C.1
  have hb := C.2.1
  intro n
  induction n with
  | zero =>
    intro S x1 H locs ls hf
    rw [zS_dropSmallOnes_10] at hf
    cases hf
  | succ n ih =>
    intro S x1 H locs ls hf hH hl
    rw [zS_dropSmallOnes_10] at hf
    refine lv_iload_n hx hb dX4_dropSmallOnes_10 rfl (lv_at hl 1 rfl) ?_
    refine lv_if_lt (tgt := 68) hx hb dX4_dropSmallOnes_11 (by decide) (fun c2 => ?_) (fun c2 => ?_)
    · have hf := fd_ifp c2 hf
      cases hf
      exact fd_vret C hr hlk hH dX4_dropSmallOnes_68
    · have hf := fd_ifn c2 hf
      refine lv_aload_n hx hb dX4_dropSmallOnes_14 rfl (lv_at hl 0 rfl) ?_
      refine fd_get 0 4 1 C hH (by decide) rfl (by decide) (by decide) wf_X4_21 (v := .ref (E.2.2 3)) rfl dX4_dropSmallOnes_15 ?_
      refine fd_get 3 2 0 C hH (by decide) rfl (by decide) (by decide) wf_X4_155 (v := .ref (E.2.2 4)) rfl dX4_dropSmallOnes_18 ?_
      refine lv_iload_n hx hb dX4_dropSmallOnes_21 rfl (lv_at hl 1 rfl) ?_
      obtain ⟨g3, hf⟩ := fd_grd hf
      refine fd_aald 4 (6 : Int32) C hH (by decide) rfl rfl g3 dX4_dropSmallOnes_22 ?_
      refine fd_topr (fun k4 ek4 => ?_)
      have hf := fd_ltN ek4 hf
      refine lv_astore_n (lv' := [(2, .ref (E.2.2 k4)), (0, .ref (E.2.2 0)), (1, .int x1)]) hx hb dX4_dropSmallOnes_23 rfl hl (by decide) rfl (fun ls hl => ?_)
      refine lv_aload_n hx hb dX4_dropSmallOnes_24 rfl (lv_at hl 0 rfl) ?_
      obtain ⟨g5, hf⟩ := fd_grd hf
      refine fd_get k4 3 3 C hH (fd_rk1 g5) (fd_rk3 g5) (by decide) (by decide) wf_X4_116 (v := .int (S k4 (3 : Int32))) rfl dX4_dropSmallOnes_25 ?_
      refine lv_if_ne (tgt := 62) hx hb dX4_dropSmallOnes_28 (by decide) (fun c6 => ?_) (fun c6 => ?_)
      · have hf := fd_ifn c6 hf
        obtain ⟨y7, ey7, hf⟩ := fd_ltS hf
        refine lv_iinc (v := y7) (lv' := [(1, .int y7), (2, .ref (E.2.2 k4)), (0, .ref (E.2.2 0))]) hx hb dX4_dropSmallOnes_62 hl (k := 2) rfl (by rw [ey7]; rfl) (by decide) rfl (fun ls hl => ?_)
        refine lv_goto (tgt := 10) hx hb dX4_dropSmallOnes_65 (by decide) ?_
        exact ih S y7 _ _ _ hf hH (lv_sub hl [2, 0] rfl)
      · have hf := fd_ifp c6 hf
        refine lv_iconst (v := (2 : Int32)) hx hb dX4_dropSmallOnes_31 (by decide) ?_
        refine lv_aload_n hx hb dX4_dropSmallOnes_32 rfl (lv_at hl 1 rfl) ?_
        refine lv_aload_n hx hb dX4_dropSmallOnes_33 rfl (lv_at hl 0 rfl) ?_
        refine lv_aload_n hx hb dX4_dropSmallOnes_34 rfl (lv_at hl 1 rfl) ?_
        refine fd_get 0 4 6 C hH (by decide) rfl (by decide) (by decide) wf_X4_84 (v := .int (S 0 (6 : Int32))) rfl dX4_dropSmallOnes_35 ?_
        obtain ⟨r8, e9, hf⟩ := fd_bnd hf
        refine fd_callV1 0 4 [.ref (E.2.2 k4), .int (S 0 (6 : Int32))] C hl.1 hH (cS_penaltyAt l E S (some k4) (S 0 (6 : Int32)) e9) wm_X4_98 (by decide) rfl (by decide) rfl ⟨rfl, rfl, Nat.le_of_ble_eq_true rfl, Nat.le_of_ble_eq_true rfl⟩ rfl rfl (Nat.le_of_ble_eq_true rfl) ⟨Nat.le_refl _, Nat.le_refl _⟩ dX4_dropSmallOnes_38 (fun H locs hH => ?_)
        refine lv_imul hx hb dX4_dropSmallOnes_41 ?_
        refine lv_aload_n hx hb dX4_dropSmallOnes_42 rfl (lv_at hl 1 rfl) ?_
        refine fd_get 0 4 0 C hH (by decide) rfl (by decide) (by decide) wf_X4_12 (v := .ref (E.2.2 1)) rfl dX4_dropSmallOnes_43 ?_
        refine fd_get 1 0 0 C hH (by decide) rfl (by decide) (by decide) wf_X4_68 (v := .ref (E.2.2 2)) rfl dX4_dropSmallOnes_46 ?_
        refine lv_iconst (v := (5 : Int32)) hx hb dX4_dropSmallOnes_49 (by decide) ?_
        refine fd_iald 2 (7 : Int32) C hH (by decide) rfl rfl (by decide) dX4_dropSmallOnes_50 ?_
        refine lv_icmp_ge (tgt := 62) hx hb dX4_dropSmallOnes_51 (by decide) (fun c10 => ?_) (fun c10 => ?_)
        · have hf := fd_ifp c10 hf
          obtain ⟨y11, ey11, hf⟩ := fd_ltS hf
          refine lv_iinc (v := y11) (lv' := [(1, .int y11), (2, .ref (E.2.2 k4)), (0, .ref (E.2.2 0))]) hx hb dX4_dropSmallOnes_62 hl (k := 2) rfl (by rw [ey11]; rfl) (by decide) rfl (fun ls hl => ?_)
          refine lv_goto (tgt := 10) hx hb dX4_dropSmallOnes_65 (by decide) ?_
          exact ih S y11 _ _ _ hf hH (lv_sub hl [2, 0] rfl)
        · have hf := fd_ifn c10 hf
          refine lv_aload_n hx hb dX4_dropSmallOnes_54 rfl (lv_at hl 1 rfl) ?_
          refine fd_get 0 4 1 C hH (by decide) rfl (by decide) (by decide) wf_X4_21 (v := .ref (E.2.2 3)) rfl dX4_dropSmallOnes_55 ?_
          refine lv_iload_n hx hb dX4_dropSmallOnes_58 rfl (lv_at hl 2 rfl) ?_
          obtain ⟨S12, e13, hf⟩ := fd_bnd hf
          refine fd_callV0 3 2 [.int x1] C hl.1 hH (cQ_drop l E fu S x1 e13) wm_X4_169 (by decide) rfl (by decide) rfl ⟨rfl, rfl, Nat.le_of_ble_eq_true rfl, Nat.le_of_ble_eq_true rfl⟩ rfl rfl (Nat.le_of_ble_eq_true rfl) ⟨Nat.le_refl _, Nat.le_refl _⟩ dX4_dropSmallOnes_59 (fun H locs hH => ?_)
          obtain ⟨y14, ey14, hf⟩ := fd_ltS hf
          refine lv_iinc (v := y14) (lv' := [(1, .int y14), (2, .ref (E.2.2 k4)), (0, .ref (E.2.2 0))]) hx hb dX4_dropSmallOnes_62 hl (k := 2) rfl (by rw [ey14]; rfl) (by decide) rfl (fun ls hl => ?_)
          refine lv_goto (tgt := 10) hx hb dX4_dropSmallOnes_65 (by decide) ?_
          exact ih S12 y14 _ _ _ hf hH (lv_sub hl [2, 0] rfl)
set_option maxHeartbeats 4000000 in
set_option maxRecDepth 100000 in
theorem cS_dropSmallOnes (l : Launch) (E : fd_E) (fu : Nat) (S : fd_S) {S0 : fd_S} (hf : zS_dropSmallOnes fu S = some S0) : fd_Ct l yX4_dropSmallOnes cX4_dropSmallOnes 3 none (fd_rm 2 49) E S [.ref (E.2.2 0)] none S0 := by
  unfold zS_dropSmallOnes at hf
  refine fd_Ct_of (by decide +kernel) (Nat.le_of_ble_eq_true rfl) ?_
  intro p e s m below meth c ls C hr hlk hH hl
  have hx := C.1
  have hb := C.2.1
  have hl : lv_has ls 3 [(0, .ref (E.2.2 0))] := hl
  refine lv_aload_n hx hb dX4_dropSmallOnes_0 rfl (lv_at hl 0 rfl) ?_
  refine fd_get 0 4 1 C hH (by decide) rfl (by decide) (by decide) wf_X4_21 (v := .ref (E.2.2 3)) rfl dX4_dropSmallOnes_1 ?_
  refine fd_get 3 2 1 C hH (by decide) rfl (by decide) (by decide) wf_X4_152 (v := .int (S 3 (1 : Int32))) rfl dX4_dropSmallOnes_4 ?_
  refine lv_iconst (v := (1 : Int32)) hx hb dX4_dropSmallOnes_7 (by decide) ?_
  refine lv_isub hx hb dX4_dropSmallOnes_8 ?_
  refine lv_topi (fun y1 ey1 => ?_)
  have hf := fd_ltN ey1 hf
  refine lv_istore_n (lv' := [(1, .int y1), (0, .ref (E.2.2 0))]) hx hb dX4_dropSmallOnes_9 rfl hl (by decide) rfl (fun ls hl => ?_)
  exact wS_dropSmallOnes_10 C hr hlk fu fu S y1 _ _ _ hf hH (lv_sub hl [1, 0] rfl)
theorem dX4_nextTick_0 : decode cX4_nextTick 0 = .ok (.aload_n 0, 1) := by decide +kernel
theorem dX4_nextTick_1 : decode cX4_nextTick 1 = .ok (.dup, 1) := by decide +kernel
theorem dX4_nextTick_2 : decode cX4_nextTick 2 = .ok (.getfield 84, 3) := by decide +kernel
theorem dX4_nextTick_5 : decode cX4_nextTick 5 = .ok (.iconst 1, 1) := by decide +kernel
theorem dX4_nextTick_6 : decode cX4_nextTick 6 = .ok (.iadd, 1) := by decide +kernel
theorem dX4_nextTick_7 : decode cX4_nextTick 7 = .ok (.putfield 84, 3) := by decide +kernel
theorem dX4_nextTick_10 : decode cX4_nextTick 10 = .ok (.aload_n 0, 1) := by decide +kernel
theorem dX4_nextTick_11 : decode cX4_nextTick 11 = .ok (.aload_n 0, 1) := by decide +kernel
theorem dX4_nextTick_12 : decode cX4_nextTick 12 = .ok (.getfield 84, 3) := by decide +kernel
theorem dX4_nextTick_15 : decode cX4_nextTick 15 = .ok (.invokevirtual 146, 3) := by decide +kernel
theorem dX4_nextTick_18 : decode cX4_nextTick 18 = .ok (.ifCond .ne 4, 3) := by decide +kernel
theorem dX4_nextTick_21 : decode cX4_nextTick 21 = .ok (.return_, 1) := by decide +kernel
theorem dX4_nextTick_22 : decode cX4_nextTick 22 = .ok (.aload_n 0, 1) := by decide +kernel
theorem dX4_nextTick_23 : decode cX4_nextTick 23 = .ok (.getfield 149, 3) := by decide +kernel
theorem dX4_nextTick_26 : decode cX4_nextTick 26 = .ok (.istore_n 1, 1) := by decide +kernel
theorem dX4_nextTick_27 : decode cX4_nextTick 27 = .ok (.iconst 0, 1) := by decide +kernel
theorem dX4_nextTick_28 : decode cX4_nextTick 28 = .ok (.istore_n 2, 1) := by decide +kernel
theorem dX4_nextTick_29 : decode cX4_nextTick 29 = .ok (.iload_n 2, 1) := by decide +kernel
theorem dX4_nextTick_30 : decode cX4_nextTick 30 = .ok (.aload_n 0, 1) := by decide +kernel
theorem dX4_nextTick_31 : decode cX4_nextTick 31 = .ok (.getfield 21, 3) := by decide +kernel
theorem dX4_nextTick_34 : decode cX4_nextTick 34 = .ok (.getfield 152, 3) := by decide +kernel
theorem dX4_nextTick_37 : decode cX4_nextTick 37 = .ok (.if_icmp .ge 22, 3) := by decide +kernel
theorem dX4_nextTick_40 : decode cX4_nextTick 40 = .ok (.aload_n 0, 1) := by decide +kernel
theorem dX4_nextTick_41 : decode cX4_nextTick 41 = .ok (.aload_n 0, 1) := by decide +kernel
theorem dX4_nextTick_42 : decode cX4_nextTick 42 = .ok (.getfield 21, 3) := by decide +kernel
theorem dX4_nextTick_45 : decode cX4_nextTick 45 = .ok (.getfield 155, 3) := by decide +kernel
theorem dX4_nextTick_48 : decode cX4_nextTick 48 = .ok (.iload_n 2, 1) := by decide +kernel
theorem dX4_nextTick_49 : decode cX4_nextTick 49 = .ok (.aaload, 1) := by decide +kernel
theorem dX4_nextTick_50 : decode cX4_nextTick 50 = .ok (.invokevirtual 159, 3) := by decide +kernel
theorem dX4_nextTick_53 : decode cX4_nextTick 53 = .ok (.iinc 2 1, 3) := by decide +kernel
theorem dX4_nextTick_56 : decode cX4_nextTick 56 = .ok (.goto (-27), 3) := by decide +kernel
theorem dX4_nextTick_59 : decode cX4_nextTick 59 = .ok (.aload_n 0, 1) := by decide +kernel
theorem dX4_nextTick_60 : decode cX4_nextTick 60 = .ok (.invokevirtual 163, 3) := by decide +kernel
theorem dX4_nextTick_63 : decode cX4_nextTick 63 = .ok (.aload_n 0, 1) := by decide +kernel
theorem dX4_nextTick_64 : decode cX4_nextTick 64 = .ok (.getfield 149, 3) := by decide +kernel
theorem dX4_nextTick_67 : decode cX4_nextTick 67 = .ok (.iload_n 1, 1) := by decide +kernel
theorem dX4_nextTick_68 : decode cX4_nextTick 68 = .ok (.if_icmp .eq 22, 3) := by decide +kernel
theorem dX4_nextTick_71 : decode cX4_nextTick 71 = .ok (.iconst 0, 1) := by decide +kernel
theorem dX4_nextTick_72 : decode cX4_nextTick 72 = .ok (.istore_n 2, 1) := by decide +kernel
theorem dX4_nextTick_73 : decode cX4_nextTick 73 = .ok (.iload_n 2, 1) := by decide +kernel
theorem dX4_nextTick_74 : decode cX4_nextTick 74 = .ok (.bipush 8, 2) := by decide +kernel
theorem dX4_nextTick_76 : decode cX4_nextTick 76 = .ok (.if_icmp .ge 14, 3) := by decide +kernel
theorem dX4_nextTick_79 : decode cX4_nextTick 79 = .ok (.aload_n 0, 1) := by decide +kernel
theorem dX4_nextTick_80 : decode cX4_nextTick 80 = .ok (.iload_n 2, 1) := by decide +kernel
theorem dX4_nextTick_81 : decode cX4_nextTick 81 = .ok (.invokevirtual 64, 3) := by decide +kernel
theorem dX4_nextTick_84 : decode cX4_nextTick 84 = .ok (.iinc 2 1, 3) := by decide +kernel
theorem dX4_nextTick_87 : decode cX4_nextTick 87 = .ok (.goto (-14), 3) := by decide +kernel
theorem dX4_nextTick_90 : decode cX4_nextTick 90 = .ok (.return_, 1) := by decide +kernel
set_option maxHeartbeats 4000000 in
set_option maxRecDepth 100000 in
theorem wS_nextTick_73 {p : Program} {l : Launch} {e : Env} {s : State} {m : MethodId} {args : Array Value} {below : List Frame} {meth : Method} {c : Code} {E : fd_E} (C : fd_C p s m args c yX4_nextTick.cls cX4_nextTick 3 E) (hr : meth.sig.returnType = none) (hlk : meth.locks = false) (fu : Nat) {S0 : fd_S} : ∀ (n : Nat) (S : fd_S) (x2 : Int32) (H : Heap) (locs : List Loc) (ls : Array Slot), zS_nextTick_73 fu n S x2 = some S0 → fd_H E S s H locs → lv_has ls 3 [(0, .ref (E.2.2 0)), (2, .int x2)] → W p l e (fd_rm 4 95) s m args below meth c H locs 0 0 (MQ below (fd_Q E none S0) args s 0 0 (fd_A E)) (F0 m 73 ls []) := by
  have hx := C.1
  have hb := C.2.1
  intro n
  induction n with
  | zero =>
    intro S x2 H locs ls hf
    rw [zS_nextTick_73] at hf
    cases hf
  | succ n ih =>
    intro S x2 H locs ls hf hH hl
    rw [zS_nextTick_73] at hf
    refine lv_iload_n hx hb dX4_nextTick_73 rfl (lv_at hl 1 rfl) ?_
    refine lv_bipush (v := (8 : Int32)) hx hb dX4_nextTick_74 (by decide) ?_
    refine lv_icmp_ge (tgt := 90) hx hb dX4_nextTick_76 (by decide) (fun c10 => ?_) (fun c10 => ?_)
    · have hf := fd_ifp c10 hf
      cases hf
      exact fd_vret C hr hlk hH dX4_nextTick_90
    · have hf := fd_ifn c10 hf
      refine lv_aload_n hx hb dX4_nextTick_79 rfl (lv_at hl 0 rfl) ?_
      refine lv_iload_n hx hb dX4_nextTick_80 rfl (lv_at hl 1 rfl) ?_
      obtain ⟨S11, e12, hf⟩ := fd_bnd hf
      refine fd_callV0 0 4 [.int x2] C hl.1 hH (cS_refreshBest l E fu S x2 e12) wm_X4_64 (by decide) rfl (by decide) rfl ⟨rfl, rfl, Nat.le_of_ble_eq_true rfl, Nat.le_of_ble_eq_true rfl⟩ rfl rfl (Nat.le_of_ble_eq_true rfl) ⟨Nat.le_refl _, Nat.le_refl _⟩ dX4_nextTick_81 (fun H locs hH => ?_)
      obtain ⟨y13, ey13, hf⟩ := fd_ltS hf
      refine lv_iinc (v := y13) (lv' := [(2, .int y13), (0, .ref (E.2.2 0))]) hx hb dX4_nextTick_84 hl (k := 1) rfl (by rw [ey13]; rfl) (by decide) rfl (fun ls hl => ?_)
      refine lv_goto (tgt := 73) hx hb dX4_nextTick_87 (by decide) ?_
      exact ih S11 y13 _ _ _ hf hH (lv_sub hl [1, 0] rfl)
set_option maxHeartbeats 4000000 in
set_option maxRecDepth 100000 in
theorem wS_nextTick_29 {p : Program} {l : Launch} {e : Env} {s : State} {m : MethodId} {args : Array Value} {below : List Frame} {meth : Method} {c : Code} {E : fd_E} (C : fd_C p s m args c yX4_nextTick.cls cX4_nextTick 3 E) (hr : meth.sig.returnType = none) (hlk : meth.locks = false) (fu : Nat) {S0 : fd_S} : ∀ (n : Nat) (S : fd_S) (x1 : Int32) (x2 : Int32) (H : Heap) (locs : List Loc) (ls : Array Slot), zS_nextTick_29 fu n S x1 x2 = some S0 → fd_H E S s H locs → lv_has ls 3 [(0, .ref (E.2.2 0)), (1, .int x1), (2, .int x2)] → W p l e (fd_rm 4 95) s m args below meth c H locs 0 0 (MQ below (fd_Q E none S0) args s 0 0 (fd_A E)) (F0 m 29 ls []) := by
  have hx := C.1
  have hb := C.2.1
  intro n
  induction n with
  | zero =>
    intro S x1 x2 H locs ls hf
    rw [zS_nextTick_29] at hf
    cases hf
  | succ n ih =>
    intro S x1 x2 H locs ls hf hH hl
    rw [zS_nextTick_29] at hf
    refine lv_iload_n hx hb dX4_nextTick_29 rfl (lv_at hl 2 rfl) ?_
    refine lv_aload_n hx hb dX4_nextTick_30 rfl (lv_at hl 0 rfl) ?_
    refine fd_get 0 4 1 C hH (by decide) rfl (by decide) (by decide) wf_X4_21 (v := .ref (E.2.2 3)) rfl dX4_nextTick_31 ?_
    refine fd_get 3 2 1 C hH (by decide) rfl (by decide) (by decide) wf_X4_152 (v := .int (S 3 (1 : Int32))) rfl dX4_nextTick_34 ?_
    refine lv_icmp_ge (tgt := 59) hx hb dX4_nextTick_37 (by decide) (fun c6 => ?_) (fun c6 => ?_)
    · have hf := fd_ifp c6 hf
      refine lv_aload_n hx hb dX4_nextTick_59 rfl (lv_at hl 0 rfl) ?_
      obtain ⟨S7, e8, hf⟩ := fd_bnd hf
      refine fd_callV0 0 4 [] C hl.1 hH (cS_dropSmallOnes l E fu S e8) wm_X4_163 (by decide) rfl (by decide) rfl ⟨rfl, rfl, Nat.le_of_ble_eq_true rfl, Nat.le_of_ble_eq_true rfl⟩ rfl rfl (Nat.le_of_ble_eq_true rfl) ⟨Nat.le_refl _, Nat.le_refl _⟩ dX4_nextTick_60 (fun H locs hH => ?_)
      refine lv_aload_n hx hb dX4_nextTick_63 rfl (lv_at hl 0 rfl) ?_
      refine fd_get 0 4 10 C hH (by decide) rfl (by decide) (by decide) wf_X4_149 (v := .int (S7 0 (10 : Int32))) rfl dX4_nextTick_64 ?_
      refine lv_iload_n hx hb dX4_nextTick_67 rfl (lv_at hl 1 rfl) ?_
      refine lv_icmp_eq (tgt := 90) hx hb dX4_nextTick_68 (by decide) (fun c9 => ?_) (fun c9 => ?_)
      · have hf := fd_ifp c9 hf
        cases hf
        exact fd_vret C hr hlk hH dX4_nextTick_90
      · have hf := fd_ifn c9 hf
        refine lv_iconst (v := (0 : Int32)) hx hb dX4_nextTick_71 (by decide) ?_
        refine lv_istore_n (lv' := [(2, .int (0 : Int32)), (0, .ref (E.2.2 0)), (1, .int x1)]) hx hb dX4_nextTick_72 rfl hl (by decide) rfl (fun ls hl => ?_)
        exact wS_nextTick_73 C hr hlk fu fu S7 (0 : Int32) _ _ _ hf hH (lv_sub hl [1, 0] rfl)
    · have hf := fd_ifn c6 hf
      refine lv_aload_n hx hb dX4_nextTick_40 rfl (lv_at hl 0 rfl) ?_
      refine lv_aload_n hx hb dX4_nextTick_41 rfl (lv_at hl 0 rfl) ?_
      refine fd_get 0 4 1 C hH (by decide) rfl (by decide) (by decide) wf_X4_21 (v := .ref (E.2.2 3)) rfl dX4_nextTick_42 ?_
      refine fd_get 3 2 0 C hH (by decide) rfl (by decide) (by decide) wf_X4_155 (v := .ref (E.2.2 4)) rfl dX4_nextTick_45 ?_
      refine lv_iload_n hx hb dX4_nextTick_48 rfl (lv_at hl 2 rfl) ?_
      obtain ⟨g14, hf⟩ := fd_grd hf
      refine fd_aald 4 (6 : Int32) C hH (by decide) rfl rfl g14 dX4_nextTick_49 ?_
      refine fd_topr (fun k15 ek15 => ?_)
      have hf := fd_ltN ek15 hf
      obtain ⟨S16, e17, hf⟩ := fd_bnd hf
      refine fd_callV0 0 4 [.ref (E.2.2 k15)] C hl.1 hH (cS_lookAt l E fu S k15 e17) wm_X4_159 (by decide) rfl (by decide) rfl ⟨rfl, rfl, Nat.le_of_ble_eq_true rfl, Nat.le_of_ble_eq_true rfl⟩ rfl rfl (Nat.le_of_ble_eq_true rfl) ⟨Nat.le_refl _, Nat.le_refl _⟩ dX4_nextTick_50 (fun H locs hH => ?_)
      obtain ⟨y18, ey18, hf⟩ := fd_ltS hf
      refine lv_iinc (v := y18) (lv' := [(2, .int y18), (0, .ref (E.2.2 0)), (1, .int x1)]) hx hb dX4_nextTick_53 hl (k := 2) rfl (by rw [ey18]; rfl) (by decide) rfl (fun ls hl => ?_)
      refine lv_goto (tgt := 29) hx hb dX4_nextTick_56 (by decide) ?_
      exact ih S16 x1 y18 _ _ _ hf hH (lv_sub hl [1, 2, 0] rfl)
set_option maxHeartbeats 4000000 in
set_option maxRecDepth 100000 in
theorem cS_nextTick (l : Launch) (E : fd_E) (fu : Nat) (S : fd_S) {S0 : fd_S} (hf : zS_nextTick fu S = some S0) : fd_Ct l yX4_nextTick cX4_nextTick 3 none (fd_rm 4 95) E S [.ref (E.2.2 0)] none S0 := by
  unfold zS_nextTick at hf
  refine fd_Ct_of (by decide +kernel) (Nat.le_of_ble_eq_true rfl) ?_
  intro p e s m below meth c ls C hr hlk hH hl
  have hx := C.1
  have hb := C.2.1
  have hl : lv_has ls 3 [(0, .ref (E.2.2 0))] := hl
  refine lv_aload_n hx hb dX4_nextTick_0 rfl (lv_at hl 0 rfl) ?_
  refine lv_dup hx hb dX4_nextTick_1 rfl ?_
  refine fd_get 0 4 6 C hH (by decide) rfl (by decide) (by decide) wf_X4_84 (v := .int (S 0 (6 : Int32))) rfl dX4_nextTick_2 ?_
  refine lv_iconst (v := (1 : Int32)) hx hb dX4_nextTick_5 (by decide) ?_
  refine lv_iadd hx hb dX4_nextTick_6 ?_
  refine fd_put 0 4 6 (6 : Int32) C hH (by decide) rfl (by decide) (by decide) wf_X4_84 rfl rfl rfl rfl rfl (Nat.le_of_ble_eq_true rfl) dX4_nextTick_7 (fun H locs hH => ?_)
  obtain ⟨S1, eS1, hf⟩ := fd_ltS hf
  rw [← eS1] at hH
  refine lv_aload_n hx hb dX4_nextTick_10 rfl (lv_at hl 0 rfl) ?_
  refine lv_aload_n hx hb dX4_nextTick_11 rfl (lv_at hl 0 rfl) ?_
  refine fd_get 0 4 6 C hH (by decide) rfl (by decide) (by decide) wf_X4_84 (v := .int (S1 0 (6 : Int32))) rfl dX4_nextTick_12 ?_
  obtain ⟨r2, e3, hf⟩ := fd_bnd hf
  refine fd_callV1 0 4 [.int (S1 0 (6 : Int32))] C hl.1 hH (cS_isLookedAt l E S1 (S1 0 (6 : Int32)) e3) wm_X4_146 (by decide) rfl (by decide) rfl ⟨rfl, rfl, Nat.le_of_ble_eq_true rfl, Nat.le_of_ble_eq_true rfl⟩ rfl rfl (Nat.le_of_ble_eq_true rfl) ⟨Nat.le_refl _, Nat.le_refl _⟩ dX4_nextTick_15 (fun H locs hH => ?_)
  refine lv_if_ne (tgt := 22) hx hb dX4_nextTick_18 (by decide) (fun c4 => ?_) (fun c4 => ?_)
  · have hf := fd_ifn c4 hf
    refine lv_aload_n hx hb dX4_nextTick_22 rfl (lv_at hl 0 rfl) ?_
    refine fd_get 0 4 10 C hH (by decide) rfl (by decide) (by decide) wf_X4_149 (v := .int (S1 0 (10 : Int32))) rfl dX4_nextTick_23 ?_
    refine lv_topi (fun y5 ey5 => ?_)
    have hf := fd_ltN ey5 hf
    refine lv_istore_n (lv' := [(1, .int y5), (0, .ref (E.2.2 0))]) hx hb dX4_nextTick_26 rfl hl (by decide) rfl (fun ls hl => ?_)
    refine lv_iconst (v := (0 : Int32)) hx hb dX4_nextTick_27 (by decide) ?_
    refine lv_istore_n (lv' := [(2, .int (0 : Int32)), (1, .int y5), (0, .ref (E.2.2 0))]) hx hb dX4_nextTick_28 rfl hl (by decide) rfl (fun ls hl => ?_)
    exact wS_nextTick_29 C hr hlk fu fu S1 y5 (0 : Int32) _ _ _ hf hH (lv_sub hl [2, 1, 0] rfl)
  · have hf := fd_ifp c4 hf
    cases hf
    exact fd_vret C hr hlk hH dX4_nextTick_21
