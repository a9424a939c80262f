theorem dX7_later_0 : decode cX7_later 0 = .ok (.iload_n 1, 1) := by decide +kernel
theorem dX7_later_1 : decode cX7_later 1 = .ok (.iload_n 2, 1) := by decide +kernel
theorem dX7_later_2 : decode cX7_later 2 = .ok (.invokestatic 115, 3) := by decide +kernel
theorem dX7_later_5 : decode cX7_later 5 = .ok (.ifCond .ne 5, 3) := by decide +kernel
theorem dX7_later_8 : decode cX7_later 8 = .ok (.iconst (-1), 1) := by decide +kernel
theorem dX7_later_9 : decode cX7_later 9 = .ok (.ireturn, 1) := by decide +kernel
theorem dX7_later_10 : decode cX7_later 10 = .ok (.iload_n 3, 1) := by decide +kernel
theorem dX7_later_11 : decode cX7_later 11 = .ok (.iconst 0, 1) := by decide +kernel
theorem dX7_later_12 : decode cX7_later 12 = .ok (.sipush 2000, 3) := by decide +kernel
theorem dX7_later_15 : decode cX7_later 15 = .ok (.invokestatic 43, 3) := by decide +kernel
theorem dX7_later_18 : decode cX7_later 18 = .ok (.ifCond .ne 6, 3) := by decide +kernel
theorem dX7_later_21 : decode cX7_later 21 = .ok (.bipush (-2), 2) := by decide +kernel
theorem dX7_later_23 : decode cX7_later 23 = .ok (.ireturn, 1) := by decide +kernel
theorem dX7_later_24 : decode cX7_later 24 = .ok (.aload_n 0, 1) := by decide +kernel
theorem dX7_later_25 : decode cX7_later 25 = .ok (.bipush 8, 2) := by decide +kernel
theorem dX7_later_27 : decode cX7_later 27 = .ok (.iload_n 1, 1) := by decide +kernel
theorem dX7_later_28 : decode cX7_later 28 = .ok (.imul, 1) := by decide +kernel
theorem dX7_later_29 : decode cX7_later 29 = .ok (.iload_n 2, 1) := by decide +kernel
theorem dX7_later_30 : decode cX7_later 30 = .ok (.iadd, 1) := by decide +kernel
theorem dX7_later_31 : decode cX7_later 31 = .ok (.invokevirtual 82, 3) := by decide +kernel
theorem dX7_later_34 : decode cX7_later 34 = .ok (.istore 4, 2) := by decide +kernel
theorem dX7_later_36 : decode cX7_later 36 = .ok (.iload 4, 2) := by decide +kernel
theorem dX7_later_38 : decode cX7_later 38 = .ok (.ifCond .ge 7, 3) := by decide +kernel
theorem dX7_later_41 : decode cX7_later 41 = .ok (.iconst 0, 1) := by decide +kernel
theorem dX7_later_42 : decode cX7_later 42 = .ok (.goto 18, 3) := by decide +kernel
theorem dX7_later_45 : decode cX7_later 45 = .ok (.aload_n 0, 1) := by decide +kernel
theorem dX7_later_46 : decode cX7_later 46 = .ok (.iload 4, 2) := by decide +kernel
theorem dX7_later_48 : decode cX7_later 48 = .ok (.aload_n 0, 1) := by decide +kernel
theorem dX7_later_49 : decode cX7_later 49 = .ok (.getfield 30, 3) := by decide +kernel
theorem dX7_later_52 : decode cX7_later 52 = .ok (.bipush 63, 2) := by decide +kernel
theorem dX7_later_54 : decode cX7_later 54 = .ok (.iaload, 1) := by decide +kernel
theorem dX7_later_55 : decode cX7_later 55 = .ok (.iload_n 3, 1) := by decide +kernel
theorem dX7_later_56 : decode cX7_later 56 = .ok (.iadd, 1) := by decide +kernel
theorem dX7_later_57 : decode cX7_later 57 = .ok (.invokevirtual 79, 3) := by decide +kernel
theorem dX7_later_60 : decode cX7_later 60 = .ok (.ireturn, 1) := by decide +kernel
set_option maxHeartbeats 4000000 in
set_option maxRecDepth 100000 in
theorem cM_later (l : Launch) (E : fd_E) (fu : Nat) (S : fd_S) (x1 : Int32) (x2 : Int32) (x3 : Int32) {r0 : Int32} (hf : zM_later fu S x1 x2 x3 = some r0) : fd_Ct l yX7_later cX7_later 5 (some .int) (fd_rm 3 68) E S [.ref (E.2.2 73), .int x1, .int x2, .int x3] (some (.int r0)) S := by
  unfold zM_later at hf
  refine fd_Ct_of (by decide +kernel) (Nat.le_of_ble_eq_true rfl) ?_
  intro p e s m below meth c ls C hr hlk hH hl
  have hx := C.1
  have hb := C.2.1
  have hl : lv_has ls 5 [(0, .ref (E.2.2 73)), (1, .int x1), (2, .int x2), (3, .int x3)] := hl
  refine lv_iload_n hx hb dX7_later_0 rfl (lv_at hl 1 rfl) ?_
  refine lv_iload_n hx hb dX7_later_1 rfl (lv_at hl 2 rfl) ?_
  refine fd_callS1 [.int x1, .int x2] C hl.1 hH (cM_isRoute l E S x1 x2) wm_X7_115 ⟨rfl, rfl, Nat.le_of_ble_eq_true rfl, Nat.le_of_ble_eq_true rfl⟩ rfl rfl (Nat.le_of_ble_eq_true rfl) ⟨Nat.le_refl _, Nat.le_refl _⟩ dX7_later_2 (fun H locs hH => ?_)
  refine lv_if_ne (tgt := 10) hx hb dX7_later_5 (by decide) (fun c1 => ?_) (fun c1 => ?_)
  · have hf := fd_ifn c1 hf
    refine lv_iload_n hx hb dX7_later_10 rfl (lv_at hl 3 rfl) ?_
    refine lv_iconst (v := (0 : Int32)) hx hb dX7_later_11 (by decide) ?_
    refine lv_sipush (v := (2000 : Int32)) hx hb dX7_later_12 (by decide) ?_
    refine fd_callS1 [.int x3, .int (0 : Int32), .int (2000 : Int32)] C hl.1 hH (cM_in l E S x3 (0 : Int32) (2000 : Int32)) wm_X7_43 ⟨rfl, rfl, Nat.le_of_ble_eq_true rfl, Nat.le_of_ble_eq_true rfl⟩ rfl rfl (Nat.le_of_ble_eq_true rfl) ⟨Nat.le_refl _, Nat.le_refl _⟩ dX7_later_15 (fun H locs hH => ?_)
    refine lv_if_ne (tgt := 24) hx hb dX7_later_18 (by decide) (fun c2 => ?_) (fun c2 => ?_)
    · have hf := fd_ifn c2 hf
      refine lv_aload_n hx hb dX7_later_24 rfl (lv_at hl 0 rfl) ?_
      refine lv_bipush (v := (8 : Int32)) hx hb dX7_later_25 (by decide) ?_
      refine lv_iload_n hx hb dX7_later_27 rfl (lv_at hl 1 rfl) ?_
      refine lv_imul hx hb dX7_later_28 ?_
      refine lv_iload_n hx hb dX7_later_29 rfl (lv_at hl 2 rfl) ?_
      refine lv_iadd hx hb dX7_later_30 ?_
      obtain ⟨r3, e4, hf⟩ := fd_bnd hf
      refine fd_callV1 73 7 [.int (((8 : Int32) * x1) + x2)] C hl.1 hH (cM_recordOf l E fu S (((8 : Int32) * x1) + x2) e4) wm_X7_82 (by decide) rfl (by decide) rfl ⟨rfl, rfl, Nat.le_of_ble_eq_true rfl, Nat.le_of_ble_eq_true rfl⟩ rfl rfl (Nat.le_of_ble_eq_true rfl) ⟨Nat.le_refl _, Nat.le_refl _⟩ dX7_later_31 (fun H locs hH => ?_)
      refine lv_istore (lv' := [(4, .int r3), (0, .ref (E.2.2 73)), (1, .int x1), (2, .int x2), (3, .int x3)]) hx hb dX7_later_34 hl (by decide) rfl (fun ls hl => ?_)
      refine lv_iload hx hb dX7_later_36 (lv_at hl 0 rfl) ?_
      refine lv_if_ge (tgt := 45) hx hb dX7_later_38 (by decide) (fun c5 => ?_) (fun c5 => ?_)
      · have hf := fd_ifp c5 hf
        refine lv_aload_n hx hb dX7_later_45 rfl (lv_at hl 1 rfl) ?_
        refine lv_iload hx hb dX7_later_46 (lv_at hl 0 rfl) ?_
        refine lv_aload_n hx hb dX7_later_48 rfl (lv_at hl 1 rfl) ?_
        refine fd_get 73 7 4 C hH (by decide) rfl (by decide) (by decide) wf_X7_30 (v := .ref (E.2.2 78)) rfl dX7_later_49 ?_
        refine lv_bipush (v := (63 : Int32)) hx hb dX7_later_52 (by decide) ?_
        refine fd_iald 78 (275 : Int32) C hH (by decide) rfl rfl (by decide) dX7_later_54 ?_
        refine lv_iload_n hx hb dX7_later_55 rfl (lv_at hl 4 rfl) ?_
        refine lv_iadd hx hb dX7_later_56 ?_
        obtain ⟨r6, e7, hf⟩ := fd_bnd hf
        refine fd_callV1 73 7 [.int r3, .int ((S 78 (63 : Int32)) + x3)] C hl.1 hH (cM_penaltyAt l E fu S r3 ((S 78 (63 : Int32)) + x3) e7) wm_X7_79 (by decide) rfl (by decide) rfl ⟨rfl, rfl, Nat.le_of_ble_eq_true rfl, Nat.le_of_ble_eq_true rfl⟩ rfl rfl (Nat.le_of_ble_eq_true rfl) ⟨Nat.le_refl _, Nat.le_refl _⟩ dX7_later_57 (fun H locs hH => ?_)
        cases hf
        exact fd_iret C hr hlk hH dX7_later_60
      · have hf := fd_ifn c5 hf
        refine lv_iconst (v := (0 : Int32)) hx hb dX7_later_41 (by decide) ?_
        refine lv_goto (tgt := 60) hx hb dX7_later_42 (by decide) ?_
        cases hf
        exact fd_iret C hr hlk hH dX7_later_60
    · have hf := fd_ifp c2 hf
      refine lv_bipush (v := (-2 : Int32)) hx hb dX7_later_21 (by decide) ?_
      cases hf
      exact fd_iret C hr hlk hH dX7_later_23
  · have hf := fd_ifp c1 hf
    refine lv_iconst (v := (-1 : Int32)) hx hb dX7_later_8 (by decide) ?_
    cases hf
    exact fd_iret C hr hlk hH dX7_later_9
theorem dX7_when_0 : decode cX7_when 0 = .ok (.iload_n 1, 1) := by decide +kernel
theorem dX7_when_1 : decode cX7_when 1 = .ok (.iload_n 2, 1) := by decide +kernel
theorem dX7_when_2 : decode cX7_when 2 = .ok (.invokestatic 115, 3) := by decide +kernel
theorem dX7_when_5 : decode cX7_when 5 = .ok (.ifCond .ne 5, 3) := by decide +kernel
theorem dX7_when_8 : decode cX7_when 8 = .ok (.iconst (-1), 1) := by decide +kernel
theorem dX7_when_9 : decode cX7_when 9 = .ok (.ireturn, 1) := by decide +kernel
theorem dX7_when_10 : decode cX7_when 10 = .ok (.aload_n 0, 1) := by decide +kernel
theorem dX7_when_11 : decode cX7_when 11 = .ok (.bipush 8, 2) := by decide +kernel
theorem dX7_when_13 : decode cX7_when 13 = .ok (.iload_n 1, 1) := by decide +kernel
theorem dX7_when_14 : decode cX7_when 14 = .ok (.imul, 1) := by decide +kernel
theorem dX7_when_15 : decode cX7_when 15 = .ok (.iload_n 2, 1) := by decide +kernel
theorem dX7_when_16 : decode cX7_when 16 = .ok (.iadd, 1) := by decide +kernel
theorem dX7_when_17 : decode cX7_when 17 = .ok (.invokevirtual 82, 3) := by decide +kernel
theorem dX7_when_20 : decode cX7_when 20 = .ok (.istore_n 3, 1) := by decide +kernel
theorem dX7_when_21 : decode cX7_when 21 = .ok (.iload_n 3, 1) := by decide +kernel
theorem dX7_when_22 : decode cX7_when 22 = .ok (.ifCond .lt 11, 3) := by decide +kernel
theorem dX7_when_25 : decode cX7_when 25 = .ok (.aload_n 0, 1) := by decide +kernel
theorem dX7_when_26 : decode cX7_when 26 = .ok (.iload_n 3, 1) := by decide +kernel
theorem dX7_when_27 : decode cX7_when 27 = .ok (.invokevirtual 85, 3) := by decide +kernel
theorem dX7_when_30 : decode cX7_when 30 = .ok (.ifCond .ne 6, 3) := by decide +kernel
theorem dX7_when_33 : decode cX7_when 33 = .ok (.bipush (-6), 2) := by decide +kernel
theorem dX7_when_35 : decode cX7_when 35 = .ok (.ireturn, 1) := by decide +kernel
theorem dX7_when_36 : decode cX7_when 36 = .ok (.aload_n 0, 1) := by decide +kernel
theorem dX7_when_37 : decode cX7_when 37 = .ok (.getfield 30, 3) := by decide +kernel
theorem dX7_when_40 : decode cX7_when 40 = .ok (.iload_n 3, 1) := by decide +kernel
theorem dX7_when_41 : decode cX7_when 41 = .ok (.iconst 4, 1) := by decide +kernel
theorem dX7_when_42 : decode cX7_when 42 = .ok (.invokestatic 72, 3) := by decide +kernel
theorem dX7_when_45 : decode cX7_when 45 = .ok (.iaload, 1) := by decide +kernel
theorem dX7_when_46 : decode cX7_when 46 = .ok (.istore 4, 2) := by decide +kernel
theorem dX7_when_48 : decode cX7_when 48 = .ok (.aload_n 0, 1) := by decide +kernel
theorem dX7_when_49 : decode cX7_when 49 = .ok (.getfield 30, 3) := by decide +kernel
theorem dX7_when_52 : decode cX7_when 52 = .ok (.bipush 63, 2) := by decide +kernel
theorem dX7_when_54 : decode cX7_when 54 = .ok (.iaload, 1) := by decide +kernel
theorem dX7_when_55 : decode cX7_when 55 = .ok (.iconst 1, 1) := by decide +kernel
theorem dX7_when_56 : decode cX7_when 56 = .ok (.iadd, 1) := by decide +kernel
theorem dX7_when_57 : decode cX7_when 57 = .ok (.istore 5, 2) := by decide +kernel
theorem dX7_when_59 : decode cX7_when 59 = .ok (.iload 5, 2) := by decide +kernel
theorem dX7_when_61 : decode cX7_when 61 = .ok (.aload_n 0, 1) := by decide +kernel
theorem dX7_when_62 : decode cX7_when 62 = .ok (.getfield 30, 3) := by decide +kernel
theorem dX7_when_65 : decode cX7_when 65 = .ok (.bipush 63, 2) := by decide +kernel
theorem dX7_when_67 : decode cX7_when 67 = .ok (.iaload, 1) := by decide +kernel
theorem dX7_when_68 : decode cX7_when 68 = .ok (.sipush 5000, 3) := by decide +kernel
theorem dX7_when_71 : decode cX7_when 71 = .ok (.iadd, 1) := by decide +kernel
theorem dX7_when_72 : decode cX7_when 72 = .ok (.if_icmp .gt 54, 3) := by decide +kernel
theorem dX7_when_75 : decode cX7_when 75 = .ok (.iload 5, 2) := by decide +kernel
theorem dX7_when_77 : decode cX7_when 77 = .ok (.aload_n 0, 1) := by decide +kernel
theorem dX7_when_78 : decode cX7_when 78 = .ok (.iconst 1, 1) := by decide +kernel
theorem dX7_when_79 : decode cX7_when 79 = .ok (.invokevirtual 69, 3) := by decide +kernel
theorem dX7_when_82 : decode cX7_when 82 = .ok (.irem, 1) := by decide +kernel
theorem dX7_when_83 : decode cX7_when 83 = .ok (.ifCond .ne 37, 3) := by decide +kernel
theorem dX7_when_86 : decode cX7_when 86 = .ok (.iload 4, 2) := by decide +kernel
theorem dX7_when_88 : decode cX7_when 88 = .ok (.iload 5, 2) := by decide +kernel
theorem dX7_when_90 : decode cX7_when 90 = .ok (.if_icmp .gt 30, 3) := by decide +kernel
theorem dX7_when_93 : decode cX7_when 93 = .ok (.aload_n 0, 1) := by decide +kernel
theorem dX7_when_94 : decode cX7_when 94 = .ok (.iload_n 3, 1) := by decide +kernel
theorem dX7_when_95 : decode cX7_when 95 = .ok (.iload 5, 2) := by decide +kernel
theorem dX7_when_97 : decode cX7_when 97 = .ok (.invokevirtual 79, 3) := by decide +kernel
theorem dX7_when_100 : decode cX7_when 100 = .ok (.aload_n 0, 1) := by decide +kernel
theorem dX7_when_101 : decode cX7_when 101 = .ok (.iconst 5, 1) := by decide +kernel
theorem dX7_when_102 : decode cX7_when 102 = .ok (.invokevirtual 69, 3) := by decide +kernel
theorem dX7_when_105 : decode cX7_when 105 = .ok (.if_icmp .ge 6, 3) := by decide +kernel
theorem dX7_when_108 : decode cX7_when 108 = .ok (.iload 5, 2) := by decide +kernel
theorem dX7_when_110 : decode cX7_when 110 = .ok (.ireturn, 1) := by decide +kernel
theorem dX7_when_111 : decode cX7_when 111 = .ok (.aload_n 0, 1) := by decide +kernel
theorem dX7_when_112 : decode cX7_when 112 = .ok (.iload_n 3, 1) := by decide +kernel
theorem dX7_when_113 : decode cX7_when 113 = .ok (.iload 5, 2) := by decide +kernel
theorem dX7_when_115 : decode cX7_when 115 = .ok (.invokevirtual 112, 3) := by decide +kernel
theorem dX7_when_118 : decode cX7_when 118 = .ok (.istore 4, 2) := by decide +kernel
theorem dX7_when_120 : decode cX7_when 120 = .ok (.iinc 5 1, 3) := by decide +kernel
theorem dX7_when_123 : decode cX7_when 123 = .ok (.goto (-64), 3) := by decide +kernel
theorem dX7_when_126 : decode cX7_when 126 = .ok (.bipush (-6), 2) := by decide +kernel
theorem dX7_when_128 : decode cX7_when 128 = .ok (.ireturn, 1) := by decide +kernel
set_option maxHeartbeats 4000000 in
set_option maxRecDepth 100000 in
theorem wM_when_59 {p : Program} {l : Launch} {e : Env} {s : State} {m : MethodId} {args : Array Value} {below : List Frame} {meth : Method} {c : Code} {E : fd_E} (C : fd_C p s m args c yX7_when.cls cX7_when 6 E) (hr : meth.sig.returnType = (some .int)) (hlk : meth.locks = false) (fu : Nat) {r0 : Int32} : ∀ (n : Nat) (S : fd_S) (x3 : Int32) (x4 : Int32) (x5 : Int32) (H : Heap) (locs : List Loc) (ls : Array Slot), zM_when_59 fu n S x3 x4 x5 = some r0 → fd_H E S s H locs → lv_has ls 6 [(0, .ref (E.2.2 73)), (3, .int x3), (4, .int x4), (5, .int x5)] → W p l e (fd_rm 4 93) s m args below meth c H locs 0 0 (MQ below (fd_Q E (some (.int r0)) S) args s 0 0 (fd_A E)) (F0 m 59 ls []) := by
  have hx := C.1
  have hb := C.2.1
  intro n
  induction n with
  | zero =>
    intro S x3 x4 x5 H locs ls hf
    rw [zM_when_59] at hf
    cases hf
  | succ n ih =>
    intro S x3 x4 x5 H locs ls hf hH hl
    rw [zM_when_59] at hf
    refine lv_iload hx hb dX7_when_59 (lv_at hl 3 rfl) ?_
    refine lv_aload_n hx hb dX7_when_61 rfl (lv_at hl 0 rfl) ?_
    refine fd_get 73 7 4 C hH (by decide) rfl (by decide) (by decide) wf_X7_30 (v := .ref (E.2.2 78)) rfl dX7_when_62 ?_
    refine lv_bipush (v := (63 : Int32)) hx hb dX7_when_65 (by decide) ?_
    refine fd_iald 78 (275 : Int32) C hH (by decide) rfl rfl (by decide) dX7_when_67 ?_
    refine lv_sipush (v := (5000 : Int32)) hx hb dX7_when_68 (by decide) ?_
    refine lv_iadd hx hb dX7_when_71 ?_
    refine lv_icmp_gt (tgt := 126) hx hb dX7_when_72 (by decide) (fun c11 => ?_) (fun c11 => ?_)
    · have hf := fd_ifp c11 hf
      refine lv_bipush (v := (-6 : Int32)) hx hb dX7_when_126 (by decide) ?_
      cases hf
      exact fd_iret C hr hlk hH dX7_when_128
    · have hf := fd_ifn c11 hf
      refine lv_iload hx hb dX7_when_75 (lv_at hl 3 rfl) ?_
      refine lv_aload_n hx hb dX7_when_77 rfl (lv_at hl 0 rfl) ?_
      refine lv_iconst (v := (1 : Int32)) hx hb dX7_when_78 (by decide) ?_
      obtain ⟨r12, e13, hf⟩ := fd_bnd hf
      refine fd_callV1 73 7 [.int (1 : Int32)] C hl.1 hH (cM_bounded l E S (1 : Int32) e13) wm_X7_69 (by decide) rfl (by decide) rfl ⟨rfl, rfl, Nat.le_of_ble_eq_true rfl, Nat.le_of_ble_eq_true rfl⟩ rfl rfl (Nat.le_of_ble_eq_true rfl) ⟨Nat.le_refl _, Nat.le_refl _⟩ dX7_when_79 (fun H locs hH => ?_)
      obtain ⟨g14, hf⟩ := fd_grd hf
      refine fd_irem hx hb dX7_when_82 g14 ?_
      refine lv_if_ne (tgt := 120) hx hb dX7_when_83 (by decide) (fun c15 => ?_) (fun c15 => ?_)
      · have hf := fd_ifn c15 hf
        obtain ⟨y16, ey16, hf⟩ := fd_ltS hf
        refine lv_iinc (v := y16) (lv' := [(5, .int y16), (0, .ref (E.2.2 73)), (3, .int x3), (4, .int x4)]) hx hb dX7_when_120 hl (k := 3) rfl (by rw [ey16]; rfl) (by decide) rfl (fun ls hl => ?_)
        refine lv_goto (tgt := 59) hx hb dX7_when_123 (by decide) ?_
        exact ih S x3 x4 y16 _ _ _ hf hH (lv_sub hl [1, 2, 3, 0] rfl)
      · have hf := fd_ifp c15 hf
        refine lv_iload hx hb dX7_when_86 (lv_at hl 2 rfl) ?_
        refine lv_iload hx hb dX7_when_88 (lv_at hl 3 rfl) ?_
        refine lv_icmp_gt (tgt := 120) hx hb dX7_when_90 (by decide) (fun c17 => ?_) (fun c17 => ?_)
        · have hf := fd_ifp c17 hf
          obtain ⟨y18, ey18, hf⟩ := fd_ltS hf
          refine lv_iinc (v := y18) (lv' := [(5, .int y18), (0, .ref (E.2.2 73)), (3, .int x3), (4, .int x4)]) hx hb dX7_when_120 hl (k := 3) rfl (by rw [ey18]; rfl) (by decide) rfl (fun ls hl => ?_)
          refine lv_goto (tgt := 59) hx hb dX7_when_123 (by decide) ?_
          exact ih S x3 x4 y18 _ _ _ hf hH (lv_sub hl [1, 2, 3, 0] rfl)
        · have hf := fd_ifn c17 hf
          refine lv_aload_n hx hb dX7_when_93 rfl (lv_at hl 0 rfl) ?_
          refine lv_iload_n hx hb dX7_when_94 rfl (lv_at hl 1 rfl) ?_
          refine lv_iload hx hb dX7_when_95 (lv_at hl 3 rfl) ?_
          obtain ⟨r19, e20, hf⟩ := fd_bnd hf
          refine fd_callV1 73 7 [.int x3, .int x5] C hl.1 hH (cM_penaltyAt l E fu S x3 x5 e20) wm_X7_79 (by decide) rfl (by decide) rfl ⟨rfl, rfl, Nat.le_of_ble_eq_true rfl, Nat.le_of_ble_eq_true rfl⟩ rfl rfl (Nat.le_of_ble_eq_true rfl) ⟨Nat.le_refl _, Nat.le_refl _⟩ dX7_when_97 (fun H locs hH => ?_)
          refine lv_aload_n hx hb dX7_when_100 rfl (lv_at hl 0 rfl) ?_
          refine lv_iconst (v := (5 : Int32)) hx hb dX7_when_101 (by decide) ?_
          obtain ⟨r21, e22, hf⟩ := fd_bnd hf
          refine fd_callV1 73 7 [.int (5 : Int32)] C hl.1 hH (cM_bounded l E S (5 : Int32) e22) wm_X7_69 (by decide) rfl (by decide) rfl ⟨rfl, rfl, Nat.le_of_ble_eq_true rfl, Nat.le_of_ble_eq_true rfl⟩ rfl rfl (Nat.le_of_ble_eq_true rfl) ⟨Nat.le_refl _, Nat.le_refl _⟩ dX7_when_102 (fun H locs hH => ?_)
          refine lv_icmp_ge (tgt := 111) hx hb dX7_when_105 (by decide) (fun c23 => ?_) (fun c23 => ?_)
          · have hf := fd_ifp c23 hf
            refine lv_aload_n hx hb dX7_when_111 rfl (lv_at hl 0 rfl) ?_
            refine lv_iload_n hx hb dX7_when_112 rfl (lv_at hl 1 rfl) ?_
            refine lv_iload hx hb dX7_when_113 (lv_at hl 3 rfl) ?_
            obtain ⟨r24, e25, hf⟩ := fd_bnd hf
            refine fd_callV1 73 7 [.int x3, .int x5] C hl.1 hH (cM_dueAfter l E fu S x3 x5 e25) wm_X7_112 (by decide) rfl (by decide) rfl ⟨rfl, rfl, Nat.le_of_ble_eq_true rfl, Nat.le_of_ble_eq_true rfl⟩ rfl rfl (Nat.le_of_ble_eq_true rfl) ⟨Nat.le_refl _, Nat.le_refl _⟩ dX7_when_115 (fun H locs hH => ?_)
            refine lv_istore (lv' := [(4, .int r24), (0, .ref (E.2.2 73)), (3, .int x3), (5, .int x5)]) hx hb dX7_when_118 hl (by decide) rfl (fun ls hl => ?_)
            obtain ⟨y26, ey26, hf⟩ := fd_ltS hf
            refine lv_iinc (v := y26) (lv' := [(5, .int y26), (4, .int r24), (0, .ref (E.2.2 73)), (3, .int x3)]) hx hb dX7_when_120 hl (k := 3) rfl (by rw [ey26]; rfl) (by decide) rfl (fun ls hl => ?_)
            refine lv_goto (tgt := 59) hx hb dX7_when_123 (by decide) ?_
            exact ih S x3 r24 y26 _ _ _ hf hH (lv_sub hl [2, 3, 1, 0] rfl)
          · have hf := fd_ifn c23 hf
            refine lv_iload hx hb dX7_when_108 (lv_at hl 3 rfl) ?_
            cases hf
            exact fd_iret C hr hlk hH dX7_when_110
set_option maxHeartbeats 4000000 in
set_option maxRecDepth 100000 in
theorem cM_when (l : Launch) (E : fd_E) (fu : Nat) (S : fd_S) (x1 : Int32) (x2 : Int32) {r0 : Int32} (hf : zM_when fu S x1 x2 = some r0) : fd_Ct l yX7_when cX7_when 6 (some .int) (fd_rm 4 93) E S [.ref (E.2.2 73), .int x1, .int x2] (some (.int r0)) S := by
  unfold zM_when at hf
  refine fd_Ct_of (by decide +kernel) (Nat.le_of_ble_eq_true rfl) ?_
  intro p e s m below meth c ls C hr hlk hH hl
  have hx := C.1
  have hb := C.2.1
  have hl : lv_has ls 6 [(0, .ref (E.2.2 73)), (1, .int x1), (2, .int x2)] := hl
  refine lv_iload_n hx hb dX7_when_0 rfl (lv_at hl 1 rfl) ?_
  refine lv_iload_n hx hb dX7_when_1 rfl (lv_at hl 2 rfl) ?_
  refine fd_callS1 [.int x1, .int x2] C hl.1 hH (cM_isRoute l E S x1 x2) wm_X7_115 ⟨rfl, rfl, Nat.le_of_ble_eq_true rfl, Nat.le_of_ble_eq_true rfl⟩ rfl rfl (Nat.le_of_ble_eq_true rfl) ⟨Nat.le_refl _, Nat.le_refl _⟩ dX7_when_2 (fun H locs hH => ?_)
  refine lv_if_ne (tgt := 10) hx hb dX7_when_5 (by decide) (fun c1 => ?_) (fun c1 => ?_)
  · have hf := fd_ifn c1 hf
    refine lv_aload_n hx hb dX7_when_10 rfl (lv_at hl 0 rfl) ?_
    refine lv_bipush (v := (8 : Int32)) hx hb dX7_when_11 (by decide) ?_
    refine lv_iload_n hx hb dX7_when_13 rfl (lv_at hl 1 rfl) ?_
    refine lv_imul hx hb dX7_when_14 ?_
    refine lv_iload_n hx hb dX7_when_15 rfl (lv_at hl 2 rfl) ?_
    refine lv_iadd hx hb dX7_when_16 ?_
    obtain ⟨r2, e3, hf⟩ := fd_bnd hf
    refine fd_callV1 73 7 [.int (((8 : Int32) * x1) + x2)] C hl.1 hH (cM_recordOf l E fu S (((8 : Int32) * x1) + x2) e3) wm_X7_82 (by decide) rfl (by decide) rfl ⟨rfl, rfl, Nat.le_of_ble_eq_true rfl, Nat.le_of_ble_eq_true rfl⟩ rfl rfl (Nat.le_of_ble_eq_true rfl) ⟨Nat.le_refl _, Nat.le_refl _⟩ dX7_when_17 (fun H locs hH => ?_)
    refine lv_istore_n (lv' := [(3, .int r2), (0, .ref (E.2.2 73)), (1, .int x1), (2, .int x2)]) hx hb dX7_when_20 rfl hl (by decide) rfl (fun ls hl => ?_)
    refine lv_iload_n hx hb dX7_when_21 rfl (lv_at hl 0 rfl) ?_
    refine lv_if_lt (tgt := 33) hx hb dX7_when_22 (by decide) (fun c4 => ?_) (fun c4 => ?_)
    · have hf := fd_ifp c4 hf
      refine lv_bipush (v := (-6 : Int32)) hx hb dX7_when_33 (by decide) ?_
      cases hf
      exact fd_iret C hr hlk hH dX7_when_35
    · have hf := fd_ifn c4 hf
      refine lv_aload_n hx hb dX7_when_25 rfl (lv_at hl 1 rfl) ?_
      refine lv_iload_n hx hb dX7_when_26 rfl (lv_at hl 0 rfl) ?_
      obtain ⟨r5, e6, hf⟩ := fd_bnd hf
      refine fd_callV1 73 7 [.int r2] C hl.1 hH (cM_isHeld l E S r2 e6) wm_X7_85 (by decide) rfl (by decide) rfl ⟨rfl, rfl, Nat.le_of_ble_eq_true rfl, Nat.le_of_ble_eq_true rfl⟩ rfl rfl (Nat.le_of_ble_eq_true rfl) ⟨Nat.le_refl _, Nat.le_refl _⟩ dX7_when_27 (fun H locs hH => ?_)
      refine lv_if_ne (tgt := 36) hx hb dX7_when_30 (by decide) (fun c7 => ?_) (fun c7 => ?_)
      · have hf := fd_ifn c7 hf
        refine lv_aload_n hx hb dX7_when_36 rfl (lv_at hl 1 rfl) ?_
        refine fd_get 73 7 4 C hH (by decide) rfl (by decide) (by decide) wf_X7_30 (v := .ref (E.2.2 78)) rfl dX7_when_37 ?_
        refine lv_iload_n hx hb dX7_when_40 rfl (lv_at hl 0 rfl) ?_
        refine lv_iconst (v := (4 : Int32)) hx hb dX7_when_41 (by decide) ?_
        refine fd_callS1 [.int r2, .int (4 : Int32)] C hl.1 hH (cM_at l E S r2 (4 : Int32)) wm_X7_72 ⟨rfl, rfl, Nat.le_of_ble_eq_true rfl, Nat.le_of_ble_eq_true rfl⟩ rfl rfl (Nat.le_of_ble_eq_true rfl) ⟨Nat.le_refl _, Nat.le_refl _⟩ dX7_when_42 (fun H locs hH => ?_)
        obtain ⟨g8, hf⟩ := fd_grd hf
        refine fd_iald 78 (275 : Int32) C hH (by decide) rfl rfl g8 dX7_when_45 ?_
        refine lv_topi (fun y9 ey9 => ?_)
        have hf := fd_ltN ey9 hf
        refine lv_istore (lv' := [(4, .int y9), (3, .int r2), (0, .ref (E.2.2 73)), (1, .int x1), (2, .int x2)]) hx hb dX7_when_46 hl (by decide) rfl (fun ls hl => ?_)
        refine lv_aload_n hx hb dX7_when_48 rfl (lv_at hl 2 rfl) ?_
        refine fd_get 73 7 4 C hH (by decide) rfl (by decide) (by decide) wf_X7_30 (v := .ref (E.2.2 78)) rfl dX7_when_49 ?_
        refine lv_bipush (v := (63 : Int32)) hx hb dX7_when_52 (by decide) ?_
        refine fd_iald 78 (275 : Int32) C hH (by decide) rfl rfl (by decide) dX7_when_54 ?_
        refine lv_iconst (v := (1 : Int32)) hx hb dX7_when_55 (by decide) ?_
        refine lv_iadd hx hb dX7_when_56 ?_
        refine lv_topi (fun y10 ey10 => ?_)
        have hf := fd_ltN ey10 hf
        refine lv_istore (lv' := [(5, .int y10), (4, .int y9), (3, .int r2), (0, .ref (E.2.2 73)), (1, .int x1), (2, .int x2)]) hx hb dX7_when_57 hl (by decide) rfl (fun ls hl => ?_)
        exact wM_when_59 C hr hlk fu fu S r2 y9 y10 _ _ _ hf hH (lv_sub hl [3, 2, 1, 0] rfl)
      · have hf := fd_ifp c7 hf
        refine lv_bipush (v := (-6 : Int32)) hx hb dX7_when_33 (by decide) ?_
        cases hf
        exact fd_iret C hr hlk hH dX7_when_35
  · have hf := fd_ifp c1 hf
    refine lv_iconst (v := (-1 : Int32)) hx hb dX7_when_8 (by decide) ?_
    cases hf
    exact fd_iret C hr hlk hH dX7_when_9
theorem dX7_longest_0 : decode cX7_longest 0 = .ok (.iconst 0, 1) := by decide +kernel
theorem dX7_longest_1 : decode cX7_longest 1 = .ok (.istore_n 1, 1) := by decide +kernel
theorem dX7_longest_2 : decode cX7_longest 2 = .ok (.iload_n 1, 1) := by decide +kernel
theorem dX7_longest_3 : decode cX7_longest 3 = .ok (.sipush 5000, 3) := by decide +kernel
theorem dX7_longest_6 : decode cX7_longest 6 = .ok (.if_icmp .gt 30, 3) := by decide +kernel
theorem dX7_longest_9 : decode cX7_longest 9 = .ok (.aload_n 0, 1) := by decide +kernel
theorem dX7_longest_10 : decode cX7_longest 10 = .ok (.aload_n 0, 1) := by decide +kernel
theorem dX7_longest_11 : decode cX7_longest 11 = .ok (.bipush 6, 2) := by decide +kernel
theorem dX7_longest_13 : decode cX7_longest 13 = .ok (.invokevirtual 69, 3) := by decide +kernel
theorem dX7_longest_16 : decode cX7_longest 16 = .ok (.iload_n 1, 1) := by decide +kernel
theorem dX7_longest_17 : decode cX7_longest 17 = .ok (.invokevirtual 76, 3) := by decide +kernel
theorem dX7_longest_20 : decode cX7_longest 20 = .ok (.aload_n 0, 1) := by decide +kernel
theorem dX7_longest_21 : decode cX7_longest 21 = .ok (.iconst 5, 1) := by decide +kernel
theorem dX7_longest_22 : decode cX7_longest 22 = .ok (.invokevirtual 69, 3) := by decide +kernel
theorem dX7_longest_25 : decode cX7_longest 25 = .ok (.if_icmp .ge 5, 3) := by decide +kernel
theorem dX7_longest_28 : decode cX7_longest 28 = .ok (.iload_n 1, 1) := by decide +kernel
theorem dX7_longest_29 : decode cX7_longest 29 = .ok (.ireturn, 1) := by decide +kernel
theorem dX7_longest_30 : decode cX7_longest 30 = .ok (.iinc 1 1, 3) := by decide +kernel
theorem dX7_longest_33 : decode cX7_longest 33 = .ok (.goto (-31), 3) := by decide +kernel
theorem dX7_longest_36 : decode cX7_longest 36 = .ok (.bipush (-6), 2) := by decide +kernel
theorem dX7_longest_38 : decode cX7_longest 38 = .ok (.ireturn, 1) := by decide +kernel
set_option maxHeartbeats 4000000 in
set_option maxRecDepth 100000 in
theorem wM_longest_2 {p : Program} {l : Launch} {e : Env} {s : State} {m : MethodId} {args : Array Value} {below : List Frame} {meth : Method} {c : Code} {E : fd_E} (C : fd_C p s m args c yX7_longest.cls cX7_longest 2 E) (hr : meth.sig.returnType = (some .int)) (hlk : meth.locks = false) (fu : Nat) {r0 : Int32} : ∀ (n : Nat) (S : fd_S) (x1 : Int32) (H : Heap) (locs : List Loc) (ls : Array Slot), zM_longest_2 fu n S x1 = some r0 → fd_H E S s H locs → lv_has ls 2 [(0, .ref (E.2.2 73)), (1, .int x1)] → W p l e (fd_rm 2 46) s m args below meth c H locs 0 0 (MQ below (fd_Q E (some (.int r0)) S) args s 0 0 (fd_A E)) (F0 m 2 ls []) := by
  have hx := C.1
  have hb := C.2.1
  intro n
  induction n with
  | zero =>
    intro S x1 H locs ls hf
    rw [zM_longest_2] at hf
    cases hf
  | succ n ih =>
    intro S x1 H locs ls hf hH hl
    rw [zM_longest_2] at hf
    refine lv_iload_n hx hb dX7_longest_2 rfl (lv_at hl 1 rfl) ?_
    refine lv_sipush (v := (5000 : Int32)) hx hb dX7_longest_3 (by decide) ?_
    refine lv_icmp_gt (tgt := 36) hx hb dX7_longest_6 (by decide) (fun c1 => ?_) (fun c1 => ?_)
    · have hf := fd_ifp c1 hf
      refine lv_bipush (v := (-6 : Int32)) hx hb dX7_longest_36 (by decide) ?_
      cases hf
      exact fd_iret C hr hlk hH dX7_longest_38
    · have hf := fd_ifn c1 hf
      refine lv_aload_n hx hb dX7_longest_9 rfl (lv_at hl 0 rfl) ?_
      refine lv_aload_n hx hb dX7_longest_10 rfl (lv_at hl 0 rfl) ?_
      refine lv_bipush (v := (6 : Int32)) hx hb dX7_longest_11 (by decide) ?_
      obtain ⟨r2, e3, hf⟩ := fd_bnd hf
      refine fd_callV1 73 7 [.int (6 : Int32)] C hl.1 hH (cM_bounded l E S (6 : Int32) e3) wm_X7_69 (by decide) rfl (by decide) rfl ⟨rfl, rfl, Nat.le_of_ble_eq_true rfl, Nat.le_of_ble_eq_true rfl⟩ rfl rfl (Nat.le_of_ble_eq_true rfl) ⟨Nat.le_refl _, Nat.le_refl _⟩ dX7_longest_13 (fun H locs hH => ?_)
      refine lv_iload_n hx hb dX7_longest_16 rfl (lv_at hl 1 rfl) ?_
      obtain ⟨r4, e5, hf⟩ := fd_bnd hf
      refine fd_callV1 73 7 [.int r2, .int x1] C hl.1 hH (cM_lessened l E fu S r2 x1 e5) wm_X7_76 (by decide) rfl (by decide) rfl ⟨rfl, rfl, Nat.le_of_ble_eq_true rfl, Nat.le_of_ble_eq_true rfl⟩ rfl rfl (Nat.le_of_ble_eq_true rfl) ⟨Nat.le_refl _, Nat.le_refl _⟩ dX7_longest_17 (fun H locs hH => ?_)
      refine lv_aload_n hx hb dX7_longest_20 rfl (lv_at hl 0 rfl) ?_
      refine lv_iconst (v := (5 : Int32)) hx hb dX7_longest_21 (by decide) ?_
      obtain ⟨r6, e7, hf⟩ := fd_bnd hf
      refine fd_callV1 73 7 [.int (5 : Int32)] C hl.1 hH (cM_bounded l E S (5 : Int32) e7) wm_X7_69 (by decide) rfl (by decide) rfl ⟨rfl, rfl, Nat.le_of_ble_eq_true rfl, Nat.le_of_ble_eq_true rfl⟩ rfl rfl (Nat.le_of_ble_eq_true rfl) ⟨Nat.le_refl _, Nat.le_refl _⟩ dX7_longest_22 (fun H locs hH => ?_)
      refine lv_icmp_ge (tgt := 30) hx hb dX7_longest_25 (by decide) (fun c8 => ?_) (fun c8 => ?_)
      · have hf := fd_ifp c8 hf
        obtain ⟨y9, ey9, hf⟩ := fd_ltS hf
        refine lv_iinc (v := y9) (lv' := [(1, .int y9), (0, .ref (E.2.2 73))]) hx hb dX7_longest_30 hl (k := 1) rfl (by rw [ey9]; rfl) (by decide) rfl (fun ls hl => ?_)
        refine lv_goto (tgt := 2) hx hb dX7_longest_33 (by decide) ?_
        exact ih S y9 _ _ _ hf hH (lv_sub hl [1, 0] rfl)
      · have hf := fd_ifn c8 hf
        refine lv_iload_n hx hb dX7_longest_28 rfl (lv_at hl 1 rfl) ?_
        cases hf
        exact fd_iret C hr hlk hH dX7_longest_29
set_option maxHeartbeats 4000000 in
set_option maxRecDepth 100000 in
theorem cM_longest (l : Launch) (E : fd_E) (fu : Nat) (S : fd_S) {r0 : Int32} (hf : zM_longest fu S = some r0) : fd_Ct l yX7_longest cX7_longest 2 (some .int) (fd_rm 2 46) E S [.ref (E.2.2 73)] (some (.int r0)) S := by
  unfold zM_longest at hf
  refine fd_Ct_of (by decide +kernel) (Nat.le_of_ble_eq_true rfl) ?_
  intro p e s m below meth c ls C hr hlk hH hl
  have hx := C.1
  have hb := C.2.1
  have hl : lv_has ls 2 [(0, .ref (E.2.2 73))] := hl
  refine lv_iconst (v := (0 : Int32)) hx hb dX7_longest_0 (by decide) ?_
  refine lv_istore_n (lv' := [(1, .int (0 : Int32)), (0, .ref (E.2.2 73))]) hx hb dX7_longest_1 rfl hl (by decide) rfl (fun ls hl => ?_)
  exact wM_longest_2 C hr hlk fu fu S (0 : Int32) _ _ _ hf hH (lv_sub hl [1, 0] rfl)
theorem dX7_best_0 : decode cX7_best 0 = .ok (.iload_n 1, 1) := by decide +kernel
theorem dX7_best_1 : decode cX7_best 1 = .ok (.iconst 0, 1) := by decide +kernel
theorem dX7_best_2 : decode cX7_best 2 = .ok (.bipush 7, 2) := by decide +kernel
theorem dX7_best_4 : decode cX7_best 4 = .ok (.invokestatic 43, 3) := by decide +kernel
theorem dX7_best_7 : decode cX7_best 7 = .ok (.ifCond .ne 5, 3) := by decide +kernel
theorem dX7_best_10 : decode cX7_best 10 = .ok (.iconst (-1), 1) := by decide +kernel
theorem dX7_best_11 : decode cX7_best 11 = .ok (.ireturn, 1) := by decide +kernel
theorem dX7_best_12 : decode cX7_best 12 = .ok (.iload_n 2, 1) := by decide +kernel
theorem dX7_best_13 : decode cX7_best 13 = .ok (.iconst 0, 1) := by decide +kernel
theorem dX7_best_14 : decode cX7_best 14 = .ok (.iconst 2, 1) := by decide +kernel
theorem dX7_best_15 : decode cX7_best 15 = .ok (.invokestatic 43, 3) := by decide +kernel
theorem dX7_best_18 : decode cX7_best 18 = .ok (.ifCond .eq 19, 3) := by decide +kernel
theorem dX7_best_21 : decode cX7_best 21 = .ok (.aload_n 0, 1) := by decide +kernel
theorem dX7_best_22 : decode cX7_best 22 = .ok (.getfield 30, 3) := by decide +kernel
theorem dX7_best_25 : decode cX7_best 25 = .ok (.bipush 39, 2) := by decide +kernel
theorem dX7_best_27 : decode cX7_best 27 = .ok (.iconst 3, 1) := by decide +kernel
theorem dX7_best_28 : decode cX7_best 28 = .ok (.iload_n 1, 1) := by decide +kernel
theorem dX7_best_29 : decode cX7_best 29 = .ok (.imul, 1) := by decide +kernel
theorem dX7_best_30 : decode cX7_best 30 = .ok (.iadd, 1) := by decide +kernel
theorem dX7_best_31 : decode cX7_best 31 = .ok (.iload_n 2, 1) := by decide +kernel
theorem dX7_best_32 : decode cX7_best 32 = .ok (.iadd, 1) := by decide +kernel
theorem dX7_best_33 : decode cX7_best 33 = .ok (.iaload, 1) := by decide +kernel
theorem dX7_best_34 : decode cX7_best 34 = .ok (.goto 5, 3) := by decide +kernel
theorem dX7_best_37 : decode cX7_best 37 = .ok (.bipush (-2), 2) := by decide +kernel
theorem dX7_best_39 : decode cX7_best 39 = .ok (.ireturn, 1) := by decide +kernel
set_option maxHeartbeats 4000000 in
set_option maxRecDepth 100000 in
theorem cM_best (l : Launch) (E : fd_E) (S : fd_S) (x1 : Int32) (x2 : Int32) {r0 : Int32} (hf : zM_best S x1 x2 = some r0) : fd_Ct l yX7_best cX7_best 3 (some .int) (fd_rm 1 22) E S [.ref (E.2.2 73), .int x1, .int x2] (some (.int r0)) S := by
  unfold zM_best at hf
  refine fd_Ct_of (by decide +kernel) (Nat.le_of_ble_eq_true rfl) ?_
  intro p e s m below meth c ls C hr hlk hH hl
  have hx := C.1
  have hb := C.2.1
  have hl : lv_has ls 3 [(0, .ref (E.2.2 73)), (1, .int x1), (2, .int x2)] := hl
  refine lv_iload_n hx hb dX7_best_0 rfl (lv_at hl 1 rfl) ?_
  refine lv_iconst (v := (0 : Int32)) hx hb dX7_best_1 (by decide) ?_
  refine lv_bipush (v := (7 : Int32)) hx hb dX7_best_2 (by decide) ?_
  refine fd_callS1 [.int x1, .int (0 : Int32), .int (7 : Int32)] C hl.1 hH (cM_in l E S x1 (0 : Int32) (7 : Int32)) wm_X7_43 ⟨rfl, rfl, Nat.le_of_ble_eq_true rfl, Nat.le_of_ble_eq_true rfl⟩ rfl rfl (Nat.le_of_ble_eq_true rfl) ⟨Nat.le_refl _, Nat.le_refl _⟩ dX7_best_4 (fun H locs hH => ?_)
  refine lv_if_ne (tgt := 12) hx hb dX7_best_7 (by decide) (fun c1 => ?_) (fun c1 => ?_)
  · have hf := fd_ifn c1 hf
    refine lv_iload_n hx hb dX7_best_12 rfl (lv_at hl 2 rfl) ?_
    refine lv_iconst (v := (0 : Int32)) hx hb dX7_best_13 (by decide) ?_
    refine lv_iconst (v := (2 : Int32)) hx hb dX7_best_14 (by decide) ?_
    refine fd_callS1 [.int x2, .int (0 : Int32), .int (2 : Int32)] C hl.1 hH (cM_in l E S x2 (0 : Int32) (2 : Int32)) wm_X7_43 ⟨rfl, rfl, Nat.le_of_ble_eq_true rfl, Nat.le_of_ble_eq_true rfl⟩ rfl rfl (Nat.le_of_ble_eq_true rfl) ⟨Nat.le_refl _, Nat.le_refl _⟩ dX7_best_15 (fun H locs hH => ?_)
    refine lv_if_eq (tgt := 37) hx hb dX7_best_18 (by decide) (fun c2 => ?_) (fun c2 => ?_)
    · have hf := fd_ifp c2 hf
      refine lv_bipush (v := (-2 : Int32)) hx hb dX7_best_37 (by decide) ?_
      cases hf
      exact fd_iret C hr hlk hH dX7_best_39
    · have hf := fd_ifn c2 hf
      refine lv_aload_n hx hb dX7_best_21 rfl (lv_at hl 0 rfl) ?_
      refine fd_get 73 7 4 C hH (by decide) rfl (by decide) (by decide) wf_X7_30 (v := .ref (E.2.2 78)) rfl dX7_best_22 ?_
      refine lv_bipush (v := (39 : Int32)) hx hb dX7_best_25 (by decide) ?_
      refine lv_iconst (v := (3 : Int32)) hx hb dX7_best_27 (by decide) ?_
      refine lv_iload_n hx hb dX7_best_28 rfl (lv_at hl 1 rfl) ?_
      refine lv_imul hx hb dX7_best_29 ?_
      refine lv_iadd hx hb dX7_best_30 ?_
      refine lv_iload_n hx hb dX7_best_31 rfl (lv_at hl 2 rfl) ?_
      refine lv_iadd hx hb dX7_best_32 ?_
      obtain ⟨g3, hf⟩ := fd_grd hf
      refine fd_iald 78 (275 : Int32) C hH (by decide) rfl rfl g3 dX7_best_33 ?_
      refine lv_goto (tgt := 39) hx hb dX7_best_34 (by decide) ?_
      cases hf
      exact fd_iret C hr hlk hH dX7_best_39
  · have hf := fd_ifp c1 hf
    refine lv_iconst (v := (-1 : Int32)) hx hb dX7_best_10 (by decide) ?_
    cases hf
    exact fd_iret C hr hlk hH dX7_best_11
theorem dX7_record_0 : decode cX7_record 0 = .ok (.iload_n 1, 1) := by decide +kernel
theorem dX7_record_1 : decode cX7_record 1 = .ok (.iconst 0, 1) := by decide +kernel
theorem dX7_record_2 : decode cX7_record 2 = .ok (.aload_n 0, 1) := by decide +kernel
theorem dX7_record_3 : decode cX7_record 3 = .ok (.getfield 30, 3) := by decide +kernel
theorem dX7_record_6 : decode cX7_record 6 = .ok (.bipush 64, 2) := by decide +kernel
theorem dX7_record_8 : decode cX7_record 8 = .ok (.iaload, 1) := by decide +kernel
theorem dX7_record_9 : decode cX7_record 9 = .ok (.iconst 1, 1) := by decide +kernel
theorem dX7_record_10 : decode cX7_record 10 = .ok (.isub, 1) := by decide +kernel
theorem dX7_record_11 : decode cX7_record 11 = .ok (.invokestatic 43, 3) := by decide +kernel
theorem dX7_record_14 : decode cX7_record 14 = .ok (.ifCond .eq 16, 3) := by decide +kernel
theorem dX7_record_17 : decode cX7_record 17 = .ok (.aload_n 0, 1) := by decide +kernel
theorem dX7_record_18 : decode cX7_record 18 = .ok (.getfield 30, 3) := by decide +kernel
theorem dX7_record_21 : decode cX7_record 21 = .ok (.iload_n 1, 1) := by decide +kernel
theorem dX7_record_22 : decode cX7_record 22 = .ok (.iconst 0, 1) := by decide +kernel
theorem dX7_record_23 : decode cX7_record 23 = .ok (.invokestatic 72, 3) := by decide +kernel
theorem dX7_record_26 : decode cX7_record 26 = .ok (.iaload, 1) := by decide +kernel
theorem dX7_record_27 : decode cX7_record 27 = .ok (.goto 5, 3) := by decide +kernel
theorem dX7_record_30 : decode cX7_record 30 = .ok (.bipush (-6), 2) := by decide +kernel
theorem dX7_record_32 : decode cX7_record 32 = .ok (.ireturn, 1) := by decide +kernel
set_option maxHeartbeats 4000000 in
set_option maxRecDepth 100000 in
theorem cM_record (l : Launch) (E : fd_E) (S : fd_S) (x1 : Int32) {r0 : Int32} (hf : zM_record S x1 = some r0) : fd_Ct l yX7_record cX7_record 2 (some .int) (fd_rm 1 22) E S [.ref (E.2.2 73), .int x1] (some (.int r0)) S := by
  unfold zM_record at hf
  refine fd_Ct_of (by decide +kernel) (Nat.le_of_ble_eq_true rfl) ?_
  intro p e s m below meth c ls C hr hlk hH hl
  have hx := C.1
  have hb := C.2.1
  have hl : lv_has ls 2 [(0, .ref (E.2.2 73)), (1, .int x1)] := hl
  refine lv_iload_n hx hb dX7_record_0 rfl (lv_at hl 1 rfl) ?_
  refine lv_iconst (v := (0 : Int32)) hx hb dX7_record_1 (by decide) ?_
  refine lv_aload_n hx hb dX7_record_2 rfl (lv_at hl 0 rfl) ?_
  refine fd_get 73 7 4 C hH (by decide) rfl (by decide) (by decide) wf_X7_30 (v := .ref (E.2.2 78)) rfl dX7_record_3 ?_
  refine lv_bipush (v := (64 : Int32)) hx hb dX7_record_6 (by decide) ?_
  refine fd_iald 78 (275 : Int32) C hH (by decide) rfl rfl (by decide) dX7_record_8 ?_
  refine lv_iconst (v := (1 : Int32)) hx hb dX7_record_9 (by decide) ?_
  refine lv_isub hx hb dX7_record_10 ?_
  refine fd_callS1 [.int x1, .int (0 : Int32), .int ((S 78 (64 : Int32)) - (1 : Int32))] C hl.1 hH (cM_in l E S x1 (0 : Int32) ((S 78 (64 : Int32)) - (1 : Int32))) wm_X7_43 ⟨rfl, rfl, Nat.le_of_ble_eq_true rfl, Nat.le_of_ble_eq_true rfl⟩ rfl rfl (Nat.le_of_ble_eq_true rfl) ⟨Nat.le_refl _, Nat.le_refl _⟩ dX7_record_11 (fun H locs hH => ?_)
  refine lv_if_eq (tgt := 30) hx hb dX7_record_14 (by decide) (fun c1 => ?_) (fun c1 => ?_)
  · have hf := fd_ifp c1 hf
    refine lv_bipush (v := (-6 : Int32)) hx hb dX7_record_30 (by decide) ?_
    cases hf
    exact fd_iret C hr hlk hH dX7_record_32
  · have hf := fd_ifn c1 hf
    refine lv_aload_n hx hb dX7_record_17 rfl (lv_at hl 0 rfl) ?_
    refine fd_get 73 7 4 C hH (by decide) rfl (by decide) (by decide) wf_X7_30 (v := .ref (E.2.2 78)) rfl dX7_record_18 ?_
    refine lv_iload_n hx hb dX7_record_21 rfl (lv_at hl 1 rfl) ?_
    refine lv_iconst (v := (0 : Int32)) hx hb dX7_record_22 (by decide) ?_
    refine fd_callS1 [.int x1, .int (0 : Int32)] C hl.1 hH (cM_at l E S x1 (0 : Int32)) wm_X7_72 ⟨rfl, rfl, Nat.le_of_ble_eq_true rfl, Nat.le_of_ble_eq_true rfl⟩ rfl rfl (Nat.le_of_ble_eq_true rfl) ⟨Nat.le_refl _, Nat.le_refl _⟩ dX7_record_23 (fun H locs hH => ?_)
    obtain ⟨g2, hf⟩ := fd_grd hf
    refine fd_iald 78 (275 : Int32) C hH (by decide) rfl rfl g2 dX7_record_26 ?_
    refine lv_goto (tgt := 32) hx hb dX7_record_27 (by decide) ?_
    cases hf
    exact fd_iret C hr hlk hH dX7_record_32
theorem dX7_line_0 : decode cX7_line 0 = .ok (.aload_n 0, 1) := by decide +kernel
theorem dX7_line_1 : decode cX7_line 1 = .ok (.getfield 30, 3) := by decide +kernel
theorem dX7_line_4 : decode cX7_line 4 = .ok (.bipush 70, 2) := by decide +kernel
theorem dX7_line_6 : decode cX7_line 6 = .ok (.iaload, 1) := by decide +kernel
theorem dX7_line_7 : decode cX7_line 7 = .ok (.bipush 6, 2) := by decide +kernel
theorem dX7_line_9 : decode cX7_line 9 = .ok (.if_icmp .ge 13, 3) := by decide +kernel
theorem dX7_line_12 : decode cX7_line 12 = .ok (.aload_n 0, 1) := by decide +kernel
theorem dX7_line_13 : decode cX7_line 13 = .ok (.getfield 30, 3) := by decide +kernel
theorem dX7_line_16 : decode cX7_line 16 = .ok (.bipush 70, 2) := by decide +kernel
theorem dX7_line_18 : decode cX7_line 18 = .ok (.iaload, 1) := by decide +kernel
theorem dX7_line_19 : decode cX7_line 19 = .ok (.goto 5, 3) := by decide +kernel
theorem dX7_line_22 : decode cX7_line 22 = .ok (.bipush 6, 2) := by decide +kernel
theorem dX7_line_24 : decode cX7_line 24 = .ok (.istore_n 3, 1) := by decide +kernel
theorem dX7_line_25 : decode cX7_line 25 = .ok (.iload_n 1, 1) := by decide +kernel
theorem dX7_line_26 : decode cX7_line 26 = .ok (.iconst 0, 1) := by decide +kernel
theorem dX7_line_27 : decode cX7_line 27 = .ok (.iload_n 3, 1) := by decide +kernel
theorem dX7_line_28 : decode cX7_line 28 = .ok (.iconst 1, 1) := by decide +kernel
theorem dX7_line_29 : decode cX7_line 29 = .ok (.isub, 1) := by decide +kernel
theorem dX7_line_30 : decode cX7_line 30 = .ok (.invokestatic 43, 3) := by decide +kernel
theorem dX7_line_33 : decode cX7_line 33 = .ok (.ifCond .eq 26, 3) := by decide +kernel
theorem dX7_line_36 : decode cX7_line 36 = .ok (.iload_n 2, 1) := by decide +kernel
theorem dX7_line_37 : decode cX7_line 37 = .ok (.iconst (-1), 1) := by decide +kernel
theorem dX7_line_38 : decode cX7_line 38 = .ok (.aload_n 0, 1) := by decide +kernel
theorem dX7_line_39 : decode cX7_line 39 = .ok (.getfield 30, 3) := by decide +kernel
theorem dX7_line_42 : decode cX7_line 42 = .ok (.sipush 131, 3) := by decide +kernel
theorem dX7_line_45 : decode cX7_line 45 = .ok (.bipush 24, 2) := by decide +kernel
theorem dX7_line_47 : decode cX7_line 47 = .ok (.iload_n 1, 1) := by decide +kernel
theorem dX7_line_48 : decode cX7_line 48 = .ok (.imul, 1) := by decide +kernel
theorem dX7_line_49 : decode cX7_line 49 = .ok (.iadd, 1) := by decide +kernel
theorem dX7_line_50 : decode cX7_line 50 = .ok (.iaload, 1) := by decide +kernel
theorem dX7_line_51 : decode cX7_line 51 = .ok (.iconst 1, 1) := by decide +kernel
theorem dX7_line_52 : decode cX7_line 52 = .ok (.isub, 1) := by decide +kernel
theorem dX7_line_53 : decode cX7_line 53 = .ok (.invokestatic 43, 3) := by decide +kernel
theorem dX7_line_56 : decode cX7_line 56 = .ok (.ifCond .ne 6, 3) := by decide +kernel
theorem dX7_line_59 : decode cX7_line 59 = .ok (.bipush (-6), 2) := by decide +kernel
theorem dX7_line_61 : decode cX7_line 61 = .ok (.ireturn, 1) := by decide +kernel
theorem dX7_line_62 : decode cX7_line 62 = .ok (.aload_n 0, 1) := by decide +kernel
theorem dX7_line_63 : decode cX7_line 63 = .ok (.getfield 30, 3) := by decide +kernel
theorem dX7_line_66 : decode cX7_line 66 = .ok (.aload_n 0, 1) := by decide +kernel
theorem dX7_line_67 : decode cX7_line 67 = .ok (.iload_n 1, 1) := by decide +kernel
theorem dX7_line_68 : decode cX7_line 68 = .ok (.iload_n 2, 1) := by decide +kernel
theorem dX7_line_69 : decode cX7_line 69 = .ok (.invokevirtual 92, 3) := by decide +kernel
theorem dX7_line_72 : decode cX7_line 72 = .ok (.iaload, 1) := by decide +kernel
theorem dX7_line_73 : decode cX7_line 73 = .ok (.ireturn, 1) := by decide +kernel
set_option maxHeartbeats 4000000 in
set_option maxRecDepth 100000 in
theorem wM_line_24 {p : Program} {l : Launch} {e : Env} {s : State} {m : MethodId} {args : Array Value} {below : List Frame} {meth : Method} {c : Code} {E : fd_E} (C : fd_C p s m args c yX7_line.cls cX7_line 4 E) (hr : meth.sig.returnType = (some .int)) (hlk : meth.locks = false) (fu : Nat) {r0 : Int32} : ∀ (S : fd_S) (x1 : Int32) (x2 : Int32) (t0 : Int32) (H : Heap) (locs : List Loc) (ls : Array Slot), zM_line_24 fu S x1 x2 t0 = some r0 → fd_H E S s H locs → lv_has ls 4 [(0, .ref (E.2.2 73)), (1, .int x1), (2, .int x2)] → W p l e (fd_rm 1 22) s m args below meth c H locs 0 0 (MQ below (fd_Q E (some (.int r0)) S) args s 0 0 (fd_A E)) (F0 m 24 ls [.int t0]) := by
  have hx := C.1
  have hb := C.2.1
  intro S x1 x2 t0 H locs ls hf hH hl
  unfold zM_line_24 at hf
  refine lv_istore_n (lv' := [(3, .int t0), (0, .ref (E.2.2 73)), (1, .int x1), (2, .int x2)]) hx hb dX7_line_24 rfl hl (by decide) rfl (fun ls hl => ?_)
  refine lv_iload_n hx hb dX7_line_25 rfl (lv_at hl 2 rfl) ?_
  refine lv_iconst (v := (0 : Int32)) hx hb dX7_line_26 (by decide) ?_
  refine lv_iload_n hx hb dX7_line_27 rfl (lv_at hl 0 rfl) ?_
  refine lv_iconst (v := (1 : Int32)) hx hb dX7_line_28 (by decide) ?_
  refine lv_isub hx hb dX7_line_29 ?_
  refine fd_callS1 [.int x1, .int (0 : Int32), .int (t0 - (1 : Int32))] C hl.1 hH (cM_in l E S x1 (0 : Int32) (t0 - (1 : Int32))) wm_X7_43 ⟨rfl, rfl, Nat.le_of_ble_eq_true rfl, Nat.le_of_ble_eq_true rfl⟩ rfl rfl (Nat.le_of_ble_eq_true rfl) ⟨Nat.le_refl _, Nat.le_refl _⟩ dX7_line_30 (fun H locs hH => ?_)
  refine lv_if_eq (tgt := 59) hx hb dX7_line_33 (by decide) (fun c2 => ?_) (fun c2 => ?_)
  · have hf := fd_ifp c2 hf
    refine lv_bipush (v := (-6 : Int32)) hx hb dX7_line_59 (by decide) ?_
    cases hf
    exact fd_iret C hr hlk hH dX7_line_61
  · have hf := fd_ifn c2 hf
    refine lv_iload_n hx hb dX7_line_36 rfl (lv_at hl 3 rfl) ?_
    refine lv_iconst (v := (-1 : Int32)) hx hb dX7_line_37 (by decide) ?_
    refine lv_aload_n hx hb dX7_line_38 rfl (lv_at hl 1 rfl) ?_
    refine fd_get 73 7 4 C hH (by decide) rfl (by decide) (by decide) wf_X7_30 (v := .ref (E.2.2 78)) rfl dX7_line_39 ?_
    refine lv_sipush (v := (131 : Int32)) hx hb dX7_line_42 (by decide) ?_
    refine lv_bipush (v := (24 : Int32)) hx hb dX7_line_45 (by decide) ?_
    refine lv_iload_n hx hb dX7_line_47 rfl (lv_at hl 2 rfl) ?_
    refine lv_imul hx hb dX7_line_48 ?_
    refine lv_iadd hx hb dX7_line_49 ?_
    obtain ⟨g3, hf⟩ := fd_grd hf
    refine fd_iald 78 (275 : Int32) C hH (by decide) rfl rfl g3 dX7_line_50 ?_
    refine lv_iconst (v := (1 : Int32)) hx hb dX7_line_51 (by decide) ?_
    refine lv_isub hx hb dX7_line_52 ?_
    refine fd_callS1 [.int x2, .int (-1 : Int32), .int ((S 78 ((131 : Int32) + ((24 : Int32) * x1))) - (1 : Int32))] C hl.1 hH (cM_in l E S x2 (-1 : Int32) ((S 78 ((131 : Int32) + ((24 : Int32) * x1))) - (1 : Int32))) wm_X7_43 ⟨rfl, rfl, Nat.le_of_ble_eq_true rfl, Nat.le_of_ble_eq_true rfl⟩ rfl rfl (Nat.le_of_ble_eq_true rfl) ⟨Nat.le_refl _, Nat.le_refl _⟩ dX7_line_53 (fun H locs hH => ?_)
    refine lv_if_ne (tgt := 62) hx hb dX7_line_56 (by decide) (fun c4 => ?_) (fun c4 => ?_)
    · have hf := fd_ifn c4 hf
      refine lv_aload_n hx hb dX7_line_62 rfl (lv_at hl 1 rfl) ?_
      refine fd_get 73 7 4 C hH (by decide) rfl (by decide) (by decide) wf_X7_30 (v := .ref (E.2.2 78)) rfl dX7_line_63 ?_
      refine lv_aload_n hx hb dX7_line_66 rfl (lv_at hl 1 rfl) ?_
      refine lv_iload_n hx hb dX7_line_67 rfl (lv_at hl 2 rfl) ?_
      refine lv_iload_n hx hb dX7_line_68 rfl (lv_at hl 3 rfl) ?_
      refine fd_callV1 73 7 [.int x1, .int x2] C hl.1 hH (cM_lineAt l E S x1 x2) wm_X7_92 (by decide) rfl (by decide) rfl ⟨rfl, rfl, Nat.le_of_ble_eq_true rfl, Nat.le_of_ble_eq_true rfl⟩ rfl rfl (Nat.le_of_ble_eq_true rfl) ⟨Nat.le_refl _, Nat.le_refl _⟩ dX7_line_69 (fun H locs hH => ?_)
      obtain ⟨g5, hf⟩ := fd_grd hf
      refine fd_iald 78 (275 : Int32) C hH (by decide) rfl rfl g5 dX7_line_72 ?_
      cases hf
      exact fd_iret C hr hlk hH dX7_line_73
    · have hf := fd_ifp c4 hf
      refine lv_bipush (v := (-6 : Int32)) hx hb dX7_line_59 (by decide) ?_
      cases hf
      exact fd_iret C hr hlk hH dX7_line_61
set_option maxHeartbeats 4000000 in
set_option maxRecDepth 100000 in
theorem cM_line (l : Launch) (E : fd_E) (fu : Nat) (S : fd_S) (x1 : Int32) (x2 : Int32) {r0 : Int32} (hf : zM_line fu S x1 x2 = some r0) : fd_Ct l yX7_line cX7_line 4 (some .int) (fd_rm 1 22) E S [.ref (E.2.2 73), .int x1, .int x2] (some (.int r0)) S := by
  unfold zM_line at hf
  refine fd_Ct_of (by decide +kernel) (Nat.le_of_ble_eq_true rfl) ?_
  intro p e s m below meth c ls C hr hlk hH hl
  have hx := C.1
  have hb := C.2.1
  have hl : lv_has ls 4 [(0, .ref (E.2.2 73)), (1, .int x1), (2, .int x2)] := hl
  refine lv_aload_n hx hb dX7_line_0 rfl (lv_at hl 0 rfl) ?_
  refine fd_get 73 7 4 C hH (by decide) rfl (by decide) (by decide) wf_X7_30 (v := .ref (E.2.2 78)) rfl dX7_line_1 ?_
  refine lv_bipush (v := (70 : Int32)) hx hb dX7_line_4 (by decide) ?_
  refine fd_iald 78 (275 : Int32) C hH (by decide) rfl rfl (by decide) dX7_line_6 ?_
  refine lv_bipush (v := (6 : Int32)) hx hb dX7_line_7 (by decide) ?_
  refine lv_icmp_ge (tgt := 22) hx hb dX7_line_9 (by decide) (fun c1 => ?_) (fun c1 => ?_)
  · have hf := fd_ifp c1 hf
    refine lv_bipush (v := (6 : Int32)) hx hb dX7_line_22 (by decide) ?_
    exact wM_line_24 C hr hlk fu S x1 x2 (6 : Int32) _ _ _ hf hH (lv_sub hl [0, 1, 2] rfl)
  · have hf := fd_ifn c1 hf
    refine lv_aload_n hx hb dX7_line_12 rfl (lv_at hl 0 rfl) ?_
    refine fd_get 73 7 4 C hH (by decide) rfl (by decide) (by decide) wf_X7_30 (v := .ref (E.2.2 78)) rfl dX7_line_13 ?_
    refine lv_bipush (v := (70 : Int32)) hx hb dX7_line_16 (by decide) ?_
    refine fd_iald 78 (275 : Int32) C hH (by decide) rfl rfl (by decide) dX7_line_18 ?_
    refine lv_goto (tgt := 24) hx hb dX7_line_19 (by decide) ?_
    exact wM_line_24 C hr hlk fu S x1 x2 (S 78 (70 : Int32)) _ _ _ hf hH (lv_sub hl [0, 1, 2] rfl)
theorem dX7_count_0 : decode cX7_count 0 = .ok (.iload_n 1, 1) := by decide +kernel
theorem dX7_count_1 : decode cX7_count 1 = .ok (.tableswitch 154 0 9 #[55, 63, 71, 76, 84, 92, 100, 108, 116, 124], 55) := by decide +kernel
theorem dX7_count_56 : decode cX7_count 56 = .ok (.aload_n 0, 1) := by decide +kernel
theorem dX7_count_57 : decode cX7_count 57 = .ok (.getfield 30, 3) := by decide +kernel
theorem dX7_count_60 : decode cX7_count 60 = .ok (.bipush 63, 2) := by decide +kernel
theorem dX7_count_62 : decode cX7_count 62 = .ok (.iaload, 1) := by decide +kernel
theorem dX7_count_63 : decode cX7_count 63 = .ok (.ireturn, 1) := by decide +kernel
theorem dX7_count_64 : decode cX7_count 64 = .ok (.aload_n 0, 1) := by decide +kernel
theorem dX7_count_65 : decode cX7_count 65 = .ok (.getfield 30, 3) := by decide +kernel
theorem dX7_count_68 : decode cX7_count 68 = .ok (.bipush 64, 2) := by decide +kernel
theorem dX7_count_70 : decode cX7_count 70 = .ok (.iaload, 1) := by decide +kernel
theorem dX7_count_71 : decode cX7_count 71 = .ok (.ireturn, 1) := by decide +kernel
theorem dX7_count_72 : decode cX7_count 72 = .ok (.aload_n 0, 1) := by decide +kernel
theorem dX7_count_73 : decode cX7_count 73 = .ok (.invokevirtual 131, 3) := by decide +kernel
theorem dX7_count_76 : decode cX7_count 76 = .ok (.ireturn, 1) := by decide +kernel
theorem dX7_count_77 : decode cX7_count 77 = .ok (.aload_n 0, 1) := by decide +kernel
theorem dX7_count_78 : decode cX7_count 78 = .ok (.getfield 30, 3) := by decide +kernel
theorem dX7_count_81 : decode cX7_count 81 = .ok (.bipush 65, 2) := by decide +kernel
theorem dX7_count_83 : decode cX7_count 83 = .ok (.iaload, 1) := by decide +kernel
theorem dX7_count_84 : decode cX7_count 84 = .ok (.ireturn, 1) := by decide +kernel
theorem dX7_count_85 : decode cX7_count 85 = .ok (.aload_n 0, 1) := by decide +kernel
theorem dX7_count_86 : decode cX7_count 86 = .ok (.getfield 30, 3) := by decide +kernel
theorem dX7_count_89 : decode cX7_count 89 = .ok (.bipush 66, 2) := by decide +kernel
theorem dX7_count_91 : decode cX7_count 91 = .ok (.iaload, 1) := by decide +kernel
theorem dX7_count_92 : decode cX7_count 92 = .ok (.ireturn, 1) := by decide +kernel
theorem dX7_count_93 : decode cX7_count 93 = .ok (.aload_n 0, 1) := by decide +kernel
theorem dX7_count_94 : decode cX7_count 94 = .ok (.getfield 30, 3) := by decide +kernel
theorem dX7_count_97 : decode cX7_count 97 = .ok (.bipush 67, 2) := by decide +kernel
theorem dX7_count_99 : decode cX7_count 99 = .ok (.iaload, 1) := by decide +kernel
theorem dX7_count_100 : decode cX7_count 100 = .ok (.ireturn, 1) := by decide +kernel
theorem dX7_count_101 : decode cX7_count 101 = .ok (.aload_n 0, 1) := by decide +kernel
theorem dX7_count_102 : decode cX7_count 102 = .ok (.getfield 30, 3) := by decide +kernel
theorem dX7_count_105 : decode cX7_count 105 = .ok (.bipush 68, 2) := by decide +kernel
theorem dX7_count_107 : decode cX7_count 107 = .ok (.iaload, 1) := by decide +kernel
theorem dX7_count_108 : decode cX7_count 108 = .ok (.ireturn, 1) := by decide +kernel
theorem dX7_count_109 : decode cX7_count 109 = .ok (.aload_n 0, 1) := by decide +kernel
theorem dX7_count_110 : decode cX7_count 110 = .ok (.getfield 30, 3) := by decide +kernel
theorem dX7_count_113 : decode cX7_count 113 = .ok (.bipush 69, 2) := by decide +kernel
theorem dX7_count_115 : decode cX7_count 115 = .ok (.iaload, 1) := by decide +kernel
theorem dX7_count_116 : decode cX7_count 116 = .ok (.ireturn, 1) := by decide +kernel
theorem dX7_count_117 : decode cX7_count 117 = .ok (.aload_n 0, 1) := by decide +kernel
theorem dX7_count_118 : decode cX7_count 118 = .ok (.getfield 30, 3) := by decide +kernel
theorem dX7_count_121 : decode cX7_count 121 = .ok (.bipush 70, 2) := by decide +kernel
theorem dX7_count_123 : decode cX7_count 123 = .ok (.iaload, 1) := by decide +kernel
theorem dX7_count_124 : decode cX7_count 124 = .ok (.ireturn, 1) := by decide +kernel
theorem dX7_count_125 : decode cX7_count 125 = .ok (.aload_n 0, 1) := by decide +kernel
theorem dX7_count_126 : decode cX7_count 126 = .ok (.getfield 36, 3) := by decide +kernel
theorem dX7_count_129 : decode cX7_count 129 = .ok (.iconst 0, 1) := by decide +kernel
theorem dX7_count_130 : decode cX7_count 130 = .ok (.baload, 1) := by decide +kernel
theorem dX7_count_131 : decode cX7_count 131 = .ok (.ifCond .eq 7, 3) := by decide +kernel
theorem dX7_count_134 : decode cX7_count 134 = .ok (.iconst 1, 1) := by decide +kernel
theorem dX7_count_135 : decode cX7_count 135 = .ok (.goto 4, 3) := by decide +kernel
theorem dX7_count_138 : decode cX7_count 138 = .ok (.iconst 0, 1) := by decide +kernel
theorem dX7_count_139 : decode cX7_count 139 = .ok (.aload_n 0, 1) := by decide +kernel
theorem dX7_count_140 : decode cX7_count 140 = .ok (.getfield 36, 3) := by decide +kernel
theorem dX7_count_143 : decode cX7_count 143 = .ok (.iconst 1, 1) := by decide +kernel
theorem dX7_count_144 : decode cX7_count 144 = .ok (.baload, 1) := by decide +kernel
theorem dX7_count_145 : decode cX7_count 145 = .ok (.ifCond .eq 7, 3) := by decide +kernel
theorem dX7_count_148 : decode cX7_count 148 = .ok (.iconst 2, 1) := by decide +kernel
theorem dX7_count_149 : decode cX7_count 149 = .ok (.goto 4, 3) := by decide +kernel
theorem dX7_count_152 : decode cX7_count 152 = .ok (.iconst 0, 1) := by decide +kernel
theorem dX7_count_153 : decode cX7_count 153 = .ok (.iadd, 1) := by decide +kernel
theorem dX7_count_154 : decode cX7_count 154 = .ok (.ireturn, 1) := by decide +kernel
theorem dX7_count_155 : decode cX7_count 155 = .ok (.bipush (-2), 2) := by decide +kernel
theorem dX7_count_157 : decode cX7_count 157 = .ok (.ireturn, 1) := by decide +kernel
set_option maxHeartbeats 4000000 in
set_option maxRecDepth 100000 in
theorem cM_count (l : Launch) (E : fd_E) (fu : Nat) (S : fd_S) (x1 : Int32) {r0 : Int32} (hf : zM_count fu S x1 = some r0) : fd_Ct l yX7_count cX7_count 2 (some .int) (fd_rm 3 64) E S [.ref (E.2.2 73), .int x1] (some (.int r0)) S := by
  unfold zM_count at hf
  refine fd_Ct_of (by decide +kernel) (Nat.le_of_ble_eq_true rfl) ?_
  intro p e s m below meth c ls C hr hlk hH hl
  have hx := C.1
  have hb := C.2.1
  have hl : lv_has ls 2 [(0, .ref (E.2.2 73)), (1, .int x1)] := hl
  refine lv_iload_n hx hb dX7_count_0 rfl (lv_at hl 1 rfl) ?_
  by_cases c1 : x1 = (0 : Int32)
  · have hf := fd_ifp c1 hf
    refine lv_tableIn (off := 55) (tgt := 56) hx hb dX7_count_1 (by rw [c1]; decide) (by rw [c1]; decide) (by rw [c1]; rfl) (by decide) ?_
    refine lv_aload_n hx hb dX7_count_56 rfl (lv_at hl 0 rfl) ?_
    refine fd_get 73 7 4 C hH (by decide) rfl (by decide) (by decide) wf_X7_30 (v := .ref (E.2.2 78)) rfl dX7_count_57 ?_
    refine lv_bipush (v := (63 : Int32)) hx hb dX7_count_60 (by decide) ?_
    refine fd_iald 78 (275 : Int32) C hH (by decide) rfl rfl (by decide) dX7_count_62 ?_
    cases hf
    exact fd_iret C hr hlk hH dX7_count_63
  · have hf := fd_ifn c1 hf
    by_cases c2 : x1 = (1 : Int32)
    · have hf := fd_ifp c2 hf
      refine lv_tableIn (off := 63) (tgt := 64) hx hb dX7_count_1 (by rw [c2]; decide) (by rw [c2]; decide) (by rw [c2]; rfl) (by decide) ?_
      refine lv_aload_n hx hb dX7_count_64 rfl (lv_at hl 0 rfl) ?_
      refine fd_get 73 7 4 C hH (by decide) rfl (by decide) (by decide) wf_X7_30 (v := .ref (E.2.2 78)) rfl dX7_count_65 ?_
      refine lv_bipush (v := (64 : Int32)) hx hb dX7_count_68 (by decide) ?_
      refine fd_iald 78 (275 : Int32) C hH (by decide) rfl rfl (by decide) dX7_count_70 ?_
      cases hf
      exact fd_iret C hr hlk hH dX7_count_71
    · have hf := fd_ifn c2 hf
      by_cases c3 : x1 = (2 : Int32)
      · have hf := fd_ifp c3 hf
        refine lv_tableIn (off := 71) (tgt := 72) hx hb dX7_count_1 (by rw [c3]; decide) (by rw [c3]; decide) (by rw [c3]; rfl) (by decide) ?_
        refine lv_aload_n hx hb dX7_count_72 rfl (lv_at hl 0 rfl) ?_
        obtain ⟨r4, e5, hf⟩ := fd_bnd hf
        refine fd_callV1 73 7 [] C hl.1 hH (cM_heldOnes l E fu S e5) wm_X7_131 (by decide) rfl (by decide) rfl ⟨rfl, rfl, Nat.le_of_ble_eq_true rfl, Nat.le_of_ble_eq_true rfl⟩ rfl rfl (Nat.le_of_ble_eq_true rfl) ⟨Nat.le_refl _, Nat.le_refl _⟩ dX7_count_73 (fun H locs hH => ?_)
        cases hf
        exact fd_iret C hr hlk hH dX7_count_76
      · have hf := fd_ifn c3 hf
        by_cases c6 : x1 = (3 : Int32)
        · have hf := fd_ifp c6 hf
          refine lv_tableIn (off := 76) (tgt := 77) hx hb dX7_count_1 (by rw [c6]; decide) (by rw [c6]; decide) (by rw [c6]; rfl) (by decide) ?_
          refine lv_aload_n hx hb dX7_count_77 rfl (lv_at hl 0 rfl) ?_
          refine fd_get 73 7 4 C hH (by decide) rfl (by decide) (by decide) wf_X7_30 (v := .ref (E.2.2 78)) rfl dX7_count_78 ?_
          refine lv_bipush (v := (65 : Int32)) hx hb dX7_count_81 (by decide) ?_
          refine fd_iald 78 (275 : Int32) C hH (by decide) rfl rfl (by decide) dX7_count_83 ?_
          cases hf
          exact fd_iret C hr hlk hH dX7_count_84
        · have hf := fd_ifn c6 hf
          by_cases c7 : x1 = (4 : Int32)
          · have hf := fd_ifp c7 hf
            refine lv_tableIn (off := 84) (tgt := 85) hx hb dX7_count_1 (by rw [c7]; decide) (by rw [c7]; decide) (by rw [c7]; rfl) (by decide) ?_
            refine lv_aload_n hx hb dX7_count_85 rfl (lv_at hl 0 rfl) ?_
            refine fd_get 73 7 4 C hH (by decide) rfl (by decide) (by decide) wf_X7_30 (v := .ref (E.2.2 78)) rfl dX7_count_86 ?_
            refine lv_bipush (v := (66 : Int32)) hx hb dX7_count_89 (by decide) ?_
            refine fd_iald 78 (275 : Int32) C hH (by decide) rfl rfl (by decide) dX7_count_91 ?_
            cases hf
            exact fd_iret C hr hlk hH dX7_count_92
          · have hf := fd_ifn c7 hf
            by_cases c8 : x1 = (5 : Int32)
            · have hf := fd_ifp c8 hf
              refine lv_tableIn (off := 92) (tgt := 93) hx hb dX7_count_1 (by rw [c8]; decide) (by rw [c8]; decide) (by rw [c8]; rfl) (by decide) ?_
              refine lv_aload_n hx hb dX7_count_93 rfl (lv_at hl 0 rfl) ?_
              refine fd_get 73 7 4 C hH (by decide) rfl (by decide) (by decide) wf_X7_30 (v := .ref (E.2.2 78)) rfl dX7_count_94 ?_
              refine lv_bipush (v := (67 : Int32)) hx hb dX7_count_97 (by decide) ?_
              refine fd_iald 78 (275 : Int32) C hH (by decide) rfl rfl (by decide) dX7_count_99 ?_
              cases hf
              exact fd_iret C hr hlk hH dX7_count_100
            · have hf := fd_ifn c8 hf
              by_cases c9 : x1 = (6 : Int32)
              · have hf := fd_ifp c9 hf
                refine lv_tableIn (off := 100) (tgt := 101) hx hb dX7_count_1 (by rw [c9]; decide) (by rw [c9]; decide) (by rw [c9]; rfl) (by decide) ?_
                refine lv_aload_n hx hb dX7_count_101 rfl (lv_at hl 0 rfl) ?_
                refine fd_get 73 7 4 C hH (by decide) rfl (by decide) (by decide) wf_X7_30 (v := .ref (E.2.2 78)) rfl dX7_count_102 ?_
                refine lv_bipush (v := (68 : Int32)) hx hb dX7_count_105 (by decide) ?_
                refine fd_iald 78 (275 : Int32) C hH (by decide) rfl rfl (by decide) dX7_count_107 ?_
                cases hf
                exact fd_iret C hr hlk hH dX7_count_108
              · have hf := fd_ifn c9 hf
                by_cases c10 : x1 = (7 : Int32)
                · have hf := fd_ifp c10 hf
                  refine lv_tableIn (off := 108) (tgt := 109) hx hb dX7_count_1 (by rw [c10]; decide) (by rw [c10]; decide) (by rw [c10]; rfl) (by decide) ?_
                  refine lv_aload_n hx hb dX7_count_109 rfl (lv_at hl 0 rfl) ?_
                  refine fd_get 73 7 4 C hH (by decide) rfl (by decide) (by decide) wf_X7_30 (v := .ref (E.2.2 78)) rfl dX7_count_110 ?_
                  refine lv_bipush (v := (69 : Int32)) hx hb dX7_count_113 (by decide) ?_
                  refine fd_iald 78 (275 : Int32) C hH (by decide) rfl rfl (by decide) dX7_count_115 ?_
                  cases hf
                  exact fd_iret C hr hlk hH dX7_count_116
                · have hf := fd_ifn c10 hf
                  by_cases c11 : x1 = (8 : Int32)
                  · have hf := fd_ifp c11 hf
                    refine lv_tableIn (off := 116) (tgt := 117) hx hb dX7_count_1 (by rw [c11]; decide) (by rw [c11]; decide) (by rw [c11]; rfl) (by decide) ?_
                    refine lv_aload_n hx hb dX7_count_117 rfl (lv_at hl 0 rfl) ?_
                    refine fd_get 73 7 4 C hH (by decide) rfl (by decide) (by decide) wf_X7_30 (v := .ref (E.2.2 78)) rfl dX7_count_118 ?_
                    refine lv_bipush (v := (70 : Int32)) hx hb dX7_count_121 (by decide) ?_
                    refine fd_iald 78 (275 : Int32) C hH (by decide) rfl rfl (by decide) dX7_count_123 ?_
                    cases hf
                    exact fd_iret C hr hlk hH dX7_count_124
                  · have hf := fd_ifn c11 hf
                    by_cases c12 : x1 = (9 : Int32)
                    · have hf := fd_ifp c12 hf
                      refine lv_tableIn (off := 124) (tgt := 125) hx hb dX7_count_1 (by rw [c12]; decide) (by rw [c12]; decide) (by rw [c12]; rfl) (by decide) ?_
                      refine lv_aload_n hx hb dX7_count_125 rfl (lv_at hl 0 rfl) ?_
                      refine fd_get 73 7 6 C hH (by decide) rfl (by decide) (by decide) wf_X7_36 (v := .ref (E.2.2 80)) rfl dX7_count_126 ?_
                      refine lv_iconst (v := (0 : Int32)) hx hb dX7_count_129 (by decide) ?_
                      refine fd_zald 80 (2 : Int32) C hH (by decide) rfl rfl (by decide) dX7_count_130 ?_
                      refine lv_if_eq (tgt := 138) hx hb dX7_count_131 (by decide) (fun c13 => ?_) (fun c13 => ?_)
                      · have hf := fd_ifp c13 hf
                        refine lv_iconst (v := (0 : Int32)) hx hb dX7_count_138 (by decide) ?_
                        refine lv_aload_n hx hb dX7_count_139 rfl (lv_at hl 0 rfl) ?_
                        refine fd_get 73 7 6 C hH (by decide) rfl (by decide) (by decide) wf_X7_36 (v := .ref (E.2.2 80)) rfl dX7_count_140 ?_
                        refine lv_iconst (v := (1 : Int32)) hx hb dX7_count_143 (by decide) ?_
                        refine fd_zald 80 (2 : Int32) C hH (by decide) rfl rfl (by decide) dX7_count_144 ?_
                        refine lv_if_eq (tgt := 152) hx hb dX7_count_145 (by decide) (fun c14 => ?_) (fun c14 => ?_)
                        · have hf := fd_ifp c14 hf
                          refine lv_iconst (v := (0 : Int32)) hx hb dX7_count_152 (by decide) ?_
                          refine lv_iadd hx hb dX7_count_153 ?_
                          cases hf
                          exact fd_iret C hr hlk hH dX7_count_154
                        · have hf := fd_ifn c14 hf
                          refine lv_iconst (v := (2 : Int32)) hx hb dX7_count_148 (by decide) ?_
                          refine lv_goto (tgt := 153) hx hb dX7_count_149 (by decide) ?_
                          refine lv_iadd hx hb dX7_count_153 ?_
                          cases hf
                          exact fd_iret C hr hlk hH dX7_count_154
                      · have hf := fd_ifn c13 hf
                        refine lv_iconst (v := (1 : Int32)) hx hb dX7_count_134 (by decide) ?_
                        refine lv_goto (tgt := 139) hx hb dX7_count_135 (by decide) ?_
                        refine lv_aload_n hx hb dX7_count_139 rfl (lv_at hl 0 rfl) ?_
                        refine fd_get 73 7 6 C hH (by decide) rfl (by decide) (by decide) wf_X7_36 (v := .ref (E.2.2 80)) rfl dX7_count_140 ?_
                        refine lv_iconst (v := (1 : Int32)) hx hb dX7_count_143 (by decide) ?_
                        refine fd_zald 80 (2 : Int32) C hH (by decide) rfl rfl (by decide) dX7_count_144 ?_
                        refine lv_if_eq (tgt := 152) hx hb dX7_count_145 (by decide) (fun c15 => ?_) (fun c15 => ?_)
                        · have hf := fd_ifp c15 hf
                          refine lv_iconst (v := (0 : Int32)) hx hb dX7_count_152 (by decide) ?_
                          refine lv_iadd hx hb dX7_count_153 ?_
                          cases hf
                          exact fd_iret C hr hlk hH dX7_count_154
                        · have hf := fd_ifn c15 hf
                          refine lv_iconst (v := (2 : Int32)) hx hb dX7_count_148 (by decide) ?_
                          refine lv_goto (tgt := 153) hx hb dX7_count_149 (by decide) ?_
                          refine lv_iadd hx hb dX7_count_153 ?_
                          cases hf
                          exact fd_iret C hr hlk hH dX7_count_154
                    · have hf := fd_ifn c12 hf
                      refine lv_tableOut (tgt := 155) hx hb dX7_count_1 (by have hc1 := fd_ne (0 : Int32) (z := 0) (by decide) c1; have hc2 := fd_ne (1 : Int32) (z := 1) (by decide) c2; have hc3 := fd_ne (2 : Int32) (z := 2) (by decide) c3; have hc6 := fd_ne (3 : Int32) (z := 3) (by decide) c6; have hc7 := fd_ne (4 : Int32) (z := 4) (by decide) c7; have hc8 := fd_ne (5 : Int32) (z := 5) (by decide) c8; have hc9 := fd_ne (6 : Int32) (z := 6) (by decide) c9; have hc10 := fd_ne (7 : Int32) (z := 7) (by decide) c10; have hc11 := fd_ne (8 : Int32) (z := 8) (by decide) c11; have hc12 := fd_ne (9 : Int32) (z := 9) (by decide) c12; omega) (by decide) ?_
                      refine lv_bipush (v := (-2 : Int32)) hx hb dX7_count_155 (by decide) ?_
                      cases hf
                      exact fd_iret C hr hlk hH dX7_count_157
