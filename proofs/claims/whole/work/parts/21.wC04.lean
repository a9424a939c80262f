theorem dX4_letGoAt_0 : decode cX4_letGoAt 0 = .ok (.aload_n 1, 1) := by decide +kernel
theorem dX4_letGoAt_1 : decode cX4_letGoAt 1 = .ok (.ifnull 10, 3) := by decide +kernel
theorem dX4_letGoAt_4 : decode cX4_letGoAt 4 = .ok (.aload_n 1, 1) := by decide +kernel
theorem dX4_letGoAt_5 : decode cX4_letGoAt 5 = .ok (.getfield 116, 3) := by decide +kernel
theorem dX4_letGoAt_8 : decode cX4_letGoAt 8 = .ok (.ifCond .ne 6, 3) := by decide +kernel
theorem dX4_letGoAt_11 : decode cX4_letGoAt 11 = .ok (.bipush (-6), 2) := by decide +kernel
theorem dX4_letGoAt_13 : decode cX4_letGoAt 13 = .ok (.ireturn, 1) := by decide +kernel
theorem dX4_letGoAt_14 : decode cX4_letGoAt 14 = .ok (.aload_n 1, 1) := by decide +kernel
theorem dX4_letGoAt_15 : decode cX4_letGoAt 15 = .ok (.getfield 123, 3) := by decide +kernel
theorem dX4_letGoAt_18 : decode cX4_letGoAt 18 = .ok (.istore_n 2, 1) := by decide +kernel
theorem dX4_letGoAt_19 : decode cX4_letGoAt 19 = .ok (.iconst 1, 1) := by decide +kernel
theorem dX4_letGoAt_20 : decode cX4_letGoAt 20 = .ok (.istore_n 3, 1) := by decide +kernel
theorem dX4_letGoAt_21 : decode cX4_letGoAt 21 = .ok (.iload_n 3, 1) := by decide +kernel
theorem dX4_letGoAt_22 : decode cX4_letGoAt 22 = .ok (.sipush 5000, 3) := by decide +kernel
theorem dX4_letGoAt_25 : decode cX4_letGoAt 25 = .ok (.if_icmp .gt 53, 3) := by decide +kernel
theorem dX4_letGoAt_28 : decode cX4_letGoAt 28 = .ok (.aload_n 0, 1) := by decide +kernel
theorem dX4_letGoAt_29 : decode cX4_letGoAt 29 = .ok (.getfield 84, 3) := by decide +kernel
theorem dX4_letGoAt_32 : decode cX4_letGoAt 32 = .ok (.iload_n 3, 1) := by decide +kernel
theorem dX4_letGoAt_33 : decode cX4_letGoAt 33 = .ok (.iadd, 1) := by decide +kernel
theorem dX4_letGoAt_34 : decode cX4_letGoAt 34 = .ok (.istore 4, 2) := by decide +kernel
theorem dX4_letGoAt_36 : decode cX4_letGoAt 36 = .ok (.iload_n 2, 1) := by decide +kernel
theorem dX4_letGoAt_37 : decode cX4_letGoAt 37 = .ok (.iload 4, 2) := by decide +kernel
theorem dX4_letGoAt_39 : decode cX4_letGoAt 39 = .ok (.if_icmp .gt 33, 3) := by decide +kernel
theorem dX4_letGoAt_42 : decode cX4_letGoAt 42 = .ok (.aload_n 0, 1) := by decide +kernel
theorem dX4_letGoAt_43 : decode cX4_letGoAt 43 = .ok (.iload 4, 2) := by decide +kernel
theorem dX4_letGoAt_45 : decode cX4_letGoAt 45 = .ok (.invokevirtual 146, 3) := by decide +kernel
theorem dX4_letGoAt_48 : decode cX4_letGoAt 48 = .ok (.ifCond .eq 24, 3) := by decide +kernel
theorem dX4_letGoAt_51 : decode cX4_letGoAt 51 = .ok (.aload_n 0, 1) := by decide +kernel
theorem dX4_letGoAt_52 : decode cX4_letGoAt 52 = .ok (.aload_n 1, 1) := by decide +kernel
theorem dX4_letGoAt_53 : decode cX4_letGoAt 53 = .ok (.iload 4, 2) := by decide +kernel
theorem dX4_letGoAt_55 : decode cX4_letGoAt 55 = .ok (.invokevirtual 142, 3) := by decide +kernel
theorem dX4_letGoAt_58 : decode cX4_letGoAt 58 = .ok (.ifCond .eq 6, 3) := by decide +kernel
theorem dX4_letGoAt_61 : decode cX4_letGoAt 61 = .ok (.iload 4, 2) := by decide +kernel
theorem dX4_letGoAt_63 : decode cX4_letGoAt 63 = .ok (.ireturn, 1) := by decide +kernel
theorem dX4_letGoAt_64 : decode cX4_letGoAt 64 = .ok (.aload_n 0, 1) := by decide +kernel
theorem dX4_letGoAt_65 : decode cX4_letGoAt 65 = .ok (.aload_n 1, 1) := by decide +kernel
theorem dX4_letGoAt_66 : decode cX4_letGoAt 66 = .ok (.iload 4, 2) := by decide +kernel
theorem dX4_letGoAt_68 : decode cX4_letGoAt 68 = .ok (.invokevirtual 120, 3) := by decide +kernel
theorem dX4_letGoAt_71 : decode cX4_letGoAt 71 = .ok (.istore_n 2, 1) := by decide +kernel
theorem dX4_letGoAt_72 : decode cX4_letGoAt 72 = .ok (.iinc 3 1, 3) := by decide +kernel
theorem dX4_letGoAt_75 : decode cX4_letGoAt 75 = .ok (.goto (-54), 3) := by decide +kernel
theorem dX4_letGoAt_78 : decode cX4_letGoAt 78 = .ok (.bipush (-6), 2) := by decide +kernel
theorem dX4_letGoAt_80 : decode cX4_letGoAt 80 = .ok (.ireturn, 1) := by decide +kernel
set_option maxHeartbeats 4000000 in
set_option maxRecDepth 100000 in
theorem wS_letGoAt_21 {p : Program} {l : Launch} {e : Env} {s : State} {m : MethodId} {args : Array Value} {below : List Frame} {meth : Method} {c : Code} {E : fd_E} (C : fd_C p s m args c yX4_letGoAt.cls cX4_letGoAt 5 E) (hr : meth.sig.returnType = (some .int)) (hlk : meth.locks = false) (fu : Nat) {r0 : Int32} : ∀ (n : Nat) (S : fd_S) (k1 : Nat) (x2 : Int32) (x3 : Int32) (H : Heap) (locs : List Loc) (ls : Array Slot), zS_letGoAt_21 fu n S k1 x2 x3 = some r0 → fd_H E S s H locs → lv_has ls 5 [(0, .ref (E.2.2 0)), (1, .ref (E.2.2 k1)), (2, .int x2), (3, .int x3)] → W p l e (fd_rm 3 74) s m args below meth c H locs 0 0 (MQ below (fd_Q E (some (.int r0)) S) args s 0 0 (fd_A E)) (F0 m 21 ls []) := by
  have hx := C.1
  have hb := C.2.1
  intro n
  induction n with
  | zero =>
    intro S k1 x2 x3 H locs ls hf
    rw [zS_letGoAt_21] at hf
    cases hf
  | succ n ih =>
    intro S k1 x2 x3 H locs ls hf hH hl
    rw [zS_letGoAt_21] at hf
    refine lv_iload_n hx hb dX4_letGoAt_21 rfl (lv_at hl 3 rfl) ?_
    refine lv_sipush (v := (5000 : Int32)) hx hb dX4_letGoAt_22 (by decide) ?_
    refine lv_icmp_gt (tgt := 78) hx hb dX4_letGoAt_25 (by decide) (fun c4 => ?_) (fun c4 => ?_)
    · have hf := fd_ifp c4 hf
      refine lv_bipush (v := (-6 : Int32)) hx hb dX4_letGoAt_78 (by decide) ?_
      cases hf
      exact fd_iret C hr hlk hH dX4_letGoAt_80
    · have hf := fd_ifn c4 hf
      refine lv_aload_n hx hb dX4_letGoAt_28 rfl (lv_at hl 0 rfl) ?_
      refine fd_get 0 4 6 C hH (by decide) rfl (by decide) (by decide) wf_X4_84 (v := .int (S 0 (6 : Int32))) rfl dX4_letGoAt_29 ?_
      refine lv_iload_n hx hb dX4_letGoAt_32 rfl (lv_at hl 3 rfl) ?_
      refine lv_iadd hx hb dX4_letGoAt_33 ?_
      refine lv_topi (fun y5 ey5 => ?_)
      have hf := fd_ltN ey5 hf
      refine lv_istore (lv' := [(4, .int y5), (0, .ref (E.2.2 0)), (1, .ref (E.2.2 k1)), (2, .int x2), (3, .int x3)]) hx hb dX4_letGoAt_34 hl (by decide) rfl (fun ls hl => ?_)
      refine lv_iload_n hx hb dX4_letGoAt_36 rfl (lv_at hl 3 rfl) ?_
      refine lv_iload hx hb dX4_letGoAt_37 (lv_at hl 0 rfl) ?_
      refine lv_icmp_gt (tgt := 72) hx hb dX4_letGoAt_39 (by decide) (fun c6 => ?_) (fun c6 => ?_)
      · have hf := fd_ifp c6 hf
        obtain ⟨y7, ey7, hf⟩ := fd_ltS hf
        refine lv_iinc (v := y7) (lv' := [(3, .int y7), (4, .int y5), (0, .ref (E.2.2 0)), (1, .ref (E.2.2 k1)), (2, .int x2)]) hx hb dX4_letGoAt_72 hl (k := 4) rfl (by rw [ey7]; rfl) (by decide) rfl (fun ls hl => ?_)
        refine lv_goto (tgt := 21) hx hb dX4_letGoAt_75 (by decide) ?_
        exact ih S k1 x2 y7 _ _ _ hf hH (lv_sub hl [2, 3, 4, 0] rfl)
      · have hf := fd_ifn c6 hf
        refine lv_aload_n hx hb dX4_letGoAt_42 rfl (lv_at hl 1 rfl) ?_
        refine lv_iload hx hb dX4_letGoAt_43 (lv_at hl 0 rfl) ?_
        obtain ⟨r8, e9, hf⟩ := fd_bnd hf
        refine fd_callV1 0 4 [.int y5] C hl.1 hH (cS_isLookedAt l E S y5 e9) wm_X4_146 (by decide) rfl (by decide) rfl ⟨rfl, rfl, Nat.le_of_ble_eq_true rfl, Nat.le_of_ble_eq_true rfl⟩ rfl rfl (Nat.le_of_ble_eq_true rfl) ⟨Nat.le_refl _, Nat.le_refl _⟩ dX4_letGoAt_45 (fun H locs hH => ?_)
        refine lv_if_eq (tgt := 72) hx hb dX4_letGoAt_48 (by decide) (fun c10 => ?_) (fun c10 => ?_)
        · have hf := fd_ifp c10 hf
          obtain ⟨y11, ey11, hf⟩ := fd_ltS hf
          refine lv_iinc (v := y11) (lv' := [(3, .int y11), (4, .int y5), (0, .ref (E.2.2 0)), (1, .ref (E.2.2 k1)), (2, .int x2)]) hx hb dX4_letGoAt_72 hl (k := 4) rfl (by rw [ey11]; rfl) (by decide) rfl (fun ls hl => ?_)
          refine lv_goto (tgt := 21) hx hb dX4_letGoAt_75 (by decide) ?_
          exact ih S k1 x2 y11 _ _ _ hf hH (lv_sub hl [2, 3, 4, 0] rfl)
        · have hf := fd_ifn c10 hf
          refine lv_aload_n hx hb dX4_letGoAt_51 rfl (lv_at hl 1 rfl) ?_
          refine lv_aload_n hx hb dX4_letGoAt_52 rfl (lv_at hl 2 rfl) ?_
          refine lv_iload hx hb dX4_letGoAt_53 (lv_at hl 0 rfl) ?_
          obtain ⟨r12, e13, hf⟩ := fd_bnd hf
          refine fd_callV1 0 4 [.ref (E.2.2 k1), .int y5] C hl.1 hH (cS_isBelowBack l E S k1 y5 e13) wm_X4_142 (by decide) rfl (by decide) rfl ⟨rfl, rfl, Nat.le_of_ble_eq_true rfl, Nat.le_of_ble_eq_true rfl⟩ rfl rfl (Nat.le_of_ble_eq_true rfl) ⟨Nat.le_refl _, Nat.le_refl _⟩ dX4_letGoAt_55 (fun H locs hH => ?_)
          refine lv_if_eq (tgt := 64) hx hb dX4_letGoAt_58 (by decide) (fun c14 => ?_) (fun c14 => ?_)
          · have hf := fd_ifp c14 hf
            refine lv_aload_n hx hb dX4_letGoAt_64 rfl (lv_at hl 1 rfl) ?_
            refine lv_aload_n hx hb dX4_letGoAt_65 rfl (lv_at hl 2 rfl) ?_
            refine lv_iload hx hb dX4_letGoAt_66 (lv_at hl 0 rfl) ?_
            obtain ⟨r15, e16, hf⟩ := fd_bnd hf
            refine fd_callV1 0 4 [.ref (E.2.2 k1), .int y5] C hl.1 hH (cS_dueAfter l E fu S k1 y5 e16) wm_X4_120 (by decide) rfl (by decide) rfl ⟨rfl, rfl, Nat.le_of_ble_eq_true rfl, Nat.le_of_ble_eq_true rfl⟩ rfl rfl (Nat.le_of_ble_eq_true rfl) ⟨Nat.le_refl _, Nat.le_refl _⟩ dX4_letGoAt_68 (fun H locs hH => ?_)
            refine lv_istore_n (lv' := [(2, .int r15), (4, .int y5), (0, .ref (E.2.2 0)), (1, .ref (E.2.2 k1)), (3, .int x3)]) hx hb dX4_letGoAt_71 rfl hl (by decide) rfl (fun ls hl => ?_)
            obtain ⟨y17, ey17, hf⟩ := fd_ltS hf
            refine lv_iinc (v := y17) (lv' := [(3, .int y17), (2, .int r15), (4, .int y5), (0, .ref (E.2.2 0)), (1, .ref (E.2.2 k1))]) hx hb dX4_letGoAt_72 hl (k := 4) rfl (by rw [ey17]; rfl) (by decide) rfl (fun ls hl => ?_)
            refine lv_goto (tgt := 21) hx hb dX4_letGoAt_75 (by decide) ?_
            exact ih S k1 r15 y17 _ _ _ hf hH (lv_sub hl [3, 4, 1, 0] rfl)
          · have hf := fd_ifn c14 hf
            refine lv_iload hx hb dX4_letGoAt_61 (lv_at hl 0 rfl) ?_
            cases hf
            exact fd_iret C hr hlk hH dX4_letGoAt_63
set_option maxHeartbeats 4000000 in
set_option maxRecDepth 100000 in
theorem cS_letGoAt (l : Launch) (E : fd_E) (fu : Nat) (S : fd_S) (o1 : (Option Nat)) {r0 : Int32} (hf : zS_letGoAt fu S o1 = some r0) : fd_Ct l yX4_letGoAt cX4_letGoAt 5 (some .int) (fd_rm 3 74) E S [.ref (E.2.2 0), fd_rv E o1] (some (.int r0)) S := by
  unfold zS_letGoAt at hf
  cases o1 with
  | none =>
    have hf := fd_on_n hf
    refine fd_Ct_of (by decide +kernel) (Nat.le_of_ble_eq_true rfl) ?_
    intro p e s m below meth c ls C hr hlk hH hl
    have hx := C.1
    have hb := C.2.1
    have hl : lv_has ls 5 [(0, .ref (E.2.2 0)), (1, .null)] := hl
    refine lv_aload_nN hx hb dX4_letGoAt_0 rfl (lv_at hl 1 rfl) ?_
    refine lv_ifnullN (tgt := 11) hx hb dX4_letGoAt_1 (by decide) ?_
    refine lv_bipush (v := (-6 : Int32)) hx hb dX4_letGoAt_11 (by decide) ?_
    cases hf
    exact fd_iret C hr hlk hH dX4_letGoAt_13
  | some k1 =>
    have hf := fd_on_s hf
    refine fd_Ct_of (by decide +kernel) (Nat.le_of_ble_eq_true rfl) ?_
    intro p e s m below meth c ls C hr hlk hH hl
    have hx := C.1
    have hb := C.2.1
    have hl : lv_has ls 5 [(0, .ref (E.2.2 0)), (1, .ref (E.2.2 k1))] := hl
    refine lv_aload_n hx hb dX4_letGoAt_0 rfl (lv_at hl 1 rfl) ?_
    refine lv_ifnull hx hb dX4_letGoAt_1 ?_
    refine lv_aload_n hx hb dX4_letGoAt_4 rfl (lv_at hl 1 rfl) ?_
    obtain ⟨g1, hf⟩ := fd_grd hf
    refine fd_get k1 3 3 C hH (fd_rk1 g1) (fd_rk3 g1) (by decide) (by decide) wf_X4_116 (v := .int (S k1 (3 : Int32))) rfl dX4_letGoAt_5 ?_
    refine lv_if_ne (tgt := 14) hx hb dX4_letGoAt_8 (by decide) (fun c2 => ?_) (fun c2 => ?_)
    · have hf := fd_ifn c2 hf
      refine lv_aload_n hx hb dX4_letGoAt_14 rfl (lv_at hl 1 rfl) ?_
      refine fd_get k1 3 4 C hH (fd_rk1 g1) (fd_rk3 g1) (by decide) (by decide) wf_X4_123 (v := .int (S k1 (4 : Int32))) rfl dX4_letGoAt_15 ?_
      refine lv_topi (fun y3 ey3 => ?_)
      have hf := fd_ltN ey3 hf
      refine lv_istore_n (lv' := [(2, .int y3), (0, .ref (E.2.2 0)), (1, .ref (E.2.2 k1))]) hx hb dX4_letGoAt_18 rfl hl (by decide) rfl (fun ls hl => ?_)
      refine lv_iconst (v := (1 : Int32)) hx hb dX4_letGoAt_19 (by decide) ?_
      refine lv_istore_n (lv' := [(3, .int (1 : Int32)), (2, .int y3), (0, .ref (E.2.2 0)), (1, .ref (E.2.2 k1))]) hx hb dX4_letGoAt_20 rfl hl (by decide) rfl (fun ls hl => ?_)
      exact wS_letGoAt_21 C hr hlk fu fu S k1 y3 (1 : Int32) _ _ _ hf hH (lv_sub hl [2, 3, 1, 0] rfl)
    · have hf := fd_ifp c2 hf
      refine lv_bipush (v := (-6 : Int32)) hx hb dX4_letGoAt_11 (by decide) ?_
      cases hf
      exact fd_iret C hr hlk hH dX4_letGoAt_13
theorem dX4_tellRecord_0 : decode cX4_tellRecord 0 = .ok (.iload_n 2, 1) := by decide +kernel
theorem dX4_tellRecord_1 : decode cX4_tellRecord 1 = .ok (.tableswitch 103 1 5 #[35, 45, 58, 75, 89], 35) := by decide +kernel
theorem dX4_tellRecord_36 : decode cX4_tellRecord 36 = .ok (.aload_n 0, 1) := by decide +kernel
theorem dX4_tellRecord_37 : decode cX4_tellRecord 37 = .ok (.aload_n 1, 1) := by decide +kernel
theorem dX4_tellRecord_38 : decode cX4_tellRecord 38 = .ok (.aload_n 0, 1) := by decide +kernel
theorem dX4_tellRecord_39 : decode cX4_tellRecord 39 = .ok (.getfield 84, 3) := by decide +kernel
theorem dX4_tellRecord_42 : decode cX4_tellRecord 42 = .ok (.invokevirtual 98, 3) := by decide +kernel
theorem dX4_tellRecord_45 : decode cX4_tellRecord 45 = .ok (.ireturn, 1) := by decide +kernel
theorem dX4_tellRecord_46 : decode cX4_tellRecord 46 = .ok (.aload_n 1, 1) := by decide +kernel
theorem dX4_tellRecord_47 : decode cX4_tellRecord 47 = .ok (.invokestatic 179, 3) := by decide +kernel
theorem dX4_tellRecord_50 : decode cX4_tellRecord 50 = .ok (.ifCond .eq 7, 3) := by decide +kernel
theorem dX4_tellRecord_53 : decode cX4_tellRecord 53 = .ok (.iconst 1, 1) := by decide +kernel
theorem dX4_tellRecord_54 : decode cX4_tellRecord 54 = .ok (.goto 4, 3) := by decide +kernel
theorem dX4_tellRecord_57 : decode cX4_tellRecord 57 = .ok (.iconst 0, 1) := by decide +kernel
theorem dX4_tellRecord_58 : decode cX4_tellRecord 58 = .ok (.ireturn, 1) := by decide +kernel
theorem dX4_tellRecord_59 : decode cX4_tellRecord 59 = .ok (.aload_n 1, 1) := by decide +kernel
theorem dX4_tellRecord_60 : decode cX4_tellRecord 60 = .ok (.invokestatic 179, 3) := by decide +kernel
theorem dX4_tellRecord_63 : decode cX4_tellRecord 63 = .ok (.ifCond .eq 10, 3) := by decide +kernel
theorem dX4_tellRecord_66 : decode cX4_tellRecord 66 = .ok (.aload_n 1, 1) := by decide +kernel
theorem dX4_tellRecord_67 : decode cX4_tellRecord 67 = .ok (.getfield 123, 3) := by decide +kernel
theorem dX4_tellRecord_70 : decode cX4_tellRecord 70 = .ok (.goto 5, 3) := by decide +kernel
theorem dX4_tellRecord_73 : decode cX4_tellRecord 73 = .ok (.bipush (-6), 2) := by decide +kernel
theorem dX4_tellRecord_75 : decode cX4_tellRecord 75 = .ok (.ireturn, 1) := by decide +kernel
theorem dX4_tellRecord_76 : decode cX4_tellRecord 76 = .ok (.aload_n 1, 1) := by decide +kernel
theorem dX4_tellRecord_77 : decode cX4_tellRecord 77 = .ok (.ifnonnull 8, 3) := by decide +kernel
theorem dX4_tellRecord_80 : decode cX4_tellRecord 80 = .ok (.bipush (-6), 2) := by decide +kernel
theorem dX4_tellRecord_82 : decode cX4_tellRecord 82 = .ok (.goto 7, 3) := by decide +kernel
theorem dX4_tellRecord_85 : decode cX4_tellRecord 85 = .ok (.aload_n 1, 1) := by decide +kernel
theorem dX4_tellRecord_86 : decode cX4_tellRecord 86 = .ok (.getfield 107, 3) := by decide +kernel
theorem dX4_tellRecord_89 : decode cX4_tellRecord 89 = .ok (.ireturn, 1) := by decide +kernel
theorem dX4_tellRecord_90 : decode cX4_tellRecord 90 = .ok (.aload_n 1, 1) := by decide +kernel
theorem dX4_tellRecord_91 : decode cX4_tellRecord 91 = .ok (.ifnonnull 8, 3) := by decide +kernel
theorem dX4_tellRecord_94 : decode cX4_tellRecord 94 = .ok (.bipush (-6), 2) := by decide +kernel
theorem dX4_tellRecord_96 : decode cX4_tellRecord 96 = .ok (.goto 7, 3) := by decide +kernel
theorem dX4_tellRecord_99 : decode cX4_tellRecord 99 = .ok (.aload_n 1, 1) := by decide +kernel
theorem dX4_tellRecord_100 : decode cX4_tellRecord 100 = .ok (.getfield 110, 3) := by decide +kernel
theorem dX4_tellRecord_103 : decode cX4_tellRecord 103 = .ok (.ireturn, 1) := by decide +kernel
theorem dX4_tellRecord_104 : decode cX4_tellRecord 104 = .ok (.aload_n 1, 1) := by decide +kernel
theorem dX4_tellRecord_105 : decode cX4_tellRecord 105 = .ok (.ifnonnull 7, 3) := by decide +kernel
theorem dX4_tellRecord_108 : decode cX4_tellRecord 108 = .ok (.iconst 0, 1) := by decide +kernel
theorem dX4_tellRecord_109 : decode cX4_tellRecord 109 = .ok (.goto 7, 3) := by decide +kernel
theorem dX4_tellRecord_112 : decode cX4_tellRecord 112 = .ok (.aload_n 1, 1) := by decide +kernel
theorem dX4_tellRecord_113 : decode cX4_tellRecord 113 = .ok (.getfield 183, 3) := by decide +kernel
theorem dX4_tellRecord_116 : decode cX4_tellRecord 116 = .ok (.ireturn, 1) := by decide +kernel
set_option maxHeartbeats 4000000 in
set_option maxRecDepth 100000 in
theorem cS_tellRecord (l : Launch) (E : fd_E) (S : fd_S) (o1 : (Option Nat)) (x2 : Int32) {r0 : Int32} (hf : zS_tellRecord S o1 x2 = some r0) : fd_Ct l yX4_tellRecord cX4_tellRecord 3 (some .int) (fd_rm 2 49) E S [.ref (E.2.2 0), fd_rv E o1, .int x2] (some (.int r0)) S := by
  unfold zS_tellRecord at hf
  cases o1 with
  | none =>
    have hf := fd_on_n hf
    refine fd_Ct_of (by decide +kernel) (Nat.le_of_ble_eq_true rfl) ?_
    intro p e s m below meth c ls C hr hlk hH hl
    have hx := C.1
    have hb := C.2.1
    have hl : lv_has ls 3 [(0, .ref (E.2.2 0)), (1, .null), (2, .int x2)] := hl
    refine lv_iload_n hx hb dX4_tellRecord_0 rfl (lv_at hl 2 rfl) ?_
    by_cases c1 : x2 = (1 : Int32)
    · have hf := fd_ifp c1 hf
      refine lv_tableIn (off := 35) (tgt := 36) hx hb dX4_tellRecord_1 (by rw [c1]; decide) (by rw [c1]; decide) (by rw [c1]; rfl) (by decide) ?_
      refine lv_aload_n hx hb dX4_tellRecord_36 rfl (lv_at hl 0 rfl) ?_
      refine lv_aload_nN hx hb dX4_tellRecord_37 rfl (lv_at hl 1 rfl) ?_
      refine lv_aload_n hx hb dX4_tellRecord_38 rfl (lv_at hl 0 rfl) ?_
      refine fd_get 0 4 6 C hH (by decide) rfl (by decide) (by decide) wf_X4_84 (v := .int (S 0 (6 : Int32))) rfl dX4_tellRecord_39 ?_
      obtain ⟨r2, e3, hf⟩ := fd_bnd hf
      refine fd_callV1 0 4 [.null, .int (S 0 (6 : Int32))] C hl.1 hH (cS_penaltyAt l E S none (S 0 (6 : Int32)) e3) wm_X4_98 (by decide) rfl (by decide) rfl ⟨rfl, rfl, Nat.le_of_ble_eq_true rfl, Nat.le_of_ble_eq_true rfl⟩ rfl rfl (Nat.le_of_ble_eq_true rfl) ⟨Nat.le_refl _, Nat.le_refl _⟩ dX4_tellRecord_42 (fun H locs hH => ?_)
      cases hf
      exact fd_iret C hr hlk hH dX4_tellRecord_45
    · have hf := fd_ifn c1 hf
      by_cases c4 : x2 = (2 : Int32)
      · have hf := fd_ifp c4 hf
        refine lv_tableIn (off := 45) (tgt := 46) hx hb dX4_tellRecord_1 (by rw [c4]; decide) (by rw [c4]; decide) (by rw [c4]; rfl) (by decide) ?_
        refine lv_aload_nN hx hb dX4_tellRecord_46 rfl (lv_at hl 1 rfl) ?_
        obtain ⟨r5, e6, hf⟩ := fd_bnd hf
        refine fd_callS1 [.null] C hl.1 hH (cS_isHeld l E S none e6) wm_X4_179 ⟨rfl, rfl, Nat.le_of_ble_eq_true rfl, Nat.le_of_ble_eq_true rfl⟩ rfl rfl (Nat.le_of_ble_eq_true rfl) ⟨Nat.le_refl _, Nat.le_refl _⟩ dX4_tellRecord_47 (fun H locs hH => ?_)
        refine lv_if_eq (tgt := 57) hx hb dX4_tellRecord_50 (by decide) (fun c7 => ?_) (fun c7 => ?_)
        · have hf := fd_ifp c7 hf
          refine lv_iconst (v := (0 : Int32)) hx hb dX4_tellRecord_57 (by decide) ?_
          cases hf
          exact fd_iret C hr hlk hH dX4_tellRecord_58
        · have hf := fd_ifn c7 hf
          refine lv_iconst (v := (1 : Int32)) hx hb dX4_tellRecord_53 (by decide) ?_
          refine lv_goto (tgt := 58) hx hb dX4_tellRecord_54 (by decide) ?_
          cases hf
          exact fd_iret C hr hlk hH dX4_tellRecord_58
      · have hf := fd_ifn c4 hf
        by_cases c8 : x2 = (3 : Int32)
        · have hf := fd_ifp c8 hf
          refine lv_tableIn (off := 58) (tgt := 59) hx hb dX4_tellRecord_1 (by rw [c8]; decide) (by rw [c8]; decide) (by rw [c8]; rfl) (by decide) ?_
          refine lv_aload_nN hx hb dX4_tellRecord_59 rfl (lv_at hl 1 rfl) ?_
          obtain ⟨r9, e10, hf⟩ := fd_bnd hf
          refine fd_callS1 [.null] C hl.1 hH (cS_isHeld l E S none e10) wm_X4_179 ⟨rfl, rfl, Nat.le_of_ble_eq_true rfl, Nat.le_of_ble_eq_true rfl⟩ rfl rfl (Nat.le_of_ble_eq_true rfl) ⟨Nat.le_refl _, Nat.le_refl _⟩ dX4_tellRecord_60 (fun H locs hH => ?_)
          refine lv_if_eq (tgt := 73) hx hb dX4_tellRecord_63 (by decide) (fun c11 => ?_) (fun c11 => ?_)
          · have hf := fd_ifp c11 hf
            refine lv_bipush (v := (-6 : Int32)) hx hb dX4_tellRecord_73 (by decide) ?_
            cases hf
            exact fd_iret C hr hlk hH dX4_tellRecord_75
          · have hf := fd_ifn c11 hf
            refine lv_aload_nN hx hb dX4_tellRecord_66 rfl (lv_at hl 1 rfl) ?_
            cases hf
        · have hf := fd_ifn c8 hf
          by_cases c12 : x2 = (4 : Int32)
          · have hf := fd_ifp c12 hf
            refine lv_tableIn (off := 75) (tgt := 76) hx hb dX4_tellRecord_1 (by rw [c12]; decide) (by rw [c12]; decide) (by rw [c12]; rfl) (by decide) ?_
            refine lv_aload_nN hx hb dX4_tellRecord_76 rfl (lv_at hl 1 rfl) ?_
            refine lv_ifnonnullN hx hb dX4_tellRecord_77 ?_
            refine lv_bipush (v := (-6 : Int32)) hx hb dX4_tellRecord_80 (by decide) ?_
            refine lv_goto (tgt := 89) hx hb dX4_tellRecord_82 (by decide) ?_
            cases hf
            exact fd_iret C hr hlk hH dX4_tellRecord_89
          · have hf := fd_ifn c12 hf
            by_cases c13 : x2 = (5 : Int32)
            · have hf := fd_ifp c13 hf
              refine lv_tableIn (off := 89) (tgt := 90) hx hb dX4_tellRecord_1 (by rw [c13]; decide) (by rw [c13]; decide) (by rw [c13]; rfl) (by decide) ?_
              refine lv_aload_nN hx hb dX4_tellRecord_90 rfl (lv_at hl 1 rfl) ?_
              refine lv_ifnonnullN hx hb dX4_tellRecord_91 ?_
              refine lv_bipush (v := (-6 : Int32)) hx hb dX4_tellRecord_94 (by decide) ?_
              refine lv_goto (tgt := 103) hx hb dX4_tellRecord_96 (by decide) ?_
              cases hf
              exact fd_iret C hr hlk hH dX4_tellRecord_103
            · have hf := fd_ifn c13 hf
              refine lv_tableOut (tgt := 104) hx hb dX4_tellRecord_1 (by have hc1 := fd_ne (1 : Int32) (z := 1) (by decide) c1; have hc4 := fd_ne (2 : Int32) (z := 2) (by decide) c4; have hc8 := fd_ne (3 : Int32) (z := 3) (by decide) c8; have hc12 := fd_ne (4 : Int32) (z := 4) (by decide) c12; have hc13 := fd_ne (5 : Int32) (z := 5) (by decide) c13; omega) (by decide) ?_
              refine lv_aload_nN hx hb dX4_tellRecord_104 rfl (lv_at hl 1 rfl) ?_
              refine lv_ifnonnullN hx hb dX4_tellRecord_105 ?_
              refine lv_iconst (v := (0 : Int32)) hx hb dX4_tellRecord_108 (by decide) ?_
              refine lv_goto (tgt := 116) hx hb dX4_tellRecord_109 (by decide) ?_
              cases hf
              exact fd_iret C hr hlk hH dX4_tellRecord_116
  | some k1 =>
    have hf := fd_on_s hf
    refine fd_Ct_of (by decide +kernel) (Nat.le_of_ble_eq_true rfl) ?_
    intro p e s m below meth c ls C hr hlk hH hl
    have hx := C.1
    have hb := C.2.1
    have hl : lv_has ls 3 [(0, .ref (E.2.2 0)), (1, .ref (E.2.2 k1)), (2, .int x2)] := hl
    refine lv_iload_n hx hb dX4_tellRecord_0 rfl (lv_at hl 2 rfl) ?_
    by_cases c14 : x2 = (1 : Int32)
    · have hf := fd_ifp c14 hf
      refine lv_tableIn (off := 35) (tgt := 36) hx hb dX4_tellRecord_1 (by rw [c14]; decide) (by rw [c14]; decide) (by rw [c14]; rfl) (by decide) ?_
      refine lv_aload_n hx hb dX4_tellRecord_36 rfl (lv_at hl 0 rfl) ?_
      refine lv_aload_n hx hb dX4_tellRecord_37 rfl (lv_at hl 1 rfl) ?_
      refine lv_aload_n hx hb dX4_tellRecord_38 rfl (lv_at hl 0 rfl) ?_
      refine fd_get 0 4 6 C hH (by decide) rfl (by decide) (by decide) wf_X4_84 (v := .int (S 0 (6 : Int32))) rfl dX4_tellRecord_39 ?_
      obtain ⟨r15, e16, hf⟩ := fd_bnd hf
      refine fd_callV1 0 4 [.ref (E.2.2 k1), .int (S 0 (6 : Int32))] C hl.1 hH (cS_penaltyAt l E S (some k1) (S 0 (6 : Int32)) e16) wm_X4_98 (by decide) rfl (by decide) rfl ⟨rfl, rfl, Nat.le_of_ble_eq_true rfl, Nat.le_of_ble_eq_true rfl⟩ rfl rfl (Nat.le_of_ble_eq_true rfl) ⟨Nat.le_refl _, Nat.le_refl _⟩ dX4_tellRecord_42 (fun H locs hH => ?_)
      cases hf
      exact fd_iret C hr hlk hH dX4_tellRecord_45
    · have hf := fd_ifn c14 hf
      by_cases c17 : x2 = (2 : Int32)
      · have hf := fd_ifp c17 hf
        refine lv_tableIn (off := 45) (tgt := 46) hx hb dX4_tellRecord_1 (by rw [c17]; decide) (by rw [c17]; decide) (by rw [c17]; rfl) (by decide) ?_
        refine lv_aload_n hx hb dX4_tellRecord_46 rfl (lv_at hl 1 rfl) ?_
        obtain ⟨r18, e19, hf⟩ := fd_bnd hf
        refine fd_callS1 [.ref (E.2.2 k1)] C hl.1 hH (cS_isHeld l E S (some k1) e19) wm_X4_179 ⟨rfl, rfl, Nat.le_of_ble_eq_true rfl, Nat.le_of_ble_eq_true rfl⟩ rfl rfl (Nat.le_of_ble_eq_true rfl) ⟨Nat.le_refl _, Nat.le_refl _⟩ dX4_tellRecord_47 (fun H locs hH => ?_)
        refine lv_if_eq (tgt := 57) hx hb dX4_tellRecord_50 (by decide) (fun c20 => ?_) (fun c20 => ?_)
        · have hf := fd_ifp c20 hf
          refine lv_iconst (v := (0 : Int32)) hx hb dX4_tellRecord_57 (by decide) ?_
          cases hf
          exact fd_iret C hr hlk hH dX4_tellRecord_58
        · have hf := fd_ifn c20 hf
          refine lv_iconst (v := (1 : Int32)) hx hb dX4_tellRecord_53 (by decide) ?_
          refine lv_goto (tgt := 58) hx hb dX4_tellRecord_54 (by decide) ?_
          cases hf
          exact fd_iret C hr hlk hH dX4_tellRecord_58
      · have hf := fd_ifn c17 hf
        by_cases c21 : x2 = (3 : Int32)
        · have hf := fd_ifp c21 hf
          refine lv_tableIn (off := 58) (tgt := 59) hx hb dX4_tellRecord_1 (by rw [c21]; decide) (by rw [c21]; decide) (by rw [c21]; rfl) (by decide) ?_
          refine lv_aload_n hx hb dX4_tellRecord_59 rfl (lv_at hl 1 rfl) ?_
          obtain ⟨r22, e23, hf⟩ := fd_bnd hf
          refine fd_callS1 [.ref (E.2.2 k1)] C hl.1 hH (cS_isHeld l E S (some k1) e23) wm_X4_179 ⟨rfl, rfl, Nat.le_of_ble_eq_true rfl, Nat.le_of_ble_eq_true rfl⟩ rfl rfl (Nat.le_of_ble_eq_true rfl) ⟨Nat.le_refl _, Nat.le_refl _⟩ dX4_tellRecord_60 (fun H locs hH => ?_)
          refine lv_if_eq (tgt := 73) hx hb dX4_tellRecord_63 (by decide) (fun c24 => ?_) (fun c24 => ?_)
          · have hf := fd_ifp c24 hf
            refine lv_bipush (v := (-6 : Int32)) hx hb dX4_tellRecord_73 (by decide) ?_
            cases hf
            exact fd_iret C hr hlk hH dX4_tellRecord_75
          · have hf := fd_ifn c24 hf
            refine lv_aload_n hx hb dX4_tellRecord_66 rfl (lv_at hl 1 rfl) ?_
            obtain ⟨g25, hf⟩ := fd_grd hf
            refine fd_get k1 3 4 C hH (fd_rk1 g25) (fd_rk3 g25) (by decide) (by decide) wf_X4_123 (v := .int (S k1 (4 : Int32))) rfl dX4_tellRecord_67 ?_
            refine lv_goto (tgt := 75) hx hb dX4_tellRecord_70 (by decide) ?_
            cases hf
            exact fd_iret C hr hlk hH dX4_tellRecord_75
        · have hf := fd_ifn c21 hf
          by_cases c26 : x2 = (4 : Int32)
          · have hf := fd_ifp c26 hf
            refine lv_tableIn (off := 75) (tgt := 76) hx hb dX4_tellRecord_1 (by rw [c26]; decide) (by rw [c26]; decide) (by rw [c26]; rfl) (by decide) ?_
            refine lv_aload_n hx hb dX4_tellRecord_76 rfl (lv_at hl 1 rfl) ?_
            refine lv_ifnonnull (tgt := 85) hx hb dX4_tellRecord_77 (by decide) ?_
            refine lv_aload_n hx hb dX4_tellRecord_85 rfl (lv_at hl 1 rfl) ?_
            obtain ⟨g27, hf⟩ := fd_grd hf
            refine fd_get k1 3 1 C hH (fd_rk1 g27) (fd_rk3 g27) (by decide) (by decide) wf_X4_107 (v := .int (S k1 (1 : Int32))) rfl dX4_tellRecord_86 ?_
            cases hf
            exact fd_iret C hr hlk hH dX4_tellRecord_89
          · have hf := fd_ifn c26 hf
            by_cases c28 : x2 = (5 : Int32)
            · have hf := fd_ifp c28 hf
              refine lv_tableIn (off := 89) (tgt := 90) hx hb dX4_tellRecord_1 (by rw [c28]; decide) (by rw [c28]; decide) (by rw [c28]; rfl) (by decide) ?_
              refine lv_aload_n hx hb dX4_tellRecord_90 rfl (lv_at hl 1 rfl) ?_
              refine lv_ifnonnull (tgt := 99) hx hb dX4_tellRecord_91 (by decide) ?_
              refine lv_aload_n hx hb dX4_tellRecord_99 rfl (lv_at hl 1 rfl) ?_
              obtain ⟨g29, hf⟩ := fd_grd hf
              refine fd_get k1 3 2 C hH (fd_rk1 g29) (fd_rk3 g29) (by decide) (by decide) wf_X4_110 (v := .int (S k1 (2 : Int32))) rfl dX4_tellRecord_100 ?_
              cases hf
              exact fd_iret C hr hlk hH dX4_tellRecord_103
            · have hf := fd_ifn c28 hf
              refine lv_tableOut (tgt := 104) hx hb dX4_tellRecord_1 (by have hc14 := fd_ne (1 : Int32) (z := 1) (by decide) c14; have hc17 := fd_ne (2 : Int32) (z := 2) (by decide) c17; have hc21 := fd_ne (3 : Int32) (z := 3) (by decide) c21; have hc26 := fd_ne (4 : Int32) (z := 4) (by decide) c26; have hc28 := fd_ne (5 : Int32) (z := 5) (by decide) c28; omega) (by decide) ?_
              refine lv_aload_n hx hb dX4_tellRecord_104 rfl (lv_at hl 1 rfl) ?_
              refine lv_ifnonnull (tgt := 112) hx hb dX4_tellRecord_105 (by decide) ?_
              refine lv_aload_n hx hb dX4_tellRecord_112 rfl (lv_at hl 1 rfl) ?_
              obtain ⟨g30, hf⟩ := fd_grd hf
              refine fd_get k1 3 6 C hH (fd_rk1 g30) (fd_rk3 g30) (by decide) (by decide) wf_X4_183 (v := .int (S k1 (6 : Int32))) rfl dX4_tellRecord_113 ?_
              cases hf
              exact fd_iret C hr hlk hH dX4_tellRecord_116
theorem dX4_tellBest_0 : decode cX4_tellBest 0 = .ok (.iload_n 2, 1) := by decide +kernel
theorem dX4_tellBest_1 : decode cX4_tellBest 1 = .ok (.iconst 2, 1) := by decide +kernel
theorem dX4_tellBest_2 : decode cX4_tellBest 2 = .ok (.if_icmp .ne 10, 3) := by decide +kernel
theorem dX4_tellBest_5 : decode cX4_tellBest 5 = .ok (.aload_n 0, 1) := by decide +kernel
theorem dX4_tellBest_6 : decode cX4_tellBest 6 = .ok (.getfield 39, 3) := by decide +kernel
theorem dX4_tellBest_9 : decode cX4_tellBest 9 = .ok (.iload_n 1, 1) := by decide +kernel
theorem dX4_tellBest_10 : decode cX4_tellBest 10 = .ok (.iaload, 1) := by decide +kernel
theorem dX4_tellBest_11 : decode cX4_tellBest 11 = .ok (.ireturn, 1) := by decide +kernel
theorem dX4_tellBest_12 : decode cX4_tellBest 12 = .ok (.aload_n 0, 1) := by decide +kernel
theorem dX4_tellBest_13 : decode cX4_tellBest 13 = .ok (.getfield 36, 3) := by decide +kernel
theorem dX4_tellBest_16 : decode cX4_tellBest 16 = .ok (.iload_n 1, 1) := by decide +kernel
theorem dX4_tellBest_17 : decode cX4_tellBest 17 = .ok (.iaload, 1) := by decide +kernel
theorem dX4_tellBest_18 : decode cX4_tellBest 18 = .ok (.bipush (-6), 2) := by decide +kernel
theorem dX4_tellBest_20 : decode cX4_tellBest 20 = .ok (.if_icmp .ne 6, 3) := by decide +kernel
theorem dX4_tellBest_23 : decode cX4_tellBest 23 = .ok (.bipush (-6), 2) := by decide +kernel
theorem dX4_tellBest_25 : decode cX4_tellBest 25 = .ok (.ireturn, 1) := by decide +kernel
theorem dX4_tellBest_26 : decode cX4_tellBest 26 = .ok (.iload_n 2, 1) := by decide +kernel
theorem dX4_tellBest_27 : decode cX4_tellBest 27 = .ok (.ifCond .ne 14, 3) := by decide +kernel
theorem dX4_tellBest_30 : decode cX4_tellBest 30 = .ok (.aload_n 0, 1) := by decide +kernel
theorem dX4_tellBest_31 : decode cX4_tellBest 31 = .ok (.getfield 36, 3) := by decide +kernel
theorem dX4_tellBest_34 : decode cX4_tellBest 34 = .ok (.iload_n 1, 1) := by decide +kernel
theorem dX4_tellBest_35 : decode cX4_tellBest 35 = .ok (.iaload, 1) := by decide +kernel
theorem dX4_tellBest_36 : decode cX4_tellBest 36 = .ok (.iconst 4, 1) := by decide +kernel
theorem dX4_tellBest_37 : decode cX4_tellBest 37 = .ok (.irem, 1) := by decide +kernel
theorem dX4_tellBest_38 : decode cX4_tellBest 38 = .ok (.goto 11, 3) := by decide +kernel
theorem dX4_tellBest_41 : decode cX4_tellBest 41 = .ok (.aload_n 0, 1) := by decide +kernel
theorem dX4_tellBest_42 : decode cX4_tellBest 42 = .ok (.getfield 36, 3) := by decide +kernel
theorem dX4_tellBest_45 : decode cX4_tellBest 45 = .ok (.iload_n 1, 1) := by decide +kernel
theorem dX4_tellBest_46 : decode cX4_tellBest 46 = .ok (.iaload, 1) := by decide +kernel
theorem dX4_tellBest_47 : decode cX4_tellBest 47 = .ok (.iconst 4, 1) := by decide +kernel
theorem dX4_tellBest_48 : decode cX4_tellBest 48 = .ok (.idiv, 1) := by decide +kernel
theorem dX4_tellBest_49 : decode cX4_tellBest 49 = .ok (.ireturn, 1) := by decide +kernel
set_option maxHeartbeats 4000000 in
set_option maxRecDepth 100000 in
theorem cS_tellBest (l : Launch) (E : fd_E) (S : fd_S) (x1 : Int32) (x2 : Int32) {r0 : Int32} (hf : zS_tellBest S x1 x2 = some r0) : fd_Ct l yX4_tellBest cX4_tellBest 3 (some .int) (fd_rm 0 0) E S [.ref (E.2.2 0), .int x1, .int x2] (some (.int r0)) S := by
  unfold zS_tellBest at hf
  refine fd_Ct_of (by decide +kernel) (Nat.le_of_ble_eq_true rfl) ?_
  intro p e s m below meth c ls C hr hlk hH hl
  have hx := C.1
  have hb := C.2.1
  have hl : lv_has ls 3 [(0, .ref (E.2.2 0)), (1, .int x1), (2, .int x2)] := hl
  refine lv_iload_n hx hb dX4_tellBest_0 rfl (lv_at hl 2 rfl) ?_
  refine lv_iconst (v := (2 : Int32)) hx hb dX4_tellBest_1 (by decide) ?_
  refine lv_icmp_ne (tgt := 12) hx hb dX4_tellBest_2 (by decide) (fun c1 => ?_) (fun c1 => ?_)
  · have hf := fd_ifn c1 hf
    refine lv_aload_n hx hb dX4_tellBest_12 rfl (lv_at hl 0 rfl) ?_
    refine fd_get 0 4 4 C hH (by decide) rfl (by decide) (by decide) wf_X4_36 (v := .ref (E.2.2 21)) rfl dX4_tellBest_13 ?_
    refine lv_iload_n hx hb dX4_tellBest_16 rfl (lv_at hl 1 rfl) ?_
    obtain ⟨g2, hf⟩ := fd_grd hf
    refine fd_iald 21 (8 : Int32) C hH (by decide) rfl rfl g2 dX4_tellBest_17 ?_
    refine lv_bipush (v := (-6 : Int32)) hx hb dX4_tellBest_18 (by decide) ?_
    refine lv_icmp_ne (tgt := 26) hx hb dX4_tellBest_20 (by decide) (fun c3 => ?_) (fun c3 => ?_)
    · have hf := fd_ifn c3 hf
      refine lv_iload_n hx hb dX4_tellBest_26 rfl (lv_at hl 2 rfl) ?_
      refine lv_if_ne (tgt := 41) hx hb dX4_tellBest_27 (by decide) (fun c4 => ?_) (fun c4 => ?_)
      · have hf := fd_ifn c4 hf
        refine lv_aload_n hx hb dX4_tellBest_41 rfl (lv_at hl 0 rfl) ?_
        refine fd_get 0 4 4 C hH (by decide) rfl (by decide) (by decide) wf_X4_36 (v := .ref (E.2.2 21)) rfl dX4_tellBest_42 ?_
        refine lv_iload_n hx hb dX4_tellBest_45 rfl (lv_at hl 1 rfl) ?_
        obtain ⟨g5, hf⟩ := fd_grd hf
        refine fd_iald 21 (8 : Int32) C hH (by decide) rfl rfl g5 dX4_tellBest_46 ?_
        refine lv_iconst (v := (4 : Int32)) hx hb dX4_tellBest_47 (by decide) ?_
        refine lv_idiv hx hb dX4_tellBest_48 (by decide) ?_
        cases hf
        exact fd_iret C hr hlk hH dX4_tellBest_49
      · have hf := fd_ifp c4 hf
        refine lv_aload_n hx hb dX4_tellBest_30 rfl (lv_at hl 0 rfl) ?_
        refine fd_get 0 4 4 C hH (by decide) rfl (by decide) (by decide) wf_X4_36 (v := .ref (E.2.2 21)) rfl dX4_tellBest_31 ?_
        refine lv_iload_n hx hb dX4_tellBest_34 rfl (lv_at hl 1 rfl) ?_
        obtain ⟨g6, hf⟩ := fd_grd hf
        refine fd_iald 21 (8 : Int32) C hH (by decide) rfl rfl g6 dX4_tellBest_35 ?_
        refine lv_iconst (v := (4 : Int32)) hx hb dX4_tellBest_36 (by decide) ?_
        refine fd_irem hx hb dX4_tellBest_37 (by decide) ?_
        refine lv_goto (tgt := 49) hx hb dX4_tellBest_38 (by decide) ?_
        cases hf
        exact fd_iret C hr hlk hH dX4_tellBest_49
    · have hf := fd_ifp c3 hf
      refine lv_bipush (v := (-6 : Int32)) hx hb dX4_tellBest_23 (by decide) ?_
      cases hf
      exact fd_iret C hr hlk hH dX4_tellBest_25
  · have hf := fd_ifp c1 hf
    refine lv_aload_n hx hb dX4_tellBest_5 rfl (lv_at hl 0 rfl) ?_
    refine fd_get 0 4 5 C hH (by decide) rfl (by decide) (by decide) wf_X4_39 (v := .ref (E.2.2 22)) rfl dX4_tellBest_6 ?_
    refine lv_iload_n hx hb dX4_tellBest_9 rfl (lv_at hl 1 rfl) ?_
    obtain ⟨g7, hf⟩ := fd_grd hf
    refine fd_iald 22 (8 : Int32) C hH (by decide) rfl rfl g7 dX4_tellBest_10 ?_
    cases hf
    exact fd_iret C hr hlk hH dX4_tellBest_11
theorem dX4_tellCount_0 : decode cX4_tellCount 0 = .ok (.iload_n 1, 1) := by decide +kernel
theorem dX4_tellCount_1 : decode cX4_tellCount 1 = .ok (.tableswitch 96 0 7 #[47, 52, 60, 68, 73, 78, 83, 91], 47) := by decide +kernel
theorem dX4_tellCount_48 : decode cX4_tellCount 48 = .ok (.aload_n 0, 1) := by decide +kernel
theorem dX4_tellCount_49 : decode cX4_tellCount 49 = .ok (.getfield 84, 3) := by decide +kernel
theorem dX4_tellCount_52 : decode cX4_tellCount 52 = .ok (.ireturn, 1) := by decide +kernel
theorem dX4_tellCount_53 : decode cX4_tellCount 53 = .ok (.aload_n 0, 1) := by decide +kernel
theorem dX4_tellCount_54 : decode cX4_tellCount 54 = .ok (.getfield 21, 3) := by decide +kernel
theorem dX4_tellCount_57 : decode cX4_tellCount 57 = .ok (.getfield 152, 3) := by decide +kernel
theorem dX4_tellCount_60 : decode cX4_tellCount 60 = .ok (.ireturn, 1) := by decide +kernel
theorem dX4_tellCount_61 : decode cX4_tellCount 61 = .ok (.aload_n 0, 1) := by decide +kernel
theorem dX4_tellCount_62 : decode cX4_tellCount 62 = .ok (.getfield 21, 3) := by decide +kernel
theorem dX4_tellCount_65 : decode cX4_tellCount 65 = .ok (.invokevirtual 186, 3) := by decide +kernel
theorem dX4_tellCount_68 : decode cX4_tellCount 68 = .ok (.ireturn, 1) := by decide +kernel
theorem dX4_tellCount_69 : decode cX4_tellCount 69 = .ok (.aload_n 0, 1) := by decide +kernel
theorem dX4_tellCount_70 : decode cX4_tellCount 70 = .ok (.getfield 52, 3) := by decide +kernel
theorem dX4_tellCount_73 : decode cX4_tellCount 73 = .ok (.ireturn, 1) := by decide +kernel
theorem dX4_tellCount_74 : decode cX4_tellCount 74 = .ok (.aload_n 0, 1) := by decide +kernel
theorem dX4_tellCount_75 : decode cX4_tellCount 75 = .ok (.getfield 81, 3) := by decide +kernel
theorem dX4_tellCount_78 : decode cX4_tellCount 78 = .ok (.ireturn, 1) := by decide +kernel
theorem dX4_tellCount_79 : decode cX4_tellCount 79 = .ok (.aload_n 0, 1) := by decide +kernel
theorem dX4_tellCount_80 : decode cX4_tellCount 80 = .ok (.getfield 91, 3) := by decide +kernel
theorem dX4_tellCount_83 : decode cX4_tellCount 83 = .ok (.ireturn, 1) := by decide +kernel
theorem dX4_tellCount_84 : decode cX4_tellCount 84 = .ok (.aload_n 0, 1) := by decide +kernel
theorem dX4_tellCount_85 : decode cX4_tellCount 85 = .ok (.getfield 21, 3) := by decide +kernel
theorem dX4_tellCount_88 : decode cX4_tellCount 88 = .ok (.getfield 190, 3) := by decide +kernel
theorem dX4_tellCount_91 : decode cX4_tellCount 91 = .ok (.ireturn, 1) := by decide +kernel
theorem dX4_tellCount_92 : decode cX4_tellCount 92 = .ok (.aload_n 0, 1) := by decide +kernel
theorem dX4_tellCount_93 : decode cX4_tellCount 93 = .ok (.getfield 149, 3) := by decide +kernel
theorem dX4_tellCount_96 : decode cX4_tellCount 96 = .ok (.ireturn, 1) := by decide +kernel
theorem dX4_tellCount_97 : decode cX4_tellCount 97 = .ok (.aload_n 0, 1) := by decide +kernel
theorem dX4_tellCount_98 : decode cX4_tellCount 98 = .ok (.getfield 28, 3) := by decide +kernel
theorem dX4_tellCount_101 : decode cX4_tellCount 101 = .ok (.getfield 193, 3) := by decide +kernel
theorem dX4_tellCount_104 : decode cX4_tellCount 104 = .ok (.ireturn, 1) := by decide +kernel
set_option maxHeartbeats 4000000 in
set_option maxRecDepth 100000 in
theorem cS_tellCount (l : Launch) (E : fd_E) (fu : Nat) (S : fd_S) (x1 : Int32) {r0 : Int32} (hf : zS_tellCount fu S x1 = some r0) : fd_Ct l yX4_tellCount cX4_tellCount 2 (some .int) (fd_rm 1 22) E S [.ref (E.2.2 0), .int x1] (some (.int r0)) S := by
  unfold zS_tellCount at hf
  refine fd_Ct_of (by decide +kernel) (Nat.le_of_ble_eq_true rfl) ?_
  intro p e s m below meth c ls C hr hlk hH hl
  have hx := C.1
  have hb := C.2.1
  have hl : lv_has ls 2 [(0, .ref (E.2.2 0)), (1, .int x1)] := hl
  refine lv_iload_n hx hb dX4_tellCount_0 rfl (lv_at hl 1 rfl) ?_
  by_cases c1 : x1 = (0 : Int32)
  · have hf := fd_ifp c1 hf
    refine lv_tableIn (off := 47) (tgt := 48) hx hb dX4_tellCount_1 (by rw [c1]; decide) (by rw [c1]; decide) (by rw [c1]; rfl) (by decide) ?_
    refine lv_aload_n hx hb dX4_tellCount_48 rfl (lv_at hl 0 rfl) ?_
    refine fd_get 0 4 6 C hH (by decide) rfl (by decide) (by decide) wf_X4_84 (v := .int (S 0 (6 : Int32))) rfl dX4_tellCount_49 ?_
    cases hf
    exact fd_iret C hr hlk hH dX4_tellCount_52
  · have hf := fd_ifn c1 hf
    by_cases c2 : x1 = (1 : Int32)
    · have hf := fd_ifp c2 hf
      refine lv_tableIn (off := 52) (tgt := 53) hx hb dX4_tellCount_1 (by rw [c2]; decide) (by rw [c2]; decide) (by rw [c2]; rfl) (by decide) ?_
      refine lv_aload_n hx hb dX4_tellCount_53 rfl (lv_at hl 0 rfl) ?_
      refine fd_get 0 4 1 C hH (by decide) rfl (by decide) (by decide) wf_X4_21 (v := .ref (E.2.2 3)) rfl dX4_tellCount_54 ?_
      refine fd_get 3 2 1 C hH (by decide) rfl (by decide) (by decide) wf_X4_152 (v := .int (S 3 (1 : Int32))) rfl dX4_tellCount_57 ?_
      cases hf
      exact fd_iret C hr hlk hH dX4_tellCount_60
    · have hf := fd_ifn c2 hf
      by_cases c3 : x1 = (2 : Int32)
      · have hf := fd_ifp c3 hf
        refine lv_tableIn (off := 60) (tgt := 61) hx hb dX4_tellCount_1 (by rw [c3]; decide) (by rw [c3]; decide) (by rw [c3]; rfl) (by decide) ?_
        refine lv_aload_n hx hb dX4_tellCount_61 rfl (lv_at hl 0 rfl) ?_
        refine fd_get 0 4 1 C hH (by decide) rfl (by decide) (by decide) wf_X4_21 (v := .ref (E.2.2 3)) rfl dX4_tellCount_62 ?_
        obtain ⟨r4, e5, hf⟩ := fd_bnd hf
        refine fd_callV1 3 2 [] C hl.1 hH (cQ_heldOnes l E fu S e5) wm_X4_186 (by decide) rfl (by decide) rfl ⟨rfl, rfl, Nat.le_of_ble_eq_true rfl, Nat.le_of_ble_eq_true rfl⟩ rfl rfl (Nat.le_of_ble_eq_true rfl) ⟨Nat.le_refl _, Nat.le_refl _⟩ dX4_tellCount_65 (fun H locs hH => ?_)
        cases hf
        exact fd_iret C hr hlk hH dX4_tellCount_68
      · have hf := fd_ifn c3 hf
        by_cases c6 : x1 = (3 : Int32)
        · have hf := fd_ifp c6 hf
          refine lv_tableIn (off := 68) (tgt := 69) hx hb dX4_tellCount_1 (by rw [c6]; decide) (by rw [c6]; decide) (by rw [c6]; rfl) (by decide) ?_
          refine lv_aload_n hx hb dX4_tellCount_69 rfl (lv_at hl 0 rfl) ?_
          refine fd_get 0 4 7 C hH (by decide) rfl (by decide) (by decide) wf_X4_52 (v := .int (S 0 (7 : Int32))) rfl dX4_tellCount_70 ?_
          cases hf
          exact fd_iret C hr hlk hH dX4_tellCount_73
        · have hf := fd_ifn c6 hf
          by_cases c7 : x1 = (4 : Int32)
          · have hf := fd_ifp c7 hf
            refine lv_tableIn (off := 73) (tgt := 74) hx hb dX4_tellCount_1 (by rw [c7]; decide) (by rw [c7]; decide) (by rw [c7]; rfl) (by decide) ?_
            refine lv_aload_n hx hb dX4_tellCount_74 rfl (lv_at hl 0 rfl) ?_
            refine fd_get 0 4 8 C hH (by decide) rfl (by decide) (by decide) wf_X4_81 (v := .int (S 0 (8 : Int32))) rfl dX4_tellCount_75 ?_
            cases hf
            exact fd_iret C hr hlk hH dX4_tellCount_78
          · have hf := fd_ifn c7 hf
            by_cases c8 : x1 = (5 : Int32)
            · have hf := fd_ifp c8 hf
              refine lv_tableIn (off := 78) (tgt := 79) hx hb dX4_tellCount_1 (by rw [c8]; decide) (by rw [c8]; decide) (by rw [c8]; rfl) (by decide) ?_
              refine lv_aload_n hx hb dX4_tellCount_79 rfl (lv_at hl 0 rfl) ?_
              refine fd_get 0 4 9 C hH (by decide) rfl (by decide) (by decide) wf_X4_91 (v := .int (S 0 (9 : Int32))) rfl dX4_tellCount_80 ?_
              cases hf
              exact fd_iret C hr hlk hH dX4_tellCount_83
            · have hf := fd_ifn c8 hf
              by_cases c9 : x1 = (6 : Int32)
              · have hf := fd_ifp c9 hf
                refine lv_tableIn (off := 83) (tgt := 84) hx hb dX4_tellCount_1 (by rw [c9]; decide) (by rw [c9]; decide) (by rw [c9]; rfl) (by decide) ?_
                refine lv_aload_n hx hb dX4_tellCount_84 rfl (lv_at hl 0 rfl) ?_
                refine fd_get 0 4 1 C hH (by decide) rfl (by decide) (by decide) wf_X4_21 (v := .ref (E.2.2 3)) rfl dX4_tellCount_85 ?_
                refine fd_get 3 2 2 C hH (by decide) rfl (by decide) (by decide) wf_X4_190 (v := .int (S 3 (2 : Int32))) rfl dX4_tellCount_88 ?_
                cases hf
                exact fd_iret C hr hlk hH dX4_tellCount_91
              · have hf := fd_ifn c9 hf
                by_cases c10 : x1 = (7 : Int32)
                · have hf := fd_ifp c10 hf
                  refine lv_tableIn (off := 91) (tgt := 92) hx hb dX4_tellCount_1 (by rw [c10]; decide) (by rw [c10]; decide) (by rw [c10]; rfl) (by decide) ?_
                  refine lv_aload_n hx hb dX4_tellCount_92 rfl (lv_at hl 0 rfl) ?_
                  refine fd_get 0 4 10 C hH (by decide) rfl (by decide) (by decide) wf_X4_149 (v := .int (S 0 (10 : Int32))) rfl dX4_tellCount_93 ?_
                  cases hf
                  exact fd_iret C hr hlk hH dX4_tellCount_96
                · have hf := fd_ifn c10 hf
                  refine lv_tableOut (tgt := 97) hx hb dX4_tellCount_1 (by have hc1 := fd_ne (0 : Int32) (z := 0) (by decide) c1; have hc2 := fd_ne (1 : Int32) (z := 1) (by decide) c2; have hc3 := fd_ne (2 : Int32) (z := 2) (by decide) c3; have hc6 := fd_ne (3 : Int32) (z := 3) (by decide) c6; have hc7 := fd_ne (4 : Int32) (z := 4) (by decide) c7; have hc8 := fd_ne (5 : Int32) (z := 5) (by decide) c8; have hc9 := fd_ne (6 : Int32) (z := 6) (by decide) c9; have hc10 := fd_ne (7 : Int32) (z := 7) (by decide) c10; omega) (by decide) ?_
                  refine lv_aload_n hx hb dX4_tellCount_97 rfl (lv_at hl 0 rfl) ?_
                  refine fd_get 0 4 2 C hH (by decide) rfl (by decide) (by decide) wf_X4_28 (v := .ref (E.2.2 5)) rfl dX4_tellCount_98 ?_
                  refine fd_get 5 1 3 C hH (by decide) rfl (by decide) (by decide) wf_X4_193 (v := .int (S 5 (3 : Int32))) rfl dX4_tellCount_101 ?_
                  cases hf
                  exact fd_iret C hr hlk hH dX4_tellCount_104
theorem dX4_copyFrom_0 : decode cX4_copyFrom 0 = .ok (.aload_n 0, 1) := by decide +kernel
theorem dX4_copyFrom_1 : decode cX4_copyFrom 1 = .ok (.getfield 12, 3) := by decide +kernel
theorem dX4_copyFrom_4 : decode cX4_copyFrom 4 = .ok (.aload_n 1, 1) := by decide +kernel
theorem dX4_copyFrom_5 : decode cX4_copyFrom 5 = .ok (.getfield 12, 3) := by decide +kernel
theorem dX4_copyFrom_8 : decode cX4_copyFrom 8 = .ok (.invokevirtual 196, 3) := by decide +kernel
theorem dX4_copyFrom_11 : decode cX4_copyFrom 11 = .ok (.aload_n 0, 1) := by decide +kernel
theorem dX4_copyFrom_12 : decode cX4_copyFrom 12 = .ok (.getfield 21, 3) := by decide +kernel
theorem dX4_copyFrom_15 : decode cX4_copyFrom 15 = .ok (.aload_n 1, 1) := by decide +kernel
theorem dX4_copyFrom_16 : decode cX4_copyFrom 16 = .ok (.getfield 21, 3) := by decide +kernel
theorem dX4_copyFrom_19 : decode cX4_copyFrom 19 = .ok (.invokevirtual 200, 3) := by decide +kernel
theorem dX4_copyFrom_22 : decode cX4_copyFrom 22 = .ok (.aload_n 0, 1) := by decide +kernel
theorem dX4_copyFrom_23 : decode cX4_copyFrom 23 = .ok (.getfield 28, 3) := by decide +kernel
theorem dX4_copyFrom_26 : decode cX4_copyFrom 26 = .ok (.aload_n 1, 1) := by decide +kernel
theorem dX4_copyFrom_27 : decode cX4_copyFrom 27 = .ok (.getfield 28, 3) := by decide +kernel
theorem dX4_copyFrom_30 : decode cX4_copyFrom 30 = .ok (.invokevirtual 203, 3) := by decide +kernel
theorem dX4_copyFrom_33 : decode cX4_copyFrom 33 = .ok (.aload_n 1, 1) := by decide +kernel
theorem dX4_copyFrom_34 : decode cX4_copyFrom 34 = .ok (.getfield 32, 3) := by decide +kernel
theorem dX4_copyFrom_37 : decode cX4_copyFrom 37 = .ok (.iconst 0, 1) := by decide +kernel
theorem dX4_copyFrom_38 : decode cX4_copyFrom 38 = .ok (.aload_n 0, 1) := by decide +kernel
theorem dX4_copyFrom_39 : decode cX4_copyFrom 39 = .ok (.getfield 32, 3) := by decide +kernel
theorem dX4_copyFrom_42 : decode cX4_copyFrom 42 = .ok (.iconst 0, 1) := by decide +kernel
theorem dX4_copyFrom_43 : decode cX4_copyFrom 43 = .ok (.bipush 32, 2) := by decide +kernel
theorem dX4_copyFrom_45 : decode cX4_copyFrom 45 = .ok (.invokestatic 206, 3) := by decide +kernel
theorem dX4_copyFrom_48 : decode cX4_copyFrom 48 = .ok (.aload_n 1, 1) := by decide +kernel
theorem dX4_copyFrom_49 : decode cX4_copyFrom 49 = .ok (.getfield 36, 3) := by decide +kernel
theorem dX4_copyFrom_52 : decode cX4_copyFrom 52 = .ok (.iconst 0, 1) := by decide +kernel
theorem dX4_copyFrom_53 : decode cX4_copyFrom 53 = .ok (.aload_n 0, 1) := by decide +kernel
theorem dX4_copyFrom_54 : decode cX4_copyFrom 54 = .ok (.getfield 36, 3) := by decide +kernel
theorem dX4_copyFrom_57 : decode cX4_copyFrom 57 = .ok (.iconst 0, 1) := by decide +kernel
theorem dX4_copyFrom_58 : decode cX4_copyFrom 58 = .ok (.bipush 8, 2) := by decide +kernel
theorem dX4_copyFrom_60 : decode cX4_copyFrom 60 = .ok (.invokestatic 206, 3) := by decide +kernel
theorem dX4_copyFrom_63 : decode cX4_copyFrom 63 = .ok (.aload_n 1, 1) := by decide +kernel
theorem dX4_copyFrom_64 : decode cX4_copyFrom 64 = .ok (.getfield 39, 3) := by decide +kernel
theorem dX4_copyFrom_67 : decode cX4_copyFrom 67 = .ok (.iconst 0, 1) := by decide +kernel
theorem dX4_copyFrom_68 : decode cX4_copyFrom 68 = .ok (.aload_n 0, 1) := by decide +kernel
theorem dX4_copyFrom_69 : decode cX4_copyFrom 69 = .ok (.getfield 39, 3) := by decide +kernel
theorem dX4_copyFrom_72 : decode cX4_copyFrom 72 = .ok (.iconst 0, 1) := by decide +kernel
theorem dX4_copyFrom_73 : decode cX4_copyFrom 73 = .ok (.bipush 8, 2) := by decide +kernel
theorem dX4_copyFrom_75 : decode cX4_copyFrom 75 = .ok (.invokestatic 206, 3) := by decide +kernel
theorem dX4_copyFrom_78 : decode cX4_copyFrom 78 = .ok (.aload_n 0, 1) := by decide +kernel
theorem dX4_copyFrom_79 : decode cX4_copyFrom 79 = .ok (.aload_n 1, 1) := by decide +kernel
theorem dX4_copyFrom_80 : decode cX4_copyFrom 80 = .ok (.getfield 84, 3) := by decide +kernel
theorem dX4_copyFrom_83 : decode cX4_copyFrom 83 = .ok (.putfield 84, 3) := by decide +kernel
theorem dX4_copyFrom_86 : decode cX4_copyFrom 86 = .ok (.aload_n 0, 1) := by decide +kernel
theorem dX4_copyFrom_87 : decode cX4_copyFrom 87 = .ok (.aload_n 1, 1) := by decide +kernel
theorem dX4_copyFrom_88 : decode cX4_copyFrom 88 = .ok (.getfield 52, 3) := by decide +kernel
theorem dX4_copyFrom_91 : decode cX4_copyFrom 91 = .ok (.putfield 52, 3) := by decide +kernel
theorem dX4_copyFrom_94 : decode cX4_copyFrom 94 = .ok (.aload_n 0, 1) := by decide +kernel
theorem dX4_copyFrom_95 : decode cX4_copyFrom 95 = .ok (.aload_n 1, 1) := by decide +kernel
theorem dX4_copyFrom_96 : decode cX4_copyFrom 96 = .ok (.getfield 81, 3) := by decide +kernel
theorem dX4_copyFrom_99 : decode cX4_copyFrom 99 = .ok (.putfield 81, 3) := by decide +kernel
theorem dX4_copyFrom_102 : decode cX4_copyFrom 102 = .ok (.aload_n 0, 1) := by decide +kernel
theorem dX4_copyFrom_103 : decode cX4_copyFrom 103 = .ok (.aload_n 1, 1) := by decide +kernel
theorem dX4_copyFrom_104 : decode cX4_copyFrom 104 = .ok (.getfield 91, 3) := by decide +kernel
theorem dX4_copyFrom_107 : decode cX4_copyFrom 107 = .ok (.putfield 91, 3) := by decide +kernel
theorem dX4_copyFrom_110 : decode cX4_copyFrom 110 = .ok (.aload_n 0, 1) := by decide +kernel
theorem dX4_copyFrom_111 : decode cX4_copyFrom 111 = .ok (.aload_n 1, 1) := by decide +kernel
theorem dX4_copyFrom_112 : decode cX4_copyFrom 112 = .ok (.getfield 149, 3) := by decide +kernel
theorem dX4_copyFrom_115 : decode cX4_copyFrom 115 = .ok (.putfield 149, 3) := by decide +kernel
theorem dX4_copyFrom_118 : decode cX4_copyFrom 118 = .ok (.return_, 1) := by decide +kernel
set_option maxHeartbeats 4000000 in
set_option maxRecDepth 100000 in
theorem cS_copyFrom (l : Launch) (E : fd_E) (fu : Nat) (S : fd_S) (u : Nat) (v : Nat) (hu : fd_st u) (hv : fd_st v) {S0 : fd_S} (hf : zS_copyFrom fu S u v = some S0) : fd_Ct l yX4_copyFrom cX4_copyFrom 2 none (fd_rm 3 61) E S [.ref (E.2.2 u), .ref (E.2.2 v)] none S0 := by
  unfold zS_copyFrom at hf
  refine fd_Ct_of (by decide +kernel) (Nat.le_of_ble_eq_true rfl) ?_
  intro p e s m below meth c ls C hr hlk hH hl
  have hx := C.1
  have hb := C.2.1
  have hl : lv_has ls 2 [(0, .ref (E.2.2 u)), (1, .ref (E.2.2 v))] := hl
  refine lv_aload_n hx hb dX4_copyFrom_0 rfl (lv_at hl 0 rfl) ?_
  refine fd_get u 4 0 C hH (fd_st1 hu 0 (by decide)) (fd_st2 hu 0 (by decide) rfl) (by decide) (by decide) wf_X4_12 (v := .ref (E.2.2 (u + 1))) rfl dX4_copyFrom_1 ?_
  refine lv_aload_n hx hb dX4_copyFrom_4 rfl (lv_at hl 1 rfl) ?_
  refine fd_get v 4 0 C hH (fd_st1 hv 0 (by decide)) (fd_st2 hv 0 (by decide) rfl) (by decide) (by decide) wf_X4_12 (v := .ref (E.2.2 (v + 1))) rfl dX4_copyFrom_5 ?_
  obtain ⟨S1, e2, hf⟩ := fd_bnd hf
  refine fd_callV0 (u + 1) 0 [.ref (E.2.2 (v + 1))] C hl.1 hH (cB_copyFrom l E S u v hu hv e2) wm_X4_196 (fd_st1 hu 1 (by decide)) (fd_st2 hu 1 (by decide) rfl) (by decide) rfl ⟨rfl, rfl, Nat.le_of_ble_eq_true rfl, Nat.le_of_ble_eq_true rfl⟩ rfl rfl (Nat.le_of_ble_eq_true rfl) ⟨Nat.le_refl _, Nat.le_refl _⟩ dX4_copyFrom_8 (fun H locs hH => ?_)
  refine lv_aload_n hx hb dX4_copyFrom_11 rfl (lv_at hl 0 rfl) ?_
  refine fd_get u 4 1 C hH (fd_st1 hu 0 (by decide)) (fd_st2 hu 0 (by decide) rfl) (by decide) (by decide) wf_X4_21 (v := .ref (E.2.2 (u + 3))) rfl dX4_copyFrom_12 ?_
  refine lv_aload_n hx hb dX4_copyFrom_15 rfl (lv_at hl 1 rfl) ?_
  refine fd_get v 4 1 C hH (fd_st1 hv 0 (by decide)) (fd_st2 hv 0 (by decide) rfl) (by decide) (by decide) wf_X4_21 (v := .ref (E.2.2 (v + 3))) rfl dX4_copyFrom_16 ?_
  obtain ⟨S3, e4, hf⟩ := fd_bnd hf
  refine fd_callV0 (u + 3) 2 [.ref (E.2.2 (v + 3))] C hl.1 hH (cQ_copyFrom l E fu S1 u v hu hv e4) wm_X4_200 (fd_st1 hu 3 (by decide)) (fd_st2 hu 3 (by decide) rfl) (by decide) rfl ⟨rfl, rfl, Nat.le_of_ble_eq_true rfl, Nat.le_of_ble_eq_true rfl⟩ rfl rfl (Nat.le_of_ble_eq_true rfl) ⟨Nat.le_refl _, Nat.le_refl _⟩ dX4_copyFrom_19 (fun H locs hH => ?_)
  refine lv_aload_n hx hb dX4_copyFrom_22 rfl (lv_at hl 0 rfl) ?_
  refine fd_get u 4 2 C hH (fd_st1 hu 0 (by decide)) (fd_st2 hu 0 (by decide) rfl) (by decide) (by decide) wf_X4_28 (v := .ref (E.2.2 (u + 5))) rfl dX4_copyFrom_23 ?_
  refine lv_aload_n hx hb dX4_copyFrom_26 rfl (lv_at hl 1 rfl) ?_
  refine fd_get v 4 2 C hH (fd_st1 hv 0 (by decide)) (fd_st2 hv 0 (by decide) rfl) (by decide) (by decide) wf_X4_28 (v := .ref (E.2.2 (v + 5))) rfl dX4_copyFrom_27 ?_
  obtain ⟨S5, e6, hf⟩ := fd_bnd hf
  refine fd_callV0 (u + 5) 1 [.ref (E.2.2 (v + 5))] C hl.1 hH (cL_copyFrom l E S3 u v hu hv e6) wm_X4_203 (fd_st1 hu 5 (by decide)) (fd_st2 hu 5 (by decide) rfl) (by decide) rfl ⟨rfl, rfl, Nat.le_of_ble_eq_true rfl, Nat.le_of_ble_eq_true rfl⟩ rfl rfl (Nat.le_of_ble_eq_true rfl) ⟨Nat.le_refl _, Nat.le_refl _⟩ dX4_copyFrom_30 (fun H locs hH => ?_)
  refine lv_aload_n hx hb dX4_copyFrom_33 rfl (lv_at hl 1 rfl) ?_
  refine fd_get v 4 3 C hH (fd_st1 hv 0 (by decide)) (fd_st2 hv 0 (by decide) rfl) (by decide) (by decide) wf_X4_32 (v := .ref (E.2.2 (v + 20))) rfl dX4_copyFrom_34 ?_
  refine lv_iconst (v := (0 : Int32)) hx hb dX4_copyFrom_37 (by decide) ?_
  refine lv_aload_n hx hb dX4_copyFrom_38 rfl (lv_at hl 0 rfl) ?_
  refine fd_get u 4 3 C hH (fd_st1 hu 0 (by decide)) (fd_st2 hu 0 (by decide) rfl) (by decide) (by decide) wf_X4_32 (v := .ref (E.2.2 (u + 20))) rfl dX4_copyFrom_39 ?_
  refine lv_iconst (v := (0 : Int32)) hx hb dX4_copyFrom_42 (by decide) ?_
  refine lv_bipush (v := (32 : Int32)) hx hb dX4_copyFrom_43 (by decide) ?_
  refine fd_copy (v + 20) (u + 20) 0 0 32 (0 : Int32) (0 : Int32) (32 : Int32) C hl.1 hH (fd_st1 hv 20 (by decide)) (fd_st2 hv 20 (by decide) rfl) (fd_st1 hu 20 (by decide)) (fd_st2 hu 20 (by decide) rfl) rfl rfl rfl (by rw [fd_st3 hv 20 (by decide) rfl]; decide) (by rw [fd_st3 hu 20 (by decide) rfl]; decide) ⟨(by rw [fd_st3 hv 20 (by decide) rfl]; decide), (by rw [fd_st3 hu 20 (by decide) rfl]; decide)⟩ wl_X4_206 fd_acw (Nat.le_of_ble_eq_true rfl) (Nat.le_of_ble_eq_true rfl) dX4_copyFrom_45 (fun H locs hH => ?_)
  obtain ⟨S7, eS7, hf⟩ := fd_ltS hf
  rw [← eS7] at hH
  refine lv_aload_n hx hb dX4_copyFrom_48 rfl (lv_at hl 1 rfl) ?_
  refine fd_get v 4 4 C hH (fd_st1 hv 0 (by decide)) (fd_st2 hv 0 (by decide) rfl) (by decide) (by decide) wf_X4_36 (v := .ref (E.2.2 (v + 21))) rfl dX4_copyFrom_49 ?_
  refine lv_iconst (v := (0 : Int32)) hx hb dX4_copyFrom_52 (by decide) ?_
  refine lv_aload_n hx hb dX4_copyFrom_53 rfl (lv_at hl 0 rfl) ?_
  refine fd_get u 4 4 C hH (fd_st1 hu 0 (by decide)) (fd_st2 hu 0 (by decide) rfl) (by decide) (by decide) wf_X4_36 (v := .ref (E.2.2 (u + 21))) rfl dX4_copyFrom_54 ?_
  refine lv_iconst (v := (0 : Int32)) hx hb dX4_copyFrom_57 (by decide) ?_
  refine lv_bipush (v := (8 : Int32)) hx hb dX4_copyFrom_58 (by decide) ?_
  refine fd_copy (v + 21) (u + 21) 0 0 8 (0 : Int32) (0 : Int32) (8 : Int32) C hl.1 hH (fd_st1 hv 21 (by decide)) (fd_st2 hv 21 (by decide) rfl) (fd_st1 hu 21 (by decide)) (fd_st2 hu 21 (by decide) rfl) rfl rfl rfl (by rw [fd_st3 hv 21 (by decide) rfl]; decide) (by rw [fd_st3 hu 21 (by decide) rfl]; decide) ⟨(by rw [fd_st3 hv 21 (by decide) rfl]; decide), (by rw [fd_st3 hu 21 (by decide) rfl]; decide)⟩ wl_X4_206 fd_acw (Nat.le_of_ble_eq_true rfl) (Nat.le_of_ble_eq_true rfl) dX4_copyFrom_60 (fun H locs hH => ?_)
  obtain ⟨S8, eS8, hf⟩ := fd_ltS hf
  rw [← eS8] at hH
  refine lv_aload_n hx hb dX4_copyFrom_63 rfl (lv_at hl 1 rfl) ?_
  refine fd_get v 4 5 C hH (fd_st1 hv 0 (by decide)) (fd_st2 hv 0 (by decide) rfl) (by decide) (by decide) wf_X4_39 (v := .ref (E.2.2 (v + 22))) rfl dX4_copyFrom_64 ?_
  refine lv_iconst (v := (0 : Int32)) hx hb dX4_copyFrom_67 (by decide) ?_
  refine lv_aload_n hx hb dX4_copyFrom_68 rfl (lv_at hl 0 rfl) ?_
  refine fd_get u 4 5 C hH (fd_st1 hu 0 (by decide)) (fd_st2 hu 0 (by decide) rfl) (by decide) (by decide) wf_X4_39 (v := .ref (E.2.2 (u + 22))) rfl dX4_copyFrom_69 ?_
  refine lv_iconst (v := (0 : Int32)) hx hb dX4_copyFrom_72 (by decide) ?_
  refine lv_bipush (v := (8 : Int32)) hx hb dX4_copyFrom_73 (by decide) ?_
  refine fd_copy (v + 22) (u + 22) 0 0 8 (0 : Int32) (0 : Int32) (8 : Int32) C hl.1 hH (fd_st1 hv 22 (by decide)) (fd_st2 hv 22 (by decide) rfl) (fd_st1 hu 22 (by decide)) (fd_st2 hu 22 (by decide) rfl) rfl rfl rfl (by rw [fd_st3 hv 22 (by decide) rfl]; decide) (by rw [fd_st3 hu 22 (by decide) rfl]; decide) ⟨(by rw [fd_st3 hv 22 (by decide) rfl]; decide), (by rw [fd_st3 hu 22 (by decide) rfl]; decide)⟩ wl_X4_206 fd_acw (Nat.le_of_ble_eq_true rfl) (Nat.le_of_ble_eq_true rfl) dX4_copyFrom_75 (fun H locs hH => ?_)
  obtain ⟨S9, eS9, hf⟩ := fd_ltS hf
  rw [← eS9] at hH
  refine lv_aload_n hx hb dX4_copyFrom_78 rfl (lv_at hl 0 rfl) ?_
  refine lv_aload_n hx hb dX4_copyFrom_79 rfl (lv_at hl 1 rfl) ?_
  refine fd_get v 4 6 C hH (fd_st1 hv 0 (by decide)) (fd_st2 hv 0 (by decide) rfl) (by decide) (by decide) wf_X4_84 (v := .int (S9 v (6 : Int32))) rfl dX4_copyFrom_80 ?_
  refine fd_put u 4 6 (6 : Int32) C hH (fd_st1 hu 0 (by decide)) (fd_st2 hu 0 (by decide) rfl) (by decide) (by decide) wf_X4_84 rfl rfl rfl rfl rfl (Nat.le_of_ble_eq_true rfl) dX4_copyFrom_83 (fun H locs hH => ?_)
  obtain ⟨S10, eS10, hf⟩ := fd_ltS hf
  rw [← eS10] at hH
  refine lv_aload_n hx hb dX4_copyFrom_86 rfl (lv_at hl 0 rfl) ?_
  refine lv_aload_n hx hb dX4_copyFrom_87 rfl (lv_at hl 1 rfl) ?_
  refine fd_get v 4 7 C hH (fd_st1 hv 0 (by decide)) (fd_st2 hv 0 (by decide) rfl) (by decide) (by decide) wf_X4_52 (v := .int (S10 v (7 : Int32))) rfl dX4_copyFrom_88 ?_
  refine fd_put u 4 7 (7 : Int32) C hH (fd_st1 hu 0 (by decide)) (fd_st2 hu 0 (by decide) rfl) (by decide) (by decide) wf_X4_52 rfl rfl rfl rfl rfl (Nat.le_of_ble_eq_true rfl) dX4_copyFrom_91 (fun H locs hH => ?_)
  obtain ⟨S11, eS11, hf⟩ := fd_ltS hf
  rw [← eS11] at hH
  refine lv_aload_n hx hb dX4_copyFrom_94 rfl (lv_at hl 0 rfl) ?_
  refine lv_aload_n hx hb dX4_copyFrom_95 rfl (lv_at hl 1 rfl) ?_
  refine fd_get v 4 8 C hH (fd_st1 hv 0 (by decide)) (fd_st2 hv 0 (by decide) rfl) (by decide) (by decide) wf_X4_81 (v := .int (S11 v (8 : Int32))) rfl dX4_copyFrom_96 ?_
  refine fd_put u 4 8 (8 : Int32) C hH (fd_st1 hu 0 (by decide)) (fd_st2 hu 0 (by decide) rfl) (by decide) (by decide) wf_X4_81 rfl rfl rfl rfl rfl (Nat.le_of_ble_eq_true rfl) dX4_copyFrom_99 (fun H locs hH => ?_)
  obtain ⟨S12, eS12, hf⟩ := fd_ltS hf
  rw [← eS12] at hH
  refine lv_aload_n hx hb dX4_copyFrom_102 rfl (lv_at hl 0 rfl) ?_
  refine lv_aload_n hx hb dX4_copyFrom_103 rfl (lv_at hl 1 rfl) ?_
  refine fd_get v 4 9 C hH (fd_st1 hv 0 (by decide)) (fd_st2 hv 0 (by decide) rfl) (by decide) (by decide) wf_X4_91 (v := .int (S12 v (9 : Int32))) rfl dX4_copyFrom_104 ?_
  refine fd_put u 4 9 (9 : Int32) C hH (fd_st1 hu 0 (by decide)) (fd_st2 hu 0 (by decide) rfl) (by decide) (by decide) wf_X4_91 rfl rfl rfl rfl rfl (Nat.le_of_ble_eq_true rfl) dX4_copyFrom_107 (fun H locs hH => ?_)
  obtain ⟨S13, eS13, hf⟩ := fd_ltS hf
  rw [← eS13] at hH
  refine lv_aload_n hx hb dX4_copyFrom_110 rfl (lv_at hl 0 rfl) ?_
  refine lv_aload_n hx hb dX4_copyFrom_111 rfl (lv_at hl 1 rfl) ?_
  refine fd_get v 4 10 C hH (fd_st1 hv 0 (by decide)) (fd_st2 hv 0 (by decide) rfl) (by decide) (by decide) wf_X4_149 (v := .int (S13 v (10 : Int32))) rfl dX4_copyFrom_112 ?_
  refine fd_put u 4 10 (10 : Int32) C hH (fd_st1 hu 0 (by decide)) (fd_st2 hu 0 (by decide) rfl) (by decide) (by decide) wf_X4_149 rfl rfl rfl rfl rfl (Nat.le_of_ble_eq_true rfl) dX4_copyFrom_115 (fun H locs hH => ?_)
  obtain ⟨S14, eS14, hf⟩ := fd_ltS hf
  rw [← eS14] at hH
  cases hf
  exact fd_vret C hr hlk hH dX4_copyFrom_118
