theorem dX7_isCounted_0 : decode cX7_isCounted 0 = .ok (.iconst 0, 1) := by decide +kernel
theorem dX7_isCounted_1 : decode cX7_isCounted 1 = .ok (.istore_n 3, 1) := by decide +kernel
theorem dX7_isCounted_2 : decode cX7_isCounted 2 = .ok (.iconst 0, 1) := by decide +kernel
theorem dX7_isCounted_3 : decode cX7_isCounted 3 = .ok (.istore 4, 2) := by decide +kernel
theorem dX7_isCounted_5 : decode cX7_isCounted 5 = .ok (.iload 4, 2) := by decide +kernel
theorem dX7_isCounted_7 : decode cX7_isCounted 7 = .ok (.aload_n 0, 1) := by decide +kernel
theorem dX7_isCounted_8 : decode cX7_isCounted 8 = .ok (.getfield 30, 3) := by decide +kernel
theorem dX7_isCounted_11 : decode cX7_isCounted 11 = .ok (.iload_n 1, 1) := by decide +kernel
theorem dX7_isCounted_12 : decode cX7_isCounted 12 = .ok (.iconst 5, 1) := by decide +kernel
theorem dX7_isCounted_13 : decode cX7_isCounted 13 = .ok (.invokestatic 72, 3) := by decide +kernel
theorem dX7_isCounted_16 : decode cX7_isCounted 16 = .ok (.iaload, 1) := by decide +kernel
theorem dX7_isCounted_17 : decode cX7_isCounted 17 = .ok (.if_icmp .ge 37, 3) := by decide +kernel
theorem dX7_isCounted_20 : decode cX7_isCounted 20 = .ok (.iload_n 3, 1) := by decide +kernel
theorem dX7_isCounted_21 : decode cX7_isCounted 21 = .ok (.ifCond .ne 21, 3) := by decide +kernel
theorem dX7_isCounted_24 : decode cX7_isCounted 24 = .ok (.aload_n 0, 1) := by decide +kernel
theorem dX7_isCounted_25 : decode cX7_isCounted 25 = .ok (.getfield 30, 3) := by decide +kernel
theorem dX7_isCounted_28 : decode cX7_isCounted 28 = .ok (.iload_n 1, 1) := by decide +kernel
theorem dX7_isCounted_29 : decode cX7_isCounted 29 = .ok (.bipush 6, 2) := by decide +kernel
theorem dX7_isCounted_31 : decode cX7_isCounted 31 = .ok (.iload 4, 2) := by decide +kernel
theorem dX7_isCounted_33 : decode cX7_isCounted 33 = .ok (.iadd, 1) := by decide +kernel
theorem dX7_isCounted_34 : decode cX7_isCounted 34 = .ok (.invokestatic 72, 3) := by decide +kernel
theorem dX7_isCounted_37 : decode cX7_isCounted 37 = .ok (.iaload, 1) := by decide +kernel
theorem dX7_isCounted_38 : decode cX7_isCounted 38 = .ok (.iload_n 2, 1) := by decide +kernel
theorem dX7_isCounted_39 : decode cX7_isCounted 39 = .ok (.if_icmp .ne 7, 3) := by decide +kernel
theorem dX7_isCounted_42 : decode cX7_isCounted 42 = .ok (.iconst 1, 1) := by decide +kernel
theorem dX7_isCounted_43 : decode cX7_isCounted 43 = .ok (.goto 4, 3) := by decide +kernel
theorem dX7_isCounted_46 : decode cX7_isCounted 46 = .ok (.iconst 0, 1) := by decide +kernel
theorem dX7_isCounted_47 : decode cX7_isCounted 47 = .ok (.istore_n 3, 1) := by decide +kernel
theorem dX7_isCounted_48 : decode cX7_isCounted 48 = .ok (.iinc 4 1, 3) := by decide +kernel
theorem dX7_isCounted_51 : decode cX7_isCounted 51 = .ok (.goto (-46), 3) := by decide +kernel
theorem dX7_isCounted_54 : decode cX7_isCounted 54 = .ok (.iload_n 3, 1) := by decide +kernel
theorem dX7_isCounted_55 : decode cX7_isCounted 55 = .ok (.ireturn, 1) := by decide +kernel
set_option maxHeartbeats 4000000 in
set_option maxRecDepth 100000 in
theorem wM_isCounted_5 {p : Program} {l : Launch} {e : Env} {s : State} {m : MethodId} {args : Array Value} {below : List Frame} {meth : Method} {c : Code} {E : fd_E} (C : fd_C p s m args c yX7_isCounted.cls cX7_isCounted 5 E) (hr : meth.sig.returnType = (some .boolean)) (hlk : meth.locks = false) (fu : Nat) {r0 : Int32} : ∀ (n : Nat) (S : fd_S) (x1 : Int32) (x2 : Int32) (x3 : Int32) (x4 : Int32) (H : Heap) (locs : List Loc) (ls : Array Slot), zM_isCounted_5 fu n S x1 x2 x3 x4 = some r0 → fd_H E S s H locs → lv_has ls 5 [(0, .ref (E.2.2 73)), (1, .int x1), (2, .int x2), (3, .int x3), (4, .int x4)] → W p l e (fd_rm 1 21) s m args below meth c H locs 0 0 (MQ below (fd_Q E (some (.int r0)) S) args s 0 0 (fd_A E)) (F0 m 5 ls []) := by
  have hx := C.1
  have hb := C.2.1
  intro n
  induction n with
  | zero =>
    intro S x1 x2 x3 x4 H locs ls hf
    rw [zM_isCounted_5] at hf
    cases hf
  | succ n ih =>
    intro S x1 x2 x3 x4 H locs ls hf hH hl
    rw [zM_isCounted_5] at hf
    refine lv_iload hx hb dX7_isCounted_5 (lv_at hl 4 rfl) ?_
    refine lv_aload_n hx hb dX7_isCounted_7 rfl (lv_at hl 0 rfl) ?_
    refine fd_get 73 7 4 C hH (by decide) rfl (by decide) (by decide) wf_X7_30 (v := .ref (E.2.2 78)) rfl dX7_isCounted_8 ?_
    refine lv_iload_n hx hb dX7_isCounted_11 rfl (lv_at hl 1 rfl) ?_
    refine lv_iconst (v := (5 : Int32)) hx hb dX7_isCounted_12 (by decide) ?_
    refine fd_callS1 [.int x1, .int (5 : Int32)] C hl.1 hH (cM_at l E S x1 (5 : Int32)) wm_X7_72 ⟨rfl, rfl, Nat.le_of_ble_eq_true rfl, Nat.le_of_ble_eq_true rfl⟩ rfl rfl (Nat.le_of_ble_eq_true rfl) ⟨Nat.le_refl _, Nat.le_refl _⟩ dX7_isCounted_13 (fun H locs hH => ?_)
    obtain ⟨g1, hf⟩ := fd_grd hf
    refine fd_iald 78 (275 : Int32) C hH (by decide) rfl rfl g1 dX7_isCounted_16 ?_
    refine lv_icmp_ge (tgt := 54) hx hb dX7_isCounted_17 (by decide) (fun c2 => ?_) (fun c2 => ?_)
    · have hf := fd_ifp c2 hf
      refine lv_iload_n hx hb dX7_isCounted_54 rfl (lv_at hl 3 rfl) ?_
      obtain ⟨g3, hf⟩ := fd_grd hf
      cases hf
      exact fd_zret .boolean C hr hlk hH (fd_nb g3) dX7_isCounted_55
    · have hf := fd_ifn c2 hf
      refine lv_iload_n hx hb dX7_isCounted_20 rfl (lv_at hl 3 rfl) ?_
      refine lv_if_ne (tgt := 42) hx hb dX7_isCounted_21 (by decide) (fun c4 => ?_) (fun c4 => ?_)
      · have hf := fd_ifn c4 hf
        refine lv_iconst (v := (1 : Int32)) hx hb dX7_isCounted_42 (by decide) ?_
        refine lv_goto (tgt := 47) hx hb dX7_isCounted_43 (by decide) ?_
        refine lv_istore_n (lv' := [(3, .int (1 : Int32)), (0, .ref (E.2.2 73)), (1, .int x1), (2, .int x2), (4, .int x4)]) hx hb dX7_isCounted_47 rfl hl (by decide) rfl (fun ls hl => ?_)
        obtain ⟨y5, ey5, hf⟩ := fd_ltS hf
        refine lv_iinc (v := y5) (lv' := [(4, .int y5), (3, .int (1 : Int32)), (0, .ref (E.2.2 73)), (1, .int x1), (2, .int x2)]) hx hb dX7_isCounted_48 hl (k := 4) rfl (by rw [ey5]; rfl) (by decide) rfl (fun ls hl => ?_)
        refine lv_goto (tgt := 5) hx hb dX7_isCounted_51 (by decide) ?_
        exact ih S x1 x2 (1 : Int32) y5 _ _ _ hf hH (lv_sub hl [2, 3, 4, 1, 0] rfl)
      · have hf := fd_ifp c4 hf
        refine lv_aload_n hx hb dX7_isCounted_24 rfl (lv_at hl 0 rfl) ?_
        refine fd_get 73 7 4 C hH (by decide) rfl (by decide) (by decide) wf_X7_30 (v := .ref (E.2.2 78)) rfl dX7_isCounted_25 ?_
        refine lv_iload_n hx hb dX7_isCounted_28 rfl (lv_at hl 1 rfl) ?_
        refine lv_bipush (v := (6 : Int32)) hx hb dX7_isCounted_29 (by decide) ?_
        refine lv_iload hx hb dX7_isCounted_31 (lv_at hl 4 rfl) ?_
        refine lv_iadd hx hb dX7_isCounted_33 ?_
        refine fd_callS1 [.int x1, .int ((6 : Int32) + x4)] C hl.1 hH (cM_at l E S x1 ((6 : Int32) + x4)) wm_X7_72 ⟨rfl, rfl, Nat.le_of_ble_eq_true rfl, Nat.le_of_ble_eq_true rfl⟩ rfl rfl (Nat.le_of_ble_eq_true rfl) ⟨Nat.le_refl _, Nat.le_refl _⟩ dX7_isCounted_34 (fun H locs hH => ?_)
        obtain ⟨g6, hf⟩ := fd_grd hf
        refine fd_iald 78 (275 : Int32) C hH (by decide) rfl rfl g6 dX7_isCounted_37 ?_
        refine lv_iload_n hx hb dX7_isCounted_38 rfl (lv_at hl 2 rfl) ?_
        refine lv_icmp_ne (tgt := 46) hx hb dX7_isCounted_39 (by decide) (fun c7 => ?_) (fun c7 => ?_)
        · have hf := fd_ifn c7 hf
          refine lv_iconst (v := (0 : Int32)) hx hb dX7_isCounted_46 (by decide) ?_
          refine lv_istore_n (lv' := [(3, .int (0 : Int32)), (0, .ref (E.2.2 73)), (1, .int x1), (2, .int x2), (4, .int x4)]) hx hb dX7_isCounted_47 rfl hl (by decide) rfl (fun ls hl => ?_)
          obtain ⟨y8, ey8, hf⟩ := fd_ltS hf
          refine lv_iinc (v := y8) (lv' := [(4, .int y8), (3, .int (0 : Int32)), (0, .ref (E.2.2 73)), (1, .int x1), (2, .int x2)]) hx hb dX7_isCounted_48 hl (k := 4) rfl (by rw [ey8]; rfl) (by decide) rfl (fun ls hl => ?_)
          refine lv_goto (tgt := 5) hx hb dX7_isCounted_51 (by decide) ?_
          exact ih S x1 x2 (0 : Int32) y8 _ _ _ hf hH (lv_sub hl [2, 3, 4, 1, 0] rfl)
        · have hf := fd_ifp c7 hf
          refine lv_iconst (v := (1 : Int32)) hx hb dX7_isCounted_42 (by decide) ?_
          refine lv_goto (tgt := 47) hx hb dX7_isCounted_43 (by decide) ?_
          refine lv_istore_n (lv' := [(3, .int (1 : Int32)), (0, .ref (E.2.2 73)), (1, .int x1), (2, .int x2), (4, .int x4)]) hx hb dX7_isCounted_47 rfl hl (by decide) rfl (fun ls hl => ?_)
          obtain ⟨y9, ey9, hf⟩ := fd_ltS hf
          refine lv_iinc (v := y9) (lv' := [(4, .int y9), (3, .int (1 : Int32)), (0, .ref (E.2.2 73)), (1, .int x1), (2, .int x2)]) hx hb dX7_isCounted_48 hl (k := 4) rfl (by rw [ey9]; rfl) (by decide) rfl (fun ls hl => ?_)
          refine lv_goto (tgt := 5) hx hb dX7_isCounted_51 (by decide) ?_
          exact ih S x1 x2 (1 : Int32) y9 _ _ _ hf hH (lv_sub hl [2, 3, 4, 1, 0] rfl)
set_option maxHeartbeats 4000000 in
set_option maxRecDepth 100000 in
theorem cM_isCounted (l : Launch) (E : fd_E) (fu : Nat) (S : fd_S) (x1 : Int32) (x2 : Int32) {r0 : Int32} (hf : zM_isCounted fu S x1 x2 = some r0) : fd_Ct l yX7_isCounted cX7_isCounted 5 (some .boolean) (fd_rm 1 21) E S [.ref (E.2.2 73), .int x1, .int x2] (some (.int r0)) S := by
  unfold zM_isCounted at hf
  refine fd_Ct_of (by decide +kernel) (Nat.le_of_ble_eq_true rfl) ?_
  intro p e s m below meth c ls C hr hlk hH hl
  have hx := C.1
  have hb := C.2.1
  have hl : lv_has ls 5 [(0, .ref (E.2.2 73)), (1, .int x1), (2, .int x2)] := hl
  refine lv_iconst (v := (0 : Int32)) hx hb dX7_isCounted_0 (by decide) ?_
  refine lv_istore_n (lv' := [(3, .int (0 : Int32)), (0, .ref (E.2.2 73)), (1, .int x1), (2, .int x2)]) hx hb dX7_isCounted_1 rfl hl (by decide) rfl (fun ls hl => ?_)
  refine lv_iconst (v := (0 : Int32)) hx hb dX7_isCounted_2 (by decide) ?_
  refine lv_istore (lv' := [(4, .int (0 : Int32)), (3, .int (0 : Int32)), (0, .ref (E.2.2 73)), (1, .int x1), (2, .int x2)]) hx hb dX7_isCounted_3 hl (by decide) rfl (fun ls hl => ?_)
  exact wM_isCounted_5 C hr hlk fu fu S x1 x2 (0 : Int32) (0 : Int32) _ _ _ hf hH (lv_sub hl [2, 3, 4, 1, 0] rfl)
theorem dX7_addCause_0 : decode cX7_addCause 0 = .ok (.aload_n 0, 1) := by decide +kernel
theorem dX7_addCause_1 : decode cX7_addCause 1 = .ok (.getfield 30, 3) := by decide +kernel
theorem dX7_addCause_4 : decode cX7_addCause 4 = .ok (.iload_n 1, 1) := by decide +kernel
theorem dX7_addCause_5 : decode cX7_addCause 5 = .ok (.iconst 5, 1) := by decide +kernel
theorem dX7_addCause_6 : decode cX7_addCause 6 = .ok (.invokestatic 72, 3) := by decide +kernel
theorem dX7_addCause_9 : decode cX7_addCause 9 = .ok (.iaload, 1) := by decide +kernel
theorem dX7_addCause_10 : decode cX7_addCause 10 = .ok (.iconst 4, 1) := by decide +kernel
theorem dX7_addCause_11 : decode cX7_addCause 11 = .ok (.if_icmp .ne 53, 3) := by decide +kernel
theorem dX7_addCause_14 : decode cX7_addCause 14 = .ok (.iconst 1, 1) := by decide +kernel
theorem dX7_addCause_15 : decode cX7_addCause 15 = .ok (.istore_n 3, 1) := by decide +kernel
theorem dX7_addCause_16 : decode cX7_addCause 16 = .ok (.iload_n 3, 1) := by decide +kernel
theorem dX7_addCause_17 : decode cX7_addCause 17 = .ok (.iconst 4, 1) := by decide +kernel
theorem dX7_addCause_18 : decode cX7_addCause 18 = .ok (.if_icmp .ge 35, 3) := by decide +kernel
theorem dX7_addCause_21 : decode cX7_addCause 21 = .ok (.aload_n 0, 1) := by decide +kernel
theorem dX7_addCause_22 : decode cX7_addCause 22 = .ok (.getfield 30, 3) := by decide +kernel
theorem dX7_addCause_25 : decode cX7_addCause 25 = .ok (.iload_n 1, 1) := by decide +kernel
theorem dX7_addCause_26 : decode cX7_addCause 26 = .ok (.iconst 5, 1) := by decide +kernel
theorem dX7_addCause_27 : decode cX7_addCause 27 = .ok (.iload_n 3, 1) := by decide +kernel
theorem dX7_addCause_28 : decode cX7_addCause 28 = .ok (.iadd, 1) := by decide +kernel
theorem dX7_addCause_29 : decode cX7_addCause 29 = .ok (.invokestatic 72, 3) := by decide +kernel
theorem dX7_addCause_32 : decode cX7_addCause 32 = .ok (.aload_n 0, 1) := by decide +kernel
theorem dX7_addCause_33 : decode cX7_addCause 33 = .ok (.getfield 30, 3) := by decide +kernel
theorem dX7_addCause_36 : decode cX7_addCause 36 = .ok (.iload_n 1, 1) := by decide +kernel
theorem dX7_addCause_37 : decode cX7_addCause 37 = .ok (.iconst 5, 1) := by decide +kernel
theorem dX7_addCause_38 : decode cX7_addCause 38 = .ok (.iload_n 3, 1) := by decide +kernel
theorem dX7_addCause_39 : decode cX7_addCause 39 = .ok (.iadd, 1) := by decide +kernel
theorem dX7_addCause_40 : decode cX7_addCause 40 = .ok (.iconst 1, 1) := by decide +kernel
theorem dX7_addCause_41 : decode cX7_addCause 41 = .ok (.iadd, 1) := by decide +kernel
theorem dX7_addCause_42 : decode cX7_addCause 42 = .ok (.invokestatic 72, 3) := by decide +kernel
theorem dX7_addCause_45 : decode cX7_addCause 45 = .ok (.iaload, 1) := by decide +kernel
theorem dX7_addCause_46 : decode cX7_addCause 46 = .ok (.iastore, 1) := by decide +kernel
theorem dX7_addCause_47 : decode cX7_addCause 47 = .ok (.iinc 3 1, 3) := by decide +kernel
theorem dX7_addCause_50 : decode cX7_addCause 50 = .ok (.goto (-34), 3) := by decide +kernel
theorem dX7_addCause_53 : decode cX7_addCause 53 = .ok (.aload_n 0, 1) := by decide +kernel
theorem dX7_addCause_54 : decode cX7_addCause 54 = .ok (.getfield 30, 3) := by decide +kernel
theorem dX7_addCause_57 : decode cX7_addCause 57 = .ok (.iload_n 1, 1) := by decide +kernel
theorem dX7_addCause_58 : decode cX7_addCause 58 = .ok (.iconst 5, 1) := by decide +kernel
theorem dX7_addCause_59 : decode cX7_addCause 59 = .ok (.invokestatic 72, 3) := by decide +kernel
theorem dX7_addCause_62 : decode cX7_addCause 62 = .ok (.iconst 3, 1) := by decide +kernel
theorem dX7_addCause_63 : decode cX7_addCause 63 = .ok (.iastore, 1) := by decide +kernel
theorem dX7_addCause_64 : decode cX7_addCause 64 = .ok (.aload_n 0, 1) := by decide +kernel
theorem dX7_addCause_65 : decode cX7_addCause 65 = .ok (.getfield 30, 3) := by decide +kernel
theorem dX7_addCause_68 : decode cX7_addCause 68 = .ok (.iload_n 1, 1) := by decide +kernel
theorem dX7_addCause_69 : decode cX7_addCause 69 = .ok (.iconst 5, 1) := by decide +kernel
theorem dX7_addCause_70 : decode cX7_addCause 70 = .ok (.invokestatic 72, 3) := by decide +kernel
theorem dX7_addCause_73 : decode cX7_addCause 73 = .ok (.dup2, 1) := by decide +kernel
theorem dX7_addCause_74 : decode cX7_addCause 74 = .ok (.iaload, 1) := by decide +kernel
theorem dX7_addCause_75 : decode cX7_addCause 75 = .ok (.iconst 1, 1) := by decide +kernel
theorem dX7_addCause_76 : decode cX7_addCause 76 = .ok (.iadd, 1) := by decide +kernel
theorem dX7_addCause_77 : decode cX7_addCause 77 = .ok (.iastore, 1) := by decide +kernel
theorem dX7_addCause_78 : decode cX7_addCause 78 = .ok (.aload_n 0, 1) := by decide +kernel
theorem dX7_addCause_79 : decode cX7_addCause 79 = .ok (.getfield 30, 3) := by decide +kernel
theorem dX7_addCause_82 : decode cX7_addCause 82 = .ok (.iload_n 1, 1) := by decide +kernel
theorem dX7_addCause_83 : decode cX7_addCause 83 = .ok (.iconst 5, 1) := by decide +kernel
theorem dX7_addCause_84 : decode cX7_addCause 84 = .ok (.aload_n 0, 1) := by decide +kernel
theorem dX7_addCause_85 : decode cX7_addCause 85 = .ok (.getfield 30, 3) := by decide +kernel
theorem dX7_addCause_88 : decode cX7_addCause 88 = .ok (.iload_n 1, 1) := by decide +kernel
theorem dX7_addCause_89 : decode cX7_addCause 89 = .ok (.iconst 5, 1) := by decide +kernel
theorem dX7_addCause_90 : decode cX7_addCause 90 = .ok (.invokestatic 72, 3) := by decide +kernel
theorem dX7_addCause_93 : decode cX7_addCause 93 = .ok (.iaload, 1) := by decide +kernel
theorem dX7_addCause_94 : decode cX7_addCause 94 = .ok (.iadd, 1) := by decide +kernel
theorem dX7_addCause_95 : decode cX7_addCause 95 = .ok (.invokestatic 72, 3) := by decide +kernel
theorem dX7_addCause_98 : decode cX7_addCause 98 = .ok (.iload_n 2, 1) := by decide +kernel
theorem dX7_addCause_99 : decode cX7_addCause 99 = .ok (.iastore, 1) := by decide +kernel
theorem dX7_addCause_100 : decode cX7_addCause 100 = .ok (.return_, 1) := by decide +kernel
set_option maxHeartbeats 4000000 in
set_option maxRecDepth 100000 in
theorem wM_addCause_64 {p : Program} {l : Launch} {e : Env} {s : State} {m : MethodId} {args : Array Value} {below : List Frame} {meth : Method} {c : Code} {E : fd_E} (C : fd_C p s m args c yX7_addCause.cls cX7_addCause 4 E) (hr : meth.sig.returnType = none) (hlk : meth.locks = false) (fu : Nat) {S0 : fd_S} : ∀ (S : fd_S) (x1 : Int32) (x2 : Int32) (H : Heap) (locs : List Loc) (ls : Array Slot), zM_addCause_64 fu S x1 x2 = some S0 → fd_H E S s H locs → lv_has ls 4 [(0, .ref (E.2.2 73)), (1, .int x1), (2, .int x2)] → W p l e (fd_rm 1 21) s m args below meth c H locs 0 0 (MQ below (fd_Q E none S0) args s 0 0 (fd_A E)) (F0 m 64 ls []) := by
  have hx := C.1
  have hb := C.2.1
  intro S x1 x2 H locs ls hf hH hl
  unfold zM_addCause_64 at hf
  refine lv_aload_n hx hb dX7_addCause_64 rfl (lv_at hl 0 rfl) ?_
  refine fd_get 73 7 4 C hH (by decide) rfl (by decide) (by decide) wf_X7_30 (v := .ref (E.2.2 78)) rfl dX7_addCause_65 ?_
  refine lv_iload_n hx hb dX7_addCause_68 rfl (lv_at hl 1 rfl) ?_
  refine lv_iconst (v := (5 : Int32)) hx hb dX7_addCause_69 (by decide) ?_
  refine fd_callS1 [.int x1, .int (5 : Int32)] C hl.1 hH (cM_at l E S x1 (5 : Int32)) wm_X7_72 ⟨rfl, rfl, Nat.le_of_ble_eq_true rfl, Nat.le_of_ble_eq_true rfl⟩ rfl rfl (Nat.le_of_ble_eq_true rfl) ⟨Nat.le_refl _, Nat.le_refl _⟩ dX7_addCause_70 (fun H locs hH => ?_)
  refine lv_dup2_11 hx hb dX7_addCause_73 rfl rfl ?_
  obtain ⟨g3, hf⟩ := fd_grd hf
  refine fd_iald 78 (275 : Int32) C hH (by decide) rfl rfl g3 dX7_addCause_74 ?_
  refine lv_iconst (v := (1 : Int32)) hx hb dX7_addCause_75 (by decide) ?_
  refine lv_iadd hx hb dX7_addCause_76 ?_
  obtain ⟨g4, hf⟩ := fd_grd hf
  refine fd_iast 78 (275 : Int32) C hH (by decide) rfl rfl g4 dX7_addCause_77 (fun H locs hH => ?_)
  obtain ⟨S5, eS5, hf⟩ := fd_ltS hf
  rw [← eS5] at hH
  refine lv_aload_n hx hb dX7_addCause_78 rfl (lv_at hl 0 rfl) ?_
  refine fd_get 73 7 4 C hH (by decide) rfl (by decide) (by decide) wf_X7_30 (v := .ref (E.2.2 78)) rfl dX7_addCause_79 ?_
  refine lv_iload_n hx hb dX7_addCause_82 rfl (lv_at hl 1 rfl) ?_
  refine lv_iconst (v := (5 : Int32)) hx hb dX7_addCause_83 (by decide) ?_
  refine lv_aload_n hx hb dX7_addCause_84 rfl (lv_at hl 0 rfl) ?_
  refine fd_get 73 7 4 C hH (by decide) rfl (by decide) (by decide) wf_X7_30 (v := .ref (E.2.2 78)) rfl dX7_addCause_85 ?_
  refine lv_iload_n hx hb dX7_addCause_88 rfl (lv_at hl 1 rfl) ?_
  refine lv_iconst (v := (5 : Int32)) hx hb dX7_addCause_89 (by decide) ?_
  refine fd_callS1 [.int x1, .int (5 : Int32)] C hl.1 hH (cM_at l E S5 x1 (5 : Int32)) wm_X7_72 ⟨rfl, rfl, Nat.le_of_ble_eq_true rfl, Nat.le_of_ble_eq_true rfl⟩ rfl rfl (Nat.le_of_ble_eq_true rfl) ⟨Nat.le_refl _, Nat.le_refl _⟩ dX7_addCause_90 (fun H locs hH => ?_)
  obtain ⟨g6, hf⟩ := fd_grd hf
  refine fd_iald 78 (275 : Int32) C hH (by decide) rfl rfl g6 dX7_addCause_93 ?_
  refine lv_iadd hx hb dX7_addCause_94 ?_
  refine fd_callS1 [.int x1, .int ((5 : Int32) + (S5 78 (zM_at x1 (5 : Int32))))] C hl.1 hH (cM_at l E S5 x1 ((5 : Int32) + (S5 78 (zM_at x1 (5 : Int32))))) wm_X7_72 ⟨rfl, rfl, Nat.le_of_ble_eq_true rfl, Nat.le_of_ble_eq_true rfl⟩ rfl rfl (Nat.le_of_ble_eq_true rfl) ⟨Nat.le_refl _, Nat.le_refl _⟩ dX7_addCause_95 (fun H locs hH => ?_)
  refine lv_iload_n hx hb dX7_addCause_98 rfl (lv_at hl 2 rfl) ?_
  obtain ⟨g7, hf⟩ := fd_grd hf
  refine fd_iast 78 (275 : Int32) C hH (by decide) rfl rfl g7 dX7_addCause_99 (fun H locs hH => ?_)
  obtain ⟨S8, eS8, hf⟩ := fd_ltS hf
  rw [← eS8] at hH
  cases hf
  exact fd_vret C hr hlk hH dX7_addCause_100
set_option maxHeartbeats 4000000 in
set_option maxRecDepth 100000 in
theorem wM_addCause_16 {p : Program} {l : Launch} {e : Env} {s : State} {m : MethodId} {args : Array Value} {below : List Frame} {meth : Method} {c : Code} {E : fd_E} (C : fd_C p s m args c yX7_addCause.cls cX7_addCause 4 E) (hr : meth.sig.returnType = none) (hlk : meth.locks = false) (fu : Nat) {S0 : fd_S} : ∀ (n : Nat) (S : fd_S) (x1 : Int32) (x2 : Int32) (x3 : Int32) (H : Heap) (locs : List Loc) (ls : Array Slot), zM_addCause_16 fu n S x1 x2 x3 = some S0 → fd_H E S s H locs → lv_has ls 4 [(0, .ref (E.2.2 73)), (1, .int x1), (2, .int x2), (3, .int x3)] → W p l e (fd_rm 1 21) s m args below meth c H locs 0 0 (MQ below (fd_Q E none S0) args s 0 0 (fd_A E)) (F0 m 16 ls []) := by
  have hx := C.1
  have hb := C.2.1
  intro n
  induction n with
  | zero =>
    intro S x1 x2 x3 H locs ls hf
    rw [zM_addCause_16] at hf
    cases hf
  | succ n ih =>
    intro S x1 x2 x3 H locs ls hf hH hl
    rw [zM_addCause_16] at hf
    refine lv_iload_n hx hb dX7_addCause_16 rfl (lv_at hl 3 rfl) ?_
    refine lv_iconst (v := (4 : Int32)) hx hb dX7_addCause_17 (by decide) ?_
    refine lv_icmp_ge (tgt := 53) hx hb dX7_addCause_18 (by decide) (fun c9 => ?_) (fun c9 => ?_)
    · have hf := fd_ifp c9 hf
      refine lv_aload_n hx hb dX7_addCause_53 rfl (lv_at hl 0 rfl) ?_
      refine fd_get 73 7 4 C hH (by decide) rfl (by decide) (by decide) wf_X7_30 (v := .ref (E.2.2 78)) rfl dX7_addCause_54 ?_
      refine lv_iload_n hx hb dX7_addCause_57 rfl (lv_at hl 1 rfl) ?_
      refine lv_iconst (v := (5 : Int32)) hx hb dX7_addCause_58 (by decide) ?_
      refine fd_callS1 [.int x1, .int (5 : Int32)] C hl.1 hH (cM_at l E S x1 (5 : Int32)) wm_X7_72 ⟨rfl, rfl, Nat.le_of_ble_eq_true rfl, Nat.le_of_ble_eq_true rfl⟩ rfl rfl (Nat.le_of_ble_eq_true rfl) ⟨Nat.le_refl _, Nat.le_refl _⟩ dX7_addCause_59 (fun H locs hH => ?_)
      refine lv_iconst (v := (3 : Int32)) hx hb dX7_addCause_62 (by decide) ?_
      obtain ⟨g10, hf⟩ := fd_grd hf
      refine fd_iast 78 (275 : Int32) C hH (by decide) rfl rfl g10 dX7_addCause_63 (fun H locs hH => ?_)
      obtain ⟨S11, eS11, hf⟩ := fd_ltS hf
      rw [← eS11] at hH
      exact wM_addCause_64 C hr hlk fu S11 x1 x2 _ _ _ hf hH (lv_sub hl [0, 1, 2] rfl)
    · have hf := fd_ifn c9 hf
      refine lv_aload_n hx hb dX7_addCause_21 rfl (lv_at hl 0 rfl) ?_
      refine fd_get 73 7 4 C hH (by decide) rfl (by decide) (by decide) wf_X7_30 (v := .ref (E.2.2 78)) rfl dX7_addCause_22 ?_
      refine lv_iload_n hx hb dX7_addCause_25 rfl (lv_at hl 1 rfl) ?_
      refine lv_iconst (v := (5 : Int32)) hx hb dX7_addCause_26 (by decide) ?_
      refine lv_iload_n hx hb dX7_addCause_27 rfl (lv_at hl 3 rfl) ?_
      refine lv_iadd hx hb dX7_addCause_28 ?_
      refine fd_callS1 [.int x1, .int ((5 : Int32) + x3)] C hl.1 hH (cM_at l E S x1 ((5 : Int32) + x3)) wm_X7_72 ⟨rfl, rfl, Nat.le_of_ble_eq_true rfl, Nat.le_of_ble_eq_true rfl⟩ rfl rfl (Nat.le_of_ble_eq_true rfl) ⟨Nat.le_refl _, Nat.le_refl _⟩ dX7_addCause_29 (fun H locs hH => ?_)
      refine lv_aload_n hx hb dX7_addCause_32 rfl (lv_at hl 0 rfl) ?_
      refine fd_get 73 7 4 C hH (by decide) rfl (by decide) (by decide) wf_X7_30 (v := .ref (E.2.2 78)) rfl dX7_addCause_33 ?_
      refine lv_iload_n hx hb dX7_addCause_36 rfl (lv_at hl 1 rfl) ?_
      refine lv_iconst (v := (5 : Int32)) hx hb dX7_addCause_37 (by decide) ?_
      refine lv_iload_n hx hb dX7_addCause_38 rfl (lv_at hl 3 rfl) ?_
      refine lv_iadd hx hb dX7_addCause_39 ?_
      refine lv_iconst (v := (1 : Int32)) hx hb dX7_addCause_40 (by decide) ?_
      refine lv_iadd hx hb dX7_addCause_41 ?_
      refine fd_callS1 [.int x1, .int (((5 : Int32) + x3) + (1 : Int32))] C hl.1 hH (cM_at l E S x1 (((5 : Int32) + x3) + (1 : Int32))) wm_X7_72 ⟨rfl, rfl, Nat.le_of_ble_eq_true rfl, Nat.le_of_ble_eq_true rfl⟩ rfl rfl (Nat.le_of_ble_eq_true rfl) ⟨Nat.le_refl _, Nat.le_refl _⟩ dX7_addCause_42 (fun H locs hH => ?_)
      obtain ⟨g12, hf⟩ := fd_grd hf
      refine fd_iald 78 (275 : Int32) C hH (by decide) rfl rfl g12 dX7_addCause_45 ?_
      obtain ⟨g13, hf⟩ := fd_grd hf
      refine fd_iast 78 (275 : Int32) C hH (by decide) rfl rfl g13 dX7_addCause_46 (fun H locs hH => ?_)
      obtain ⟨S14, eS14, hf⟩ := fd_ltS hf
      rw [← eS14] at hH
      obtain ⟨y15, ey15, hf⟩ := fd_ltS hf
      refine lv_iinc (v := y15) (lv' := [(3, .int y15), (0, .ref (E.2.2 73)), (1, .int x1), (2, .int x2)]) hx hb dX7_addCause_47 hl (k := 3) rfl (by rw [ey15]; rfl) (by decide) rfl (fun ls hl => ?_)
      refine lv_goto (tgt := 16) hx hb dX7_addCause_50 (by decide) ?_
      exact ih S14 x1 x2 y15 _ _ _ hf hH (lv_sub hl [1, 2, 3, 0] rfl)
set_option maxHeartbeats 4000000 in
set_option maxRecDepth 100000 in
theorem cM_addCause (l : Launch) (E : fd_E) (fu : Nat) (S : fd_S) (x1 : Int32) (x2 : Int32) {S0 : fd_S} (hf : zM_addCause fu S x1 x2 = some S0) : fd_Ct l yX7_addCause cX7_addCause 4 none (fd_rm 1 21) E S [.ref (E.2.2 73), .int x1, .int x2] none S0 := by
  unfold zM_addCause at hf
  refine fd_Ct_of (by decide +kernel) (Nat.le_of_ble_eq_true rfl) ?_
  intro p e s m below meth c ls C hr hlk hH hl
  have hx := C.1
  have hb := C.2.1
  have hl : lv_has ls 4 [(0, .ref (E.2.2 73)), (1, .int x1), (2, .int x2)] := hl
  refine lv_aload_n hx hb dX7_addCause_0 rfl (lv_at hl 0 rfl) ?_
  refine fd_get 73 7 4 C hH (by decide) rfl (by decide) (by decide) wf_X7_30 (v := .ref (E.2.2 78)) rfl dX7_addCause_1 ?_
  refine lv_iload_n hx hb dX7_addCause_4 rfl (lv_at hl 1 rfl) ?_
  refine lv_iconst (v := (5 : Int32)) hx hb dX7_addCause_5 (by decide) ?_
  refine fd_callS1 [.int x1, .int (5 : Int32)] C hl.1 hH (cM_at l E S x1 (5 : Int32)) wm_X7_72 ⟨rfl, rfl, Nat.le_of_ble_eq_true rfl, Nat.le_of_ble_eq_true rfl⟩ rfl rfl (Nat.le_of_ble_eq_true rfl) ⟨Nat.le_refl _, Nat.le_refl _⟩ dX7_addCause_6 (fun H locs hH => ?_)
  obtain ⟨g1, hf⟩ := fd_grd hf
  refine fd_iald 78 (275 : Int32) C hH (by decide) rfl rfl g1 dX7_addCause_9 ?_
  refine lv_iconst (v := (4 : Int32)) hx hb dX7_addCause_10 (by decide) ?_
  refine lv_icmp_ne (tgt := 64) hx hb dX7_addCause_11 (by decide) (fun c2 => ?_) (fun c2 => ?_)
  · have hf := fd_ifn c2 hf
    exact wM_addCause_64 C hr hlk fu S x1 x2 _ _ _ hf hH (lv_sub hl [0, 1, 2] rfl)
  · have hf := fd_ifp c2 hf
    refine lv_iconst (v := (1 : Int32)) hx hb dX7_addCause_14 (by decide) ?_
    refine lv_istore_n (lv' := [(3, .int (1 : Int32)), (0, .ref (E.2.2 73)), (1, .int x1), (2, .int x2)]) hx hb dX7_addCause_15 rfl hl (by decide) rfl (fun ls hl => ?_)
    exact wM_addCause_16 C hr hlk fu fu S x1 x2 (1 : Int32) _ _ _ hf hH (lv_sub hl [1, 2, 3, 0] rfl)
theorem dX7_lineAt_0 : decode cX7_lineAt 0 = .ok (.sipush 131, 3) := by decide +kernel
theorem dX7_lineAt_3 : decode cX7_lineAt 3 = .ok (.bipush 24, 2) := by decide +kernel
theorem dX7_lineAt_5 : decode cX7_lineAt 5 = .ok (.iload_n 1, 1) := by decide +kernel
theorem dX7_lineAt_6 : decode cX7_lineAt 6 = .ok (.imul, 1) := by decide +kernel
theorem dX7_lineAt_7 : decode cX7_lineAt 7 = .ok (.iadd, 1) := by decide +kernel
theorem dX7_lineAt_8 : decode cX7_lineAt 8 = .ok (.iconst 1, 1) := by decide +kernel
theorem dX7_lineAt_9 : decode cX7_lineAt 9 = .ok (.iadd, 1) := by decide +kernel
theorem dX7_lineAt_10 : decode cX7_lineAt 10 = .ok (.iload_n 2, 1) := by decide +kernel
theorem dX7_lineAt_11 : decode cX7_lineAt 11 = .ok (.iadd, 1) := by decide +kernel
theorem dX7_lineAt_12 : decode cX7_lineAt 12 = .ok (.ireturn, 1) := by decide +kernel
set_option maxHeartbeats 4000000 in
set_option maxRecDepth 100000 in
theorem cM_lineAt (l : Launch) (E : fd_E) (S : fd_S) (x1 : Int32) (x2 : Int32) : fd_Ct l yX7_lineAt cX7_lineAt 3 (some .int) (fd_rm 0 0) E S [.ref (E.2.2 73), .int x1, .int x2] (some (.int (zM_lineAt x1 x2))) S := by
  generalize hf : zM_lineAt x1 x2 = r0
  unfold zM_lineAt at hf
  refine fd_Ct_of (by decide +kernel) (Nat.le_of_ble_eq_true rfl) ?_
  intro p e s m below meth c ls C hr hlk hH hl
  have hx := C.1
  have hb := C.2.1
  have hl : lv_has ls 3 [(0, .ref (E.2.2 73)), (1, .int x1), (2, .int x2)] := hl
  refine lv_sipush (v := (131 : Int32)) hx hb dX7_lineAt_0 (by decide) ?_
  refine lv_bipush (v := (24 : Int32)) hx hb dX7_lineAt_3 (by decide) ?_
  refine lv_iload_n hx hb dX7_lineAt_5 rfl (lv_at hl 1 rfl) ?_
  refine lv_imul hx hb dX7_lineAt_6 ?_
  refine lv_iadd hx hb dX7_lineAt_7 ?_
  refine lv_iconst (v := (1 : Int32)) hx hb dX7_lineAt_8 (by decide) ?_
  refine lv_iadd hx hb dX7_lineAt_9 ?_
  refine lv_iload_n hx hb dX7_lineAt_10 rfl (lv_at hl 2 rfl) ?_
  refine lv_iadd hx hb dX7_lineAt_11 ?_
  cases hf
  exact fd_iret C hr hlk hH dX7_lineAt_12
theorem dX7_write_0 : decode cX7_write 0 = .ok (.aload_n 0, 1) := by decide +kernel
theorem dX7_write_1 : decode cX7_write 1 = .ok (.getfield 30, 3) := by decide +kernel
theorem dX7_write_4 : decode cX7_write 4 = .ok (.aload_n 0, 1) := by decide +kernel
theorem dX7_write_5 : decode cX7_write 5 = .ok (.iconst 0, 1) := by decide +kernel
theorem dX7_write_6 : decode cX7_write 6 = .ok (.aload_n 0, 1) := by decide +kernel
theorem dX7_write_7 : decode cX7_write 7 = .ok (.getfield 30, 3) := by decide +kernel
theorem dX7_write_10 : decode cX7_write 10 = .ok (.sipush 131, 3) := by decide +kernel
theorem dX7_write_13 : decode cX7_write 13 = .ok (.iaload, 1) := by decide +kernel
theorem dX7_write_14 : decode cX7_write 14 = .ok (.invokevirtual 92, 3) := by decide +kernel
theorem dX7_write_17 : decode cX7_write 17 = .ok (.iload_n 1, 1) := by decide +kernel
theorem dX7_write_18 : decode cX7_write 18 = .ok (.iastore, 1) := by decide +kernel
theorem dX7_write_19 : decode cX7_write 19 = .ok (.aload_n 0, 1) := by decide +kernel
theorem dX7_write_20 : decode cX7_write 20 = .ok (.getfield 30, 3) := by decide +kernel
theorem dX7_write_23 : decode cX7_write 23 = .ok (.sipush 131, 3) := by decide +kernel
theorem dX7_write_26 : decode cX7_write 26 = .ok (.dup2, 1) := by decide +kernel
theorem dX7_write_27 : decode cX7_write 27 = .ok (.iaload, 1) := by decide +kernel
theorem dX7_write_28 : decode cX7_write 28 = .ok (.iconst 1, 1) := by decide +kernel
theorem dX7_write_29 : decode cX7_write 29 = .ok (.iadd, 1) := by decide +kernel
theorem dX7_write_30 : decode cX7_write 30 = .ok (.iastore, 1) := by decide +kernel
theorem dX7_write_31 : decode cX7_write 31 = .ok (.return_, 1) := by decide +kernel
set_option maxHeartbeats 4000000 in
set_option maxRecDepth 100000 in
theorem cM_write (l : Launch) (E : fd_E) (S : fd_S) (x1 : Int32) {S0 : fd_S} (hf : zM_write S x1 = some S0) : fd_Ct l yX7_write cX7_write 2 none (fd_rm 1 22) E S [.ref (E.2.2 73), .int x1] none S0 := by
  unfold zM_write at hf
  refine fd_Ct_of (by decide +kernel) (Nat.le_of_ble_eq_true rfl) ?_
  intro p e s m below meth c ls C hr hlk hH hl
  have hx := C.1
  have hb := C.2.1
  have hl : lv_has ls 2 [(0, .ref (E.2.2 73)), (1, .int x1)] := hl
  refine lv_aload_n hx hb dX7_write_0 rfl (lv_at hl 0 rfl) ?_
  refine fd_get 73 7 4 C hH (by decide) rfl (by decide) (by decide) wf_X7_30 (v := .ref (E.2.2 78)) rfl dX7_write_1 ?_
  refine lv_aload_n hx hb dX7_write_4 rfl (lv_at hl 0 rfl) ?_
  refine lv_iconst (v := (0 : Int32)) hx hb dX7_write_5 (by decide) ?_
  refine lv_aload_n hx hb dX7_write_6 rfl (lv_at hl 0 rfl) ?_
  refine fd_get 73 7 4 C hH (by decide) rfl (by decide) (by decide) wf_X7_30 (v := .ref (E.2.2 78)) rfl dX7_write_7 ?_
  refine lv_sipush (v := (131 : Int32)) hx hb dX7_write_10 (by decide) ?_
  refine fd_iald 78 (275 : Int32) C hH (by decide) rfl rfl (by decide) dX7_write_13 ?_
  refine fd_callV1 73 7 [.int (0 : Int32), .int (S 78 (131 : Int32))] C hl.1 hH (cM_lineAt l E S (0 : Int32) (S 78 (131 : Int32))) wm_X7_92 (by decide) rfl (by decide) rfl ⟨rfl, rfl, Nat.le_of_ble_eq_true rfl, Nat.le_of_ble_eq_true rfl⟩ rfl rfl (Nat.le_of_ble_eq_true rfl) ⟨Nat.le_refl _, Nat.le_refl _⟩ dX7_write_14 (fun H locs hH => ?_)
  refine lv_iload_n hx hb dX7_write_17 rfl (lv_at hl 1 rfl) ?_
  obtain ⟨g1, hf⟩ := fd_grd hf
  refine fd_iast 78 (275 : Int32) C hH (by decide) rfl rfl g1 dX7_write_18 (fun H locs hH => ?_)
  obtain ⟨S2, eS2, hf⟩ := fd_ltS hf
  rw [← eS2] at hH
  refine lv_aload_n hx hb dX7_write_19 rfl (lv_at hl 0 rfl) ?_
  refine fd_get 73 7 4 C hH (by decide) rfl (by decide) (by decide) wf_X7_30 (v := .ref (E.2.2 78)) rfl dX7_write_20 ?_
  refine lv_sipush (v := (131 : Int32)) hx hb dX7_write_23 (by decide) ?_
  refine lv_dup2_11 hx hb dX7_write_26 rfl rfl ?_
  refine fd_iald 78 (275 : Int32) C hH (by decide) rfl rfl (by decide) dX7_write_27 ?_
  refine lv_iconst (v := (1 : Int32)) hx hb dX7_write_28 (by decide) ?_
  refine lv_iadd hx hb dX7_write_29 ?_
  refine fd_iast 78 (275 : Int32) C hH (by decide) rfl rfl (by decide) dX7_write_30 (fun H locs hH => ?_)
  obtain ⟨S3, eS3, hf⟩ := fd_ltS hf
  rw [← eS3] at hH
  cases hf
  exact fd_vret C hr hlk hH dX7_write_31
theorem dX7_writeNumber_0 : decode cX7_writeNumber 0 = .ok (.iconst 1, 1) := by decide +kernel
theorem dX7_writeNumber_1 : decode cX7_writeNumber 1 = .ok (.istore_n 2, 1) := by decide +kernel
theorem dX7_writeNumber_2 : decode cX7_writeNumber 2 = .ok (.iload_n 1, 1) := by decide +kernel
theorem dX7_writeNumber_3 : decode cX7_writeNumber 3 = .ok (.iload_n 2, 1) := by decide +kernel
theorem dX7_writeNumber_4 : decode cX7_writeNumber 4 = .ok (.idiv, 1) := by decide +kernel
theorem dX7_writeNumber_5 : decode cX7_writeNumber 5 = .ok (.bipush 9, 2) := by decide +kernel
theorem dX7_writeNumber_7 : decode cX7_writeNumber 7 = .ok (.if_icmp .le 11, 3) := by decide +kernel
theorem dX7_writeNumber_10 : decode cX7_writeNumber 10 = .ok (.iload_n 2, 1) := by decide +kernel
theorem dX7_writeNumber_11 : decode cX7_writeNumber 11 = .ok (.bipush 10, 2) := by decide +kernel
theorem dX7_writeNumber_13 : decode cX7_writeNumber 13 = .ok (.imul, 1) := by decide +kernel
theorem dX7_writeNumber_14 : decode cX7_writeNumber 14 = .ok (.istore_n 2, 1) := by decide +kernel
theorem dX7_writeNumber_15 : decode cX7_writeNumber 15 = .ok (.goto (-13), 3) := by decide +kernel
theorem dX7_writeNumber_18 : decode cX7_writeNumber 18 = .ok (.iload_n 2, 1) := by decide +kernel
theorem dX7_writeNumber_19 : decode cX7_writeNumber 19 = .ok (.ifCond .le 24, 3) := by decide +kernel
theorem dX7_writeNumber_22 : decode cX7_writeNumber 22 = .ok (.aload_n 0, 1) := by decide +kernel
theorem dX7_writeNumber_23 : decode cX7_writeNumber 23 = .ok (.bipush 48, 2) := by decide +kernel
theorem dX7_writeNumber_25 : decode cX7_writeNumber 25 = .ok (.iload_n 1, 1) := by decide +kernel
theorem dX7_writeNumber_26 : decode cX7_writeNumber 26 = .ok (.iload_n 2, 1) := by decide +kernel
theorem dX7_writeNumber_27 : decode cX7_writeNumber 27 = .ok (.idiv, 1) := by decide +kernel
theorem dX7_writeNumber_28 : decode cX7_writeNumber 28 = .ok (.bipush 10, 2) := by decide +kernel
theorem dX7_writeNumber_30 : decode cX7_writeNumber 30 = .ok (.irem, 1) := by decide +kernel
theorem dX7_writeNumber_31 : decode cX7_writeNumber 31 = .ok (.iadd, 1) := by decide +kernel
theorem dX7_writeNumber_32 : decode cX7_writeNumber 32 = .ok (.invokevirtual 95, 3) := by decide +kernel
theorem dX7_writeNumber_35 : decode cX7_writeNumber 35 = .ok (.iload_n 2, 1) := by decide +kernel
theorem dX7_writeNumber_36 : decode cX7_writeNumber 36 = .ok (.bipush 10, 2) := by decide +kernel
theorem dX7_writeNumber_38 : decode cX7_writeNumber 38 = .ok (.idiv, 1) := by decide +kernel
theorem dX7_writeNumber_39 : decode cX7_writeNumber 39 = .ok (.istore_n 2, 1) := by decide +kernel
theorem dX7_writeNumber_40 : decode cX7_writeNumber 40 = .ok (.goto (-22), 3) := by decide +kernel
theorem dX7_writeNumber_43 : decode cX7_writeNumber 43 = .ok (.return_, 1) := by decide +kernel
set_option maxHeartbeats 4000000 in
set_option maxRecDepth 100000 in
theorem wM_writeNumber_18 {p : Program} {l : Launch} {e : Env} {s : State} {m : MethodId} {args : Array Value} {below : List Frame} {meth : Method} {c : Code} {E : fd_E} (C : fd_C p s m args c yX7_writeNumber.cls cX7_writeNumber 3 E) (hr : meth.sig.returnType = none) (hlk : meth.locks = false) (fu : Nat) {S0 : fd_S} : ∀ (n : Nat) (S : fd_S) (x1 : Int32) (x2 : Int32) (H : Heap) (locs : List Loc) (ls : Array Slot), zM_writeNumber_18 fu n S x1 x2 = some S0 → fd_H E S s H locs → lv_has ls 3 [(0, .ref (E.2.2 73)), (1, .int x1), (2, .int x2)] → W p l e (fd_rm 2 43) s m args below meth c H locs 0 0 (MQ below (fd_Q E none S0) args s 0 0 (fd_A E)) (F0 m 18 ls []) := by
  have hx := C.1
  have hb := C.2.1
  intro n
  induction n with
  | zero =>
    intro S x1 x2 H locs ls hf
    rw [zM_writeNumber_18] at hf
    cases hf
  | succ n ih =>
    intro S x1 x2 H locs ls hf hH hl
    rw [zM_writeNumber_18] at hf
    refine lv_iload_n hx hb dX7_writeNumber_18 rfl (lv_at hl 2 rfl) ?_
    refine lv_if_le (tgt := 43) hx hb dX7_writeNumber_19 (by decide) (fun c3 => ?_) (fun c3 => ?_)
    · have hf := fd_ifp c3 hf
      cases hf
      exact fd_vret C hr hlk hH dX7_writeNumber_43
    · have hf := fd_ifn c3 hf
      refine lv_aload_n hx hb dX7_writeNumber_22 rfl (lv_at hl 0 rfl) ?_
      refine lv_bipush (v := (48 : Int32)) hx hb dX7_writeNumber_23 (by decide) ?_
      refine lv_iload_n hx hb dX7_writeNumber_25 rfl (lv_at hl 1 rfl) ?_
      refine lv_iload_n hx hb dX7_writeNumber_26 rfl (lv_at hl 2 rfl) ?_
      obtain ⟨g4, hf⟩ := fd_grd hf
      refine lv_idiv hx hb dX7_writeNumber_27 g4 ?_
      refine lv_bipush (v := (10 : Int32)) hx hb dX7_writeNumber_28 (by decide) ?_
      refine fd_irem hx hb dX7_writeNumber_30 (by decide) ?_
      refine lv_iadd hx hb dX7_writeNumber_31 ?_
      obtain ⟨S5, e6, hf⟩ := fd_bnd hf
      refine fd_callV0 73 7 [.int ((48 : Int32) + (fd_rem (x1 / x2) (10 : Int32)))] C hl.1 hH (cM_write l E S ((48 : Int32) + (fd_rem (x1 / x2) (10 : Int32))) e6) wm_X7_95 (by decide) rfl (by decide) rfl ⟨rfl, rfl, Nat.le_of_ble_eq_true rfl, Nat.le_of_ble_eq_true rfl⟩ rfl rfl (Nat.le_of_ble_eq_true rfl) ⟨Nat.le_refl _, Nat.le_refl _⟩ dX7_writeNumber_32 (fun H locs hH => ?_)
      refine lv_iload_n hx hb dX7_writeNumber_35 rfl (lv_at hl 2 rfl) ?_
      refine lv_bipush (v := (10 : Int32)) hx hb dX7_writeNumber_36 (by decide) ?_
      refine lv_idiv hx hb dX7_writeNumber_38 (by decide) ?_
      refine lv_topi (fun y7 ey7 => ?_)
      have hf := fd_ltN ey7 hf
      refine lv_istore_n (lv' := [(2, .int y7), (0, .ref (E.2.2 73)), (1, .int x1)]) hx hb dX7_writeNumber_39 rfl hl (by decide) rfl (fun ls hl => ?_)
      refine lv_goto (tgt := 18) hx hb dX7_writeNumber_40 (by decide) ?_
      exact ih S5 x1 y7 _ _ _ hf hH (lv_sub hl [1, 2, 0] rfl)
set_option maxHeartbeats 4000000 in
set_option maxRecDepth 100000 in
theorem wM_writeNumber_2 {p : Program} {l : Launch} {e : Env} {s : State} {m : MethodId} {args : Array Value} {below : List Frame} {meth : Method} {c : Code} {E : fd_E} (C : fd_C p s m args c yX7_writeNumber.cls cX7_writeNumber 3 E) (hr : meth.sig.returnType = none) (hlk : meth.locks = false) (fu : Nat) {S0 : fd_S} : ∀ (n : Nat) (S : fd_S) (x1 : Int32) (x2 : Int32) (H : Heap) (locs : List Loc) (ls : Array Slot), zM_writeNumber_2 fu n S x1 x2 = some S0 → fd_H E S s H locs → lv_has ls 3 [(0, .ref (E.2.2 73)), (1, .int x1), (2, .int x2)] → W p l e (fd_rm 2 43) s m args below meth c H locs 0 0 (MQ below (fd_Q E none S0) args s 0 0 (fd_A E)) (F0 m 2 ls []) := by
  have hx := C.1
  have hb := C.2.1
  intro n
  induction n with
  | zero =>
    intro S x1 x2 H locs ls hf
    rw [zM_writeNumber_2] at hf
    cases hf
  | succ n ih =>
    intro S x1 x2 H locs ls hf hH hl
    rw [zM_writeNumber_2] at hf
    refine lv_iload_n hx hb dX7_writeNumber_2 rfl (lv_at hl 1 rfl) ?_
    refine lv_iload_n hx hb dX7_writeNumber_3 rfl (lv_at hl 2 rfl) ?_
    obtain ⟨g1, hf⟩ := fd_grd hf
    refine lv_idiv hx hb dX7_writeNumber_4 g1 ?_
    refine lv_bipush (v := (9 : Int32)) hx hb dX7_writeNumber_5 (by decide) ?_
    refine lv_icmp_le (tgt := 18) hx hb dX7_writeNumber_7 (by decide) (fun c2 => ?_) (fun c2 => ?_)
    · have hf := fd_ifp c2 hf
      exact wM_writeNumber_18 C hr hlk fu fu S x1 x2 _ _ _ hf hH (lv_sub hl [0, 1, 2] rfl)
    · have hf := fd_ifn c2 hf
      refine lv_iload_n hx hb dX7_writeNumber_10 rfl (lv_at hl 2 rfl) ?_
      refine lv_bipush (v := (10 : Int32)) hx hb dX7_writeNumber_11 (by decide) ?_
      refine lv_imul hx hb dX7_writeNumber_13 ?_
      refine lv_topi (fun y8 ey8 => ?_)
      have hf := fd_ltN ey8 hf
      refine lv_istore_n (lv' := [(2, .int y8), (0, .ref (E.2.2 73)), (1, .int x1)]) hx hb dX7_writeNumber_14 rfl hl (by decide) rfl (fun ls hl => ?_)
      refine lv_goto (tgt := 2) hx hb dX7_writeNumber_15 (by decide) ?_
      exact ih S x1 y8 _ _ _ hf hH (lv_sub hl [1, 2, 0] rfl)
set_option maxHeartbeats 4000000 in
set_option maxRecDepth 100000 in
theorem cM_writeNumber (l : Launch) (E : fd_E) (fu : Nat) (S : fd_S) (x1 : Int32) {S0 : fd_S} (hf : zM_writeNumber fu S x1 = some S0) : fd_Ct l yX7_writeNumber cX7_writeNumber 3 none (fd_rm 2 43) E S [.ref (E.2.2 73), .int x1] none S0 := by
  unfold zM_writeNumber at hf
  refine fd_Ct_of (by decide +kernel) (Nat.le_of_ble_eq_true rfl) ?_
  intro p e s m below meth c ls C hr hlk hH hl
  have hx := C.1
  have hb := C.2.1
  have hl : lv_has ls 3 [(0, .ref (E.2.2 73)), (1, .int x1)] := hl
  refine lv_iconst (v := (1 : Int32)) hx hb dX7_writeNumber_0 (by decide) ?_
  refine lv_istore_n (lv' := [(2, .int (1 : Int32)), (0, .ref (E.2.2 73)), (1, .int x1)]) hx hb dX7_writeNumber_1 rfl hl (by decide) rfl (fun ls hl => ?_)
  exact wM_writeNumber_2 C hr hlk fu fu S x1 (1 : Int32) _ _ _ hf hH (lv_sub hl [1, 2, 0] rfl)
theorem dX7_beginLine_0 : decode cX7_beginLine 0 = .ok (.sipush 143, 3) := by decide +kernel
theorem dX7_beginLine_3 : decode cX7_beginLine 3 = .ok (.istore_n 3, 1) := by decide +kernel
theorem dX7_beginLine_4 : decode cX7_beginLine 4 = .ok (.iload_n 3, 1) := by decide +kernel
theorem dX7_beginLine_5 : decode cX7_beginLine 5 = .ok (.bipush 24, 2) := by decide +kernel
theorem dX7_beginLine_7 : decode cX7_beginLine 7 = .ok (.if_icmp .lt 32, 3) := by decide +kernel
theorem dX7_beginLine_10 : decode cX7_beginLine 10 = .ok (.aload_n 0, 1) := by decide +kernel
theorem dX7_beginLine_11 : decode cX7_beginLine 11 = .ok (.getfield 30, 3) := by decide +kernel
theorem dX7_beginLine_14 : decode cX7_beginLine 14 = .ok (.sipush 131, 3) := by decide +kernel
theorem dX7_beginLine_17 : decode cX7_beginLine 17 = .ok (.iload_n 3, 1) := by decide +kernel
theorem dX7_beginLine_18 : decode cX7_beginLine 18 = .ok (.iadd, 1) := by decide +kernel
theorem dX7_beginLine_19 : decode cX7_beginLine 19 = .ok (.aload_n 0, 1) := by decide +kernel
theorem dX7_beginLine_20 : decode cX7_beginLine 20 = .ok (.getfield 30, 3) := by decide +kernel
theorem dX7_beginLine_23 : decode cX7_beginLine 23 = .ok (.sipush 131, 3) := by decide +kernel
theorem dX7_beginLine_26 : decode cX7_beginLine 26 = .ok (.iload_n 3, 1) := by decide +kernel
theorem dX7_beginLine_27 : decode cX7_beginLine 27 = .ok (.iadd, 1) := by decide +kernel
theorem dX7_beginLine_28 : decode cX7_beginLine 28 = .ok (.bipush 24, 2) := by decide +kernel
theorem dX7_beginLine_30 : decode cX7_beginLine 30 = .ok (.isub, 1) := by decide +kernel
theorem dX7_beginLine_31 : decode cX7_beginLine 31 = .ok (.iaload, 1) := by decide +kernel
theorem dX7_beginLine_32 : decode cX7_beginLine 32 = .ok (.iastore, 1) := by decide +kernel
theorem dX7_beginLine_33 : decode cX7_beginLine 33 = .ok (.iinc 3 (-1), 3) := by decide +kernel
theorem dX7_beginLine_36 : decode cX7_beginLine 36 = .ok (.goto (-32), 3) := by decide +kernel
theorem dX7_beginLine_39 : decode cX7_beginLine 39 = .ok (.aload_n 0, 1) := by decide +kernel
theorem dX7_beginLine_40 : decode cX7_beginLine 40 = .ok (.getfield 30, 3) := by decide +kernel
theorem dX7_beginLine_43 : decode cX7_beginLine 43 = .ok (.sipush 131, 3) := by decide +kernel
theorem dX7_beginLine_46 : decode cX7_beginLine 46 = .ok (.iconst 0, 1) := by decide +kernel
theorem dX7_beginLine_47 : decode cX7_beginLine 47 = .ok (.iastore, 1) := by decide +kernel
theorem dX7_beginLine_48 : decode cX7_beginLine 48 = .ok (.aload_n 0, 1) := by decide +kernel
theorem dX7_beginLine_49 : decode cX7_beginLine 49 = .ok (.getfield 30, 3) := by decide +kernel
theorem dX7_beginLine_52 : decode cX7_beginLine 52 = .ok (.bipush 70, 2) := by decide +kernel
theorem dX7_beginLine_54 : decode cX7_beginLine 54 = .ok (.dup2, 1) := by decide +kernel
theorem dX7_beginLine_55 : decode cX7_beginLine 55 = .ok (.iaload, 1) := by decide +kernel
theorem dX7_beginLine_56 : decode cX7_beginLine 56 = .ok (.iconst 1, 1) := by decide +kernel
theorem dX7_beginLine_57 : decode cX7_beginLine 57 = .ok (.iadd, 1) := by decide +kernel
theorem dX7_beginLine_58 : decode cX7_beginLine 58 = .ok (.iastore, 1) := by decide +kernel
theorem dX7_beginLine_59 : decode cX7_beginLine 59 = .ok (.aload_n 0, 1) := by decide +kernel
theorem dX7_beginLine_60 : decode cX7_beginLine 60 = .ok (.iload_n 1, 1) := by decide +kernel
theorem dX7_beginLine_61 : decode cX7_beginLine 61 = .ok (.invokevirtual 95, 3) := by decide +kernel
theorem dX7_beginLine_64 : decode cX7_beginLine 64 = .ok (.aload_n 0, 1) := by decide +kernel
theorem dX7_beginLine_65 : decode cX7_beginLine 65 = .ok (.bipush 48, 2) := by decide +kernel
theorem dX7_beginLine_67 : decode cX7_beginLine 67 = .ok (.iload_n 2, 1) := by decide +kernel
theorem dX7_beginLine_68 : decode cX7_beginLine 68 = .ok (.bipush 8, 2) := by decide +kernel
theorem dX7_beginLine_70 : decode cX7_beginLine 70 = .ok (.idiv, 1) := by decide +kernel
theorem dX7_beginLine_71 : decode cX7_beginLine 71 = .ok (.iadd, 1) := by decide +kernel
theorem dX7_beginLine_72 : decode cX7_beginLine 72 = .ok (.invokevirtual 95, 3) := by decide +kernel
theorem dX7_beginLine_75 : decode cX7_beginLine 75 = .ok (.aload_n 0, 1) := by decide +kernel
theorem dX7_beginLine_76 : decode cX7_beginLine 76 = .ok (.bipush 48, 2) := by decide +kernel
theorem dX7_beginLine_78 : decode cX7_beginLine 78 = .ok (.iload_n 2, 1) := by decide +kernel
theorem dX7_beginLine_79 : decode cX7_beginLine 79 = .ok (.bipush 8, 2) := by decide +kernel
theorem dX7_beginLine_81 : decode cX7_beginLine 81 = .ok (.irem, 1) := by decide +kernel
theorem dX7_beginLine_82 : decode cX7_beginLine 82 = .ok (.iadd, 1) := by decide +kernel
theorem dX7_beginLine_83 : decode cX7_beginLine 83 = .ok (.invokevirtual 95, 3) := by decide +kernel
theorem dX7_beginLine_86 : decode cX7_beginLine 86 = .ok (.return_, 1) := by decide +kernel
set_option maxHeartbeats 4000000 in
set_option maxRecDepth 100000 in
theorem wM_beginLine_4 {p : Program} {l : Launch} {e : Env} {s : State} {m : MethodId} {args : Array Value} {below : List Frame} {meth : Method} {c : Code} {E : fd_E} (C : fd_C p s m args c yX7_beginLine.cls cX7_beginLine 4 E) (hr : meth.sig.returnType = none) (hlk : meth.locks = false) (fu : Nat) {S0 : fd_S} : ∀ (n : Nat) (S : fd_S) (x1 : Int32) (x2 : Int32) (x3 : Int32) (H : Heap) (locs : List Loc) (ls : Array Slot), zM_beginLine_4 fu n S x1 x2 x3 = some S0 → fd_H E S s H locs → lv_has ls 4 [(0, .ref (E.2.2 73)), (1, .int x1), (2, .int x2), (3, .int x3)] → W p l e (fd_rm 2 43) s m args below meth c H locs 0 0 (MQ below (fd_Q E none S0) args s 0 0 (fd_A E)) (F0 m 4 ls []) := by
  have hx := C.1
  have hb := C.2.1
  intro n
  induction n with
  | zero =>
    intro S x1 x2 x3 H locs ls hf
    rw [zM_beginLine_4] at hf
    cases hf
  | succ n ih =>
    intro S x1 x2 x3 H locs ls hf hH hl
    rw [zM_beginLine_4] at hf
    refine lv_iload_n hx hb dX7_beginLine_4 rfl (lv_at hl 3 rfl) ?_
    refine lv_bipush (v := (24 : Int32)) hx hb dX7_beginLine_5 (by decide) ?_
    refine lv_icmp_lt (tgt := 39) hx hb dX7_beginLine_7 (by decide) (fun c1 => ?_) (fun c1 => ?_)
    · have hf := fd_ifp c1 hf
      refine lv_aload_n hx hb dX7_beginLine_39 rfl (lv_at hl 0 rfl) ?_
      refine fd_get 73 7 4 C hH (by decide) rfl (by decide) (by decide) wf_X7_30 (v := .ref (E.2.2 78)) rfl dX7_beginLine_40 ?_
      refine lv_sipush (v := (131 : Int32)) hx hb dX7_beginLine_43 (by decide) ?_
      refine lv_iconst (v := (0 : Int32)) hx hb dX7_beginLine_46 (by decide) ?_
      refine fd_iast 78 (275 : Int32) C hH (by decide) rfl rfl (by decide) dX7_beginLine_47 (fun H locs hH => ?_)
      obtain ⟨S2, eS2, hf⟩ := fd_ltS hf
      rw [← eS2] at hH
      refine lv_aload_n hx hb dX7_beginLine_48 rfl (lv_at hl 0 rfl) ?_
      refine fd_get 73 7 4 C hH (by decide) rfl (by decide) (by decide) wf_X7_30 (v := .ref (E.2.2 78)) rfl dX7_beginLine_49 ?_
      refine lv_bipush (v := (70 : Int32)) hx hb dX7_beginLine_52 (by decide) ?_
      refine lv_dup2_11 hx hb dX7_beginLine_54 rfl rfl ?_
      refine fd_iald 78 (275 : Int32) C hH (by decide) rfl rfl (by decide) dX7_beginLine_55 ?_
      refine lv_iconst (v := (1 : Int32)) hx hb dX7_beginLine_56 (by decide) ?_
      refine lv_iadd hx hb dX7_beginLine_57 ?_
      refine fd_iast 78 (275 : Int32) C hH (by decide) rfl rfl (by decide) dX7_beginLine_58 (fun H locs hH => ?_)
      obtain ⟨S3, eS3, hf⟩ := fd_ltS hf
      rw [← eS3] at hH
      refine lv_aload_n hx hb dX7_beginLine_59 rfl (lv_at hl 0 rfl) ?_
      refine lv_iload_n hx hb dX7_beginLine_60 rfl (lv_at hl 1 rfl) ?_
      obtain ⟨S4, e5, hf⟩ := fd_bnd hf
      refine fd_callV0 73 7 [.int x1] C hl.1 hH (cM_write l E S3 x1 e5) wm_X7_95 (by decide) rfl (by decide) rfl ⟨rfl, rfl, Nat.le_of_ble_eq_true rfl, Nat.le_of_ble_eq_true rfl⟩ rfl rfl (Nat.le_of_ble_eq_true rfl) ⟨Nat.le_refl _, Nat.le_refl _⟩ dX7_beginLine_61 (fun H locs hH => ?_)
      refine lv_aload_n hx hb dX7_beginLine_64 rfl (lv_at hl 0 rfl) ?_
      refine lv_bipush (v := (48 : Int32)) hx hb dX7_beginLine_65 (by decide) ?_
      refine lv_iload_n hx hb dX7_beginLine_67 rfl (lv_at hl 2 rfl) ?_
      refine lv_bipush (v := (8 : Int32)) hx hb dX7_beginLine_68 (by decide) ?_
      refine lv_idiv hx hb dX7_beginLine_70 (by decide) ?_
      refine lv_iadd hx hb dX7_beginLine_71 ?_
      obtain ⟨S6, e7, hf⟩ := fd_bnd hf
      refine fd_callV0 73 7 [.int ((48 : Int32) + (x2 / (8 : Int32)))] C hl.1 hH (cM_write l E S4 ((48 : Int32) + (x2 / (8 : Int32))) e7) wm_X7_95 (by decide) rfl (by decide) rfl ⟨rfl, rfl, Nat.le_of_ble_eq_true rfl, Nat.le_of_ble_eq_true rfl⟩ rfl rfl (Nat.le_of_ble_eq_true rfl) ⟨Nat.le_refl _, Nat.le_refl _⟩ dX7_beginLine_72 (fun H locs hH => ?_)
      refine lv_aload_n hx hb dX7_beginLine_75 rfl (lv_at hl 0 rfl) ?_
      refine lv_bipush (v := (48 : Int32)) hx hb dX7_beginLine_76 (by decide) ?_
      refine lv_iload_n hx hb dX7_beginLine_78 rfl (lv_at hl 2 rfl) ?_
      refine lv_bipush (v := (8 : Int32)) hx hb dX7_beginLine_79 (by decide) ?_
      refine fd_irem hx hb dX7_beginLine_81 (by decide) ?_
      refine lv_iadd hx hb dX7_beginLine_82 ?_
      obtain ⟨S8, e9, hf⟩ := fd_bnd hf
      refine fd_callV0 73 7 [.int ((48 : Int32) + (fd_rem x2 (8 : Int32)))] C hl.1 hH (cM_write l E S6 ((48 : Int32) + (fd_rem x2 (8 : Int32))) e9) wm_X7_95 (by decide) rfl (by decide) rfl ⟨rfl, rfl, Nat.le_of_ble_eq_true rfl, Nat.le_of_ble_eq_true rfl⟩ rfl rfl (Nat.le_of_ble_eq_true rfl) ⟨Nat.le_refl _, Nat.le_refl _⟩ dX7_beginLine_83 (fun H locs hH => ?_)
      cases hf
      exact fd_vret C hr hlk hH dX7_beginLine_86
    · have hf := fd_ifn c1 hf
      refine lv_aload_n hx hb dX7_beginLine_10 rfl (lv_at hl 0 rfl) ?_
      refine fd_get 73 7 4 C hH (by decide) rfl (by decide) (by decide) wf_X7_30 (v := .ref (E.2.2 78)) rfl dX7_beginLine_11 ?_
      refine lv_sipush (v := (131 : Int32)) hx hb dX7_beginLine_14 (by decide) ?_
      refine lv_iload_n hx hb dX7_beginLine_17 rfl (lv_at hl 3 rfl) ?_
      refine lv_iadd hx hb dX7_beginLine_18 ?_
      refine lv_aload_n hx hb dX7_beginLine_19 rfl (lv_at hl 0 rfl) ?_
      refine fd_get 73 7 4 C hH (by decide) rfl (by decide) (by decide) wf_X7_30 (v := .ref (E.2.2 78)) rfl dX7_beginLine_20 ?_
      refine lv_sipush (v := (131 : Int32)) hx hb dX7_beginLine_23 (by decide) ?_
      refine lv_iload_n hx hb dX7_beginLine_26 rfl (lv_at hl 3 rfl) ?_
      refine lv_iadd hx hb dX7_beginLine_27 ?_
      refine lv_bipush (v := (24 : Int32)) hx hb dX7_beginLine_28 (by decide) ?_
      refine lv_isub hx hb dX7_beginLine_30 ?_
      obtain ⟨g10, hf⟩ := fd_grd hf
      refine fd_iald 78 (275 : Int32) C hH (by decide) rfl rfl g10 dX7_beginLine_31 ?_
      obtain ⟨g11, hf⟩ := fd_grd hf
      refine fd_iast 78 (275 : Int32) C hH (by decide) rfl rfl g11 dX7_beginLine_32 (fun H locs hH => ?_)
      obtain ⟨S12, eS12, hf⟩ := fd_ltS hf
      rw [← eS12] at hH
      obtain ⟨y13, ey13, hf⟩ := fd_ltS hf
      refine lv_iinc (v := y13) (lv' := [(3, .int y13), (0, .ref (E.2.2 73)), (1, .int x1), (2, .int x2)]) hx hb dX7_beginLine_33 hl (k := 3) rfl (by rw [ey13]; rfl) (by decide) rfl (fun ls hl => ?_)
      refine lv_goto (tgt := 4) hx hb dX7_beginLine_36 (by decide) ?_
      exact ih S12 x1 x2 y13 _ _ _ hf hH (lv_sub hl [1, 2, 3, 0] rfl)
set_option maxHeartbeats 4000000 in
set_option maxRecDepth 100000 in
theorem cM_beginLine (l : Launch) (E : fd_E) (fu : Nat) (S : fd_S) (x1 : Int32) (x2 : Int32) {S0 : fd_S} (hf : zM_beginLine fu S x1 x2 = some S0) : fd_Ct l yX7_beginLine cX7_beginLine 4 none (fd_rm 2 43) E S [.ref (E.2.2 73), .int x1, .int x2] none S0 := by
  unfold zM_beginLine at hf
  refine fd_Ct_of (by decide +kernel) (Nat.le_of_ble_eq_true rfl) ?_
  intro p e s m below meth c ls C hr hlk hH hl
  have hx := C.1
  have hb := C.2.1
  have hl : lv_has ls 4 [(0, .ref (E.2.2 73)), (1, .int x1), (2, .int x2)] := hl
  refine lv_sipush (v := (143 : Int32)) hx hb dX7_beginLine_0 (by decide) ?_
  refine lv_istore_n (lv' := [(3, .int (143 : Int32)), (0, .ref (E.2.2 73)), (1, .int x1), (2, .int x2)]) hx hb dX7_beginLine_3 rfl hl (by decide) rfl (fun ls hl => ?_)
  exact wM_beginLine_4 C hr hlk fu fu S x1 x2 (143 : Int32) _ _ _ hf hH (lv_sub hl [1, 2, 3, 0] rfl)
theorem dX7_lookAtBest_0 : decode cX7_lookAtBest 0 = .ok (.iconst 0, 1) := by decide +kernel
theorem dX7_lookAtBest_1 : decode cX7_lookAtBest 1 = .ok (.istore_n 1, 1) := by decide +kernel
theorem dX7_lookAtBest_2 : decode cX7_lookAtBest 2 = .ok (.iload_n 1, 1) := by decide +kernel
theorem dX7_lookAtBest_3 : decode cX7_lookAtBest 3 = .ok (.bipush 8, 2) := by decide +kernel
theorem dX7_lookAtBest_5 : decode cX7_lookAtBest 5 = .ok (.if_icmp .ge 208, 3) := by decide +kernel
theorem dX7_lookAtBest_8 : decode cX7_lookAtBest 8 = .ok (.bipush (-6), 2) := by decide +kernel
theorem dX7_lookAtBest_10 : decode cX7_lookAtBest 10 = .ok (.istore_n 2, 1) := by decide +kernel
theorem dX7_lookAtBest_11 : decode cX7_lookAtBest 11 = .ok (.iconst 0, 1) := by decide +kernel
theorem dX7_lookAtBest_12 : decode cX7_lookAtBest 12 = .ok (.istore_n 3, 1) := by decide +kernel
theorem dX7_lookAtBest_13 : decode cX7_lookAtBest 13 = .ok (.iload_n 3, 1) := by decide +kernel
theorem dX7_lookAtBest_14 : decode cX7_lookAtBest 14 = .ok (.iconst 4, 1) := by decide +kernel
theorem dX7_lookAtBest_15 : decode cX7_lookAtBest 15 = .ok (.if_icmp .ge 94, 3) := by decide +kernel
theorem dX7_lookAtBest_18 : decode cX7_lookAtBest 18 = .ok (.bipush 8, 2) := by decide +kernel
theorem dX7_lookAtBest_20 : decode cX7_lookAtBest 20 = .ok (.iload_n 3, 1) := by decide +kernel
theorem dX7_lookAtBest_21 : decode cX7_lookAtBest 21 = .ok (.imul, 1) := by decide +kernel
theorem dX7_lookAtBest_22 : decode cX7_lookAtBest 22 = .ok (.iload_n 1, 1) := by decide +kernel
theorem dX7_lookAtBest_23 : decode cX7_lookAtBest 23 = .ok (.iadd, 1) := by decide +kernel
theorem dX7_lookAtBest_24 : decode cX7_lookAtBest 24 = .ok (.istore 4, 2) := by decide +kernel
theorem dX7_lookAtBest_26 : decode cX7_lookAtBest 26 = .ok (.aload_n 0, 1) := by decide +kernel
theorem dX7_lookAtBest_27 : decode cX7_lookAtBest 27 = .ok (.iload 4, 2) := by decide +kernel
theorem dX7_lookAtBest_29 : decode cX7_lookAtBest 29 = .ok (.invokevirtual 82, 3) := by decide +kernel
theorem dX7_lookAtBest_32 : decode cX7_lookAtBest 32 = .ok (.istore 5, 2) := by decide +kernel
theorem dX7_lookAtBest_34 : decode cX7_lookAtBest 34 = .ok (.aload_n 0, 1) := by decide +kernel
theorem dX7_lookAtBest_35 : decode cX7_lookAtBest 35 = .ok (.getfield 30, 3) := by decide +kernel
theorem dX7_lookAtBest_38 : decode cX7_lookAtBest 38 = .ok (.iconst 0, 1) := by decide +kernel
theorem dX7_lookAtBest_39 : decode cX7_lookAtBest 39 = .ok (.iload 4, 2) := by decide +kernel
theorem dX7_lookAtBest_41 : decode cX7_lookAtBest 41 = .ok (.iadd, 1) := by decide +kernel
theorem dX7_lookAtBest_42 : decode cX7_lookAtBest 42 = .ok (.iaload, 1) := by decide +kernel
theorem dX7_lookAtBest_43 : decode cX7_lookAtBest 43 = .ok (.ifCond .lt 21, 3) := by decide +kernel
theorem dX7_lookAtBest_46 : decode cX7_lookAtBest 46 = .ok (.iload 5, 2) := by decide +kernel
theorem dX7_lookAtBest_48 : decode cX7_lookAtBest 48 = .ok (.ifCond .lt 12, 3) := by decide +kernel
theorem dX7_lookAtBest_51 : decode cX7_lookAtBest 51 = .ok (.aload_n 0, 1) := by decide +kernel
theorem dX7_lookAtBest_52 : decode cX7_lookAtBest 52 = .ok (.iload 5, 2) := by decide +kernel
theorem dX7_lookAtBest_54 : decode cX7_lookAtBest 54 = .ok (.invokevirtual 85, 3) := by decide +kernel
theorem dX7_lookAtBest_57 : decode cX7_lookAtBest 57 = .ok (.ifCond .ne 7, 3) := by decide +kernel
theorem dX7_lookAtBest_60 : decode cX7_lookAtBest 60 = .ok (.iconst 1, 1) := by decide +kernel
theorem dX7_lookAtBest_61 : decode cX7_lookAtBest 61 = .ok (.goto 4, 3) := by decide +kernel
theorem dX7_lookAtBest_64 : decode cX7_lookAtBest 64 = .ok (.iconst 0, 1) := by decide +kernel
theorem dX7_lookAtBest_65 : decode cX7_lookAtBest 65 = .ok (.istore 6, 2) := by decide +kernel
theorem dX7_lookAtBest_67 : decode cX7_lookAtBest 67 = .ok (.iload 6, 2) := by decide +kernel
theorem dX7_lookAtBest_69 : decode cX7_lookAtBest 69 = .ok (.ifCond .eq 34, 3) := by decide +kernel
theorem dX7_lookAtBest_72 : decode cX7_lookAtBest 72 = .ok (.iload_n 2, 1) := by decide +kernel
theorem dX7_lookAtBest_73 : decode cX7_lookAtBest 73 = .ok (.ifCond .lt 28, 3) := by decide +kernel
theorem dX7_lookAtBest_76 : decode cX7_lookAtBest 76 = .ok (.aload_n 0, 1) := by decide +kernel
theorem dX7_lookAtBest_77 : decode cX7_lookAtBest 77 = .ok (.getfield 30, 3) := by decide +kernel
theorem dX7_lookAtBest_80 : decode cX7_lookAtBest 80 = .ok (.iconst 0, 1) := by decide +kernel
theorem dX7_lookAtBest_81 : decode cX7_lookAtBest 81 = .ok (.iload 4, 2) := by decide +kernel
theorem dX7_lookAtBest_83 : decode cX7_lookAtBest 83 = .ok (.iadd, 1) := by decide +kernel
theorem dX7_lookAtBest_84 : decode cX7_lookAtBest 84 = .ok (.iaload, 1) := by decide +kernel
theorem dX7_lookAtBest_85 : decode cX7_lookAtBest 85 = .ok (.aload_n 0, 1) := by decide +kernel
theorem dX7_lookAtBest_86 : decode cX7_lookAtBest 86 = .ok (.getfield 30, 3) := by decide +kernel
theorem dX7_lookAtBest_89 : decode cX7_lookAtBest 89 = .ok (.iconst 0, 1) := by decide +kernel
theorem dX7_lookAtBest_90 : decode cX7_lookAtBest 90 = .ok (.bipush 8, 2) := by decide +kernel
theorem dX7_lookAtBest_92 : decode cX7_lookAtBest 92 = .ok (.iload_n 2, 1) := by decide +kernel
theorem dX7_lookAtBest_93 : decode cX7_lookAtBest 93 = .ok (.imul, 1) := by decide +kernel
theorem dX7_lookAtBest_94 : decode cX7_lookAtBest 94 = .ok (.iadd, 1) := by decide +kernel
theorem dX7_lookAtBest_95 : decode cX7_lookAtBest 95 = .ok (.iload_n 1, 1) := by decide +kernel
theorem dX7_lookAtBest_96 : decode cX7_lookAtBest 96 = .ok (.iadd, 1) := by decide +kernel
theorem dX7_lookAtBest_97 : decode cX7_lookAtBest 97 = .ok (.iaload, 1) := by decide +kernel
theorem dX7_lookAtBest_98 : decode cX7_lookAtBest 98 = .ok (.if_icmp .ge 5, 3) := by decide +kernel
theorem dX7_lookAtBest_101 : decode cX7_lookAtBest 101 = .ok (.iload_n 3, 1) := by decide +kernel
theorem dX7_lookAtBest_102 : decode cX7_lookAtBest 102 = .ok (.istore_n 2, 1) := by decide +kernel
theorem dX7_lookAtBest_103 : decode cX7_lookAtBest 103 = .ok (.iinc 3 1, 3) := by decide +kernel
theorem dX7_lookAtBest_106 : decode cX7_lookAtBest 106 = .ok (.goto (-93), 3) := by decide +kernel
theorem dX7_lookAtBest_109 : decode cX7_lookAtBest 109 = .ok (.iload_n 2, 1) := by decide +kernel
theorem dX7_lookAtBest_110 : decode cX7_lookAtBest 110 = .ok (.ifCond .ge 8, 3) := by decide +kernel
theorem dX7_lookAtBest_113 : decode cX7_lookAtBest 113 = .ok (.bipush (-6), 2) := by decide +kernel
theorem dX7_lookAtBest_115 : decode cX7_lookAtBest 115 = .ok (.goto 16, 3) := by decide +kernel
theorem dX7_lookAtBest_118 : decode cX7_lookAtBest 118 = .ok (.aload_n 0, 1) := by decide +kernel
theorem dX7_lookAtBest_119 : decode cX7_lookAtBest 119 = .ok (.getfield 30, 3) := by decide +kernel
theorem dX7_lookAtBest_122 : decode cX7_lookAtBest 122 = .ok (.iconst 0, 1) := by decide +kernel
theorem dX7_lookAtBest_123 : decode cX7_lookAtBest 123 = .ok (.bipush 8, 2) := by decide +kernel
theorem dX7_lookAtBest_125 : decode cX7_lookAtBest 125 = .ok (.iload_n 2, 1) := by decide +kernel
theorem dX7_lookAtBest_126 : decode cX7_lookAtBest 126 = .ok (.imul, 1) := by decide +kernel
theorem dX7_lookAtBest_127 : decode cX7_lookAtBest 127 = .ok (.iadd, 1) := by decide +kernel
theorem dX7_lookAtBest_128 : decode cX7_lookAtBest 128 = .ok (.iload_n 1, 1) := by decide +kernel
theorem dX7_lookAtBest_129 : decode cX7_lookAtBest 129 = .ok (.iadd, 1) := by decide +kernel
theorem dX7_lookAtBest_130 : decode cX7_lookAtBest 130 = .ok (.iaload, 1) := by decide +kernel
theorem dX7_lookAtBest_131 : decode cX7_lookAtBest 131 = .ok (.istore_n 3, 1) := by decide +kernel
theorem dX7_lookAtBest_132 : decode cX7_lookAtBest 132 = .ok (.iload_n 2, 1) := by decide +kernel
theorem dX7_lookAtBest_133 : decode cX7_lookAtBest 133 = .ok (.aload_n 0, 1) := by decide +kernel
theorem dX7_lookAtBest_134 : decode cX7_lookAtBest 134 = .ok (.getfield 30, 3) := by decide +kernel
theorem dX7_lookAtBest_137 : decode cX7_lookAtBest 137 = .ok (.bipush 39, 2) := by decide +kernel
theorem dX7_lookAtBest_139 : decode cX7_lookAtBest 139 = .ok (.iconst 3, 1) := by decide +kernel
theorem dX7_lookAtBest_140 : decode cX7_lookAtBest 140 = .ok (.iload_n 1, 1) := by decide +kernel
theorem dX7_lookAtBest_141 : decode cX7_lookAtBest 141 = .ok (.imul, 1) := by decide +kernel
theorem dX7_lookAtBest_142 : decode cX7_lookAtBest 142 = .ok (.iadd, 1) := by decide +kernel
theorem dX7_lookAtBest_143 : decode cX7_lookAtBest 143 = .ok (.iaload, 1) := by decide +kernel
theorem dX7_lookAtBest_144 : decode cX7_lookAtBest 144 = .ok (.if_icmp .ne 20, 3) := by decide +kernel
theorem dX7_lookAtBest_147 : decode cX7_lookAtBest 147 = .ok (.iload_n 3, 1) := by decide +kernel
theorem dX7_lookAtBest_148 : decode cX7_lookAtBest 148 = .ok (.aload_n 0, 1) := by decide +kernel
theorem dX7_lookAtBest_149 : decode cX7_lookAtBest 149 = .ok (.getfield 30, 3) := by decide +kernel
theorem dX7_lookAtBest_152 : decode cX7_lookAtBest 152 = .ok (.bipush 39, 2) := by decide +kernel
theorem dX7_lookAtBest_154 : decode cX7_lookAtBest 154 = .ok (.iconst 3, 1) := by decide +kernel
theorem dX7_lookAtBest_155 : decode cX7_lookAtBest 155 = .ok (.iload_n 1, 1) := by decide +kernel
theorem dX7_lookAtBest_156 : decode cX7_lookAtBest 156 = .ok (.imul, 1) := by decide +kernel
theorem dX7_lookAtBest_157 : decode cX7_lookAtBest 157 = .ok (.iadd, 1) := by decide +kernel
theorem dX7_lookAtBest_158 : decode cX7_lookAtBest 158 = .ok (.iconst 1, 1) := by decide +kernel
theorem dX7_lookAtBest_159 : decode cX7_lookAtBest 159 = .ok (.iadd, 1) := by decide +kernel
theorem dX7_lookAtBest_160 : decode cX7_lookAtBest 160 = .ok (.iaload, 1) := by decide +kernel
theorem dX7_lookAtBest_161 : decode cX7_lookAtBest 161 = .ok (.if_icmp .eq 46, 3) := by decide +kernel
theorem dX7_lookAtBest_164 : decode cX7_lookAtBest 164 = .ok (.aload_n 0, 1) := by decide +kernel
theorem dX7_lookAtBest_165 : decode cX7_lookAtBest 165 = .ok (.getfield 30, 3) := by decide +kernel
theorem dX7_lookAtBest_168 : decode cX7_lookAtBest 168 = .ok (.bipush 39, 2) := by decide +kernel
theorem dX7_lookAtBest_170 : decode cX7_lookAtBest 170 = .ok (.iconst 3, 1) := by decide +kernel
theorem dX7_lookAtBest_171 : decode cX7_lookAtBest 171 = .ok (.iload_n 1, 1) := by decide +kernel
theorem dX7_lookAtBest_172 : decode cX7_lookAtBest 172 = .ok (.imul, 1) := by decide +kernel
theorem dX7_lookAtBest_173 : decode cX7_lookAtBest 173 = .ok (.iadd, 1) := by decide +kernel
theorem dX7_lookAtBest_174 : decode cX7_lookAtBest 174 = .ok (.iload_n 2, 1) := by decide +kernel
theorem dX7_lookAtBest_175 : decode cX7_lookAtBest 175 = .ok (.iastore, 1) := by decide +kernel
theorem dX7_lookAtBest_176 : decode cX7_lookAtBest 176 = .ok (.aload_n 0, 1) := by decide +kernel
theorem dX7_lookAtBest_177 : decode cX7_lookAtBest 177 = .ok (.getfield 30, 3) := by decide +kernel
theorem dX7_lookAtBest_180 : decode cX7_lookAtBest 180 = .ok (.bipush 39, 2) := by decide +kernel
theorem dX7_lookAtBest_182 : decode cX7_lookAtBest 182 = .ok (.iconst 3, 1) := by decide +kernel
theorem dX7_lookAtBest_183 : decode cX7_lookAtBest 183 = .ok (.iload_n 1, 1) := by decide +kernel
theorem dX7_lookAtBest_184 : decode cX7_lookAtBest 184 = .ok (.imul, 1) := by decide +kernel
theorem dX7_lookAtBest_185 : decode cX7_lookAtBest 185 = .ok (.iadd, 1) := by decide +kernel
theorem dX7_lookAtBest_186 : decode cX7_lookAtBest 186 = .ok (.iconst 1, 1) := by decide +kernel
theorem dX7_lookAtBest_187 : decode cX7_lookAtBest 187 = .ok (.iadd, 1) := by decide +kernel
theorem dX7_lookAtBest_188 : decode cX7_lookAtBest 188 = .ok (.iload_n 3, 1) := by decide +kernel
theorem dX7_lookAtBest_189 : decode cX7_lookAtBest 189 = .ok (.iastore, 1) := by decide +kernel
theorem dX7_lookAtBest_190 : decode cX7_lookAtBest 190 = .ok (.aload_n 0, 1) := by decide +kernel
theorem dX7_lookAtBest_191 : decode cX7_lookAtBest 191 = .ok (.getfield 30, 3) := by decide +kernel
theorem dX7_lookAtBest_194 : decode cX7_lookAtBest 194 = .ok (.bipush 39, 2) := by decide +kernel
theorem dX7_lookAtBest_196 : decode cX7_lookAtBest 196 = .ok (.iconst 3, 1) := by decide +kernel
theorem dX7_lookAtBest_197 : decode cX7_lookAtBest 197 = .ok (.iload_n 1, 1) := by decide +kernel
theorem dX7_lookAtBest_198 : decode cX7_lookAtBest 198 = .ok (.imul, 1) := by decide +kernel
theorem dX7_lookAtBest_199 : decode cX7_lookAtBest 199 = .ok (.iadd, 1) := by decide +kernel
theorem dX7_lookAtBest_200 : decode cX7_lookAtBest 200 = .ok (.iconst 2, 1) := by decide +kernel
theorem dX7_lookAtBest_201 : decode cX7_lookAtBest 201 = .ok (.iadd, 1) := by decide +kernel
theorem dX7_lookAtBest_202 : decode cX7_lookAtBest 202 = .ok (.dup2, 1) := by decide +kernel
theorem dX7_lookAtBest_203 : decode cX7_lookAtBest 203 = .ok (.iaload, 1) := by decide +kernel
theorem dX7_lookAtBest_204 : decode cX7_lookAtBest 204 = .ok (.iconst 1, 1) := by decide +kernel
theorem dX7_lookAtBest_205 : decode cX7_lookAtBest 205 = .ok (.iadd, 1) := by decide +kernel
theorem dX7_lookAtBest_206 : decode cX7_lookAtBest 206 = .ok (.iastore, 1) := by decide +kernel
theorem dX7_lookAtBest_207 : decode cX7_lookAtBest 207 = .ok (.iinc 1 1, 3) := by decide +kernel
theorem dX7_lookAtBest_210 : decode cX7_lookAtBest 210 = .ok (.goto (-208), 3) := by decide +kernel
theorem dX7_lookAtBest_213 : decode cX7_lookAtBest 213 = .ok (.return_, 1) := by decide +kernel
set_option maxHeartbeats 4000000 in
set_option maxRecDepth 100000 in
theorem wM_lookAtBest_13 {p : Program} {l : Launch} {e : Env} {s : State} {m : MethodId} {args : Array Value} {below : List Frame} {meth : Method} {c : Code} {E : fd_E} {Q : State → Prop} (C : fd_C p s m args c yX7_lookAtBest.cls cX7_lookAtBest 7 E) (fu : Nat) {o2 : Int32} : ∀ (n : Nat) (S : fd_S) (x1 : Int32) (x2 : Int32) (x3 : Int32) (H : Heap) (locs : List Loc) (ls : Array Slot), zM_lookAtBest_13 fu n S x1 x2 x3 = some o2 → fd_H E S s H locs → lv_has ls 7 [(0, .ref (E.2.2 73)), (1, .int x1), (2, .int x2), (3, .int x3)] → (∀ (H : Heap) (locs : List Loc) (ls : Array Slot), fd_H E S s H locs → lv_has ls 7 [(0, .ref (E.2.2 73)), (1, .int x1), (2, .int o2)] → W p l e (fd_rm 2 44) s m args below meth c H locs 0 0 Q (F0 m 109 ls [])) → W p l e (fd_rm 2 44) s m args below meth c H locs 0 0 Q (F0 m 13 ls []) := by
  have hx := C.1
  have hb := C.2.1
  intro n
  induction n with
  | zero =>
    intro S x1 x2 x3 H locs ls hf
    rw [zM_lookAtBest_13] at hf
    cases hf
  | succ n ih =>
    intro S x1 x2 x3 H locs ls hf hH hl hk
    rw [zM_lookAtBest_13] at hf
    refine lv_iload_n hx hb dX7_lookAtBest_13 rfl (lv_at hl 3 rfl) ?_
    refine lv_iconst (v := (4 : Int32)) hx hb dX7_lookAtBest_14 (by decide) ?_
    refine lv_icmp_ge (tgt := 109) hx hb dX7_lookAtBest_15 (by decide) (fun c2 => ?_) (fun c2 => ?_)
    · have hf := fd_ifp c2 hf
      cases hf
      exact hk _ _ _ hH (lv_sub hl [0, 1, 2] rfl)
    · have hf := fd_ifn c2 hf
      refine lv_bipush (v := (8 : Int32)) hx hb dX7_lookAtBest_18 (by decide) ?_
      refine lv_iload_n hx hb dX7_lookAtBest_20 rfl (lv_at hl 3 rfl) ?_
      refine lv_imul hx hb dX7_lookAtBest_21 ?_
      refine lv_iload_n hx hb dX7_lookAtBest_22 rfl (lv_at hl 1 rfl) ?_
      refine lv_iadd hx hb dX7_lookAtBest_23 ?_
      refine lv_topi (fun y3 ey3 => ?_)
      have hf := fd_ltN ey3 hf
      refine lv_istore (lv' := [(4, .int y3), (0, .ref (E.2.2 73)), (1, .int x1), (2, .int x2), (3, .int x3)]) hx hb dX7_lookAtBest_24 hl (by decide) rfl (fun ls hl => ?_)
      refine lv_aload_n hx hb dX7_lookAtBest_26 rfl (lv_at hl 1 rfl) ?_
      refine lv_iload hx hb dX7_lookAtBest_27 (lv_at hl 0 rfl) ?_
      obtain ⟨r4, e5, hf⟩ := fd_bnd hf
      refine fd_callV1 73 7 [.int y3] C hl.1 hH (cM_recordOf l E fu S y3 e5) wm_X7_82 (by decide) rfl (by decide) rfl ⟨rfl, rfl, Nat.le_of_ble_eq_true rfl, Nat.le_of_ble_eq_true rfl⟩ rfl rfl (Nat.le_of_ble_eq_true rfl) ⟨Nat.le_refl _, Nat.le_refl _⟩ dX7_lookAtBest_29 (fun H locs hH => ?_)
      refine lv_istore (lv' := [(5, .int r4), (4, .int y3), (0, .ref (E.2.2 73)), (1, .int x1), (2, .int x2), (3, .int x3)]) hx hb dX7_lookAtBest_32 hl (by decide) rfl (fun ls hl => ?_)
      refine lv_aload_n hx hb dX7_lookAtBest_34 rfl (lv_at hl 2 rfl) ?_
      refine fd_get 73 7 4 C hH (by decide) rfl (by decide) (by decide) wf_X7_30 (v := .ref (E.2.2 78)) rfl dX7_lookAtBest_35 ?_
      refine lv_iconst (v := (0 : Int32)) hx hb dX7_lookAtBest_38 (by decide) ?_
      refine lv_iload hx hb dX7_lookAtBest_39 (lv_at hl 1 rfl) ?_
      refine lv_iadd hx hb dX7_lookAtBest_41 ?_
      obtain ⟨g6, hf⟩ := fd_grd hf
      refine fd_iald 78 (275 : Int32) C hH (by decide) rfl rfl g6 dX7_lookAtBest_42 ?_
      refine lv_if_lt (tgt := 64) hx hb dX7_lookAtBest_43 (by decide) (fun c7 => ?_) (fun c7 => ?_)
      · have hf := fd_ifp c7 hf
        refine lv_iconst (v := (0 : Int32)) hx hb dX7_lookAtBest_64 (by decide) ?_
        refine lv_istore (lv' := [(6, .int (0 : Int32)), (5, .int r4), (4, .int y3), (0, .ref (E.2.2 73)), (1, .int x1), (2, .int x2), (3, .int x3)]) hx hb dX7_lookAtBest_65 hl (by decide) rfl (fun ls hl => ?_)
        refine lv_iload hx hb dX7_lookAtBest_67 (lv_at hl 0 rfl) ?_
        refine lv_if_eq (tgt := 103) hx hb dX7_lookAtBest_69 (by decide) (fun c8 => ?_) (fun c8 => ?_)
        · have hf := fd_ifp c8 hf
          obtain ⟨y9, ey9, hf⟩ := fd_ltS hf
          refine lv_iinc (v := y9) (lv' := [(3, .int y9), (6, .int (0 : Int32)), (5, .int r4), (4, .int y3), (0, .ref (E.2.2 73)), (1, .int x1), (2, .int x2)]) hx hb dX7_lookAtBest_103 hl (k := 6) rfl (by rw [ey9]; rfl) (by decide) rfl (fun ls hl => ?_)
          refine lv_goto (tgt := 13) hx hb dX7_lookAtBest_106 (by decide) ?_
          exact ih S x1 x2 y9 _ _ _ hf hH (lv_sub hl [4, 5, 6, 0] rfl) hk
        · have hf := fd_ifn c8 hf
          refine lv_iload_n hx hb dX7_lookAtBest_72 rfl (lv_at hl 5 rfl) ?_
          refine lv_if_lt (tgt := 101) hx hb dX7_lookAtBest_73 (by decide) (fun c10 => ?_) (fun c10 => ?_)
          · have hf := fd_ifp c10 hf
            refine lv_iload_n hx hb dX7_lookAtBest_101 rfl (lv_at hl 6 rfl) ?_
            refine lv_istore_n (lv' := [(2, .int x3), (6, .int (0 : Int32)), (5, .int r4), (4, .int y3), (0, .ref (E.2.2 73)), (1, .int x1), (3, .int x3)]) hx hb dX7_lookAtBest_102 rfl hl (by decide) rfl (fun ls hl => ?_)
            obtain ⟨y11, ey11, hf⟩ := fd_ltS hf
            refine lv_iinc (v := y11) (lv' := [(3, .int y11), (2, .int x3), (6, .int (0 : Int32)), (5, .int r4), (4, .int y3), (0, .ref (E.2.2 73)), (1, .int x1)]) hx hb dX7_lookAtBest_103 hl (k := 6) rfl (by rw [ey11]; rfl) (by decide) rfl (fun ls hl => ?_)
            refine lv_goto (tgt := 13) hx hb dX7_lookAtBest_106 (by decide) ?_
            exact ih S x1 x3 y11 _ _ _ hf hH (lv_sub hl [5, 6, 1, 0] rfl) hk
          · have hf := fd_ifn c10 hf
            refine lv_aload_n hx hb dX7_lookAtBest_76 rfl (lv_at hl 3 rfl) ?_
            refine fd_get 73 7 4 C hH (by decide) rfl (by decide) (by decide) wf_X7_30 (v := .ref (E.2.2 78)) rfl dX7_lookAtBest_77 ?_
            refine lv_iconst (v := (0 : Int32)) hx hb dX7_lookAtBest_80 (by decide) ?_
            refine lv_iload hx hb dX7_lookAtBest_81 (lv_at hl 2 rfl) ?_
            refine lv_iadd hx hb dX7_lookAtBest_83 ?_
            obtain ⟨g12, hf⟩ := fd_grd hf
            refine fd_iald 78 (275 : Int32) C hH (by decide) rfl rfl g12 dX7_lookAtBest_84 ?_
            refine lv_aload_n hx hb dX7_lookAtBest_85 rfl (lv_at hl 3 rfl) ?_
            refine fd_get 73 7 4 C hH (by decide) rfl (by decide) (by decide) wf_X7_30 (v := .ref (E.2.2 78)) rfl dX7_lookAtBest_86 ?_
            refine lv_iconst (v := (0 : Int32)) hx hb dX7_lookAtBest_89 (by decide) ?_
            refine lv_bipush (v := (8 : Int32)) hx hb dX7_lookAtBest_90 (by decide) ?_
            refine lv_iload_n hx hb dX7_lookAtBest_92 rfl (lv_at hl 5 rfl) ?_
            refine lv_imul hx hb dX7_lookAtBest_93 ?_
            refine lv_iadd hx hb dX7_lookAtBest_94 ?_
            refine lv_iload_n hx hb dX7_lookAtBest_95 rfl (lv_at hl 4 rfl) ?_
            refine lv_iadd hx hb dX7_lookAtBest_96 ?_
            obtain ⟨g13, hf⟩ := fd_grd hf
            refine fd_iald 78 (275 : Int32) C hH (by decide) rfl rfl g13 dX7_lookAtBest_97 ?_
            refine lv_icmp_ge (tgt := 103) hx hb dX7_lookAtBest_98 (by decide) (fun c14 => ?_) (fun c14 => ?_)
            · have hf := fd_ifp c14 hf
              obtain ⟨y15, ey15, hf⟩ := fd_ltS hf
              refine lv_iinc (v := y15) (lv' := [(3, .int y15), (6, .int (0 : Int32)), (5, .int r4), (4, .int y3), (0, .ref (E.2.2 73)), (1, .int x1), (2, .int x2)]) hx hb dX7_lookAtBest_103 hl (k := 6) rfl (by rw [ey15]; rfl) (by decide) rfl (fun ls hl => ?_)
              refine lv_goto (tgt := 13) hx hb dX7_lookAtBest_106 (by decide) ?_
              exact ih S x1 x2 y15 _ _ _ hf hH (lv_sub hl [4, 5, 6, 0] rfl) hk
            · have hf := fd_ifn c14 hf
              refine lv_iload_n hx hb dX7_lookAtBest_101 rfl (lv_at hl 6 rfl) ?_
              refine lv_istore_n (lv' := [(2, .int x3), (6, .int (0 : Int32)), (5, .int r4), (4, .int y3), (0, .ref (E.2.2 73)), (1, .int x1), (3, .int x3)]) hx hb dX7_lookAtBest_102 rfl hl (by decide) rfl (fun ls hl => ?_)
              obtain ⟨y16, ey16, hf⟩ := fd_ltS hf
              refine lv_iinc (v := y16) (lv' := [(3, .int y16), (2, .int x3), (6, .int (0 : Int32)), (5, .int r4), (4, .int y3), (0, .ref (E.2.2 73)), (1, .int x1)]) hx hb dX7_lookAtBest_103 hl (k := 6) rfl (by rw [ey16]; rfl) (by decide) rfl (fun ls hl => ?_)
              refine lv_goto (tgt := 13) hx hb dX7_lookAtBest_106 (by decide) ?_
              exact ih S x1 x3 y16 _ _ _ hf hH (lv_sub hl [5, 6, 1, 0] rfl) hk
      · have hf := fd_ifn c7 hf
        refine lv_iload hx hb dX7_lookAtBest_46 (lv_at hl 0 rfl) ?_
        refine lv_if_lt (tgt := 60) hx hb dX7_lookAtBest_48 (by decide) (fun c17 => ?_) (fun c17 => ?_)
        · have hf := fd_ifp c17 hf
          refine lv_iconst (v := (1 : Int32)) hx hb dX7_lookAtBest_60 (by decide) ?_
          refine lv_goto (tgt := 65) hx hb dX7_lookAtBest_61 (by decide) ?_
          refine lv_istore (lv' := [(6, .int (1 : Int32)), (5, .int r4), (4, .int y3), (0, .ref (E.2.2 73)), (1, .int x1), (2, .int x2), (3, .int x3)]) hx hb dX7_lookAtBest_65 hl (by decide) rfl (fun ls hl => ?_)
          refine lv_iload hx hb dX7_lookAtBest_67 (lv_at hl 0 rfl) ?_
          refine lv_if_eq (tgt := 103) hx hb dX7_lookAtBest_69 (by decide) (fun c18 => ?_) (fun c18 => ?_)
          · have hf := fd_ifp c18 hf
            obtain ⟨y19, ey19, hf⟩ := fd_ltS hf
            refine lv_iinc (v := y19) (lv' := [(3, .int y19), (6, .int (1 : Int32)), (5, .int r4), (4, .int y3), (0, .ref (E.2.2 73)), (1, .int x1), (2, .int x2)]) hx hb dX7_lookAtBest_103 hl (k := 6) rfl (by rw [ey19]; rfl) (by decide) rfl (fun ls hl => ?_)
            refine lv_goto (tgt := 13) hx hb dX7_lookAtBest_106 (by decide) ?_
            exact ih S x1 x2 y19 _ _ _ hf hH (lv_sub hl [4, 5, 6, 0] rfl) hk
          · have hf := fd_ifn c18 hf
            refine lv_iload_n hx hb dX7_lookAtBest_72 rfl (lv_at hl 5 rfl) ?_
            refine lv_if_lt (tgt := 101) hx hb dX7_lookAtBest_73 (by decide) (fun c20 => ?_) (fun c20 => ?_)
            · have hf := fd_ifp c20 hf
              refine lv_iload_n hx hb dX7_lookAtBest_101 rfl (lv_at hl 6 rfl) ?_
              refine lv_istore_n (lv' := [(2, .int x3), (6, .int (1 : Int32)), (5, .int r4), (4, .int y3), (0, .ref (E.2.2 73)), (1, .int x1), (3, .int x3)]) hx hb dX7_lookAtBest_102 rfl hl (by decide) rfl (fun ls hl => ?_)
              obtain ⟨y21, ey21, hf⟩ := fd_ltS hf
              refine lv_iinc (v := y21) (lv' := [(3, .int y21), (2, .int x3), (6, .int (1 : Int32)), (5, .int r4), (4, .int y3), (0, .ref (E.2.2 73)), (1, .int x1)]) hx hb dX7_lookAtBest_103 hl (k := 6) rfl (by rw [ey21]; rfl) (by decide) rfl (fun ls hl => ?_)
              refine lv_goto (tgt := 13) hx hb dX7_lookAtBest_106 (by decide) ?_
              exact ih S x1 x3 y21 _ _ _ hf hH (lv_sub hl [5, 6, 1, 0] rfl) hk
            · have hf := fd_ifn c20 hf
              refine lv_aload_n hx hb dX7_lookAtBest_76 rfl (lv_at hl 3 rfl) ?_
              refine fd_get 73 7 4 C hH (by decide) rfl (by decide) (by decide) wf_X7_30 (v := .ref (E.2.2 78)) rfl dX7_lookAtBest_77 ?_
              refine lv_iconst (v := (0 : Int32)) hx hb dX7_lookAtBest_80 (by decide) ?_
              refine lv_iload hx hb dX7_lookAtBest_81 (lv_at hl 2 rfl) ?_
              refine lv_iadd hx hb dX7_lookAtBest_83 ?_
              obtain ⟨g22, hf⟩ := fd_grd hf
              refine fd_iald 78 (275 : Int32) C hH (by decide) rfl rfl g22 dX7_lookAtBest_84 ?_
              refine lv_aload_n hx hb dX7_lookAtBest_85 rfl (lv_at hl 3 rfl) ?_
              refine fd_get 73 7 4 C hH (by decide) rfl (by decide) (by decide) wf_X7_30 (v := .ref (E.2.2 78)) rfl dX7_lookAtBest_86 ?_
              refine lv_iconst (v := (0 : Int32)) hx hb dX7_lookAtBest_89 (by decide) ?_
              refine lv_bipush (v := (8 : Int32)) hx hb dX7_lookAtBest_90 (by decide) ?_
              refine lv_iload_n hx hb dX7_lookAtBest_92 rfl (lv_at hl 5 rfl) ?_
              refine lv_imul hx hb dX7_lookAtBest_93 ?_
              refine lv_iadd hx hb dX7_lookAtBest_94 ?_
              refine lv_iload_n hx hb dX7_lookAtBest_95 rfl (lv_at hl 4 rfl) ?_
              refine lv_iadd hx hb dX7_lookAtBest_96 ?_
              obtain ⟨g23, hf⟩ := fd_grd hf
              refine fd_iald 78 (275 : Int32) C hH (by decide) rfl rfl g23 dX7_lookAtBest_97 ?_
              refine lv_icmp_ge (tgt := 103) hx hb dX7_lookAtBest_98 (by decide) (fun c24 => ?_) (fun c24 => ?_)
              · have hf := fd_ifp c24 hf
                obtain ⟨y25, ey25, hf⟩ := fd_ltS hf
                refine lv_iinc (v := y25) (lv' := [(3, .int y25), (6, .int (1 : Int32)), (5, .int r4), (4, .int y3), (0, .ref (E.2.2 73)), (1, .int x1), (2, .int x2)]) hx hb dX7_lookAtBest_103 hl (k := 6) rfl (by rw [ey25]; rfl) (by decide) rfl (fun ls hl => ?_)
                refine lv_goto (tgt := 13) hx hb dX7_lookAtBest_106 (by decide) ?_
                exact ih S x1 x2 y25 _ _ _ hf hH (lv_sub hl [4, 5, 6, 0] rfl) hk
              · have hf := fd_ifn c24 hf
                refine lv_iload_n hx hb dX7_lookAtBest_101 rfl (lv_at hl 6 rfl) ?_
                refine lv_istore_n (lv' := [(2, .int x3), (6, .int (1 : Int32)), (5, .int r4), (4, .int y3), (0, .ref (E.2.2 73)), (1, .int x1), (3, .int x3)]) hx hb dX7_lookAtBest_102 rfl hl (by decide) rfl (fun ls hl => ?_)
                obtain ⟨y26, ey26, hf⟩ := fd_ltS hf
                refine lv_iinc (v := y26) (lv' := [(3, .int y26), (2, .int x3), (6, .int (1 : Int32)), (5, .int r4), (4, .int y3), (0, .ref (E.2.2 73)), (1, .int x1)]) hx hb dX7_lookAtBest_103 hl (k := 6) rfl (by rw [ey26]; rfl) (by decide) rfl (fun ls hl => ?_)
                refine lv_goto (tgt := 13) hx hb dX7_lookAtBest_106 (by decide) ?_
                exact ih S x1 x3 y26 _ _ _ hf hH (lv_sub hl [5, 6, 1, 0] rfl) hk
        · have hf := fd_ifn c17 hf
          refine lv_aload_n hx hb dX7_lookAtBest_51 rfl (lv_at hl 2 rfl) ?_
          refine lv_iload hx hb dX7_lookAtBest_52 (lv_at hl 0 rfl) ?_
          obtain ⟨r27, e28, hf⟩ := fd_bnd hf
          refine fd_callV1 73 7 [.int r4] C hl.1 hH (cM_isHeld l E S r4 e28) wm_X7_85 (by decide) rfl (by decide) rfl ⟨rfl, rfl, Nat.le_of_ble_eq_true rfl, Nat.le_of_ble_eq_true rfl⟩ rfl rfl (Nat.le_of_ble_eq_true rfl) ⟨Nat.le_refl _, Nat.le_refl _⟩ dX7_lookAtBest_54 (fun H locs hH => ?_)
          refine lv_if_ne (tgt := 64) hx hb dX7_lookAtBest_57 (by decide) (fun c29 => ?_) (fun c29 => ?_)
          · have hf := fd_ifn c29 hf
            refine lv_iconst (v := (0 : Int32)) hx hb dX7_lookAtBest_64 (by decide) ?_
            refine lv_istore (lv' := [(6, .int (0 : Int32)), (5, .int r4), (4, .int y3), (0, .ref (E.2.2 73)), (1, .int x1), (2, .int x2), (3, .int x3)]) hx hb dX7_lookAtBest_65 hl (by decide) rfl (fun ls hl => ?_)
            refine lv_iload hx hb dX7_lookAtBest_67 (lv_at hl 0 rfl) ?_
            refine lv_if_eq (tgt := 103) hx hb dX7_lookAtBest_69 (by decide) (fun c30 => ?_) (fun c30 => ?_)
            · have hf := fd_ifp c30 hf
              obtain ⟨y31, ey31, hf⟩ := fd_ltS hf
              refine lv_iinc (v := y31) (lv' := [(3, .int y31), (6, .int (0 : Int32)), (5, .int r4), (4, .int y3), (0, .ref (E.2.2 73)), (1, .int x1), (2, .int x2)]) hx hb dX7_lookAtBest_103 hl (k := 6) rfl (by rw [ey31]; rfl) (by decide) rfl (fun ls hl => ?_)
              refine lv_goto (tgt := 13) hx hb dX7_lookAtBest_106 (by decide) ?_
              exact ih S x1 x2 y31 _ _ _ hf hH (lv_sub hl [4, 5, 6, 0] rfl) hk
            · have hf := fd_ifn c30 hf
              refine lv_iload_n hx hb dX7_lookAtBest_72 rfl (lv_at hl 5 rfl) ?_
              refine lv_if_lt (tgt := 101) hx hb dX7_lookAtBest_73 (by decide) (fun c32 => ?_) (fun c32 => ?_)
              · have hf := fd_ifp c32 hf
                refine lv_iload_n hx hb dX7_lookAtBest_101 rfl (lv_at hl 6 rfl) ?_
                refine lv_istore_n (lv' := [(2, .int x3), (6, .int (0 : Int32)), (5, .int r4), (4, .int y3), (0, .ref (E.2.2 73)), (1, .int x1), (3, .int x3)]) hx hb dX7_lookAtBest_102 rfl hl (by decide) rfl (fun ls hl => ?_)
                obtain ⟨y33, ey33, hf⟩ := fd_ltS hf
                refine lv_iinc (v := y33) (lv' := [(3, .int y33), (2, .int x3), (6, .int (0 : Int32)), (5, .int r4), (4, .int y3), (0, .ref (E.2.2 73)), (1, .int x1)]) hx hb dX7_lookAtBest_103 hl (k := 6) rfl (by rw [ey33]; rfl) (by decide) rfl (fun ls hl => ?_)
                refine lv_goto (tgt := 13) hx hb dX7_lookAtBest_106 (by decide) ?_
                exact ih S x1 x3 y33 _ _ _ hf hH (lv_sub hl [5, 6, 1, 0] rfl) hk
              · have hf := fd_ifn c32 hf
                refine lv_aload_n hx hb dX7_lookAtBest_76 rfl (lv_at hl 3 rfl) ?_
                refine fd_get 73 7 4 C hH (by decide) rfl (by decide) (by decide) wf_X7_30 (v := .ref (E.2.2 78)) rfl dX7_lookAtBest_77 ?_
                refine lv_iconst (v := (0 : Int32)) hx hb dX7_lookAtBest_80 (by decide) ?_
                refine lv_iload hx hb dX7_lookAtBest_81 (lv_at hl 2 rfl) ?_
                refine lv_iadd hx hb dX7_lookAtBest_83 ?_
                obtain ⟨g34, hf⟩ := fd_grd hf
                refine fd_iald 78 (275 : Int32) C hH (by decide) rfl rfl g34 dX7_lookAtBest_84 ?_
                refine lv_aload_n hx hb dX7_lookAtBest_85 rfl (lv_at hl 3 rfl) ?_
                refine fd_get 73 7 4 C hH (by decide) rfl (by decide) (by decide) wf_X7_30 (v := .ref (E.2.2 78)) rfl dX7_lookAtBest_86 ?_
                refine lv_iconst (v := (0 : Int32)) hx hb dX7_lookAtBest_89 (by decide) ?_
                refine lv_bipush (v := (8 : Int32)) hx hb dX7_lookAtBest_90 (by decide) ?_
                refine lv_iload_n hx hb dX7_lookAtBest_92 rfl (lv_at hl 5 rfl) ?_
                refine lv_imul hx hb dX7_lookAtBest_93 ?_
                refine lv_iadd hx hb dX7_lookAtBest_94 ?_
                refine lv_iload_n hx hb dX7_lookAtBest_95 rfl (lv_at hl 4 rfl) ?_
                refine lv_iadd hx hb dX7_lookAtBest_96 ?_
                obtain ⟨g35, hf⟩ := fd_grd hf
                refine fd_iald 78 (275 : Int32) C hH (by decide) rfl rfl g35 dX7_lookAtBest_97 ?_
                refine lv_icmp_ge (tgt := 103) hx hb dX7_lookAtBest_98 (by decide) (fun c36 => ?_) (fun c36 => ?_)
                · have hf := fd_ifp c36 hf
                  obtain ⟨y37, ey37, hf⟩ := fd_ltS hf
                  refine lv_iinc (v := y37) (lv' := [(3, .int y37), (6, .int (0 : Int32)), (5, .int r4), (4, .int y3), (0, .ref (E.2.2 73)), (1, .int x1), (2, .int x2)]) hx hb dX7_lookAtBest_103 hl (k := 6) rfl (by rw [ey37]; rfl) (by decide) rfl (fun ls hl => ?_)
                  refine lv_goto (tgt := 13) hx hb dX7_lookAtBest_106 (by decide) ?_
                  exact ih S x1 x2 y37 _ _ _ hf hH (lv_sub hl [4, 5, 6, 0] rfl) hk
                · have hf := fd_ifn c36 hf
                  refine lv_iload_n hx hb dX7_lookAtBest_101 rfl (lv_at hl 6 rfl) ?_
                  refine lv_istore_n (lv' := [(2, .int x3), (6, .int (0 : Int32)), (5, .int r4), (4, .int y3), (0, .ref (E.2.2 73)), (1, .int x1), (3, .int x3)]) hx hb dX7_lookAtBest_102 rfl hl (by decide) rfl (fun ls hl => ?_)
                  obtain ⟨y38, ey38, hf⟩ := fd_ltS hf
                  refine lv_iinc (v := y38) (lv' := [(3, .int y38), (2, .int x3), (6, .int (0 : Int32)), (5, .int r4), (4, .int y3), (0, .ref (E.2.2 73)), (1, .int x1)]) hx hb dX7_lookAtBest_103 hl (k := 6) rfl (by rw [ey38]; rfl) (by decide) rfl (fun ls hl => ?_)
                  refine lv_goto (tgt := 13) hx hb dX7_lookAtBest_106 (by decide) ?_
                  exact ih S x1 x3 y38 _ _ _ hf hH (lv_sub hl [5, 6, 1, 0] rfl) hk
          · have hf := fd_ifp c29 hf
            refine lv_iconst (v := (1 : Int32)) hx hb dX7_lookAtBest_60 (by decide) ?_
            refine lv_goto (tgt := 65) hx hb dX7_lookAtBest_61 (by decide) ?_
            refine lv_istore (lv' := [(6, .int (1 : Int32)), (5, .int r4), (4, .int y3), (0, .ref (E.2.2 73)), (1, .int x1), (2, .int x2), (3, .int x3)]) hx hb dX7_lookAtBest_65 hl (by decide) rfl (fun ls hl => ?_)
            refine lv_iload hx hb dX7_lookAtBest_67 (lv_at hl 0 rfl) ?_
            refine lv_if_eq (tgt := 103) hx hb dX7_lookAtBest_69 (by decide) (fun c39 => ?_) (fun c39 => ?_)
            · have hf := fd_ifp c39 hf
              obtain ⟨y40, ey40, hf⟩ := fd_ltS hf
              refine lv_iinc (v := y40) (lv' := [(3, .int y40), (6, .int (1 : Int32)), (5, .int r4), (4, .int y3), (0, .ref (E.2.2 73)), (1, .int x1), (2, .int x2)]) hx hb dX7_lookAtBest_103 hl (k := 6) rfl (by rw [ey40]; rfl) (by decide) rfl (fun ls hl => ?_)
              refine lv_goto (tgt := 13) hx hb dX7_lookAtBest_106 (by decide) ?_
              exact ih S x1 x2 y40 _ _ _ hf hH (lv_sub hl [4, 5, 6, 0] rfl) hk
            · have hf := fd_ifn c39 hf
              refine lv_iload_n hx hb dX7_lookAtBest_72 rfl (lv_at hl 5 rfl) ?_
              refine lv_if_lt (tgt := 101) hx hb dX7_lookAtBest_73 (by decide) (fun c41 => ?_) (fun c41 => ?_)
              · have hf := fd_ifp c41 hf
                refine lv_iload_n hx hb dX7_lookAtBest_101 rfl (lv_at hl 6 rfl) ?_
                refine lv_istore_n (lv' := [(2, .int x3), (6, .int (1 : Int32)), (5, .int r4), (4, .int y3), (0, .ref (E.2.2 73)), (1, .int x1), (3, .int x3)]) hx hb dX7_lookAtBest_102 rfl hl (by decide) rfl (fun ls hl => ?_)
                obtain ⟨y42, ey42, hf⟩ := fd_ltS hf
                refine lv_iinc (v := y42) (lv' := [(3, .int y42), (2, .int x3), (6, .int (1 : Int32)), (5, .int r4), (4, .int y3), (0, .ref (E.2.2 73)), (1, .int x1)]) hx hb dX7_lookAtBest_103 hl (k := 6) rfl (by rw [ey42]; rfl) (by decide) rfl (fun ls hl => ?_)
                refine lv_goto (tgt := 13) hx hb dX7_lookAtBest_106 (by decide) ?_
                exact ih S x1 x3 y42 _ _ _ hf hH (lv_sub hl [5, 6, 1, 0] rfl) hk
              · have hf := fd_ifn c41 hf
                refine lv_aload_n hx hb dX7_lookAtBest_76 rfl (lv_at hl 3 rfl) ?_
                refine fd_get 73 7 4 C hH (by decide) rfl (by decide) (by decide) wf_X7_30 (v := .ref (E.2.2 78)) rfl dX7_lookAtBest_77 ?_
                refine lv_iconst (v := (0 : Int32)) hx hb dX7_lookAtBest_80 (by decide) ?_
                refine lv_iload hx hb dX7_lookAtBest_81 (lv_at hl 2 rfl) ?_
                refine lv_iadd hx hb dX7_lookAtBest_83 ?_
                obtain ⟨g43, hf⟩ := fd_grd hf
                refine fd_iald 78 (275 : Int32) C hH (by decide) rfl rfl g43 dX7_lookAtBest_84 ?_
                refine lv_aload_n hx hb dX7_lookAtBest_85 rfl (lv_at hl 3 rfl) ?_
                refine fd_get 73 7 4 C hH (by decide) rfl (by decide) (by decide) wf_X7_30 (v := .ref (E.2.2 78)) rfl dX7_lookAtBest_86 ?_
                refine lv_iconst (v := (0 : Int32)) hx hb dX7_lookAtBest_89 (by decide) ?_
                refine lv_bipush (v := (8 : Int32)) hx hb dX7_lookAtBest_90 (by decide) ?_
                refine lv_iload_n hx hb dX7_lookAtBest_92 rfl (lv_at hl 5 rfl) ?_
                refine lv_imul hx hb dX7_lookAtBest_93 ?_
                refine lv_iadd hx hb dX7_lookAtBest_94 ?_
                refine lv_iload_n hx hb dX7_lookAtBest_95 rfl (lv_at hl 4 rfl) ?_
                refine lv_iadd hx hb dX7_lookAtBest_96 ?_
                obtain ⟨g44, hf⟩ := fd_grd hf
                refine fd_iald 78 (275 : Int32) C hH (by decide) rfl rfl g44 dX7_lookAtBest_97 ?_
                refine lv_icmp_ge (tgt := 103) hx hb dX7_lookAtBest_98 (by decide) (fun c45 => ?_) (fun c45 => ?_)
                · have hf := fd_ifp c45 hf
                  obtain ⟨y46, ey46, hf⟩ := fd_ltS hf
                  refine lv_iinc (v := y46) (lv' := [(3, .int y46), (6, .int (1 : Int32)), (5, .int r4), (4, .int y3), (0, .ref (E.2.2 73)), (1, .int x1), (2, .int x2)]) hx hb dX7_lookAtBest_103 hl (k := 6) rfl (by rw [ey46]; rfl) (by decide) rfl (fun ls hl => ?_)
                  refine lv_goto (tgt := 13) hx hb dX7_lookAtBest_106 (by decide) ?_
                  exact ih S x1 x2 y46 _ _ _ hf hH (lv_sub hl [4, 5, 6, 0] rfl) hk
                · have hf := fd_ifn c45 hf
                  refine lv_iload_n hx hb dX7_lookAtBest_101 rfl (lv_at hl 6 rfl) ?_
                  refine lv_istore_n (lv' := [(2, .int x3), (6, .int (1 : Int32)), (5, .int r4), (4, .int y3), (0, .ref (E.2.2 73)), (1, .int x1), (3, .int x3)]) hx hb dX7_lookAtBest_102 rfl hl (by decide) rfl (fun ls hl => ?_)
                  obtain ⟨y47, ey47, hf⟩ := fd_ltS hf
                  refine lv_iinc (v := y47) (lv' := [(3, .int y47), (2, .int x3), (6, .int (1 : Int32)), (5, .int r4), (4, .int y3), (0, .ref (E.2.2 73)), (1, .int x1)]) hx hb dX7_lookAtBest_103 hl (k := 6) rfl (by rw [ey47]; rfl) (by decide) rfl (fun ls hl => ?_)
                  refine lv_goto (tgt := 13) hx hb dX7_lookAtBest_106 (by decide) ?_
                  exact ih S x1 x3 y47 _ _ _ hf hH (lv_sub hl [5, 6, 1, 0] rfl) hk
set_option maxHeartbeats 4000000 in
set_option maxRecDepth 100000 in
theorem wM_lookAtBest_2 {p : Program} {l : Launch} {e : Env} {s : State} {m : MethodId} {args : Array Value} {below : List Frame} {meth : Method} {c : Code} {E : fd_E} (C : fd_C p s m args c yX7_lookAtBest.cls cX7_lookAtBest 7 E) (hr : meth.sig.returnType = none) (hlk : meth.locks = false) (fu : Nat) {S0 : fd_S} : ∀ (n : Nat) (S : fd_S) (x1 : Int32) (H : Heap) (locs : List Loc) (ls : Array Slot), zM_lookAtBest_2 fu n S x1 = some S0 → fd_H E S s H locs → lv_has ls 7 [(0, .ref (E.2.2 73)), (1, .int x1)] → W p l e (fd_rm 2 44) s m args below meth c H locs 0 0 (MQ below (fd_Q E none S0) args s 0 0 (fd_A E)) (F0 m 2 ls []) := by
  have hx := C.1
  have hb := C.2.1
  intro n
  induction n with
  | zero =>
    intro S x1 H locs ls hf
    rw [zM_lookAtBest_2] at hf
    cases hf
  | succ n ih =>
    intro S x1 H locs ls hf hH hl
    rw [zM_lookAtBest_2] at hf
    refine lv_iload_n hx hb dX7_lookAtBest_2 rfl (lv_at hl 1 rfl) ?_
    refine lv_bipush (v := (8 : Int32)) hx hb dX7_lookAtBest_3 (by decide) ?_
    refine lv_icmp_ge (tgt := 213) hx hb dX7_lookAtBest_5 (by decide) (fun c1 => ?_) (fun c1 => ?_)
    · have hf := fd_ifp c1 hf
      cases hf
      exact fd_vret C hr hlk hH dX7_lookAtBest_213
    · have hf := fd_ifn c1 hf
      refine lv_bipush (v := (-6 : Int32)) hx hb dX7_lookAtBest_8 (by decide) ?_
      refine lv_istore_n (lv' := [(2, .int (-6 : Int32)), (0, .ref (E.2.2 73)), (1, .int x1)]) hx hb dX7_lookAtBest_10 rfl hl (by decide) rfl (fun ls hl => ?_)
      refine lv_iconst (v := (0 : Int32)) hx hb dX7_lookAtBest_11 (by decide) ?_
      refine lv_istore_n (lv' := [(3, .int (0 : Int32)), (2, .int (-6 : Int32)), (0, .ref (E.2.2 73)), (1, .int x1)]) hx hb dX7_lookAtBest_12 rfl hl (by decide) rfl (fun ls hl => ?_)
      obtain ⟨o48, e49, hf⟩ := fd_bnd hf
      refine wM_lookAtBest_13 C fu fu S x1 (-6 : Int32) (0 : Int32) _ _ _ e49 hH (lv_sub hl [2, 3, 1, 0] rfl) (fun H locs ls hH hl => ?_)
      refine lv_iload_n hx hb dX7_lookAtBest_109 rfl (lv_at hl 2 rfl) ?_
      refine lv_if_ge (tgt := 118) hx hb dX7_lookAtBest_110 (by decide) (fun c50 => ?_) (fun c50 => ?_)
      · have hf := fd_ifp c50 hf
        refine lv_aload_n hx hb dX7_lookAtBest_118 rfl (lv_at hl 0 rfl) ?_
        refine fd_get 73 7 4 C hH (by decide) rfl (by decide) (by decide) wf_X7_30 (v := .ref (E.2.2 78)) rfl dX7_lookAtBest_119 ?_
        refine lv_iconst (v := (0 : Int32)) hx hb dX7_lookAtBest_122 (by decide) ?_
        refine lv_bipush (v := (8 : Int32)) hx hb dX7_lookAtBest_123 (by decide) ?_
        refine lv_iload_n hx hb dX7_lookAtBest_125 rfl (lv_at hl 2 rfl) ?_
        refine lv_imul hx hb dX7_lookAtBest_126 ?_
        refine lv_iadd hx hb dX7_lookAtBest_127 ?_
        refine lv_iload_n hx hb dX7_lookAtBest_128 rfl (lv_at hl 1 rfl) ?_
        refine lv_iadd hx hb dX7_lookAtBest_129 ?_
        obtain ⟨g51, hf⟩ := fd_grd hf
        refine fd_iald 78 (275 : Int32) C hH (by decide) rfl rfl g51 dX7_lookAtBest_130 ?_
        refine lv_topi (fun y52 ey52 => ?_)
        have hf := fd_ltN ey52 hf
        refine lv_istore_n (lv' := [(3, .int y52), (0, .ref (E.2.2 73)), (1, .int x1), (2, .int o48)]) hx hb dX7_lookAtBest_131 rfl hl (by decide) rfl (fun ls hl => ?_)
        refine lv_iload_n hx hb dX7_lookAtBest_132 rfl (lv_at hl 3 rfl) ?_
        refine lv_aload_n hx hb dX7_lookAtBest_133 rfl (lv_at hl 1 rfl) ?_
        refine fd_get 73 7 4 C hH (by decide) rfl (by decide) (by decide) wf_X7_30 (v := .ref (E.2.2 78)) rfl dX7_lookAtBest_134 ?_
        refine lv_bipush (v := (39 : Int32)) hx hb dX7_lookAtBest_137 (by decide) ?_
        refine lv_iconst (v := (3 : Int32)) hx hb dX7_lookAtBest_139 (by decide) ?_
        refine lv_iload_n hx hb dX7_lookAtBest_140 rfl (lv_at hl 2 rfl) ?_
        refine lv_imul hx hb dX7_lookAtBest_141 ?_
        refine lv_iadd hx hb dX7_lookAtBest_142 ?_
        obtain ⟨g53, hf⟩ := fd_grd hf
        refine fd_iald 78 (275 : Int32) C hH (by decide) rfl rfl g53 dX7_lookAtBest_143 ?_
        refine lv_icmp_ne (tgt := 164) hx hb dX7_lookAtBest_144 (by decide) (fun c54 => ?_) (fun c54 => ?_)
        · have hf := fd_ifn c54 hf
          refine lv_aload_n hx hb dX7_lookAtBest_164 rfl (lv_at hl 1 rfl) ?_
          refine fd_get 73 7 4 C hH (by decide) rfl (by decide) (by decide) wf_X7_30 (v := .ref (E.2.2 78)) rfl dX7_lookAtBest_165 ?_
          refine lv_bipush (v := (39 : Int32)) hx hb dX7_lookAtBest_168 (by decide) ?_
          refine lv_iconst (v := (3 : Int32)) hx hb dX7_lookAtBest_170 (by decide) ?_
          refine lv_iload_n hx hb dX7_lookAtBest_171 rfl (lv_at hl 2 rfl) ?_
          refine lv_imul hx hb dX7_lookAtBest_172 ?_
          refine lv_iadd hx hb dX7_lookAtBest_173 ?_
          refine lv_iload_n hx hb dX7_lookAtBest_174 rfl (lv_at hl 3 rfl) ?_
          obtain ⟨g55, hf⟩ := fd_grd hf
          refine fd_iast 78 (275 : Int32) C hH (by decide) rfl rfl g55 dX7_lookAtBest_175 (fun H locs hH => ?_)
          obtain ⟨S56, eS56, hf⟩ := fd_ltS hf
          rw [← eS56] at hH
          refine lv_aload_n hx hb dX7_lookAtBest_176 rfl (lv_at hl 1 rfl) ?_
          refine fd_get 73 7 4 C hH (by decide) rfl (by decide) (by decide) wf_X7_30 (v := .ref (E.2.2 78)) rfl dX7_lookAtBest_177 ?_
          refine lv_bipush (v := (39 : Int32)) hx hb dX7_lookAtBest_180 (by decide) ?_
          refine lv_iconst (v := (3 : Int32)) hx hb dX7_lookAtBest_182 (by decide) ?_
          refine lv_iload_n hx hb dX7_lookAtBest_183 rfl (lv_at hl 2 rfl) ?_
          refine lv_imul hx hb dX7_lookAtBest_184 ?_
          refine lv_iadd hx hb dX7_lookAtBest_185 ?_
          refine lv_iconst (v := (1 : Int32)) hx hb dX7_lookAtBest_186 (by decide) ?_
          refine lv_iadd hx hb dX7_lookAtBest_187 ?_
          refine lv_iload_n hx hb dX7_lookAtBest_188 rfl (lv_at hl 0 rfl) ?_
          obtain ⟨g57, hf⟩ := fd_grd hf
          refine fd_iast 78 (275 : Int32) C hH (by decide) rfl rfl g57 dX7_lookAtBest_189 (fun H locs hH => ?_)
          obtain ⟨S58, eS58, hf⟩ := fd_ltS hf
          rw [← eS58] at hH
          refine lv_aload_n hx hb dX7_lookAtBest_190 rfl (lv_at hl 1 rfl) ?_
          refine fd_get 73 7 4 C hH (by decide) rfl (by decide) (by decide) wf_X7_30 (v := .ref (E.2.2 78)) rfl dX7_lookAtBest_191 ?_
          refine lv_bipush (v := (39 : Int32)) hx hb dX7_lookAtBest_194 (by decide) ?_
          refine lv_iconst (v := (3 : Int32)) hx hb dX7_lookAtBest_196 (by decide) ?_
          refine lv_iload_n hx hb dX7_lookAtBest_197 rfl (lv_at hl 2 rfl) ?_
          refine lv_imul hx hb dX7_lookAtBest_198 ?_
          refine lv_iadd hx hb dX7_lookAtBest_199 ?_
          refine lv_iconst (v := (2 : Int32)) hx hb dX7_lookAtBest_200 (by decide) ?_
          refine lv_iadd hx hb dX7_lookAtBest_201 ?_
          refine lv_dup2_11 hx hb dX7_lookAtBest_202 rfl rfl ?_
          obtain ⟨g59, hf⟩ := fd_grd hf
          refine fd_iald 78 (275 : Int32) C hH (by decide) rfl rfl g59 dX7_lookAtBest_203 ?_
          refine lv_iconst (v := (1 : Int32)) hx hb dX7_lookAtBest_204 (by decide) ?_
          refine lv_iadd hx hb dX7_lookAtBest_205 ?_
          obtain ⟨g60, hf⟩ := fd_grd hf
          refine fd_iast 78 (275 : Int32) C hH (by decide) rfl rfl g60 dX7_lookAtBest_206 (fun H locs hH => ?_)
          obtain ⟨S61, eS61, hf⟩ := fd_ltS hf
          rw [← eS61] at hH
          obtain ⟨y62, ey62, hf⟩ := fd_ltS hf
          refine lv_iinc (v := y62) (lv' := [(1, .int y62), (3, .int y52), (0, .ref (E.2.2 73)), (2, .int o48)]) hx hb dX7_lookAtBest_207 hl (k := 2) rfl (by rw [ey62]; rfl) (by decide) rfl (fun ls hl => ?_)
          refine lv_goto (tgt := 2) hx hb dX7_lookAtBest_210 (by decide) ?_
          exact ih S61 y62 _ _ _ hf hH (lv_sub hl [2, 0] rfl)
        · have hf := fd_ifp c54 hf
          refine lv_iload_n hx hb dX7_lookAtBest_147 rfl (lv_at hl 0 rfl) ?_
          refine lv_aload_n hx hb dX7_lookAtBest_148 rfl (lv_at hl 1 rfl) ?_
          refine fd_get 73 7 4 C hH (by decide) rfl (by decide) (by decide) wf_X7_30 (v := .ref (E.2.2 78)) rfl dX7_lookAtBest_149 ?_
          refine lv_bipush (v := (39 : Int32)) hx hb dX7_lookAtBest_152 (by decide) ?_
          refine lv_iconst (v := (3 : Int32)) hx hb dX7_lookAtBest_154 (by decide) ?_
          refine lv_iload_n hx hb dX7_lookAtBest_155 rfl (lv_at hl 2 rfl) ?_
          refine lv_imul hx hb dX7_lookAtBest_156 ?_
          refine lv_iadd hx hb dX7_lookAtBest_157 ?_
          refine lv_iconst (v := (1 : Int32)) hx hb dX7_lookAtBest_158 (by decide) ?_
          refine lv_iadd hx hb dX7_lookAtBest_159 ?_
          obtain ⟨g63, hf⟩ := fd_grd hf
          refine fd_iald 78 (275 : Int32) C hH (by decide) rfl rfl g63 dX7_lookAtBest_160 ?_
          refine lv_icmp_eq (tgt := 207) hx hb dX7_lookAtBest_161 (by decide) (fun c64 => ?_) (fun c64 => ?_)
          · have hf := fd_ifp c64 hf
            obtain ⟨y65, ey65, hf⟩ := fd_ltS hf
            refine lv_iinc (v := y65) (lv' := [(1, .int y65), (3, .int y52), (0, .ref (E.2.2 73)), (2, .int o48)]) hx hb dX7_lookAtBest_207 hl (k := 2) rfl (by rw [ey65]; rfl) (by decide) rfl (fun ls hl => ?_)
            refine lv_goto (tgt := 2) hx hb dX7_lookAtBest_210 (by decide) ?_
            exact ih S y65 _ _ _ hf hH (lv_sub hl [2, 0] rfl)
          · have hf := fd_ifn c64 hf
            refine lv_aload_n hx hb dX7_lookAtBest_164 rfl (lv_at hl 1 rfl) ?_
            refine fd_get 73 7 4 C hH (by decide) rfl (by decide) (by decide) wf_X7_30 (v := .ref (E.2.2 78)) rfl dX7_lookAtBest_165 ?_
            refine lv_bipush (v := (39 : Int32)) hx hb dX7_lookAtBest_168 (by decide) ?_
            refine lv_iconst (v := (3 : Int32)) hx hb dX7_lookAtBest_170 (by decide) ?_
            refine lv_iload_n hx hb dX7_lookAtBest_171 rfl (lv_at hl 2 rfl) ?_
            refine lv_imul hx hb dX7_lookAtBest_172 ?_
            refine lv_iadd hx hb dX7_lookAtBest_173 ?_
            refine lv_iload_n hx hb dX7_lookAtBest_174 rfl (lv_at hl 3 rfl) ?_
            obtain ⟨g66, hf⟩ := fd_grd hf
            refine fd_iast 78 (275 : Int32) C hH (by decide) rfl rfl g66 dX7_lookAtBest_175 (fun H locs hH => ?_)
            obtain ⟨S67, eS67, hf⟩ := fd_ltS hf
            rw [← eS67] at hH
            refine lv_aload_n hx hb dX7_lookAtBest_176 rfl (lv_at hl 1 rfl) ?_
            refine fd_get 73 7 4 C hH (by decide) rfl (by decide) (by decide) wf_X7_30 (v := .ref (E.2.2 78)) rfl dX7_lookAtBest_177 ?_
            refine lv_bipush (v := (39 : Int32)) hx hb dX7_lookAtBest_180 (by decide) ?_
            refine lv_iconst (v := (3 : Int32)) hx hb dX7_lookAtBest_182 (by decide) ?_
            refine lv_iload_n hx hb dX7_lookAtBest_183 rfl (lv_at hl 2 rfl) ?_
            refine lv_imul hx hb dX7_lookAtBest_184 ?_
            refine lv_iadd hx hb dX7_lookAtBest_185 ?_
            refine lv_iconst (v := (1 : Int32)) hx hb dX7_lookAtBest_186 (by decide) ?_
            refine lv_iadd hx hb dX7_lookAtBest_187 ?_
            refine lv_iload_n hx hb dX7_lookAtBest_188 rfl (lv_at hl 0 rfl) ?_
            obtain ⟨g68, hf⟩ := fd_grd hf
            refine fd_iast 78 (275 : Int32) C hH (by decide) rfl rfl g68 dX7_lookAtBest_189 (fun H locs hH => ?_)
            obtain ⟨S69, eS69, hf⟩ := fd_ltS hf
            rw [← eS69] at hH
            refine lv_aload_n hx hb dX7_lookAtBest_190 rfl (lv_at hl 1 rfl) ?_
            refine fd_get 73 7 4 C hH (by decide) rfl (by decide) (by decide) wf_X7_30 (v := .ref (E.2.2 78)) rfl dX7_lookAtBest_191 ?_
            refine lv_bipush (v := (39 : Int32)) hx hb dX7_lookAtBest_194 (by decide) ?_
            refine lv_iconst (v := (3 : Int32)) hx hb dX7_lookAtBest_196 (by decide) ?_
            refine lv_iload_n hx hb dX7_lookAtBest_197 rfl (lv_at hl 2 rfl) ?_
            refine lv_imul hx hb dX7_lookAtBest_198 ?_
            refine lv_iadd hx hb dX7_lookAtBest_199 ?_
            refine lv_iconst (v := (2 : Int32)) hx hb dX7_lookAtBest_200 (by decide) ?_
            refine lv_iadd hx hb dX7_lookAtBest_201 ?_
            refine lv_dup2_11 hx hb dX7_lookAtBest_202 rfl rfl ?_
            obtain ⟨g70, hf⟩ := fd_grd hf
            refine fd_iald 78 (275 : Int32) C hH (by decide) rfl rfl g70 dX7_lookAtBest_203 ?_
            refine lv_iconst (v := (1 : Int32)) hx hb dX7_lookAtBest_204 (by decide) ?_
            refine lv_iadd hx hb dX7_lookAtBest_205 ?_
            obtain ⟨g71, hf⟩ := fd_grd hf
            refine fd_iast 78 (275 : Int32) C hH (by decide) rfl rfl g71 dX7_lookAtBest_206 (fun H locs hH => ?_)
            obtain ⟨S72, eS72, hf⟩ := fd_ltS hf
            rw [← eS72] at hH
            obtain ⟨y73, ey73, hf⟩ := fd_ltS hf
            refine lv_iinc (v := y73) (lv' := [(1, .int y73), (3, .int y52), (0, .ref (E.2.2 73)), (2, .int o48)]) hx hb dX7_lookAtBest_207 hl (k := 2) rfl (by rw [ey73]; rfl) (by decide) rfl (fun ls hl => ?_)
            refine lv_goto (tgt := 2) hx hb dX7_lookAtBest_210 (by decide) ?_
            exact ih S72 y73 _ _ _ hf hH (lv_sub hl [2, 0] rfl)
      · have hf := fd_ifn c50 hf
        refine lv_bipush (v := (-6 : Int32)) hx hb dX7_lookAtBest_113 (by decide) ?_
        refine lv_goto (tgt := 131) hx hb dX7_lookAtBest_115 (by decide) ?_
        refine lv_istore_n (lv' := [(3, .int (-6 : Int32)), (0, .ref (E.2.2 73)), (1, .int x1), (2, .int o48)]) hx hb dX7_lookAtBest_131 rfl hl (by decide) rfl (fun ls hl => ?_)
        refine lv_iload_n hx hb dX7_lookAtBest_132 rfl (lv_at hl 3 rfl) ?_
        refine lv_aload_n hx hb dX7_lookAtBest_133 rfl (lv_at hl 1 rfl) ?_
        refine fd_get 73 7 4 C hH (by decide) rfl (by decide) (by decide) wf_X7_30 (v := .ref (E.2.2 78)) rfl dX7_lookAtBest_134 ?_
        refine lv_bipush (v := (39 : Int32)) hx hb dX7_lookAtBest_137 (by decide) ?_
        refine lv_iconst (v := (3 : Int32)) hx hb dX7_lookAtBest_139 (by decide) ?_
        refine lv_iload_n hx hb dX7_lookAtBest_140 rfl (lv_at hl 2 rfl) ?_
        refine lv_imul hx hb dX7_lookAtBest_141 ?_
        refine lv_iadd hx hb dX7_lookAtBest_142 ?_
        obtain ⟨g74, hf⟩ := fd_grd hf
        refine fd_iald 78 (275 : Int32) C hH (by decide) rfl rfl g74 dX7_lookAtBest_143 ?_
        refine lv_icmp_ne (tgt := 164) hx hb dX7_lookAtBest_144 (by decide) (fun c75 => ?_) (fun c75 => ?_)
        · have hf := fd_ifn c75 hf
          refine lv_aload_n hx hb dX7_lookAtBest_164 rfl (lv_at hl 1 rfl) ?_
          refine fd_get 73 7 4 C hH (by decide) rfl (by decide) (by decide) wf_X7_30 (v := .ref (E.2.2 78)) rfl dX7_lookAtBest_165 ?_
          refine lv_bipush (v := (39 : Int32)) hx hb dX7_lookAtBest_168 (by decide) ?_
          refine lv_iconst (v := (3 : Int32)) hx hb dX7_lookAtBest_170 (by decide) ?_
          refine lv_iload_n hx hb dX7_lookAtBest_171 rfl (lv_at hl 2 rfl) ?_
          refine lv_imul hx hb dX7_lookAtBest_172 ?_
          refine lv_iadd hx hb dX7_lookAtBest_173 ?_
          refine lv_iload_n hx hb dX7_lookAtBest_174 rfl (lv_at hl 3 rfl) ?_
          obtain ⟨g76, hf⟩ := fd_grd hf
          refine fd_iast 78 (275 : Int32) C hH (by decide) rfl rfl g76 dX7_lookAtBest_175 (fun H locs hH => ?_)
          obtain ⟨S77, eS77, hf⟩ := fd_ltS hf
          rw [← eS77] at hH
          refine lv_aload_n hx hb dX7_lookAtBest_176 rfl (lv_at hl 1 rfl) ?_
          refine fd_get 73 7 4 C hH (by decide) rfl (by decide) (by decide) wf_X7_30 (v := .ref (E.2.2 78)) rfl dX7_lookAtBest_177 ?_
          refine lv_bipush (v := (39 : Int32)) hx hb dX7_lookAtBest_180 (by decide) ?_
          refine lv_iconst (v := (3 : Int32)) hx hb dX7_lookAtBest_182 (by decide) ?_
          refine lv_iload_n hx hb dX7_lookAtBest_183 rfl (lv_at hl 2 rfl) ?_
          refine lv_imul hx hb dX7_lookAtBest_184 ?_
          refine lv_iadd hx hb dX7_lookAtBest_185 ?_
          refine lv_iconst (v := (1 : Int32)) hx hb dX7_lookAtBest_186 (by decide) ?_
          refine lv_iadd hx hb dX7_lookAtBest_187 ?_
          refine lv_iload_n hx hb dX7_lookAtBest_188 rfl (lv_at hl 0 rfl) ?_
          obtain ⟨g78, hf⟩ := fd_grd hf
          refine fd_iast 78 (275 : Int32) C hH (by decide) rfl rfl g78 dX7_lookAtBest_189 (fun H locs hH => ?_)
          obtain ⟨S79, eS79, hf⟩ := fd_ltS hf
          rw [← eS79] at hH
          refine lv_aload_n hx hb dX7_lookAtBest_190 rfl (lv_at hl 1 rfl) ?_
          refine fd_get 73 7 4 C hH (by decide) rfl (by decide) (by decide) wf_X7_30 (v := .ref (E.2.2 78)) rfl dX7_lookAtBest_191 ?_
          refine lv_bipush (v := (39 : Int32)) hx hb dX7_lookAtBest_194 (by decide) ?_
          refine lv_iconst (v := (3 : Int32)) hx hb dX7_lookAtBest_196 (by decide) ?_
          refine lv_iload_n hx hb dX7_lookAtBest_197 rfl (lv_at hl 2 rfl) ?_
          refine lv_imul hx hb dX7_lookAtBest_198 ?_
          refine lv_iadd hx hb dX7_lookAtBest_199 ?_
          refine lv_iconst (v := (2 : Int32)) hx hb dX7_lookAtBest_200 (by decide) ?_
          refine lv_iadd hx hb dX7_lookAtBest_201 ?_
          refine lv_dup2_11 hx hb dX7_lookAtBest_202 rfl rfl ?_
          obtain ⟨g80, hf⟩ := fd_grd hf
          refine fd_iald 78 (275 : Int32) C hH (by decide) rfl rfl g80 dX7_lookAtBest_203 ?_
          refine lv_iconst (v := (1 : Int32)) hx hb dX7_lookAtBest_204 (by decide) ?_
          refine lv_iadd hx hb dX7_lookAtBest_205 ?_
          obtain ⟨g81, hf⟩ := fd_grd hf
          refine fd_iast 78 (275 : Int32) C hH (by decide) rfl rfl g81 dX7_lookAtBest_206 (fun H locs hH => ?_)
          obtain ⟨S82, eS82, hf⟩ := fd_ltS hf
          rw [← eS82] at hH
          obtain ⟨y83, ey83, hf⟩ := fd_ltS hf
          refine lv_iinc (v := y83) (lv' := [(1, .int y83), (3, .int (-6 : Int32)), (0, .ref (E.2.2 73)), (2, .int o48)]) hx hb dX7_lookAtBest_207 hl (k := 2) rfl (by rw [ey83]; rfl) (by decide) rfl (fun ls hl => ?_)
          refine lv_goto (tgt := 2) hx hb dX7_lookAtBest_210 (by decide) ?_
          exact ih S82 y83 _ _ _ hf hH (lv_sub hl [2, 0] rfl)
        · have hf := fd_ifp c75 hf
          refine lv_iload_n hx hb dX7_lookAtBest_147 rfl (lv_at hl 0 rfl) ?_
          refine lv_aload_n hx hb dX7_lookAtBest_148 rfl (lv_at hl 1 rfl) ?_
          refine fd_get 73 7 4 C hH (by decide) rfl (by decide) (by decide) wf_X7_30 (v := .ref (E.2.2 78)) rfl dX7_lookAtBest_149 ?_
          refine lv_bipush (v := (39 : Int32)) hx hb dX7_lookAtBest_152 (by decide) ?_
          refine lv_iconst (v := (3 : Int32)) hx hb dX7_lookAtBest_154 (by decide) ?_
          refine lv_iload_n hx hb dX7_lookAtBest_155 rfl (lv_at hl 2 rfl) ?_
          refine lv_imul hx hb dX7_lookAtBest_156 ?_
          refine lv_iadd hx hb dX7_lookAtBest_157 ?_
          refine lv_iconst (v := (1 : Int32)) hx hb dX7_lookAtBest_158 (by decide) ?_
          refine lv_iadd hx hb dX7_lookAtBest_159 ?_
          obtain ⟨g84, hf⟩ := fd_grd hf
          refine fd_iald 78 (275 : Int32) C hH (by decide) rfl rfl g84 dX7_lookAtBest_160 ?_
          refine lv_icmp_eq (tgt := 207) hx hb dX7_lookAtBest_161 (by decide) (fun c85 => ?_) (fun c85 => ?_)
          · have hf := fd_ifp c85 hf
            obtain ⟨y86, ey86, hf⟩ := fd_ltS hf
            refine lv_iinc (v := y86) (lv' := [(1, .int y86), (3, .int (-6 : Int32)), (0, .ref (E.2.2 73)), (2, .int o48)]) hx hb dX7_lookAtBest_207 hl (k := 2) rfl (by rw [ey86]; rfl) (by decide) rfl (fun ls hl => ?_)
            refine lv_goto (tgt := 2) hx hb dX7_lookAtBest_210 (by decide) ?_
            exact ih S y86 _ _ _ hf hH (lv_sub hl [2, 0] rfl)
          · have hf := fd_ifn c85 hf
            refine lv_aload_n hx hb dX7_lookAtBest_164 rfl (lv_at hl 1 rfl) ?_
            refine fd_get 73 7 4 C hH (by decide) rfl (by decide) (by decide) wf_X7_30 (v := .ref (E.2.2 78)) rfl dX7_lookAtBest_165 ?_
            refine lv_bipush (v := (39 : Int32)) hx hb dX7_lookAtBest_168 (by decide) ?_
            refine lv_iconst (v := (3 : Int32)) hx hb dX7_lookAtBest_170 (by decide) ?_
            refine lv_iload_n hx hb dX7_lookAtBest_171 rfl (lv_at hl 2 rfl) ?_
            refine lv_imul hx hb dX7_lookAtBest_172 ?_
            refine lv_iadd hx hb dX7_lookAtBest_173 ?_
            refine lv_iload_n hx hb dX7_lookAtBest_174 rfl (lv_at hl 3 rfl) ?_
            obtain ⟨g87, hf⟩ := fd_grd hf
            refine fd_iast 78 (275 : Int32) C hH (by decide) rfl rfl g87 dX7_lookAtBest_175 (fun H locs hH => ?_)
            obtain ⟨S88, eS88, hf⟩ := fd_ltS hf
            rw [← eS88] at hH
            refine lv_aload_n hx hb dX7_lookAtBest_176 rfl (lv_at hl 1 rfl) ?_
            refine fd_get 73 7 4 C hH (by decide) rfl (by decide) (by decide) wf_X7_30 (v := .ref (E.2.2 78)) rfl dX7_lookAtBest_177 ?_
            refine lv_bipush (v := (39 : Int32)) hx hb dX7_lookAtBest_180 (by decide) ?_
            refine lv_iconst (v := (3 : Int32)) hx hb dX7_lookAtBest_182 (by decide) ?_
            refine lv_iload_n hx hb dX7_lookAtBest_183 rfl (lv_at hl 2 rfl) ?_
            refine lv_imul hx hb dX7_lookAtBest_184 ?_
            refine lv_iadd hx hb dX7_lookAtBest_185 ?_
            refine lv_iconst (v := (1 : Int32)) hx hb dX7_lookAtBest_186 (by decide) ?_
            refine lv_iadd hx hb dX7_lookAtBest_187 ?_
            refine lv_iload_n hx hb dX7_lookAtBest_188 rfl (lv_at hl 0 rfl) ?_
            obtain ⟨g89, hf⟩ := fd_grd hf
            refine fd_iast 78 (275 : Int32) C hH (by decide) rfl rfl g89 dX7_lookAtBest_189 (fun H locs hH => ?_)
            obtain ⟨S90, eS90, hf⟩ := fd_ltS hf
            rw [← eS90] at hH
            refine lv_aload_n hx hb dX7_lookAtBest_190 rfl (lv_at hl 1 rfl) ?_
            refine fd_get 73 7 4 C hH (by decide) rfl (by decide) (by decide) wf_X7_30 (v := .ref (E.2.2 78)) rfl dX7_lookAtBest_191 ?_
            refine lv_bipush (v := (39 : Int32)) hx hb dX7_lookAtBest_194 (by decide) ?_
            refine lv_iconst (v := (3 : Int32)) hx hb dX7_lookAtBest_196 (by decide) ?_
            refine lv_iload_n hx hb dX7_lookAtBest_197 rfl (lv_at hl 2 rfl) ?_
            refine lv_imul hx hb dX7_lookAtBest_198 ?_
            refine lv_iadd hx hb dX7_lookAtBest_199 ?_
            refine lv_iconst (v := (2 : Int32)) hx hb dX7_lookAtBest_200 (by decide) ?_
            refine lv_iadd hx hb dX7_lookAtBest_201 ?_
            refine lv_dup2_11 hx hb dX7_lookAtBest_202 rfl rfl ?_
            obtain ⟨g91, hf⟩ := fd_grd hf
            refine fd_iald 78 (275 : Int32) C hH (by decide) rfl rfl g91 dX7_lookAtBest_203 ?_
            refine lv_iconst (v := (1 : Int32)) hx hb dX7_lookAtBest_204 (by decide) ?_
            refine lv_iadd hx hb dX7_lookAtBest_205 ?_
            obtain ⟨g92, hf⟩ := fd_grd hf
            refine fd_iast 78 (275 : Int32) C hH (by decide) rfl rfl g92 dX7_lookAtBest_206 (fun H locs hH => ?_)
            obtain ⟨S93, eS93, hf⟩ := fd_ltS hf
            rw [← eS93] at hH
            obtain ⟨y94, ey94, hf⟩ := fd_ltS hf
            refine lv_iinc (v := y94) (lv' := [(1, .int y94), (3, .int (-6 : Int32)), (0, .ref (E.2.2 73)), (2, .int o48)]) hx hb dX7_lookAtBest_207 hl (k := 2) rfl (by rw [ey94]; rfl) (by decide) rfl (fun ls hl => ?_)
            refine lv_goto (tgt := 2) hx hb dX7_lookAtBest_210 (by decide) ?_
            exact ih S93 y94 _ _ _ hf hH (lv_sub hl [2, 0] rfl)
set_option maxHeartbeats 4000000 in
set_option maxRecDepth 100000 in
theorem cM_lookAtBest (l : Launch) (E : fd_E) (fu : Nat) (S : fd_S) {S0 : fd_S} (hf : zM_lookAtBest fu S = some S0) : fd_Ct l yX7_lookAtBest cX7_lookAtBest 7 none (fd_rm 2 44) E S [.ref (E.2.2 73)] none S0 := by
  unfold zM_lookAtBest at hf
  refine fd_Ct_of (by decide +kernel) (Nat.le_of_ble_eq_true rfl) ?_
  intro p e s m below meth c ls C hr hlk hH hl
  have hx := C.1
  have hb := C.2.1
  have hl : lv_has ls 7 [(0, .ref (E.2.2 73))] := hl
  refine lv_iconst (v := (0 : Int32)) hx hb dX7_lookAtBest_0 (by decide) ?_
  refine lv_istore_n (lv' := [(1, .int (0 : Int32)), (0, .ref (E.2.2 73))]) hx hb dX7_lookAtBest_1 rfl hl (by decide) rfl (fun ls hl => ?_)
  exact wM_lookAtBest_2 C hr hlk fu fu S (0 : Int32) _ _ _ hf hH (lv_sub hl [1, 0] rfl)
