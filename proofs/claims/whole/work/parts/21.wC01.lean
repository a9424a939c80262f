theorem dX2_dropFirstFree_0 : decode cX2_dropFirstFree 0 = .ok (.iconst 0, 1) := by decide +kernel
theorem dX2_dropFirstFree_1 : decode cX2_dropFirstFree 1 = .ok (.istore_n 1, 1) := by decide +kernel
theorem dX2_dropFirstFree_2 : decode cX2_dropFirstFree 2 = .ok (.iload_n 1, 1) := by decide +kernel
theorem dX2_dropFirstFree_3 : decode cX2_dropFirstFree 3 = .ok (.aload_n 0, 1) := by decide +kernel
theorem dX2_dropFirstFree_4 : decode cX2_dropFirstFree 4 = .ok (.getfield 18, 3) := by decide +kernel
theorem dX2_dropFirstFree_7 : decode cX2_dropFirstFree 7 = .ok (.if_icmp .ge 28, 3) := by decide +kernel
theorem dX2_dropFirstFree_10 : decode cX2_dropFirstFree 10 = .ok (.aload_n 0, 1) := by decide +kernel
theorem dX2_dropFirstFree_11 : decode cX2_dropFirstFree 11 = .ok (.getfield 11, 3) := by decide +kernel
theorem dX2_dropFirstFree_14 : decode cX2_dropFirstFree 14 = .ok (.iload_n 1, 1) := by decide +kernel
theorem dX2_dropFirstFree_15 : decode cX2_dropFirstFree 15 = .ok (.aaload, 1) := by decide +kernel
theorem dX2_dropFirstFree_16 : decode cX2_dropFirstFree 16 = .ok (.getfield 33, 3) := by decide +kernel
theorem dX2_dropFirstFree_19 : decode cX2_dropFirstFree 19 = .ok (.ifCond .ne 10, 3) := by decide +kernel
theorem dX2_dropFirstFree_22 : decode cX2_dropFirstFree 22 = .ok (.aload_n 0, 1) := by decide +kernel
theorem dX2_dropFirstFree_23 : decode cX2_dropFirstFree 23 = .ok (.iload_n 1, 1) := by decide +kernel
theorem dX2_dropFirstFree_24 : decode cX2_dropFirstFree 24 = .ok (.invokevirtual 37, 3) := by decide +kernel
theorem dX2_dropFirstFree_27 : decode cX2_dropFirstFree 27 = .ok (.iconst 1, 1) := by decide +kernel
theorem dX2_dropFirstFree_28 : decode cX2_dropFirstFree 28 = .ok (.ireturn, 1) := by decide +kernel
theorem dX2_dropFirstFree_29 : decode cX2_dropFirstFree 29 = .ok (.iinc 1 1, 3) := by decide +kernel
theorem dX2_dropFirstFree_32 : decode cX2_dropFirstFree 32 = .ok (.goto (-30), 3) := by decide +kernel
theorem dX2_dropFirstFree_35 : decode cX2_dropFirstFree 35 = .ok (.iconst 0, 1) := by decide +kernel
theorem dX2_dropFirstFree_36 : decode cX2_dropFirstFree 36 = .ok (.ireturn, 1) := by decide +kernel
set_option maxHeartbeats 4000000 in
set_option maxRecDepth 100000 in
theorem wQ_dropFirstFree_2 {p : Program} {l : Launch} {e : Env} {s : State} {m : MethodId} {args : Array Value} {below : List Frame} {meth : Method} {c : Code} {E : fd_E} (C : fd_C p s m args c yX2_dropFirstFree.cls cX2_dropFirstFree 2 E) (hr : meth.sig.returnType = (some .boolean)) (hlk : meth.locks = false) (fu : Nat) {r0 : Int32} {S0 : fd_S} : ∀ (n : Nat) (S : fd_S) (x1 : Int32) (H : Heap) (locs : List Loc) (ls : Array Slot), zQ_dropFirstFree_2 fu n S x1 = some (r0, S0) → fd_H E S s H locs → lv_has ls 2 [(0, .ref (E.2.2 3)), (1, .int x1)] → W p l e (fd_rm 2 45) s m args below meth c H locs 0 0 (MQ below (fd_Q E (some (.int r0)) S0) args s 0 0 (fd_A E)) (F0 m 2 ls []) := by
  have hx := C.1
  have hb := C.2.1
  intro n
  induction n with
  | zero =>
    intro S x1 H locs ls hf
    rw [zQ_dropFirstFree_2] at hf
    cases hf
  | succ n ih =>
    intro S x1 H locs ls hf hH hl
    rw [zQ_dropFirstFree_2] at hf
    refine lv_iload_n hx hb dX2_dropFirstFree_2 rfl (lv_at hl 1 rfl) ?_
    refine lv_aload_n hx hb dX2_dropFirstFree_3 rfl (lv_at hl 0 rfl) ?_
    refine fd_get 3 2 1 C hH (by decide) rfl (by decide) (by decide) wf_X2_18 (v := .int (S 3 (1 : Int32))) rfl dX2_dropFirstFree_4 ?_
    refine lv_icmp_ge (tgt := 35) hx hb dX2_dropFirstFree_7 (by decide) (fun c1 => ?_) (fun c1 => ?_)
    · have hf := fd_ifp c1 hf
      refine lv_iconst (v := (0 : Int32)) hx hb dX2_dropFirstFree_35 (by decide) ?_
      cases hf
      exact fd_zret .boolean C hr hlk hH rfl dX2_dropFirstFree_36
    · have hf := fd_ifn c1 hf
      refine lv_aload_n hx hb dX2_dropFirstFree_10 rfl (lv_at hl 0 rfl) ?_
      refine fd_get 3 2 0 C hH (by decide) rfl (by decide) (by decide) wf_X2_11 (v := .ref (E.2.2 4)) rfl dX2_dropFirstFree_11 ?_
      refine lv_iload_n hx hb dX2_dropFirstFree_14 rfl (lv_at hl 1 rfl) ?_
      obtain ⟨g2, hf⟩ := fd_grd hf
      refine fd_aald 4 (6 : Int32) C hH (by decide) rfl rfl g2 dX2_dropFirstFree_15 ?_
      refine fd_topr (fun k3 ek3 => ?_)
      have hf := fd_ltN ek3 hf
      obtain ⟨g4, hf⟩ := fd_grd hf
      refine fd_get k3 3 3 C hH (fd_rk1 g4) (fd_rk3 g4) (by decide) (by decide) wf_X2_33 (v := .int (S k3 (3 : Int32))) rfl dX2_dropFirstFree_16 ?_
      refine lv_if_ne (tgt := 29) hx hb dX2_dropFirstFree_19 (by decide) (fun c5 => ?_) (fun c5 => ?_)
      · have hf := fd_ifn c5 hf
        obtain ⟨y6, ey6, hf⟩ := fd_ltS hf
        refine lv_iinc (v := y6) (lv' := [(1, .int y6), (0, .ref (E.2.2 3))]) hx hb dX2_dropFirstFree_29 hl (k := 1) rfl (by rw [ey6]; rfl) (by decide) rfl (fun ls hl => ?_)
        refine lv_goto (tgt := 2) hx hb dX2_dropFirstFree_32 (by decide) ?_
        exact ih S y6 _ _ _ hf hH (lv_sub hl [1, 0] rfl)
      · have hf := fd_ifp c5 hf
        refine lv_aload_n hx hb dX2_dropFirstFree_22 rfl (lv_at hl 0 rfl) ?_
        refine lv_iload_n hx hb dX2_dropFirstFree_23 rfl (lv_at hl 1 rfl) ?_
        obtain ⟨S7, e8, hf⟩ := fd_bnd hf
        refine fd_callV0 3 2 [.int x1] C hl.1 hH (cQ_drop l E fu S x1 e8) wm_X2_37 (by decide) rfl (by decide) rfl ⟨rfl, rfl, Nat.le_of_ble_eq_true rfl, Nat.le_of_ble_eq_true rfl⟩ rfl rfl (Nat.le_of_ble_eq_true rfl) ⟨Nat.le_refl _, Nat.le_refl _⟩ dX2_dropFirstFree_24 (fun H locs hH => ?_)
        refine lv_iconst (v := (1 : Int32)) hx hb dX2_dropFirstFree_27 (by decide) ?_
        cases hf
        exact fd_zret .boolean C hr hlk hH rfl dX2_dropFirstFree_28
set_option maxHeartbeats 4000000 in
set_option maxRecDepth 100000 in
theorem cQ_dropFirstFree (l : Launch) (E : fd_E) (fu : Nat) (S : fd_S) {r0 : Int32} {S0 : fd_S} (hf : zQ_dropFirstFree fu S = some (r0, S0)) : fd_Ct l yX2_dropFirstFree cX2_dropFirstFree 2 (some .boolean) (fd_rm 2 45) E S [.ref (E.2.2 3)] (some (.int r0)) S0 := by
  unfold zQ_dropFirstFree at hf
  refine fd_Ct_of (by decide +kernel) (Nat.le_of_ble_eq_true rfl) ?_
  intro p e s m below meth c ls C hr hlk hH hl
  have hx := C.1
  have hb := C.2.1
  have hl : lv_has ls 2 [(0, .ref (E.2.2 3))] := hl
  refine lv_iconst (v := (0 : Int32)) hx hb dX2_dropFirstFree_0 (by decide) ?_
  refine lv_istore_n (lv' := [(1, .int (0 : Int32)), (0, .ref (E.2.2 3))]) hx hb dX2_dropFirstFree_1 rfl hl (by decide) rfl (fun ls hl => ?_)
  exact wQ_dropFirstFree_2 C hr hlk fu fu S (0 : Int32) _ _ _ hf hH (lv_sub hl [1, 0] rfl)
theorem dX2_make_0 : decode cX2_make 0 = .ok (.aload_n 0, 1) := by decide +kernel
theorem dX2_make_1 : decode cX2_make 1 = .ok (.getfield 18, 3) := by decide +kernel
theorem dX2_make_4 : decode cX2_make 4 = .ok (.bipush 6, 2) := by decide +kernel
theorem dX2_make_6 : decode cX2_make 6 = .ok (.if_icmp .lt 12, 3) := by decide +kernel
theorem dX2_make_9 : decode cX2_make 9 = .ok (.aload_n 0, 1) := by decide +kernel
theorem dX2_make_10 : decode cX2_make 10 = .ok (.invokevirtual 25, 3) := by decide +kernel
theorem dX2_make_13 : decode cX2_make 13 = .ok (.ifCond .ne 5, 3) := by decide +kernel
theorem dX2_make_16 : decode cX2_make 16 = .ok (.aconst_null, 1) := by decide +kernel
theorem dX2_make_17 : decode cX2_make 17 = .ok (.areturn, 1) := by decide +kernel
theorem dX2_make_18 : decode cX2_make 18 = .ok (.aload_n 0, 1) := by decide +kernel
theorem dX2_make_19 : decode cX2_make 19 = .ok (.getfield 11, 3) := by decide +kernel
theorem dX2_make_22 : decode cX2_make 22 = .ok (.aload_n 0, 1) := by decide +kernel
theorem dX2_make_23 : decode cX2_make 23 = .ok (.getfield 18, 3) := by decide +kernel
theorem dX2_make_26 : decode cX2_make 26 = .ok (.aaload, 1) := by decide +kernel
theorem dX2_make_27 : decode cX2_make 27 = .ok (.astore_n 3, 1) := by decide +kernel
theorem dX2_make_28 : decode cX2_make 28 = .ok (.aload_n 0, 1) := by decide +kernel
theorem dX2_make_29 : decode cX2_make 29 = .ok (.dup, 1) := by decide +kernel
theorem dX2_make_30 : decode cX2_make 30 = .ok (.getfield 18, 3) := by decide +kernel
theorem dX2_make_33 : decode cX2_make 33 = .ok (.iconst 1, 1) := by decide +kernel
theorem dX2_make_34 : decode cX2_make 34 = .ok (.iadd, 1) := by decide +kernel
theorem dX2_make_35 : decode cX2_make 35 = .ok (.putfield 18, 3) := by decide +kernel
theorem dX2_make_38 : decode cX2_make 38 = .ok (.aload_n 3, 1) := by decide +kernel
theorem dX2_make_39 : decode cX2_make 39 = .ok (.iload_n 1, 1) := by decide +kernel
theorem dX2_make_40 : decode cX2_make 40 = .ok (.iload_n 2, 1) := by decide +kernel
theorem dX2_make_41 : decode cX2_make 41 = .ok (.invokevirtual 29, 3) := by decide +kernel
theorem dX2_make_44 : decode cX2_make 44 = .ok (.aload_n 3, 1) := by decide +kernel
theorem dX2_make_45 : decode cX2_make 45 = .ok (.areturn, 1) := by decide +kernel
set_option maxHeartbeats 4000000 in
set_option maxRecDepth 100000 in
theorem wQ_make_18 {p : Program} {l : Launch} {e : Env} {s : State} {m : MethodId} {args : Array Value} {below : List Frame} {meth : Method} {c : Code} {E : fd_E} (C : fd_C p s m args c yX2_make.cls cX2_make 4 E) (hr : meth.sig.returnType = (some (.object "FlapDamper$RouteRecord"))) (hlk : meth.locks = false) (fu : Nat) {r0 : (Option Nat)} {S0 : fd_S} : ∀ (S : fd_S) (x1 : Int32) (x2 : Int32) (H : Heap) (locs : List Loc) (ls : Array Slot), zQ_make_18 fu S x1 x2 = some (r0, S0) → fd_H E S s H locs → lv_has ls 4 [(0, .ref (E.2.2 3)), (1, .int x1), (2, .int x2)] → W p l e (fd_rm 3 66) s m args below meth c H locs 0 0 (MQ below (fd_Q E (some (fd_rv E r0)) S0) args s 0 0 (fd_A E)) (F0 m 18 ls []) := by
  have hx := C.1
  have hb := C.2.1
  intro S x1 x2 H locs ls hf hH hl
  unfold zQ_make_18 at hf
  refine lv_aload_n hx hb dX2_make_18 rfl (lv_at hl 0 rfl) ?_
  refine fd_get 3 2 0 C hH (by decide) rfl (by decide) (by decide) wf_X2_11 (v := .ref (E.2.2 4)) rfl dX2_make_19 ?_
  refine lv_aload_n hx hb dX2_make_22 rfl (lv_at hl 0 rfl) ?_
  refine fd_get 3 2 1 C hH (by decide) rfl (by decide) (by decide) wf_X2_18 (v := .int (S 3 (1 : Int32))) rfl dX2_make_23 ?_
  obtain ⟨g2, hf⟩ := fd_grd hf
  refine fd_aald 4 (6 : Int32) C hH (by decide) rfl rfl g2 dX2_make_26 ?_
  refine fd_topr (fun k3 ek3 => ?_)
  have hf := fd_ltN ek3 hf
  refine lv_astore_n (lv' := [(3, .ref (E.2.2 k3)), (0, .ref (E.2.2 3)), (1, .int x1), (2, .int x2)]) hx hb dX2_make_27 rfl hl (by decide) rfl (fun ls hl => ?_)
  refine lv_aload_n hx hb dX2_make_28 rfl (lv_at hl 1 rfl) ?_
  refine lv_dup hx hb dX2_make_29 rfl ?_
  refine fd_get 3 2 1 C hH (by decide) rfl (by decide) (by decide) wf_X2_18 (v := .int (S 3 (1 : Int32))) rfl dX2_make_30 ?_
  refine lv_iconst (v := (1 : Int32)) hx hb dX2_make_33 (by decide) ?_
  refine lv_iadd hx hb dX2_make_34 ?_
  refine fd_put 3 2 1 (1 : Int32) C hH (by decide) rfl (by decide) (by decide) wf_X2_18 rfl rfl rfl rfl rfl (Nat.le_of_ble_eq_true rfl) dX2_make_35 (fun H locs hH => ?_)
  obtain ⟨S4, eS4, hf⟩ := fd_ltS hf
  rw [← eS4] at hH
  refine lv_aload_n hx hb dX2_make_38 rfl (lv_at hl 0 rfl) ?_
  refine lv_iload_n hx hb dX2_make_39 rfl (lv_at hl 2 rfl) ?_
  refine lv_iload_n hx hb dX2_make_40 rfl (lv_at hl 3 rfl) ?_
  obtain ⟨g5, hf⟩ := fd_grd hf
  obtain ⟨S6, e7, hf⟩ := fd_bnd hf
  refine fd_callV0 k3 3 [.int x1, .int x2] C hl.1 hH (cR_begin l E S4 k3 x1 x2 e7) wm_X2_29 (fd_rk1 g5) (fd_rk3 g5) (by decide) rfl ⟨rfl, rfl, Nat.le_of_ble_eq_true rfl, Nat.le_of_ble_eq_true rfl⟩ rfl rfl (Nat.le_of_ble_eq_true rfl) ⟨Nat.le_refl _, Nat.le_refl _⟩ dX2_make_41 (fun H locs hH => ?_)
  refine lv_aload_n hx hb dX2_make_44 rfl (lv_at hl 0 rfl) ?_
  cases hf
  exact fd_aret "FlapDamper$RouteRecord" C hr hlk hH (Or.inr ⟨_, rfl⟩) dX2_make_45
set_option maxHeartbeats 4000000 in
set_option maxRecDepth 100000 in
theorem cQ_make (l : Launch) (E : fd_E) (fu : Nat) (S : fd_S) (x1 : Int32) (x2 : Int32) {r0 : (Option Nat)} {S0 : fd_S} (hf : zQ_make fu S x1 x2 = some (r0, S0)) : fd_Ct l yX2_make cX2_make 4 (some (.object "FlapDamper$RouteRecord")) (fd_rm 3 66) E S [.ref (E.2.2 3), .int x1, .int x2] (some (fd_rv E r0)) S0 := by
  unfold zQ_make at hf
  refine fd_Ct_of (by decide +kernel) (Nat.le_of_ble_eq_true rfl) ?_
  intro p e s m below meth c ls C hr hlk hH hl
  have hx := C.1
  have hb := C.2.1
  have hl : lv_has ls 4 [(0, .ref (E.2.2 3)), (1, .int x1), (2, .int x2)] := hl
  refine lv_aload_n hx hb dX2_make_0 rfl (lv_at hl 0 rfl) ?_
  refine fd_get 3 2 1 C hH (by decide) rfl (by decide) (by decide) wf_X2_18 (v := .int (S 3 (1 : Int32))) rfl dX2_make_1 ?_
  refine lv_bipush (v := (6 : Int32)) hx hb dX2_make_4 (by decide) ?_
  refine lv_icmp_lt (tgt := 18) hx hb dX2_make_6 (by decide) (fun c1 => ?_) (fun c1 => ?_)
  · have hf := fd_ifp c1 hf
    exact wQ_make_18 C hr hlk fu S x1 x2 _ _ _ hf hH (lv_sub hl [0, 1, 2] rfl)
  · have hf := fd_ifn c1 hf
    refine lv_aload_n hx hb dX2_make_9 rfl (lv_at hl 0 rfl) ?_
    obtain ⟨q11, e9, hf⟩ := fd_bnd hf
    obtain ⟨r10, S8⟩ := q11
    have hf := fd_prE hf
    refine fd_callV1 3 2 [] C hl.1 hH (cQ_dropFirstFree l E fu S e9) wm_X2_25 (by decide) rfl (by decide) rfl ⟨rfl, rfl, Nat.le_of_ble_eq_true rfl, Nat.le_of_ble_eq_true rfl⟩ rfl rfl (Nat.le_of_ble_eq_true rfl) ⟨Nat.le_refl _, Nat.le_refl _⟩ dX2_make_10 (fun H locs hH => ?_)
    refine lv_if_ne (tgt := 18) hx hb dX2_make_13 (by decide) (fun c12 => ?_) (fun c12 => ?_)
    · have hf := fd_ifn c12 hf
      exact wQ_make_18 C hr hlk fu S8 x1 x2 _ _ _ hf hH (lv_sub hl [0, 1, 2] rfl)
    · have hf := fd_ifp c12 hf
      refine lv_null hx hb dX2_make_16 ?_
      cases hf
      exact fd_aret "FlapDamper$RouteRecord" C hr hlk hH (Or.inl rfl) dX2_make_17
theorem dX2_heldOnes_0 : decode cX2_heldOnes 0 = .ok (.iconst 0, 1) := by decide +kernel
theorem dX2_heldOnes_1 : decode cX2_heldOnes 1 = .ok (.istore_n 1, 1) := by decide +kernel
theorem dX2_heldOnes_2 : decode cX2_heldOnes 2 = .ok (.iconst 0, 1) := by decide +kernel
theorem dX2_heldOnes_3 : decode cX2_heldOnes 3 = .ok (.istore_n 2, 1) := by decide +kernel
theorem dX2_heldOnes_4 : decode cX2_heldOnes 4 = .ok (.iload_n 2, 1) := by decide +kernel
theorem dX2_heldOnes_5 : decode cX2_heldOnes 5 = .ok (.aload_n 0, 1) := by decide +kernel
theorem dX2_heldOnes_6 : decode cX2_heldOnes 6 = .ok (.getfield 18, 3) := by decide +kernel
theorem dX2_heldOnes_9 : decode cX2_heldOnes 9 = .ok (.if_icmp .ge 24, 3) := by decide +kernel
theorem dX2_heldOnes_12 : decode cX2_heldOnes 12 = .ok (.aload_n 0, 1) := by decide +kernel
theorem dX2_heldOnes_13 : decode cX2_heldOnes 13 = .ok (.getfield 11, 3) := by decide +kernel
theorem dX2_heldOnes_16 : decode cX2_heldOnes 16 = .ok (.iload_n 2, 1) := by decide +kernel
theorem dX2_heldOnes_17 : decode cX2_heldOnes 17 = .ok (.aaload, 1) := by decide +kernel
theorem dX2_heldOnes_18 : decode cX2_heldOnes 18 = .ok (.getfield 33, 3) := by decide +kernel
theorem dX2_heldOnes_21 : decode cX2_heldOnes 21 = .ok (.ifCond .eq 6, 3) := by decide +kernel
theorem dX2_heldOnes_24 : decode cX2_heldOnes 24 = .ok (.iinc 1 1, 3) := by decide +kernel
theorem dX2_heldOnes_27 : decode cX2_heldOnes 27 = .ok (.iinc 2 1, 3) := by decide +kernel
theorem dX2_heldOnes_30 : decode cX2_heldOnes 30 = .ok (.goto (-26), 3) := by decide +kernel
theorem dX2_heldOnes_33 : decode cX2_heldOnes 33 = .ok (.iload_n 1, 1) := by decide +kernel
theorem dX2_heldOnes_34 : decode cX2_heldOnes 34 = .ok (.ireturn, 1) := by decide +kernel
set_option maxHeartbeats 4000000 in
set_option maxRecDepth 100000 in
theorem wQ_heldOnes_4 {p : Program} {l : Launch} {e : Env} {s : State} {m : MethodId} {args : Array Value} {below : List Frame} {meth : Method} {c : Code} {E : fd_E} (C : fd_C p s m args c yX2_heldOnes.cls cX2_heldOnes 3 E) (hr : meth.sig.returnType = (some .int)) (hlk : meth.locks = false) (fu : Nat) {r0 : Int32} : ∀ (n : Nat) (S : fd_S) (x1 : Int32) (x2 : Int32) (H : Heap) (locs : List Loc) (ls : Array Slot), zQ_heldOnes_4 fu n S x1 x2 = some r0 → fd_H E S s H locs → lv_has ls 3 [(0, .ref (E.2.2 3)), (1, .int x1), (2, .int x2)] → W p l e (fd_rm 0 0) s m args below meth c H locs 0 0 (MQ below (fd_Q E (some (.int r0)) S) args s 0 0 (fd_A E)) (F0 m 4 ls []) := by
  have hx := C.1
  have hb := C.2.1
  intro n
  induction n with
  | zero =>
    intro S x1 x2 H locs ls hf
    rw [zQ_heldOnes_4] at hf
    cases hf
  | succ n ih =>
    intro S x1 x2 H locs ls hf hH hl
    rw [zQ_heldOnes_4] at hf
    refine lv_iload_n hx hb dX2_heldOnes_4 rfl (lv_at hl 2 rfl) ?_
    refine lv_aload_n hx hb dX2_heldOnes_5 rfl (lv_at hl 0 rfl) ?_
    refine fd_get 3 2 1 C hH (by decide) rfl (by decide) (by decide) wf_X2_18 (v := .int (S 3 (1 : Int32))) rfl dX2_heldOnes_6 ?_
    refine lv_icmp_ge (tgt := 33) hx hb dX2_heldOnes_9 (by decide) (fun c1 => ?_) (fun c1 => ?_)
    · have hf := fd_ifp c1 hf
      refine lv_iload_n hx hb dX2_heldOnes_33 rfl (lv_at hl 1 rfl) ?_
      cases hf
      exact fd_iret C hr hlk hH dX2_heldOnes_34
    · have hf := fd_ifn c1 hf
      refine lv_aload_n hx hb dX2_heldOnes_12 rfl (lv_at hl 0 rfl) ?_
      refine fd_get 3 2 0 C hH (by decide) rfl (by decide) (by decide) wf_X2_11 (v := .ref (E.2.2 4)) rfl dX2_heldOnes_13 ?_
      refine lv_iload_n hx hb dX2_heldOnes_16 rfl (lv_at hl 2 rfl) ?_
      obtain ⟨g2, hf⟩ := fd_grd hf
      refine fd_aald 4 (6 : Int32) C hH (by decide) rfl rfl g2 dX2_heldOnes_17 ?_
      refine fd_topr (fun k3 ek3 => ?_)
      have hf := fd_ltN ek3 hf
      obtain ⟨g4, hf⟩ := fd_grd hf
      refine fd_get k3 3 3 C hH (fd_rk1 g4) (fd_rk3 g4) (by decide) (by decide) wf_X2_33 (v := .int (S k3 (3 : Int32))) rfl dX2_heldOnes_18 ?_
      refine lv_if_eq (tgt := 27) hx hb dX2_heldOnes_21 (by decide) (fun c5 => ?_) (fun c5 => ?_)
      · have hf := fd_ifp c5 hf
        obtain ⟨y6, ey6, hf⟩ := fd_ltS hf
        refine lv_iinc (v := y6) (lv' := [(2, .int y6), (0, .ref (E.2.2 3)), (1, .int x1)]) hx hb dX2_heldOnes_27 hl (k := 2) rfl (by rw [ey6]; rfl) (by decide) rfl (fun ls hl => ?_)
        refine lv_goto (tgt := 4) hx hb dX2_heldOnes_30 (by decide) ?_
        exact ih S x1 y6 _ _ _ hf hH (lv_sub hl [1, 2, 0] rfl)
      · have hf := fd_ifn c5 hf
        obtain ⟨y7, ey7, hf⟩ := fd_ltS hf
        refine lv_iinc (v := y7) (lv' := [(1, .int y7), (0, .ref (E.2.2 3)), (2, .int x2)]) hx hb dX2_heldOnes_24 hl (k := 1) rfl (by rw [ey7]; rfl) (by decide) rfl (fun ls hl => ?_)
        obtain ⟨y8, ey8, hf⟩ := fd_ltS hf
        refine lv_iinc (v := y8) (lv' := [(2, .int y8), (1, .int y7), (0, .ref (E.2.2 3))]) hx hb dX2_heldOnes_27 hl (k := 2) rfl (by rw [ey8]; rfl) (by decide) rfl (fun ls hl => ?_)
        refine lv_goto (tgt := 4) hx hb dX2_heldOnes_30 (by decide) ?_
        exact ih S y7 y8 _ _ _ hf hH (lv_sub hl [2, 1, 0] rfl)
set_option maxHeartbeats 4000000 in
set_option maxRecDepth 100000 in
theorem cQ_heldOnes (l : Launch) (E : fd_E) (fu : Nat) (S : fd_S) {r0 : Int32} (hf : zQ_heldOnes fu S = some r0) : fd_Ct l yX2_heldOnes cX2_heldOnes 3 (some .int) (fd_rm 0 0) E S [.ref (E.2.2 3)] (some (.int r0)) S := by
  unfold zQ_heldOnes at hf
  refine fd_Ct_of (by decide +kernel) (Nat.le_of_ble_eq_true rfl) ?_
  intro p e s m below meth c ls C hr hlk hH hl
  have hx := C.1
  have hb := C.2.1
  have hl : lv_has ls 3 [(0, .ref (E.2.2 3))] := hl
  refine lv_iconst (v := (0 : Int32)) hx hb dX2_heldOnes_0 (by decide) ?_
  refine lv_istore_n (lv' := [(1, .int (0 : Int32)), (0, .ref (E.2.2 3))]) hx hb dX2_heldOnes_1 rfl hl (by decide) rfl (fun ls hl => ?_)
  refine lv_iconst (v := (0 : Int32)) hx hb dX2_heldOnes_2 (by decide) ?_
  refine lv_istore_n (lv' := [(2, .int (0 : Int32)), (1, .int (0 : Int32)), (0, .ref (E.2.2 3))]) hx hb dX2_heldOnes_3 rfl hl (by decide) rfl (fun ls hl => ?_)
  exact wQ_heldOnes_4 C hr hlk fu fu S (0 : Int32) (0 : Int32) _ _ _ hf hH (lv_sub hl [2, 1, 0] rfl)
theorem dX2_copyFrom_0 : decode cX2_copyFrom 0 = .ok (.iconst 0, 1) := by decide +kernel
theorem dX2_copyFrom_1 : decode cX2_copyFrom 1 = .ok (.istore_n 2, 1) := by decide +kernel
theorem dX2_copyFrom_2 : decode cX2_copyFrom 2 = .ok (.iload_n 2, 1) := by decide +kernel
theorem dX2_copyFrom_3 : decode cX2_copyFrom 3 = .ok (.bipush 6, 2) := by decide +kernel
theorem dX2_copyFrom_5 : decode cX2_copyFrom 5 = .ok (.if_icmp .ge 24, 3) := by decide +kernel
theorem dX2_copyFrom_8 : decode cX2_copyFrom 8 = .ok (.aload_n 0, 1) := by decide +kernel
theorem dX2_copyFrom_9 : decode cX2_copyFrom 9 = .ok (.getfield 11, 3) := by decide +kernel
theorem dX2_copyFrom_12 : decode cX2_copyFrom 12 = .ok (.iload_n 2, 1) := by decide +kernel
theorem dX2_copyFrom_13 : decode cX2_copyFrom 13 = .ok (.aaload, 1) := by decide +kernel
theorem dX2_copyFrom_14 : decode cX2_copyFrom 14 = .ok (.aload_n 1, 1) := by decide +kernel
theorem dX2_copyFrom_15 : decode cX2_copyFrom 15 = .ok (.getfield 11, 3) := by decide +kernel
theorem dX2_copyFrom_18 : decode cX2_copyFrom 18 = .ok (.iload_n 2, 1) := by decide +kernel
theorem dX2_copyFrom_19 : decode cX2_copyFrom 19 = .ok (.aaload, 1) := by decide +kernel
theorem dX2_copyFrom_20 : decode cX2_copyFrom 20 = .ok (.invokevirtual 48, 3) := by decide +kernel
theorem dX2_copyFrom_23 : decode cX2_copyFrom 23 = .ok (.iinc 2 1, 3) := by decide +kernel
theorem dX2_copyFrom_26 : decode cX2_copyFrom 26 = .ok (.goto (-24), 3) := by decide +kernel
theorem dX2_copyFrom_29 : decode cX2_copyFrom 29 = .ok (.aload_n 0, 1) := by decide +kernel
theorem dX2_copyFrom_30 : decode cX2_copyFrom 30 = .ok (.aload_n 1, 1) := by decide +kernel
theorem dX2_copyFrom_31 : decode cX2_copyFrom 31 = .ok (.getfield 18, 3) := by decide +kernel
theorem dX2_copyFrom_34 : decode cX2_copyFrom 34 = .ok (.putfield 18, 3) := by decide +kernel
theorem dX2_copyFrom_37 : decode cX2_copyFrom 37 = .ok (.aload_n 0, 1) := by decide +kernel
theorem dX2_copyFrom_38 : decode cX2_copyFrom 38 = .ok (.aload_n 1, 1) := by decide +kernel
theorem dX2_copyFrom_39 : decode cX2_copyFrom 39 = .ok (.getfield 45, 3) := by decide +kernel
theorem dX2_copyFrom_42 : decode cX2_copyFrom 42 = .ok (.putfield 45, 3) := by decide +kernel
theorem dX2_copyFrom_45 : decode cX2_copyFrom 45 = .ok (.return_, 1) := by decide +kernel
set_option maxHeartbeats 4000000 in
set_option maxRecDepth 100000 in
theorem wQ_copyFrom_2 {p : Program} {l : Launch} {e : Env} {s : State} {m : MethodId} {args : Array Value} {below : List Frame} {meth : Method} {c : Code} {E : fd_E} (C : fd_C p s m args c yX2_copyFrom.cls cX2_copyFrom 3 E) (hr : meth.sig.returnType = none) (hlk : meth.locks = false) (u : Nat) (hu : fd_st u) (v : Nat) (hv : fd_st v) (fu : Nat) {S0 : fd_S} : ∀ (n : Nat) (S : fd_S) (x2 : Int32) (H : Heap) (locs : List Loc) (ls : Array Slot), zQ_copyFrom_2 u v fu n S x2 = some S0 → fd_H E S s H locs → lv_has ls 3 [(0, .ref (E.2.2 (u + 3))), (1, .ref (E.2.2 (v + 3))), (2, .int x2)] → W p l e (fd_rm 2 39) s m args below meth c H locs 0 0 (MQ below (fd_Q E none S0) args s 0 0 (fd_A E)) (F0 m 2 ls []) := by
  have hx := C.1
  have hb := C.2.1
  intro n
  induction n with
  | zero =>
    intro S x2 H locs ls hf
    rw [zQ_copyFrom_2] at hf
    cases hf
  | succ n ih =>
    intro S x2 H locs ls hf hH hl
    rw [zQ_copyFrom_2] at hf
    refine lv_iload_n hx hb dX2_copyFrom_2 rfl (lv_at hl 2 rfl) ?_
    refine lv_bipush (v := (6 : Int32)) hx hb dX2_copyFrom_3 (by decide) ?_
    refine lv_icmp_ge (tgt := 29) hx hb dX2_copyFrom_5 (by decide) (fun c1 => ?_) (fun c1 => ?_)
    · have hf := fd_ifp c1 hf
      refine lv_aload_n hx hb dX2_copyFrom_29 rfl (lv_at hl 0 rfl) ?_
      refine lv_aload_n hx hb dX2_copyFrom_30 rfl (lv_at hl 1 rfl) ?_
      refine fd_get (v + 3) 2 1 C hH (fd_st1 hv 3 (by decide)) (fd_st2 hv 3 (by decide) rfl) (by decide) (by decide) wf_X2_18 (v := .int (S (v + 3) (1 : Int32))) rfl dX2_copyFrom_31 ?_
      refine fd_put (u + 3) 2 1 (1 : Int32) C hH (fd_st1 hu 3 (by decide)) (fd_st2 hu 3 (by decide) rfl) (by decide) (by decide) wf_X2_18 rfl rfl rfl rfl rfl (Nat.le_of_ble_eq_true rfl) dX2_copyFrom_34 (fun H locs hH => ?_)
      obtain ⟨S2, eS2, hf⟩ := fd_ltS hf
      rw [← eS2] at hH
      refine lv_aload_n hx hb dX2_copyFrom_37 rfl (lv_at hl 0 rfl) ?_
      refine lv_aload_n hx hb dX2_copyFrom_38 rfl (lv_at hl 1 rfl) ?_
      refine fd_get (v + 3) 2 2 C hH (fd_st1 hv 3 (by decide)) (fd_st2 hv 3 (by decide) rfl) (by decide) (by decide) wf_X2_45 (v := .int (S2 (v + 3) (2 : Int32))) rfl dX2_copyFrom_39 ?_
      refine fd_put (u + 3) 2 2 (2 : Int32) C hH (fd_st1 hu 3 (by decide)) (fd_st2 hu 3 (by decide) rfl) (by decide) (by decide) wf_X2_45 rfl rfl rfl rfl rfl (Nat.le_of_ble_eq_true rfl) dX2_copyFrom_42 (fun H locs hH => ?_)
      obtain ⟨S3, eS3, hf⟩ := fd_ltS hf
      rw [← eS3] at hH
      cases hf
      exact fd_vret C hr hlk hH dX2_copyFrom_45
    · have hf := fd_ifn c1 hf
      refine lv_aload_n hx hb dX2_copyFrom_8 rfl (lv_at hl 0 rfl) ?_
      refine fd_get (u + 3) 2 0 C hH (fd_st1 hu 3 (by decide)) (fd_st2 hu 3 (by decide) rfl) (by decide) (by decide) wf_X2_11 (v := .ref (E.2.2 (u + 4))) rfl dX2_copyFrom_9 ?_
      refine lv_iload_n hx hb dX2_copyFrom_12 rfl (lv_at hl 2 rfl) ?_
      obtain ⟨g4, hf⟩ := fd_grd hf
      refine fd_aald (u + 4) (6 : Int32) C hH (fd_st1 hu 4 (by decide)) (fd_st2 hu 4 (by decide) rfl) (fd_st4 hu 4 (by decide) rfl) g4 dX2_copyFrom_13 ?_
      refine fd_topr (fun k5 ek5 => ?_)
      have hf := fd_ltN ek5 hf
      refine lv_aload_n hx hb dX2_copyFrom_14 rfl (lv_at hl 1 rfl) ?_
      refine fd_get (v + 3) 2 0 C hH (fd_st1 hv 3 (by decide)) (fd_st2 hv 3 (by decide) rfl) (by decide) (by decide) wf_X2_11 (v := .ref (E.2.2 (v + 4))) rfl dX2_copyFrom_15 ?_
      refine lv_iload_n hx hb dX2_copyFrom_18 rfl (lv_at hl 2 rfl) ?_
      obtain ⟨g6, hf⟩ := fd_grd hf
      refine fd_aald (v + 4) (6 : Int32) C hH (fd_st1 hv 4 (by decide)) (fd_st2 hv 4 (by decide) rfl) (fd_st4 hv 4 (by decide) rfl) g6 dX2_copyFrom_19 ?_
      refine fd_topr (fun k7 ek7 => ?_)
      have hf := fd_ltN ek7 hf
      obtain ⟨g8, hf⟩ := fd_grd hf
      obtain ⟨S9, e10, hf⟩ := fd_bnd hf
      refine fd_callV0 k5 3 [.ref (E.2.2 k7)] C hl.1 hH (cR_copyFrom l E S k5 k7 e10) wm_X2_48 (fd_rk1 g8) (fd_rk3 g8) (by decide) rfl ⟨rfl, rfl, Nat.le_of_ble_eq_true rfl, Nat.le_of_ble_eq_true rfl⟩ rfl rfl (Nat.le_of_ble_eq_true rfl) ⟨Nat.le_refl _, Nat.le_refl _⟩ dX2_copyFrom_20 (fun H locs hH => ?_)
      obtain ⟨y11, ey11, hf⟩ := fd_ltS hf
      refine lv_iinc (v := y11) (lv' := [(2, .int y11), (0, .ref (E.2.2 (u + 3))), (1, .ref (E.2.2 (v + 3)))]) hx hb dX2_copyFrom_23 hl (k := 2) rfl (by rw [ey11]; rfl) (by decide) rfl (fun ls hl => ?_)
      refine lv_goto (tgt := 2) hx hb dX2_copyFrom_26 (by decide) ?_
      exact ih S9 y11 _ _ _ hf hH (lv_sub hl [1, 2, 0] rfl)
set_option maxHeartbeats 4000000 in
set_option maxRecDepth 100000 in
theorem cQ_copyFrom (l : Launch) (E : fd_E) (fu : Nat) (S : fd_S) (u : Nat) (v : Nat) (hu : fd_st u) (hv : fd_st v) {S0 : fd_S} (hf : zQ_copyFrom fu S u v = some S0) : fd_Ct l yX2_copyFrom cX2_copyFrom 3 none (fd_rm 2 39) E S [.ref (E.2.2 (u + 3)), .ref (E.2.2 (v + 3))] none S0 := by
  unfold zQ_copyFrom at hf
  refine fd_Ct_of (by decide +kernel) (Nat.le_of_ble_eq_true rfl) ?_
  intro p e s m below meth c ls C hr hlk hH hl
  have hx := C.1
  have hb := C.2.1
  have hl : lv_has ls 3 [(0, .ref (E.2.2 (u + 3))), (1, .ref (E.2.2 (v + 3)))] := hl
  refine lv_iconst (v := (0 : Int32)) hx hb dX2_copyFrom_0 (by decide) ?_
  refine lv_istore_n (lv' := [(2, .int (0 : Int32)), (0, .ref (E.2.2 (u + 3))), (1, .ref (E.2.2 (v + 3)))]) hx hb dX2_copyFrom_1 rfl hl (by decide) rfl (fun ls hl => ?_)
  exact wQ_copyFrom_2 C hr hlk u hu v hv fu fu S (0 : Int32) _ _ _ hf hH (lv_sub hl [1, 2, 0] rfl)
theorem dX1_put_0 : decode cX1_put 0 = .ok (.aload_n 0, 1) := by decide +kernel
theorem dX1_put_1 : decode cX1_put 1 = .ok (.getfield 15, 3) := by decide +kernel
theorem dX1_put_4 : decode cX1_put 4 = .ok (.aload_n 0, 1) := by decide +kernel
theorem dX1_put_5 : decode cX1_put 5 = .ok (.getfield 18, 3) := by decide +kernel
theorem dX1_put_8 : decode cX1_put 8 = .ok (.iaload, 1) := by decide +kernel
theorem dX1_put_9 : decode cX1_put 9 = .ok (.istore_n 2, 1) := by decide +kernel
theorem dX1_put_10 : decode cX1_put 10 = .ok (.iload_n 2, 1) := by decide +kernel
theorem dX1_put_11 : decode cX1_put 11 = .ok (.bipush 20, 2) := by decide +kernel
theorem dX1_put_13 : decode cX1_put 13 = .ok (.if_icmp .ge 30, 3) := by decide +kernel
theorem dX1_put_16 : decode cX1_put 16 = .ok (.aload_n 0, 1) := by decide +kernel
theorem dX1_put_17 : decode cX1_put 17 = .ok (.getfield 9, 3) := by decide +kernel
theorem dX1_put_20 : decode cX1_put 20 = .ok (.aload_n 0, 1) := by decide +kernel
theorem dX1_put_21 : decode cX1_put 21 = .ok (.getfield 18, 3) := by decide +kernel
theorem dX1_put_24 : decode cX1_put 24 = .ok (.bipush 20, 2) := by decide +kernel
theorem dX1_put_26 : decode cX1_put 26 = .ok (.imul, 1) := by decide +kernel
theorem dX1_put_27 : decode cX1_put 27 = .ok (.iload_n 2, 1) := by decide +kernel
theorem dX1_put_28 : decode cX1_put 28 = .ok (.iadd, 1) := by decide +kernel
theorem dX1_put_29 : decode cX1_put 29 = .ok (.iload_n 1, 1) := by decide +kernel
theorem dX1_put_30 : decode cX1_put 30 = .ok (.iastore, 1) := by decide +kernel
theorem dX1_put_31 : decode cX1_put 31 = .ok (.aload_n 0, 1) := by decide +kernel
theorem dX1_put_32 : decode cX1_put 32 = .ok (.getfield 15, 3) := by decide +kernel
theorem dX1_put_35 : decode cX1_put 35 = .ok (.aload_n 0, 1) := by decide +kernel
theorem dX1_put_36 : decode cX1_put 36 = .ok (.getfield 18, 3) := by decide +kernel
theorem dX1_put_39 : decode cX1_put 39 = .ok (.iload_n 2, 1) := by decide +kernel
theorem dX1_put_40 : decode cX1_put 40 = .ok (.iconst 1, 1) := by decide +kernel
theorem dX1_put_41 : decode cX1_put 41 = .ok (.iadd, 1) := by decide +kernel
theorem dX1_put_42 : decode cX1_put 42 = .ok (.iastore, 1) := by decide +kernel
theorem dX1_put_43 : decode cX1_put 43 = .ok (.return_, 1) := by decide +kernel
set_option maxHeartbeats 4000000 in
set_option maxRecDepth 100000 in
theorem cL_put (l : Launch) (E : fd_E) (S : fd_S) (x1 : Int32) {S0 : fd_S} (hf : zL_put S x1 = some S0) : fd_Ct l yX1_put cX1_put 3 none (fd_rm 0 0) E S [.ref (E.2.2 5), .int x1] none S0 := by
  unfold zL_put at hf
  refine fd_Ct_of (by decide +kernel) (Nat.le_of_ble_eq_true rfl) ?_
  intro p e s m below meth c ls C hr hlk hH hl
  have hx := C.1
  have hb := C.2.1
  have hl : lv_has ls 3 [(0, .ref (E.2.2 5)), (1, .int x1)] := hl
  refine lv_aload_n hx hb dX1_put_0 rfl (lv_at hl 0 rfl) ?_
  refine fd_get 5 1 1 C hH (by decide) rfl (by decide) (by decide) wf_X1_15 (v := .ref (E.2.2 7)) rfl dX1_put_1 ?_
  refine lv_aload_n hx hb dX1_put_4 rfl (lv_at hl 0 rfl) ?_
  refine fd_get 5 1 2 C hH (by decide) rfl (by decide) (by decide) wf_X1_18 (v := .int (S 5 (2 : Int32))) rfl dX1_put_5 ?_
  obtain ⟨g1, hf⟩ := fd_grd hf
  refine fd_iald 7 (6 : Int32) C hH (by decide) rfl rfl g1 dX1_put_8 ?_
  refine lv_topi (fun y2 ey2 => ?_)
  have hf := fd_ltN ey2 hf
  refine lv_istore_n (lv' := [(2, .int y2), (0, .ref (E.2.2 5)), (1, .int x1)]) hx hb dX1_put_9 rfl hl (by decide) rfl (fun ls hl => ?_)
  refine lv_iload_n hx hb dX1_put_10 rfl (lv_at hl 0 rfl) ?_
  refine lv_bipush (v := (20 : Int32)) hx hb dX1_put_11 (by decide) ?_
  refine lv_icmp_ge (tgt := 43) hx hb dX1_put_13 (by decide) (fun c3 => ?_) (fun c3 => ?_)
  · have hf := fd_ifp c3 hf
    cases hf
    exact fd_vret C hr hlk hH dX1_put_43
  · have hf := fd_ifn c3 hf
    refine lv_aload_n hx hb dX1_put_16 rfl (lv_at hl 1 rfl) ?_
    refine fd_get 5 1 0 C hH (by decide) rfl (by decide) (by decide) wf_X1_9 (v := .ref (E.2.2 6)) rfl dX1_put_17 ?_
    refine lv_aload_n hx hb dX1_put_20 rfl (lv_at hl 1 rfl) ?_
    refine fd_get 5 1 2 C hH (by decide) rfl (by decide) (by decide) wf_X1_18 (v := .int (S 5 (2 : Int32))) rfl dX1_put_21 ?_
    refine lv_bipush (v := (20 : Int32)) hx hb dX1_put_24 (by decide) ?_
    refine lv_imul hx hb dX1_put_26 ?_
    refine lv_iload_n hx hb dX1_put_27 rfl (lv_at hl 0 rfl) ?_
    refine lv_iadd hx hb dX1_put_28 ?_
    refine lv_iload_n hx hb dX1_put_29 rfl (lv_at hl 2 rfl) ?_
    obtain ⟨g4, hf⟩ := fd_grd hf
    refine fd_iast 6 (120 : Int32) C hH (by decide) rfl rfl g4 dX1_put_30 (fun H locs hH => ?_)
    obtain ⟨S5, eS5, hf⟩ := fd_ltS hf
    rw [← eS5] at hH
    refine lv_aload_n hx hb dX1_put_31 rfl (lv_at hl 1 rfl) ?_
    refine fd_get 5 1 1 C hH (by decide) rfl (by decide) (by decide) wf_X1_15 (v := .ref (E.2.2 7)) rfl dX1_put_32 ?_
    refine lv_aload_n hx hb dX1_put_35 rfl (lv_at hl 1 rfl) ?_
    refine fd_get 5 1 2 C hH (by decide) rfl (by decide) (by decide) wf_X1_18 (v := .int (S5 5 (2 : Int32))) rfl dX1_put_36 ?_
    refine lv_iload_n hx hb dX1_put_39 rfl (lv_at hl 0 rfl) ?_
    refine lv_iconst (v := (1 : Int32)) hx hb dX1_put_40 (by decide) ?_
    refine lv_iadd hx hb dX1_put_41 ?_
    obtain ⟨g6, hf⟩ := fd_grd hf
    refine fd_iast 7 (6 : Int32) C hH (by decide) rfl rfl g6 dX1_put_42 (fun H locs hH => ?_)
    obtain ⟨S7, eS7, hf⟩ := fd_ltS hf
    rw [← eS7] at hH
    cases hf
    exact fd_vret C hr hlk hH dX1_put_43
theorem dX1_putNumber_0 : decode cX1_putNumber 0 = .ok (.iconst 1, 1) := by decide +kernel
theorem dX1_putNumber_1 : decode cX1_putNumber 1 = .ok (.istore_n 2, 1) := by decide +kernel
theorem dX1_putNumber_2 : decode cX1_putNumber 2 = .ok (.iconst 0, 1) := by decide +kernel
theorem dX1_putNumber_3 : decode cX1_putNumber 3 = .ok (.istore_n 3, 1) := by decide +kernel
theorem dX1_putNumber_4 : decode cX1_putNumber 4 = .ok (.iload_n 3, 1) := by decide +kernel
theorem dX1_putNumber_5 : decode cX1_putNumber 5 = .ok (.bipush 9, 2) := by decide +kernel
theorem dX1_putNumber_7 : decode cX1_putNumber 7 = .ok (.if_icmp .ge 22, 3) := by decide +kernel
theorem dX1_putNumber_10 : decode cX1_putNumber 10 = .ok (.iload_n 1, 1) := by decide +kernel
theorem dX1_putNumber_11 : decode cX1_putNumber 11 = .ok (.iload_n 2, 1) := by decide +kernel
theorem dX1_putNumber_12 : decode cX1_putNumber 12 = .ok (.idiv, 1) := by decide +kernel
theorem dX1_putNumber_13 : decode cX1_putNumber 13 = .ok (.bipush 10, 2) := by decide +kernel
theorem dX1_putNumber_15 : decode cX1_putNumber 15 = .ok (.if_icmp .lt 14, 3) := by decide +kernel
theorem dX1_putNumber_18 : decode cX1_putNumber 18 = .ok (.iload_n 2, 1) := by decide +kernel
theorem dX1_putNumber_19 : decode cX1_putNumber 19 = .ok (.bipush 10, 2) := by decide +kernel
theorem dX1_putNumber_21 : decode cX1_putNumber 21 = .ok (.imul, 1) := by decide +kernel
theorem dX1_putNumber_22 : decode cX1_putNumber 22 = .ok (.istore_n 2, 1) := by decide +kernel
theorem dX1_putNumber_23 : decode cX1_putNumber 23 = .ok (.iinc 3 1, 3) := by decide +kernel
theorem dX1_putNumber_26 : decode cX1_putNumber 26 = .ok (.goto (-22), 3) := by decide +kernel
theorem dX1_putNumber_29 : decode cX1_putNumber 29 = .ok (.iload_n 2, 1) := by decide +kernel
theorem dX1_putNumber_30 : decode cX1_putNumber 30 = .ok (.ifCond .le 24, 3) := by decide +kernel
theorem dX1_putNumber_33 : decode cX1_putNumber 33 = .ok (.aload_n 0, 1) := by decide +kernel
theorem dX1_putNumber_34 : decode cX1_putNumber 34 = .ok (.bipush 48, 2) := by decide +kernel
theorem dX1_putNumber_36 : decode cX1_putNumber 36 = .ok (.iload_n 1, 1) := by decide +kernel
theorem dX1_putNumber_37 : decode cX1_putNumber 37 = .ok (.iload_n 2, 1) := by decide +kernel
theorem dX1_putNumber_38 : decode cX1_putNumber 38 = .ok (.idiv, 1) := by decide +kernel
theorem dX1_putNumber_39 : decode cX1_putNumber 39 = .ok (.bipush 10, 2) := by decide +kernel
theorem dX1_putNumber_41 : decode cX1_putNumber 41 = .ok (.irem, 1) := by decide +kernel
theorem dX1_putNumber_42 : decode cX1_putNumber 42 = .ok (.iadd, 1) := by decide +kernel
theorem dX1_putNumber_43 : decode cX1_putNumber 43 = .ok (.invokevirtual 25, 3) := by decide +kernel
theorem dX1_putNumber_46 : decode cX1_putNumber 46 = .ok (.iload_n 2, 1) := by decide +kernel
theorem dX1_putNumber_47 : decode cX1_putNumber 47 = .ok (.bipush 10, 2) := by decide +kernel
theorem dX1_putNumber_49 : decode cX1_putNumber 49 = .ok (.idiv, 1) := by decide +kernel
theorem dX1_putNumber_50 : decode cX1_putNumber 50 = .ok (.istore_n 2, 1) := by decide +kernel
theorem dX1_putNumber_51 : decode cX1_putNumber 51 = .ok (.goto (-22), 3) := by decide +kernel
theorem dX1_putNumber_54 : decode cX1_putNumber 54 = .ok (.return_, 1) := by decide +kernel
set_option maxHeartbeats 4000000 in
set_option maxRecDepth 100000 in
theorem wL_putNumber_29 {p : Program} {l : Launch} {e : Env} {s : State} {m : MethodId} {args : Array Value} {below : List Frame} {meth : Method} {c : Code} {E : fd_E} (C : fd_C p s m args c yX1_putNumber.cls cX1_putNumber 4 E) (hr : meth.sig.returnType = none) (hlk : meth.locks = false) (fu : Nat) {S0 : fd_S} : ∀ (n : Nat) (S : fd_S) (x1 : Int32) (x2 : Int32) (H : Heap) (locs : List Loc) (ls : Array Slot), zL_putNumber_29 fu n S x1 x2 = some S0 → fd_H E S s H locs → lv_has ls 4 [(0, .ref (E.2.2 5)), (1, .int x1), (2, .int x2)] → W p l e (fd_rm 1 22) s m args below meth c H locs 0 0 (MQ below (fd_Q E none S0) args s 0 0 (fd_A E)) (F0 m 29 ls []) := by
  have hx := C.1
  have hb := C.2.1
  intro n
  induction n with
  | zero =>
    intro S x1 x2 H locs ls hf
    rw [zL_putNumber_29] at hf
    cases hf
  | succ n ih =>
    intro S x1 x2 H locs ls hf hH hl
    rw [zL_putNumber_29] at hf
    refine lv_iload_n hx hb dX1_putNumber_29 rfl (lv_at hl 2 rfl) ?_
    refine lv_if_le (tgt := 54) hx hb dX1_putNumber_30 (by decide) (fun c2 => ?_) (fun c2 => ?_)
    · have hf := fd_ifp c2 hf
      cases hf
      exact fd_vret C hr hlk hH dX1_putNumber_54
    · have hf := fd_ifn c2 hf
      refine lv_aload_n hx hb dX1_putNumber_33 rfl (lv_at hl 0 rfl) ?_
      refine lv_bipush (v := (48 : Int32)) hx hb dX1_putNumber_34 (by decide) ?_
      refine lv_iload_n hx hb dX1_putNumber_36 rfl (lv_at hl 1 rfl) ?_
      refine lv_iload_n hx hb dX1_putNumber_37 rfl (lv_at hl 2 rfl) ?_
      obtain ⟨g3, hf⟩ := fd_grd hf
      refine lv_idiv hx hb dX1_putNumber_38 g3 ?_
      refine lv_bipush (v := (10 : Int32)) hx hb dX1_putNumber_39 (by decide) ?_
      refine fd_irem hx hb dX1_putNumber_41 (by decide) ?_
      refine lv_iadd hx hb dX1_putNumber_42 ?_
      obtain ⟨S4, e5, hf⟩ := fd_bnd hf
      refine fd_callV0 5 1 [.int ((48 : Int32) + (fd_rem (x1 / x2) (10 : Int32)))] C hl.1 hH (cL_put l E S ((48 : Int32) + (fd_rem (x1 / x2) (10 : Int32))) e5) wm_X1_25 (by decide) rfl (by decide) rfl ⟨rfl, rfl, Nat.le_of_ble_eq_true rfl, Nat.le_of_ble_eq_true rfl⟩ rfl rfl (Nat.le_of_ble_eq_true rfl) ⟨Nat.le_refl _, Nat.le_refl _⟩ dX1_putNumber_43 (fun H locs hH => ?_)
      refine lv_iload_n hx hb dX1_putNumber_46 rfl (lv_at hl 2 rfl) ?_
      refine lv_bipush (v := (10 : Int32)) hx hb dX1_putNumber_47 (by decide) ?_
      refine lv_idiv hx hb dX1_putNumber_49 (by decide) ?_
      refine lv_topi (fun y6 ey6 => ?_)
      have hf := fd_ltN ey6 hf
      refine lv_istore_n (lv' := [(2, .int y6), (0, .ref (E.2.2 5)), (1, .int x1)]) hx hb dX1_putNumber_50 rfl hl (by decide) rfl (fun ls hl => ?_)
      refine lv_goto (tgt := 29) hx hb dX1_putNumber_51 (by decide) ?_
      exact ih S4 x1 y6 _ _ _ hf hH (lv_sub hl [1, 2, 0] rfl)
set_option maxHeartbeats 4000000 in
set_option maxRecDepth 100000 in
theorem wL_putNumber_4 {p : Program} {l : Launch} {e : Env} {s : State} {m : MethodId} {args : Array Value} {below : List Frame} {meth : Method} {c : Code} {E : fd_E} (C : fd_C p s m args c yX1_putNumber.cls cX1_putNumber 4 E) (hr : meth.sig.returnType = none) (hlk : meth.locks = false) (fu : Nat) {S0 : fd_S} : ∀ (n : Nat) (S : fd_S) (x1 : Int32) (x2 : Int32) (x3 : Int32) (H : Heap) (locs : List Loc) (ls : Array Slot), zL_putNumber_4 fu n S x1 x2 x3 = some S0 → fd_H E S s H locs → lv_has ls 4 [(0, .ref (E.2.2 5)), (1, .int x1), (2, .int x2), (3, .int x3)] → W p l e (fd_rm 1 22) s m args below meth c H locs 0 0 (MQ below (fd_Q E none S0) args s 0 0 (fd_A E)) (F0 m 4 ls []) := by
  have hx := C.1
  have hb := C.2.1
  intro n
  induction n with
  | zero =>
    intro S x1 x2 x3 H locs ls hf
    rw [zL_putNumber_4] at hf
    cases hf
  | succ n ih =>
    intro S x1 x2 x3 H locs ls hf hH hl
    rw [zL_putNumber_4] at hf
    refine lv_iload_n hx hb dX1_putNumber_4 rfl (lv_at hl 3 rfl) ?_
    refine lv_bipush (v := (9 : Int32)) hx hb dX1_putNumber_5 (by decide) ?_
    refine lv_icmp_ge (tgt := 29) hx hb dX1_putNumber_7 (by decide) (fun c1 => ?_) (fun c1 => ?_)
    · have hf := fd_ifp c1 hf
      exact wL_putNumber_29 C hr hlk fu fu S x1 x2 _ _ _ hf hH (lv_sub hl [0, 1, 2] rfl)
    · have hf := fd_ifn c1 hf
      refine lv_iload_n hx hb dX1_putNumber_10 rfl (lv_at hl 1 rfl) ?_
      refine lv_iload_n hx hb dX1_putNumber_11 rfl (lv_at hl 2 rfl) ?_
      obtain ⟨g7, hf⟩ := fd_grd hf
      refine lv_idiv hx hb dX1_putNumber_12 g7 ?_
      refine lv_bipush (v := (10 : Int32)) hx hb dX1_putNumber_13 (by decide) ?_
      refine lv_icmp_lt (tgt := 29) hx hb dX1_putNumber_15 (by decide) (fun c8 => ?_) (fun c8 => ?_)
      · have hf := fd_ifp c8 hf
        exact wL_putNumber_29 C hr hlk fu fu S x1 x2 _ _ _ hf hH (lv_sub hl [0, 1, 2] rfl)
      · have hf := fd_ifn c8 hf
        refine lv_iload_n hx hb dX1_putNumber_18 rfl (lv_at hl 2 rfl) ?_
        refine lv_bipush (v := (10 : Int32)) hx hb dX1_putNumber_19 (by decide) ?_
        refine lv_imul hx hb dX1_putNumber_21 ?_
        refine lv_topi (fun y9 ey9 => ?_)
        have hf := fd_ltN ey9 hf
        refine lv_istore_n (lv' := [(2, .int y9), (0, .ref (E.2.2 5)), (1, .int x1), (3, .int x3)]) hx hb dX1_putNumber_22 rfl hl (by decide) rfl (fun ls hl => ?_)
        obtain ⟨y10, ey10, hf⟩ := fd_ltS hf
        refine lv_iinc (v := y10) (lv' := [(3, .int y10), (2, .int y9), (0, .ref (E.2.2 5)), (1, .int x1)]) hx hb dX1_putNumber_23 hl (k := 3) rfl (by rw [ey10]; rfl) (by decide) rfl (fun ls hl => ?_)
        refine lv_goto (tgt := 4) hx hb dX1_putNumber_26 (by decide) ?_
        exact ih S x1 y9 y10 _ _ _ hf hH (lv_sub hl [2, 3, 1, 0] rfl)
set_option maxHeartbeats 4000000 in
set_option maxRecDepth 100000 in
theorem cL_putNumber (l : Launch) (E : fd_E) (fu : Nat) (S : fd_S) (x1 : Int32) {S0 : fd_S} (hf : zL_putNumber fu S x1 = some S0) : fd_Ct l yX1_putNumber cX1_putNumber 4 none (fd_rm 1 22) E S [.ref (E.2.2 5), .int x1] none S0 := by
  unfold zL_putNumber at hf
  refine fd_Ct_of (by decide +kernel) (Nat.le_of_ble_eq_true rfl) ?_
  intro p e s m below meth c ls C hr hlk hH hl
  have hx := C.1
  have hb := C.2.1
  have hl : lv_has ls 4 [(0, .ref (E.2.2 5)), (1, .int x1)] := hl
  refine lv_iconst (v := (1 : Int32)) hx hb dX1_putNumber_0 (by decide) ?_
  refine lv_istore_n (lv' := [(2, .int (1 : Int32)), (0, .ref (E.2.2 5)), (1, .int x1)]) hx hb dX1_putNumber_1 rfl hl (by decide) rfl (fun ls hl => ?_)
  refine lv_iconst (v := (0 : Int32)) hx hb dX1_putNumber_2 (by decide) ?_
  refine lv_istore_n (lv' := [(3, .int (0 : Int32)), (2, .int (1 : Int32)), (0, .ref (E.2.2 5)), (1, .int x1)]) hx hb dX1_putNumber_3 rfl hl (by decide) rfl (fun ls hl => ?_)
  exact wL_putNumber_4 C hr hlk fu fu S x1 (1 : Int32) (0 : Int32) _ _ _ hf hH (lv_sub hl [2, 3, 1, 0] rfl)
theorem dX1_begin_0 : decode cX1_begin 0 = .ok (.aload_n 0, 1) := by decide +kernel
theorem dX1_begin_1 : decode cX1_begin 1 = .ok (.aload_n 0, 1) := by decide +kernel
theorem dX1_begin_2 : decode cX1_begin 2 = .ok (.getfield 18, 3) := by decide +kernel
theorem dX1_begin_5 : decode cX1_begin 5 = .ok (.iconst 1, 1) := by decide +kernel
theorem dX1_begin_6 : decode cX1_begin 6 = .ok (.iadd, 1) := by decide +kernel
theorem dX1_begin_7 : decode cX1_begin 7 = .ok (.bipush 6, 2) := by decide +kernel
theorem dX1_begin_9 : decode cX1_begin 9 = .ok (.irem, 1) := by decide +kernel
theorem dX1_begin_10 : decode cX1_begin 10 = .ok (.putfield 18, 3) := by decide +kernel
theorem dX1_begin_13 : decode cX1_begin 13 = .ok (.aload_n 0, 1) := by decide +kernel
theorem dX1_begin_14 : decode cX1_begin 14 = .ok (.getfield 15, 3) := by decide +kernel
theorem dX1_begin_17 : decode cX1_begin 17 = .ok (.aload_n 0, 1) := by decide +kernel
theorem dX1_begin_18 : decode cX1_begin 18 = .ok (.getfield 18, 3) := by decide +kernel
theorem dX1_begin_21 : decode cX1_begin 21 = .ok (.iconst 0, 1) := by decide +kernel
theorem dX1_begin_22 : decode cX1_begin 22 = .ok (.iastore, 1) := by decide +kernel
theorem dX1_begin_23 : decode cX1_begin 23 = .ok (.aload_n 0, 1) := by decide +kernel
theorem dX1_begin_24 : decode cX1_begin 24 = .ok (.dup, 1) := by decide +kernel
theorem dX1_begin_25 : decode cX1_begin 25 = .ok (.getfield 22, 3) := by decide +kernel
theorem dX1_begin_28 : decode cX1_begin 28 = .ok (.iconst 1, 1) := by decide +kernel
theorem dX1_begin_29 : decode cX1_begin 29 = .ok (.iadd, 1) := by decide +kernel
theorem dX1_begin_30 : decode cX1_begin 30 = .ok (.putfield 22, 3) := by decide +kernel
theorem dX1_begin_33 : decode cX1_begin 33 = .ok (.aload_n 0, 1) := by decide +kernel
theorem dX1_begin_34 : decode cX1_begin 34 = .ok (.iload_n 1, 1) := by decide +kernel
theorem dX1_begin_35 : decode cX1_begin 35 = .ok (.invokevirtual 25, 3) := by decide +kernel
theorem dX1_begin_38 : decode cX1_begin 38 = .ok (.aload_n 0, 1) := by decide +kernel
theorem dX1_begin_39 : decode cX1_begin 39 = .ok (.iload_n 2, 1) := by decide +kernel
theorem dX1_begin_40 : decode cX1_begin 40 = .ok (.bipush 8, 2) := by decide +kernel
theorem dX1_begin_42 : decode cX1_begin 42 = .ok (.idiv, 1) := by decide +kernel
theorem dX1_begin_43 : decode cX1_begin 43 = .ok (.invokevirtual 29, 3) := by decide +kernel
theorem dX1_begin_46 : decode cX1_begin 46 = .ok (.aload_n 0, 1) := by decide +kernel
theorem dX1_begin_47 : decode cX1_begin 47 = .ok (.iload_n 2, 1) := by decide +kernel
theorem dX1_begin_48 : decode cX1_begin 48 = .ok (.bipush 8, 2) := by decide +kernel
theorem dX1_begin_50 : decode cX1_begin 50 = .ok (.irem, 1) := by decide +kernel
theorem dX1_begin_51 : decode cX1_begin 51 = .ok (.invokevirtual 29, 3) := by decide +kernel
theorem dX1_begin_54 : decode cX1_begin 54 = .ok (.return_, 1) := by decide +kernel
set_option maxHeartbeats 4000000 in
set_option maxRecDepth 100000 in
theorem cL_begin (l : Launch) (E : fd_E) (fu : Nat) (S : fd_S) (x1 : Int32) (x2 : Int32) {S0 : fd_S} (hf : zL_begin fu S x1 x2 = some S0) : fd_Ct l yX1_begin cX1_begin 3 none (fd_rm 2 45) E S [.ref (E.2.2 5), .int x1, .int x2] none S0 := by
  unfold zL_begin at hf
  refine fd_Ct_of (by decide +kernel) (Nat.le_of_ble_eq_true rfl) ?_
  intro p e s m below meth c ls C hr hlk hH hl
  have hx := C.1
  have hb := C.2.1
  have hl : lv_has ls 3 [(0, .ref (E.2.2 5)), (1, .int x1), (2, .int x2)] := hl
  refine lv_aload_n hx hb dX1_begin_0 rfl (lv_at hl 0 rfl) ?_
  refine lv_aload_n hx hb dX1_begin_1 rfl (lv_at hl 0 rfl) ?_
  refine fd_get 5 1 2 C hH (by decide) rfl (by decide) (by decide) wf_X1_18 (v := .int (S 5 (2 : Int32))) rfl dX1_begin_2 ?_
  refine lv_iconst (v := (1 : Int32)) hx hb dX1_begin_5 (by decide) ?_
  refine lv_iadd hx hb dX1_begin_6 ?_
  refine lv_bipush (v := (6 : Int32)) hx hb dX1_begin_7 (by decide) ?_
  refine fd_irem hx hb dX1_begin_9 (by decide) ?_
  refine fd_put 5 1 2 (2 : Int32) C hH (by decide) rfl (by decide) (by decide) wf_X1_18 rfl rfl rfl rfl rfl (Nat.le_of_ble_eq_true rfl) dX1_begin_10 (fun H locs hH => ?_)
  obtain ⟨S1, eS1, hf⟩ := fd_ltS hf
  rw [← eS1] at hH
  refine lv_aload_n hx hb dX1_begin_13 rfl (lv_at hl 0 rfl) ?_
  refine fd_get 5 1 1 C hH (by decide) rfl (by decide) (by decide) wf_X1_15 (v := .ref (E.2.2 7)) rfl dX1_begin_14 ?_
  refine lv_aload_n hx hb dX1_begin_17 rfl (lv_at hl 0 rfl) ?_
  refine fd_get 5 1 2 C hH (by decide) rfl (by decide) (by decide) wf_X1_18 (v := .int (S1 5 (2 : Int32))) rfl dX1_begin_18 ?_
  refine lv_iconst (v := (0 : Int32)) hx hb dX1_begin_21 (by decide) ?_
  obtain ⟨g2, hf⟩ := fd_grd hf
  refine fd_iast 7 (6 : Int32) C hH (by decide) rfl rfl g2 dX1_begin_22 (fun H locs hH => ?_)
  obtain ⟨S3, eS3, hf⟩ := fd_ltS hf
  rw [← eS3] at hH
  refine lv_aload_n hx hb dX1_begin_23 rfl (lv_at hl 0 rfl) ?_
  refine lv_dup hx hb dX1_begin_24 rfl ?_
  refine fd_get 5 1 3 C hH (by decide) rfl (by decide) (by decide) wf_X1_22 (v := .int (S3 5 (3 : Int32))) rfl dX1_begin_25 ?_
  refine lv_iconst (v := (1 : Int32)) hx hb dX1_begin_28 (by decide) ?_
  refine lv_iadd hx hb dX1_begin_29 ?_
  refine fd_put 5 1 3 (3 : Int32) C hH (by decide) rfl (by decide) (by decide) wf_X1_22 rfl rfl rfl rfl rfl (Nat.le_of_ble_eq_true rfl) dX1_begin_30 (fun H locs hH => ?_)
  obtain ⟨S4, eS4, hf⟩ := fd_ltS hf
  rw [← eS4] at hH
  refine lv_aload_n hx hb dX1_begin_33 rfl (lv_at hl 0 rfl) ?_
  refine lv_iload_n hx hb dX1_begin_34 rfl (lv_at hl 1 rfl) ?_
  obtain ⟨S5, e6, hf⟩ := fd_bnd hf
  refine fd_callV0 5 1 [.int x1] C hl.1 hH (cL_put l E S4 x1 e6) wm_X1_25 (by decide) rfl (by decide) rfl ⟨rfl, rfl, Nat.le_of_ble_eq_true rfl, Nat.le_of_ble_eq_true rfl⟩ rfl rfl (Nat.le_of_ble_eq_true rfl) ⟨Nat.le_refl _, Nat.le_refl _⟩ dX1_begin_35 (fun H locs hH => ?_)
  refine lv_aload_n hx hb dX1_begin_38 rfl (lv_at hl 0 rfl) ?_
  refine lv_iload_n hx hb dX1_begin_39 rfl (lv_at hl 2 rfl) ?_
  refine lv_bipush (v := (8 : Int32)) hx hb dX1_begin_40 (by decide) ?_
  refine lv_idiv hx hb dX1_begin_42 (by decide) ?_
  obtain ⟨S7, e8, hf⟩ := fd_bnd hf
  refine fd_callV0 5 1 [.int (x2 / (8 : Int32))] C hl.1 hH (cL_putNumber l E fu S5 (x2 / (8 : Int32)) e8) wm_X1_29 (by decide) rfl (by decide) rfl ⟨rfl, rfl, Nat.le_of_ble_eq_true rfl, Nat.le_of_ble_eq_true rfl⟩ rfl rfl (Nat.le_of_ble_eq_true rfl) ⟨Nat.le_refl _, Nat.le_refl _⟩ dX1_begin_43 (fun H locs hH => ?_)
  refine lv_aload_n hx hb dX1_begin_46 rfl (lv_at hl 0 rfl) ?_
  refine lv_iload_n hx hb dX1_begin_47 rfl (lv_at hl 2 rfl) ?_
  refine lv_bipush (v := (8 : Int32)) hx hb dX1_begin_48 (by decide) ?_
  refine fd_irem hx hb dX1_begin_50 (by decide) ?_
  obtain ⟨S9, e10, hf⟩ := fd_bnd hf
  refine fd_callV0 5 1 [.int (fd_rem x2 (8 : Int32))] C hl.1 hH (cL_putNumber l E fu S7 (fd_rem x2 (8 : Int32)) e10) wm_X1_29 (by decide) rfl (by decide) rfl ⟨rfl, rfl, Nat.le_of_ble_eq_true rfl, Nat.le_of_ble_eq_true rfl⟩ rfl rfl (Nat.le_of_ble_eq_true rfl) ⟨Nat.le_refl _, Nat.le_refl _⟩ dX1_begin_51 (fun H locs hH => ?_)
  cases hf
  exact fd_vret C hr hlk hH dX1_begin_54
theorem dX1_tell_0 : decode cX1_tell 0 = .ok (.iload_n 1, 1) := by decide +kernel
theorem dX1_tell_1 : decode cX1_tell 1 = .ok (.iconst 0, 1) := by decide +kernel
theorem dX1_tell_2 : decode cX1_tell 2 = .ok (.aload_n 0, 1) := by decide +kernel
theorem dX1_tell_3 : decode cX1_tell 3 = .ok (.getfield 22, 3) := by decide +kernel
theorem dX1_tell_6 : decode cX1_tell 6 = .ok (.bipush 6, 2) := by decide +kernel
theorem dX1_tell_8 : decode cX1_tell 8 = .ok (.invokestatic 32, 3) := by decide +kernel
theorem dX1_tell_11 : decode cX1_tell 11 = .ok (.iconst 1, 1) := by decide +kernel
theorem dX1_tell_12 : decode cX1_tell 12 = .ok (.isub, 1) := by decide +kernel
theorem dX1_tell_13 : decode cX1_tell 13 = .ok (.invokestatic 38, 3) := by decide +kernel
theorem dX1_tell_16 : decode cX1_tell 16 = .ok (.ifCond .ne 6, 3) := by decide +kernel
theorem dX1_tell_19 : decode cX1_tell 19 = .ok (.bipush (-6), 2) := by decide +kernel
theorem dX1_tell_21 : decode cX1_tell 21 = .ok (.ireturn, 1) := by decide +kernel
theorem dX1_tell_22 : decode cX1_tell 22 = .ok (.aload_n 0, 1) := by decide +kernel
theorem dX1_tell_23 : decode cX1_tell 23 = .ok (.getfield 18, 3) := by decide +kernel
theorem dX1_tell_26 : decode cX1_tell 26 = .ok (.iload_n 1, 1) := by decide +kernel
theorem dX1_tell_27 : decode cX1_tell 27 = .ok (.isub, 1) := by decide +kernel
theorem dX1_tell_28 : decode cX1_tell 28 = .ok (.bipush 6, 2) := by decide +kernel
theorem dX1_tell_30 : decode cX1_tell 30 = .ok (.iadd, 1) := by decide +kernel
theorem dX1_tell_31 : decode cX1_tell 31 = .ok (.bipush 6, 2) := by decide +kernel
theorem dX1_tell_33 : decode cX1_tell 33 = .ok (.irem, 1) := by decide +kernel
theorem dX1_tell_34 : decode cX1_tell 34 = .ok (.istore_n 3, 1) := by decide +kernel
theorem dX1_tell_35 : decode cX1_tell 35 = .ok (.iload_n 2, 1) := by decide +kernel
theorem dX1_tell_36 : decode cX1_tell 36 = .ok (.iconst (-1), 1) := by decide +kernel
theorem dX1_tell_37 : decode cX1_tell 37 = .ok (.if_icmp .ne 10, 3) := by decide +kernel
theorem dX1_tell_40 : decode cX1_tell 40 = .ok (.aload_n 0, 1) := by decide +kernel
theorem dX1_tell_41 : decode cX1_tell 41 = .ok (.getfield 15, 3) := by decide +kernel
theorem dX1_tell_44 : decode cX1_tell 44 = .ok (.iload_n 3, 1) := by decide +kernel
theorem dX1_tell_45 : decode cX1_tell 45 = .ok (.iaload, 1) := by decide +kernel
theorem dX1_tell_46 : decode cX1_tell 46 = .ok (.ireturn, 1) := by decide +kernel
theorem dX1_tell_47 : decode cX1_tell 47 = .ok (.iload_n 2, 1) := by decide +kernel
theorem dX1_tell_48 : decode cX1_tell 48 = .ok (.iconst 0, 1) := by decide +kernel
theorem dX1_tell_49 : decode cX1_tell 49 = .ok (.aload_n 0, 1) := by decide +kernel
theorem dX1_tell_50 : decode cX1_tell 50 = .ok (.getfield 15, 3) := by decide +kernel
theorem dX1_tell_53 : decode cX1_tell 53 = .ok (.iload_n 3, 1) := by decide +kernel
theorem dX1_tell_54 : decode cX1_tell 54 = .ok (.iaload, 1) := by decide +kernel
theorem dX1_tell_55 : decode cX1_tell 55 = .ok (.iconst 1, 1) := by decide +kernel
theorem dX1_tell_56 : decode cX1_tell 56 = .ok (.isub, 1) := by decide +kernel
theorem dX1_tell_57 : decode cX1_tell 57 = .ok (.invokestatic 38, 3) := by decide +kernel
theorem dX1_tell_60 : decode cX1_tell 60 = .ok (.ifCond .eq 17, 3) := by decide +kernel
theorem dX1_tell_63 : decode cX1_tell 63 = .ok (.aload_n 0, 1) := by decide +kernel
theorem dX1_tell_64 : decode cX1_tell 64 = .ok (.getfield 9, 3) := by decide +kernel
theorem dX1_tell_67 : decode cX1_tell 67 = .ok (.iload_n 3, 1) := by decide +kernel
theorem dX1_tell_68 : decode cX1_tell 68 = .ok (.bipush 20, 2) := by decide +kernel
theorem dX1_tell_70 : decode cX1_tell 70 = .ok (.imul, 1) := by decide +kernel
theorem dX1_tell_71 : decode cX1_tell 71 = .ok (.iload_n 2, 1) := by decide +kernel
theorem dX1_tell_72 : decode cX1_tell 72 = .ok (.iadd, 1) := by decide +kernel
theorem dX1_tell_73 : decode cX1_tell 73 = .ok (.iaload, 1) := by decide +kernel
theorem dX1_tell_74 : decode cX1_tell 74 = .ok (.goto 5, 3) := by decide +kernel
theorem dX1_tell_77 : decode cX1_tell 77 = .ok (.bipush (-6), 2) := by decide +kernel
theorem dX1_tell_79 : decode cX1_tell 79 = .ok (.ireturn, 1) := by decide +kernel
set_option maxHeartbeats 4000000 in
set_option maxRecDepth 100000 in
theorem cL_tell (l : Launch) (E : fd_E) (S : fd_S) (x1 : Int32) (x2 : Int32) {r0 : Int32} (hf : zL_tell S x1 x2 = some r0) : fd_Ct l yX1_tell cX1_tell 4 (some .int) (fd_rm 1 22) E S [.ref (E.2.2 5), .int x1, .int x2] (some (.int r0)) S := by
  unfold zL_tell at hf
  refine fd_Ct_of (by decide +kernel) (Nat.le_of_ble_eq_true rfl) ?_
  intro p e s m below meth c ls C hr hlk hH hl
  have hx := C.1
  have hb := C.2.1
  have hl : lv_has ls 4 [(0, .ref (E.2.2 5)), (1, .int x1), (2, .int x2)] := hl
  refine lv_iload_n hx hb dX1_tell_0 rfl (lv_at hl 1 rfl) ?_
  refine lv_iconst (v := (0 : Int32)) hx hb dX1_tell_1 (by decide) ?_
  refine lv_aload_n hx hb dX1_tell_2 rfl (lv_at hl 0 rfl) ?_
  refine fd_get 5 1 3 C hH (by decide) rfl (by decide) (by decide) wf_X1_22 (v := .int (S 5 (3 : Int32))) rfl dX1_tell_3 ?_
  refine lv_bipush (v := (6 : Int32)) hx hb dX1_tell_6 (by decide) ?_
  refine fd_mmin C hl.1 wl_X1_32 fd_wmin (Nat.le_of_ble_eq_true rfl) (Nat.le_of_ble_eq_true rfl) (Nat.le_refl _) (Nat.le_refl _) dX1_tell_8 ?_
  refine lv_iconst (v := (1 : Int32)) hx hb dX1_tell_11 (by decide) ?_
  refine lv_isub hx hb dX1_tell_12 ?_
  refine fd_callN1 "FlapDamper" [.int x1, .int (0 : Int32), .int ((fd_min (S 5 (3 : Int32)) (6 : Int32)) - (1 : Int32))] C hl.1 hH (cF_isWithin l E S x1 (0 : Int32) ((fd_min (S 5 (3 : Int32)) (6 : Int32)) - (1 : Int32))) wm_X1_38 C.2.2.2.2.2.2.1.2.1 ⟨rfl, rfl, Nat.le_of_ble_eq_true rfl, Nat.le_of_ble_eq_true rfl⟩ rfl rfl (Nat.le_of_ble_eq_true rfl) ⟨Nat.le_refl _, Nat.le_refl _⟩ dX1_tell_13 (fun H locs hH => ?_)
  refine lv_if_ne (tgt := 22) hx hb dX1_tell_16 (by decide) (fun c1 => ?_) (fun c1 => ?_)
  · have hf := fd_ifn c1 hf
    refine lv_aload_n hx hb dX1_tell_22 rfl (lv_at hl 0 rfl) ?_
    refine fd_get 5 1 2 C hH (by decide) rfl (by decide) (by decide) wf_X1_18 (v := .int (S 5 (2 : Int32))) rfl dX1_tell_23 ?_
    refine lv_iload_n hx hb dX1_tell_26 rfl (lv_at hl 1 rfl) ?_
    refine lv_isub hx hb dX1_tell_27 ?_
    refine lv_bipush (v := (6 : Int32)) hx hb dX1_tell_28 (by decide) ?_
    refine lv_iadd hx hb dX1_tell_30 ?_
    refine lv_bipush (v := (6 : Int32)) hx hb dX1_tell_31 (by decide) ?_
    refine fd_irem hx hb dX1_tell_33 (by decide) ?_
    refine lv_topi (fun y2 ey2 => ?_)
    have hf := fd_ltN ey2 hf
    refine lv_istore_n (lv' := [(3, .int y2), (0, .ref (E.2.2 5)), (1, .int x1), (2, .int x2)]) hx hb dX1_tell_34 rfl hl (by decide) rfl (fun ls hl => ?_)
    refine lv_iload_n hx hb dX1_tell_35 rfl (lv_at hl 3 rfl) ?_
    refine lv_iconst (v := (-1 : Int32)) hx hb dX1_tell_36 (by decide) ?_
    refine lv_icmp_ne (tgt := 47) hx hb dX1_tell_37 (by decide) (fun c3 => ?_) (fun c3 => ?_)
    · have hf := fd_ifn c3 hf
      refine lv_iload_n hx hb dX1_tell_47 rfl (lv_at hl 3 rfl) ?_
      refine lv_iconst (v := (0 : Int32)) hx hb dX1_tell_48 (by decide) ?_
      refine lv_aload_n hx hb dX1_tell_49 rfl (lv_at hl 1 rfl) ?_
      refine fd_get 5 1 1 C hH (by decide) rfl (by decide) (by decide) wf_X1_15 (v := .ref (E.2.2 7)) rfl dX1_tell_50 ?_
      refine lv_iload_n hx hb dX1_tell_53 rfl (lv_at hl 0 rfl) ?_
      obtain ⟨g4, hf⟩ := fd_grd hf
      refine fd_iald 7 (6 : Int32) C hH (by decide) rfl rfl g4 dX1_tell_54 ?_
      refine lv_iconst (v := (1 : Int32)) hx hb dX1_tell_55 (by decide) ?_
      refine lv_isub hx hb dX1_tell_56 ?_
      refine fd_callN1 "FlapDamper" [.int x2, .int (0 : Int32), .int ((S 7 y2) - (1 : Int32))] C hl.1 hH (cF_isWithin l E S x2 (0 : Int32) ((S 7 y2) - (1 : Int32))) wm_X1_38 C.2.2.2.2.2.2.1.2.1 ⟨rfl, rfl, Nat.le_of_ble_eq_true rfl, Nat.le_of_ble_eq_true rfl⟩ rfl rfl (Nat.le_of_ble_eq_true rfl) ⟨Nat.le_refl _, Nat.le_refl _⟩ dX1_tell_57 (fun H locs hH => ?_)
      refine lv_if_eq (tgt := 77) hx hb dX1_tell_60 (by decide) (fun c5 => ?_) (fun c5 => ?_)
      · have hf := fd_ifp c5 hf
        refine lv_bipush (v := (-6 : Int32)) hx hb dX1_tell_77 (by decide) ?_
        cases hf
        exact fd_iret C hr hlk hH dX1_tell_79
      · have hf := fd_ifn c5 hf
        refine lv_aload_n hx hb dX1_tell_63 rfl (lv_at hl 1 rfl) ?_
        refine fd_get 5 1 0 C hH (by decide) rfl (by decide) (by decide) wf_X1_9 (v := .ref (E.2.2 6)) rfl dX1_tell_64 ?_
        refine lv_iload_n hx hb dX1_tell_67 rfl (lv_at hl 0 rfl) ?_
        refine lv_bipush (v := (20 : Int32)) hx hb dX1_tell_68 (by decide) ?_
        refine lv_imul hx hb dX1_tell_70 ?_
        refine lv_iload_n hx hb dX1_tell_71 rfl (lv_at hl 3 rfl) ?_
        refine lv_iadd hx hb dX1_tell_72 ?_
        obtain ⟨g6, hf⟩ := fd_grd hf
        refine fd_iald 6 (120 : Int32) C hH (by decide) rfl rfl g6 dX1_tell_73 ?_
        refine lv_goto (tgt := 79) hx hb dX1_tell_74 (by decide) ?_
        cases hf
        exact fd_iret C hr hlk hH dX1_tell_79
    · have hf := fd_ifp c3 hf
      refine lv_aload_n hx hb dX1_tell_40 rfl (lv_at hl 1 rfl) ?_
      refine fd_get 5 1 1 C hH (by decide) rfl (by decide) (by decide) wf_X1_15 (v := .ref (E.2.2 7)) rfl dX1_tell_41 ?_
      refine lv_iload_n hx hb dX1_tell_44 rfl (lv_at hl 0 rfl) ?_
      obtain ⟨g7, hf⟩ := fd_grd hf
      refine fd_iald 7 (6 : Int32) C hH (by decide) rfl rfl g7 dX1_tell_45 ?_
      cases hf
      exact fd_iret C hr hlk hH dX1_tell_46
  · have hf := fd_ifp c1 hf
    refine lv_bipush (v := (-6 : Int32)) hx hb dX1_tell_19 (by decide) ?_
    cases hf
    exact fd_iret C hr hlk hH dX1_tell_21
theorem dX1_copyFrom_0 : decode cX1_copyFrom 0 = .ok (.aload_n 1, 1) := by decide +kernel
theorem dX1_copyFrom_1 : decode cX1_copyFrom 1 = .ok (.getfield 9, 3) := by decide +kernel
theorem dX1_copyFrom_4 : decode cX1_copyFrom 4 = .ok (.iconst 0, 1) := by decide +kernel
theorem dX1_copyFrom_5 : decode cX1_copyFrom 5 = .ok (.aload_n 0, 1) := by decide +kernel
theorem dX1_copyFrom_6 : decode cX1_copyFrom 6 = .ok (.getfield 9, 3) := by decide +kernel
theorem dX1_copyFrom_9 : decode cX1_copyFrom 9 = .ok (.iconst 0, 1) := by decide +kernel
theorem dX1_copyFrom_10 : decode cX1_copyFrom 10 = .ok (.aload_n 0, 1) := by decide +kernel
theorem dX1_copyFrom_11 : decode cX1_copyFrom 11 = .ok (.getfield 9, 3) := by decide +kernel
theorem dX1_copyFrom_14 : decode cX1_copyFrom 14 = .ok (.arraylength, 1) := by decide +kernel
theorem dX1_copyFrom_15 : decode cX1_copyFrom 15 = .ok (.invokestatic 42, 3) := by decide +kernel
theorem dX1_copyFrom_18 : decode cX1_copyFrom 18 = .ok (.aload_n 1, 1) := by decide +kernel
theorem dX1_copyFrom_19 : decode cX1_copyFrom 19 = .ok (.getfield 15, 3) := by decide +kernel
theorem dX1_copyFrom_22 : decode cX1_copyFrom 22 = .ok (.iconst 0, 1) := by decide +kernel
theorem dX1_copyFrom_23 : decode cX1_copyFrom 23 = .ok (.aload_n 0, 1) := by decide +kernel
theorem dX1_copyFrom_24 : decode cX1_copyFrom 24 = .ok (.getfield 15, 3) := by decide +kernel
theorem dX1_copyFrom_27 : decode cX1_copyFrom 27 = .ok (.iconst 0, 1) := by decide +kernel
theorem dX1_copyFrom_28 : decode cX1_copyFrom 28 = .ok (.bipush 6, 2) := by decide +kernel
theorem dX1_copyFrom_30 : decode cX1_copyFrom 30 = .ok (.invokestatic 42, 3) := by decide +kernel
theorem dX1_copyFrom_33 : decode cX1_copyFrom 33 = .ok (.aload_n 0, 1) := by decide +kernel
theorem dX1_copyFrom_34 : decode cX1_copyFrom 34 = .ok (.aload_n 1, 1) := by decide +kernel
theorem dX1_copyFrom_35 : decode cX1_copyFrom 35 = .ok (.getfield 18, 3) := by decide +kernel
theorem dX1_copyFrom_38 : decode cX1_copyFrom 38 = .ok (.putfield 18, 3) := by decide +kernel
theorem dX1_copyFrom_41 : decode cX1_copyFrom 41 = .ok (.aload_n 0, 1) := by decide +kernel
theorem dX1_copyFrom_42 : decode cX1_copyFrom 42 = .ok (.aload_n 1, 1) := by decide +kernel
theorem dX1_copyFrom_43 : decode cX1_copyFrom 43 = .ok (.getfield 22, 3) := by decide +kernel
theorem dX1_copyFrom_46 : decode cX1_copyFrom 46 = .ok (.putfield 22, 3) := by decide +kernel
theorem dX1_copyFrom_49 : decode cX1_copyFrom 49 = .ok (.return_, 1) := by decide +kernel
set_option maxHeartbeats 4000000 in
set_option maxRecDepth 100000 in
theorem cL_copyFrom (l : Launch) (E : fd_E) (S : fd_S) (u : Nat) (v : Nat) (hu : fd_st u) (hv : fd_st v) {S0 : fd_S} (hf : zL_copyFrom S u v = some S0) : fd_Ct l yX1_copyFrom cX1_copyFrom 2 none (fd_rm 1 18) E S [.ref (E.2.2 (u + 5)), .ref (E.2.2 (v + 5))] none S0 := by
  unfold zL_copyFrom at hf
  refine fd_Ct_of (by decide +kernel) (Nat.le_of_ble_eq_true rfl) ?_
  intro p e s m below meth c ls C hr hlk hH hl
  have hx := C.1
  have hb := C.2.1
  have hl : lv_has ls 2 [(0, .ref (E.2.2 (u + 5))), (1, .ref (E.2.2 (v + 5)))] := hl
  refine lv_aload_n hx hb dX1_copyFrom_0 rfl (lv_at hl 1 rfl) ?_
  refine fd_get (v + 5) 1 0 C hH (fd_st1 hv 5 (by decide)) (fd_st2 hv 5 (by decide) rfl) (by decide) (by decide) wf_X1_9 (v := .ref (E.2.2 (v + 6))) rfl dX1_copyFrom_1 ?_
  refine lv_iconst (v := (0 : Int32)) hx hb dX1_copyFrom_4 (by decide) ?_
  refine lv_aload_n hx hb dX1_copyFrom_5 rfl (lv_at hl 0 rfl) ?_
  refine fd_get (u + 5) 1 0 C hH (fd_st1 hu 5 (by decide)) (fd_st2 hu 5 (by decide) rfl) (by decide) (by decide) wf_X1_9 (v := .ref (E.2.2 (u + 6))) rfl dX1_copyFrom_6 ?_
  refine lv_iconst (v := (0 : Int32)) hx hb dX1_copyFrom_9 (by decide) ?_
  refine lv_aload_n hx hb dX1_copyFrom_10 rfl (lv_at hl 0 rfl) ?_
  refine fd_get (u + 5) 1 0 C hH (fd_st1 hu 5 (by decide)) (fd_st2 hu 5 (by decide) rfl) (by decide) (by decide) wf_X1_9 (v := .ref (E.2.2 (u + 6))) rfl dX1_copyFrom_11 ?_
  refine fd_alen (u + 6) (120 : Int32) C hH (fd_st1 hu 6 (by decide)) (fd_st2 hu 6 (by decide) rfl) (fd_st4 hu 6 (by decide) rfl) dX1_copyFrom_14 ?_
  refine fd_copy (v + 6) (u + 6) 0 0 120 (0 : Int32) (0 : Int32) (120 : Int32) C hl.1 hH (fd_st1 hv 6 (by decide)) (fd_st2 hv 6 (by decide) rfl) (fd_st1 hu 6 (by decide)) (fd_st2 hu 6 (by decide) rfl) rfl rfl rfl (by rw [fd_st3 hv 6 (by decide) rfl]; decide) (by rw [fd_st3 hu 6 (by decide) rfl]; decide) ⟨(by rw [fd_st3 hv 6 (by decide) rfl]; decide), (by rw [fd_st3 hu 6 (by decide) rfl]; decide)⟩ wl_X1_42 fd_acw (Nat.le_of_ble_eq_true rfl) (Nat.le_of_ble_eq_true rfl) dX1_copyFrom_15 (fun H locs hH => ?_)
  obtain ⟨S1, eS1, hf⟩ := fd_ltS hf
  rw [← eS1] at hH
  refine lv_aload_n hx hb dX1_copyFrom_18 rfl (lv_at hl 1 rfl) ?_
  refine fd_get (v + 5) 1 1 C hH (fd_st1 hv 5 (by decide)) (fd_st2 hv 5 (by decide) rfl) (by decide) (by decide) wf_X1_15 (v := .ref (E.2.2 (v + 7))) rfl dX1_copyFrom_19 ?_
  refine lv_iconst (v := (0 : Int32)) hx hb dX1_copyFrom_22 (by decide) ?_
  refine lv_aload_n hx hb dX1_copyFrom_23 rfl (lv_at hl 0 rfl) ?_
  refine fd_get (u + 5) 1 1 C hH (fd_st1 hu 5 (by decide)) (fd_st2 hu 5 (by decide) rfl) (by decide) (by decide) wf_X1_15 (v := .ref (E.2.2 (u + 7))) rfl dX1_copyFrom_24 ?_
  refine lv_iconst (v := (0 : Int32)) hx hb dX1_copyFrom_27 (by decide) ?_
  refine lv_bipush (v := (6 : Int32)) hx hb dX1_copyFrom_28 (by decide) ?_
  refine fd_copy (v + 7) (u + 7) 0 0 6 (0 : Int32) (0 : Int32) (6 : Int32) C hl.1 hH (fd_st1 hv 7 (by decide)) (fd_st2 hv 7 (by decide) rfl) (fd_st1 hu 7 (by decide)) (fd_st2 hu 7 (by decide) rfl) rfl rfl rfl (by rw [fd_st3 hv 7 (by decide) rfl]; decide) (by rw [fd_st3 hu 7 (by decide) rfl]; decide) ⟨(by rw [fd_st3 hv 7 (by decide) rfl]; decide), (by rw [fd_st3 hu 7 (by decide) rfl]; decide)⟩ wl_X1_42 fd_acw (Nat.le_of_ble_eq_true rfl) (Nat.le_of_ble_eq_true rfl) dX1_copyFrom_30 (fun H locs hH => ?_)
  obtain ⟨S2, eS2, hf⟩ := fd_ltS hf
  rw [← eS2] at hH
  refine lv_aload_n hx hb dX1_copyFrom_33 rfl (lv_at hl 0 rfl) ?_
  refine lv_aload_n hx hb dX1_copyFrom_34 rfl (lv_at hl 1 rfl) ?_
  refine fd_get (v + 5) 1 2 C hH (fd_st1 hv 5 (by decide)) (fd_st2 hv 5 (by decide) rfl) (by decide) (by decide) wf_X1_18 (v := .int (S2 (v + 5) (2 : Int32))) rfl dX1_copyFrom_35 ?_
  refine fd_put (u + 5) 1 2 (2 : Int32) C hH (fd_st1 hu 5 (by decide)) (fd_st2 hu 5 (by decide) rfl) (by decide) (by decide) wf_X1_18 rfl rfl rfl rfl rfl (Nat.le_of_ble_eq_true rfl) dX1_copyFrom_38 (fun H locs hH => ?_)
  obtain ⟨S3, eS3, hf⟩ := fd_ltS hf
  rw [← eS3] at hH
  refine lv_aload_n hx hb dX1_copyFrom_41 rfl (lv_at hl 0 rfl) ?_
  refine lv_aload_n hx hb dX1_copyFrom_42 rfl (lv_at hl 1 rfl) ?_
  refine fd_get (v + 5) 1 3 C hH (fd_st1 hv 5 (by decide)) (fd_st2 hv 5 (by decide) rfl) (by decide) (by decide) wf_X1_22 (v := .int (S3 (v + 5) (3 : Int32))) rfl dX1_copyFrom_43 ?_
  refine fd_put (u + 5) 1 3 (3 : Int32) C hH (fd_st1 hu 5 (by decide)) (fd_st2 hu 5 (by decide) rfl) (by decide) (by decide) wf_X1_22 rfl rfl rfl rfl rfl (Nat.le_of_ble_eq_true rfl) dX1_copyFrom_46 (fun H locs hH => ?_)
  obtain ⟨S4, eS4, hf⟩ := fd_ltS hf
  rw [← eS4] at hH
  cases hf
  exact fd_vret C hr hlk hH dX1_copyFrom_49
