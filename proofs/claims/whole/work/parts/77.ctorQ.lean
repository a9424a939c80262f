theorem dX2_init_0 : decode cX2_init 0 = .ok (.aload_n 0, 1) := by decide +kernel
theorem dX2_init_1 : decode cX2_init 1 = .ok (.invokespecial 3, 3) := by decide +kernel
theorem dX2_init_4 : decode cX2_init 4 = .ok (.aload_n 0, 1) := by decide +kernel
theorem dX2_init_5 : decode cX2_init 5 = .ok (.bipush 6, 2) := by decide +kernel
theorem dX2_init_7 : decode cX2_init 7 = .ok (.anewarray 9, 3) := by decide +kernel
theorem dX2_init_10 : decode cX2_init 10 = .ok (.putfield 11, 3) := by decide +kernel
theorem dX2_init_13 : decode cX2_init 13 = .ok (.iconst 0, 1) := by decide +kernel
theorem dX2_init_14 : decode cX2_init 14 = .ok (.istore_n 1, 1) := by decide +kernel
theorem dX2_init_15 : decode cX2_init 15 = .ok (.iload_n 1, 1) := by decide +kernel
theorem dX2_init_16 : decode cX2_init 16 = .ok (.bipush 6, 2) := by decide +kernel
theorem dX2_init_18 : decode cX2_init 18 = .ok (.if_icmp .ge 22, 3) := by decide +kernel
theorem dX2_init_21 : decode cX2_init 21 = .ok (.aload_n 0, 1) := by decide +kernel
theorem dX2_init_22 : decode cX2_init 22 = .ok (.getfield 11, 3) := by decide +kernel
theorem dX2_init_25 : decode cX2_init 25 = .ok (.iload_n 1, 1) := by decide +kernel
theorem dX2_init_26 : decode cX2_init 26 = .ok (.new 9, 3) := by decide +kernel
theorem dX2_init_29 : decode cX2_init 29 = .ok (.dup, 1) := by decide +kernel
theorem dX2_init_30 : decode cX2_init 30 = .ok (.invokespecial 17, 3) := by decide +kernel
theorem dX2_init_33 : decode cX2_init 33 = .ok (.aastore, 1) := by decide +kernel
theorem dX2_init_34 : decode cX2_init 34 = .ok (.iinc 1 1, 3) := by decide +kernel
theorem dX2_init_37 : decode cX2_init 37 = .ok (.goto (-22), 3) := by decide +kernel
theorem dX2_init_40 : decode cX2_init 40 = .ok (.return_, 1) := by decide +kernel
set_option maxHeartbeats 4000000 in
set_option maxRecDepth 100000 in
theorem c_X2_init (l : Launch) (E : fd_E) (a0 : Nat) (A : Nat → Prop) (w : va_W) (h : Nat) : kc_Ct l yX2_init cX2_init 2 { frames := 2, cells := 13, slots := 72, locals := 32 } E a0 A (w ++ [(h, .inr (2, [.null, .int 0, .int 0]))]) [.ref h] (fun w1 => ∃ q r0 c0 r1 c1 r2 c2 r3 c3 r4 c4 r5 c5, w1 = w ++ kL_Q E h q r0 c0 r1 c1 r2 c2 r3 c3 r4 c4 r5 c5) := by
  refine kc_Ct_of (by decide +kernel) (Nat.le_of_ble_eq_true rfl) ?_
  intro p e s m below meth c ls C hr hlk hH hl
  have hx := C.1
  have hb := C.2.1
  have hl : lv_has ls 2 [(0, .ref h)] := hl
  refine lv_aload_n hx hb dX2_init_0 rfl (lv_at hl 0 rfl) ?_
  refine kc_objInit C hl.1 ko_X2 (Nat.le_of_ble_eq_true rfl) (Nat.le_of_ble_eq_true rfl) dX2_init_1 ?_
  refine lv_aload_n hx hb dX2_init_4 rfl (lv_at hl 0 rfl) ?_
  refine lv_bipush (v := (6 : Int32)) hx hb dX2_init_5 (by decide) ?_
  refine kc_newR (6 : Int32) 6 C hH kl_X2_9 (by decide) (by decide) (Nat.le_of_ble_eq_true rfl) (Nat.le_of_ble_eq_true rfl) (Nat.le_of_ble_eq_true rfl) dX2_init_7 (fun q1 H hH => ?_)
  rw [List.append_assoc] at hH
  have hH : kc_H E A (w ++ [(h, .inr (2, [.null, .int 0, .int 0])), (q1, .inl (E.2.1 2, 6, .inr (.inr (.inr (.inr (fun _ => none))))))]) s H _ := hH
  refine kc_putF 0 2 0 [(h, .inr (2, [.ref q1, .int 0, .int 0])), (q1, .inl (E.2.1 2, 6, .inr (.inr (.inr (.inr (fun _ => none))))))] C hH rfl (by decide) (by decide) kf_X2_11 rfl rfl rfl rfl (Nat.le_of_ble_eq_true rfl) rfl dX2_init_10 (fun H locs hH => ?_)
  refine lv_iconst (v := (0 : Int32)) hx hb dX2_init_13 (by decide) ?_
  refine lv_istore_n (lv' := [(1, .int (0 : Int32)), (0, .ref h)]) hx hb dX2_init_14 rfl hl (by decide) rfl (fun ls hl => ?_)
  refine lv_iload_n hx hb dX2_init_15 rfl (lv_at hl 0 rfl) ?_
  refine lv_bipush (v := (6 : Int32)) hx hb dX2_init_16 (by decide) ?_
  refine lv_icmp_ge (tgt := 40) hx hb dX2_init_18 (by decide) (fun c => absurd c (by decide)) (fun _ => ?_)
  refine lv_aload_n hx hb dX2_init_21 rfl (lv_at hl 1 rfl) ?_
  refine kc_get 0 2 0 C hH rfl (by decide) (by decide) kf_X2_11 (v := .ref q1) rfl dX2_init_22 ?_
  refine lv_iload_n hx hb dX2_init_25 rfl (lv_at hl 0 rfl) ?_
  refine kc_new 3 [.int 0, .int 0, .int 0, .int 0, .int 0, .null, .int 0] 7 C hH (by decide) rfl kl_X2_9 ki_X3 kn_X3 (by decide) (Nat.le_of_ble_eq_true rfl) (Nat.le_of_ble_eq_true rfl) dX2_init_26 (fun q2 H hH => ?_)
  rw [List.append_assoc] at hH
  have hH : kc_H E A (w ++ [(h, .inr (2, [.ref q1, .int 0, .int 0])), (q1, .inl (E.2.1 2, 6, .inr (.inr (.inr (.inr (fun _ => none)))))), (q2, .inr (3, [.int 0, .int 0, .int 0, .int 0, .int 0, .null, .int 0]))]) s H _ := hH
  refine lv_dup hx hb dX2_init_29 rfl ?_
  have hHc := kc_asc [(h, .inr (2, [.ref q1, .int 0, .int 0])), (q1, .inl (E.2.1 2, 6, .inr (.inr (.inr (.inr (fun _ => none))))))] [(q2, .inr (3, [.int 0, .int 0, .int 0, .int 0, .int 0, .null, .int 0]))] hH
  clear hH
  refine kc_callN "FlapDamper" C hl.1 hHc (c_X3_init l E a0 A _ q2) kwn_X3 C.2.2.2.2.2.2.1.1.2.2.1 ⟨Nat.le_of_ble_eq_true rfl, Nat.le_of_ble_eq_true rfl⟩ rfl (Nat.le_of_ble_eq_true rfl) ⟨Nat.le_of_ble_eq_true rfl, Nat.le_of_ble_eq_true rfl⟩ dX2_init_30 (fun w1 H locs e1 hH => ?_)
  obtain ⟨q3, rfl⟩ := e1
  rw [List.append_assoc] at hH
  have hH : kc_H E A (w ++ [(h, .inr (2, [.ref q1, .int 0, .int 0])), (q1, .inl (E.2.1 2, 6, .inr (.inr (.inr (.inr (fun _ => none)))))), (q2, .inr (3, [.int 0, .int 0, .int 0, .int 0, .int 0, .ref q3, .int 0])), (q3, .inl (E.2.1 0, 4, .inl (fun _ => 0)))]) s H _ := hH
  refine kc_aast 1 2 (fun j => ([q2] : List Nat)[j]?) [(h, .inr (2, [.ref q1, .int 0, .int 0])), (q1, .inl (E.2.1 2, 6, .inr (.inr (.inr (.inr (fun j => ([q2] : List Nat)[j]?)))))), (q2, .inr (3, [.int 0, .int 0, .int 0, .int 0, .int 0, .ref q3, .int 0])), (q3, .inl (E.2.1 0, 4, .inl (fun _ => 0)))] C hH rfl rfl (fd_tin (n := (6 : Int32)) (by decide) rfl ⟨by decide, by decide⟩) (kc_usnoc1 _) rfl dX2_init_33 (fun H locs hH => ?_)
  refine lv_iinc (v := (1 : Int32)) (lv' := [(1, .int (1 : Int32)), (0, .ref h)]) hx hb dX2_init_34 hl (k := 0) rfl (by decide) (by decide) rfl (fun ls hl => ?_)
  refine lv_goto (tgt := 15) hx hb dX2_init_37 (by decide) ?_
  refine lv_iload_n hx hb dX2_init_15 rfl (lv_at hl 0 rfl) ?_
  refine lv_bipush (v := (6 : Int32)) hx hb dX2_init_16 (by decide) ?_
  refine lv_icmp_ge (tgt := 40) hx hb dX2_init_18 (by decide) (fun c => absurd c (by decide)) (fun _ => ?_)
  refine lv_aload_n hx hb dX2_init_21 rfl (lv_at hl 1 rfl) ?_
  refine kc_get 0 2 0 C hH rfl (by decide) (by decide) kf_X2_11 (v := .ref q1) rfl dX2_init_22 ?_
  refine lv_iload_n hx hb dX2_init_25 rfl (lv_at hl 0 rfl) ?_
  refine kc_new 3 [.int 0, .int 0, .int 0, .int 0, .int 0, .null, .int 0] 7 C hH (by decide) rfl kl_X2_9 ki_X3 kn_X3 (by decide) (Nat.le_of_ble_eq_true rfl) (Nat.le_of_ble_eq_true rfl) dX2_init_26 (fun q4 H hH => ?_)
  rw [List.append_assoc] at hH
  have hH : kc_H E A (w ++ [(h, .inr (2, [.ref q1, .int 0, .int 0])), (q1, .inl (E.2.1 2, 6, .inr (.inr (.inr (.inr (fun j => ([q2] : List Nat)[j]?)))))), (q2, .inr (3, [.int 0, .int 0, .int 0, .int 0, .int 0, .ref q3, .int 0])), (q3, .inl (E.2.1 0, 4, .inl (fun _ => 0))), (q4, .inr (3, [.int 0, .int 0, .int 0, .int 0, .int 0, .null, .int 0]))]) s H _ := hH
  refine lv_dup hx hb dX2_init_29 rfl ?_
  have hHc := kc_asc [(h, .inr (2, [.ref q1, .int 0, .int 0])), (q1, .inl (E.2.1 2, 6, .inr (.inr (.inr (.inr (fun j => ([q2] : List Nat)[j]?)))))), (q2, .inr (3, [.int 0, .int 0, .int 0, .int 0, .int 0, .ref q3, .int 0])), (q3, .inl (E.2.1 0, 4, .inl (fun _ => 0)))] [(q4, .inr (3, [.int 0, .int 0, .int 0, .int 0, .int 0, .null, .int 0]))] hH
  clear hH
  refine kc_callN "FlapDamper" C hl.1 hHc (c_X3_init l E a0 A _ q4) kwn_X3 C.2.2.2.2.2.2.1.1.2.2.1 ⟨Nat.le_of_ble_eq_true rfl, Nat.le_of_ble_eq_true rfl⟩ rfl (Nat.le_of_ble_eq_true rfl) ⟨Nat.le_of_ble_eq_true rfl, Nat.le_of_ble_eq_true rfl⟩ dX2_init_30 (fun w1 H locs e1 hH => ?_)
  obtain ⟨q5, rfl⟩ := e1
  rw [List.append_assoc] at hH
  have hH : kc_H E A (w ++ [(h, .inr (2, [.ref q1, .int 0, .int 0])), (q1, .inl (E.2.1 2, 6, .inr (.inr (.inr (.inr (fun j => ([q2] : List Nat)[j]?)))))), (q2, .inr (3, [.int 0, .int 0, .int 0, .int 0, .int 0, .ref q3, .int 0])), (q3, .inl (E.2.1 0, 4, .inl (fun _ => 0))), (q4, .inr (3, [.int 0, .int 0, .int 0, .int 0, .int 0, .ref q5, .int 0])), (q5, .inl (E.2.1 0, 4, .inl (fun _ => 0)))]) s H _ := hH
  refine kc_aast 1 4 (fun j => ([q2, q4] : List Nat)[j]?) [(h, .inr (2, [.ref q1, .int 0, .int 0])), (q1, .inl (E.2.1 2, 6, .inr (.inr (.inr (.inr (fun j => ([q2, q4] : List Nat)[j]?)))))), (q2, .inr (3, [.int 0, .int 0, .int 0, .int 0, .int 0, .ref q3, .int 0])), (q3, .inl (E.2.1 0, 4, .inl (fun _ => 0))), (q4, .inr (3, [.int 0, .int 0, .int 0, .int 0, .int 0, .ref q5, .int 0])), (q5, .inl (E.2.1 0, 4, .inl (fun _ => 0)))] C hH rfl rfl (fd_tin (n := (6 : Int32)) (by decide) rfl ⟨by decide, by decide⟩) (kc_usnoc [q2] [q2, q4] _ _ (show Int32.toNatClampNeg (1 : Int32) = 1 by decide) rfl) rfl dX2_init_33 (fun H locs hH => ?_)
  refine lv_iinc (v := (2 : Int32)) (lv' := [(1, .int (2 : Int32)), (0, .ref h)]) hx hb dX2_init_34 hl (k := 0) rfl (by decide) (by decide) rfl (fun ls hl => ?_)
  refine lv_goto (tgt := 15) hx hb dX2_init_37 (by decide) ?_
  refine lv_iload_n hx hb dX2_init_15 rfl (lv_at hl 0 rfl) ?_
  refine lv_bipush (v := (6 : Int32)) hx hb dX2_init_16 (by decide) ?_
  refine lv_icmp_ge (tgt := 40) hx hb dX2_init_18 (by decide) (fun c => absurd c (by decide)) (fun _ => ?_)
  refine lv_aload_n hx hb dX2_init_21 rfl (lv_at hl 1 rfl) ?_
  refine kc_get 0 2 0 C hH rfl (by decide) (by decide) kf_X2_11 (v := .ref q1) rfl dX2_init_22 ?_
  refine lv_iload_n hx hb dX2_init_25 rfl (lv_at hl 0 rfl) ?_
  refine kc_new 3 [.int 0, .int 0, .int 0, .int 0, .int 0, .null, .int 0] 7 C hH (by decide) rfl kl_X2_9 ki_X3 kn_X3 (by decide) (Nat.le_of_ble_eq_true rfl) (Nat.le_of_ble_eq_true rfl) dX2_init_26 (fun q6 H hH => ?_)
  rw [List.append_assoc] at hH
  have hH : kc_H E A (w ++ [(h, .inr (2, [.ref q1, .int 0, .int 0])), (q1, .inl (E.2.1 2, 6, .inr (.inr (.inr (.inr (fun j => ([q2, q4] : List Nat)[j]?)))))), (q2, .inr (3, [.int 0, .int 0, .int 0, .int 0, .int 0, .ref q3, .int 0])), (q3, .inl (E.2.1 0, 4, .inl (fun _ => 0))), (q4, .inr (3, [.int 0, .int 0, .int 0, .int 0, .int 0, .ref q5, .int 0])), (q5, .inl (E.2.1 0, 4, .inl (fun _ => 0))), (q6, .inr (3, [.int 0, .int 0, .int 0, .int 0, .int 0, .null, .int 0]))]) s H _ := hH
  refine lv_dup hx hb dX2_init_29 rfl ?_
  have hHc := kc_asc [(h, .inr (2, [.ref q1, .int 0, .int 0])), (q1, .inl (E.2.1 2, 6, .inr (.inr (.inr (.inr (fun j => ([q2, q4] : List Nat)[j]?)))))), (q2, .inr (3, [.int 0, .int 0, .int 0, .int 0, .int 0, .ref q3, .int 0])), (q3, .inl (E.2.1 0, 4, .inl (fun _ => 0))), (q4, .inr (3, [.int 0, .int 0, .int 0, .int 0, .int 0, .ref q5, .int 0])), (q5, .inl (E.2.1 0, 4, .inl (fun _ => 0)))] [(q6, .inr (3, [.int 0, .int 0, .int 0, .int 0, .int 0, .null, .int 0]))] hH
  clear hH
  refine kc_callN "FlapDamper" C hl.1 hHc (c_X3_init l E a0 A _ q6) kwn_X3 C.2.2.2.2.2.2.1.1.2.2.1 ⟨Nat.le_of_ble_eq_true rfl, Nat.le_of_ble_eq_true rfl⟩ rfl (Nat.le_of_ble_eq_true rfl) ⟨Nat.le_of_ble_eq_true rfl, Nat.le_of_ble_eq_true rfl⟩ dX2_init_30 (fun w1 H locs e1 hH => ?_)
  obtain ⟨q7, rfl⟩ := e1
  rw [List.append_assoc] at hH
  have hH : kc_H E A (w ++ [(h, .inr (2, [.ref q1, .int 0, .int 0])), (q1, .inl (E.2.1 2, 6, .inr (.inr (.inr (.inr (fun j => ([q2, q4] : List Nat)[j]?)))))), (q2, .inr (3, [.int 0, .int 0, .int 0, .int 0, .int 0, .ref q3, .int 0])), (q3, .inl (E.2.1 0, 4, .inl (fun _ => 0))), (q4, .inr (3, [.int 0, .int 0, .int 0, .int 0, .int 0, .ref q5, .int 0])), (q5, .inl (E.2.1 0, 4, .inl (fun _ => 0))), (q6, .inr (3, [.int 0, .int 0, .int 0, .int 0, .int 0, .ref q7, .int 0])), (q7, .inl (E.2.1 0, 4, .inl (fun _ => 0)))]) s H _ := hH
  refine kc_aast 1 6 (fun j => ([q2, q4, q6] : List Nat)[j]?) [(h, .inr (2, [.ref q1, .int 0, .int 0])), (q1, .inl (E.2.1 2, 6, .inr (.inr (.inr (.inr (fun j => ([q2, q4, q6] : List Nat)[j]?)))))), (q2, .inr (3, [.int 0, .int 0, .int 0, .int 0, .int 0, .ref q3, .int 0])), (q3, .inl (E.2.1 0, 4, .inl (fun _ => 0))), (q4, .inr (3, [.int 0, .int 0, .int 0, .int 0, .int 0, .ref q5, .int 0])), (q5, .inl (E.2.1 0, 4, .inl (fun _ => 0))), (q6, .inr (3, [.int 0, .int 0, .int 0, .int 0, .int 0, .ref q7, .int 0])), (q7, .inl (E.2.1 0, 4, .inl (fun _ => 0)))] C hH rfl rfl (fd_tin (n := (6 : Int32)) (by decide) rfl ⟨by decide, by decide⟩) (kc_usnoc [q2, q4] [q2, q4, q6] _ _ (show Int32.toNatClampNeg (2 : Int32) = 2 by decide) rfl) rfl dX2_init_33 (fun H locs hH => ?_)
  refine lv_iinc (v := (3 : Int32)) (lv' := [(1, .int (3 : Int32)), (0, .ref h)]) hx hb dX2_init_34 hl (k := 0) rfl (by decide) (by decide) rfl (fun ls hl => ?_)
  refine lv_goto (tgt := 15) hx hb dX2_init_37 (by decide) ?_
  refine lv_iload_n hx hb dX2_init_15 rfl (lv_at hl 0 rfl) ?_
  refine lv_bipush (v := (6 : Int32)) hx hb dX2_init_16 (by decide) ?_
  refine lv_icmp_ge (tgt := 40) hx hb dX2_init_18 (by decide) (fun c => absurd c (by decide)) (fun _ => ?_)
  refine lv_aload_n hx hb dX2_init_21 rfl (lv_at hl 1 rfl) ?_
  refine kc_get 0 2 0 C hH rfl (by decide) (by decide) kf_X2_11 (v := .ref q1) rfl dX2_init_22 ?_
  refine lv_iload_n hx hb dX2_init_25 rfl (lv_at hl 0 rfl) ?_
  refine kc_new 3 [.int 0, .int 0, .int 0, .int 0, .int 0, .null, .int 0] 7 C hH (by decide) rfl kl_X2_9 ki_X3 kn_X3 (by decide) (Nat.le_of_ble_eq_true rfl) (Nat.le_of_ble_eq_true rfl) dX2_init_26 (fun q8 H hH => ?_)
  rw [List.append_assoc] at hH
  have hH : kc_H E A (w ++ [(h, .inr (2, [.ref q1, .int 0, .int 0])), (q1, .inl (E.2.1 2, 6, .inr (.inr (.inr (.inr (fun j => ([q2, q4, q6] : List Nat)[j]?)))))), (q2, .inr (3, [.int 0, .int 0, .int 0, .int 0, .int 0, .ref q3, .int 0])), (q3, .inl (E.2.1 0, 4, .inl (fun _ => 0))), (q4, .inr (3, [.int 0, .int 0, .int 0, .int 0, .int 0, .ref q5, .int 0])), (q5, .inl (E.2.1 0, 4, .inl (fun _ => 0))), (q6, .inr (3, [.int 0, .int 0, .int 0, .int 0, .int 0, .ref q7, .int 0])), (q7, .inl (E.2.1 0, 4, .inl (fun _ => 0))), (q8, .inr (3, [.int 0, .int 0, .int 0, .int 0, .int 0, .null, .int 0]))]) s H _ := hH
  refine lv_dup hx hb dX2_init_29 rfl ?_
  have hHc := kc_asc [(h, .inr (2, [.ref q1, .int 0, .int 0])), (q1, .inl (E.2.1 2, 6, .inr (.inr (.inr (.inr (fun j => ([q2, q4, q6] : List Nat)[j]?)))))), (q2, .inr (3, [.int 0, .int 0, .int 0, .int 0, .int 0, .ref q3, .int 0])), (q3, .inl (E.2.1 0, 4, .inl (fun _ => 0))), (q4, .inr (3, [.int 0, .int 0, .int 0, .int 0, .int 0, .ref q5, .int 0])), (q5, .inl (E.2.1 0, 4, .inl (fun _ => 0))), (q6, .inr (3, [.int 0, .int 0, .int 0, .int 0, .int 0, .ref q7, .int 0])), (q7, .inl (E.2.1 0, 4, .inl (fun _ => 0)))] [(q8, .inr (3, [.int 0, .int 0, .int 0, .int 0, .int 0, .null, .int 0]))] hH
  clear hH
  refine kc_callN "FlapDamper" C hl.1 hHc (c_X3_init l E a0 A _ q8) kwn_X3 C.2.2.2.2.2.2.1.1.2.2.1 ⟨Nat.le_of_ble_eq_true rfl, Nat.le_of_ble_eq_true rfl⟩ rfl (Nat.le_of_ble_eq_true rfl) ⟨Nat.le_of_ble_eq_true rfl, Nat.le_of_ble_eq_true rfl⟩ dX2_init_30 (fun w1 H locs e1 hH => ?_)
  obtain ⟨q9, rfl⟩ := e1
  rw [List.append_assoc] at hH
  have hH : kc_H E A (w ++ [(h, .inr (2, [.ref q1, .int 0, .int 0])), (q1, .inl (E.2.1 2, 6, .inr (.inr (.inr (.inr (fun j => ([q2, q4, q6] : List Nat)[j]?)))))), (q2, .inr (3, [.int 0, .int 0, .int 0, .int 0, .int 0, .ref q3, .int 0])), (q3, .inl (E.2.1 0, 4, .inl (fun _ => 0))), (q4, .inr (3, [.int 0, .int 0, .int 0, .int 0, .int 0, .ref q5, .int 0])), (q5, .inl (E.2.1 0, 4, .inl (fun _ => 0))), (q6, .inr (3, [.int 0, .int 0, .int 0, .int 0, .int 0, .ref q7, .int 0])), (q7, .inl (E.2.1 0, 4, .inl (fun _ => 0))), (q8, .inr (3, [.int 0, .int 0, .int 0, .int 0, .int 0, .ref q9, .int 0])), (q9, .inl (E.2.1 0, 4, .inl (fun _ => 0)))]) s H _ := hH
  refine kc_aast 1 8 (fun j => ([q2, q4, q6, q8] : List Nat)[j]?) [(h, .inr (2, [.ref q1, .int 0, .int 0])), (q1, .inl (E.2.1 2, 6, .inr (.inr (.inr (.inr (fun j => ([q2, q4, q6, q8] : List Nat)[j]?)))))), (q2, .inr (3, [.int 0, .int 0, .int 0, .int 0, .int 0, .ref q3, .int 0])), (q3, .inl (E.2.1 0, 4, .inl (fun _ => 0))), (q4, .inr (3, [.int 0, .int 0, .int 0, .int 0, .int 0, .ref q5, .int 0])), (q5, .inl (E.2.1 0, 4, .inl (fun _ => 0))), (q6, .inr (3, [.int 0, .int 0, .int 0, .int 0, .int 0, .ref q7, .int 0])), (q7, .inl (E.2.1 0, 4, .inl (fun _ => 0))), (q8, .inr (3, [.int 0, .int 0, .int 0, .int 0, .int 0, .ref q9, .int 0])), (q9, .inl (E.2.1 0, 4, .inl (fun _ => 0)))] C hH rfl rfl (fd_tin (n := (6 : Int32)) (by decide) rfl ⟨by decide, by decide⟩) (kc_usnoc [q2, q4, q6] [q2, q4, q6, q8] _ _ (show Int32.toNatClampNeg (3 : Int32) = 3 by decide) rfl) rfl dX2_init_33 (fun H locs hH => ?_)
  refine lv_iinc (v := (4 : Int32)) (lv' := [(1, .int (4 : Int32)), (0, .ref h)]) hx hb dX2_init_34 hl (k := 0) rfl (by decide) (by decide) rfl (fun ls hl => ?_)
  refine lv_goto (tgt := 15) hx hb dX2_init_37 (by decide) ?_
  refine lv_iload_n hx hb dX2_init_15 rfl (lv_at hl 0 rfl) ?_
  refine lv_bipush (v := (6 : Int32)) hx hb dX2_init_16 (by decide) ?_
  refine lv_icmp_ge (tgt := 40) hx hb dX2_init_18 (by decide) (fun c => absurd c (by decide)) (fun _ => ?_)
  refine lv_aload_n hx hb dX2_init_21 rfl (lv_at hl 1 rfl) ?_
  refine kc_get 0 2 0 C hH rfl (by decide) (by decide) kf_X2_11 (v := .ref q1) rfl dX2_init_22 ?_
  refine lv_iload_n hx hb dX2_init_25 rfl (lv_at hl 0 rfl) ?_
  refine kc_new 3 [.int 0, .int 0, .int 0, .int 0, .int 0, .null, .int 0] 7 C hH (by decide) rfl kl_X2_9 ki_X3 kn_X3 (by decide) (Nat.le_of_ble_eq_true rfl) (Nat.le_of_ble_eq_true rfl) dX2_init_26 (fun q10 H hH => ?_)
  rw [List.append_assoc] at hH
  have hH : kc_H E A (w ++ [(h, .inr (2, [.ref q1, .int 0, .int 0])), (q1, .inl (E.2.1 2, 6, .inr (.inr (.inr (.inr (fun j => ([q2, q4, q6, q8] : List Nat)[j]?)))))), (q2, .inr (3, [.int 0, .int 0, .int 0, .int 0, .int 0, .ref q3, .int 0])), (q3, .inl (E.2.1 0, 4, .inl (fun _ => 0))), (q4, .inr (3, [.int 0, .int 0, .int 0, .int 0, .int 0, .ref q5, .int 0])), (q5, .inl (E.2.1 0, 4, .inl (fun _ => 0))), (q6, .inr (3, [.int 0, .int 0, .int 0, .int 0, .int 0, .ref q7, .int 0])), (q7, .inl (E.2.1 0, 4, .inl (fun _ => 0))), (q8, .inr (3, [.int 0, .int 0, .int 0, .int 0, .int 0, .ref q9, .int 0])), (q9, .inl (E.2.1 0, 4, .inl (fun _ => 0))), (q10, .inr (3, [.int 0, .int 0, .int 0, .int 0, .int 0, .null, .int 0]))]) s H _ := hH
  refine lv_dup hx hb dX2_init_29 rfl ?_
  have hHc := kc_asc [(h, .inr (2, [.ref q1, .int 0, .int 0])), (q1, .inl (E.2.1 2, 6, .inr (.inr (.inr (.inr (fun j => ([q2, q4, q6, q8] : List Nat)[j]?)))))), (q2, .inr (3, [.int 0, .int 0, .int 0, .int 0, .int 0, .ref q3, .int 0])), (q3, .inl (E.2.1 0, 4, .inl (fun _ => 0))), (q4, .inr (3, [.int 0, .int 0, .int 0, .int 0, .int 0, .ref q5, .int 0])), (q5, .inl (E.2.1 0, 4, .inl (fun _ => 0))), (q6, .inr (3, [.int 0, .int 0, .int 0, .int 0, .int 0, .ref q7, .int 0])), (q7, .inl (E.2.1 0, 4, .inl (fun _ => 0))), (q8, .inr (3, [.int 0, .int 0, .int 0, .int 0, .int 0, .ref q9, .int 0])), (q9, .inl (E.2.1 0, 4, .inl (fun _ => 0)))] [(q10, .inr (3, [.int 0, .int 0, .int 0, .int 0, .int 0, .null, .int 0]))] hH
  clear hH
  refine kc_callN "FlapDamper" C hl.1 hHc (c_X3_init l E a0 A _ q10) kwn_X3 C.2.2.2.2.2.2.1.1.2.2.1 ⟨Nat.le_of_ble_eq_true rfl, Nat.le_of_ble_eq_true rfl⟩ rfl (Nat.le_of_ble_eq_true rfl) ⟨Nat.le_of_ble_eq_true rfl, Nat.le_of_ble_eq_true rfl⟩ dX2_init_30 (fun w1 H locs e1 hH => ?_)
  obtain ⟨q11, rfl⟩ := e1
  rw [List.append_assoc] at hH
  have hH : kc_H E A (w ++ [(h, .inr (2, [.ref q1, .int 0, .int 0])), (q1, .inl (E.2.1 2, 6, .inr (.inr (.inr (.inr (fun j => ([q2, q4, q6, q8] : List Nat)[j]?)))))), (q2, .inr (3, [.int 0, .int 0, .int 0, .int 0, .int 0, .ref q3, .int 0])), (q3, .inl (E.2.1 0, 4, .inl (fun _ => 0))), (q4, .inr (3, [.int 0, .int 0, .int 0, .int 0, .int 0, .ref q5, .int 0])), (q5, .inl (E.2.1 0, 4, .inl (fun _ => 0))), (q6, .inr (3, [.int 0, .int 0, .int 0, .int 0, .int 0, .ref q7, .int 0])), (q7, .inl (E.2.1 0, 4, .inl (fun _ => 0))), (q8, .inr (3, [.int 0, .int 0, .int 0, .int 0, .int 0, .ref q9, .int 0])), (q9, .inl (E.2.1 0, 4, .inl (fun _ => 0))), (q10, .inr (3, [.int 0, .int 0, .int 0, .int 0, .int 0, .ref q11, .int 0])), (q11, .inl (E.2.1 0, 4, .inl (fun _ => 0)))]) s H _ := hH
  refine kc_aast 1 10 (fun j => ([q2, q4, q6, q8, q10] : List Nat)[j]?) [(h, .inr (2, [.ref q1, .int 0, .int 0])), (q1, .inl (E.2.1 2, 6, .inr (.inr (.inr (.inr (fun j => ([q2, q4, q6, q8, q10] : List Nat)[j]?)))))), (q2, .inr (3, [.int 0, .int 0, .int 0, .int 0, .int 0, .ref q3, .int 0])), (q3, .inl (E.2.1 0, 4, .inl (fun _ => 0))), (q4, .inr (3, [.int 0, .int 0, .int 0, .int 0, .int 0, .ref q5, .int 0])), (q5, .inl (E.2.1 0, 4, .inl (fun _ => 0))), (q6, .inr (3, [.int 0, .int 0, .int 0, .int 0, .int 0, .ref q7, .int 0])), (q7, .inl (E.2.1 0, 4, .inl (fun _ => 0))), (q8, .inr (3, [.int 0, .int 0, .int 0, .int 0, .int 0, .ref q9, .int 0])), (q9, .inl (E.2.1 0, 4, .inl (fun _ => 0))), (q10, .inr (3, [.int 0, .int 0, .int 0, .int 0, .int 0, .ref q11, .int 0])), (q11, .inl (E.2.1 0, 4, .inl (fun _ => 0)))] C hH rfl rfl (fd_tin (n := (6 : Int32)) (by decide) rfl ⟨by decide, by decide⟩) (kc_usnoc [q2, q4, q6, q8] [q2, q4, q6, q8, q10] _ _ (show Int32.toNatClampNeg (4 : Int32) = 4 by decide) rfl) rfl dX2_init_33 (fun H locs hH => ?_)
  refine lv_iinc (v := (5 : Int32)) (lv' := [(1, .int (5 : Int32)), (0, .ref h)]) hx hb dX2_init_34 hl (k := 0) rfl (by decide) (by decide) rfl (fun ls hl => ?_)
  refine lv_goto (tgt := 15) hx hb dX2_init_37 (by decide) ?_
  refine lv_iload_n hx hb dX2_init_15 rfl (lv_at hl 0 rfl) ?_
  refine lv_bipush (v := (6 : Int32)) hx hb dX2_init_16 (by decide) ?_
  refine lv_icmp_ge (tgt := 40) hx hb dX2_init_18 (by decide) (fun c => absurd c (by decide)) (fun _ => ?_)
  refine lv_aload_n hx hb dX2_init_21 rfl (lv_at hl 1 rfl) ?_
  refine kc_get 0 2 0 C hH rfl (by decide) (by decide) kf_X2_11 (v := .ref q1) rfl dX2_init_22 ?_
  refine lv_iload_n hx hb dX2_init_25 rfl (lv_at hl 0 rfl) ?_
  refine kc_new 3 [.int 0, .int 0, .int 0, .int 0, .int 0, .null, .int 0] 7 C hH (by decide) rfl kl_X2_9 ki_X3 kn_X3 (by decide) (Nat.le_of_ble_eq_true rfl) (Nat.le_of_ble_eq_true rfl) dX2_init_26 (fun q12 H hH => ?_)
  rw [List.append_assoc] at hH
  have hH : kc_H E A (w ++ [(h, .inr (2, [.ref q1, .int 0, .int 0])), (q1, .inl (E.2.1 2, 6, .inr (.inr (.inr (.inr (fun j => ([q2, q4, q6, q8, q10] : List Nat)[j]?)))))), (q2, .inr (3, [.int 0, .int 0, .int 0, .int 0, .int 0, .ref q3, .int 0])), (q3, .inl (E.2.1 0, 4, .inl (fun _ => 0))), (q4, .inr (3, [.int 0, .int 0, .int 0, .int 0, .int 0, .ref q5, .int 0])), (q5, .inl (E.2.1 0, 4, .inl (fun _ => 0))), (q6, .inr (3, [.int 0, .int 0, .int 0, .int 0, .int 0, .ref q7, .int 0])), (q7, .inl (E.2.1 0, 4, .inl (fun _ => 0))), (q8, .inr (3, [.int 0, .int 0, .int 0, .int 0, .int 0, .ref q9, .int 0])), (q9, .inl (E.2.1 0, 4, .inl (fun _ => 0))), (q10, .inr (3, [.int 0, .int 0, .int 0, .int 0, .int 0, .ref q11, .int 0])), (q11, .inl (E.2.1 0, 4, .inl (fun _ => 0))), (q12, .inr (3, [.int 0, .int 0, .int 0, .int 0, .int 0, .null, .int 0]))]) s H _ := hH
  refine lv_dup hx hb dX2_init_29 rfl ?_
  have hHc := kc_asc [(h, .inr (2, [.ref q1, .int 0, .int 0])), (q1, .inl (E.2.1 2, 6, .inr (.inr (.inr (.inr (fun j => ([q2, q4, q6, q8, q10] : List Nat)[j]?)))))), (q2, .inr (3, [.int 0, .int 0, .int 0, .int 0, .int 0, .ref q3, .int 0])), (q3, .inl (E.2.1 0, 4, .inl (fun _ => 0))), (q4, .inr (3, [.int 0, .int 0, .int 0, .int 0, .int 0, .ref q5, .int 0])), (q5, .inl (E.2.1 0, 4, .inl (fun _ => 0))), (q6, .inr (3, [.int 0, .int 0, .int 0, .int 0, .int 0, .ref q7, .int 0])), (q7, .inl (E.2.1 0, 4, .inl (fun _ => 0))), (q8, .inr (3, [.int 0, .int 0, .int 0, .int 0, .int 0, .ref q9, .int 0])), (q9, .inl (E.2.1 0, 4, .inl (fun _ => 0))), (q10, .inr (3, [.int 0, .int 0, .int 0, .int 0, .int 0, .ref q11, .int 0])), (q11, .inl (E.2.1 0, 4, .inl (fun _ => 0)))] [(q12, .inr (3, [.int 0, .int 0, .int 0, .int 0, .int 0, .null, .int 0]))] hH
  clear hH
  refine kc_callN "FlapDamper" C hl.1 hHc (c_X3_init l E a0 A _ q12) kwn_X3 C.2.2.2.2.2.2.1.1.2.2.1 ⟨Nat.le_of_ble_eq_true rfl, Nat.le_of_ble_eq_true rfl⟩ rfl (Nat.le_of_ble_eq_true rfl) ⟨Nat.le_of_ble_eq_true rfl, Nat.le_of_ble_eq_true rfl⟩ dX2_init_30 (fun w1 H locs e1 hH => ?_)
  obtain ⟨q13, rfl⟩ := e1
  rw [List.append_assoc] at hH
  have hH : kc_H E A (w ++ [(h, .inr (2, [.ref q1, .int 0, .int 0])), (q1, .inl (E.2.1 2, 6, .inr (.inr (.inr (.inr (fun j => ([q2, q4, q6, q8, q10] : List Nat)[j]?)))))), (q2, .inr (3, [.int 0, .int 0, .int 0, .int 0, .int 0, .ref q3, .int 0])), (q3, .inl (E.2.1 0, 4, .inl (fun _ => 0))), (q4, .inr (3, [.int 0, .int 0, .int 0, .int 0, .int 0, .ref q5, .int 0])), (q5, .inl (E.2.1 0, 4, .inl (fun _ => 0))), (q6, .inr (3, [.int 0, .int 0, .int 0, .int 0, .int 0, .ref q7, .int 0])), (q7, .inl (E.2.1 0, 4, .inl (fun _ => 0))), (q8, .inr (3, [.int 0, .int 0, .int 0, .int 0, .int 0, .ref q9, .int 0])), (q9, .inl (E.2.1 0, 4, .inl (fun _ => 0))), (q10, .inr (3, [.int 0, .int 0, .int 0, .int 0, .int 0, .ref q11, .int 0])), (q11, .inl (E.2.1 0, 4, .inl (fun _ => 0))), (q12, .inr (3, [.int 0, .int 0, .int 0, .int 0, .int 0, .ref q13, .int 0])), (q13, .inl (E.2.1 0, 4, .inl (fun _ => 0)))]) s H _ := hH
  refine kc_aast 1 12 (fun j => ([q2, q4, q6, q8, q10, q12] : List Nat)[j]?) [(h, .inr (2, [.ref q1, .int 0, .int 0])), (q1, .inl (E.2.1 2, 6, .inr (.inr (.inr (.inr (fun j => ([q2, q4, q6, q8, q10, q12] : List Nat)[j]?)))))), (q2, .inr (3, [.int 0, .int 0, .int 0, .int 0, .int 0, .ref q3, .int 0])), (q3, .inl (E.2.1 0, 4, .inl (fun _ => 0))), (q4, .inr (3, [.int 0, .int 0, .int 0, .int 0, .int 0, .ref q5, .int 0])), (q5, .inl (E.2.1 0, 4, .inl (fun _ => 0))), (q6, .inr (3, [.int 0, .int 0, .int 0, .int 0, .int 0, .ref q7, .int 0])), (q7, .inl (E.2.1 0, 4, .inl (fun _ => 0))), (q8, .inr (3, [.int 0, .int 0, .int 0, .int 0, .int 0, .ref q9, .int 0])), (q9, .inl (E.2.1 0, 4, .inl (fun _ => 0))), (q10, .inr (3, [.int 0, .int 0, .int 0, .int 0, .int 0, .ref q11, .int 0])), (q11, .inl (E.2.1 0, 4, .inl (fun _ => 0))), (q12, .inr (3, [.int 0, .int 0, .int 0, .int 0, .int 0, .ref q13, .int 0])), (q13, .inl (E.2.1 0, 4, .inl (fun _ => 0)))] C hH rfl rfl (fd_tin (n := (6 : Int32)) (by decide) rfl ⟨by decide, by decide⟩) (kc_usnoc [q2, q4, q6, q8, q10] [q2, q4, q6, q8, q10, q12] _ _ (show Int32.toNatClampNeg (5 : Int32) = 5 by decide) rfl) rfl dX2_init_33 (fun H locs hH => ?_)
  refine lv_iinc (v := (6 : Int32)) (lv' := [(1, .int (6 : Int32)), (0, .ref h)]) hx hb dX2_init_34 hl (k := 0) rfl (by decide) (by decide) rfl (fun ls hl => ?_)
  refine lv_goto (tgt := 15) hx hb dX2_init_37 (by decide) ?_
  refine lv_iload_n hx hb dX2_init_15 rfl (lv_at hl 0 rfl) ?_
  refine lv_bipush (v := (6 : Int32)) hx hb dX2_init_16 (by decide) ?_
  refine lv_icmp_ge (tgt := 40) hx hb dX2_init_18 (by decide) (fun _ => ?_) (fun c => absurd (by decide) c)
  exact kc_vret C hr hlk hH ⟨q1, q2, q3, q4, q5, q6, q7, q8, q9, q10, q11, q12, q13, rfl⟩ rfl rfl dX2_init_40
