theorem dX1_init_0 : decode cX1_init 0 = .ok (.aload_n 0, 1) := by decide +kernel
theorem dX1_init_1 : decode cX1_init 1 = .ok (.invokespecial 3, 3) := by decide +kernel
theorem dX1_init_4 : decode cX1_init 4 = .ok (.aload_n 0, 1) := by decide +kernel
theorem dX1_init_5 : decode cX1_init 5 = .ok (.bipush 120, 2) := by decide +kernel
theorem dX1_init_7 : decode cX1_init 7 = .ok (.newarray .int, 2) := by decide +kernel
theorem dX1_init_9 : decode cX1_init 9 = .ok (.putfield 9, 3) := by decide +kernel
theorem dX1_init_12 : decode cX1_init 12 = .ok (.aload_n 0, 1) := by decide +kernel
theorem dX1_init_13 : decode cX1_init 13 = .ok (.bipush 6, 2) := by decide +kernel
theorem dX1_init_15 : decode cX1_init 15 = .ok (.newarray .int, 2) := by decide +kernel
theorem dX1_init_17 : decode cX1_init 17 = .ok (.putfield 15, 3) := by decide +kernel
theorem dX1_init_20 : decode cX1_init 20 = .ok (.return_, 1) := by decide +kernel
set_option maxHeartbeats 4000000 in
set_option maxRecDepth 100000 in
theorem c_X1_init (l : Launch) (E : fd_E) (a0 : Nat) (A : Nat → Prop) (w : va_W) (h : Nat) : kc_Ct l yX1_init cX1_init 1 { frames := 1, cells := 2, slots := 126, locals := 12 } E a0 A (w ++ [(h, .inr (1, [.null, .null, .int 0, .int 0]))]) [.ref h] (fun w1 => ∃ q r, w1 = w ++ kL_L E h q r) := by
  refine kc_Ct_of (by decide +kernel) (Nat.le_of_ble_eq_true rfl) ?_
  intro p e s m below meth c ls C hr hlk hH hl
  have hx := C.1
  have hb := C.2.1
  have hl : lv_has ls 1 [(0, .ref h)] := hl
  refine lv_aload_n hx hb dX1_init_0 rfl (lv_at hl 0 rfl) ?_
  refine kc_objInit C hl.1 ko_X1 (Nat.le_of_ble_eq_true rfl) (Nat.le_of_ble_eq_true rfl) dX1_init_1 ?_
  refine lv_aload_n hx hb dX1_init_4 rfl (lv_at hl 0 rfl) ?_
  refine lv_bipush (v := (120 : Int32)) hx hb dX1_init_5 (by decide) ?_
  refine kc_newI (120 : Int32) 120 C hH ka_I (by decide) (by decide) (Nat.le_of_ble_eq_true rfl) (Nat.le_of_ble_eq_true rfl) (Nat.le_of_ble_eq_true rfl) dX1_init_7 (fun q1 H hH => ?_)
  rw [List.append_assoc] at hH
  have hH : kc_H E A (w ++ [(h, .inr (1, [.null, .null, .int 0, .int 0])), (q1, .inl (E.2.1 0, 120, .inl (fun _ => 0)))]) s H _ := hH
  refine kc_putF 0 1 0 [(h, .inr (1, [.ref q1, .null, .int 0, .int 0])), (q1, .inl (E.2.1 0, 120, .inl (fun _ => 0)))] C hH rfl (by decide) (by decide) kf_X1_9 rfl rfl rfl rfl (Nat.le_of_ble_eq_true rfl) rfl dX1_init_9 (fun H locs hH => ?_)
  refine lv_aload_n hx hb dX1_init_12 rfl (lv_at hl 0 rfl) ?_
  refine lv_bipush (v := (6 : Int32)) hx hb dX1_init_13 (by decide) ?_
  refine kc_newI (6 : Int32) 6 C hH ka_I (by decide) (by decide) (Nat.le_of_ble_eq_true rfl) (Nat.le_of_ble_eq_true rfl) (Nat.le_of_ble_eq_true rfl) dX1_init_15 (fun q2 H hH => ?_)
  rw [List.append_assoc] at hH
  have hH : kc_H E A (w ++ [(h, .inr (1, [.ref q1, .null, .int 0, .int 0])), (q1, .inl (E.2.1 0, 120, .inl (fun _ => 0))), (q2, .inl (E.2.1 0, 6, .inl (fun _ => 0)))]) s H _ := hH
  refine kc_putF 0 1 1 [(h, .inr (1, [.ref q1, .ref q2, .int 0, .int 0])), (q1, .inl (E.2.1 0, 120, .inl (fun _ => 0))), (q2, .inl (E.2.1 0, 6, .inl (fun _ => 0)))] C hH rfl (by decide) (by decide) kf_X1_15 rfl rfl rfl rfl (Nat.le_of_ble_eq_true rfl) rfl dX1_init_17 (fun H locs hH => ?_)
  exact kc_vret C hr hlk hH ⟨q1, q2, rfl⟩ rfl rfl dX1_init_20
