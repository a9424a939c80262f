theorem dX3_init_0 : decode cX3_init 0 = .ok (.aload_n 0, 1) := by decide +kernel
theorem dX3_init_1 : decode cX3_init 1 = .ok (.invokespecial 3, 3) := by decide +kernel
theorem dX3_init_4 : decode cX3_init 4 = .ok (.aload_n 0, 1) := by decide +kernel
theorem dX3_init_5 : decode cX3_init 5 = .ok (.iconst 4, 1) := by decide +kernel
theorem dX3_init_6 : decode cX3_init 6 = .ok (.newarray .int, 2) := by decide +kernel
theorem dX3_init_8 : decode cX3_init 8 = .ok (.putfield 9, 3) := by decide +kernel
theorem dX3_init_11 : decode cX3_init 11 = .ok (.return_, 1) := by decide +kernel
set_option maxHeartbeats 4000000 in
set_option maxRecDepth 100000 in
theorem c_X3_init (l : Launch) (E : fd_E) (a0 : Nat) (A : Nat → Prop) (w : va_W) (h : Nat) : kc_Ct l yX3_init cX3_init 1 { frames := 1, cells := 1, slots := 4, locals := 12 } E a0 A (w ++ [(h, .inr (3, [.int 0, .int 0, .int 0, .int 0, .int 0, .null, .int 0]))]) [.ref h] (fun w1 => ∃ q, w1 = w ++ kL_R E h q) := by
  refine kc_Ct_of (by decide +kernel) (Nat.le_of_ble_eq_true rfl) ?_
  intro p e s m below meth c ls C hr hlk hH hl
  have hx := C.1
  have hb := C.2.1
  have hl : lv_has ls 1 [(0, .ref h)] := hl
  refine lv_aload_n hx hb dX3_init_0 rfl (lv_at hl 0 rfl) ?_
  refine kc_objInit C hl.1 ko_X3 (Nat.le_of_ble_eq_true rfl) (Nat.le_of_ble_eq_true rfl) dX3_init_1 ?_
  refine lv_aload_n hx hb dX3_init_4 rfl (lv_at hl 0 rfl) ?_
  refine lv_iconst (v := (4 : Int32)) hx hb dX3_init_5 (by decide) ?_
  refine kc_newI (4 : Int32) 4 C hH ka_I (by decide) (by decide) (Nat.le_of_ble_eq_true rfl) (Nat.le_of_ble_eq_true rfl) (Nat.le_of_ble_eq_true rfl) dX3_init_6 (fun q1 H hH => ?_)
  rw [List.append_assoc] at hH
  have hH : kc_H E A (w ++ [(h, .inr (3, [.int 0, .int 0, .int 0, .int 0, .int 0, .null, .int 0])), (q1, .inl (E.2.1 0, 4, .inl (fun _ => 0)))]) s H _ := hH
  refine kc_putF 0 3 5 [(h, .inr (3, [.int 0, .int 0, .int 0, .int 0, .int 0, .ref q1, .int 0])), (q1, .inl (E.2.1 0, 4, .inl (fun _ => 0)))] C hH rfl (by decide) (by decide) kf_X3_9 rfl rfl rfl rfl (Nat.le_of_ble_eq_true rfl) rfl dX3_init_8 (fun H locs hH => ?_)
  exact kc_vret C hr hlk hH ⟨q1, rfl⟩ rfl rfl dX3_init_11
