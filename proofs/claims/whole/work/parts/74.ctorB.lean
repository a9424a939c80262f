theorem dX0_init_0 : decode cX0_init 0 = .ok (.aload_n 0, 1) := by decide +kernel
theorem dX0_init_1 : decode cX0_init 1 = .ok (.invokespecial 3, 3) := by decide +kernel
theorem dX0_init_4 : decode cX0_init 4 = .ok (.aload_n 0, 1) := by decide +kernel
theorem dX0_init_5 : decode cX0_init 5 = .ok (.getstatic 9, 3) := by decide +kernel
theorem dX0_init_8 : decode cX0_init 8 = .ok (.invokevirtual 13, 3) := by decide +kernel
theorem dX0_init_11 : decode cX0_init 11 = .ok (.checkcast 14, 3) := by decide +kernel
theorem dX0_init_14 : decode cX0_init 14 = .ok (.putfield 18, 3) := by decide +kernel
theorem dX0_init_17 : decode cX0_init 17 = .ok (.return_, 1) := by decide +kernel
set_option maxHeartbeats 4000000 in
set_option maxRecDepth 100000 in
theorem c_X0_init (l : Launch) (E : fd_E) (a0 : Nat) (A : Nat → Prop) (w : va_W) (h : Nat) : kc_Ct l yX0_init cX0_init 1 { frames := 1, cells := 1, slots := 7, locals := 15 } E a0 A (w ++ [(h, .inr (0, [.null]))]) [.ref h] (fun w1 => ∃ q, w1 = w ++ kL_B E h q) := by
  refine kc_Ct_of (by decide +kernel) (Nat.le_of_ble_eq_true rfl) ?_
  intro p e s m below meth c ls C hr hlk hH hl
  have hx := C.1
  have hb := C.2.1
  have hl : lv_has ls 1 [(0, .ref h)] := hl
  refine lv_aload_n hx hb dX0_init_0 rfl (lv_at hl 0 rfl) ?_
  refine kc_objInit C hl.1 ko_X0 (Nat.le_of_ble_eq_true rfl) (Nat.le_of_ble_eq_true rfl) dX0_init_1 ?_
  refine lv_aload_n hx hb dX0_init_4 rfl (lv_at hl 0 rfl) ?_
  refine kc_getsF C hH dX0_init_5 ?_
  refine kc_clone C hl.1 hH kcl_0 kcl_1 kcl_2 kcl_3 kcl_4 (Nat.le_of_ble_eq_true rfl) (Nat.le_of_ble_eq_true rfl) (Nat.le_of_ble_eq_true rfl) (Nat.le_of_ble_eq_true rfl) dX0_init_8 (fun q1 H hH => ?_)
  rw [List.append_assoc] at hH
  have hH : kc_H E A (w ++ [(h, .inr (0, [.null])), (q1, .inl (E.2.1 0, 7, .inl (fun j => kc_first.getD j 0)))]) s H _ := hH
  refine kc_cast 1 C hH rfl kk_X0_14 dX0_init_11 ?_
  refine kc_putF 0 0 0 [(h, .inr (0, [.ref q1])), (q1, .inl (E.2.1 0, 7, .inl (fun j => kc_first.getD j 0)))] C hH rfl (by decide) (by decide) kf_X0_18 rfl rfl rfl rfl (Nat.le_of_ble_eq_true rfl) rfl dX0_init_14 (fun H locs hH => ?_)
  exact kc_vret C hr hlk hH ⟨q1, rfl⟩ rfl rfl dX0_init_17
