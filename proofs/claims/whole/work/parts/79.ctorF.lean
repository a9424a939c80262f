theorem dX6_init_0 : decode cX6_init 0 = .ok (.aload_n 0, 1) := by decide +kernel
theorem dX6_init_1 : decode cX6_init 1 = .ok (.invokespecial 3, 3) := by decide +kernel
theorem dX6_init_4 : decode cX6_init 4 = .ok (.aload_n 0, 1) := by decide +kernel
theorem dX6_init_5 : decode cX6_init 5 = .ok (.new 9, 3) := by decide +kernel
theorem dX6_init_8 : decode cX6_init 8 = .ok (.dup, 1) := by decide +kernel
theorem dX6_init_9 : decode cX6_init 9 = .ok (.invokespecial 11, 3) := by decide +kernel
theorem dX6_init_12 : decode cX6_init 12 = .ok (.putfield 12, 3) := by decide +kernel
theorem dX6_init_15 : decode cX6_init 15 = .ok (.aload_n 0, 1) := by decide +kernel
theorem dX6_init_16 : decode cX6_init 16 = .ok (.new 16, 3) := by decide +kernel
theorem dX6_init_19 : decode cX6_init 19 = .ok (.dup, 1) := by decide +kernel
theorem dX6_init_20 : decode cX6_init 20 = .ok (.invokespecial 18, 3) := by decide +kernel
theorem dX6_init_23 : decode cX6_init 23 = .ok (.putfield 19, 3) := by decide +kernel
theorem dX6_init_26 : decode cX6_init 26 = .ok (.aload_n 0, 1) := by decide +kernel
theorem dX6_init_27 : decode cX6_init 27 = .ok (.new 16, 3) := by decide +kernel
theorem dX6_init_30 : decode cX6_init 30 = .ok (.dup, 1) := by decide +kernel
theorem dX6_init_31 : decode cX6_init 31 = .ok (.invokespecial 18, 3) := by decide +kernel
theorem dX6_init_34 : decode cX6_init 34 = .ok (.putfield 23, 3) := by decide +kernel
theorem dX6_init_37 : decode cX6_init 37 = .ok (.aload_n 0, 1) := by decide +kernel
theorem dX6_init_38 : decode cX6_init 38 = .ok (.new 16, 3) := by decide +kernel
theorem dX6_init_41 : decode cX6_init 41 = .ok (.dup, 1) := by decide +kernel
theorem dX6_init_42 : decode cX6_init 42 = .ok (.invokespecial 18, 3) := by decide +kernel
theorem dX6_init_45 : decode cX6_init 45 = .ok (.putfield 26, 3) := by decide +kernel
theorem dX6_init_48 : decode cX6_init 48 = .ok (.aload_n 0, 1) := by decide +kernel
theorem dX6_init_49 : decode cX6_init 49 = .ok (.iconst 2, 1) := by decide +kernel
theorem dX6_init_50 : decode cX6_init 50 = .ok (.newarray .boolean, 2) := by decide +kernel
theorem dX6_init_52 : decode cX6_init 52 = .ok (.putfield 29, 3) := by decide +kernel
theorem dX6_init_55 : decode cX6_init 55 = .ok (.return_, 1) := by decide +kernel
set_option maxHeartbeats 4000000 in
set_option maxRecDepth 100000 in
theorem c_X6_init (l : Launch) (E : fd_E) (a0 : Nat) (A : Nat → Prop) (w : va_W) (h : Nat) : kc_Ct l yX6_init cX6_init 1 { frames := 4, cells := 72, slots := 832, locals := 73 } E a0 A (w ++ [(h, .inr (6, [.null, .null, .null, .null, .null]))]) [.ref h] (fun w1 => ∃ (t u z : Nat) (a b c : Nat → Nat), w1 = w ++ kL_F E h t u z a b c) := by
  refine kc_Ct_of (by decide +kernel) (Nat.le_of_ble_eq_true rfl) ?_
  intro p e s m below meth c ls C hr hlk hH hl
  have hx := C.1
  have hb := C.2.1
  have hl : lv_has ls 1 [(0, .ref h)] := hl
  refine lv_aload_n hx hb dX6_init_0 rfl (lv_at hl 0 rfl) ?_
  refine kc_objInit C hl.1 ko_X6 (Nat.le_of_ble_eq_true rfl) (Nat.le_of_ble_eq_true rfl) dX6_init_1 ?_
  refine lv_aload_n hx hb dX6_init_4 rfl (lv_at hl 0 rfl) ?_
  refine kc_new 5 [.null, .int 0] 2 C hH (by decide) rfl kl_X6_9 ki_X5 kn_X5 (by decide) (Nat.le_of_ble_eq_true rfl) (Nat.le_of_ble_eq_true rfl) dX6_init_5 (fun q1 H hH => ?_)
  rw [List.append_assoc] at hH
  have hH : kc_H E A (w ++ [(h, .inr (6, [.null, .null, .null, .null, .null])), (q1, .inr (5, [.null, .int 0]))]) s H _ := hH
  refine lv_dup hx hb dX6_init_8 rfl ?_
  have hHc := kc_asc [(h, .inr (6, [.null, .null, .null, .null, .null]))] [(q1, .inr (5, [.null, .int 0]))] hH
  clear hH
  refine kc_callN "FlapDamper" C hl.1 hHc (c_X5_init l E a0 A _ q1) kwn_X5 C.2.2.2.2.2.2.1.1.1 ⟨Nat.le_of_ble_eq_true rfl, Nat.le_of_ble_eq_true rfl⟩ rfl (Nat.le_of_ble_eq_true rfl) ⟨Nat.le_of_ble_eq_true rfl, Nat.le_of_ble_eq_true rfl⟩ dX6_init_9 (fun w1 H locs e1 hH => ?_)
  obtain ⟨q2, rfl⟩ := e1
  rw [List.append_assoc] at hH
  have hH : kc_H E A (w ++ ((h, .inr (6, [.null, .null, .null, .null, .null])) :: (kL_T E q1 q2))) s H _ := hH
  refine kc_putF 0 6 0 ((h, .inr (6, [.ref q1, .null, .null, .null, .null])) :: (kL_T E q1 q2)) C hH rfl (by decide) (by decide) kf_X6_12 rfl rfl rfl rfl (Nat.le_of_ble_eq_true rfl) rfl dX6_init_12 (fun H locs hH => ?_)
  refine lv_aload_n hx hb dX6_init_15 rfl (lv_at hl 0 rfl) ?_
  refine kc_new 4 [.null, .null, .null, .null, .null, .null, .int 0, .int 0, .int 0, .int 0, .int 0] 11 C hH (by decide) rfl kl_X6_16 ki_X4 kn_X4 (by decide) (Nat.le_of_ble_eq_true rfl) (Nat.le_of_ble_eq_true rfl) dX6_init_16 (fun q3 H hH => ?_)
  rw [List.append_assoc] at hH
  have hH : kc_H E A (w ++ ((h, .inr (6, [.ref q1, .null, .null, .null, .null])) :: ((kL_T E q1 q2) ++ [(q3, .inr (4, [.null, .null, .null, .null, .null, .null, .int 0, .int 0, .int 0, .int 0, .int 0]))]))) s H _ := hH
  refine lv_dup hx hb dX6_init_19 rfl ?_
  have hHc := kc_asc ((h, .inr (6, [.ref q1, .null, .null, .null, .null])) :: (kL_T E q1 q2)) [(q3, .inr (4, [.null, .null, .null, .null, .null, .null, .int 0, .int 0, .int 0, .int 0, .int 0]))] hH
  clear hH
  refine kc_callI C hl.1 hHc (c_X4_init l E a0 A _ q3) kwi_X6_18 ⟨Nat.le_of_ble_eq_true rfl, Nat.le_of_ble_eq_true rfl⟩ rfl (Nat.le_of_ble_eq_true rfl) ⟨Nat.le_of_ble_eq_true rfl, Nat.le_of_ble_eq_true rfl⟩ dX6_init_20 (fun w1 H locs e1 hH => ?_)
  obtain ⟨ad4, e_ad4, rfl⟩ := e1
  rw [List.append_assoc] at hH
  have hH : kc_H E A (w ++ ((h, .inr (6, [.ref q1, .null, .null, .null, .null])) :: ((kL_T E q1 q2) ++ (kL_S E ad4)))) s H _ := hH
  refine kc_putF 0 6 1 ((h, .inr (6, [.ref q1, .ref q3, .null, .null, .null])) :: ((kL_T E q1 q2) ++ (kL_S E ad4))) C hH rfl (by decide) (by decide) kf_X6_19 rfl rfl rfl rfl (Nat.le_of_ble_eq_true rfl) rfl dX6_init_23 (fun H locs hH => ?_)
  refine lv_aload_n hx hb dX6_init_26 rfl (lv_at hl 0 rfl) ?_
  refine kc_new 4 [.null, .null, .null, .null, .null, .null, .int 0, .int 0, .int 0, .int 0, .int 0] 11 C hH (by decide) rfl kl_X6_16 ki_X4 kn_X4 (by decide) (Nat.le_of_ble_eq_true rfl) (Nat.le_of_ble_eq_true rfl) dX6_init_27 (fun q5 H hH => ?_)
  rw [List.append_assoc] at hH
  have hH : kc_H E A (w ++ ((h, .inr (6, [.ref q1, .ref q3, .null, .null, .null])) :: ((kL_T E q1 q2) ++ ((kL_S E ad4) ++ [(q5, .inr (4, [.null, .null, .null, .null, .null, .null, .int 0, .int 0, .int 0, .int 0, .int 0]))])))) s H _ := hH
  refine lv_dup hx hb dX6_init_30 rfl ?_
  have hHc := kc_asc ((h, .inr (6, [.ref q1, .ref q3, .null, .null, .null])) :: ((kL_T E q1 q2) ++ (kL_S E ad4))) [(q5, .inr (4, [.null, .null, .null, .null, .null, .null, .int 0, .int 0, .int 0, .int 0, .int 0]))] hH
  clear hH
  refine kc_callI C hl.1 hHc (c_X4_init l E a0 A _ q5) kwi_X6_18 ⟨Nat.le_of_ble_eq_true rfl, Nat.le_of_ble_eq_true rfl⟩ rfl (Nat.le_of_ble_eq_true rfl) ⟨Nat.le_of_ble_eq_true rfl, Nat.le_of_ble_eq_true rfl⟩ dX6_init_31 (fun w1 H locs e1 hH => ?_)
  obtain ⟨ad6, e_ad6, rfl⟩ := e1
  rw [List.append_assoc] at hH
  have hH : kc_H E A (w ++ ((h, .inr (6, [.ref q1, .ref q3, .null, .null, .null])) :: ((kL_T E q1 q2) ++ ((kL_S E ad4) ++ (kL_S E ad6))))) s H _ := hH
  refine kc_putF 0 6 2 ((h, .inr (6, [.ref q1, .ref q3, .ref q5, .null, .null])) :: ((kL_T E q1 q2) ++ ((kL_S E ad4) ++ (kL_S E ad6)))) C hH rfl (by decide) (by decide) kf_X6_23 rfl rfl rfl rfl (Nat.le_of_ble_eq_true rfl) rfl dX6_init_34 (fun H locs hH => ?_)
  refine lv_aload_n hx hb dX6_init_37 rfl (lv_at hl 0 rfl) ?_
  refine kc_new 4 [.null, .null, .null, .null, .null, .null, .int 0, .int 0, .int 0, .int 0, .int 0] 11 C hH (by decide) rfl kl_X6_16 ki_X4 kn_X4 (by decide) (Nat.le_of_ble_eq_true rfl) (Nat.le_of_ble_eq_true rfl) dX6_init_38 (fun q7 H hH => ?_)
  rw [List.append_assoc] at hH
  have hH : kc_H E A (w ++ ((h, .inr (6, [.ref q1, .ref q3, .ref q5, .null, .null])) :: ((kL_T E q1 q2) ++ ((kL_S E ad4) ++ ((kL_S E ad6) ++ [(q7, .inr (4, [.null, .null, .null, .null, .null, .null, .int 0, .int 0, .int 0, .int 0, .int 0]))]))))) s H _ := hH
  refine lv_dup hx hb dX6_init_41 rfl ?_
  have hHc := kc_asc ((h, .inr (6, [.ref q1, .ref q3, .ref q5, .null, .null])) :: ((kL_T E q1 q2) ++ ((kL_S E ad4) ++ (kL_S E ad6)))) [(q7, .inr (4, [.null, .null, .null, .null, .null, .null, .int 0, .int 0, .int 0, .int 0, .int 0]))] hH
  clear hH
  refine kc_callI C hl.1 hHc (c_X4_init l E a0 A _ q7) kwi_X6_18 ⟨Nat.le_of_ble_eq_true rfl, Nat.le_of_ble_eq_true rfl⟩ rfl (Nat.le_of_ble_eq_true rfl) ⟨Nat.le_of_ble_eq_true rfl, Nat.le_of_ble_eq_true rfl⟩ dX6_init_42 (fun w1 H locs e1 hH => ?_)
  obtain ⟨ad8, e_ad8, rfl⟩ := e1
  rw [List.append_assoc] at hH
  have hH : kc_H E A (w ++ ((h, .inr (6, [.ref q1, .ref q3, .ref q5, .null, .null])) :: ((kL_T E q1 q2) ++ ((kL_S E ad4) ++ ((kL_S E ad6) ++ (kL_S E ad8)))))) s H _ := hH
  refine kc_putF 0 6 3 ((h, .inr (6, [.ref q1, .ref q3, .ref q5, .ref q7, .null])) :: ((kL_T E q1 q2) ++ ((kL_S E ad4) ++ ((kL_S E ad6) ++ (kL_S E ad8))))) C hH rfl (by decide) (by decide) kf_X6_26 rfl rfl rfl rfl (Nat.le_of_ble_eq_true rfl) rfl dX6_init_45 (fun H locs hH => ?_)
  refine lv_aload_n hx hb dX6_init_48 rfl (lv_at hl 0 rfl) ?_
  refine lv_iconst (v := (2 : Int32)) hx hb dX6_init_49 (by decide) ?_
  refine kc_newZ (2 : Int32) 2 C hH ka_Z (by decide) (by decide) (Nat.le_of_ble_eq_true rfl) (Nat.le_of_ble_eq_true rfl) (Nat.le_of_ble_eq_true rfl) dX6_init_50 (fun q9 H hH => ?_)
  rw [List.append_assoc] at hH
  have hH : kc_H E A (w ++ ((h, .inr (6, [.ref q1, .ref q3, .ref q5, .ref q7, .null])) :: ((kL_T E q1 q2) ++ ((kL_S E ad4) ++ ((kL_S E ad6) ++ ((kL_S E ad8) ++ [(q9, .inl (E.2.1 1, 2, .inl (fun _ => 0)))])))))) s H _ := hH
  refine kc_putF 0 6 4 ((h, .inr (6, [.ref q1, .ref q3, .ref q5, .ref q7, .ref q9])) :: ((kL_T E q1 q2) ++ ((kL_S E ad4) ++ ((kL_S E ad6) ++ ((kL_S E ad8) ++ [(q9, .inl (E.2.1 1, 2, .inl (fun _ => 0)))]))))) C hH rfl (by decide) (by decide) kf_X6_29 rfl rfl rfl rfl (Nat.le_of_ble_eq_true rfl) rfl dX6_init_52 (fun H locs hH => ?_)
  exact kc_vret C hr hlk hH ⟨q1, q2, q9, ad4, ad6, ad8, by rw [← e_ad4, ← e_ad6, ← e_ad8]⟩ rfl rfl dX6_init_55
