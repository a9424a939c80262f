abbrev kL_M (E : fd_E) (h q0 q1 q2 q3 q4 q5 q6 q7 : Nat) (f : Nat → Int32) : va_W := [(h, .inr (7, [.ref q0, .ref q1, .ref q2, .ref q3, .ref q4, .ref q5, .ref q6, .ref q7, .int 0])), (q0, .inl (E.2.1 0, 8, .inl (fun j => ([65536, 60097, 55109, 50535, 46341, 42495, 38968, 35734] : List Int32).getD j 0))), (q1, .inl (E.2.1 0, 28, .inl (fun j => ([104, 97, 108, 102, 115, 108, 111, 116, 103, 111, 110, 101, 115, 119, 97, 112, 111, 118, 101, 114, 98, 97, 99, 107, 116, 111, 112, 0] : List Int32).getD j 0))), (q2, .inl (E.2.1 0, 7, .inl (fun j => ([4, 1, 0, 0, 100, 50, 100] : List Int32).getD j 0))), (q3, .inl (E.2.1 0, 7, .inl (fun j => ([200, 50, 2000, 2000, 9999, 9999, 20000] : List Int32).getD j 0))), (q4, .inl (E.2.1 0, 275, .inl f)), (q5, .inl (E.2.1 0, 550, .inl (fun _ => 0))), (q6, .inl (E.2.1 1, 2, .inl (fun _ => 0))), (q7, .inl (E.2.1 0, 12, .inl (fun _ => 0)))]
def kM_F : Nat → Int32 := (upd (upd (upd (upd (upd (upd (upd (kc_fl 275 (-6) (fun _ => 0) 32) 32 (60)) 33 (10)) 34 (1000)) 35 (500)) 36 (2000)) 37 (750)) 38 (8000))
def kM_g (k : Nat) : Nat → Int32 := fun j => if 39 ≤ j ∧ j < 39 + 3 * k ∧ (j - 39) % 3 ≠ 2 then -6 else kM_F j
theorem kM_g0 : kM_g 0 = kM_F := by
  funext j
  unfold kM_g
  rw [if_neg (by omega)]
theorem kM_g_up (k : Nat) : upd (upd (kM_g k) (39 + 3 * k) (-6)) (39 + 3 * k + 1) (-6) = kM_g (k + 1) := by
  funext j
  unfold upd kM_g
  by_cases h1 : j = 39 + 3 * k + 1
  · rw [if_pos h1, if_pos (by omega)]
  · rw [if_neg h1]
    by_cases h2 : j = 39 + 3 * k
    · rw [if_pos h2, if_pos (by omega)]
    · rw [if_neg h2]
      by_cases h3 : 39 ≤ j ∧ j < 39 + 3 * k ∧ (j - 39) % 3 ≠ 2
      · rw [if_pos h3, if_pos (by omega)]
      · rw [if_neg h3, if_neg (by omega)]
section KML
variable {p : Program} {l : Launch} {e : Env} {R : Room} {s : State} {m : MethodId} {args : Array Value} {below : List Frame} {meth : Method} {c : Code} {cells slots : Nat} {Q : State → Prop} {E : fd_E} {a0 : Nat} {A : Nat → Prop} {w : va_W} {h q0 q1 q2 q3 q4 q5 q6 q7 : Nat}
theorem kM_l1 (C : kc_C p s m args meth c "FlapDamperModel" cX7_init 2 "<init>" E a0 A)
    (hk : ∀ (H : Heap) (locs : List Loc) (ls : Array Slot), kc_H E A (w ++ kL_M E h q0 q1 q2 q3 q4 q5 q6 q7 (kc_fl 275 (-6) (fun _ => 0) 32)) s H locs → lv_has ls 2 [(1, .int (32 : Int32)), (0, .ref h)] → W p l e R s m args below meth c H locs cells slots Q (F0 m 370 ls [])) :
    ∀ (n k : Nat) (x : Int32) (H : Heap) (locs : List Loc) (ls : Array Slot), k + n = 32 → x = nI k → kc_H E A (w ++ kL_M E h q0 q1 q2 q3 q4 q5 q6 q7 (kc_fl 275 (-6) (fun _ => 0) k)) s H locs → lv_has ls 2 [(1, .int x), (0, .ref h)] → W p l e R s m args below meth c H locs cells slots Q (F0 m 348 ls []) := by
  have hx := C.1
  have hb := C.2.1
  intro n
  induction n with
  | zero =>
    intro k x H locs ls hq ex hH hl
    have ek : k = 32 := by omega
    subst ek
    have ex' : x = 32 := ex
    subst ex'
    refine lv_iload_n hx hb dX7_init_348 rfl (lv_at hl 0 rfl) ?_
    refine lv_bipush (v := (32 : Int32)) hx hb dX7_init_349 (by decide) ?_
    refine lv_icmp_ge (tgt := 370) hx hb dX7_init_351 (by decide) (fun _ => ?_) (fun c1 => absurd (by decide) c1)
    exact hk H locs ls hH hl
  | succ n ih =>
    intro k x H locs ls hq ex hH hl
    refine lv_iload_n hx hb dX7_init_348 rfl (lv_at hl 0 rfl) ?_
    refine lv_bipush (v := (32 : Int32)) hx hb dX7_init_349 (by decide) ?_
    refine lv_icmp_ge (tgt := 370) hx hb dX7_init_351 (by decide) (fun c1 => absurd ((kf_num (N := 32) (by decide) rfl ex (by omega)).mp c1) (by omega)) (fun _ => ?_)
    refine lv_aload_n hx hb dX7_init_354 rfl (lv_at hl 1 rfl) ?_
    refine kc_get 0 7 4 C hH rfl (by decide) (by decide) kf_X7_30 (v := .ref q4) rfl dX7_init_355 ?_
    refine lv_iconst (v := (0 : Int32)) hx hb dX7_init_358 (by decide) ?_
    refine lv_iload_n hx hb dX7_init_359 rfl (lv_at hl 0 rfl) ?_
    refine lv_iadd hx hb dX7_init_360 ?_
    refine lv_topi (fun y ey => ?_)
    have ey2 : y = nI k := by rw [ey, Int32.zero_add, ex]
    have ec : y.toNatClampNeg = k := by rw [ey2]; exact nI_clamp (by omega)
    refine lv_bipush (v := (-6 : Int32)) hx hb dX7_init_361 (by decide) ?_
    refine kc_iast 5 (kc_fl 275 (-6) (fun _ => 0) (k + 1)) (kL_M E h q0 q1 q2 q3 q4 q5 q6 q7 (kc_fl 275 (-6) (fun _ => 0) (k + 1))) C hH rfl (by rw [ey2]; exact vp_in_nI (by omega) (by omega)) (by rw [ec]; exact kc_fl_up _ _ _ k) rfl dX7_init_363 (fun H locs hH => ?_)
    obtain ⟨x2, ex2⟩ : ∃ y : Int32, y = x + 1 := ⟨_, rfl⟩
    refine lv_iinc (v := x2) (lv' := [(1, .int x2), (0, .ref h)]) hx hb dX7_init_364 hl (k := 0) rfl (by rw [ex2]; rfl) (by decide) rfl (fun ls hl => ?_)
    refine lv_goto (tgt := 348) hx hb dX7_init_367 (by decide) ?_
    exact ih (k + 1) x2 H locs ls (by omega) (by rw [ex2, ex]; exact nI_1 k) hH hl
theorem kM_l2 (C : kc_C p s m args meth c "FlapDamperModel" cX7_init 2 "<init>" E a0 A)
    (hk : ∀ (H : Heap) (locs : List Loc) (ls : Array Slot), kc_H E A (w ++ kL_M E h q0 q1 q2 q3 q4 q5 q6 q7 (kM_g 8)) s H locs → W p l e R s m args below meth c H locs cells slots Q (F0 m 480 ls [])) :
    ∀ (n k : Nat) (x : Int32) (H : Heap) (locs : List Loc) (ls : Array Slot), k + n = 8 → x = nI k → kc_H E A (w ++ kL_M E h q0 q1 q2 q3 q4 q5 q6 q7 (kM_g k)) s H locs → lv_has ls 2 [(1, .int x), (0, .ref h)] → W p l e R s m args below meth c H locs cells slots Q (F0 m 440 ls []) := by
  have hx := C.1
  have hb := C.2.1
  intro n
  induction n with
  | zero =>
    intro k x H locs ls hq ex hH hl
    have ek : k = 8 := by omega
    subst ek
    refine lv_iload_n hx hb dX7_init_440 rfl (lv_at hl 0 rfl) ?_
    refine lv_bipush (v := (8 : Int32)) hx hb dX7_init_441 (by decide) ?_
    refine lv_icmp_ge (tgt := 480) hx hb dX7_init_443 (by decide) (fun _ => ?_) (fun c1 => absurd ((kf_num (N := 8) (by decide) rfl ex (by omega)).mpr rfl) c1)
    exact hk H locs ls hH
  | succ n ih =>
    intro k x H locs ls hq ex hH hl
    refine lv_iload_n hx hb dX7_init_440 rfl (lv_at hl 0 rfl) ?_
    refine lv_bipush (v := (8 : Int32)) hx hb dX7_init_441 (by decide) ?_
    refine lv_icmp_ge (tgt := 480) hx hb dX7_init_443 (by decide) (fun c1 => absurd ((kf_num (N := 8) (by decide) rfl ex (by omega)).mp c1) (by omega)) (fun _ => ?_)
    refine lv_aload_n hx hb dX7_init_446 rfl (lv_at hl 1 rfl) ?_
    refine kc_get 0 7 4 C hH rfl (by decide) (by decide) kf_X7_30 (v := .ref q4) rfl dX7_init_447 ?_
    refine lv_bipush (v := (39 : Int32)) hx hb dX7_init_450 (by decide) ?_
    refine lv_iconst (v := (3 : Int32)) hx hb dX7_init_452 (by decide) ?_
    refine lv_iload_n hx hb dX7_init_453 rfl (lv_at hl 0 rfl) ?_
    refine lv_imul hx hb dX7_init_454 ?_
    refine lv_iadd hx hb dX7_init_455 ?_
    refine lv_topi (fun y ey => ?_)
    have ey2 : y = nI (39 + 3 * k) := by rw [ey, ex, show (3 : Int32) = nI 3 from rfl, show (39 : Int32) = nI 39 from rfl, pk_mul, nI_add]
    have ec : y.toNatClampNeg = 39 + 3 * k := by rw [ey2]; exact nI_clamp (by omega)
    refine lv_bipush (v := (-6 : Int32)) hx hb dX7_init_456 (by decide) ?_
    refine kc_iast 5 (upd (kM_g k) (39 + 3 * k) (-6)) (kL_M E h q0 q1 q2 q3 q4 q5 q6 q7 (upd (kM_g k) (39 + 3 * k) (-6))) C hH rfl (by rw [ey2]; exact vp_in_nI (by omega) (by omega)) (by rw [ec]) rfl dX7_init_458 (fun H locs hH => ?_)
    refine lv_aload_n hx hb dX7_init_459 rfl (lv_at hl 1 rfl) ?_
    refine kc_get 0 7 4 C hH rfl (by decide) (by decide) kf_X7_30 (v := .ref q4) rfl dX7_init_460 ?_
    refine lv_bipush (v := (39 : Int32)) hx hb dX7_init_463 (by decide) ?_
    refine lv_iconst (v := (3 : Int32)) hx hb dX7_init_465 (by decide) ?_
    refine lv_iload_n hx hb dX7_init_466 rfl (lv_at hl 0 rfl) ?_
    refine lv_imul hx hb dX7_init_467 ?_
    refine lv_iadd hx hb dX7_init_468 ?_
    refine lv_iconst (v := (1 : Int32)) hx hb dX7_init_469 (by decide) ?_
    refine lv_iadd hx hb dX7_init_470 ?_
    refine lv_topi (fun z ez => ?_)
    have ez2 : z = nI (39 + 3 * k + 1) := by rw [ez, ex, show (3 : Int32) = nI 3 from rfl, show (39 : Int32) = nI 39 from rfl, pk_mul, nI_add]; exact nI_1 _
    have ecz : z.toNatClampNeg = 39 + 3 * k + 1 := by rw [ez2]; exact nI_clamp (by omega)
    refine lv_bipush (v := (-6 : Int32)) hx hb dX7_init_471 (by decide) ?_
    refine kc_iast 5 (kM_g (k + 1)) (kL_M E h q0 q1 q2 q3 q4 q5 q6 q7 (kM_g (k + 1))) C hH rfl (by rw [ez2]; exact vp_in_nI (by omega) (by omega)) (by rw [ecz]; exact kM_g_up k) rfl dX7_init_473 (fun H locs hH => ?_)
    obtain ⟨x2, ex2⟩ : ∃ y : Int32, y = x + 1 := ⟨_, rfl⟩
    refine lv_iinc (v := x2) (lv' := [(1, .int x2), (0, .ref h)]) hx hb dX7_init_474 hl (k := 0) rfl (by rw [ex2]; rfl) (by decide) rfl (fun ls hl => ?_)
    refine lv_goto (tgt := 440) hx hb dX7_init_477 (by decide) ?_
    exact ih (k + 1) x2 H locs ls (by omega) (by rw [ex2, ex]; exact nI_1 k) hH hl
end KML
