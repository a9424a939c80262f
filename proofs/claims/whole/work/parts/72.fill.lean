theorem dJ7_fill_53178_0 : decode cJ7_fill_53178 0 = .ok (.iconst 0, 1) := by decide +kernel
theorem dJ7_fill_53178_1 : decode cJ7_fill_53178 1 = .ok (.istore_n 2, 1) := by decide +kernel
theorem dJ7_fill_53178_2 : decode cJ7_fill_53178 2 = .ok (.aload_n 0, 1) := by decide +kernel
theorem dJ7_fill_53178_3 : decode cJ7_fill_53178 3 = .ok (.arraylength, 1) := by decide +kernel
theorem dJ7_fill_53178_4 : decode cJ7_fill_53178 4 = .ok (.istore_n 3, 1) := by decide +kernel
theorem dJ7_fill_53178_5 : decode cJ7_fill_53178 5 = .ok (.iload_n 2, 1) := by decide +kernel
theorem dJ7_fill_53178_6 : decode cJ7_fill_53178 6 = .ok (.iload_n 3, 1) := by decide +kernel
theorem dJ7_fill_53178_7 : decode cJ7_fill_53178 7 = .ok (.if_icmp .ge 13, 3) := by decide +kernel
theorem dJ7_fill_53178_10 : decode cJ7_fill_53178 10 = .ok (.aload_n 0, 1) := by decide +kernel
theorem dJ7_fill_53178_11 : decode cJ7_fill_53178 11 = .ok (.iload_n 2, 1) := by decide +kernel
theorem dJ7_fill_53178_12 : decode cJ7_fill_53178 12 = .ok (.iload_n 1, 1) := by decide +kernel
theorem dJ7_fill_53178_13 : decode cJ7_fill_53178 13 = .ok (.iastore, 1) := by decide +kernel
theorem dJ7_fill_53178_14 : decode cJ7_fill_53178 14 = .ok (.iinc 2 1, 3) := by decide +kernel
theorem dJ7_fill_53178_17 : decode cJ7_fill_53178 17 = .ok (.goto (-12), 3) := by decide +kernel
theorem dJ7_fill_53178_20 : decode cJ7_fill_53178 20 = .ok (.return_, 1) := by decide +kernel
section KFILL
variable {p : Program} {l : Launch} {e : Env} {R : Room} {s : State} {m : MethodId} {args : Array Value} {below : List Frame} {meth : Method} {c : Code}
theorem kf_num {N k : Nat} {x n : Int32} (hN : N < 2 ^ 31) (en : nI N = n) (ex : x = nI k) (hk : k ≤ N) : (n ≤ x ↔ k = N) := by
  subst ex en
  constructor
  · intro h
    have := (nI_leI (by omega) (by omega)).mp h
    omega
  · intro h
    subst h
    exact Int32.le_refl _
theorem kf_loop {E : fd_E} {a0 : Nat} {A : Nat → Prop} {w : va_W} {i a N : Nat} {v n : Int32} {f : Nat → Int32} (C : kc_C p s m args meth c "java/util/Arrays" cJ7_fill_53178 4 "fill" E a0 A) (hr : meth.sig.returnType = none) (hlk : meth.locks = false) (hi : w[i]? = some (a, .inl (E.2.1 0, N, .inl f))) (hN : N < 2 ^ 31) (en : nI N = n) :
    ∀ (q k : Nat) (x : Int32) (H : Heap) (locs : List Loc) (ls : Array Slot), k + q = N → x = nI k → kc_H E A (w.set i (a, .inl (E.2.1 0, N, .inl (kc_fl N v f k)))) s H locs → lv_has ls 4 [(2, .int x), (0, .ref a), (1, .int v), (3, .int n)] →
      W p l e R s m args below meth c H locs 0 0 (MQ below (kc_Q E A (fun w1 => w1 = w.set i (a, .inl (E.2.1 0, N, .inl (kc_fl N v f N))))) args s 0 0 A) (F0 m 5 ls []) := by
  have hx := C.1
  have hb := C.2.1
  intro q
  induction q with
  | zero =>
    intro k x H locs ls hq ex hH hl
    have ek : k = N := by omega
    subst ek
    refine lv_iload_n hx hb dJ7_fill_53178_5 rfl (lv_at hl 0 rfl) ?_
    refine lv_iload_n hx hb dJ7_fill_53178_6 rfl (lv_at hl 3 rfl) ?_
    refine lv_icmp_ge (tgt := 20) hx hb dJ7_fill_53178_7 (by decide) (fun _ => ?_) (fun c1 => absurd ((kf_num hN en ex (Nat.le_refl _)).mpr rfl) c1)
    exact kc_vret C hr hlk hH rfl rfl rfl dJ7_fill_53178_20
  | succ q ih =>
    intro k x H locs ls hq ex hH hl
    refine lv_iload_n hx hb dJ7_fill_53178_5 rfl (lv_at hl 0 rfl) ?_
    refine lv_iload_n hx hb dJ7_fill_53178_6 rfl (lv_at hl 3 rfl) ?_
    refine lv_icmp_ge (tgt := 20) hx hb dJ7_fill_53178_7 (by decide) (fun c1 => absurd ((kf_num hN en ex (by omega)).mp c1) (by omega)) (fun _ => ?_)
    refine lv_aload_n hx hb dJ7_fill_53178_10 rfl (lv_at hl 1 rfl) ?_
    refine lv_iload_n hx hb dJ7_fill_53178_11 rfl (lv_at hl 0 rfl) ?_
    refine lv_iload_n hx hb dJ7_fill_53178_12 rfl (lv_at hl 2 rfl) ?_
    have hl2 := (List.getElem?_eq_some_iff.mp hi).1
    have ec : x.toNatClampNeg = k := by rw [ex]; exact nI_clamp (by omega)
    refine kc_iastw i (kc_fl N v f (k + 1)) C hH (n := N) (f := kc_fl N v f k) (List.getElem?_set_self hl2) (by rw [ex]; exact vp_in_nI (by omega) hN) (by rw [ec]; exact kc_fl_up N v f k) dJ7_fill_53178_13 (fun H locs hH => ?_)
    rw [List.set_set] at hH
    obtain ⟨x2, ex2⟩ : ∃ y : Int32, y = x + 1 := ⟨_, rfl⟩
    refine lv_iinc (v := x2) (lv' := [(2, .int x2), (0, .ref a), (1, .int v), (3, .int n)]) hx hb dJ7_fill_53178_14 hl (k := 0) rfl (by rw [ex2]; rfl) (by decide) rfl (fun ls hl => ?_)
    refine lv_goto (tgt := 5) hx hb dJ7_fill_53178_17 (by decide) ?_
    exact ih (k + 1) x2 H locs ls (by omega) (by rw [ex2, ex]; exact nI_1 k) hH hl
end KFILL
set_option maxHeartbeats 4000000 in
theorem cJ_fill (l : Launch) (E : fd_E) (a0 : Nat) (A : Nat → Prop) (w : va_W) (i a N : Nat) (v : Int32) (f : Nat → Int32) (hi : w[i]? = some (a, .inl (E.2.1 0, N, .inl f))) (hN : N < 2 ^ 31) : kc_Ct l yJ7_fill_53178 cJ7_fill_53178 4 { frames := 0, cells := 0, slots := 0, locals := 0 } E a0 A w [.ref a, .int v] (fun w1 => w1 = w.set i (a, .inl (E.2.1 0, N, .inl (kc_fl N v f N)))) := by
  refine kc_Ct_of (by decide +kernel) (Nat.le_of_ble_eq_true rfl) ?_
  intro p e s m below meth c ls C hr hlk hH hl
  have hx := C.1
  have hb := C.2.1
  have hl : lv_has ls 4 [(0, .ref a), (1, .int v)] := hl
  refine lv_iconst (v := (0 : Int32)) hx hb dJ7_fill_53178_0 (by decide) ?_
  refine lv_istore_n (lv' := [(2, .int (0 : Int32)), (0, .ref a), (1, .int v)]) hx hb dJ7_fill_53178_1 rfl hl (by decide) rfl (fun ls hl => ?_)
  refine lv_aload_n hx hb dJ7_fill_53178_2 rfl (lv_at hl 1 rfl) ?_
  refine kc_alen i (nI N) C hH hi rfl dJ7_fill_53178_3 ?_
  refine lv_istore_n (lv' := [(3, .int (nI N)), (2, .int (0 : Int32)), (0, .ref a), (1, .int v)]) hx hb dJ7_fill_53178_4 rfl hl (by decide) rfl (fun ls hl => ?_)
  have e0 : w.set i (a, .inl (E.2.1 0, N, .inl (kc_fl N v f 0))) = w := by
    have : kc_fl N v f 0 = f := by
      funext j
      unfold kc_fl
      rw [if_neg (by omega)]
    rw [this]
    apply List.ext_getElem?
    intro k
    by_cases hk : k = i
    · subst hk
      rw [List.getElem?_set_self (List.getElem?_eq_some_iff.mp hi).1, hi]
    · rw [List.getElem?_set_ne (Ne.symm hk)]
  exact kf_loop C hr hlk hi hN rfl N 0 0 _ _ ls (by omega) nI_0.symm (by rw [e0]; exact hH) (lv_sub hl [1, 2, 3, 0] rfl)
