/-! ===== the world of 82 cells ===== -/
def k_adr (h t u z hm q0 q1 q2 q3 q4 q5 q6 q7 : Nat) (a b c r : Nat → Nat) (k : Nat) : Nat := if k < 23 then a k else if k < 46 then b (k - 23) else if k < 69 then c (k - 46) else if k = 69 then h else if k = 70 then z else if k = 71 then t else if k = 72 then u else if k = 73 then hm else if k < 82 then ([q0, q1, q2, q3, q4, q5, q6, q7] : List Nat).getD (k - 74) 0 else r k
abbrev k_E (E : fd_E) (h t u z hm q0 q1 q2 q3 q4 q5 q6 q7 : Nat) (a b c : Nat → Nat) : fd_E := (E.1, E.2.1, k_adr h t u z hm q0 q1 q2 q3 q4 q5 q6 q7 a b c E.2.2)
def k_pi : List Nat := [3, 4, 5, 6, 7, 20, 21, 22, 8, 10, 12, 14, 16, 18, 9, 11, 13, 15, 17, 19, 23, 24, 25, 26, 27, 28, 29, 30, 43, 44, 45, 31, 33, 35, 37, 39, 41, 32, 34, 36, 38, 40, 42, 46, 47, 48, 49, 50, 51, 52, 53, 66, 67, 68, 54, 56, 58, 60, 62, 64, 55, 57, 59, 61, 63, 65, 69, 70, 71, 0, 72, 1, 2, 73, 74, 75, 76, 77, 78, 79, 80, 81]
theorem k_fx (k n : Nat) (h : n < 2 ^ 31) : k_S0 k (fd_ix n) = k_f k n := by
  show k_f k (fd_ix n).toNatClampNeg = k_f k n
  unfold fd_ix
  rw [if_pos h, nI_clamp h]
theorem k_ai {D : va_G} {cl : List vw_C} {q : Nat} {cA : ClassId} {N : Nat} {f g : Nat → Int32} {H : Heap} (h : va_at D cl (q, .inl (cA, N, .inl f)) H) (hg : ∀ n : Nat, n < N → g n = f n) : va_at D cl (q, .inl (cA, N, .inl g)) H := by
  have e : vp_cell cA (N, .inl g) = vp_cell cA (N, .inl f) := by
    rw [vp_cell_i, vp_cell_i]
    unfold arrV
    congr 2
    funext j
    dsimp only
    rw [hg j.val j.isLt]
  show H[q]? = some (vp_cell cA (N, .inl g))
  rw [e]
  exact h
theorem k_ar {D : va_G} {cl : List vw_C} {q : Nat} {cA : ClassId} {N : Nat} {f g : Nat → Option Nat} {H : Heap} (h : va_at D cl (q, .inl (cA, N, .inr (.inr (.inr (.inr f))))) H) (hg : ∀ n : Nat, n < N → g n = f n) : va_at D cl (q, .inl (cA, N, .inr (.inr (.inr (.inr g))))) H := by
  have e : vp_cell cA (N, .inr (.inr (.inr (.inr g)))) = vp_cell cA (N, .inr (.inr (.inr (.inr f)))) := by
    rw [vp_cell_q, vp_cell_q]
    unfold arrV
    congr 2
    funext j
    dsimp only
    rw [hg j.val j.isLt]
  show H[q]? = some (vp_cell cA (N, .inr (.inr (.inr (.inr g)))))
  rw [e]
  exact h
theorem k_r0 (n : Nat) (h : n < 6) : fd_rc 4 (k_S0 4 (fd_ix n)) = 8 + n := by
  rw [k_fx 4 n (by omega), show k_f 4 n = nI n from rfl]
  unfold fd_rc
  rw [nI_clamp (by omega)]
theorem k_r1 (n : Nat) (h : n < 6) : fd_rc 27 (k_S0 27 (fd_ix n)) = 31 + n := by
  rw [k_fx 27 n (by omega), show k_f 27 n = nI n from rfl]
  unfold fd_rc
  rw [nI_clamp (by omega)]
theorem k_r2 (n : Nat) (h : n < 6) : fd_rc 50 (k_S0 50 (fd_ix n)) = 54 + n := by
  rw [k_fx 50 n (by omega), show k_f 50 n = nI n from rfl]
  unfold fd_rc
  rw [nI_clamp (by omega)]
theorem k_p0 {E : fd_E} {h t u z hm q0 q1 q2 q3 q4 q5 q6 q7 : Nat} {a b c : Nat → Nat} : ∃ e : va_E, (kL_F E h t u z a b c ++ kL_M E hm q0 q1 q2 q3 q4 q5 q6 q7 (kM_g 8))[3]? = some (k_adr h t u z hm q0 q1 q2 q3 q4 q5 q6 q7 a b c E.2.2 0, e) := ⟨_, rfl⟩
theorem k_p1 {E : fd_E} {h t u z hm q0 q1 q2 q3 q4 q5 q6 q7 : Nat} {a b c : Nat → Nat} : ∃ e : va_E, (kL_F E h t u z a b c ++ kL_M E hm q0 q1 q2 q3 q4 q5 q6 q7 (kM_g 8))[4]? = some (k_adr h t u z hm q0 q1 q2 q3 q4 q5 q6 q7 a b c E.2.2 1, e) := ⟨_, rfl⟩
theorem k_p2 {E : fd_E} {h t u z hm q0 q1 q2 q3 q4 q5 q6 q7 : Nat} {a b c : Nat → Nat} : ∃ e : va_E, (kL_F E h t u z a b c ++ kL_M E hm q0 q1 q2 q3 q4 q5 q6 q7 (kM_g 8))[5]? = some (k_adr h t u z hm q0 q1 q2 q3 q4 q5 q6 q7 a b c E.2.2 2, e) := ⟨_, rfl⟩
theorem k_p3 {E : fd_E} {h t u z hm q0 q1 q2 q3 q4 q5 q6 q7 : Nat} {a b c : Nat → Nat} : ∃ e : va_E, (kL_F E h t u z a b c ++ kL_M E hm q0 q1 q2 q3 q4 q5 q6 q7 (kM_g 8))[6]? = some (k_adr h t u z hm q0 q1 q2 q3 q4 q5 q6 q7 a b c E.2.2 3, e) := ⟨_, rfl⟩
theorem k_p4 {E : fd_E} {h t u z hm q0 q1 q2 q3 q4 q5 q6 q7 : Nat} {a b c : Nat → Nat} : ∃ e : va_E, (kL_F E h t u z a b c ++ kL_M E hm q0 q1 q2 q3 q4 q5 q6 q7 (kM_g 8))[7]? = some (k_adr h t u z hm q0 q1 q2 q3 q4 q5 q6 q7 a b c E.2.2 4, e) := ⟨_, rfl⟩
theorem k_p5 {E : fd_E} {h t u z hm q0 q1 q2 q3 q4 q5 q6 q7 : Nat} {a b c : Nat → Nat} : ∃ e : va_E, (kL_F E h t u z a b c ++ kL_M E hm q0 q1 q2 q3 q4 q5 q6 q7 (kM_g 8))[20]? = some (k_adr h t u z hm q0 q1 q2 q3 q4 q5 q6 q7 a b c E.2.2 5, e) := ⟨_, rfl⟩
theorem k_p6 {E : fd_E} {h t u z hm q0 q1 q2 q3 q4 q5 q6 q7 : Nat} {a b c : Nat → Nat} : ∃ e : va_E, (kL_F E h t u z a b c ++ kL_M E hm q0 q1 q2 q3 q4 q5 q6 q7 (kM_g 8))[21]? = some (k_adr h t u z hm q0 q1 q2 q3 q4 q5 q6 q7 a b c E.2.2 6, e) := ⟨_, rfl⟩
theorem k_p7 {E : fd_E} {h t u z hm q0 q1 q2 q3 q4 q5 q6 q7 : Nat} {a b c : Nat → Nat} : ∃ e : va_E, (kL_F E h t u z a b c ++ kL_M E hm q0 q1 q2 q3 q4 q5 q6 q7 (kM_g 8))[22]? = some (k_adr h t u z hm q0 q1 q2 q3 q4 q5 q6 q7 a b c E.2.2 7, e) := ⟨_, rfl⟩
theorem k_p8 {E : fd_E} {h t u z hm q0 q1 q2 q3 q4 q5 q6 q7 : Nat} {a b c : Nat → Nat} : ∃ e : va_E, (kL_F E h t u z a b c ++ kL_M E hm q0 q1 q2 q3 q4 q5 q6 q7 (kM_g 8))[8]? = some (k_adr h t u z hm q0 q1 q2 q3 q4 q5 q6 q7 a b c E.2.2 8, e) := ⟨_, rfl⟩
theorem k_p9 {E : fd_E} {h t u z hm q0 q1 q2 q3 q4 q5 q6 q7 : Nat} {a b c : Nat → Nat} : ∃ e : va_E, (kL_F E h t u z a b c ++ kL_M E hm q0 q1 q2 q3 q4 q5 q6 q7 (kM_g 8))[10]? = some (k_adr h t u z hm q0 q1 q2 q3 q4 q5 q6 q7 a b c E.2.2 9, e) := ⟨_, rfl⟩
theorem k_p10 {E : fd_E} {h t u z hm q0 q1 q2 q3 q4 q5 q6 q7 : Nat} {a b c : Nat → Nat} : ∃ e : va_E, (kL_F E h t u z a b c ++ kL_M E hm q0 q1 q2 q3 q4 q5 q6 q7 (kM_g 8))[12]? = some (k_adr h t u z hm q0 q1 q2 q3 q4 q5 q6 q7 a b c E.2.2 10, e) := ⟨_, rfl⟩
theorem k_p11 {E : fd_E} {h t u z hm q0 q1 q2 q3 q4 q5 q6 q7 : Nat} {a b c : Nat → Nat} : ∃ e : va_E, (kL_F E h t u z a b c ++ kL_M E hm q0 q1 q2 q3 q4 q5 q6 q7 (kM_g 8))[14]? = some (k_adr h t u z hm q0 q1 q2 q3 q4 q5 q6 q7 a b c E.2.2 11, e) := ⟨_, rfl⟩
theorem k_p12 {E : fd_E} {h t u z hm q0 q1 q2 q3 q4 q5 q6 q7 : Nat} {a b c : Nat → Nat} : ∃ e : va_E, (kL_F E h t u z a b c ++ kL_M E hm q0 q1 q2 q3 q4 q5 q6 q7 (kM_g 8))[16]? = some (k_adr h t u z hm q0 q1 q2 q3 q4 q5 q6 q7 a b c E.2.2 12, e) := ⟨_, rfl⟩
theorem k_p13 {E : fd_E} {h t u z hm q0 q1 q2 q3 q4 q5 q6 q7 : Nat} {a b c : Nat → Nat} : ∃ e : va_E, (kL_F E h t u z a b c ++ kL_M E hm q0 q1 q2 q3 q4 q5 q6 q7 (kM_g 8))[18]? = some (k_adr h t u z hm q0 q1 q2 q3 q4 q5 q6 q7 a b c E.2.2 13, e) := ⟨_, rfl⟩
theorem k_p14 {E : fd_E} {h t u z hm q0 q1 q2 q3 q4 q5 q6 q7 : Nat} {a b c : Nat → Nat} : ∃ e : va_E, (kL_F E h t u z a b c ++ kL_M E hm q0 q1 q2 q3 q4 q5 q6 q7 (kM_g 8))[9]? = some (k_adr h t u z hm q0 q1 q2 q3 q4 q5 q6 q7 a b c E.2.2 14, e) := ⟨_, rfl⟩
theorem k_p15 {E : fd_E} {h t u z hm q0 q1 q2 q3 q4 q5 q6 q7 : Nat} {a b c : Nat → Nat} : ∃ e : va_E, (kL_F E h t u z a b c ++ kL_M E hm q0 q1 q2 q3 q4 q5 q6 q7 (kM_g 8))[11]? = some (k_adr h t u z hm q0 q1 q2 q3 q4 q5 q6 q7 a b c E.2.2 15, e) := ⟨_, rfl⟩
theorem k_p16 {E : fd_E} {h t u z hm q0 q1 q2 q3 q4 q5 q6 q7 : Nat} {a b c : Nat → Nat} : ∃ e : va_E, (kL_F E h t u z a b c ++ kL_M E hm q0 q1 q2 q3 q4 q5 q6 q7 (kM_g 8))[13]? = some (k_adr h t u z hm q0 q1 q2 q3 q4 q5 q6 q7 a b c E.2.2 16, e) := ⟨_, rfl⟩
theorem k_p17 {E : fd_E} {h t u z hm q0 q1 q2 q3 q4 q5 q6 q7 : Nat} {a b c : Nat → Nat} : ∃ e : va_E, (kL_F E h t u z a b c ++ kL_M E hm q0 q1 q2 q3 q4 q5 q6 q7 (kM_g 8))[15]? = some (k_adr h t u z hm q0 q1 q2 q3 q4 q5 q6 q7 a b c E.2.2 17, e) := ⟨_, rfl⟩
theorem k_p18 {E : fd_E} {h t u z hm q0 q1 q2 q3 q4 q5 q6 q7 : Nat} {a b c : Nat → Nat} : ∃ e : va_E, (kL_F E h t u z a b c ++ kL_M E hm q0 q1 q2 q3 q4 q5 q6 q7 (kM_g 8))[17]? = some (k_adr h t u z hm q0 q1 q2 q3 q4 q5 q6 q7 a b c E.2.2 18, e) := ⟨_, rfl⟩
theorem k_p19 {E : fd_E} {h t u z hm q0 q1 q2 q3 q4 q5 q6 q7 : Nat} {a b c : Nat → Nat} : ∃ e : va_E, (kL_F E h t u z a b c ++ kL_M E hm q0 q1 q2 q3 q4 q5 q6 q7 (kM_g 8))[19]? = some (k_adr h t u z hm q0 q1 q2 q3 q4 q5 q6 q7 a b c E.2.2 19, e) := ⟨_, rfl⟩
theorem k_p20 {E : fd_E} {h t u z hm q0 q1 q2 q3 q4 q5 q6 q7 : Nat} {a b c : Nat → Nat} : ∃ e : va_E, (kL_F E h t u z a b c ++ kL_M E hm q0 q1 q2 q3 q4 q5 q6 q7 (kM_g 8))[23]? = some (k_adr h t u z hm q0 q1 q2 q3 q4 q5 q6 q7 a b c E.2.2 20, e) := ⟨_, rfl⟩
theorem k_p21 {E : fd_E} {h t u z hm q0 q1 q2 q3 q4 q5 q6 q7 : Nat} {a b c : Nat → Nat} : ∃ e : va_E, (kL_F E h t u z a b c ++ kL_M E hm q0 q1 q2 q3 q4 q5 q6 q7 (kM_g 8))[24]? = some (k_adr h t u z hm q0 q1 q2 q3 q4 q5 q6 q7 a b c E.2.2 21, e) := ⟨_, rfl⟩
theorem k_p22 {E : fd_E} {h t u z hm q0 q1 q2 q3 q4 q5 q6 q7 : Nat} {a b c : Nat → Nat} : ∃ e : va_E, (kL_F E h t u z a b c ++ kL_M E hm q0 q1 q2 q3 q4 q5 q6 q7 (kM_g 8))[25]? = some (k_adr h t u z hm q0 q1 q2 q3 q4 q5 q6 q7 a b c E.2.2 22, e) := ⟨_, rfl⟩
theorem k_p23 {E : fd_E} {h t u z hm q0 q1 q2 q3 q4 q5 q6 q7 : Nat} {a b c : Nat → Nat} : ∃ e : va_E, (kL_F E h t u z a b c ++ kL_M E hm q0 q1 q2 q3 q4 q5 q6 q7 (kM_g 8))[26]? = some (k_adr h t u z hm q0 q1 q2 q3 q4 q5 q6 q7 a b c E.2.2 23, e) := ⟨_, rfl⟩
theorem k_p24 {E : fd_E} {h t u z hm q0 q1 q2 q3 q4 q5 q6 q7 : Nat} {a b c : Nat → Nat} : ∃ e : va_E, (kL_F E h t u z a b c ++ kL_M E hm q0 q1 q2 q3 q4 q5 q6 q7 (kM_g 8))[27]? = some (k_adr h t u z hm q0 q1 q2 q3 q4 q5 q6 q7 a b c E.2.2 24, e) := ⟨_, rfl⟩
theorem k_p25 {E : fd_E} {h t u z hm q0 q1 q2 q3 q4 q5 q6 q7 : Nat} {a b c : Nat → Nat} : ∃ e : va_E, (kL_F E h t u z a b c ++ kL_M E hm q0 q1 q2 q3 q4 q5 q6 q7 (kM_g 8))[28]? = some (k_adr h t u z hm q0 q1 q2 q3 q4 q5 q6 q7 a b c E.2.2 25, e) := ⟨_, rfl⟩
theorem k_p26 {E : fd_E} {h t u z hm q0 q1 q2 q3 q4 q5 q6 q7 : Nat} {a b c : Nat → Nat} : ∃ e : va_E, (kL_F E h t u z a b c ++ kL_M E hm q0 q1 q2 q3 q4 q5 q6 q7 (kM_g 8))[29]? = some (k_adr h t u z hm q0 q1 q2 q3 q4 q5 q6 q7 a b c E.2.2 26, e) := ⟨_, rfl⟩
theorem k_p27 {E : fd_E} {h t u z hm q0 q1 q2 q3 q4 q5 q6 q7 : Nat} {a b c : Nat → Nat} : ∃ e : va_E, (kL_F E h t u z a b c ++ kL_M E hm q0 q1 q2 q3 q4 q5 q6 q7 (kM_g 8))[30]? = some (k_adr h t u z hm q0 q1 q2 q3 q4 q5 q6 q7 a b c E.2.2 27, e) := ⟨_, rfl⟩
theorem k_p28 {E : fd_E} {h t u z hm q0 q1 q2 q3 q4 q5 q6 q7 : Nat} {a b c : Nat → Nat} : ∃ e : va_E, (kL_F E h t u z a b c ++ kL_M E hm q0 q1 q2 q3 q4 q5 q6 q7 (kM_g 8))[43]? = some (k_adr h t u z hm q0 q1 q2 q3 q4 q5 q6 q7 a b c E.2.2 28, e) := ⟨_, rfl⟩
theorem k_p29 {E : fd_E} {h t u z hm q0 q1 q2 q3 q4 q5 q6 q7 : Nat} {a b c : Nat → Nat} : ∃ e : va_E, (kL_F E h t u z a b c ++ kL_M E hm q0 q1 q2 q3 q4 q5 q6 q7 (kM_g 8))[44]? = some (k_adr h t u z hm q0 q1 q2 q3 q4 q5 q6 q7 a b c E.2.2 29, e) := ⟨_, rfl⟩
theorem k_p30 {E : fd_E} {h t u z hm q0 q1 q2 q3 q4 q5 q6 q7 : Nat} {a b c : Nat → Nat} : ∃ e : va_E, (kL_F E h t u z a b c ++ kL_M E hm q0 q1 q2 q3 q4 q5 q6 q7 (kM_g 8))[45]? = some (k_adr h t u z hm q0 q1 q2 q3 q4 q5 q6 q7 a b c E.2.2 30, e) := ⟨_, rfl⟩
theorem k_p31 {E : fd_E} {h t u z hm q0 q1 q2 q3 q4 q5 q6 q7 : Nat} {a b c : Nat → Nat} : ∃ e : va_E, (kL_F E h t u z a b c ++ kL_M E hm q0 q1 q2 q3 q4 q5 q6 q7 (kM_g 8))[31]? = some (k_adr h t u z hm q0 q1 q2 q3 q4 q5 q6 q7 a b c E.2.2 31, e) := ⟨_, rfl⟩
theorem k_p32 {E : fd_E} {h t u z hm q0 q1 q2 q3 q4 q5 q6 q7 : Nat} {a b c : Nat → Nat} : ∃ e : va_E, (kL_F E h t u z a b c ++ kL_M E hm q0 q1 q2 q3 q4 q5 q6 q7 (kM_g 8))[33]? = some (k_adr h t u z hm q0 q1 q2 q3 q4 q5 q6 q7 a b c E.2.2 32, e) := ⟨_, rfl⟩
theorem k_p33 {E : fd_E} {h t u z hm q0 q1 q2 q3 q4 q5 q6 q7 : Nat} {a b c : Nat → Nat} : ∃ e : va_E, (kL_F E h t u z a b c ++ kL_M E hm q0 q1 q2 q3 q4 q5 q6 q7 (kM_g 8))[35]? = some (k_adr h t u z hm q0 q1 q2 q3 q4 q5 q6 q7 a b c E.2.2 33, e) := ⟨_, rfl⟩
theorem k_p34 {E : fd_E} {h t u z hm q0 q1 q2 q3 q4 q5 q6 q7 : Nat} {a b c : Nat → Nat} : ∃ e : va_E, (kL_F E h t u z a b c ++ kL_M E hm q0 q1 q2 q3 q4 q5 q6 q7 (kM_g 8))[37]? = some (k_adr h t u z hm q0 q1 q2 q3 q4 q5 q6 q7 a b c E.2.2 34, e) := ⟨_, rfl⟩
theorem k_p35 {E : fd_E} {h t u z hm q0 q1 q2 q3 q4 q5 q6 q7 : Nat} {a b c : Nat → Nat} : ∃ e : va_E, (kL_F E h t u z a b c ++ kL_M E hm q0 q1 q2 q3 q4 q5 q6 q7 (kM_g 8))[39]? = some (k_adr h t u z hm q0 q1 q2 q3 q4 q5 q6 q7 a b c E.2.2 35, e) := ⟨_, rfl⟩
theorem k_p36 {E : fd_E} {h t u z hm q0 q1 q2 q3 q4 q5 q6 q7 : Nat} {a b c : Nat → Nat} : ∃ e : va_E, (kL_F E h t u z a b c ++ kL_M E hm q0 q1 q2 q3 q4 q5 q6 q7 (kM_g 8))[41]? = some (k_adr h t u z hm q0 q1 q2 q3 q4 q5 q6 q7 a b c E.2.2 36, e) := ⟨_, rfl⟩
theorem k_p37 {E : fd_E} {h t u z hm q0 q1 q2 q3 q4 q5 q6 q7 : Nat} {a b c : Nat → Nat} : ∃ e : va_E, (kL_F E h t u z a b c ++ kL_M E hm q0 q1 q2 q3 q4 q5 q6 q7 (kM_g 8))[32]? = some (k_adr h t u z hm q0 q1 q2 q3 q4 q5 q6 q7 a b c E.2.2 37, e) := ⟨_, rfl⟩
theorem k_p38 {E : fd_E} {h t u z hm q0 q1 q2 q3 q4 q5 q6 q7 : Nat} {a b c : Nat → Nat} : ∃ e : va_E, (kL_F E h t u z a b c ++ kL_M E hm q0 q1 q2 q3 q4 q5 q6 q7 (kM_g 8))[34]? = some (k_adr h t u z hm q0 q1 q2 q3 q4 q5 q6 q7 a b c E.2.2 38, e) := ⟨_, rfl⟩
theorem k_p39 {E : fd_E} {h t u z hm q0 q1 q2 q3 q4 q5 q6 q7 : Nat} {a b c : Nat → Nat} : ∃ e : va_E, (kL_F E h t u z a b c ++ kL_M E hm q0 q1 q2 q3 q4 q5 q6 q7 (kM_g 8))[36]? = some (k_adr h t u z hm q0 q1 q2 q3 q4 q5 q6 q7 a b c E.2.2 39, e) := ⟨_, rfl⟩
theorem k_p40 {E : fd_E} {h t u z hm q0 q1 q2 q3 q4 q5 q6 q7 : Nat} {a b c : Nat → Nat} : ∃ e : va_E, (kL_F E h t u z a b c ++ kL_M E hm q0 q1 q2 q3 q4 q5 q6 q7 (kM_g 8))[38]? = some (k_adr h t u z hm q0 q1 q2 q3 q4 q5 q6 q7 a b c E.2.2 40, e) := ⟨_, rfl⟩
theorem k_p41 {E : fd_E} {h t u z hm q0 q1 q2 q3 q4 q5 q6 q7 : Nat} {a b c : Nat → Nat} : ∃ e : va_E, (kL_F E h t u z a b c ++ kL_M E hm q0 q1 q2 q3 q4 q5 q6 q7 (kM_g 8))[40]? = some (k_adr h t u z hm q0 q1 q2 q3 q4 q5 q6 q7 a b c E.2.2 41, e) := ⟨_, rfl⟩
theorem k_p42 {E : fd_E} {h t u z hm q0 q1 q2 q3 q4 q5 q6 q7 : Nat} {a b c : Nat → Nat} : ∃ e : va_E, (kL_F E h t u z a b c ++ kL_M E hm q0 q1 q2 q3 q4 q5 q6 q7 (kM_g 8))[42]? = some (k_adr h t u z hm q0 q1 q2 q3 q4 q5 q6 q7 a b c E.2.2 42, e) := ⟨_, rfl⟩
theorem k_p43 {E : fd_E} {h t u z hm q0 q1 q2 q3 q4 q5 q6 q7 : Nat} {a b c : Nat → Nat} : ∃ e : va_E, (kL_F E h t u z a b c ++ kL_M E hm q0 q1 q2 q3 q4 q5 q6 q7 (kM_g 8))[46]? = some (k_adr h t u z hm q0 q1 q2 q3 q4 q5 q6 q7 a b c E.2.2 43, e) := ⟨_, rfl⟩
theorem k_p44 {E : fd_E} {h t u z hm q0 q1 q2 q3 q4 q5 q6 q7 : Nat} {a b c : Nat → Nat} : ∃ e : va_E, (kL_F E h t u z a b c ++ kL_M E hm q0 q1 q2 q3 q4 q5 q6 q7 (kM_g 8))[47]? = some (k_adr h t u z hm q0 q1 q2 q3 q4 q5 q6 q7 a b c E.2.2 44, e) := ⟨_, rfl⟩
theorem k_p45 {E : fd_E} {h t u z hm q0 q1 q2 q3 q4 q5 q6 q7 : Nat} {a b c : Nat → Nat} : ∃ e : va_E, (kL_F E h t u z a b c ++ kL_M E hm q0 q1 q2 q3 q4 q5 q6 q7 (kM_g 8))[48]? = some (k_adr h t u z hm q0 q1 q2 q3 q4 q5 q6 q7 a b c E.2.2 45, e) := ⟨_, rfl⟩
theorem k_p46 {E : fd_E} {h t u z hm q0 q1 q2 q3 q4 q5 q6 q7 : Nat} {a b c : Nat → Nat} : ∃ e : va_E, (kL_F E h t u z a b c ++ kL_M E hm q0 q1 q2 q3 q4 q5 q6 q7 (kM_g 8))[49]? = some (k_adr h t u z hm q0 q1 q2 q3 q4 q5 q6 q7 a b c E.2.2 46, e) := ⟨_, rfl⟩
theorem k_p47 {E : fd_E} {h t u z hm q0 q1 q2 q3 q4 q5 q6 q7 : Nat} {a b c : Nat → Nat} : ∃ e : va_E, (kL_F E h t u z a b c ++ kL_M E hm q0 q1 q2 q3 q4 q5 q6 q7 (kM_g 8))[50]? = some (k_adr h t u z hm q0 q1 q2 q3 q4 q5 q6 q7 a b c E.2.2 47, e) := ⟨_, rfl⟩
theorem k_p48 {E : fd_E} {h t u z hm q0 q1 q2 q3 q4 q5 q6 q7 : Nat} {a b c : Nat → Nat} : ∃ e : va_E, (kL_F E h t u z a b c ++ kL_M E hm q0 q1 q2 q3 q4 q5 q6 q7 (kM_g 8))[51]? = some (k_adr h t u z hm q0 q1 q2 q3 q4 q5 q6 q7 a b c E.2.2 48, e) := ⟨_, rfl⟩
theorem k_p49 {E : fd_E} {h t u z hm q0 q1 q2 q3 q4 q5 q6 q7 : Nat} {a b c : Nat → Nat} : ∃ e : va_E, (kL_F E h t u z a b c ++ kL_M E hm q0 q1 q2 q3 q4 q5 q6 q7 (kM_g 8))[52]? = some (k_adr h t u z hm q0 q1 q2 q3 q4 q5 q6 q7 a b c E.2.2 49, e) := ⟨_, rfl⟩
theorem k_p50 {E : fd_E} {h t u z hm q0 q1 q2 q3 q4 q5 q6 q7 : Nat} {a b c : Nat → Nat} : ∃ e : va_E, (kL_F E h t u z a b c ++ kL_M E hm q0 q1 q2 q3 q4 q5 q6 q7 (kM_g 8))[53]? = some (k_adr h t u z hm q0 q1 q2 q3 q4 q5 q6 q7 a b c E.2.2 50, e) := ⟨_, rfl⟩
theorem k_p51 {E : fd_E} {h t u z hm q0 q1 q2 q3 q4 q5 q6 q7 : Nat} {a b c : Nat → Nat} : ∃ e : va_E, (kL_F E h t u z a b c ++ kL_M E hm q0 q1 q2 q3 q4 q5 q6 q7 (kM_g 8))[66]? = some (k_adr h t u z hm q0 q1 q2 q3 q4 q5 q6 q7 a b c E.2.2 51, e) := ⟨_, rfl⟩
theorem k_p52 {E : fd_E} {h t u z hm q0 q1 q2 q3 q4 q5 q6 q7 : Nat} {a b c : Nat → Nat} : ∃ e : va_E, (kL_F E h t u z a b c ++ kL_M E hm q0 q1 q2 q3 q4 q5 q6 q7 (kM_g 8))[67]? = some (k_adr h t u z hm q0 q1 q2 q3 q4 q5 q6 q7 a b c E.2.2 52, e) := ⟨_, rfl⟩
theorem k_p53 {E : fd_E} {h t u z hm q0 q1 q2 q3 q4 q5 q6 q7 : Nat} {a b c : Nat → Nat} : ∃ e : va_E, (kL_F E h t u z a b c ++ kL_M E hm q0 q1 q2 q3 q4 q5 q6 q7 (kM_g 8))[68]? = some (k_adr h t u z hm q0 q1 q2 q3 q4 q5 q6 q7 a b c E.2.2 53, e) := ⟨_, rfl⟩
theorem k_p54 {E : fd_E} {h t u z hm q0 q1 q2 q3 q4 q5 q6 q7 : Nat} {a b c : Nat → Nat} : ∃ e : va_E, (kL_F E h t u z a b c ++ kL_M E hm q0 q1 q2 q3 q4 q5 q6 q7 (kM_g 8))[54]? = some (k_adr h t u z hm q0 q1 q2 q3 q4 q5 q6 q7 a b c E.2.2 54, e) := ⟨_, rfl⟩
theorem k_p55 {E : fd_E} {h t u z hm q0 q1 q2 q3 q4 q5 q6 q7 : Nat} {a b c : Nat → Nat} : ∃ e : va_E, (kL_F E h t u z a b c ++ kL_M E hm q0 q1 q2 q3 q4 q5 q6 q7 (kM_g 8))[56]? = some (k_adr h t u z hm q0 q1 q2 q3 q4 q5 q6 q7 a b c E.2.2 55, e) := ⟨_, rfl⟩
theorem k_p56 {E : fd_E} {h t u z hm q0 q1 q2 q3 q4 q5 q6 q7 : Nat} {a b c : Nat → Nat} : ∃ e : va_E, (kL_F E h t u z a b c ++ kL_M E hm q0 q1 q2 q3 q4 q5 q6 q7 (kM_g 8))[58]? = some (k_adr h t u z hm q0 q1 q2 q3 q4 q5 q6 q7 a b c E.2.2 56, e) := ⟨_, rfl⟩
theorem k_p57 {E : fd_E} {h t u z hm q0 q1 q2 q3 q4 q5 q6 q7 : Nat} {a b c : Nat → Nat} : ∃ e : va_E, (kL_F E h t u z a b c ++ kL_M E hm q0 q1 q2 q3 q4 q5 q6 q7 (kM_g 8))[60]? = some (k_adr h t u z hm q0 q1 q2 q3 q4 q5 q6 q7 a b c E.2.2 57, e) := ⟨_, rfl⟩
theorem k_p58 {E : fd_E} {h t u z hm q0 q1 q2 q3 q4 q5 q6 q7 : Nat} {a b c : Nat → Nat} : ∃ e : va_E, (kL_F E h t u z a b c ++ kL_M E hm q0 q1 q2 q3 q4 q5 q6 q7 (kM_g 8))[62]? = some (k_adr h t u z hm q0 q1 q2 q3 q4 q5 q6 q7 a b c E.2.2 58, e) := ⟨_, rfl⟩
theorem k_p59 {E : fd_E} {h t u z hm q0 q1 q2 q3 q4 q5 q6 q7 : Nat} {a b c : Nat → Nat} : ∃ e : va_E, (kL_F E h t u z a b c ++ kL_M E hm q0 q1 q2 q3 q4 q5 q6 q7 (kM_g 8))[64]? = some (k_adr h t u z hm q0 q1 q2 q3 q4 q5 q6 q7 a b c E.2.2 59, e) := ⟨_, rfl⟩
theorem k_p60 {E : fd_E} {h t u z hm q0 q1 q2 q3 q4 q5 q6 q7 : Nat} {a b c : Nat → Nat} : ∃ e : va_E, (kL_F E h t u z a b c ++ kL_M E hm q0 q1 q2 q3 q4 q5 q6 q7 (kM_g 8))[55]? = some (k_adr h t u z hm q0 q1 q2 q3 q4 q5 q6 q7 a b c E.2.2 60, e) := ⟨_, rfl⟩
theorem k_p61 {E : fd_E} {h t u z hm q0 q1 q2 q3 q4 q5 q6 q7 : Nat} {a b c : Nat → Nat} : ∃ e : va_E, (kL_F E h t u z a b c ++ kL_M E hm q0 q1 q2 q3 q4 q5 q6 q7 (kM_g 8))[57]? = some (k_adr h t u z hm q0 q1 q2 q3 q4 q5 q6 q7 a b c E.2.2 61, e) := ⟨_, rfl⟩
theorem k_p62 {E : fd_E} {h t u z hm q0 q1 q2 q3 q4 q5 q6 q7 : Nat} {a b c : Nat → Nat} : ∃ e : va_E, (kL_F E h t u z a b c ++ kL_M E hm q0 q1 q2 q3 q4 q5 q6 q7 (kM_g 8))[59]? = some (k_adr h t u z hm q0 q1 q2 q3 q4 q5 q6 q7 a b c E.2.2 62, e) := ⟨_, rfl⟩
theorem k_p63 {E : fd_E} {h t u z hm q0 q1 q2 q3 q4 q5 q6 q7 : Nat} {a b c : Nat → Nat} : ∃ e : va_E, (kL_F E h t u z a b c ++ kL_M E hm q0 q1 q2 q3 q4 q5 q6 q7 (kM_g 8))[61]? = some (k_adr h t u z hm q0 q1 q2 q3 q4 q5 q6 q7 a b c E.2.2 63, e) := ⟨_, rfl⟩
theorem k_p64 {E : fd_E} {h t u z hm q0 q1 q2 q3 q4 q5 q6 q7 : Nat} {a b c : Nat → Nat} : ∃ e : va_E, (kL_F E h t u z a b c ++ kL_M E hm q0 q1 q2 q3 q4 q5 q6 q7 (kM_g 8))[63]? = some (k_adr h t u z hm q0 q1 q2 q3 q4 q5 q6 q7 a b c E.2.2 64, e) := ⟨_, rfl⟩
theorem k_p65 {E : fd_E} {h t u z hm q0 q1 q2 q3 q4 q5 q6 q7 : Nat} {a b c : Nat → Nat} : ∃ e : va_E, (kL_F E h t u z a b c ++ kL_M E hm q0 q1 q2 q3 q4 q5 q6 q7 (kM_g 8))[65]? = some (k_adr h t u z hm q0 q1 q2 q3 q4 q5 q6 q7 a b c E.2.2 65, e) := ⟨_, rfl⟩
theorem k_p66 {E : fd_E} {h t u z hm q0 q1 q2 q3 q4 q5 q6 q7 : Nat} {a b c : Nat → Nat} : ∃ e : va_E, (kL_F E h t u z a b c ++ kL_M E hm q0 q1 q2 q3 q4 q5 q6 q7 (kM_g 8))[69]? = some (k_adr h t u z hm q0 q1 q2 q3 q4 q5 q6 q7 a b c E.2.2 66, e) := ⟨_, rfl⟩
theorem k_p67 {E : fd_E} {h t u z hm q0 q1 q2 q3 q4 q5 q6 q7 : Nat} {a b c : Nat → Nat} : ∃ e : va_E, (kL_F E h t u z a b c ++ kL_M E hm q0 q1 q2 q3 q4 q5 q6 q7 (kM_g 8))[70]? = some (k_adr h t u z hm q0 q1 q2 q3 q4 q5 q6 q7 a b c E.2.2 67, e) := ⟨_, rfl⟩
theorem k_p68 {E : fd_E} {h t u z hm q0 q1 q2 q3 q4 q5 q6 q7 : Nat} {a b c : Nat → Nat} : ∃ e : va_E, (kL_F E h t u z a b c ++ kL_M E hm q0 q1 q2 q3 q4 q5 q6 q7 (kM_g 8))[71]? = some (k_adr h t u z hm q0 q1 q2 q3 q4 q5 q6 q7 a b c E.2.2 68, e) := ⟨_, rfl⟩
theorem k_p69 {E : fd_E} {h t u z hm q0 q1 q2 q3 q4 q5 q6 q7 : Nat} {a b c : Nat → Nat} : ∃ e : va_E, (kL_F E h t u z a b c ++ kL_M E hm q0 q1 q2 q3 q4 q5 q6 q7 (kM_g 8))[0]? = some (k_adr h t u z hm q0 q1 q2 q3 q4 q5 q6 q7 a b c E.2.2 69, e) := ⟨_, rfl⟩
theorem k_p70 {E : fd_E} {h t u z hm q0 q1 q2 q3 q4 q5 q6 q7 : Nat} {a b c : Nat → Nat} : ∃ e : va_E, (kL_F E h t u z a b c ++ kL_M E hm q0 q1 q2 q3 q4 q5 q6 q7 (kM_g 8))[72]? = some (k_adr h t u z hm q0 q1 q2 q3 q4 q5 q6 q7 a b c E.2.2 70, e) := ⟨_, rfl⟩
theorem k_p71 {E : fd_E} {h t u z hm q0 q1 q2 q3 q4 q5 q6 q7 : Nat} {a b c : Nat → Nat} : ∃ e : va_E, (kL_F E h t u z a b c ++ kL_M E hm q0 q1 q2 q3 q4 q5 q6 q7 (kM_g 8))[1]? = some (k_adr h t u z hm q0 q1 q2 q3 q4 q5 q6 q7 a b c E.2.2 71, e) := ⟨_, rfl⟩
theorem k_p72 {E : fd_E} {h t u z hm q0 q1 q2 q3 q4 q5 q6 q7 : Nat} {a b c : Nat → Nat} : ∃ e : va_E, (kL_F E h t u z a b c ++ kL_M E hm q0 q1 q2 q3 q4 q5 q6 q7 (kM_g 8))[2]? = some (k_adr h t u z hm q0 q1 q2 q3 q4 q5 q6 q7 a b c E.2.2 72, e) := ⟨_, rfl⟩
theorem k_p73 {E : fd_E} {h t u z hm q0 q1 q2 q3 q4 q5 q6 q7 : Nat} {a b c : Nat → Nat} : ∃ e : va_E, (kL_F E h t u z a b c ++ kL_M E hm q0 q1 q2 q3 q4 q5 q6 q7 (kM_g 8))[73]? = some (k_adr h t u z hm q0 q1 q2 q3 q4 q5 q6 q7 a b c E.2.2 73, e) := ⟨_, rfl⟩
theorem k_p74 {E : fd_E} {h t u z hm q0 q1 q2 q3 q4 q5 q6 q7 : Nat} {a b c : Nat → Nat} : ∃ e : va_E, (kL_F E h t u z a b c ++ kL_M E hm q0 q1 q2 q3 q4 q5 q6 q7 (kM_g 8))[74]? = some (k_adr h t u z hm q0 q1 q2 q3 q4 q5 q6 q7 a b c E.2.2 74, e) := ⟨_, rfl⟩
theorem k_p75 {E : fd_E} {h t u z hm q0 q1 q2 q3 q4 q5 q6 q7 : Nat} {a b c : Nat → Nat} : ∃ e : va_E, (kL_F E h t u z a b c ++ kL_M E hm q0 q1 q2 q3 q4 q5 q6 q7 (kM_g 8))[75]? = some (k_adr h t u z hm q0 q1 q2 q3 q4 q5 q6 q7 a b c E.2.2 75, e) := ⟨_, rfl⟩
theorem k_p76 {E : fd_E} {h t u z hm q0 q1 q2 q3 q4 q5 q6 q7 : Nat} {a b c : Nat → Nat} : ∃ e : va_E, (kL_F E h t u z a b c ++ kL_M E hm q0 q1 q2 q3 q4 q5 q6 q7 (kM_g 8))[76]? = some (k_adr h t u z hm q0 q1 q2 q3 q4 q5 q6 q7 a b c E.2.2 76, e) := ⟨_, rfl⟩
theorem k_p77 {E : fd_E} {h t u z hm q0 q1 q2 q3 q4 q5 q6 q7 : Nat} {a b c : Nat → Nat} : ∃ e : va_E, (kL_F E h t u z a b c ++ kL_M E hm q0 q1 q2 q3 q4 q5 q6 q7 (kM_g 8))[77]? = some (k_adr h t u z hm q0 q1 q2 q3 q4 q5 q6 q7 a b c E.2.2 77, e) := ⟨_, rfl⟩
theorem k_p78 {E : fd_E} {h t u z hm q0 q1 q2 q3 q4 q5 q6 q7 : Nat} {a b c : Nat → Nat} : ∃ e : va_E, (kL_F E h t u z a b c ++ kL_M E hm q0 q1 q2 q3 q4 q5 q6 q7 (kM_g 8))[78]? = some (k_adr h t u z hm q0 q1 q2 q3 q4 q5 q6 q7 a b c E.2.2 78, e) := ⟨_, rfl⟩
theorem k_p79 {E : fd_E} {h t u z hm q0 q1 q2 q3 q4 q5 q6 q7 : Nat} {a b c : Nat → Nat} : ∃ e : va_E, (kL_F E h t u z a b c ++ kL_M E hm q0 q1 q2 q3 q4 q5 q6 q7 (kM_g 8))[79]? = some (k_adr h t u z hm q0 q1 q2 q3 q4 q5 q6 q7 a b c E.2.2 79, e) := ⟨_, rfl⟩
theorem k_p80 {E : fd_E} {h t u z hm q0 q1 q2 q3 q4 q5 q6 q7 : Nat} {a b c : Nat → Nat} : ∃ e : va_E, (kL_F E h t u z a b c ++ kL_M E hm q0 q1 q2 q3 q4 q5 q6 q7 (kM_g 8))[80]? = some (k_adr h t u z hm q0 q1 q2 q3 q4 q5 q6 q7 a b c E.2.2 80, e) := ⟨_, rfl⟩
theorem k_p81 {E : fd_E} {h t u z hm q0 q1 q2 q3 q4 q5 q6 q7 : Nat} {a b c : Nat → Nat} : ∃ e : va_E, (kL_F E h t u z a b c ++ kL_M E hm q0 q1 q2 q3 q4 q5 q6 q7 (kM_g 8))[81]? = some (k_adr h t u z hm q0 q1 q2 q3 q4 q5 q6 q7 a b c E.2.2 81, e) := ⟨_, rfl⟩
theorem k_a0 {E : fd_E} {h t u z hm q0 q1 q2 q3 q4 q5 q6 q7 : Nat} {a b c : Nat → Nat} {H : Heap} (hP : va_P E.1 fd_CL (kL_F E h t u z a b c ++ kL_M E hm q0 q1 q2 q3 q4 q5 q6 q7 (kM_g 8)) H) : va_at E.1 fd_CL (k_adr h t u z hm q0 q1 q2 q3 q4 q5 q6 q7 a b c E.2.2 0, fd_ce (k_E E h t u z hm q0 q1 q2 q3 q4 q5 q6 q7 a b c) k_S0 0) H := hP 3 _ rfl
theorem k_a1 {E : fd_E} {h t u z hm q0 q1 q2 q3 q4 q5 q6 q7 : Nat} {a b c : Nat → Nat} {H : Heap} (hP : va_P E.1 fd_CL (kL_F E h t u z a b c ++ kL_M E hm q0 q1 q2 q3 q4 q5 q6 q7 (kM_g 8)) H) : va_at E.1 fd_CL (k_adr h t u z hm q0 q1 q2 q3 q4 q5 q6 q7 a b c E.2.2 1, fd_ce (k_E E h t u z hm q0 q1 q2 q3 q4 q5 q6 q7 a b c) k_S0 1) H := hP 4 _ rfl
theorem k_a2 {E : fd_E} {h t u z hm q0 q1 q2 q3 q4 q5 q6 q7 : Nat} {a b c : Nat → Nat} {H : Heap} (hP : va_P E.1 fd_CL (kL_F E h t u z a b c ++ kL_M E hm q0 q1 q2 q3 q4 q5 q6 q7 (kM_g 8)) H) : va_at E.1 fd_CL (k_adr h t u z hm q0 q1 q2 q3 q4 q5 q6 q7 a b c E.2.2 2, fd_ce (k_E E h t u z hm q0 q1 q2 q3 q4 q5 q6 q7 a b c) k_S0 2) H := k_ai (hP 5 _ rfl) (fun n hn => k_fx 2 n (Nat.lt_trans hn (fd_ln_lt 2)))
theorem k_a3 {E : fd_E} {h t u z hm q0 q1 q2 q3 q4 q5 q6 q7 : Nat} {a b c : Nat → Nat} {H : Heap} (hP : va_P E.1 fd_CL (kL_F E h t u z a b c ++ kL_M E hm q0 q1 q2 q3 q4 q5 q6 q7 (kM_g 8)) H) : va_at E.1 fd_CL (k_adr h t u z hm q0 q1 q2 q3 q4 q5 q6 q7 a b c E.2.2 3, fd_ce (k_E E h t u z hm q0 q1 q2 q3 q4 q5 q6 q7 a b c) k_S0 3) H := hP 6 _ rfl
theorem k_a4 {E : fd_E} {h t u z hm q0 q1 q2 q3 q4 q5 q6 q7 : Nat} {a b c : Nat → Nat} {H : Heap} (hP : va_P E.1 fd_CL (kL_F E h t u z a b c ++ kL_M E hm q0 q1 q2 q3 q4 q5 q6 q7 (kM_g 8)) H) : va_at E.1 fd_CL (k_adr h t u z hm q0 q1 q2 q3 q4 q5 q6 q7 a b c E.2.2 4, fd_ce (k_E E h t u z hm q0 q1 q2 q3 q4 q5 q6 q7 a b c) k_S0 4) H := by
  refine k_ar (hP 7 _ rfl) (fun n hn => ?_)
  have hn6 : n < 6 := hn
  show some (k_adr h t u z hm q0 q1 q2 q3 q4 q5 q6 q7 a b c E.2.2 (fd_rc 4 (k_S0 4 (fd_ix n)))) = _
  rw [k_r0 n hn6]
  exact (match n, hn6 with
    | 0, _ => rfl
    | 1, _ => rfl
    | 2, _ => rfl
    | 3, _ => rfl
    | 4, _ => rfl
    | 5, _ => rfl
    | n + 6, hn => absurd hn (by omega))
theorem k_a5 {E : fd_E} {h t u z hm q0 q1 q2 q3 q4 q5 q6 q7 : Nat} {a b c : Nat → Nat} {H : Heap} (hP : va_P E.1 fd_CL (kL_F E h t u z a b c ++ kL_M E hm q0 q1 q2 q3 q4 q5 q6 q7 (kM_g 8)) H) : va_at E.1 fd_CL (k_adr h t u z hm q0 q1 q2 q3 q4 q5 q6 q7 a b c E.2.2 5, fd_ce (k_E E h t u z hm q0 q1 q2 q3 q4 q5 q6 q7 a b c) k_S0 5) H := hP 20 _ rfl
theorem k_a6 {E : fd_E} {h t u z hm q0 q1 q2 q3 q4 q5 q6 q7 : Nat} {a b c : Nat → Nat} {H : Heap} (hP : va_P E.1 fd_CL (kL_F E h t u z a b c ++ kL_M E hm q0 q1 q2 q3 q4 q5 q6 q7 (kM_g 8)) H) : va_at E.1 fd_CL (k_adr h t u z hm q0 q1 q2 q3 q4 q5 q6 q7 a b c E.2.2 6, fd_ce (k_E E h t u z hm q0 q1 q2 q3 q4 q5 q6 q7 a b c) k_S0 6) H := k_ai (hP 21 _ rfl) (fun n hn => k_fx 6 n (Nat.lt_trans hn (fd_ln_lt 6)))
theorem k_a7 {E : fd_E} {h t u z hm q0 q1 q2 q3 q4 q5 q6 q7 : Nat} {a b c : Nat → Nat} {H : Heap} (hP : va_P E.1 fd_CL (kL_F E h t u z a b c ++ kL_M E hm q0 q1 q2 q3 q4 q5 q6 q7 (kM_g 8)) H) : va_at E.1 fd_CL (k_adr h t u z hm q0 q1 q2 q3 q4 q5 q6 q7 a b c E.2.2 7, fd_ce (k_E E h t u z hm q0 q1 q2 q3 q4 q5 q6 q7 a b c) k_S0 7) H := k_ai (hP 22 _ rfl) (fun n hn => k_fx 7 n (Nat.lt_trans hn (fd_ln_lt 7)))
theorem k_a8 {E : fd_E} {h t u z hm q0 q1 q2 q3 q4 q5 q6 q7 : Nat} {a b c : Nat → Nat} {H : Heap} (hP : va_P E.1 fd_CL (kL_F E h t u z a b c ++ kL_M E hm q0 q1 q2 q3 q4 q5 q6 q7 (kM_g 8)) H) : va_at E.1 fd_CL (k_adr h t u z hm q0 q1 q2 q3 q4 q5 q6 q7 a b c E.2.2 8, fd_ce (k_E E h t u z hm q0 q1 q2 q3 q4 q5 q6 q7 a b c) k_S0 8) H := hP 8 _ rfl
theorem k_a9 {E : fd_E} {h t u z hm q0 q1 q2 q3 q4 q5 q6 q7 : Nat} {a b c : Nat → Nat} {H : Heap} (hP : va_P E.1 fd_CL (kL_F E h t u z a b c ++ kL_M E hm q0 q1 q2 q3 q4 q5 q6 q7 (kM_g 8)) H) : va_at E.1 fd_CL (k_adr h t u z hm q0 q1 q2 q3 q4 q5 q6 q7 a b c E.2.2 9, fd_ce (k_E E h t u z hm q0 q1 q2 q3 q4 q5 q6 q7 a b c) k_S0 9) H := hP 10 _ rfl
theorem k_a10 {E : fd_E} {h t u z hm q0 q1 q2 q3 q4 q5 q6 q7 : Nat} {a b c : Nat → Nat} {H : Heap} (hP : va_P E.1 fd_CL (kL_F E h t u z a b c ++ kL_M E hm q0 q1 q2 q3 q4 q5 q6 q7 (kM_g 8)) H) : va_at E.1 fd_CL (k_adr h t u z hm q0 q1 q2 q3 q4 q5 q6 q7 a b c E.2.2 10, fd_ce (k_E E h t u z hm q0 q1 q2 q3 q4 q5 q6 q7 a b c) k_S0 10) H := hP 12 _ rfl
theorem k_a11 {E : fd_E} {h t u z hm q0 q1 q2 q3 q4 q5 q6 q7 : Nat} {a b c : Nat → Nat} {H : Heap} (hP : va_P E.1 fd_CL (kL_F E h t u z a b c ++ kL_M E hm q0 q1 q2 q3 q4 q5 q6 q7 (kM_g 8)) H) : va_at E.1 fd_CL (k_adr h t u z hm q0 q1 q2 q3 q4 q5 q6 q7 a b c E.2.2 11, fd_ce (k_E E h t u z hm q0 q1 q2 q3 q4 q5 q6 q7 a b c) k_S0 11) H := hP 14 _ rfl
theorem k_a12 {E : fd_E} {h t u z hm q0 q1 q2 q3 q4 q5 q6 q7 : Nat} {a b c : Nat → Nat} {H : Heap} (hP : va_P E.1 fd_CL (kL_F E h t u z a b c ++ kL_M E hm q0 q1 q2 q3 q4 q5 q6 q7 (kM_g 8)) H) : va_at E.1 fd_CL (k_adr h t u z hm q0 q1 q2 q3 q4 q5 q6 q7 a b c E.2.2 12, fd_ce (k_E E h t u z hm q0 q1 q2 q3 q4 q5 q6 q7 a b c) k_S0 12) H := hP 16 _ rfl
theorem k_a13 {E : fd_E} {h t u z hm q0 q1 q2 q3 q4 q5 q6 q7 : Nat} {a b c : Nat → Nat} {H : Heap} (hP : va_P E.1 fd_CL (kL_F E h t u z a b c ++ kL_M E hm q0 q1 q2 q3 q4 q5 q6 q7 (kM_g 8)) H) : va_at E.1 fd_CL (k_adr h t u z hm q0 q1 q2 q3 q4 q5 q6 q7 a b c E.2.2 13, fd_ce (k_E E h t u z hm q0 q1 q2 q3 q4 q5 q6 q7 a b c) k_S0 13) H := hP 18 _ rfl
theorem k_a14 {E : fd_E} {h t u z hm q0 q1 q2 q3 q4 q5 q6 q7 : Nat} {a b c : Nat → Nat} {H : Heap} (hP : va_P E.1 fd_CL (kL_F E h t u z a b c ++ kL_M E hm q0 q1 q2 q3 q4 q5 q6 q7 (kM_g 8)) H) : va_at E.1 fd_CL (k_adr h t u z hm q0 q1 q2 q3 q4 q5 q6 q7 a b c E.2.2 14, fd_ce (k_E E h t u z hm q0 q1 q2 q3 q4 q5 q6 q7 a b c) k_S0 14) H := k_ai (hP 9 _ rfl) (fun n hn => k_fx 14 n (Nat.lt_trans hn (fd_ln_lt 14)))
theorem k_a15 {E : fd_E} {h t u z hm q0 q1 q2 q3 q4 q5 q6 q7 : Nat} {a b c : Nat → Nat} {H : Heap} (hP : va_P E.1 fd_CL (kL_F E h t u z a b c ++ kL_M E hm q0 q1 q2 q3 q4 q5 q6 q7 (kM_g 8)) H) : va_at E.1 fd_CL (k_adr h t u z hm q0 q1 q2 q3 q4 q5 q6 q7 a b c E.2.2 15, fd_ce (k_E E h t u z hm q0 q1 q2 q3 q4 q5 q6 q7 a b c) k_S0 15) H := k_ai (hP 11 _ rfl) (fun n hn => k_fx 15 n (Nat.lt_trans hn (fd_ln_lt 15)))
theorem k_a16 {E : fd_E} {h t u z hm q0 q1 q2 q3 q4 q5 q6 q7 : Nat} {a b c : Nat → Nat} {H : Heap} (hP : va_P E.1 fd_CL (kL_F E h t u z a b c ++ kL_M E hm q0 q1 q2 q3 q4 q5 q6 q7 (kM_g 8)) H) : va_at E.1 fd_CL (k_adr h t u z hm q0 q1 q2 q3 q4 q5 q6 q7 a b c E.2.2 16, fd_ce (k_E E h t u z hm q0 q1 q2 q3 q4 q5 q6 q7 a b c) k_S0 16) H := k_ai (hP 13 _ rfl) (fun n hn => k_fx 16 n (Nat.lt_trans hn (fd_ln_lt 16)))
theorem k_a17 {E : fd_E} {h t u z hm q0 q1 q2 q3 q4 q5 q6 q7 : Nat} {a b c : Nat → Nat} {H : Heap} (hP : va_P E.1 fd_CL (kL_F E h t u z a b c ++ kL_M E hm q0 q1 q2 q3 q4 q5 q6 q7 (kM_g 8)) H) : va_at E.1 fd_CL (k_adr h t u z hm q0 q1 q2 q3 q4 q5 q6 q7 a b c E.2.2 17, fd_ce (k_E E h t u z hm q0 q1 q2 q3 q4 q5 q6 q7 a b c) k_S0 17) H := k_ai (hP 15 _ rfl) (fun n hn => k_fx 17 n (Nat.lt_trans hn (fd_ln_lt 17)))
theorem k_a18 {E : fd_E} {h t u z hm q0 q1 q2 q3 q4 q5 q6 q7 : Nat} {a b c : Nat → Nat} {H : Heap} (hP : va_P E.1 fd_CL (kL_F E h t u z a b c ++ kL_M E hm q0 q1 q2 q3 q4 q5 q6 q7 (kM_g 8)) H) : va_at E.1 fd_CL (k_adr h t u z hm q0 q1 q2 q3 q4 q5 q6 q7 a b c E.2.2 18, fd_ce (k_E E h t u z hm q0 q1 q2 q3 q4 q5 q6 q7 a b c) k_S0 18) H := k_ai (hP 17 _ rfl) (fun n hn => k_fx 18 n (Nat.lt_trans hn (fd_ln_lt 18)))
theorem k_a19 {E : fd_E} {h t u z hm q0 q1 q2 q3 q4 q5 q6 q7 : Nat} {a b c : Nat → Nat} {H : Heap} (hP : va_P E.1 fd_CL (kL_F E h t u z a b c ++ kL_M E hm q0 q1 q2 q3 q4 q5 q6 q7 (kM_g 8)) H) : va_at E.1 fd_CL (k_adr h t u z hm q0 q1 q2 q3 q4 q5 q6 q7 a b c E.2.2 19, fd_ce (k_E E h t u z hm q0 q1 q2 q3 q4 q5 q6 q7 a b c) k_S0 19) H := k_ai (hP 19 _ rfl) (fun n hn => k_fx 19 n (Nat.lt_trans hn (fd_ln_lt 19)))
theorem k_a20 {E : fd_E} {h t u z hm q0 q1 q2 q3 q4 q5 q6 q7 : Nat} {a b c : Nat → Nat} {H : Heap} (hP : va_P E.1 fd_CL (kL_F E h t u z a b c ++ kL_M E hm q0 q1 q2 q3 q4 q5 q6 q7 (kM_g 8)) H) : va_at E.1 fd_CL (k_adr h t u z hm q0 q1 q2 q3 q4 q5 q6 q7 a b c E.2.2 20, fd_ce (k_E E h t u z hm q0 q1 q2 q3 q4 q5 q6 q7 a b c) k_S0 20) H := k_ai (hP 23 _ rfl) (fun n hn => k_fx 20 n (Nat.lt_trans hn (fd_ln_lt 20)))
theorem k_a21 {E : fd_E} {h t u z hm q0 q1 q2 q3 q4 q5 q6 q7 : Nat} {a b c : Nat → Nat} {H : Heap} (hP : va_P E.1 fd_CL (kL_F E h t u z a b c ++ kL_M E hm q0 q1 q2 q3 q4 q5 q6 q7 (kM_g 8)) H) : va_at E.1 fd_CL (k_adr h t u z hm q0 q1 q2 q3 q4 q5 q6 q7 a b c E.2.2 21, fd_ce (k_E E h t u z hm q0 q1 q2 q3 q4 q5 q6 q7 a b c) k_S0 21) H := k_ai (hP 24 _ rfl) (fun n hn => k_fx 21 n (Nat.lt_trans hn (fd_ln_lt 21)))
theorem k_a22 {E : fd_E} {h t u z hm q0 q1 q2 q3 q4 q5 q6 q7 : Nat} {a b c : Nat → Nat} {H : Heap} (hP : va_P E.1 fd_CL (kL_F E h t u z a b c ++ kL_M E hm q0 q1 q2 q3 q4 q5 q6 q7 (kM_g 8)) H) : va_at E.1 fd_CL (k_adr h t u z hm q0 q1 q2 q3 q4 q5 q6 q7 a b c E.2.2 22, fd_ce (k_E E h t u z hm q0 q1 q2 q3 q4 q5 q6 q7 a b c) k_S0 22) H := k_ai (hP 25 _ rfl) (fun n hn => k_fx 22 n (Nat.lt_trans hn (fd_ln_lt 22)))
theorem k_a23 {E : fd_E} {h t u z hm q0 q1 q2 q3 q4 q5 q6 q7 : Nat} {a b c : Nat → Nat} {H : Heap} (hP : va_P E.1 fd_CL (kL_F E h t u z a b c ++ kL_M E hm q0 q1 q2 q3 q4 q5 q6 q7 (kM_g 8)) H) : va_at E.1 fd_CL (k_adr h t u z hm q0 q1 q2 q3 q4 q5 q6 q7 a b c E.2.2 23, fd_ce (k_E E h t u z hm q0 q1 q2 q3 q4 q5 q6 q7 a b c) k_S0 23) H := hP 26 _ rfl
theorem k_a24 {E : fd_E} {h t u z hm q0 q1 q2 q3 q4 q5 q6 q7 : Nat} {a b c : Nat → Nat} {H : Heap} (hP : va_P E.1 fd_CL (kL_F E h t u z a b c ++ kL_M E hm q0 q1 q2 q3 q4 q5 q6 q7 (kM_g 8)) H) : va_at E.1 fd_CL (k_adr h t u z hm q0 q1 q2 q3 q4 q5 q6 q7 a b c E.2.2 24, fd_ce (k_E E h t u z hm q0 q1 q2 q3 q4 q5 q6 q7 a b c) k_S0 24) H := hP 27 _ rfl
theorem k_a25 {E : fd_E} {h t u z hm q0 q1 q2 q3 q4 q5 q6 q7 : Nat} {a b c : Nat → Nat} {H : Heap} (hP : va_P E.1 fd_CL (kL_F E h t u z a b c ++ kL_M E hm q0 q1 q2 q3 q4 q5 q6 q7 (kM_g 8)) H) : va_at E.1 fd_CL (k_adr h t u z hm q0 q1 q2 q3 q4 q5 q6 q7 a b c E.2.2 25, fd_ce (k_E E h t u z hm q0 q1 q2 q3 q4 q5 q6 q7 a b c) k_S0 25) H := k_ai (hP 28 _ rfl) (fun n hn => k_fx 25 n (Nat.lt_trans hn (fd_ln_lt 25)))
theorem k_a26 {E : fd_E} {h t u z hm q0 q1 q2 q3 q4 q5 q6 q7 : Nat} {a b c : Nat → Nat} {H : Heap} (hP : va_P E.1 fd_CL (kL_F E h t u z a b c ++ kL_M E hm q0 q1 q2 q3 q4 q5 q6 q7 (kM_g 8)) H) : va_at E.1 fd_CL (k_adr h t u z hm q0 q1 q2 q3 q4 q5 q6 q7 a b c E.2.2 26, fd_ce (k_E E h t u z hm q0 q1 q2 q3 q4 q5 q6 q7 a b c) k_S0 26) H := hP 29 _ rfl
theorem k_a27 {E : fd_E} {h t u z hm q0 q1 q2 q3 q4 q5 q6 q7 : Nat} {a b c : Nat → Nat} {H : Heap} (hP : va_P E.1 fd_CL (kL_F E h t u z a b c ++ kL_M E hm q0 q1 q2 q3 q4 q5 q6 q7 (kM_g 8)) H) : va_at E.1 fd_CL (k_adr h t u z hm q0 q1 q2 q3 q4 q5 q6 q7 a b c E.2.2 27, fd_ce (k_E E h t u z hm q0 q1 q2 q3 q4 q5 q6 q7 a b c) k_S0 27) H := by
  refine k_ar (hP 30 _ rfl) (fun n hn => ?_)
  have hn6 : n < 6 := hn
  show some (k_adr h t u z hm q0 q1 q2 q3 q4 q5 q6 q7 a b c E.2.2 (fd_rc 27 (k_S0 27 (fd_ix n)))) = _
  rw [k_r1 n hn6]
  exact (match n, hn6 with
    | 0, _ => rfl
    | 1, _ => rfl
    | 2, _ => rfl
    | 3, _ => rfl
    | 4, _ => rfl
    | 5, _ => rfl
    | n + 6, hn => absurd hn (by omega))
theorem k_a28 {E : fd_E} {h t u z hm q0 q1 q2 q3 q4 q5 q6 q7 : Nat} {a b c : Nat → Nat} {H : Heap} (hP : va_P E.1 fd_CL (kL_F E h t u z a b c ++ kL_M E hm q0 q1 q2 q3 q4 q5 q6 q7 (kM_g 8)) H) : va_at E.1 fd_CL (k_adr h t u z hm q0 q1 q2 q3 q4 q5 q6 q7 a b c E.2.2 28, fd_ce (k_E E h t u z hm q0 q1 q2 q3 q4 q5 q6 q7 a b c) k_S0 28) H := hP 43 _ rfl
theorem k_a29 {E : fd_E} {h t u z hm q0 q1 q2 q3 q4 q5 q6 q7 : Nat} {a b c : Nat → Nat} {H : Heap} (hP : va_P E.1 fd_CL (kL_F E h t u z a b c ++ kL_M E hm q0 q1 q2 q3 q4 q5 q6 q7 (kM_g 8)) H) : va_at E.1 fd_CL (k_adr h t u z hm q0 q1 q2 q3 q4 q5 q6 q7 a b c E.2.2 29, fd_ce (k_E E h t u z hm q0 q1 q2 q3 q4 q5 q6 q7 a b c) k_S0 29) H := k_ai (hP 44 _ rfl) (fun n hn => k_fx 29 n (Nat.lt_trans hn (fd_ln_lt 29)))
theorem k_a30 {E : fd_E} {h t u z hm q0 q1 q2 q3 q4 q5 q6 q7 : Nat} {a b c : Nat → Nat} {H : Heap} (hP : va_P E.1 fd_CL (kL_F E h t u z a b c ++ kL_M E hm q0 q1 q2 q3 q4 q5 q6 q7 (kM_g 8)) H) : va_at E.1 fd_CL (k_adr h t u z hm q0 q1 q2 q3 q4 q5 q6 q7 a b c E.2.2 30, fd_ce (k_E E h t u z hm q0 q1 q2 q3 q4 q5 q6 q7 a b c) k_S0 30) H := k_ai (hP 45 _ rfl) (fun n hn => k_fx 30 n (Nat.lt_trans hn (fd_ln_lt 30)))
theorem k_a31 {E : fd_E} {h t u z hm q0 q1 q2 q3 q4 q5 q6 q7 : Nat} {a b c : Nat → Nat} {H : Heap} (hP : va_P E.1 fd_CL (kL_F E h t u z a b c ++ kL_M E hm q0 q1 q2 q3 q4 q5 q6 q7 (kM_g 8)) H) : va_at E.1 fd_CL (k_adr h t u z hm q0 q1 q2 q3 q4 q5 q6 q7 a b c E.2.2 31, fd_ce (k_E E h t u z hm q0 q1 q2 q3 q4 q5 q6 q7 a b c) k_S0 31) H := hP 31 _ rfl
theorem k_a32 {E : fd_E} {h t u z hm q0 q1 q2 q3 q4 q5 q6 q7 : Nat} {a b c : Nat → Nat} {H : Heap} (hP : va_P E.1 fd_CL (kL_F E h t u z a b c ++ kL_M E hm q0 q1 q2 q3 q4 q5 q6 q7 (kM_g 8)) H) : va_at E.1 fd_CL (k_adr h t u z hm q0 q1 q2 q3 q4 q5 q6 q7 a b c E.2.2 32, fd_ce (k_E E h t u z hm q0 q1 q2 q3 q4 q5 q6 q7 a b c) k_S0 32) H := hP 33 _ rfl
theorem k_a33 {E : fd_E} {h t u z hm q0 q1 q2 q3 q4 q5 q6 q7 : Nat} {a b c : Nat → Nat} {H : Heap} (hP : va_P E.1 fd_CL (kL_F E h t u z a b c ++ kL_M E hm q0 q1 q2 q3 q4 q5 q6 q7 (kM_g 8)) H) : va_at E.1 fd_CL (k_adr h t u z hm q0 q1 q2 q3 q4 q5 q6 q7 a b c E.2.2 33, fd_ce (k_E E h t u z hm q0 q1 q2 q3 q4 q5 q6 q7 a b c) k_S0 33) H := hP 35 _ rfl
theorem k_a34 {E : fd_E} {h t u z hm q0 q1 q2 q3 q4 q5 q6 q7 : Nat} {a b c : Nat → Nat} {H : Heap} (hP : va_P E.1 fd_CL (kL_F E h t u z a b c ++ kL_M E hm q0 q1 q2 q3 q4 q5 q6 q7 (kM_g 8)) H) : va_at E.1 fd_CL (k_adr h t u z hm q0 q1 q2 q3 q4 q5 q6 q7 a b c E.2.2 34, fd_ce (k_E E h t u z hm q0 q1 q2 q3 q4 q5 q6 q7 a b c) k_S0 34) H := hP 37 _ rfl
theorem k_a35 {E : fd_E} {h t u z hm q0 q1 q2 q3 q4 q5 q6 q7 : Nat} {a b c : Nat → Nat} {H : Heap} (hP : va_P E.1 fd_CL (kL_F E h t u z a b c ++ kL_M E hm q0 q1 q2 q3 q4 q5 q6 q7 (kM_g 8)) H) : va_at E.1 fd_CL (k_adr h t u z hm q0 q1 q2 q3 q4 q5 q6 q7 a b c E.2.2 35, fd_ce (k_E E h t u z hm q0 q1 q2 q3 q4 q5 q6 q7 a b c) k_S0 35) H := hP 39 _ rfl
theorem k_a36 {E : fd_E} {h t u z hm q0 q1 q2 q3 q4 q5 q6 q7 : Nat} {a b c : Nat → Nat} {H : Heap} (hP : va_P E.1 fd_CL (kL_F E h t u z a b c ++ kL_M E hm q0 q1 q2 q3 q4 q5 q6 q7 (kM_g 8)) H) : va_at E.1 fd_CL (k_adr h t u z hm q0 q1 q2 q3 q4 q5 q6 q7 a b c E.2.2 36, fd_ce (k_E E h t u z hm q0 q1 q2 q3 q4 q5 q6 q7 a b c) k_S0 36) H := hP 41 _ rfl
theorem k_a37 {E : fd_E} {h t u z hm q0 q1 q2 q3 q4 q5 q6 q7 : Nat} {a b c : Nat → Nat} {H : Heap} (hP : va_P E.1 fd_CL (kL_F E h t u z a b c ++ kL_M E hm q0 q1 q2 q3 q4 q5 q6 q7 (kM_g 8)) H) : va_at E.1 fd_CL (k_adr h t u z hm q0 q1 q2 q3 q4 q5 q6 q7 a b c E.2.2 37, fd_ce (k_E E h t u z hm q0 q1 q2 q3 q4 q5 q6 q7 a b c) k_S0 37) H := k_ai (hP 32 _ rfl) (fun n hn => k_fx 37 n (Nat.lt_trans hn (fd_ln_lt 37)))
theorem k_a38 {E : fd_E} {h t u z hm q0 q1 q2 q3 q4 q5 q6 q7 : Nat} {a b c : Nat → Nat} {H : Heap} (hP : va_P E.1 fd_CL (kL_F E h t u z a b c ++ kL_M E hm q0 q1 q2 q3 q4 q5 q6 q7 (kM_g 8)) H) : va_at E.1 fd_CL (k_adr h t u z hm q0 q1 q2 q3 q4 q5 q6 q7 a b c E.2.2 38, fd_ce (k_E E h t u z hm q0 q1 q2 q3 q4 q5 q6 q7 a b c) k_S0 38) H := k_ai (hP 34 _ rfl) (fun n hn => k_fx 38 n (Nat.lt_trans hn (fd_ln_lt 38)))
theorem k_a39 {E : fd_E} {h t u z hm q0 q1 q2 q3 q4 q5 q6 q7 : Nat} {a b c : Nat → Nat} {H : Heap} (hP : va_P E.1 fd_CL (kL_F E h t u z a b c ++ kL_M E hm q0 q1 q2 q3 q4 q5 q6 q7 (kM_g 8)) H) : va_at E.1 fd_CL (k_adr h t u z hm q0 q1 q2 q3 q4 q5 q6 q7 a b c E.2.2 39, fd_ce (k_E E h t u z hm q0 q1 q2 q3 q4 q5 q6 q7 a b c) k_S0 39) H := k_ai (hP 36 _ rfl) (fun n hn => k_fx 39 n (Nat.lt_trans hn (fd_ln_lt 39)))
theorem k_a40 {E : fd_E} {h t u z hm q0 q1 q2 q3 q4 q5 q6 q7 : Nat} {a b c : Nat → Nat} {H : Heap} (hP : va_P E.1 fd_CL (kL_F E h t u z a b c ++ kL_M E hm q0 q1 q2 q3 q4 q5 q6 q7 (kM_g 8)) H) : va_at E.1 fd_CL (k_adr h t u z hm q0 q1 q2 q3 q4 q5 q6 q7 a b c E.2.2 40, fd_ce (k_E E h t u z hm q0 q1 q2 q3 q4 q5 q6 q7 a b c) k_S0 40) H := k_ai (hP 38 _ rfl) (fun n hn => k_fx 40 n (Nat.lt_trans hn (fd_ln_lt 40)))
theorem k_a41 {E : fd_E} {h t u z hm q0 q1 q2 q3 q4 q5 q6 q7 : Nat} {a b c : Nat → Nat} {H : Heap} (hP : va_P E.1 fd_CL (kL_F E h t u z a b c ++ kL_M E hm q0 q1 q2 q3 q4 q5 q6 q7 (kM_g 8)) H) : va_at E.1 fd_CL (k_adr h t u z hm q0 q1 q2 q3 q4 q5 q6 q7 a b c E.2.2 41, fd_ce (k_E E h t u z hm q0 q1 q2 q3 q4 q5 q6 q7 a b c) k_S0 41) H := k_ai (hP 40 _ rfl) (fun n hn => k_fx 41 n (Nat.lt_trans hn (fd_ln_lt 41)))
theorem k_a42 {E : fd_E} {h t u z hm q0 q1 q2 q3 q4 q5 q6 q7 : Nat} {a b c : Nat → Nat} {H : Heap} (hP : va_P E.1 fd_CL (kL_F E h t u z a b c ++ kL_M E hm q0 q1 q2 q3 q4 q5 q6 q7 (kM_g 8)) H) : va_at E.1 fd_CL (k_adr h t u z hm q0 q1 q2 q3 q4 q5 q6 q7 a b c E.2.2 42, fd_ce (k_E E h t u z hm q0 q1 q2 q3 q4 q5 q6 q7 a b c) k_S0 42) H := k_ai (hP 42 _ rfl) (fun n hn => k_fx 42 n (Nat.lt_trans hn (fd_ln_lt 42)))
theorem k_a43 {E : fd_E} {h t u z hm q0 q1 q2 q3 q4 q5 q6 q7 : Nat} {a b c : Nat → Nat} {H : Heap} (hP : va_P E.1 fd_CL (kL_F E h t u z a b c ++ kL_M E hm q0 q1 q2 q3 q4 q5 q6 q7 (kM_g 8)) H) : va_at E.1 fd_CL (k_adr h t u z hm q0 q1 q2 q3 q4 q5 q6 q7 a b c E.2.2 43, fd_ce (k_E E h t u z hm q0 q1 q2 q3 q4 q5 q6 q7 a b c) k_S0 43) H := k_ai (hP 46 _ rfl) (fun n hn => k_fx 43 n (Nat.lt_trans hn (fd_ln_lt 43)))
theorem k_a44 {E : fd_E} {h t u z hm q0 q1 q2 q3 q4 q5 q6 q7 : Nat} {a b c : Nat → Nat} {H : Heap} (hP : va_P E.1 fd_CL (kL_F E h t u z a b c ++ kL_M E hm q0 q1 q2 q3 q4 q5 q6 q7 (kM_g 8)) H) : va_at E.1 fd_CL (k_adr h t u z hm q0 q1 q2 q3 q4 q5 q6 q7 a b c E.2.2 44, fd_ce (k_E E h t u z hm q0 q1 q2 q3 q4 q5 q6 q7 a b c) k_S0 44) H := k_ai (hP 47 _ rfl) (fun n hn => k_fx 44 n (Nat.lt_trans hn (fd_ln_lt 44)))
theorem k_a45 {E : fd_E} {h t u z hm q0 q1 q2 q3 q4 q5 q6 q7 : Nat} {a b c : Nat → Nat} {H : Heap} (hP : va_P E.1 fd_CL (kL_F E h t u z a b c ++ kL_M E hm q0 q1 q2 q3 q4 q5 q6 q7 (kM_g 8)) H) : va_at E.1 fd_CL (k_adr h t u z hm q0 q1 q2 q3 q4 q5 q6 q7 a b c E.2.2 45, fd_ce (k_E E h t u z hm q0 q1 q2 q3 q4 q5 q6 q7 a b c) k_S0 45) H := k_ai (hP 48 _ rfl) (fun n hn => k_fx 45 n (Nat.lt_trans hn (fd_ln_lt 45)))
theorem k_a46 {E : fd_E} {h t u z hm q0 q1 q2 q3 q4 q5 q6 q7 : Nat} {a b c : Nat → Nat} {H : Heap} (hP : va_P E.1 fd_CL (kL_F E h t u z a b c ++ kL_M E hm q0 q1 q2 q3 q4 q5 q6 q7 (kM_g 8)) H) : va_at E.1 fd_CL (k_adr h t u z hm q0 q1 q2 q3 q4 q5 q6 q7 a b c E.2.2 46, fd_ce (k_E E h t u z hm q0 q1 q2 q3 q4 q5 q6 q7 a b c) k_S0 46) H := hP 49 _ rfl
theorem k_a47 {E : fd_E} {h t u z hm q0 q1 q2 q3 q4 q5 q6 q7 : Nat} {a b c : Nat → Nat} {H : Heap} (hP : va_P E.1 fd_CL (kL_F E h t u z a b c ++ kL_M E hm q0 q1 q2 q3 q4 q5 q6 q7 (kM_g 8)) H) : va_at E.1 fd_CL (k_adr h t u z hm q0 q1 q2 q3 q4 q5 q6 q7 a b c E.2.2 47, fd_ce (k_E E h t u z hm q0 q1 q2 q3 q4 q5 q6 q7 a b c) k_S0 47) H := hP 50 _ rfl
theorem k_a48 {E : fd_E} {h t u z hm q0 q1 q2 q3 q4 q5 q6 q7 : Nat} {a b c : Nat → Nat} {H : Heap} (hP : va_P E.1 fd_CL (kL_F E h t u z a b c ++ kL_M E hm q0 q1 q2 q3 q4 q5 q6 q7 (kM_g 8)) H) : va_at E.1 fd_CL (k_adr h t u z hm q0 q1 q2 q3 q4 q5 q6 q7 a b c E.2.2 48, fd_ce (k_E E h t u z hm q0 q1 q2 q3 q4 q5 q6 q7 a b c) k_S0 48) H := k_ai (hP 51 _ rfl) (fun n hn => k_fx 48 n (Nat.lt_trans hn (fd_ln_lt 48)))
theorem k_a49 {E : fd_E} {h t u z hm q0 q1 q2 q3 q4 q5 q6 q7 : Nat} {a b c : Nat → Nat} {H : Heap} (hP : va_P E.1 fd_CL (kL_F E h t u z a b c ++ kL_M E hm q0 q1 q2 q3 q4 q5 q6 q7 (kM_g 8)) H) : va_at E.1 fd_CL (k_adr h t u z hm q0 q1 q2 q3 q4 q5 q6 q7 a b c E.2.2 49, fd_ce (k_E E h t u z hm q0 q1 q2 q3 q4 q5 q6 q7 a b c) k_S0 49) H := hP 52 _ rfl
theorem k_a50 {E : fd_E} {h t u z hm q0 q1 q2 q3 q4 q5 q6 q7 : Nat} {a b c : Nat → Nat} {H : Heap} (hP : va_P E.1 fd_CL (kL_F E h t u z a b c ++ kL_M E hm q0 q1 q2 q3 q4 q5 q6 q7 (kM_g 8)) H) : va_at E.1 fd_CL (k_adr h t u z hm q0 q1 q2 q3 q4 q5 q6 q7 a b c E.2.2 50, fd_ce (k_E E h t u z hm q0 q1 q2 q3 q4 q5 q6 q7 a b c) k_S0 50) H := by
  refine k_ar (hP 53 _ rfl) (fun n hn => ?_)
  have hn6 : n < 6 := hn
  show some (k_adr h t u z hm q0 q1 q2 q3 q4 q5 q6 q7 a b c E.2.2 (fd_rc 50 (k_S0 50 (fd_ix n)))) = _
  rw [k_r2 n hn6]
  exact (match n, hn6 with
    | 0, _ => rfl
    | 1, _ => rfl
    | 2, _ => rfl
    | 3, _ => rfl
    | 4, _ => rfl
    | 5, _ => rfl
    | n + 6, hn => absurd hn (by omega))
theorem k_a51 {E : fd_E} {h t u z hm q0 q1 q2 q3 q4 q5 q6 q7 : Nat} {a b c : Nat → Nat} {H : Heap} (hP : va_P E.1 fd_CL (kL_F E h t u z a b c ++ kL_M E hm q0 q1 q2 q3 q4 q5 q6 q7 (kM_g 8)) H) : va_at E.1 fd_CL (k_adr h t u z hm q0 q1 q2 q3 q4 q5 q6 q7 a b c E.2.2 51, fd_ce (k_E E h t u z hm q0 q1 q2 q3 q4 q5 q6 q7 a b c) k_S0 51) H := hP 66 _ rfl
theorem k_a52 {E : fd_E} {h t u z hm q0 q1 q2 q3 q4 q5 q6 q7 : Nat} {a b c : Nat → Nat} {H : Heap} (hP : va_P E.1 fd_CL (kL_F E h t u z a b c ++ kL_M E hm q0 q1 q2 q3 q4 q5 q6 q7 (kM_g 8)) H) : va_at E.1 fd_CL (k_adr h t u z hm q0 q1 q2 q3 q4 q5 q6 q7 a b c E.2.2 52, fd_ce (k_E E h t u z hm q0 q1 q2 q3 q4 q5 q6 q7 a b c) k_S0 52) H := k_ai (hP 67 _ rfl) (fun n hn => k_fx 52 n (Nat.lt_trans hn (fd_ln_lt 52)))
theorem k_a53 {E : fd_E} {h t u z hm q0 q1 q2 q3 q4 q5 q6 q7 : Nat} {a b c : Nat → Nat} {H : Heap} (hP : va_P E.1 fd_CL (kL_F E h t u z a b c ++ kL_M E hm q0 q1 q2 q3 q4 q5 q6 q7 (kM_g 8)) H) : va_at E.1 fd_CL (k_adr h t u z hm q0 q1 q2 q3 q4 q5 q6 q7 a b c E.2.2 53, fd_ce (k_E E h t u z hm q0 q1 q2 q3 q4 q5 q6 q7 a b c) k_S0 53) H := k_ai (hP 68 _ rfl) (fun n hn => k_fx 53 n (Nat.lt_trans hn (fd_ln_lt 53)))
theorem k_a54 {E : fd_E} {h t u z hm q0 q1 q2 q3 q4 q5 q6 q7 : Nat} {a b c : Nat → Nat} {H : Heap} (hP : va_P E.1 fd_CL (kL_F E h t u z a b c ++ kL_M E hm q0 q1 q2 q3 q4 q5 q6 q7 (kM_g 8)) H) : va_at E.1 fd_CL (k_adr h t u z hm q0 q1 q2 q3 q4 q5 q6 q7 a b c E.2.2 54, fd_ce (k_E E h t u z hm q0 q1 q2 q3 q4 q5 q6 q7 a b c) k_S0 54) H := hP 54 _ rfl
theorem k_a55 {E : fd_E} {h t u z hm q0 q1 q2 q3 q4 q5 q6 q7 : Nat} {a b c : Nat → Nat} {H : Heap} (hP : va_P E.1 fd_CL (kL_F E h t u z a b c ++ kL_M E hm q0 q1 q2 q3 q4 q5 q6 q7 (kM_g 8)) H) : va_at E.1 fd_CL (k_adr h t u z hm q0 q1 q2 q3 q4 q5 q6 q7 a b c E.2.2 55, fd_ce (k_E E h t u z hm q0 q1 q2 q3 q4 q5 q6 q7 a b c) k_S0 55) H := hP 56 _ rfl
theorem k_a56 {E : fd_E} {h t u z hm q0 q1 q2 q3 q4 q5 q6 q7 : Nat} {a b c : Nat → Nat} {H : Heap} (hP : va_P E.1 fd_CL (kL_F E h t u z a b c ++ kL_M E hm q0 q1 q2 q3 q4 q5 q6 q7 (kM_g 8)) H) : va_at E.1 fd_CL (k_adr h t u z hm q0 q1 q2 q3 q4 q5 q6 q7 a b c E.2.2 56, fd_ce (k_E E h t u z hm q0 q1 q2 q3 q4 q5 q6 q7 a b c) k_S0 56) H := hP 58 _ rfl
theorem k_a57 {E : fd_E} {h t u z hm q0 q1 q2 q3 q4 q5 q6 q7 : Nat} {a b c : Nat → Nat} {H : Heap} (hP : va_P E.1 fd_CL (kL_F E h t u z a b c ++ kL_M E hm q0 q1 q2 q3 q4 q5 q6 q7 (kM_g 8)) H) : va_at E.1 fd_CL (k_adr h t u z hm q0 q1 q2 q3 q4 q5 q6 q7 a b c E.2.2 57, fd_ce (k_E E h t u z hm q0 q1 q2 q3 q4 q5 q6 q7 a b c) k_S0 57) H := hP 60 _ rfl
theorem k_a58 {E : fd_E} {h t u z hm q0 q1 q2 q3 q4 q5 q6 q7 : Nat} {a b c : Nat → Nat} {H : Heap} (hP : va_P E.1 fd_CL (kL_F E h t u z a b c ++ kL_M E hm q0 q1 q2 q3 q4 q5 q6 q7 (kM_g 8)) H) : va_at E.1 fd_CL (k_adr h t u z hm q0 q1 q2 q3 q4 q5 q6 q7 a b c E.2.2 58, fd_ce (k_E E h t u z hm q0 q1 q2 q3 q4 q5 q6 q7 a b c) k_S0 58) H := hP 62 _ rfl
theorem k_a59 {E : fd_E} {h t u z hm q0 q1 q2 q3 q4 q5 q6 q7 : Nat} {a b c : Nat → Nat} {H : Heap} (hP : va_P E.1 fd_CL (kL_F E h t u z a b c ++ kL_M E hm q0 q1 q2 q3 q4 q5 q6 q7 (kM_g 8)) H) : va_at E.1 fd_CL (k_adr h t u z hm q0 q1 q2 q3 q4 q5 q6 q7 a b c E.2.2 59, fd_ce (k_E E h t u z hm q0 q1 q2 q3 q4 q5 q6 q7 a b c) k_S0 59) H := hP 64 _ rfl
theorem k_a60 {E : fd_E} {h t u z hm q0 q1 q2 q3 q4 q5 q6 q7 : Nat} {a b c : Nat → Nat} {H : Heap} (hP : va_P E.1 fd_CL (kL_F E h t u z a b c ++ kL_M E hm q0 q1 q2 q3 q4 q5 q6 q7 (kM_g 8)) H) : va_at E.1 fd_CL (k_adr h t u z hm q0 q1 q2 q3 q4 q5 q6 q7 a b c E.2.2 60, fd_ce (k_E E h t u z hm q0 q1 q2 q3 q4 q5 q6 q7 a b c) k_S0 60) H := k_ai (hP 55 _ rfl) (fun n hn => k_fx 60 n (Nat.lt_trans hn (fd_ln_lt 60)))
theorem k_a61 {E : fd_E} {h t u z hm q0 q1 q2 q3 q4 q5 q6 q7 : Nat} {a b c : Nat → Nat} {H : Heap} (hP : va_P E.1 fd_CL (kL_F E h t u z a b c ++ kL_M E hm q0 q1 q2 q3 q4 q5 q6 q7 (kM_g 8)) H) : va_at E.1 fd_CL (k_adr h t u z hm q0 q1 q2 q3 q4 q5 q6 q7 a b c E.2.2 61, fd_ce (k_E E h t u z hm q0 q1 q2 q3 q4 q5 q6 q7 a b c) k_S0 61) H := k_ai (hP 57 _ rfl) (fun n hn => k_fx 61 n (Nat.lt_trans hn (fd_ln_lt 61)))
theorem k_a62 {E : fd_E} {h t u z hm q0 q1 q2 q3 q4 q5 q6 q7 : Nat} {a b c : Nat → Nat} {H : Heap} (hP : va_P E.1 fd_CL (kL_F E h t u z a b c ++ kL_M E hm q0 q1 q2 q3 q4 q5 q6 q7 (kM_g 8)) H) : va_at E.1 fd_CL (k_adr h t u z hm q0 q1 q2 q3 q4 q5 q6 q7 a b c E.2.2 62, fd_ce (k_E E h t u z hm q0 q1 q2 q3 q4 q5 q6 q7 a b c) k_S0 62) H := k_ai (hP 59 _ rfl) (fun n hn => k_fx 62 n (Nat.lt_trans hn (fd_ln_lt 62)))
theorem k_a63 {E : fd_E} {h t u z hm q0 q1 q2 q3 q4 q5 q6 q7 : Nat} {a b c : Nat → Nat} {H : Heap} (hP : va_P E.1 fd_CL (kL_F E h t u z a b c ++ kL_M E hm q0 q1 q2 q3 q4 q5 q6 q7 (kM_g 8)) H) : va_at E.1 fd_CL (k_adr h t u z hm q0 q1 q2 q3 q4 q5 q6 q7 a b c E.2.2 63, fd_ce (k_E E h t u z hm q0 q1 q2 q3 q4 q5 q6 q7 a b c) k_S0 63) H := k_ai (hP 61 _ rfl) (fun n hn => k_fx 63 n (Nat.lt_trans hn (fd_ln_lt 63)))
theorem k_a64 {E : fd_E} {h t u z hm q0 q1 q2 q3 q4 q5 q6 q7 : Nat} {a b c : Nat → Nat} {H : Heap} (hP : va_P E.1 fd_CL (kL_F E h t u z a b c ++ kL_M E hm q0 q1 q2 q3 q4 q5 q6 q7 (kM_g 8)) H) : va_at E.1 fd_CL (k_adr h t u z hm q0 q1 q2 q3 q4 q5 q6 q7 a b c E.2.2 64, fd_ce (k_E E h t u z hm q0 q1 q2 q3 q4 q5 q6 q7 a b c) k_S0 64) H := k_ai (hP 63 _ rfl) (fun n hn => k_fx 64 n (Nat.lt_trans hn (fd_ln_lt 64)))
theorem k_a65 {E : fd_E} {h t u z hm q0 q1 q2 q3 q4 q5 q6 q7 : Nat} {a b c : Nat → Nat} {H : Heap} (hP : va_P E.1 fd_CL (kL_F E h t u z a b c ++ kL_M E hm q0 q1 q2 q3 q4 q5 q6 q7 (kM_g 8)) H) : va_at E.1 fd_CL (k_adr h t u z hm q0 q1 q2 q3 q4 q5 q6 q7 a b c E.2.2 65, fd_ce (k_E E h t u z hm q0 q1 q2 q3 q4 q5 q6 q7 a b c) k_S0 65) H := k_ai (hP 65 _ rfl) (fun n hn => k_fx 65 n (Nat.lt_trans hn (fd_ln_lt 65)))
theorem k_a66 {E : fd_E} {h t u z hm q0 q1 q2 q3 q4 q5 q6 q7 : Nat} {a b c : Nat → Nat} {H : Heap} (hP : va_P E.1 fd_CL (kL_F E h t u z a b c ++ kL_M E hm q0 q1 q2 q3 q4 q5 q6 q7 (kM_g 8)) H) : va_at E.1 fd_CL (k_adr h t u z hm q0 q1 q2 q3 q4 q5 q6 q7 a b c E.2.2 66, fd_ce (k_E E h t u z hm q0 q1 q2 q3 q4 q5 q6 q7 a b c) k_S0 66) H := k_ai (hP 69 _ rfl) (fun n hn => k_fx 66 n (Nat.lt_trans hn (fd_ln_lt 66)))
theorem k_a67 {E : fd_E} {h t u z hm q0 q1 q2 q3 q4 q5 q6 q7 : Nat} {a b c : Nat → Nat} {H : Heap} (hP : va_P E.1 fd_CL (kL_F E h t u z a b c ++ kL_M E hm q0 q1 q2 q3 q4 q5 q6 q7 (kM_g 8)) H) : va_at E.1 fd_CL (k_adr h t u z hm q0 q1 q2 q3 q4 q5 q6 q7 a b c E.2.2 67, fd_ce (k_E E h t u z hm q0 q1 q2 q3 q4 q5 q6 q7 a b c) k_S0 67) H := k_ai (hP 70 _ rfl) (fun n hn => k_fx 67 n (Nat.lt_trans hn (fd_ln_lt 67)))
theorem k_a68 {E : fd_E} {h t u z hm q0 q1 q2 q3 q4 q5 q6 q7 : Nat} {a b c : Nat → Nat} {H : Heap} (hP : va_P E.1 fd_CL (kL_F E h t u z a b c ++ kL_M E hm q0 q1 q2 q3 q4 q5 q6 q7 (kM_g 8)) H) : va_at E.1 fd_CL (k_adr h t u z hm q0 q1 q2 q3 q4 q5 q6 q7 a b c E.2.2 68, fd_ce (k_E E h t u z hm q0 q1 q2 q3 q4 q5 q6 q7 a b c) k_S0 68) H := k_ai (hP 71 _ rfl) (fun n hn => k_fx 68 n (Nat.lt_trans hn (fd_ln_lt 68)))
theorem k_a69 {E : fd_E} {h t u z hm q0 q1 q2 q3 q4 q5 q6 q7 : Nat} {a b c : Nat → Nat} {H : Heap} (hP : va_P E.1 fd_CL (kL_F E h t u z a b c ++ kL_M E hm q0 q1 q2 q3 q4 q5 q6 q7 (kM_g 8)) H) : va_at E.1 fd_CL (k_adr h t u z hm q0 q1 q2 q3 q4 q5 q6 q7 a b c E.2.2 69, fd_ce (k_E E h t u z hm q0 q1 q2 q3 q4 q5 q6 q7 a b c) k_S0 69) H := hP 0 _ rfl
theorem k_a70 {E : fd_E} {h t u z hm q0 q1 q2 q3 q4 q5 q6 q7 : Nat} {a b c : Nat → Nat} {H : Heap} (hP : va_P E.1 fd_CL (kL_F E h t u z a b c ++ kL_M E hm q0 q1 q2 q3 q4 q5 q6 q7 (kM_g 8)) H) : va_at E.1 fd_CL (k_adr h t u z hm q0 q1 q2 q3 q4 q5 q6 q7 a b c E.2.2 70, fd_ce (k_E E h t u z hm q0 q1 q2 q3 q4 q5 q6 q7 a b c) k_S0 70) H := k_ai (hP 72 _ rfl) (fun n hn => k_fx 70 n (Nat.lt_trans hn (fd_ln_lt 70)))
theorem k_a71 {E : fd_E} {h t u z hm q0 q1 q2 q3 q4 q5 q6 q7 : Nat} {a b c : Nat → Nat} {H : Heap} (hP : va_P E.1 fd_CL (kL_F E h t u z a b c ++ kL_M E hm q0 q1 q2 q3 q4 q5 q6 q7 (kM_g 8)) H) : va_at E.1 fd_CL (k_adr h t u z hm q0 q1 q2 q3 q4 q5 q6 q7 a b c E.2.2 71, fd_ce (k_E E h t u z hm q0 q1 q2 q3 q4 q5 q6 q7 a b c) k_S0 71) H := hP 1 _ rfl
theorem k_a72 {E : fd_E} {h t u z hm q0 q1 q2 q3 q4 q5 q6 q7 : Nat} {a b c : Nat → Nat} {H : Heap} (hP : va_P E.1 fd_CL (kL_F E h t u z a b c ++ kL_M E hm q0 q1 q2 q3 q4 q5 q6 q7 (kM_g 8)) H) : va_at E.1 fd_CL (k_adr h t u z hm q0 q1 q2 q3 q4 q5 q6 q7 a b c E.2.2 72, fd_ce (k_E E h t u z hm q0 q1 q2 q3 q4 q5 q6 q7 a b c) k_S0 72) H := k_ai (hP 2 _ rfl) (fun n hn => k_fx 72 n (Nat.lt_trans hn (fd_ln_lt 72)))
theorem k_a73 {E : fd_E} {h t u z hm q0 q1 q2 q3 q4 q5 q6 q7 : Nat} {a b c : Nat → Nat} {H : Heap} (hP : va_P E.1 fd_CL (kL_F E h t u z a b c ++ kL_M E hm q0 q1 q2 q3 q4 q5 q6 q7 (kM_g 8)) H) : va_at E.1 fd_CL (k_adr h t u z hm q0 q1 q2 q3 q4 q5 q6 q7 a b c E.2.2 73, fd_ce (k_E E h t u z hm q0 q1 q2 q3 q4 q5 q6 q7 a b c) k_S0 73) H := hP 73 _ rfl
theorem k_a74 {E : fd_E} {h t u z hm q0 q1 q2 q3 q4 q5 q6 q7 : Nat} {a b c : Nat → Nat} {H : Heap} (hP : va_P E.1 fd_CL (kL_F E h t u z a b c ++ kL_M E hm q0 q1 q2 q3 q4 q5 q6 q7 (kM_g 8)) H) : va_at E.1 fd_CL (k_adr h t u z hm q0 q1 q2 q3 q4 q5 q6 q7 a b c E.2.2 74, fd_ce (k_E E h t u z hm q0 q1 q2 q3 q4 q5 q6 q7 a b c) k_S0 74) H := k_ai (hP 74 _ rfl) (fun n hn => k_fx 74 n (Nat.lt_trans hn (fd_ln_lt 74)))
theorem k_a75 {E : fd_E} {h t u z hm q0 q1 q2 q3 q4 q5 q6 q7 : Nat} {a b c : Nat → Nat} {H : Heap} (hP : va_P E.1 fd_CL (kL_F E h t u z a b c ++ kL_M E hm q0 q1 q2 q3 q4 q5 q6 q7 (kM_g 8)) H) : va_at E.1 fd_CL (k_adr h t u z hm q0 q1 q2 q3 q4 q5 q6 q7 a b c E.2.2 75, fd_ce (k_E E h t u z hm q0 q1 q2 q3 q4 q5 q6 q7 a b c) k_S0 75) H := k_ai (hP 75 _ rfl) (fun n hn => k_fx 75 n (Nat.lt_trans hn (fd_ln_lt 75)))
theorem k_a76 {E : fd_E} {h t u z hm q0 q1 q2 q3 q4 q5 q6 q7 : Nat} {a b c : Nat → Nat} {H : Heap} (hP : va_P E.1 fd_CL (kL_F E h t u z a b c ++ kL_M E hm q0 q1 q2 q3 q4 q5 q6 q7 (kM_g 8)) H) : va_at E.1 fd_CL (k_adr h t u z hm q0 q1 q2 q3 q4 q5 q6 q7 a b c E.2.2 76, fd_ce (k_E E h t u z hm q0 q1 q2 q3 q4 q5 q6 q7 a b c) k_S0 76) H := k_ai (hP 76 _ rfl) (fun n hn => k_fx 76 n (Nat.lt_trans hn (fd_ln_lt 76)))
theorem k_a77 {E : fd_E} {h t u z hm q0 q1 q2 q3 q4 q5 q6 q7 : Nat} {a b c : Nat → Nat} {H : Heap} (hP : va_P E.1 fd_CL (kL_F E h t u z a b c ++ kL_M E hm q0 q1 q2 q3 q4 q5 q6 q7 (kM_g 8)) H) : va_at E.1 fd_CL (k_adr h t u z hm q0 q1 q2 q3 q4 q5 q6 q7 a b c E.2.2 77, fd_ce (k_E E h t u z hm q0 q1 q2 q3 q4 q5 q6 q7 a b c) k_S0 77) H := k_ai (hP 77 _ rfl) (fun n hn => k_fx 77 n (Nat.lt_trans hn (fd_ln_lt 77)))
theorem k_a78 {E : fd_E} {h t u z hm q0 q1 q2 q3 q4 q5 q6 q7 : Nat} {a b c : Nat → Nat} {H : Heap} (hP : va_P E.1 fd_CL (kL_F E h t u z a b c ++ kL_M E hm q0 q1 q2 q3 q4 q5 q6 q7 (kM_g 8)) H) : va_at E.1 fd_CL (k_adr h t u z hm q0 q1 q2 q3 q4 q5 q6 q7 a b c E.2.2 78, fd_ce (k_E E h t u z hm q0 q1 q2 q3 q4 q5 q6 q7 a b c) k_S0 78) H := k_ai (hP 78 _ rfl) (fun n hn => k_fx 78 n (Nat.lt_trans hn (fd_ln_lt 78)))
theorem k_a79 {E : fd_E} {h t u z hm q0 q1 q2 q3 q4 q5 q6 q7 : Nat} {a b c : Nat → Nat} {H : Heap} (hP : va_P E.1 fd_CL (kL_F E h t u z a b c ++ kL_M E hm q0 q1 q2 q3 q4 q5 q6 q7 (kM_g 8)) H) : va_at E.1 fd_CL (k_adr h t u z hm q0 q1 q2 q3 q4 q5 q6 q7 a b c E.2.2 79, fd_ce (k_E E h t u z hm q0 q1 q2 q3 q4 q5 q6 q7 a b c) k_S0 79) H := k_ai (hP 79 _ rfl) (fun n hn => k_fx 79 n (Nat.lt_trans hn (fd_ln_lt 79)))
theorem k_a80 {E : fd_E} {h t u z hm q0 q1 q2 q3 q4 q5 q6 q7 : Nat} {a b c : Nat → Nat} {H : Heap} (hP : va_P E.1 fd_CL (kL_F E h t u z a b c ++ kL_M E hm q0 q1 q2 q3 q4 q5 q6 q7 (kM_g 8)) H) : va_at E.1 fd_CL (k_adr h t u z hm q0 q1 q2 q3 q4 q5 q6 q7 a b c E.2.2 80, fd_ce (k_E E h t u z hm q0 q1 q2 q3 q4 q5 q6 q7 a b c) k_S0 80) H := k_ai (hP 80 _ rfl) (fun n hn => k_fx 80 n (Nat.lt_trans hn (fd_ln_lt 80)))
theorem k_a81 {E : fd_E} {h t u z hm q0 q1 q2 q3 q4 q5 q6 q7 : Nat} {a b c : Nat → Nat} {H : Heap} (hP : va_P E.1 fd_CL (kL_F E h t u z a b c ++ kL_M E hm q0 q1 q2 q3 q4 q5 q6 q7 (kM_g 8)) H) : va_at E.1 fd_CL (k_adr h t u z hm q0 q1 q2 q3 q4 q5 q6 q7 a b c E.2.2 81, fd_ce (k_E E h t u z hm q0 q1 q2 q3 q4 q5 q6 q7 a b c) k_S0 81) H := k_ai (hP 81 _ rfl) (fun n hn => k_fx 81 n (Nat.lt_trans hn (fd_ln_lt 81)))
set_option maxRecDepth 100000 in
set_option maxHeartbeats 4000000 in
theorem k_pl {E : fd_E} {h t u z hm q0 q1 q2 q3 q4 q5 q6 q7 : Nat} {a b c : Nat → Nat} : ∀ k : Nat, k < 82 → ∃ e : va_E, (kL_F E h t u z a b c ++ kL_M E hm q0 q1 q2 q3 q4 q5 q6 q7 (kM_g 8))[k_pi.getD k 0]? = some (k_adr h t u z hm q0 q1 q2 q3 q4 q5 q6 q7 a b c E.2.2 k, e) := by
  intro k hk
  match k, hk with
  | 0, _ => exact k_p0
  | 1, _ => exact k_p1
  | 2, _ => exact k_p2
  | 3, _ => exact k_p3
  | 4, _ => exact k_p4
  | 5, _ => exact k_p5
  | 6, _ => exact k_p6
  | 7, _ => exact k_p7
  | 8, _ => exact k_p8
  | 9, _ => exact k_p9
  | 10, _ => exact k_p10
  | 11, _ => exact k_p11
  | 12, _ => exact k_p12
  | 13, _ => exact k_p13
  | 14, _ => exact k_p14
  | 15, _ => exact k_p15
  | 16, _ => exact k_p16
  | 17, _ => exact k_p17
  | 18, _ => exact k_p18
  | 19, _ => exact k_p19
  | 20, _ => exact k_p20
  | 21, _ => exact k_p21
  | 22, _ => exact k_p22
  | 23, _ => exact k_p23
  | 24, _ => exact k_p24
  | 25, _ => exact k_p25
  | 26, _ => exact k_p26
  | 27, _ => exact k_p27
  | 28, _ => exact k_p28
  | 29, _ => exact k_p29
  | 30, _ => exact k_p30
  | 31, _ => exact k_p31
  | 32, _ => exact k_p32
  | 33, _ => exact k_p33
  | 34, _ => exact k_p34
  | 35, _ => exact k_p35
  | 36, _ => exact k_p36
  | 37, _ => exact k_p37
  | 38, _ => exact k_p38
  | 39, _ => exact k_p39
  | 40, _ => exact k_p40
  | 41, _ => exact k_p41
  | 42, _ => exact k_p42
  | 43, _ => exact k_p43
  | 44, _ => exact k_p44
  | 45, _ => exact k_p45
  | 46, _ => exact k_p46
  | 47, _ => exact k_p47
  | 48, _ => exact k_p48
  | 49, _ => exact k_p49
  | 50, _ => exact k_p50
  | 51, _ => exact k_p51
  | 52, _ => exact k_p52
  | 53, _ => exact k_p53
  | 54, _ => exact k_p54
  | 55, _ => exact k_p55
  | 56, _ => exact k_p56
  | 57, _ => exact k_p57
  | 58, _ => exact k_p58
  | 59, _ => exact k_p59
  | 60, _ => exact k_p60
  | 61, _ => exact k_p61
  | 62, _ => exact k_p62
  | 63, _ => exact k_p63
  | 64, _ => exact k_p64
  | 65, _ => exact k_p65
  | 66, _ => exact k_p66
  | 67, _ => exact k_p67
  | 68, _ => exact k_p68
  | 69, _ => exact k_p69
  | 70, _ => exact k_p70
  | 71, _ => exact k_p71
  | 72, _ => exact k_p72
  | 73, _ => exact k_p73
  | 74, _ => exact k_p74
  | 75, _ => exact k_p75
  | 76, _ => exact k_p76
  | 77, _ => exact k_p77
  | 78, _ => exact k_p78
  | 79, _ => exact k_p79
  | 80, _ => exact k_p80
  | 81, _ => exact k_p81
  | k + 82, hk => exact absurd hk (by omega)
set_option maxRecDepth 100000 in
set_option maxHeartbeats 4000000 in
theorem k_al {E : fd_E} {h t u z hm q0 q1 q2 q3 q4 q5 q6 q7 : Nat} {a b c : Nat → Nat} {H : Heap} (hP : va_P E.1 fd_CL (kL_F E h t u z a b c ++ kL_M E hm q0 q1 q2 q3 q4 q5 q6 q7 (kM_g 8)) H) : ∀ k : Nat, k < 82 → va_at E.1 fd_CL (k_adr h t u z hm q0 q1 q2 q3 q4 q5 q6 q7 a b c E.2.2 k, fd_ce (k_E E h t u z hm q0 q1 q2 q3 q4 q5 q6 q7 a b c) k_S0 k) H := by
  intro k hk
  match k, hk with
  | 0, _ => exact k_a0 hP
  | 1, _ => exact k_a1 hP
  | 2, _ => exact k_a2 hP
  | 3, _ => exact k_a3 hP
  | 4, _ => exact k_a4 hP
  | 5, _ => exact k_a5 hP
  | 6, _ => exact k_a6 hP
  | 7, _ => exact k_a7 hP
  | 8, _ => exact k_a8 hP
  | 9, _ => exact k_a9 hP
  | 10, _ => exact k_a10 hP
  | 11, _ => exact k_a11 hP
  | 12, _ => exact k_a12 hP
  | 13, _ => exact k_a13 hP
  | 14, _ => exact k_a14 hP
  | 15, _ => exact k_a15 hP
  | 16, _ => exact k_a16 hP
  | 17, _ => exact k_a17 hP
  | 18, _ => exact k_a18 hP
  | 19, _ => exact k_a19 hP
  | 20, _ => exact k_a20 hP
  | 21, _ => exact k_a21 hP
  | 22, _ => exact k_a22 hP
  | 23, _ => exact k_a23 hP
  | 24, _ => exact k_a24 hP
  | 25, _ => exact k_a25 hP
  | 26, _ => exact k_a26 hP
  | 27, _ => exact k_a27 hP
  | 28, _ => exact k_a28 hP
  | 29, _ => exact k_a29 hP
  | 30, _ => exact k_a30 hP
  | 31, _ => exact k_a31 hP
  | 32, _ => exact k_a32 hP
  | 33, _ => exact k_a33 hP
  | 34, _ => exact k_a34 hP
  | 35, _ => exact k_a35 hP
  | 36, _ => exact k_a36 hP
  | 37, _ => exact k_a37 hP
  | 38, _ => exact k_a38 hP
  | 39, _ => exact k_a39 hP
  | 40, _ => exact k_a40 hP
  | 41, _ => exact k_a41 hP
  | 42, _ => exact k_a42 hP
  | 43, _ => exact k_a43 hP
  | 44, _ => exact k_a44 hP
  | 45, _ => exact k_a45 hP
  | 46, _ => exact k_a46 hP
  | 47, _ => exact k_a47 hP
  | 48, _ => exact k_a48 hP
  | 49, _ => exact k_a49 hP
  | 50, _ => exact k_a50 hP
  | 51, _ => exact k_a51 hP
  | 52, _ => exact k_a52 hP
  | 53, _ => exact k_a53 hP
  | 54, _ => exact k_a54 hP
  | 55, _ => exact k_a55 hP
  | 56, _ => exact k_a56 hP
  | 57, _ => exact k_a57 hP
  | 58, _ => exact k_a58 hP
  | 59, _ => exact k_a59 hP
  | 60, _ => exact k_a60 hP
  | 61, _ => exact k_a61 hP
  | 62, _ => exact k_a62 hP
  | 63, _ => exact k_a63 hP
  | 64, _ => exact k_a64 hP
  | 65, _ => exact k_a65 hP
  | 66, _ => exact k_a66 hP
  | 67, _ => exact k_a67 hP
  | 68, _ => exact k_a68 hP
  | 69, _ => exact k_a69 hP
  | 70, _ => exact k_a70 hP
  | 71, _ => exact k_a71 hP
  | 72, _ => exact k_a72 hP
  | 73, _ => exact k_a73 hP
  | 74, _ => exact k_a74 hP
  | 75, _ => exact k_a75 hP
  | 76, _ => exact k_a76 hP
  | 77, _ => exact k_a77 hP
  | 78, _ => exact k_a78 hP
  | 79, _ => exact k_a79 hP
  | 80, _ => exact k_a80 hP
  | 81, _ => exact k_a81 hP
  | k + 82, hk => exact absurd hk (by omega)
theorem k_pind : va_nd k_pi = true := by decide +kernel
theorem k_asmP {E : fd_E} {h t u z hm q0 q1 q2 q3 q4 q5 q6 q7 : Nat} {a b c : Nat → Nat} {H : Heap} (hP : va_P E.1 fd_CL (kL_F E h t u z a b c ++ kL_M E hm q0 q1 q2 q3 q4 q5 q6 q7 (kM_g 8)) H) : va_P E.1 fd_CL (fd_ws (k_E E h t u z hm q0 q1 q2 q3 q4 q5 q6 q7 a b c) k_S0) H := by
  intro k q hq
  have hk : k < 82 := by
    have := (List.getElem?_eq_some_iff.mp hq).1
    simpa [fd_ws] using this
  rw [fd_ws_at _ _ hk rfl] at hq
  cases hq
  exact k_al hP k hk
theorem k_asmD {E : fd_E} {h t u z hm q0 q1 q2 q3 q4 q5 q6 q7 : Nat} {a b c : Nat → Nat} {A : Nat → Prop} (hD : va_D A (kL_F E h t u z a b c ++ kL_M E hm q0 q1 q2 q3 q4 q5 q6 q7 (kM_g 8))) : va_D (fd_A (k_E E h t u z hm q0 q1 q2 q3 q4 q5 q6 q7 a b c)) (fd_ws (k_E E h t u z hm q0 q1 q2 q3 q4 q5 q6 q7 a b c) k_S0) ∧ ∀ q : Nat, fd_A (k_E E h t u z hm q0 q1 q2 q3 q4 q5 q6 q7 a b c) q → A q := by
  have hat : ∀ (k : Nat) (q : Nat × va_E), (fd_ws (k_E E h t u z hm q0 q1 q2 q3 q4 q5 q6 q7 a b c) k_S0)[k]? = some q → k < 82 ∧ q.1 = k_adr h t u z hm q0 q1 q2 q3 q4 q5 q6 q7 a b c E.2.2 k := by
    intro k q hq
    have hk : k < 82 := by
      have := (List.getElem?_eq_some_iff.mp hq).1
      simpa [fd_ws] using this
    rw [fd_ws_at _ _ hk rfl] at hq
    cases hq
    exact ⟨hk, rfl⟩
  refine ⟨⟨fun i j p q hp hq e => ?_, fun k q hq => ⟨k, (hat k q hq).1, (hat k q hq).2⟩⟩, fun q hq => ?_⟩
  · obtain ⟨hi, ei⟩ := hat i p hp
    obtain ⟨hj, ej⟩ := hat j q hq
    obtain ⟨e1, h1⟩ := k_pl (E := E) (h := h) (t := t) (u := u) (z := z) (hm := hm) (q0 := q0) (q1 := q1) (q2 := q2) (q3 := q3) (q4 := q4) (q5 := q5) (q6 := q6) (q7 := q7) (a := a) (b := b) (c := c) i hi
    obtain ⟨e2, h2⟩ := k_pl (E := E) (h := h) (t := t) (u := u) (z := z) (hm := hm) (q0 := q0) (q1 := q1) (q2 := q2) (q3 := q3) (q4 := q4) (q5 := q5) (q6 := q6) (q7 := q7) (a := a) (b := b) (c := c) j hj
    have hpi := hD.1 _ _ _ _ h1 h2 (by rw [← ei, ← ej]; exact e)
    have gi : k_pi[i]? = some (k_pi.getD i 0) := by
      rw [List.getD_eq_getElem?_getD]
      have : i < k_pi.length := hi
      rw [List.getElem?_eq_getElem this]
      rfl
    have gj : k_pi[j]? = some (k_pi.getD j 0) := by
      rw [List.getD_eq_getElem?_getD]
      have : j < k_pi.length := hj
      rw [List.getElem?_eq_getElem this]
      rfl
    exact va_nd_inj k_pi k_pind i j _ gi (by rw [hpi]; exact gj)
  · obtain ⟨k, hk, rfl⟩ := hq
    obtain ⟨e1, h1⟩ := k_pl (E := E) (h := h) (t := t) (u := u) (z := z) (hm := hm) (q0 := q0) (q1 := q1) (q2 := q2) (q3 := q3) (q4 := q4) (q5 := q5) (q6 := q6) (q7 := q7) (a := a) (b := b) (c := c) k hk
    exact hD.2 _ _ h1
