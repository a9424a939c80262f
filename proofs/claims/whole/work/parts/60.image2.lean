/-! ===== a whole State's copy; the reference's images ===== -/
theorem m_rows_c {S T : fd_S} (h : m_rows S) (e : T 4 = S 4) : m_rows T := by
  unfold m_rows
  rw [e]
  exact h
theorem m_cf_c {A A' B B' : fd_S} {i : Int32} (h : m_cf A B i) (a4 : A' 4 = A 4) (ra : 8 ≤ m_rw A i ∧ m_rw A i < 14) (ha : ∀ k : Nat, 8 ≤ k → k < 20 → A' k = A k) (b4 : B' 4 = B 4) (rb : 8 ≤ m_rw B i ∧ m_rw B i < 14) (hb : ∀ k : Nat, 8 ≤ k → k < 20 → B' k = B k) : m_cf A' B' i := by
  have ea : m_rw A' i = m_rw A i := by unfold m_rw; rw [a4]
  have eb : m_rw B' i = m_rw B i := by unfold m_rw; rw [b4]
  unfold m_cf m_cV m_cK at h ⊢
  rw [ea, eb, ha (m_rw A i) (by omega) (by omega), ha (m_rw A i + 6) (by omega) (by omega), hb (m_rw B i) (by omega) (by omega), hb (m_rw B i + 6) (by omega) (by omega)]
  exact h
theorem m_copy {fu : Nat} {S : fd_S} {u v : Nat} (hfu : 10000 ≤ fu) (hu : fd_st u) (hv : fd_st v) (huv : u ≠ v) (hH : fd_h S) (ru : m_rows (m_vw S u)) (rv : m_rows (m_vw S v)) :
    ∃ T, zS_copyFrom fu S u v = some T ∧ m_rows (m_vw T u) ∧ m_Cp (m_vw T u) (m_vw S v) ∧ ∀ k : Nat, ¬ (u ≤ k ∧ k < u + 23) → T k = S k := by
  have hd := (m_stne hu hv huv).2
  unfold zS_copyFrom zB_copyFrom zL_copyFrom zQ_copyFrom
  simp only [fd_lt, Option.bind_some]
  obtain ⟨S1, e1⟩ : ∃ x, x = fd_cp S (v + 2) (u + 2) 0 0 7 := ⟨_, rfl⟩
  rw [← e1]
  have s1 : ∀ k : Nat, k ≠ u + 2 → S1 k = S k := fun k h => by rw [e1, fd_cp_ne h]
  have s1b : ∀ j : Int32, 0 ≤ j → j < 7 → S1 (u + 2) j = S (v + 2) j := fun j j0 j1 => by rw [e1, fd_cp_0 j0 j1]
  have hH1 : fd_h S1 := fun k hk => by rw [s1 k (fun z => by rw [z, fd_st2 hu 2 (by decide) (ci := 8) rfl] at hk; cases hk)]; exact hH k hk
  have ru1 : m_rows (m_vw S1 u) := m_rows_c ru (by show S1 (u + 4) = S (u + 4); exact s1 _ (by omega))
  have rv1 : m_rows (m_vw S1 v) := m_rows_c rv (by show S1 (v + 4) = S (v + 4); exact s1 _ (by omega))
  obtain ⟨S3, q1, qH, qF, q3, qR⟩ := m_cpQ (fu := fu) (S := S1) hu hv huv ru1 rv1 fu S1 0 (m_ms_fu (by decide) (by decide) hfu) (by decide) (by decide) hH1 (fun _ _ => rfl) (fun i i0 i1 => absurd i1 (Int32.not_lt.mpr i0))
  rw [q1, Option.bind_some]
  have s3 : ∀ k : Nat, ¬ (u + 8 ≤ k ∧ k < u + 20) → k ≠ u + 3 → k ≠ u + 2 → S3 k = S k := fun k h1 h2 h3 => by rw [qF k h1 h2, s1 k h3]
  obtain ⟨S4, e4⟩ : ∃ x, x = fd_cp S3 (v + 6) (u + 6) 0 0 120 := ⟨_, rfl⟩
  rw [← e4]
  have f4 : ∀ k : Nat, k ≠ u + 6 → S4 k = S3 k := fun k h => by rw [e4, fd_cp_ne h]
  have g4 : ∀ j : Int32, 0 ≤ j → j < 120 → S4 (u + 6) j = S3 (v + 6) j := fun j j0 j1 => by rw [e4, fd_cp_0 j0 j1]
  obtain ⟨S5, e5⟩ : ∃ x, x = fd_cp S4 (v + 7) (u + 7) 0 0 6 := ⟨_, rfl⟩
  rw [← e5]
  have f5 : ∀ k : Nat, k ≠ u + 7 → S5 k = S4 k := fun k h => by rw [e5, fd_cp_ne h]
  have g5 : ∀ j : Int32, 0 ≤ j → j < 6 → S5 (u + 7) j = S4 (v + 7) j := fun j j0 j1 => by rw [e5, fd_cp_0 j0 j1]
  obtain ⟨S6, e6⟩ : ∃ x, x = fd_up S5 (u + 5) 2 (S5 (v + 5) 2) := ⟨_, rfl⟩
  rw [← e6]
  have f6 : ∀ k : Nat, k ≠ u + 5 → S6 k = S5 k := fun k h => by rw [e6, fd_up_ne h]
  have g6 : S6 (u + 5) 2 = S5 (v + 5) 2 := by rw [e6, fd_up_at, if_pos rfl]
  obtain ⟨S7, e7⟩ : ∃ x, x = fd_up S6 (u + 5) 3 (S6 (v + 5) 3) := ⟨_, rfl⟩
  rw [← e7]
  have f7 : ∀ k : Nat, k ≠ u + 5 → S7 k = S6 k := fun k h => by rw [e7, fd_up_ne h]
  have g7 : S7 (u + 5) 2 = S6 (u + 5) 2 ∧ S7 (u + 5) 3 = S6 (v + 5) 3 := ⟨by rw [e7, fd_up_at, if_neg (by decide)], by rw [e7, fd_up_at, if_pos rfl]⟩
  obtain ⟨S8, e8⟩ : ∃ x, x = fd_cp S7 (v + 20) (u + 20) 0 0 32 := ⟨_, rfl⟩
  rw [← e8]
  have f8 : ∀ k : Nat, k ≠ u + 20 → S8 k = S7 k := fun k h => by rw [e8, fd_cp_ne h]
  have g8 : ∀ j : Int32, 0 ≤ j → j < 32 → S8 (u + 20) j = S7 (v + 20) j := fun j j0 j1 => by rw [e8, fd_cp_0 j0 j1]
  obtain ⟨S9, e9⟩ : ∃ x, x = fd_cp S8 (v + 21) (u + 21) 0 0 8 := ⟨_, rfl⟩
  rw [← e9]
  have f9 : ∀ k : Nat, k ≠ u + 21 → S9 k = S8 k := fun k h => by rw [e9, fd_cp_ne h]
  have g9 : ∀ j : Int32, 0 ≤ j → j < 8 → S9 (u + 21) j = S8 (v + 21) j := fun j j0 j1 => by rw [e9, fd_cp_0 j0 j1]
  obtain ⟨SA, eA⟩ : ∃ x, x = fd_cp S9 (v + 22) (u + 22) 0 0 8 := ⟨_, rfl⟩
  rw [← eA]
  have fA : ∀ k : Nat, k ≠ u + 22 → SA k = S9 k := fun k h => by rw [eA, fd_cp_ne h]
  have gA : ∀ j : Int32, 0 ≤ j → j < 8 → SA (u + 22) j = S9 (v + 22) j := fun j j0 j1 => by rw [eA, fd_cp_0 j0 j1]
  have n0 : v ≠ u := Ne.symm huv
  simp only [fd_up_ne n0]
  obtain ⟨T, eT⟩ : ∃ x, x = fd_up (fd_up (fd_up (fd_up (fd_up SA u 6 (SA v 6)) u 7 (SA v 7)) u 8 (SA v 8)) u 9 (SA v 9)) u 10 (SA v 10) := ⟨_, rfl⟩
  rw [← eT]
  have fT : ∀ k : Nat, k ≠ u → T k = SA k := fun k h => by rw [eT, fd_up_ne h, fd_up_ne h, fd_up_ne h, fd_up_ne h, fd_up_ne h]
  have gT : ∀ f : Int32, T u f = if f = 10 then SA v 10 else if f = 9 then SA v 9 else if f = 8 then SA v 8 else if f = 7 then SA v 7 else if f = 6 then SA v 6 else SA u f := fun f => by rw [eT, fd_up_at, fd_up_at, fd_up_at, fd_up_at, fd_up_at]
  clear e1 e4 e5 e6 e7 e8 e9 eA eT
  have hv0 : SA v = S v := by rw [fA _ (by omega), f9 _ (by omega), f8 _ (by omega), f7 _ (by omega), f6 _ (by omega), f5 _ (by omega), f4 _ (by omega), s3 _ (by omega) (by omega) (by omega)]
  have fr : ∀ k : Nat, k ≠ u → k ≠ u + 5 → k ≠ u + 6 → k ≠ u + 7 → k ≠ u + 20 → k ≠ u + 21 → k ≠ u + 22 → T k = S3 k := fun k h0 h5 h6 h7 h20 h21 h22 => by rw [fT k h0, fA k h22, f9 k h21, f8 k h20, f7 k h5, f6 k h5, f5 k h7, f4 k h6]
  refine ⟨T, rfl, ?_, ⟨?_, ?_, ⟨?_, ?_⟩, ⟨?_, ?_, ?_, ?_⟩, ⟨?_, ?_, ?_⟩, ⟨?_, ?_, ?_, ?_, ?_⟩⟩, ?_⟩
  · refine m_rows_c ru ?_
    show T (u + 4) = S (u + 4)
    rw [fr _ (by omega) (by omega) (by omega) (by omega) (by omega) (by omega) (by omega), s3 _ (by omega) (by omega) (by omega)]
  · intro i i0 i1
    show T (u + 2) i = S (v + 2) i
    rw [fr _ (by omega) (by omega) (by omega) (by omega) (by omega) (by omega) (by omega), qF _ (by omega) (by omega), s1b i i0 i1]
  · intro i i0 i6
    refine m_cf_c (qR i i0 i6) ?_ ?_ ?_ ?_ (rv1.rg i0 i6) ?_
    · show T (u + 4) = S3 (u + 4)
      exact fr _ (by omega) (by omega) (by omega) (by omega) (by omega) (by omega) (by omega)
    · have : m_rw (m_vw S3 u) i = m_rw (m_vw S1 u) i := by
        unfold m_rw m_vw
        rw [qF _ (by omega) (by omega)]
      rw [this]
      exact ru1.rg i0 i6
    · intro k h1 h2
      show T (u + k) = S3 (u + k)
      exact fr _ (by omega) (by omega) (by omega) (by omega) (by omega) (by omega) (by omega)
    · show S (v + 4) = S1 (v + 4)
      rw [s1 _ (by omega)]
    · intro k h1 h2
      show S (v + k) = S1 (v + k)
      rw [s1 _ (by omega)]
  · show T (u + 3) 1 = S (v + 3) 1
    rw [fr _ (by omega) (by omega) (by omega) (by omega) (by omega) (by omega) (by omega), q3.1, s1 _ (by omega)]
  · show T (u + 3) 2 = S (v + 3) 2
    rw [fr _ (by omega) (by omega) (by omega) (by omega) (by omega) (by omega) (by omega), q3.2, s1 _ (by omega)]
  · intro j j0 j1
    show T (u + 6) j = S (v + 6) j
    rw [fT _ (by omega), fA _ (by omega), f9 _ (by omega), f8 _ (by omega), f7 _ (by omega), f6 _ (by omega), f5 _ (by omega), g4 j j0 j1, s3 _ (by omega) (by omega) (by omega)]
  · intro j j0 j1
    show T (u + 7) j = S (v + 7) j
    rw [fT _ (by omega), fA _ (by omega), f9 _ (by omega), f8 _ (by omega), f7 _ (by omega), f6 _ (by omega), g5 j j0 j1, f4 _ (by omega), s3 _ (by omega) (by omega) (by omega)]
  · show T (u + 5) 2 = S (v + 5) 2
    rw [fT _ (by omega), fA _ (by omega), f9 _ (by omega), f8 _ (by omega), g7.1, g6, f5 _ (by omega), f4 _ (by omega), s3 _ (by omega) (by omega) (by omega)]
  · show T (u + 5) 3 = S (v + 5) 3
    rw [fT _ (by omega), fA _ (by omega), f9 _ (by omega), f8 _ (by omega), g7.2, f6 _ (by omega), f5 _ (by omega), f4 _ (by omega), s3 _ (by omega) (by omega) (by omega)]
  · intro j j0 j1
    show T (u + 20) j = S (v + 20) j
    rw [fT _ (by omega), fA _ (by omega), f9 _ (by omega), g8 j j0 j1, f7 _ (by omega), f6 _ (by omega), f5 _ (by omega), f4 _ (by omega), s3 _ (by omega) (by omega) (by omega)]
  · intro j j0 j1
    show T (u + 21) j = S (v + 21) j
    rw [fT _ (by omega), fA _ (by omega), g9 j j0 j1, f8 _ (by omega), f7 _ (by omega), f6 _ (by omega), f5 _ (by omega), f4 _ (by omega), s3 _ (by omega) (by omega) (by omega)]
  · intro j j0 j1
    show T (u + 22) j = S (v + 22) j
    rw [fT _ (by omega), gA j j0 j1, f9 _ (by omega), f8 _ (by omega), f7 _ (by omega), f6 _ (by omega), f5 _ (by omega), f4 _ (by omega), s3 _ (by omega) (by omega) (by omega)]
  · show T u 6 = S v 6
    rw [gT, hv0]; rfl
  · show T u 7 = S v 7
    rw [gT, hv0]; rfl
  · show T u 8 = S v 8
    rw [gT, hv0]; rfl
  · show T u 9 = S v 9
    rw [gT, hv0]; rfl
  · show T u 10 = S v 10
    rw [gT, hv0]; rfl
  · intro k hk
    rw [fr k (by omega) (by omega) (by omega) (by omega) (by omega) (by omega) (by omega), s3 k (by omega) (by omega) (by omega)]
theorem m_275 {w x : Int32} (hw : w = 0 ∨ w = 1) (x0 : 0 ≤ x) (x1 : x < 275) : (275 * w + x).toInt = 275 * w.toInt + x.toInt ∧ 0 ≤ 275 * w + x ∧ 275 * w + x < 550 := by
  rcases hw with rfl | rfl
  · refine ⟨?_, ?_, ?_⟩ <;> (simp only [ne_eq, i_lt, i_le, i_eq, i_add, i_sub, i_neg, i_mul, Int32.reduceToInt] at *; omega)
  · refine ⟨?_, ?_, ?_⟩ <;> (simp only [ne_eq, i_lt, i_le, i_eq, i_add, i_sub, i_neg, i_mul, Int32.reduceToInt] at *; omega)
theorem m_275i {w x y : Int32} (hw : w = 0 ∨ w = 1) (x0 : 0 ≤ x) (x1 : x < 275) (y0 : 0 ≤ y) (y1 : y < 275) (h : 275 * w + x = 275 * w + y) : x = y := by
  have a := (m_275 hw x0 x1).1
  have b := (m_275 hw y0 y1).1
  rw [h, b] at a
  rw [i_eq]
  omega
theorem m_275o {w w' x y : Int32} (hw : w = 0 ∨ w = 1) (hw' : w' = 0 ∨ w' = 1) (hne : w ≠ w') (x0 : 0 ≤ x) (x1 : x < 275) (y0 : 0 ≤ y) (y1 : y < 275) : 275 * w + x ≠ 275 * w' + y := by
  intro h
  have a := (m_275 hw x0 x1).1
  have b := (m_275 hw' y0 y1).1
  rw [h, b] at a
  rcases hw with rfl | rfl <;> rcases hw' with rfl | rfl
  · exact hne rfl
  · (simp only [ne_eq, i_lt, i_le, i_eq, i_add, i_sub, i_neg, i_mul, Int32.reduceToInt] at *; omega)
  · (simp only [ne_eq, i_lt, i_le, i_eq, i_add, i_sub, i_neg, i_mul, Int32.reduceToInt] at *; omega)
  · exact hne rfl
theorem m_im14 {fu : Nat} {S : fd_S} {w : Int32} (hw : w = 0 ∨ w = 1) : ∀ (n : Nat) (T : fd_S) (x : Int32), m_ms 275 x < n → 0 ≤ x → x ≤ 275 → (∀ k : Nat, k ≠ 79 → T k = S k) → (∀ j : Int32, 0 ≤ j → j < x → T 79 (275 * w + j) = S 78 j) → (∀ w' j : Int32, (w' = 0 ∨ w' = 1) → w' ≠ w → 0 ≤ j → j < 275 → T 79 (275 * w' + j) = S 79 (275 * w' + j)) →
    ∃ T', zM_image_14 fu n T w x = some (1, T') ∧ (∀ k : Nat, k ≠ 79 → k ≠ 80 → T' k = S k) ∧ (∀ j : Int32, 0 ≤ j → j < 275 → T' 79 (275 * w + j) = S 78 j) ∧ (∀ w' j : Int32, (w' = 0 ∨ w' = 1) → w' ≠ w → 0 ≤ j → j < 275 → T' 79 (275 * w' + j) = S 79 (275 * w' + j)) ∧ ∀ j : Int32, T' 80 j = if j = w then 1 else S 80 j := by
  intro n
  induction n with
  | zero => intro T x h; exact absurd h (Nat.not_lt_zero _)
  | succ n ih =>
    intro T x hm x0 x1 hF hI hO
    rw [zM_image_14]
    simp only [fd_lt]
    by_cases c : 275 ≤ x
    · have hw2 : 0 ≤ w ∧ w < 2 := by rcases hw with rfl | rfl <;> decide
      rw [if_pos c, if_pos hw2]
      refine ⟨_, rfl, ?_, ?_, ?_, ?_⟩
      · intro k h1 h2
        rw [fd_up_ne h2, hF k h1]
      · intro j j0 j1
        rw [fd_up_ne (by decide), hI j j0 (Int32.lt_of_lt_of_le j1 c)]
      · intro w' j h1 h2 j0 j1
        rw [fd_up_ne (by decide), hO w' j h1 h2 j0 j1]
      · intro j
        rw [fd_up_at, hF 80 (by decide)]
    · have hx : 0 ≤ x ∧ x < 275 := ⟨x0, Int32.not_le.mp c⟩
      have h2 := m_275 hw hx.1 hx.2
      rw [if_neg c, if_pos hx, if_pos h2.2]
      refine ih _ (x + 1) ?_ ?_ ?_ ?_ ?_ ?_
      · have := m_ms_up c
        omega
      · clear hI hF ih hO h2; (simp only [ne_eq, i_lt, i_le, i_eq, i_add, i_sub, i_neg, i_mul, Int32.reduceToInt] at *; omega)
      · clear hI hF ih hO h2; (simp only [ne_eq, i_lt, i_le, i_eq, i_add, i_sub, i_neg, i_mul, Int32.reduceToInt] at *; omega)
      · intro k hk
        rw [fd_up_ne hk, hF k hk]
      · intro j j0 j1
        rw [fd_up_at]
        by_cases e : j = x
        · rw [e, if_pos rfl, hF 78 (by decide)]
        · have j2 : j < x ∧ j < 275 := by clear hI hF ih hO h2; (simp only [ne_eq, i_lt, i_le, i_eq, i_add, i_sub, i_neg, i_mul, Int32.reduceToInt] at *; omega)
          rw [if_neg (fun z => e (m_275i hw j0 j2.2 hx.1 hx.2 z)), hI j j0 j2.1]
      · intro w' j h1 h3 j0 j1
        rw [fd_up_at, if_neg (m_275o h1 hw h3 j0 j1 hx.1 hx.2), hO w' j h1 h3 j0 j1]
theorem m_re26 {fu : Nat} {S : fd_S} {w : Int32} (hw : w = 0 ∨ w = 1) : ∀ (n : Nat) (T : fd_S) (x : Int32), m_ms 275 x < n → 0 ≤ x → x ≤ 275 → (∀ k : Nat, k ≠ 78 → T k = S k) → (∀ j : Int32, 0 ≤ j → j < x → T 78 j = S 79 (275 * w + j)) →
    ∃ T', zM_restore_26 fu n T w x = some (1, T') ∧ (∀ k : Nat, k ≠ 78 → T' k = S k) ∧ (∀ j : Int32, 0 ≤ j → j < 275 → T' 78 j = S 79 (275 * w + j)) := by
  intro n
  induction n with
  | zero => intro T x h; exact absurd h (Nat.not_lt_zero _)
  | succ n ih =>
    intro T x hm x0 x1 hF hI
    rw [zM_restore_26]
    simp only [fd_lt]
    by_cases c : 275 ≤ x
    · rw [if_pos c]
      exact ⟨T, rfl, hF, fun j j0 j1 => hI j j0 (Int32.lt_of_lt_of_le j1 c)⟩
    · have hx : 0 ≤ x ∧ x < 275 := ⟨x0, Int32.not_le.mp c⟩
      have h2 := m_275 hw hx.1 hx.2
      rw [if_neg c, if_pos h2.2, if_pos hx]
      refine ih _ (x + 1) ?_ ?_ ?_ ?_ ?_
      · have := m_ms_up c
        omega
      · clear hI hF ih h2; (simp only [ne_eq, i_lt, i_le, i_eq, i_add, i_sub, i_neg, i_mul, Int32.reduceToInt] at *; omega)
      · clear hI hF ih h2; (simp only [ne_eq, i_lt, i_le, i_eq, i_add, i_sub, i_neg, i_mul, Int32.reduceToInt] at *; omega)
      · intro k hk
        rw [fd_up_ne hk, hF k hk]
      · intro j j0 j1
        rw [fd_up_at]
        by_cases e : j = x
        · rw [e, if_pos rfl, hF 79 (by decide)]
        · rw [if_neg e, hI j j0 (by clear hI hF ih h2; (simp only [ne_eq, i_lt, i_le, i_eq, i_add, i_sub, i_neg, i_mul, Int32.reduceToInt] at *; omega))]
