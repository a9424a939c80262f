/-! ===== numbers in lines ===== -/
theorem m_digs : ∀ (D n : Nat), n < 10 ^ (D + 1) → ∃ d, d ≤ D ∧ n / 10 ^ d < 10 ∧ ∀ k, k < d → 10 ≤ n / 10 ^ k := by
  intro D
  induction D with
  | zero => intro n h; exact ⟨0, Nat.le_refl _, by simpa using h, fun k hk => by omega⟩
  | succ D ih =>
    intro n h
    by_cases c : n < 10 ^ (D + 1)
    · obtain ⟨d, h1, h2, h3⟩ := ih n c
      exact ⟨d, by omega, h2, h3⟩
    · refine ⟨D + 1, Nat.le_refl _, ?_, fun k hk => ?_⟩
      · apply Nat.div_lt_of_lt_mul
        rw [← Nat.pow_succ]
        exact h
      · rw [Nat.le_div_iff_mul_le (Nat.pow_pos (by decide))]
        calc 10 * 10 ^ k = 10 ^ (k + 1) := by rw [Nat.pow_succ, Nat.mul_comm]
          _ ≤ 10 ^ (D + 1) := Nat.pow_le_pow_right (by decide) (by omega)
          _ ≤ n := by omega
theorem m_p10 : ∀ k, k ≤ 6 → 10 ^ k ≤ 1000000 ∧ 0 < 10 ^ k := by decide
theorem m_ln10 (S : fd_S) (g : Int32 → Int32) (h : m_L S g) : 0 ≤ g 131 ∧ g 131 ≤ 20 := by
  have := (h.2.2 0 (by decide) (by decide)).1
  rwa [show m_ll 0 = 131 by decide] at this
theorem m_num_loop {fu n : Nat} {S' : fd_S} (hn : n < 1000000) : ∀ (k m : Nat) (S : fd_S) (g : Int32 → Int32), k ≤ 5 → k + 1 < m → m_L S g → g 131 ≤ 20 - nI (k + 1) →
    ∃ S1 g1, zL_putNumber_29 fu m S (nI n) (nI (10 ^ k)) = some S1 ∧ zM_writeNumber_18 fu m (fd_sg S' g) (nI n) (nI (10 ^ k)) = some (fd_sg S' g1) ∧ m_L S1 g1 ∧ (∀ a : Nat, a ≠ 6 → a ≠ 7 → S1 a = S a) ∧ (∀ j : Int32, j < 131 → g1 j = g j) ∧ g1 131 = g 131 + nI (k + 1) := by
  intro k
  induction k with
  | zero =>
    intro m S g _ hm hL hlen
    obtain ⟨m, rfl⟩ : ∃ m', m = m' + 2 := ⟨m - 2, by omega⟩
    have hl := m_ln10 S g hL
    have e19 : (20 : Int32) - nI (0 + 1) = 19 := by decide
    rw [e19] at hlen
    rw [zL_putNumber_29, zM_writeNumber_18, if_neg (show ¬ nI (10 ^ 0) ≤ 0 by decide), if_neg (show ¬ nI (10 ^ 0) ≤ 0 by decide), if_pos (show ¬ nI (10 ^ 0) = 0 by decide), if_pos (show ¬ nI (10 ^ 0) = 0 by decide)]
    obtain ⟨S1, s1, s2, s3⟩ := m_put (c := 48 + fd_rem (nI n / nI (10 ^ 0)) 10) hL (by clear hL; (simp only [ne_eq, i_lt, i_le, i_eq, i_add, i_sub, i_neg, i_mul, Int32.reduceToInt] at *; omega))
    rw [s1, zM_write_eq ⟨hl.1, by clear hL s1 s2; (simp only [ne_eq, i_lt, i_le, i_eq, i_add, i_sub, i_neg, i_mul, Int32.reduceToInt] at *; omega)⟩]
    simp only [Option.bind_some, fd_lt]
    rw [zL_putNumber_29, zM_writeNumber_18, if_pos (by decide), if_pos (by decide)]
    exact ⟨S1, _, rfl, rfl, s2, s3, fun j hj => m_wr_lo ⟨hl.1, by clear hL s1 s2; (simp only [ne_eq, i_lt, i_le, i_eq, i_add, i_sub, i_neg, i_mul, Int32.reduceToInt] at *; omega)⟩ hj, m_wr_131⟩
  | succ k ih =>
    intro m S g hk hm hL hlen
    obtain ⟨m, rfl⟩ : ∃ m', m = m' + 1 := ⟨m - 1, by omega⟩
    have hl := m_ln10 S g hL
    have hp := m_p10 (k + 1) (by omega)
    have hk1 : (nI (k + 1 + 1)).toInt = k + 1 + 1 := nI_toInt (by omega)
    have hk2 : (nI (k + 1)).toInt = k + 1 := nI_toInt (by omega)
    have hlen' : (g 131).toInt ≤ 20 - (k + 1 + 1) := by
      rw [i_le, i_sub, hk1] at hlen
      simp only [Int32.reduceToInt] at hlen
      omega
    rw [zL_putNumber_29, zM_writeNumber_18, if_neg (nI_nle (by omega) (by omega)), if_neg (nI_nle (by omega) (by omega)), if_pos (nI_ne0 (by omega) (by omega)), if_pos (nI_ne0 (by omega) (by omega))]
    obtain ⟨S1, s1, s2, s3⟩ := m_put (c := 48 + fd_rem (nI n / nI (10 ^ (k + 1))) 10) hL (by rw [i_lt]; simp only [Int32.reduceToInt]; omega)
    rw [s1, zM_write_eq ⟨hl.1, by clear hL s1 s2 ih; (simp only [ne_eq, i_lt, i_le, i_eq, i_add, i_sub, i_neg, i_mul, Int32.reduceToInt] at *; omega)⟩]
    simp only [Option.bind_some, fd_lt]
    rw [show (10 : Int32) = nI 10 from rfl, pk_div (by omega) (by omega) (by omega), show 10 ^ (k + 1) / 10 = 10 ^ k by rw [Nat.pow_succ]; exact Nat.mul_div_cancel _ (by decide)]
    have hw : m_wr g (48 + fd_rem (nI n / nI (10 ^ (k + 1))) (nI 10)) 131 = g 131 + 1 := m_wr_131
    obtain ⟨S2, g2, t1, t2, t3, t4, t5, t6⟩ := ih m S1 (m_wr g (48 + fd_rem (nI n / nI (10 ^ (k + 1))) (nI 10))) (by omega) (by omega) s2 (by
      rw [hw, i_le, i_sub, hk2, i_add]
      simp only [Int32.reduceToInt]
      have := i_le.mp hl.1
      simp only [Int32.reduceToInt] at this
      omega)
    refine ⟨S2, g2, t1, t2, t3, fun a h6 h7 => by rw [t4 a h6 h7, s3 a h6 h7], fun j hj => by rw [t5 j hj]; exact m_wr_lo ⟨hl.1, by clear hL s1 s2 ih t1 t2 t3 t5; (simp only [ne_eq, i_lt, i_le, i_eq, i_add, i_sub, i_neg, i_mul, Int32.reduceToInt] at *; omega)⟩ hj, ?_⟩
    rw [t6, hw, ← nI_1 (k + 1)]
    grind
theorem m_num_head {fu n d : Nat} {S S' : fd_S} {g : Int32 → Int32} (hn : n < 1000000) (hd : d ≤ 5) (h1 : n / 10 ^ d < 10) (h2 : ∀ k, k < d → 10 ≤ n / 10 ^ k) : ∀ (j k m : Nat), k + j = d → j < m →
    zL_putNumber_4 fu m S (nI n) (nI (10 ^ k)) (nI k) = zL_putNumber_29 fu fu S (nI n) (nI (10 ^ d)) ∧ zM_writeNumber_2 fu m (fd_sg S' g) (nI n) (nI (10 ^ k)) = zM_writeNumber_18 fu fu (fd_sg S' g) (nI n) (nI (10 ^ d)) := by
  intro j
  induction j with
  | zero =>
    intro k m hk hm
    obtain ⟨m, rfl⟩ : ∃ m', m = m' + 1 := ⟨m - 1, by omega⟩
    have : k = d := by omega
    subst this
    have hp := m_p10 k (by omega)
    rw [zL_putNumber_4, zM_writeNumber_2, if_neg (by rw [show (9 : Int32) = nI 9 from rfl]; exact nI_ge (by omega) (by omega)), if_pos (nI_ne0 (by omega) (by omega)), if_pos (nI_ne0 (by omega) (by omega)), pk_div (by omega) (by omega) (by omega), if_pos (by rw [show (10 : Int32) = nI 10 from rfl]; exact nI_lt h1 (by omega)), if_pos (by rw [show (9 : Int32) = nI 9 from rfl]; exact nI_le (by omega) (by omega))]
    exact ⟨rfl, rfl⟩
  | succ j ih =>
    intro k m hk hm
    obtain ⟨m, rfl⟩ : ∃ m', m = m' + 1 := ⟨m - 1, by omega⟩
    have hp := m_p10 k (by omega)
    have hq := h2 k (by omega)
    have hle : n / 10 ^ k ≤ n := Nat.div_le_self _ _
    rw [zL_putNumber_4, zM_writeNumber_2, if_neg (by rw [show (9 : Int32) = nI 9 from rfl]; exact nI_ge (by omega) (by omega)), if_pos (nI_ne0 (by omega) (by omega)), if_pos (nI_ne0 (by omega) (by omega)), pk_div (by omega) (by omega) (by omega), if_neg (by rw [show (10 : Int32) = nI 10 from rfl]; exact nI_nlt hq (by omega)), if_neg (by rw [show (9 : Int32) = nI 9 from rfl]; exact nI_ge (by omega) (by omega))]
    simp only [fd_lt]
    rw [nI_1, show (10 : Int32) = nI 10 from rfl, pk_mul, ← Nat.pow_succ]
    exact ih (k + 1) m (by omega) (by omega)
/-- putNumber and writeNumber: a number of at most D + 1 figures -/
theorem m_num {fu : Nat} {S S' : fd_S} {g : Int32 → Int32} {x : Int32} (D : Nat) (hfu : 10000 ≤ fu) (hD : D ≤ 5) (hx0 : 0 ≤ x) (hx : x < nI (10 ^ (D + 1))) (hL : m_L S g) (hlen : g 131 ≤ 20 - nI (D + 1)) :
    ∃ S1 g1, zL_putNumber fu S x = some S1 ∧ zM_writeNumber fu (fd_sg S' g) x = some (fd_sg S' g1) ∧ m_L S1 g1 ∧ (∀ a : Nat, a ≠ 6 → a ≠ 7 → S1 a = S a) ∧ (∀ j : Int32, j < 131 → g1 j = g j) ∧ g 131 ≤ g1 131 ∧ g1 131 ≤ g 131 + nI (D + 1) := by
  have hp := m_p10 (D + 1) (by omega)
  obtain ⟨n, hn, rfl⟩ := nI_of (Int32.not_lt.mpr hx0)
  rw [nI_ltI hn (by omega)] at hx
  obtain ⟨d, hd, h1, h2⟩ := m_digs D n hx
  obtain ⟨e1, e2⟩ := m_num_head (fu := fu) (S := S) (S' := S') (g := g) (n := n) (by omega) (by omega) h1 h2 d 0 fu (by omega) (by omega)
  have hl := m_ln10 S g hL
  have hD1 : (nI (D + 1)).toInt = D + 1 := nI_toInt (by omega)
  have hd1 : (nI (d + 1)).toInt = d + 1 := nI_toInt (by omega)
  have l0 := i_le.mp hl.1
  have l1 : (g 131).toInt ≤ 20 - (D + 1) := by
    rw [i_le, i_sub, hD1] at hlen
    simp only [Int32.reduceToInt] at hlen
    omega
  simp only [Int32.reduceToInt] at l0
  obtain ⟨S1, g1, t1, t2, t3, t4, t5, t6⟩ := m_num_loop (fu := fu) (n := n) (S' := S') (by omega) d fu S g (by omega) (by omega) hL (by
    rw [i_le, i_sub, hd1]
    simp only [Int32.reduceToInt]
    omega)
  unfold zL_putNumber zM_writeNumber
  rw [show (1 : Int32) = nI (10 ^ 0) from rfl, show (0 : Int32) = nI 0 from rfl, e1, e2]
  refine ⟨S1, g1, t1, t2, t3, t4, t5, ?_, ?_⟩
  · rw [t6, i_le, i_add, hd1]
    omega
  · rw [t6, i_le, i_add, i_add, hd1, hD1]
    omega
/-- a number of one figure -/
theorem m_num1 {fu : Nat} {S : fd_S} {g : Int32 → Int32} {x : Int32} (hfu : 10000 ≤ fu) (hx0 : 0 ≤ x) (hx : x < 10) (hL : m_L S g) (hlen : g 131 < 20) :
    ∃ S1, zL_putNumber fu S x = some S1 ∧ m_L S1 (m_wr g (48 + x)) ∧ (∀ a : Nat, a ≠ 6 → a ≠ 7 → S1 a = S a) := by
  obtain ⟨m, rfl⟩ : ∃ m', fu = m' + 2 := ⟨fu - 2, by omega⟩
  obtain ⟨n, hn, rfl⟩ := m_nat (x := x) (M := 9) hx0 (show x ≤ (9 : Int32) by clear hL; (simp only [ne_eq, i_lt, i_le, i_eq, i_add, i_sub, i_neg, i_mul, Int32.reduceToInt] at *; omega)) (by decide)
  obtain ⟨S1, s1, s2, s3⟩ := m_put (c := 48 + nI n) hL hlen
  refine ⟨S1, ?_, s2, s3⟩
  have e1 : nI n / 1 = nI n := by
    rw [show (1 : Int32) = nI 1 from rfl, pk_div (by omega) (by omega) (by omega), Nat.div_one]
  have e2 : fd_rem (nI n) 10 = nI n := by
    rw [show (10 : Int32) = nI 10 from rfl, m_rem (by omega) (by omega) (by omega), Nat.mod_eq_of_lt (by omega)]
  unfold zL_putNumber
  rw [zL_putNumber_4, if_neg (by decide), if_pos (by decide), e1, if_pos hx, zL_putNumber_29, if_neg (by decide), if_pos (by decide), e1, e2, s1]
  simp only [Option.bind_some, fd_lt]
  rw [zL_putNumber_29, if_pos (by decide)]
