/-! ===== numbers in lines ===== -/
theorem m_digs : ∀ (D n : Nat), n < 10 ^ (D + 1) → ∃ d, d ≤ D ∧ n / 10 ^ d < 10 ∧ ∀ k, k < d → 10 ≤ n / 10 ^ k := by
  intro D
  induction D with
  | zero => intro n h; exact ⟨0, Nat.le_refl _, by simpa using h, fun k hk => by omega⟩
  | succ D ih =>
    intro n h
    by_cases c : n < 10 ^ (D + 1)
    · obtain ⟨d, h1, h2, h3⟩ := ih n c
      exact ⟨d, by omega, h2, h3⟩
    · refine ⟨D + 1, Nat.le_refl _, ?_, fun k hk => ?_⟩
      · apply Nat.div_lt_of_lt_mul
        rw [← Nat.pow_succ]
        exact h
      · rw [Nat.le_div_iff_mul_le (Nat.pow_pos (by decide))]
        calc 10 * 10 ^ k = 10 ^ (k + 1) := by rw [Nat.pow_succ, Nat.mul_comm]
          _ ≤ 10 ^ (D + 1) := Nat.pow_le_pow_right (by decide) (by omega)
          _ ≤ n := by omega
theorem m_p10 : ∀ k, k ≤ 6 → 10 ^ k ≤ 1000000 ∧ 0 < 10 ^ k := by decide
theorem m_ln10 (S : fd_S) (g : Int32 → Int32) (h : m_L S g) : 0 ≤ g 131 ∧ g 131 ≤ 20 := by
  have := (h.2.2 0 (by decide) (by decide)).1
  rwa [show m_ll 0 = 131 by decide] at this
/-- the figures of n, from the one of 10^k on, written -/
def m_wdn (g : Int32 → Int32) (n : Nat) : Nat → Int32 → Int32
  | 0 => m_wr g (48 + fd_rem (nI n / nI (10 ^ 0)) 10)
  | k + 1 => m_wdn (m_wr g (48 + fd_rem (nI n / nI (10 ^ (k + 1))) 10)) n k
def m_dgc (n : Nat) : Nat := if n < 10 then 0 else if n < 100 then 1 else if n < 1000 then 2 else if n < 10000 then 3 else if n < 100000 then 4 else 5
def m_wn (g : Int32 → Int32) (x : Int32) : Int32 → Int32 := m_wdn g x.toNatClampNeg (m_dgc x.toNatClampNeg)
theorem m_dgc_ok {n D : Nat} (h : n < 10 ^ (D + 1)) (hD : D ≤ 5) : m_dgc n ≤ D ∧ n / 10 ^ m_dgc n < 10 ∧ ∀ k, k < m_dgc n → 10 ≤ n / 10 ^ k := by
  have hD' : D = 0 ∨ D = 1 ∨ D = 2 ∨ D = 3 ∨ D = 4 ∨ D = 5 := by omega
  have key : n / 10 ^ m_dgc n < 10 ∧ ∀ k, k < m_dgc n → 10 ≤ n / 10 ^ k := by
    have hn : n < 1000000 := by rcases hD' with rfl | rfl | rfl | rfl | rfl | rfl <;> omega
    unfold m_dgc
    repeat' split
    all_goals refine ⟨by omega, fun k hk => ?_⟩
    · omega
    · have : k = 0 := by omega
      subst this; omega
    · have : k = 0 ∨ k = 1 := by omega
      rcases this with rfl | rfl <;> omega
    · have : k = 0 ∨ k = 1 ∨ k = 2 := by omega
      rcases this with rfl | rfl | rfl <;> omega
    · have : k = 0 ∨ k = 1 ∨ k = 2 ∨ k = 3 := by omega
      rcases this with rfl | rfl | rfl | rfl <;> omega
    · have : k = 0 ∨ k = 1 ∨ k = 2 ∨ k = 3 ∨ k = 4 := by omega
      rcases this with rfl | rfl | rfl | rfl | rfl <;> omega
  refine ⟨?_, key⟩
  unfold m_dgc
  repeat' split
  all_goals rcases hD' with rfl | rfl | rfl | rfl | rfl | rfl <;> omega
theorem m_wdn_lo {n : Nat} : ∀ (k : Nat) (g : Int32 → Int32) (j : Int32), k ≤ 5 → 0 ≤ g 131 ∧ g 131 ≤ 20 → j < 131 → m_wdn g n k j = g j := by
  intro k
  induction k with
  | zero => intro g j _ h hj; exact m_wr_lo ⟨h.1, by (simp only [ne_eq, i_lt, i_le, i_eq, i_add, i_sub, i_neg, i_mul, Int32.reduceToInt] at *; omega)⟩ hj
  | succ k ih =>
    intro g j hk h hj
    rw [m_wdn]
    by_cases c : g 131 ≤ 19
    · rw [ih _ j (by omega) (by rw [m_wr_131]; clear ih; (simp only [ne_eq, i_lt, i_le, i_eq, i_add, i_sub, i_neg, i_mul, Int32.reduceToInt] at *; omega)) hj, m_wr_lo ⟨h.1, by clear ih; (simp only [ne_eq, i_lt, i_le, i_eq, i_add, i_sub, i_neg, i_mul, Int32.reduceToInt] at *; omega)⟩ hj]
    · have : ∀ (k : Nat) (g : Int32 → Int32), k ≤ 5 → 0 ≤ g 131 ∧ g 131 ≤ 30 - nI k → j < 131 → m_wdn g n k j = g j := by
        intro k
        induction k with
        | zero => intro g _ h hj; exact m_wr_lo ⟨h.1, by have := h.2; rw [show (30 : Int32) - nI 0 = 30 by decide] at this; clear ih h; (simp only [ne_eq, i_lt, i_le, i_eq, i_add, i_sub, i_neg, i_mul, Int32.reduceToInt] at *; omega)⟩ hj
        | succ k ih2 =>
          intro g hk h hj
          have hk1 : (nI (k + 1)).toInt = k + 1 := nI_toInt (by omega)
          have hk2 : (nI k).toInt = k := nI_toInt (by omega)
          have h1 := i_le.mp h.1
          have h2 := i_le.mp h.2
          rw [i_sub, hk1] at h2
          simp only [Int32.reduceToInt] at h1 h2
          rw [m_wdn, ih2 _ (by omega) ⟨by rw [m_wr_131, i_le, i_add]; simp only [Int32.reduceToInt]; omega, by rw [m_wr_131, i_le, i_add, i_sub, hk2]; simp only [Int32.reduceToInt]; omega⟩ hj, m_wr_lo ⟨h.1, by rw [i_le]; simp only [Int32.reduceToInt]; omega⟩ hj]
      have hk2 : (nI k).toInt = k := nI_toInt (by omega)
      have h1 := i_le.mp h.1
      have h2 := i_le.mp h.2
      simp only [Int32.reduceToInt] at h1 h2
      rw [this k _ (by omega) ⟨by rw [m_wr_131, i_le, i_add]; simp only [Int32.reduceToInt]; omega, by rw [m_wr_131, i_le, i_add, i_sub, hk2]; simp only [Int32.reduceToInt]; omega⟩ hj, m_wr_lo ⟨h.1, by clear ih; (simp only [ne_eq, i_lt, i_le, i_eq, i_add, i_sub, i_neg, i_mul, Int32.reduceToInt] at *; omega)⟩ hj]
theorem m_wdn_131 {n : Nat} : ∀ (k : Nat) (g : Int32 → Int32), m_wdn g n k 131 = g 131 + nI (k + 1) := by
  intro k
  induction k with
  | zero => intro g; exact m_wr_131
  | succ k ih =>
    intro g
    rw [m_wdn, ih, m_wr_131, ← nI_1 (k + 1)]
    grind
theorem m_wr_loop {fu n : Nat} {S' : fd_S} (hn : n < 1000000) : ∀ (k m : Nat) (g : Int32 → Int32), k ≤ 5 → k + 1 < m → 0 ≤ g 131 → g 131 ≤ 20 - nI (k + 1) → zM_writeNumber_18 fu m (fd_sg S' g) (nI n) (nI (10 ^ k)) = some (fd_sg S' (m_wdn g n k)) := by
  intro k
  induction k with
  | zero =>
    intro m g _ hm h0 hlen
    obtain ⟨m, rfl⟩ : ∃ m', m = m' + 2 := ⟨m - 2, by omega⟩
    have e19 : (20 : Int32) - nI (0 + 1) = 19 := by decide
    rw [e19] at hlen
    rw [zM_writeNumber_18, if_neg (show ¬ nI (10 ^ 0) ≤ 0 by decide), if_pos (show ¬ nI (10 ^ 0) = 0 by decide), zM_write_eq ⟨h0, by (simp only [ne_eq, i_lt, i_le, i_eq, i_add, i_sub, i_neg, i_mul, Int32.reduceToInt] at *; omega)⟩]
    simp only [Option.bind_some, fd_lt]
    rw [zM_writeNumber_18, if_pos (by decide)]
    rfl
  | succ k ih =>
    intro m g hk hm h0 hlen
    obtain ⟨m, rfl⟩ : ∃ m', m = m' + 1 := ⟨m - 1, by omega⟩
    have hp := m_p10 (k + 1) (by omega)
    have hk1 : (nI (k + 1 + 1)).toInt = k + 1 + 1 := nI_toInt (by omega)
    have hk2 : (nI (k + 1)).toInt = k + 1 := nI_toInt (by omega)
    have l0 := i_le.mp h0
    simp only [Int32.reduceToInt] at l0
    have hlen' : (g 131).toInt ≤ 20 - (k + 1 + 1) := by
      rw [i_le, i_sub, hk1] at hlen
      simp only [Int32.reduceToInt] at hlen
      omega
    rw [zM_writeNumber_18, if_neg (nI_nle (by omega) (by omega)), if_pos (nI_ne0 (by omega) (by omega)), zM_write_eq ⟨h0, by rw [i_le]; simp only [Int32.reduceToInt]; omega⟩]
    simp only [Option.bind_some, fd_lt]
    rw [show nI (10 ^ (k + 1)) / 10 = nI (10 ^ k) by rw [show (10 : Int32) = nI 10 from rfl, pk_div (by omega) (by omega) (by omega), show 10 ^ (k + 1) / 10 = 10 ^ k by rw [Nat.pow_succ]; exact Nat.mul_div_cancel _ (by decide)]]
    exact ih m _ (by omega) (by omega) (by rw [m_wr_131, i_le, i_add]; simp only [Int32.reduceToInt]; omega) (by rw [m_wr_131, i_le, i_sub, hk2, i_add]; simp only [Int32.reduceToInt]; omega)
theorem m_pn_loop {fu n : Nat} (hn : n < 1000000) : ∀ (k m : Nat) (S : fd_S) (g : Int32 → Int32), k ≤ 5 → k + 1 < m → m_L S g → g 131 ≤ 20 - nI (k + 1) →
    ∃ S1, zL_putNumber_29 fu m S (nI n) (nI (10 ^ k)) = some S1 ∧ m_L S1 (m_wdn g n k) ∧ (∀ a : Nat, a ≠ 6 → a ≠ 7 → S1 a = S a) := by
  intro k
  induction k with
  | zero =>
    intro m S g _ hm hL hlen
    obtain ⟨m, rfl⟩ : ∃ m', m = m' + 2 := ⟨m - 2, by omega⟩
    have e19 : (20 : Int32) - nI (0 + 1) = 19 := by decide
    rw [e19] at hlen
    rw [zL_putNumber_29, if_neg (show ¬ nI (10 ^ 0) ≤ 0 by decide), if_pos (show ¬ nI (10 ^ 0) = 0 by decide)]
    obtain ⟨S1, s1, s2, s3⟩ := m_put (c := 48 + fd_rem (nI n / nI (10 ^ 0)) 10) hL (by clear hL; (simp only [ne_eq, i_lt, i_le, i_eq, i_add, i_sub, i_neg, i_mul, Int32.reduceToInt] at *; omega))
    rw [s1]
    simp only [Option.bind_some, fd_lt]
    rw [zL_putNumber_29, if_pos (by decide)]
    exact ⟨S1, rfl, s2, s3⟩
  | succ k ih =>
    intro m S g hk hm hL hlen
    obtain ⟨m, rfl⟩ : ∃ m', m = m' + 1 := ⟨m - 1, by omega⟩
    have hl := m_ln10 S g hL
    have hp := m_p10 (k + 1) (by omega)
    have hk1 : (nI (k + 1 + 1)).toInt = k + 1 + 1 := nI_toInt (by omega)
    have hk2 : (nI (k + 1)).toInt = k + 1 := nI_toInt (by omega)
    have l0 := i_le.mp hl.1
    simp only [Int32.reduceToInt] at l0
    have hlen' : (g 131).toInt ≤ 20 - (k + 1 + 1) := by
      rw [i_le, i_sub, hk1] at hlen
      simp only [Int32.reduceToInt] at hlen
      omega
    rw [zL_putNumber_29, if_neg (nI_nle (by omega) (by omega)), if_pos (nI_ne0 (by omega) (by omega))]
    obtain ⟨S1, s1, s2, s3⟩ := m_put (c := 48 + fd_rem (nI n / nI (10 ^ (k + 1))) 10) hL (by rw [i_lt]; simp only [Int32.reduceToInt]; omega)
    rw [s1]
    simp only [Option.bind_some, fd_lt]
    rw [show nI (10 ^ (k + 1)) / 10 = nI (10 ^ k) by rw [show (10 : Int32) = nI 10 from rfl, pk_div (by omega) (by omega) (by omega), show 10 ^ (k + 1) / 10 = 10 ^ k by rw [Nat.pow_succ]; exact Nat.mul_div_cancel _ (by decide)]]
    obtain ⟨S2, t1, t2, t3⟩ := ih m S1 _ (by omega) (by omega) s2 (by rw [m_wr_131, i_le, i_sub, hk2, i_add]; simp only [Int32.reduceToInt]; omega)
    exact ⟨S2, t1, t2, fun a h6 h7 => by rw [t3 a h6 h7, s3 a h6 h7]⟩
theorem m_num_head {fu n d : Nat} {S S' : fd_S} {g : Int32 → Int32} (hn : n < 1000000) (hd : d ≤ 5) (h1 : n / 10 ^ d < 10) (h2 : ∀ k, k < d → 10 ≤ n / 10 ^ k) : ∀ (j k m : Nat), k + j = d → j < m →
    zL_putNumber_4 fu m S (nI n) (nI (10 ^ k)) (nI k) = zL_putNumber_29 fu fu S (nI n) (nI (10 ^ d)) ∧ zM_writeNumber_2 fu m (fd_sg S' g) (nI n) (nI (10 ^ k)) = zM_writeNumber_18 fu fu (fd_sg S' g) (nI n) (nI (10 ^ d)) := by
  intro j
  induction j with
  | zero =>
    intro k m hk hm
    obtain ⟨m, rfl⟩ : ∃ m', m = m' + 1 := ⟨m - 1, by omega⟩
    have : k = d := by omega
    subst this
    have hp := m_p10 k (by omega)
    rw [zL_putNumber_4, zM_writeNumber_2, if_neg (by rw [show (9 : Int32) = nI 9 from rfl]; exact nI_ge (by omega) (by omega)), if_pos (nI_ne0 (by omega) (by omega)), if_pos (nI_ne0 (by omega) (by omega)), pk_div (by omega) (by omega) (by omega), if_pos (by rw [show (10 : Int32) = nI 10 from rfl]; exact nI_lt h1 (by omega)), if_pos (by rw [show (9 : Int32) = nI 9 from rfl]; exact nI_le (by omega) (by omega))]
    exact ⟨rfl, rfl⟩
  | succ j ih =>
    intro k m hk hm
    obtain ⟨m, rfl⟩ : ∃ m', m = m' + 1 := ⟨m - 1, by omega⟩
    have hp := m_p10 k (by omega)
    have hq := h2 k (by omega)
    have hle : n / 10 ^ k ≤ n := Nat.div_le_self _ _
    rw [zL_putNumber_4, zM_writeNumber_2, if_neg (by rw [show (9 : Int32) = nI 9 from rfl]; exact nI_ge (by omega) (by omega)), if_pos (nI_ne0 (by omega) (by omega)), if_pos (nI_ne0 (by omega) (by omega)), pk_div (by omega) (by omega) (by omega), if_neg (by rw [show (10 : Int32) = nI 10 from rfl]; exact nI_nlt hq (by omega)), if_neg (by rw [show (9 : Int32) = nI 9 from rfl]; exact nI_ge (by omega) (by omega))]
    simp only [fd_lt]
    rw [nI_1, show (10 : Int32) = nI 10 from rfl, pk_mul, ← Nat.pow_succ]
    exact ih (k + 1) m (by omega) (by omega)
theorem m_len_d {D : Nat} {v : Int32} (hD : D ≤ 5) (hlen : v ≤ 20 - nI (D + 1)) : v.toInt ≤ 20 - (D + 1) := by
  have hD1 : (nI (D + 1)).toInt = D + 1 := nI_toInt (by omega)
  rw [i_le, i_sub, hD1] at hlen
  simp only [Int32.reduceToInt] at hlen
  omega
theorem zM_writeNumber_eq {fu : Nat} {S : fd_S} {g : Int32 → Int32} {x : Int32} (D : Nat) (hfu : 10000 ≤ fu) (hD : D ≤ 5) (hx0 : 0 ≤ x) (hx : x < nI (10 ^ (D + 1))) (h0 : 0 ≤ g 131) (hlen : g 131 ≤ 20 - nI (D + 1)) : zM_writeNumber fu (fd_sg S g) x = some (fd_sg S (m_wn g x)) := by
  have hp := m_p10 (D + 1) (by omega)
  obtain ⟨n, hn, rfl⟩ := nI_of (Int32.not_lt.mpr hx0)
  rw [nI_ltI hn (by omega)] at hx
  obtain ⟨hd, h1, h2⟩ := m_dgc_ok hx hD
  obtain ⟨-, e2⟩ := m_num_head (fu := fu) (S := S) (S' := S) (g := g) (n := n) (by omega) (by omega) h1 h2 (m_dgc n) 0 fu (by omega) (by omega)
  have l1 := m_len_d hD hlen
  have hd1 : (nI (m_dgc n + 1)).toInt = m_dgc n + 1 := nI_toInt (by omega)
  have l0 := i_le.mp h0
  simp only [Int32.reduceToInt] at l0
  unfold zM_writeNumber m_wn
  rw [show (1 : Int32) = nI (10 ^ 0) from rfl, e2, nI_clamp hn]
  exact m_wr_loop (by omega) _ fu g (by omega) (by omega) h0 (by rw [i_le, i_sub, hd1]; simp only [Int32.reduceToInt]; omega)
theorem m_wn_lo {g : Int32 → Int32} {x j : Int32} (D : Nat) (hD : D ≤ 5) (hx0 : 0 ≤ x) (hx : x < nI (10 ^ (D + 1))) (h0 : 0 ≤ g 131 ∧ g 131 ≤ 20) (hj : j < 131) : m_wn g x j = g j := by
  have hp := m_p10 (D + 1) (by omega)
  obtain ⟨n, hn, rfl⟩ := nI_of (Int32.not_lt.mpr hx0)
  rw [nI_ltI hn (by omega)] at hx
  obtain ⟨hd, h1, h2⟩ := m_dgc_ok hx hD
  unfold m_wn
  rw [nI_clamp hn]
  exact m_wdn_lo _ g j (by omega) h0 hj
theorem m_wn_131 {g : Int32 → Int32} {x : Int32} (D : Nat) (hD : D ≤ 5) (hx0 : 0 ≤ x) (hx : x < nI (10 ^ (D + 1))) (h0 : 0 ≤ g 131 ∧ g 131 ≤ 20) : g 131 ≤ m_wn g x 131 ∧ m_wn g x 131 ≤ g 131 + nI (D + 1) := by
  have hp := m_p10 (D + 1) (by omega)
  obtain ⟨n, hn, rfl⟩ := nI_of (Int32.not_lt.mpr hx0)
  rw [nI_ltI hn (by omega)] at hx
  obtain ⟨hd, h1, h2⟩ := m_dgc_ok hx hD
  have hd1 : (nI (m_dgc n + 1)).toInt = m_dgc n + 1 := nI_toInt (by omega)
  have hD1 : (nI (D + 1)).toInt = D + 1 := nI_toInt (by omega)
  have l0 := i_le.mp h0.1
  have l1 := i_le.mp h0.2
  simp only [Int32.reduceToInt] at l0 l1
  unfold m_wn
  rw [nI_clamp hn, m_wdn_131]
  constructor
  · rw [i_le, i_add, hd1]; omega
  · rw [i_le, i_add, i_add, hd1, hD1]; omega
theorem m_pn {fu : Nat} {S : fd_S} {g : Int32 → Int32} {x : Int32} (D : Nat) (hfu : 10000 ≤ fu) (hD : D ≤ 5) (hx0 : 0 ≤ x) (hx : x < nI (10 ^ (D + 1))) (hL : m_L S g) (hlen : g 131 ≤ 20 - nI (D + 1)) :
    ∃ S1, zL_putNumber fu S x = some S1 ∧ m_L S1 (m_wn g x) ∧ (∀ a : Nat, a ≠ 6 → a ≠ 7 → S1 a = S a) := by
  have hp := m_p10 (D + 1) (by omega)
  obtain ⟨n, hn, rfl⟩ := nI_of (Int32.not_lt.mpr hx0)
  rw [nI_ltI hn (by omega)] at hx
  obtain ⟨hd, h1, h2⟩ := m_dgc_ok hx hD
  obtain ⟨e1, -⟩ := m_num_head (fu := fu) (S := S) (S' := S) (g := g) (n := n) (by omega) (by omega) h1 h2 (m_dgc n) 0 fu (by omega) (by omega)
  have l1 := m_len_d hD hlen
  have hd1 : (nI (m_dgc n + 1)).toInt = m_dgc n + 1 := nI_toInt (by omega)
  have l0 := i_le.mp (m_ln10 S g hL).1
  simp only [Int32.reduceToInt] at l0
  unfold zL_putNumber m_wn
  rw [show (1 : Int32) = nI (10 ^ 0) from rfl, show (0 : Int32) = nI 0 from rfl, e1, nI_clamp hn]
  exact m_pn_loop (by omega) _ fu S g (by omega) (by omega) hL (by rw [i_le, i_sub, hd1]; simp only [Int32.reduceToInt]; omega)
/-- a number of one figure -/
theorem m_num1 {fu : Nat} {S : fd_S} {g : Int32 → Int32} {x : Int32} (hfu : 10000 ≤ fu) (hx0 : 0 ≤ x) (hx : x < 10) (hL : m_L S g) (hlen : g 131 < 20) :
    ∃ S1, zL_putNumber fu S x = some S1 ∧ m_L S1 (m_wr g (48 + x)) ∧ (∀ a : Nat, a ≠ 6 → a ≠ 7 → S1 a = S a) := by
  obtain ⟨m, rfl⟩ : ∃ m', fu = m' + 2 := ⟨fu - 2, by omega⟩
  obtain ⟨n, hn, rfl⟩ := m_nat (x := x) (M := 9) hx0 (show x ≤ (9 : Int32) by clear hL; (simp only [ne_eq, i_lt, i_le, i_eq, i_add, i_sub, i_neg, i_mul, Int32.reduceToInt] at *; omega)) (by decide)
  obtain ⟨S1, s1, s2, s3⟩ := m_put (c := 48 + nI n) hL hlen
  refine ⟨S1, ?_, s2, s3⟩
  have e1 : nI n / 1 = nI n := by
    rw [show (1 : Int32) = nI 1 from rfl, pk_div (by omega) (by omega) (by omega), Nat.div_one]
  have e2 : fd_rem (nI n) 10 = nI n := by
    rw [show (10 : Int32) = nI 10 from rfl, m_rem (by omega) (by omega) (by omega), Nat.mod_eq_of_lt (by omega)]
  unfold zL_putNumber
  rw [zL_putNumber_4, if_neg (by decide), if_pos (by decide), e1, if_pos hx, zL_putNumber_29, if_neg (by decide), if_pos (by decide), e1, e2, s1]
  simp only [Option.bind_some, fd_lt]
  rw [zL_putNumber_29, if_pos (by decide)]
