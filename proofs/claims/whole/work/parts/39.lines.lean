/-! ===== LINES ===== -/
def m_pp (v i : Int32) : Int32 := if i ≤ v then v - i else v - i + 6
def m_ll (i : Int32) : Int32 := 131 + 24 * i
theorem m_pp_0 {v : Int32} (h : 0 ≤ v) : m_pp v 0 = v := by
  unfold m_pp
  rw [if_pos h]
  grind
theorem m_pp_rg {v i : Int32} (h0 : 0 ≤ v) (h6 : v < 6) (i0 : 0 ≤ i) (i6 : i < 6) : 0 ≤ m_pp v i ∧ m_pp v i < 6 := by
  unfold m_pp
  split <;> (simp only [ne_eq, i_lt, i_le, i_eq, i_add, i_sub, i_neg, i_mul, Int32.reduceToInt] at *; omega)
theorem m_pp_inj {v i j : Int32} (h0 : 0 ≤ v) (h6 : v < 6) (i0 : 0 ≤ i) (i6 : i < 6) (j0 : 0 ≤ j) (j6 : j < 6) (h : m_pp v i = m_pp v j) : i = j := by
  unfold m_pp at h
  split at h <;> split at h <;> (simp only [ne_eq, i_lt, i_le, i_eq, i_add, i_sub, i_neg, i_mul, Int32.reduceToInt] at *; omega)
theorem m_ll_num {i : Int32} (i0 : 0 ≤ i) (i6 : i < 6) : (m_ll i).toInt = 131 + 24 * i.toInt := by
  obtain ⟨a, ha, rfl⟩ := m_nat (x := i) (M := 5) i0 (show i ≤ (5 : Int32) by (simp only [ne_eq, i_lt, i_le, i_eq, i_add, i_sub, i_neg, i_mul, Int32.reduceToInt] at *; omega)) (by decide)
  unfold m_ll
  rw [show (131 : Int32) = nI 131 from rfl, show (24 : Int32) = nI 24 from rfl, pk_mul, nI_add, nI_toInt (by omega), nI_toInt (by omega)]
  omega
theorem m_la_num {i j : Int32} (i0 : 0 ≤ i) (i6 : i < 6) (j0 : 0 ≤ j) (j1 : j ≤ 100) : (zM_lineAt i j).toInt = 132 + 24 * i.toInt + j.toInt := by
  obtain ⟨a, ha, rfl⟩ := m_nat (x := i) (M := 5) i0 (show i ≤ (5 : Int32) by (simp only [ne_eq, i_lt, i_le, i_eq, i_add, i_sub, i_neg, i_mul, Int32.reduceToInt] at *; omega)) (by decide)
  obtain ⟨c, hc, rfl⟩ := m_nat (x := j) (M := 100) j0 j1 (by decide)
  unfold zM_lineAt
  rw [show (131 : Int32) = nI 131 from rfl, show (24 : Int32) = nI 24 from rfl, show (1 : Int32) = nI 1 from rfl, pk_mul, nI_add, nI_add, nI_add, nI_toInt (by omega), nI_toInt (by omega), nI_toInt (by omega)]
  omega
theorem m_20_num {p j : Int32} (p0 : 0 ≤ p) (p6 : p < 6) (j0 : 0 ≤ j) (j1 : j ≤ 20) : (p * 20 + j).toInt = 20 * p.toInt + j.toInt := by
  obtain ⟨a, ha, rfl⟩ := m_nat (x := p) (M := 5) p0 (show p ≤ (5 : Int32) by (simp only [ne_eq, i_lt, i_le, i_eq, i_add, i_sub, i_neg, i_mul, Int32.reduceToInt] at *; omega)) (by decide)
  obtain ⟨c, hc, rfl⟩ := m_nat (x := j) (M := 20) j0 j1 (by decide)
  rw [show (20 : Int32) = nI 20 from rfl, pk_mul, nI_add, nI_toInt (by omega), nI_toInt (by omega), nI_toInt (by omega)]
  omega
theorem m_la_0 (L : Int32) : zM_lineAt 0 L = 132 + L := by
  unfold zM_lineAt
  grind
/-- the lines of the component (a ring) and of the reference (the last one first) -/
def m_L (S : fd_S) (g : Int32 → Int32) : Prop :=
  (0 ≤ S 5 2 ∧ S 5 2 < 6) ∧ S 5 3 = g 70 ∧ ∀ i : Int32, 0 ≤ i → i < 6 → (0 ≤ g (m_ll i) ∧ g (m_ll i) ≤ 20) ∧ S 7 (m_pp (S 5 2) i) = g (m_ll i) ∧ ∀ j : Int32, 0 ≤ j → j < g (m_ll i) → S 6 (m_pp (S 5 2) i * 20 + j) = g (zM_lineAt i j)
theorem m_L_congr {S S1 : fd_S} {g g1 : Int32 → Int32} (h : m_L S g) (e5 : S1 5 = S 5) (e6 : S1 6 = S 6) (e7 : S1 7 = S 7) (e70 : g1 70 = g 70) (hg : ∀ j : Int32, 131 ≤ j → g1 j = g j) : m_L S1 g1 := by
  unfold m_L
  rw [e5, e6, e7, e70]
  refine ⟨h.1, h.2.1, fun i i0 i6 => ?_⟩
  have hi := h.2.2 i i0 i6
  have hl := m_ll_num i0 i6
  have e1 : g1 (m_ll i) = g (m_ll i) := hg _ (by clear hi h; (simp only [ne_eq, i_lt, i_le, i_eq, i_add, i_sub, i_neg, i_mul, Int32.reduceToInt] at *; omega))
  rw [e1]
  refine ⟨hi.1, hi.2.1, fun j j0 j1 => ?_⟩
  have ha := m_la_num i0 i6 j0 (show j ≤ 100 by have := hi.1; clear hi h; (simp only [ne_eq, i_lt, i_le, i_eq, i_add, i_sub, i_neg, i_mul, Int32.reduceToInt] at *; omega))
  rw [hg _ (by clear hi h; (simp only [ne_eq, i_lt, i_le, i_eq, i_add, i_sub, i_neg, i_mul, Int32.reduceToInt] at *; omega))]
  exact hi.2.2 j j0 j1
def m_wr (g : Int32 → Int32) (c : Int32) : Int32 → Int32 := m_gu (m_gu g (132 + g 131) c) 131 (g 131 + 1)
theorem m_wr_lo {g : Int32 → Int32} {c j : Int32} (h : 0 ≤ g 131 ∧ g 131 ≤ 100) (hj : j < 131) : m_wr g c j = g j := by
  unfold m_wr m_gu
  rw [if_neg (by (simp only [ne_eq, i_lt, i_le, i_eq, i_add, i_sub, i_neg, i_mul, Int32.reduceToInt] at *; omega)), if_neg (by (simp only [ne_eq, i_lt, i_le, i_eq, i_add, i_sub, i_neg, i_mul, Int32.reduceToInt] at *; omega))]
theorem m_wr_131 {g : Int32 → Int32} {c : Int32} : m_wr g c 131 = g 131 + 1 := by
  unfold m_wr m_gu
  rw [if_pos rfl]
theorem zM_write_eq {S : fd_S} {g : Int32 → Int32} {c : Int32} (h : 0 ≤ g 131 ∧ g 131 ≤ 100) : zM_write (fd_sg S g) c = some (fd_sg S (m_wr g c)) := by
  unfold zM_write
  simp only [sg_78, fd_lt, sg_up, m_la_0]
  rw [if_pos (by (simp only [ne_eq, i_lt, i_le, i_eq, i_add, i_sub, i_neg, i_mul, Int32.reduceToInt] at *; omega))]
  have e : m_gu g (132 + g 131) c 131 = g 131 := by
    unfold m_gu
    rw [if_neg (by (simp only [ne_eq, i_lt, i_le, i_eq, i_add, i_sub, i_neg, i_mul, Int32.reduceToInt] at *; omega))]
  rw [e]
  rfl
theorem m_put {S : fd_S} {g : Int32 → Int32} {c : Int32} (h : m_L S g) (hlen : g 131 < 20) : ∃ S1, zL_put S c = some S1 ∧ m_L S1 (m_wr g c) ∧ (∀ k : Nat, k ≠ 6 → k ≠ 7 → S1 k = S k) := by
  obtain ⟨hv, h53, hi⟩ := h
  have h0 := hi 0 (by decide) (by decide)
  rw [m_pp_0 hv.1, show m_ll 0 = 131 by decide] at h0
  have hL := h0.1
  unfold zL_put
  simp only [fd_lt]
  rw [if_pos hv, h0.2.1]
  have n20 := m_20_num hv.1 hv.2 hL.1 hL.2
  rw [if_neg (by clear hi h0; (simp only [ne_eq, i_lt, i_le, i_eq, i_add, i_sub, i_neg, i_mul, Int32.reduceToInt] at *; omega)), if_pos (by clear hi h0; simp only [i_lt, i_le, n20, Int32.reduceToInt] at *; omega)]
  have e5 : fd_up S 6 (S 5 2 * 20 + g 131) c 5 2 = S 5 2 := by rw [fd_up_ne (by decide)]
  rw [e5, if_pos hv]
  refine ⟨_, rfl, ?_, fun k h6 h7 => by rw [fd_up_ne h7, fd_up_ne h6]⟩
  generalize hS1 : fd_up (fd_up S 6 (S 5 2 * 20 + g 131) c) 7 (S 5 2) (g 131 + 1) = S1
  have s5 : S1 5 = S 5 := by rw [← hS1, fd_up_ne (by decide), fd_up_ne (by decide)]
  have s7 : ∀ b, S1 7 b = if b = S 5 2 then g 131 + 1 else S 7 b := by
    intro b
    rw [← hS1, fd_up_at, fd_up_ne (by decide)]
  have s6 : ∀ b, S1 6 b = if b = S 5 2 * 20 + g 131 then c else S 6 b := by
    intro b
    rw [← hS1, fd_up_ne (by decide), fd_up_at]
  unfold m_L
  rw [s5]
  refine ⟨hv, by rw [m_wr_lo ⟨hL.1, by clear hi h0; (simp only [ne_eq, i_lt, i_le, i_eq, i_add, i_sub, i_neg, i_mul, Int32.reduceToInt] at *; omega)⟩ (by decide)]; exact h53, fun i i0 i6 => ?_⟩
  have hii := hi i i0 i6
  have hln := m_ll_num i0 i6
  have hpr := m_pp_rg hv.1 hv.2 i0 i6
  by_cases c0 : i = 0
  · subst c0
    rw [show m_ll 0 = 131 by decide, m_wr_131, m_pp_0 hv.1]
    refine ⟨by clear hi h0 hii; (simp only [ne_eq, i_lt, i_le, i_eq, i_add, i_sub, i_neg, i_mul, Int32.reduceToInt] at *; omega), by rw [s7, if_pos rfl], fun j j0 j1 => ?_⟩
    have nj := m_20_num hv.1 hv.2 j0 (show j ≤ 20 by clear hi h0 hii; (simp only [ne_eq, i_lt, i_le, i_eq, i_add, i_sub, i_neg, i_mul, Int32.reduceToInt] at *; omega))
    have hla := m_la_num (show (0 : Int32) ≤ 0 by decide) (by decide) j0 (show j ≤ 100 by clear hi h0 hii; (simp only [ne_eq, i_lt, i_le, i_eq, i_add, i_sub, i_neg, i_mul, Int32.reduceToInt] at *; omega))
    rw [s6]
    unfold m_wr m_gu
    by_cases cj : j = g 131
    · rw [if_pos (by rw [cj]), if_neg (by clear hi h0 hii s6 s7; (simp only [ne_eq, i_lt, i_le, i_eq, i_add, i_sub, i_neg, i_mul, Int32.reduceToInt] at *; omega)), if_pos (by rw [cj, m_la_0])]
    · rw [if_neg (fun z => cj (by rw [i_eq, nj, n20] at z; rw [i_eq]; omega)), if_neg (by clear hi h0 hii s6 s7; (simp only [ne_eq, i_lt, i_le, i_eq, i_add, i_sub, i_neg, i_mul, Int32.reduceToInt] at *; omega)), if_neg (fun z => cj (by rw [m_la_0] at z; clear hi h0 hii s6 s7; (simp only [ne_eq, i_lt, i_le, i_eq, i_add, i_sub, i_neg, i_mul, Int32.reduceToInt] at *; omega)))]
      exact h0.2.2 j j0 (by clear hi h0 hii s6 s7; (simp only [ne_eq, i_lt, i_le, i_eq, i_add, i_sub, i_neg, i_mul, Int32.reduceToInt] at *; omega))
  · have hne : m_pp (S 5 2) i ≠ S 5 2 := by
      intro z
      rw [← m_pp_0 hv.1] at z
      have := m_pp_inj hv.1 hv.2 i0 i6 (by decide) (by decide) (show m_pp (S 5 2) i = m_pp (S 5 2) 0 by rw [m_pp_0 hv.1] at z ⊢; exact z)
      exact c0 this
    have hi1 : 1 ≤ i.toInt := by clear hi h0 hii s6 s7 hne; (simp only [ne_eq, i_lt, i_le, i_eq, i_add, i_sub, i_neg, i_mul, Int32.reduceToInt] at *; omega)
    have w : ∀ x : Int32, 155 ≤ x.toInt → m_wr g c x = g x := by
      intro x hx
      unfold m_wr m_gu
      rw [if_neg (by clear hi h0 hii s6 s7; (simp only [ne_eq, i_lt, i_le, i_eq, i_add, i_sub, i_neg, i_mul, Int32.reduceToInt] at *; omega)), if_neg (by clear hi h0 hii s6 s7; (simp only [ne_eq, i_lt, i_le, i_eq, i_add, i_sub, i_neg, i_mul, Int32.reduceToInt] at *; omega))]
    rw [w _ (by omega), s7, if_neg hne]
    refine ⟨hii.1, hii.2.1, fun j j0 j1 => ?_⟩
    have j20 : j ≤ 20 ∧ j ≤ 100 := by have := hii.1; clear hi h0 hii s6 s7; (simp only [ne_eq, i_lt, i_le, i_eq, i_add, i_sub, i_neg, i_mul, Int32.reduceToInt] at *; omega)
    have hla := m_la_num i0 i6 j0 j20.2
    have nj := m_20_num hpr.1 hpr.2 j0 j20.1
    have j19 : j.toInt < 20 := by have := hii.1; clear hi h0 hii s6 s7; (simp only [ne_eq, i_lt, i_le, i_eq, i_add, i_sub, i_neg, i_mul, Int32.reduceToInt] at *; omega)
    have L19 : (g 131).toInt < 20 := by clear hi h0 hii s6 s7; (simp only [ne_eq, i_lt, i_le, i_eq, i_add, i_sub, i_neg, i_mul, Int32.reduceToInt] at *; omega)
    have L0 : 0 ≤ (g 131).toInt := by clear hi h0 hii s6 s7; (simp only [ne_eq, i_lt, i_le, i_eq, i_add, i_sub, i_neg, i_mul, Int32.reduceToInt] at *; omega)
    have j00 : 0 ≤ j.toInt := by clear hi h0 hii s6 s7; (simp only [ne_eq, i_lt, i_le, i_eq, i_add, i_sub, i_neg, i_mul, Int32.reduceToInt] at *; omega)
    rw [w _ (by omega), s6, if_neg (fun z => hne (by rw [i_eq, nj, n20] at z; rw [i_eq]; omega))]
    exact hii.2.2 j j0 j1
