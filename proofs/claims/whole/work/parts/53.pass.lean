/-! ===== pass ===== -/
theorem m_held_loop {fu : Nat} {S S' : fd_S} {g : Int32 → Int32} (hR : m_R S g) (hG : m_GR g) : ∀ (n : Nat) (v i : Int32), m_ms (g 64) i < n → 0 ≤ i → i ≤ g 64 → ∃ r, zQ_heldOnes_4 fu n S v i = some r ∧ zM_heldOnes_4 fu n (fd_sg S' g) v i = some r := by
  have h64 := hR.2.2.1
  intro n
  induction n with
  | zero => intro v i h; omega
  | succ n ih =>
    intro v i hn i0 i1
    rw [zQ_heldOnes_4, zM_heldOnes_4]
    simp only [fd_lt, sg_78, m_rc]
    rw [hR.2.1]
    by_cases ci : g 64 ≤ i
    · rw [if_pos ci, if_pos ci]
      exact ⟨v, rfl, rfl⟩
    have il : i < g 64 ∧ i < 6 ∧ 0 ≤ i + 1 ∧ i + 1 ≤ g 64 := by clear hR hG ih; (simp only [ne_eq, i_lt, i_le, i_eq, i_add, i_sub, i_neg, i_mul, Int32.reduceToInt] at *; omega)
    have hms := m_ms_up ci
    have hv := (hR.2.2.2.1 i i0 il.1).2.2.2.1
    have hgr := (hG.1 i i0 il.1).2.2.2.1
    unfold m_cV at hv
    rw [if_neg ci, if_neg ci, if_pos ⟨i0, il.2.1⟩, zM_isHeld_eq i0 il.2.1, Option.bind_some, Int32.add_zero]
    change ∃ r, (if fd_rk (m_rw S i) then (if (S (m_rw S i) 3) = 0 then _ else _) else _) = _ ∧ _
    rw [if_pos (hR.1.rk i0 il.2.1), hv]
    by_cases c0 : g (zM_at i 3) = 0
    · rw [if_pos c0, if_neg (show ¬ g (zM_at i 3) = 1 by rw [c0]; decide), if_pos rfl]
      exact ih v (i + 1) (by omega) il.2.2.1 il.2.2.2
    · have c1 : g (zM_at i 3) = 1 := hgr.elim (fun z => absurd z c0) id
      rw [if_neg c0, if_pos c1, if_neg (show ¬ (1 : Int32) = 0 by decide)]
      exact ih (v + 1) (i + 1) (by omega) il.2.2.1 il.2.2.2
theorem m_heldOnes {fu : Nat} {S S' : fd_S} {g : Int32 → Int32} (hfu : 10000 ≤ fu) (hR : m_R S g) (hG : m_GR g) : ∃ r, zQ_heldOnes fu S = some r ∧ zM_heldOnes fu (fd_sg S' g) = some r :=
  m_held_loop hR hG fu 0 0 (m_ms_fu (by decide) (Int32.le_trans hR.2.2.1.2 (by decide)) hfu) (by decide) hR.2.2.1.1
theorem m_pass_loop {fu : Nat} {S' : fd_S} {x : Int32} (hfu : 10000 ≤ fu) (hK : m_K S') (hx : 1 ≤ x ∧ x ≤ 200) : ∀ (n : Nat) (S : fd_S) (g : Int32 → Int32) (i : Int32), m_ms x i < n → 0 ≤ i → i ≤ x → m_St S g → m_Go g → (g 63).toInt ≤ 499000 + i.toInt → (0 ≤ g 70 ∧ (g 70).toInt ≤ 1100000 + 6 * i.toInt) →
    ∃ r S1 g2, zF_pass_16 fu n S x i = some (r, S1) ∧ zM_pass_16 fu n (fd_sg S' g) x i = some (r, fd_sg S' g2) ∧ m_St S1 g2 ∧ m_Go g2 ∧ (g2 63).toInt ≤ (g 63).toInt + (x.toInt - i.toInt) ∧ ((g 70).toInt ≤ (g2 70).toInt ∧ (g2 70).toInt ≤ (g 70).toInt + 6 * (x.toInt - i.toInt)) ∧ ∀ k : Nat, 23 ≤ k → S1 k = S k := by
  intro n
  induction n with
  | zero => intro S g i h; omega
  | succ n ih =>
    intro S g i hn i0 i1 hS hg ht h70
    by_cases ci : x ≤ i
    · obtain ⟨r, r1, r2⟩ := m_heldOnes (S' := S') hfu hS.R hg.R
      rw [zF_pass_16, zM_pass_16, if_pos ci, if_pos ci, r1, r2]
      refine ⟨r, S, g, rfl, rfl, hS, hg, ?_, ?_, fun _ _ => rfl⟩
      · have := i_le.mp i1
        omega
      · have := i_le.mp i1
        omega
    · have hms := m_ms_up ci
      have il : 0 ≤ i + 1 ∧ i + 1 ≤ x ∧ (i + 1).toInt = i.toInt + 1 := by clear hS hg ih hK; (simp only [ne_eq, i_lt, i_le, i_eq, i_add, i_sub, i_neg, i_mul, Int32.reduceToInt] at *; omega)
      have ht2 : g 63 ≤ 499999 := by clear hS hg ih hK; (simp only [ne_eq, i_lt, i_le, i_eq, i_add, i_sub, i_neg, i_mul, Int32.reduceToInt] at *; omega)
      have ht0 := hg.t
      obtain ⟨S1, g1, a1, a2, a3, a4, a5, ⟨c, hc, a70⟩, a6⟩ := m_nextTick (S' := S') hfu hS hg hK ht2
      have e63 : (g1 63).toInt = (g 63).toInt + 1 := by
        rw [a5]
        clear hS hg ih hK a1 a2 a3 a4 a5 a6 a70
        (simp only [ne_eq, i_lt, i_le, i_eq, i_add, i_sub, i_neg, i_mul, Int32.reduceToInt] at *; omega)
      have e70 : (g1 70).toInt = (g 70).toInt + c := by
        have e := nI_toInt (n := c) (by omega)
        have i2 := i_le.mp hx.2
        have i3 := i_lt.mp (Int32.not_le.mp ci)
        rw [a70, i_add, e]
        clear hS hg ih hK a1 a2 a3 a4 a5 a6 a70 e
        (simp only [ne_eq, i_lt, i_le, i_eq, i_add, i_sub, i_neg, i_mul, Int32.reduceToInt] at *; omega)
      obtain ⟨r, S2, g2, b1, b2, b3, b4, b5, b50, b6⟩ := ih S1 g1 (i + 1) (by omega) il.1 il.2.1 a3 a4 (by omega) ⟨by have := i_le.mp h70.1; rw [i_le]; simp only [Int32.reduceToInt] at *; omega, by omega⟩
      rw [zF_pass_16, if_neg ci, a1, Option.bind_some, a2 n x i ci]
      exact ⟨r, S2, g2, b1, b2, b3, b4, by omega, by omega, fun k hk => by rw [b6 k hk, a6 k hk]⟩
theorem m_pass {fu : Nat} {x : Int32} (hfu : 10000 ≤ fu) : m_X (fun S => zF_pass fu S x) (fun S => zM_pass fu S x) := by
  intro S S' g hS hg hK ht h70
  dsimp only
  unfold zF_pass zM_pass
  by_cases c : 1 ≤ x ∧ x ≤ 200
  · rw [if_neg (m_within1 c), if_neg (m_in1 c)]
    have ht' : (g 63).toInt ≤ 400000 := i_le.mp ht
    obtain ⟨r, S1, g2, a1, a2, a3, a4, a5, a50, a6⟩ := m_pass_loop (S' := S') hfu hK c fu S g 0 (m_ms_fu (by decide) (Int32.le_trans c.2 (by decide)) hfu) (by decide) (by clear hS hg hK; (simp only [ne_eq, i_lt, i_le, i_eq, i_add, i_sub, i_neg, i_mul, Int32.reduceToInt] at *; omega)) hS hg (by simp only [Int32.reduceToInt]; omega) ⟨h70.1, by have := i_le.mp h70.2; simp only [Int32.reduceToInt] at this ⊢; omega⟩
    have := i_le.mp c.2
    simp only [Int32.reduceToInt] at a5 a50 this
    exact ⟨r, S1, g2, a1, a2, a3, a4, by omega, by omega, a6⟩
  · rw [if_pos (m_within0 c), if_pos (m_in0 c)]
    exact m_X0 rfl rfl hS hg
