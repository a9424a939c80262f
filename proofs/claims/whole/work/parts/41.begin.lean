/-! ===== another line ===== -/
def m_shl (g : Int32 → Int32) : Int32 → Int32 := fun j => if 155 ≤ j ∧ j < 275 then g (j - 24) else g j
def m_s2 (g : Int32 → Int32) (k : Int32) : Int32 → Int32 := fun j => if 155 ≤ j ∧ j ≤ 131 + k then g (j - 24) else g j
def m_b0 (h : Int32 → Int32) : Int32 → Int32 := m_gu (m_gu h 131 0) 70 (h 70 + 1)
def m_b3 (h : Int32 → Int32) (c x : Int32) : Int32 → Int32 := m_wr (m_wr (m_wr (m_b0 h) c) (48 + x / 8)) (48 + fd_rem x 8)
def m_bl (g : Int32 → Int32) (c x : Int32) : Int32 → Int32 := m_b3 (m_shl g) c x
theorem m_b0_131 (h : Int32 → Int32) : m_b0 h 131 = 0 := by
  unfold m_b0 m_gu
  rw [if_neg (by decide), if_pos rfl]
theorem m_wr_131' {g : Int32 → Int32} {c v : Int32} (h : g 131 = v) : m_wr g c 131 = v + 1 := by rw [m_wr_131, h]
theorem m_bl_loop {fu : Nat} {S : fd_S} {c x : Int32} : ∀ (n : Nat) (g : Int32 → Int32) (k : Int32), m_md 24 k < n → 23 ≤ k → k ≤ 143 → zM_beginLine_4 fu n (fd_sg S g) c x k = some (fd_sg S (m_b3 (m_s2 g k) c x)) := by
  intro n
  induction n with
  | zero => intro g k h; omega
  | succ n ih =>
    intro g k hn h1 h2
    rw [zM_beginLine_4]
    simp only [fd_lt, sg_78, sg_up]
    by_cases c1 : k < 24
    · rw [if_pos c1]
      have e1 : m_gu g 131 0 70 = g 70 := by unfold m_gu; rw [if_neg (by decide)]
      have e2 : m_s2 g k = g := by
        funext j
        unfold m_s2
        rw [if_neg (by clear ih; (simp only [ne_eq, i_lt, i_le, i_eq, i_add, i_sub, i_neg, i_mul, Int32.reduceToInt] at *; omega))]
      have b0 := m_b0_131 g
      have b1 := m_wr_131' (c := c) b0
      have b2 := m_wr_131' (c := 48 + x / 8) b1
      rw [e1, e2]
      change ((zM_write (fd_sg S (m_b0 g)) c).bind _) = _
      rw [zM_write_eq (by rw [b0]; decide), Option.bind_some, zM_write_eq (by rw [b1]; decide), Option.bind_some, zM_write_eq (by rw [b2]; decide), Option.bind_some]
      rfl
    · rw [if_neg c1, if_pos (by clear ih; (simp only [ne_eq, i_lt, i_le, i_eq, i_add, i_sub, i_neg, i_mul, Int32.reduceToInt] at *; omega)), if_pos (by clear ih; (simp only [ne_eq, i_lt, i_le, i_eq, i_add, i_sub, i_neg, i_mul, Int32.reduceToInt] at *; omega))]
      have hm := m_md_dn c1 (by decide)
      rw [ih _ (k + -1) (by omega) (by clear ih; (simp only [ne_eq, i_lt, i_le, i_eq, i_add, i_sub, i_neg, i_mul, Int32.reduceToInt] at *; omega)) (by clear ih; (simp only [ne_eq, i_lt, i_le, i_eq, i_add, i_sub, i_neg, i_mul, Int32.reduceToInt] at *; omega))]
      have e : m_s2 (m_gu g (131 + k) (g (131 + k - 24))) (k + -1) = m_s2 g k := by
        funext j
        unfold m_s2 m_gu
        clear ih
        by_cases cj : j = 131 + k
        · rw [if_neg (by (simp only [ne_eq, i_lt, i_le, i_eq, i_add, i_sub, i_neg, i_mul, Int32.reduceToInt] at *; omega)), if_pos cj, if_pos (by (simp only [ne_eq, i_lt, i_le, i_eq, i_add, i_sub, i_neg, i_mul, Int32.reduceToInt] at *; omega)), cj]
        · by_cases cr : 155 ≤ j ∧ j ≤ 131 + (k + -1)
          · rw [if_pos cr, if_neg (by (simp only [ne_eq, i_lt, i_le, i_eq, i_add, i_sub, i_neg, i_mul, Int32.reduceToInt] at *; omega)), if_pos (by (simp only [ne_eq, i_lt, i_le, i_eq, i_add, i_sub, i_neg, i_mul, Int32.reduceToInt] at *; omega))]
          · rw [if_neg cr, if_neg cj, if_neg (by (simp only [ne_eq, i_lt, i_le, i_eq, i_add, i_sub, i_neg, i_mul, Int32.reduceToInt] at *; omega))]
      rw [e]
theorem zM_beginLine_eq {fu : Nat} {S : fd_S} {g : Int32 → Int32} {c x : Int32} (hfu : 10000 ≤ fu) : zM_beginLine fu (fd_sg S g) c x = some (fd_sg S (m_bl g c x)) := by
  unfold zM_beginLine
  rw [m_bl_loop fu g 143 (m_md_fu (by decide) (by decide) hfu) (by decide) (by decide)]
  have e : m_s2 g 143 = m_shl g := by
    funext j
    unfold m_s2 m_shl
    by_cases cj : 155 ≤ j ∧ j < 275
    · rw [if_pos cj, if_pos (by (simp only [ne_eq, i_lt, i_le, i_eq, i_add, i_sub, i_neg, i_mul, Int32.reduceToInt] at *; omega))]
    · rw [if_neg cj, if_neg (by (simp only [ne_eq, i_lt, i_le, i_eq, i_add, i_sub, i_neg, i_mul, Int32.reduceToInt] at *; omega))]
  rw [e]
  rfl
theorem m_bl_131 {g : Int32 → Int32} {c x : Int32} : m_bl g c x 131 = 3 := by
  unfold m_bl m_b3
  rw [m_wr_131, m_wr_131, m_wr_131, m_b0_131]
  decide
theorem m_b0_lo {h : Int32 → Int32} {j : Int32} (hj : j < 131) (h70 : j ≠ 70) : m_b0 h j = h j := by
  unfold m_b0 m_gu
  rw [if_neg h70, if_neg (by (simp only [ne_eq, i_lt, i_le, i_eq, i_add, i_sub, i_neg, i_mul, Int32.reduceToInt] at *; omega))]
theorem m_shl_lo {g : Int32 → Int32} {j : Int32} (hj : j < 131) : m_shl g j = g j := by
  unfold m_shl
  rw [if_neg (by (simp only [ne_eq, i_lt, i_le, i_eq, i_add, i_sub, i_neg, i_mul, Int32.reduceToInt] at *; omega))]
theorem m_bl_lo {g : Int32 → Int32} {c x j : Int32} (hj : j < 131) : m_bl g c x j = if j = 70 then g 70 + 1 else g j := by
  have b0 := m_b0_131 (m_shl g)
  have b1 := m_wr_131' (c := c) b0
  have b2 := m_wr_131' (c := 48 + x / 8) b1
  unfold m_bl m_b3
  rw [m_wr_lo (by rw [b2]; decide) hj, m_wr_lo (by rw [b1]; decide) hj, m_wr_lo (by rw [b0]; decide) hj]
  by_cases c70 : j = 70
  · rw [if_pos c70, c70]
    unfold m_b0 m_gu
    rw [if_pos rfl, m_shl_lo (by decide)]
  · rw [if_neg c70, m_b0_lo hj c70, m_shl_lo hj]
theorem m_nx : ∀ a : Nat, a < 6 → fd_rem (nI a + 1) 6 = if nI a = 5 then 0 else nI a + 1 := by decide
theorem m_begin0 {S : fd_S} {g : Int32 → Int32} (h : m_L S g) : m_L (fd_up (fd_up (fd_up S 5 2 (fd_rem (S 5 2 + 1) 6)) 7 (fd_rem (S 5 2 + 1) 6) 0) 5 3 (S 5 3 + 1)) (m_b0 (m_shl g)) := by
  obtain ⟨hv, h53, hi⟩ := h
  have hnx : fd_rem (S 5 2 + 1) 6 = if S 5 2 = 5 then 0 else S 5 2 + 1 := by
    obtain ⟨a, ha, e⟩ := m_nat (x := S 5 2) (M := 5) hv.1 (show S 5 2 ≤ (5 : Int32) by have := hv.2; clear hi h53; (simp only [ne_eq, i_lt, i_le, i_eq, i_add, i_sub, i_neg, i_mul, Int32.reduceToInt] at *; omega)) (by decide)
    rw [e]
    exact m_nx a (by omega)
  generalize hv' : fd_rem (S 5 2 + 1) 6 = v' at hnx ⊢
  have hr' : 0 ≤ v' ∧ v' < 6 := by
    rw [hnx]
    clear hi h53
    split <;> (simp only [ne_eq, i_lt, i_le, i_eq, i_add, i_sub, i_neg, i_mul, Int32.reduceToInt] at *; omega)
  generalize hS1 : fd_up (fd_up (fd_up S 5 2 v') 7 v' 0) 5 3 (S 5 3 + 1) = S1
  have s52 : S1 5 2 = v' := by rw [← hS1, fd_up_at, if_neg (by decide), fd_up_ne (by decide), fd_up_at, if_pos rfl]
  have s53 : S1 5 3 = S 5 3 + 1 := by rw [← hS1, fd_up_at, if_pos rfl]
  have s7 : ∀ b, S1 7 b = if b = v' then 0 else S 7 b := by
    intro b
    rw [← hS1, fd_up_ne (by decide), fd_up_at, fd_up_ne (by decide)]
  have s6 : S1 6 = S 6 := by rw [← hS1, fd_up_ne (by decide), fd_up_ne (by decide), fd_up_ne (by decide)]
  unfold m_L
  rw [s52, s53]
  refine ⟨hr', ?_, fun i i0 i6 => ?_⟩
  · rw [h53]
    unfold m_b0 m_gu
    rw [if_pos rfl, m_shl_lo (by decide)]
  · by_cases c0 : i = 0
    · subst c0
      rw [show m_ll 0 = 131 by decide, m_b0_131, m_pp_0 hr'.1, s7, if_pos rfl]
      exact ⟨by decide, rfl, fun j j0 j1 => by clear hi; (simp only [ne_eq, i_lt, i_le, i_eq, i_add, i_sub, i_neg, i_mul, Int32.reduceToInt] at *; omega)⟩
    · have hi1 : 0 ≤ i - 1 ∧ i - 1 < 5 ∧ i - 1 < 6 := by clear hi h53; (simp only [ne_eq, i_lt, i_le, i_eq, i_add, i_sub, i_neg, i_mul, Int32.reduceToInt] at *; omega)
      have hii := hi (i - 1) hi1.1 hi1.2.2
      have hln := m_ll_num i0 i6
      have hi1' : 1 ≤ i.toInt := by clear hi h53 hii; (simp only [ne_eq, i_lt, i_le, i_eq, i_add, i_sub, i_neg, i_mul, Int32.reduceToInt] at *; omega)
      have hi6' : i.toInt < 6 := by clear hi h53 hii; (simp only [ne_eq, i_lt, i_le, i_eq, i_add, i_sub, i_neg, i_mul, Int32.reduceToInt] at *; omega)
      have epp : m_pp v' i = m_pp (S 5 2) (i - 1) := by
        clear hi hii h53
        unfold m_pp
        rw [hnx]
        split <;> split <;> split <;> (simp only [ne_eq, i_lt, i_le, i_eq, i_add, i_sub, i_neg, i_mul, Int32.reduceToInt] at *; omega)
      have w : ∀ y : Int32, 155 ≤ y.toInt → y.toInt < 275 → m_b0 (m_shl g) y = g (y - 24) := by
        intro y y1 y2
        unfold m_b0 m_gu m_shl
        rw [if_neg (by clear hi hii h53; (simp only [ne_eq, i_lt, i_le, i_eq, i_add, i_sub, i_neg, i_mul, Int32.reduceToInt] at *; omega)), if_neg (by clear hi hii h53; (simp only [ne_eq, i_lt, i_le, i_eq, i_add, i_sub, i_neg, i_mul, Int32.reduceToInt] at *; omega)), if_pos (by clear hi hii h53; (simp only [ne_eq, i_lt, i_le, i_eq, i_add, i_sub, i_neg, i_mul, Int32.reduceToInt] at *; omega))]
      have e1 : m_ll i - 24 = m_ll (i - 1) := by unfold m_ll; grind
      have hne : m_pp (S 5 2) (i - 1) ≠ v' := by
        intro z
        have e5 : v' = m_pp (S 5 2) 5 := by
          clear hi hii h53
          unfold m_pp
          rw [hnx]
          split <;> split <;> (simp only [ne_eq, i_lt, i_le, i_eq, i_add, i_sub, i_neg, i_mul, Int32.reduceToInt] at *; omega)
        rw [e5] at z
        have := m_pp_inj hv.1 hv.2 hi1.1 hi1.2.2 (by decide) (by decide) z
        clear hi hii h53
        (simp only [ne_eq, i_lt, i_le, i_eq, i_add, i_sub, i_neg, i_mul, Int32.reduceToInt] at *; omega)
      rw [w _ (by omega) (by omega), e1, epp, s7, if_neg hne, s6]
      refine ⟨hii.1, hii.2.1, fun j j0 j1 => ?_⟩
      have j20 : j ≤ 100 ∧ j.toInt < 20 := by have := hii.1; clear hi hii h53; (simp only [ne_eq, i_lt, i_le, i_eq, i_add, i_sub, i_neg, i_mul, Int32.reduceToInt] at *; omega)
      have j00 : 0 ≤ j.toInt := by clear hi hii h53; (simp only [ne_eq, i_lt, i_le, i_eq, i_add, i_sub, i_neg, i_mul, Int32.reduceToInt] at *; omega)
      have hla := m_la_num i0 i6 j0 j20.1
      have e2 : zM_lineAt i j - 24 = zM_lineAt (i - 1) j := by unfold zM_lineAt; grind
      rw [w _ (by omega) (by omega), e2]
      exact hii.2.2 j j0 j1
theorem m_begin {fu : Nat} {S : fd_S} {g : Int32 → Int32} {c x : Int32} (hfu : 10000 ≤ fu) (hL : m_L S g) (hx : 0 ≤ x ∧ x < 32) : ∃ S1, zL_begin fu S c x = some S1 ∧ m_L S1 (m_bl g c x) ∧ (∀ k : Nat, k ≠ 5 → k ≠ 6 → k ≠ 7 → S1 k = S k) := by
  have h0 := m_begin0 hL
  have hv := hL.1
  have hnx : fd_rem (S 5 2 + 1) 6 = if S 5 2 = 5 then 0 else S 5 2 + 1 := by
    obtain ⟨a, ha, e⟩ := m_nat (x := S 5 2) (M := 5) hv.1 (show S 5 2 ≤ (5 : Int32) by have := hv.2; clear hL h0; (simp only [ne_eq, i_lt, i_le, i_eq, i_add, i_sub, i_neg, i_mul, Int32.reduceToInt] at *; omega)) (by decide)
    rw [e]
    exact m_nx a (by omega)
  have hr' : 0 ≤ fd_rem (S 5 2 + 1) 6 ∧ fd_rem (S 5 2 + 1) 6 < 6 := by
    rw [hnx]
    clear hL h0
    split <;> (simp only [ne_eq, i_lt, i_le, i_eq, i_add, i_sub, i_neg, i_mul, Int32.reduceToInt] at *; omega)
  have hd : (0 ≤ x / 8 ∧ x / 8 < 10) ∧ (0 ≤ fd_rem x 8 ∧ fd_rem x 8 < 10) := by
    obtain ⟨a, ha, rfl⟩ := m_nat (x := x) (M := 31) hx.1 (show x ≤ (31 : Int32) by have := hx.2; clear hL h0; (simp only [ne_eq, i_lt, i_le, i_eq, i_add, i_sub, i_neg, i_mul, Int32.reduceToInt] at *; omega)) (by decide)
    rw [show (8 : Int32) = nI 8 from rfl, pk_div (by omega) (by omega) (by omega), m_rem (by omega) (by omega) (by omega), show (10 : Int32) = nI 10 from rfl]
    exact ⟨⟨nI_pos' (by omega), nI_lt (by omega) (by omega)⟩, nI_pos' (by omega), nI_lt (by omega) (by omega)⟩
  have b0 := m_b0_131 (m_shl g)
  have b1 := m_wr_131' (c := c) b0
  have b2 := m_wr_131' (c := 48 + x / 8) b1
  unfold zL_begin
  simp only [fd_lt]
  have e1 : fd_up S 5 2 (fd_rem (S 5 2 + 1) 6) 5 2 = fd_rem (S 5 2 + 1) 6 := by rw [fd_up_at, if_pos rfl]
  have e2 : fd_up (fd_up S 5 2 (fd_rem (S 5 2 + 1) 6)) 7 (fd_rem (S 5 2 + 1) 6) 0 5 3 = S 5 3 := by rw [fd_up_ne (by decide), fd_up_at, if_neg (by decide)]
  rw [e1, if_pos hr', e2]
  obtain ⟨S1, s1, s2, s3⟩ := m_put (c := c) h0 (by rw [b0]; decide)
  obtain ⟨S2, t1, t2, t3⟩ := m_num1 (x := x / 8) hfu hd.1.1 hd.1.2 s2 (by rw [b1]; decide)
  obtain ⟨S3, u1, u2, u3⟩ := m_num1 (x := fd_rem x 8) hfu hd.2.1 hd.2.2 t2 (by rw [b2]; decide)
  rw [s1, Option.bind_some, t1, Option.bind_some, u1, Option.bind_some]
  refine ⟨S3, rfl, u2, fun k h5 h6 h7 => ?_⟩
  rw [u3 k h6 h7, t3 k h6 h7, s3 k h6 h7, fd_up_ne h5, fd_up_ne h7, fd_up_ne h5]
