/-! ===== announce, withdraw ===== -/
/-- two calls that answer alike and keep what is kept -/
def m_X (c m : fd_S → Option (Int32 × fd_S)) : Prop := ∀ (S S' : fd_S) (g : Int32 → Int32), m_St S g → m_Go g → m_K S' → g 63 ≤ 400000 → (0 ≤ g 70 ∧ g 70 ≤ 1100000) →
  ∃ r S1 g2, c S = some (r, S1) ∧ m (fd_sg S' g) = some (r, fd_sg S' g2) ∧ m_St S1 g2 ∧ m_Go g2 ∧ (g2 63).toInt ≤ (g 63).toInt + 200 ∧ ((g 70).toInt ≤ (g2 70).toInt ∧ (g2 70).toInt ≤ (g 70).toInt + 2000) ∧ ∀ k : Nat, 23 ≤ k → S1 k = S k
theorem m_X0 {S S' : fd_S} {g : Int32 → Int32} {r : Int32} {c m : Option (Int32 × fd_S)} (h1 : c = some (r, S)) (h2 : m = some (r, fd_sg S' g)) (hS : m_St S g) (hg : m_Go g) : ∃ r S1 g2, c = some (r, S1) ∧ m = some (r, fd_sg S' g2) ∧ m_St S1 g2 ∧ m_Go g2 ∧ (g2 63).toInt ≤ (g 63).toInt + 200 ∧ ((g 70).toInt ≤ (g2 70).toInt ∧ (g2 70).toInt ≤ (g 70).toInt + 2000) ∧ ∀ k : Nat, 23 ≤ k → S1 k = S k := ⟨r, S, g, h1, h2, hS, hg, by omega, by omega, fun _ _ => rfl⟩
theorem m_70 {a : Int32} (h : 0 ≤ a ∧ a ≤ 1100000) : a.toInt ≤ (a + 1).toInt ∧ (a + 1).toInt ≤ a.toInt + 2000 := by (simp only [ne_eq, i_lt, i_le, i_eq, i_add, i_sub, i_neg, i_mul, Int32.reduceToInt] at *; omega)
theorem m_in0 {a b c : Int32} (h : ¬ (b ≤ a ∧ a ≤ c)) : zM_in a b c = 0 := by
  rw [← zF_in]
  exact m_within0 h
theorem m_in1 {a b c : Int32} (h : b ≤ a ∧ a ≤ c) : ¬ zM_in a b c = 0 := by
  rw [← zF_in]
  exact m_within1 h
theorem m_isRoute (a b : Int32) : (zF_isRoute a b = 0 ∧ zM_isRoute a b = 0) ∨ (¬ zF_isRoute a b = 0 ∧ ¬ zM_isRoute a b = 0 ∧ (0 ≤ a ∧ a < 4) ∧ (0 ≤ b ∧ b < 8)) := by
  rw [show zM_isRoute a b = zF_isRoute a b from rfl]
  unfold zF_isRoute
  by_cases c1 : 0 ≤ a ∧ a ≤ 3
  · by_cases c2 : 0 ≤ b ∧ b ≤ 7
    · right
      rw [if_neg (m_within1 c1), if_neg (m_within1 c2)]
      refine ⟨by decide, by decide, ?_, ?_⟩ <;> (simp only [ne_eq, i_lt, i_le, i_eq, i_add, i_sub, i_neg, i_mul, Int32.reduceToInt] at *; omega)
    · left
      rw [if_neg (m_within1 c1), if_pos (m_within0 c2)]
      exact ⟨rfl, rfl⟩
  · left
    rw [if_pos (m_within0 c1)]
    exact ⟨rfl, rfl⟩
theorem m_routeOf (a b : Int32) : zF_routeOf a b = 8 * a + b := by
  unfold zF_routeOf
  rw [Int32.mul_comm]
theorem m_announce {fu : Nat} {a b p q : Int32} (hfu : 10000 ≤ fu) : m_X (fun S => zF_announce fu S a b p q) (fun S => zM_announce fu S a b p q) := by
  intro S S' g hS hg hK ht h70
  dsimp only
  unfold zF_announce zM_announce
  rcases m_isRoute a b with ⟨h1, h2⟩ | ⟨h1, h2, ha, hb⟩
  · rw [if_pos h1, if_pos h2]
    exact m_X0 rfl rfl hS hg
  rw [if_neg h1, if_neg h2]
  by_cases cp : ¬ (0 ≤ p ∧ p ≤ 9)
  · rw [if_pos (m_within0 cp), if_pos (m_in0 cp)]
    exact m_X0 rfl rfl hS hg
  have cp := Decidable.not_not.mp cp
  rw [if_neg (m_within1 cp), if_neg (m_in1 cp)]
  by_cases cq : ¬ (0 ≤ q ∧ q ≤ 99)
  · rw [if_pos (m_within0 cq), if_pos (m_in0 cq)]
    exact m_X0 rfl rfl hS hg
  have cq := Decidable.not_not.mp cq
  rw [if_neg (m_within1 cq), if_neg (m_in1 cq)]
  simp only [fd_lt, sg_78, sg_up, Int32.zero_add, m_routeOf]
  have hx := (b_8 ha.1 ha.2 hb.1 hb.2).2
  have hx2 : 0 ≤ 8 * a + b ∧ 8 * a + b < 275 := ⟨hx.1, Int32.lt_trans hx.2 (by decide)⟩
  rw [if_pos hx, if_pos hx2, if_pos hx2, hS.Q _ hx.1 hx.2]
  by_cases c : g (8 * a + b) = p
  · rw [if_pos c, if_pos c]
    exact m_X0 rfl rfl hS hg
  rw [if_neg c, if_neg c]
  have hp6 : ¬ p = -6 := by clear hS hg hK h1 h2; (simp only [ne_eq, i_lt, i_le, i_eq, i_add, i_sub, i_neg, i_mul, Int32.reduceToInt] at *; omega)
  generalize hxx : 8 * a + b = x at *
  have e0 : m_gc (m_gu g x p) x p = m_wr (m_wr (m_bl (m_gu g x p) 65 x) 58) (48 + p) := by unfold m_gc; rw [if_neg hp6]
  rw [zM_beginLine_eq hfu, Option.bind_some, zM_write_eq (by rw [m_bl_131]; decide), Option.bind_some, zM_write_eq (by rw [m_wr_131, m_bl_131]; decide), Option.bind_some, ← e0]
  have hgc := (m_gc_ok (g := m_gu g x p) (x := x) (path := p)).2
  have e35 : m_gc (m_gu g x p) x p 35 = g 35 := by
    rw [hgc 35 (by decide), if_neg (by decide)]
    unfold m_gu
    rw [if_neg (by clear hS hg hK h1 h2 hgc; (simp only [ne_eq, i_lt, i_le, i_eq, i_add, i_sub, i_neg, i_mul, Int32.reduceToInt] at *; omega))]
  have hPx := hg.P x hx.1 hx.2
  by_cases cx : g x = -6
  · obtain ⟨e, S1, g2, a1, a2, a3, a4, a5, a70, a6⟩ := m_happen (S' := S') (w := 0) hfu hS hg hK (Int32.le_trans ht (by decide)) ha.1 ha.2 hb.1 hb.2 hxx.symm (Or.inr cp) cq.1 (by rw [if_neg hp6, if_pos cx])
    rw [if_neg (show ¬ 0 ≤ g x by rw [cx]; decide), a1, a2, Option.bind_some]
    exact ⟨e, S1, g2, rfl, rfl, a3, a4, by rw [a5]; omega, by rw [a70]; exact m_70 h70, a6⟩
  · obtain ⟨e, S1, g2, a1, a2, a3, a4, a5, a70, a6⟩ := m_happen (S' := S') (w := g 35) hfu hS hg hK (Int32.le_trans ht (by decide)) ha.1 ha.2 hb.1 hb.2 hxx.symm (Or.inr cp) cq.1 (by rw [if_neg hp6, if_neg cx])
    rw [if_pos (show 0 ≤ g x from hPx.elim (fun z => absurd z cx) (fun z => z.1)), zM_bd3, Option.bind_some, e35, a1, a2, Option.bind_some]
    exact ⟨e, S1, g2, rfl, rfl, a3, a4, by rw [a5]; omega, by rw [a70]; exact m_70 h70, a6⟩
theorem m_withdraw {fu : Nat} {a b q : Int32} (hfu : 10000 ≤ fu) : m_X (fun S => zF_withdraw fu S a b q) (fun S => zM_withdraw fu S a b q) := by
  intro S S' g hS hg hK ht h70
  dsimp only
  unfold zF_withdraw zM_withdraw
  rcases m_isRoute a b with ⟨h1, h2⟩ | ⟨h1, h2, ha, hb⟩
  · rw [if_pos h1, if_pos h2]
    exact m_X0 rfl rfl hS hg
  rw [if_neg h1, if_neg h2]
  by_cases cq : ¬ (0 ≤ q ∧ q ≤ 99)
  · rw [if_pos (m_within0 cq), if_pos (m_in0 cq)]
    exact m_X0 rfl rfl hS hg
  have cq := Decidable.not_not.mp cq
  rw [if_neg (m_within1 cq), if_neg (m_in1 cq)]
  simp only [fd_lt, sg_78, sg_up, Int32.zero_add, m_routeOf]
  have hx := (b_8 ha.1 ha.2 hb.1 hb.2).2
  have hx2 : 0 ≤ 8 * a + b ∧ 8 * a + b < 275 := ⟨hx.1, Int32.lt_trans hx.2 (by decide)⟩
  rw [if_pos hx, if_pos hx2, if_pos hx2, hS.Q _ hx.1 hx.2]
  by_cases c : g (8 * a + b) = -6
  · rw [if_pos c, if_neg (show ¬ 0 ≤ g (8 * a + b) by rw [c]; decide)]
    exact m_X0 rfl rfl hS hg
  have hPx := hg.P _ hx.1 hx.2
  rw [if_neg c, if_pos (show 0 ≤ g (8 * a + b) from hPx.elim (fun z => absurd z c) (fun z => z.1))]
  generalize hxx : 8 * a + b = x at *
  have e0 : m_gc (m_gu g x (-6)) x (-6) = m_bl (m_gu g x (-6)) 87 x := by unfold m_gc; rw [if_pos rfl]
  rw [zM_beginLine_eq hfu, Option.bind_some, ← e0]
  have hgc := (m_gc_ok (g := m_gu g x (-6)) (x := x) (path := -6)).2
  have e34 : m_gc (m_gu g x (-6)) x (-6) 34 = g 34 := by
    rw [hgc 34 (by decide), if_neg (by decide)]
    unfold m_gu
    rw [if_neg (by clear hS hg hK h1 h2 hgc; (simp only [ne_eq, i_lt, i_le, i_eq, i_add, i_sub, i_neg, i_mul, Int32.reduceToInt] at *; omega))]
  obtain ⟨e, S1, g2, a1, a2, a3, a4, a5, a70, a6⟩ := m_happen (S' := S') (w := g 34) hfu hS hg hK (Int32.le_trans ht (by decide)) ha.1 ha.2 hb.1 hb.2 hxx.symm (Or.inl rfl) cq.1 (by rw [if_pos rfl])
  rw [zM_bd2, Option.bind_some, e34, a1, a2, Option.bind_some]
  exact ⟨e, S1, g2, rfl, rfl, a3, a4, by rw [a5]; omega, by rw [a70]; exact m_70 h70, a6⟩
