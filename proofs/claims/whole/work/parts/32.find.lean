/-! ===== find, recordOf ===== -/
def m_ix (g : Int32 → Int32) (r x : Int32) (N : Int32) : Prop := (r = -6 ∧ ∀ i : Int32, 0 ≤ i → i < N → ¬ g (zM_at i 0) = x) ∨ (0 ≤ r ∧ r < N ∧ g (zM_at r 0) = x)
theorem zM_recordOf_5_eq {fu : Nat} {S : fd_S} {g : Int32 → Int32} {x : Int32} (h64 : 0 ≤ g 64 ∧ g 64 ≤ 6) : ∀ (n : Nat) (r i : Int32), m_ms (g 64) i < n → 0 ≤ i → i ≤ g 64 → m_ix g r x i → ∃ r', zM_recordOf_5 fu n (fd_sg S g) x r i = some r' ∧ m_ix g r' x (g 64) := by
  intro n
  induction n with
  | zero => intro r i h; omega
  | succ n ih =>
    intro r i hn h0 h1 hr
    rw [zM_recordOf_5]
    simp only [sg_78, fd_lt]
    by_cases c1 : g 64 ≤ i
    · rw [if_pos c1]
      have : i = g 64 := by grind
      exact ⟨r, rfl, this ▸ hr⟩
    · rw [if_neg c1, if_pos (m_at_in h0 (by grind) (by decide) (by decide))]
      have hm := m_ms_up c1
      by_cases c2 : g (zM_at i 0) = x
      · rw [if_pos c2]
        exact ih i (i + 1) (by omega) (by grind) (by grind) (Or.inr ⟨h0, by grind, c2⟩)
      · rw [if_neg c2]
        refine ih r (i + 1) (by omega) (by grind) (by grind) ?_
        rcases hr with ⟨e, hr⟩ | hr
        · refine Or.inl ⟨e, fun j j0 j1 => ?_⟩
          by_cases hj : j = i
          · rw [hj]; exact c2
          · exact hr j j0 (by grind)
        · exact Or.inr ⟨hr.1, by grind, hr.2.2⟩
theorem zM_recordOf_eq {fu : Nat} {S : fd_S} {g : Int32 → Int32} (hfu : 10000 ≤ fu) (h64 : 0 ≤ g 64 ∧ g 64 ≤ 6) (x : Int32) : ∃ r, zM_recordOf fu (fd_sg S g) x = some r ∧ m_ix g r x (g 64) := by
  unfold zM_recordOf
  exact zM_recordOf_5_eq h64 fu (-6) 0 (m_ms_fu (by decide) (by grind) hfu) (by decide) h64.1 (Or.inl ⟨rfl, fun i h0 h1 => by grind⟩)
def m_fd (S : fd_S) (r : Int32) : Option Nat := if r < 0 then none else some (m_rw S r)
theorem zQ_find_2_eq {fu : Nat} {S : fd_S} {g : Int32 → Int32} {x r : Int32} (hR : m_R S g) (hG : m_GR g) (hr : m_ix g r x (g 64)) : ∀ (n : Nat) (i : Int32), m_ms (g 64) i < n → 0 ≤ i → i ≤ g 64 → (r < 0 ∨ i ≤ r) → zQ_find_2 fu n S x i = some (m_fd S r) := by
  obtain ⟨hrow, h31, h64, hV, -⟩ := hR
  intro n
  induction n with
  | zero => intro i h; omega
  | succ n ih =>
    intro i hn h0 h1 hri
    rw [zQ_find_2]
    simp only [fd_lt, h31, m_rc]
    by_cases c1 : g 64 ≤ i
    · rw [if_pos c1]
      unfold m_fd
      rw [if_pos (by unfold m_ix at hr; grind)]
    · rw [if_neg c1]
      have h6 : i < 6 := by grind
      have hv := (hV i h0 (by grind)).1
      have hk := hrow.rk h0 h6
      change fd_rk (8 + (S 4 i).toNatClampNeg) at hk
      change S (8 + (S 4 i).toNatClampNeg) 0 = _ at hv
      rw [if_pos ⟨h0, h6⟩, if_pos hk, hv]
      have hm := m_ms_up c1
      by_cases c2 : g (zM_at i 0) = x
      · rw [if_pos c2, if_pos ⟨h0, h6⟩]
        have hir : i = r := by
          rcases hr with ⟨-, hr⟩ | ⟨a, b, hr⟩
          · exact absurd c2 (hr i h0 (by grind))
          · exact hG.2 i r h0 (by grind) a b (c2.trans hr.symm)
        subst hir
        unfold m_fd
        rw [if_neg (by grind)]
        rfl
      · rw [if_neg c2]
        exact ih (i + 1) (by omega) (by grind) (by grind) (by
          rcases hri with h | h
          · exact Or.inl h
          · right
            have : i ≠ r := by
              intro e
              subst e
              rcases hr with ⟨e, -⟩ | ⟨-, -, hr⟩
              · subst e; grind
              · exact c2 hr
            grind)
theorem zQ_find_eq {fu : Nat} {S : fd_S} {g : Int32 → Int32} {x r : Int32} (hfu : 10000 ≤ fu) (hR : m_R S g) (hG : m_GR g) (hr : m_ix g r x (g 64)) : zQ_find fu S x = some (m_fd S r) := by
  unfold zQ_find
  have h64 := hR.2.2.1
  exact zQ_find_2_eq hR hG hr fu 0 (m_ms_fu (by decide) (by grind) hfu) (by decide) h64.1 (by unfold m_ix at hr; grind)
