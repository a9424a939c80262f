/-! ===== which routes are held ===== -/
def m_hd (g : Int32 → Int32) (x : Int32) : Prop := ∃ i : Int32, 0 ≤ i ∧ i < g 64 ∧ g (zM_at i 0) = x ∧ g (zM_at i 3) = 1
theorem m_hd_congr {g g1 : Int32 → Int32} (e64 : g1 64 = g 64) (h : ∀ i : Int32, 0 ≤ i → i < g 64 → g1 (zM_at i 0) = g (zM_at i 0) ∧ g1 (zM_at i 3) = g (zM_at i 3)) (x : Int32) : m_hd g1 x ↔ m_hd g x := by
  constructor
  · rintro ⟨i, i0, i1, a, b⟩
    rw [e64] at i1
    have := h i i0 i1
    exact ⟨i, i0, i1, by rw [← this.1]; exact a, by rw [← this.2]; exact b⟩
  · rintro ⟨i, i0, i1, a, b⟩
    have := h i i0 i1
    exact ⟨i, i0, by rw [e64]; exact i1, by rw [this.1]; exact a, by rw [this.2]; exact b⟩
theorem m_pm_sur {n r i : Int32} (hn : 1 ≤ n ∧ n ≤ 6) (hr : 0 ≤ r ∧ r < n) (i0 : 0 ≤ i) (i1 : i < n) (hi : i ≠ r) : ∃ j, 0 ≤ j ∧ j < n - 1 ∧ m_pm n r j = i := by
  by_cases c : i < r
  · refine ⟨i, i0, by (simp only [ne_eq, i_lt, i_le, i_eq, i_add, i_sub, i_neg, i_mul, Int32.reduceToInt] at *; omega), ?_⟩
    unfold m_pm
    rw [if_pos c]
  · refine ⟨i - 1, by (simp only [ne_eq, i_lt, i_le, i_eq, i_add, i_sub, i_neg, i_mul, Int32.reduceToInt] at *; omega), by (simp only [ne_eq, i_lt, i_le, i_eq, i_add, i_sub, i_neg, i_mul, Int32.reduceToInt] at *; omega), ?_⟩
    unfold m_pm
    rw [if_neg (by (simp only [ne_eq, i_lt, i_le, i_eq, i_add, i_sub, i_neg, i_mul, Int32.reduceToInt] at *; omega)), if_pos (by (simp only [ne_eq, i_lt, i_le, i_eq, i_add, i_sub, i_neg, i_mul, Int32.reduceToInt] at *; omega))]
    (simp only [ne_eq, i_lt, i_le, i_eq, i_add, i_sub, i_neg, i_mul, Int32.reduceToInt] at *; omega)
theorem m_hd_rm {g : Int32 → Int32} {r : Int32} (h64 : 1 ≤ g 64 ∧ g 64 ≤ 6) (hr : 0 ≤ r ∧ r < g 64) (hf : ¬ g (zM_at r 3) = 1) (x : Int32) : m_hd (m_rm g r) x ↔ m_hd g x := by
  have hr6 : 0 ≤ r ∧ r < 6 := by (simp only [ne_eq, i_lt, i_le, i_eq, i_add, i_sub, i_neg, i_mul, Int32.reduceToInt] at *; omega)
  unfold m_hd
  rw [m_rm_64 hr6]
  constructor
  · rintro ⟨i, i0, i1, a, b⟩
    have hp := m_pm_lo h64 hr i0 i1
    rw [m_rm_pm h64 hr6 i0 i1 (by decide) (by decide)] at a b
    exact ⟨_, hp.1, hp.2.1, a, b⟩
  · rintro ⟨i, i0, i1, a, b⟩
    obtain ⟨j, j0, j1, e⟩ := m_pm_sur h64 hr i0 i1 (fun z => hf (by rw [← z]; exact b))
    refine ⟨j, j0, j1, ?_, ?_⟩
    · rw [m_rm_pm h64 hr6 j0 j1 (by decide) (by decide), e]; exact a
    · rw [m_rm_pm h64 hr6 j0 j1 (by decide) (by decide), e]; exact b
theorem m_hd_mk {g : Int32 → Int32} {r : Int32} (h64 : 0 ≤ g 64 ∧ g 64 < 6) (x : Int32) : m_hd (m_mk g r) x ↔ m_hd g x := by
  unfold m_hd
  rw [m_mk_64 h64]
  constructor
  · rintro ⟨i, i0, i1, a, b⟩
    have i6 : i < 6 := by clear a b; (simp only [ne_eq, i_lt, i_le, i_eq, i_add, i_sub, i_neg, i_mul, Int32.reduceToInt] at *; omega)
    rw [m_mk_at h64 i0 i6 (by decide) (by decide)] at a b
    by_cases c : i = g 64
    · rw [if_pos c, if_neg (by decide), if_neg (by decide)] at b
      exact absurd b (by decide)
    · rw [if_neg c] at a b
      exact ⟨i, i0, by clear a b; (simp only [ne_eq, i_lt, i_le, i_eq, i_add, i_sub, i_neg, i_mul, Int32.reduceToInt] at *; omega), a, b⟩
  · rintro ⟨i, i0, i1, a, b⟩
    have i6 : i < 6 := by clear a b; (simp only [ne_eq, i_lt, i_le, i_eq, i_add, i_sub, i_neg, i_mul, Int32.reduceToInt] at *; omega)
    have c : i ≠ g 64 := by clear a b; (simp only [ne_eq, i_lt, i_le, i_eq, i_add, i_sub, i_neg, i_mul, Int32.reduceToInt] at *; omega)
    refine ⟨i, i0, by clear a b; (simp only [ne_eq, i_lt, i_le, i_eq, i_add, i_sub, i_neg, i_mul, Int32.reduceToInt] at *; omega), ?_, ?_⟩
    · rw [m_mk_at h64 i0 i6 (by decide) (by decide), if_neg c]; exact a
    · rw [m_mk_at h64 i0 i6 (by decide) (by decide), if_neg c]; exact b
theorem m_ix_hd {g : Int32 → Int32} {r x : Int32} (hG : m_GR g) (hr : m_ix g r x (g 64)) : m_hd g x ↔ (0 ≤ r ∧ g (zM_at r 3) = 1) := by
  constructor
  · rintro ⟨i, i0, i1, a, b⟩
    rcases hr with ⟨-, h⟩ | ⟨r0, r1, h⟩
    · exact absurd a (h i i0 i1)
    · have := hG.2 i r i0 i1 r0 r1 (a.trans h.symm)
      subst this
      exact ⟨r0, b⟩
  · rintro ⟨r0, b⟩
    rcases hr with ⟨e, -⟩ | ⟨r0, r1, h⟩
    · subst e
      exact absurd r0 (by decide)
    · exact ⟨r, r0, r1, h, b⟩
/-! ===== the first that is not held gives way ===== -/
theorem m_dff_loop {fu : Nat} {S S' : fd_S} {g : Int32 → Int32} {x : Int32} (hfu : 10000 ≤ fu) (hR : m_R S g) (hG : m_GR g) (h6 : g 64 = 6) :
    ∀ (n : Nat) (i : Int32), m_ms 6 i < n → 0 ≤ i → i ≤ 6 → (∀ j : Int32, 0 ≤ j → j < i → g (zM_at j 3) = 1) →
      ((∀ j : Int32, 0 ≤ j → j < 6 → g (zM_at j 3) = 1) ∧ zQ_dropFirstFree_2 fu n S i = some (0, S) ∧ zM_makeRecord_26 fu n (fd_sg S' g) x i = some (-6, fd_sg S' g)) ∨
      (∃ r S1, 0 ≤ r ∧ r < 6 ∧ g (zM_at r 3) = 0 ∧ zQ_dropFirstFree_2 fu n S i = some (1, S1) ∧ zM_makeRecord_26 fu n (fd_sg S' g) x i = zM_makeRecord_60 fu (fd_sg S' (m_rm g r)) x ∧ m_R S1 (m_rm g r) ∧ m_GR (m_rm g r) ∧ (∀ a : Nat, a ≠ 3 → a ≠ 4 → S1 a = S a) ∧ S1 3 2 = S 3 2 + 1) := by
  intro n
  induction n with
  | zero => intro i h; omega
  | succ n ih =>
    intro i hn i0 i6 hall
    rw [zQ_dropFirstFree_2, zM_makeRecord_26]
    simp only [fd_lt, hR.2.1, h6, m_rc]
    by_cases c1 : 6 ≤ i
    · have e : i = 6 := by clear ih hall; (simp only [ne_eq, i_lt, i_le, i_eq, i_add, i_sub, i_neg, i_mul, Int32.reduceToInt] at *; omega)
      rw [if_pos c1, if_pos c1, if_pos e]
      exact Or.inl ⟨fun j j0 j1 => hall j j0 (by clear ih hall; (simp only [ne_eq, i_lt, i_le, i_eq, i_add, i_sub, i_neg, i_mul, Int32.reduceToInt] at *; omega)), rfl, rfl⟩
    · have hi : i < 6 ∧ 0 ≤ i + 1 ∧ i + 1 ≤ 6 := by clear ih hall; (simp only [ne_eq, i_lt, i_le, i_eq, i_add, i_sub, i_neg, i_mul, Int32.reduceToInt] at *; omega)
      have hk := hR.1.rk i0 hi.1
      have hv := (hR.2.2.2.1 i i0 (by rw [h6]; exact hi.1)).2.2.2.1
      have hg := (hG.1 i i0 (by rw [h6]; exact hi.1)).2.2.2.1
      change fd_rk (8 + (S 4 i).toNatClampNeg) at hk
      change S (8 + (S 4 i).toNatClampNeg) 3 = _ at hv
      rw [if_neg c1, if_neg c1, if_pos ⟨i0, hi.1⟩, if_pos hk, hv, zM_isHeld_eq i0 hi.1]
      simp only [Option.bind_some]
      have hms := m_ms_up c1
      rcases hg with c2 | c2
      · obtain ⟨S1, s1, s2, s3, s4, s5, s6⟩ := m_drop (S' := S') hfu hR hG i0 (by rw [h6]; exact hi.1)
        rw [if_pos c2, show (if g (zM_at i 3) = 1 then (1 : Int32) else 0) = 0 by rw [c2]; rfl, if_pos rfl, if_neg (show ¬ i = 6 by clear ih hall; (simp only [ne_eq, i_lt, i_le, i_eq, i_add, i_sub, i_neg, i_mul, Int32.reduceToInt] at *; omega)), s1, s2]
        exact Or.inr ⟨i, S1, i0, hi.1, c2, rfl, rfl, s3, s4, s5, s6⟩
      · rw [if_neg (show ¬ g (zM_at i 3) = 0 by rw [c2]; decide), show (if g (zM_at i 3) = 1 then (1 : Int32) else 0) = 1 by rw [c2]; rfl, if_neg (show ¬ (1 : Int32) = 0 by decide)]
        refine ih (i + 1) (by omega) hi.2.1 hi.2.2 (fun j j0 j1 => ?_)
        by_cases hj : j = i
        · rw [hj]; exact c2
        · exact hall j j0 (by clear ih hall; (simp only [ne_eq, i_lt, i_le, i_eq, i_add, i_sub, i_neg, i_mul, Int32.reduceToInt] at *; omega))
/-- make and makeRecord, for a route that has no record -/
theorem m_make {fu : Nat} {S S' : fd_S} {g : Int32 → Int32} {x t : Int32} (hfu : 10000 ≤ fu) (hR : m_R S g) (hG : m_GR g) (ht : t = g 63) (ht0 : 0 ≤ g 63) (hx : 0 ≤ x ∧ x < 32) (hno : ∀ i : Int32, 0 ≤ i → i < g 64 → ¬ g (zM_at i 0) = x) :
    (zQ_make fu S x t = some (none, S) ∧ zM_makeRecord fu (fd_sg S' g) x = some (-6, fd_sg S' g)) ∨
    (∃ S1 g1 r, zQ_make fu S x t = some (some (m_rw S1 r), S1) ∧ zM_makeRecord fu (fd_sg S' g) x = some (r, fd_sg S' g1) ∧ 0 ≤ r ∧ r < g1 64 ∧ g1 (zM_at r 0) = x ∧ m_R S1 g1 ∧ m_GR g1 ∧ m_Fc S S1 ∧ m_Fg g g1 ∧ S1 3 2 - S 3 2 = g1 68 - g 68 ∧ ∀ y, m_hd g1 y ↔ m_hd g y) := by
  have h64 := hR.2.2.1
  have h31 := hR.2.1
  obtain ⟨r0, e0, i0⟩ := zM_recordOf_eq (S := S') hfu h64 x
  have hr0 : r0 = -6 := by
    rcases i0 with ⟨e, -⟩ | ⟨a, b, c⟩
    · exact e
    · exact absurd c (hno r0 a b)
  subst hr0
  unfold zQ_make zM_makeRecord
  rw [e0, Option.bind_some, if_pos (show (-6 : Int32) < 0 by decide), sg_78, h31]
  by_cases c6 : g 64 = 6
  · rw [if_pos c6, if_neg (by rw [c6]; decide)]
    unfold zQ_dropFirstFree
    rcases m_dff_loop (S' := S') (x := x) hfu hR hG c6 fu 0 (m_ms_fu (by decide) (by decide) hfu) (by decide) (by decide) (fun j j0 j1 => absurd j1 (by clear hno e0 i0; (simp only [ne_eq, i_lt, i_le, i_eq, i_add, i_sub, i_neg, i_mul, Int32.reduceToInt] at *; omega))) with ⟨-, a1, a2⟩ | ⟨r, S1, r0, r1, hr, a1, a2, a3, a4, a5, a6⟩
    · left
      rw [a1, a2]
      exact ⟨rfl, rfl⟩
    · right
      have hr6 : 0 ≤ r ∧ r < 6 := ⟨r0, r1⟩
      have h64' : 1 ≤ g 64 ∧ g 64 ≤ 6 := by rw [c6]; decide
      have e64 : m_rm g r 64 = 5 := by rw [m_rm_64 hr6, c6]; decide
      have e63 : m_rm g r 63 = g 63 := m_rm_out h64' hr6 (by decide) (by decide) (by decide)
      have hno1 : ∀ i : Int32, 0 ≤ i → i < m_rm g r 64 → ¬ m_rm g r (zM_at i 0) = x := by
        intro i i0 i1
        rw [m_rm_64 hr6] at i1
        have hp := m_pm_lo h64' ⟨r0, by rw [c6]; exact r1⟩ i0 i1
        rw [m_rm_pm h64' hr6 i0 i1 (by decide) (by decide)]
        exact hno _ hp.1 hp.2.1
      obtain ⟨S2, b1, b2, b3, b4, b5, b6, b7⟩ := m_make18 (S' := S') (t := t) hfu a3 a4 (by rw [e64]; decide) (by rw [e63]; exact ht) (by rw [e63]; exact ht0) hx hno1
      rw [a1, a2, b2]
      simp only [Option.bind_some, fd_pr]
      rw [if_neg (by decide), b1]
      have hn : 0 ≤ m_rm g r 64 ∧ m_rm g r 64 < 6 := by rw [e64]; decide
      refine ⟨S2, _, m_rm g r 64, ?_, rfl, hn.1, ?_, ?_, b3, b4, ?_, ?_, ?_, ?_⟩
      · rw [show m_rw S2 (m_rm g r 64) = m_rw S1 (m_rm g r 64) by unfold m_rw; rw [b7]]
      · rw [m_mk_64 hn, e64]; decide
      · rw [m_mk_at hn hn.1 hn.2 (by decide) (by decide), if_pos rfl, if_neg (by decide), if_pos rfl]
      · intro k hk
        rw [b5 k hk, a5 k (by omega) (by omega)]
      · intro j hj
        have hjj : (j < 71 ∨ 131 ≤ j) ∧ j ≠ 64 ∧ j ≠ 68 := by clear hno e0 i0 a1 a2 b1 b2 hno1; (simp only [ne_eq, i_lt, i_le, i_eq, i_add, i_sub, i_neg, i_mul, Int32.reduceToInt] at *; omega)
        rw [m_mk_out hn hjj.1 hjj.2.1, m_rm_out h64' hr6 hjj.1 hjj.2.1 hjj.2.2]
      · rw [b6, a6, m_mk_out hn (by decide) (by decide), m_rm_68 hr6]
        clear hno e0 i0 a1 a2 b1 b2 hno1
        grind
      · intro y
        rw [m_hd_mk hn, m_hd_rm h64' ⟨r0, by rw [c6]; exact r1⟩ (by rw [hr]; decide)]
  · right
    have h6 : g 64 < 6 := by clear hno e0 i0; (simp only [ne_eq, i_lt, i_le, i_eq, i_add, i_sub, i_neg, i_mul, Int32.reduceToInt] at *; omega)
    have hn : 0 ≤ g 64 ∧ g 64 < 6 := ⟨h64.1, h6⟩
    obtain ⟨S2, b1, b2, b3, b4, b5, b6, b7⟩ := m_make18 (S' := S') (t := t) hfu hR hG h6 ht ht0 hx hno
    rw [if_neg c6, if_pos h6, b1, b2]
    refine ⟨S2, _, g 64, ?_, rfl, hn.1, ?_, ?_, b3, b4, b5, ?_, ?_, ?_⟩
    · rw [show m_rw S2 (g 64) = m_rw S (g 64) by unfold m_rw; rw [b7]]
    · rw [m_mk_64 hn]
      clear hno e0 i0 b1 b2
      (simp only [ne_eq, i_lt, i_le, i_eq, i_add, i_sub, i_neg, i_mul, Int32.reduceToInt] at *; omega)
    · rw [m_mk_at hn hn.1 hn.2 (by decide) (by decide), if_pos rfl, if_neg (by decide), if_pos rfl]
    · intro j hj
      have hjj : (j < 71 ∨ 131 ≤ j) ∧ j ≠ 64 := by clear hno e0 i0 b1 b2; (simp only [ne_eq, i_lt, i_le, i_eq, i_add, i_sub, i_neg, i_mul, Int32.reduceToInt] at *; omega)
      rw [m_mk_out hn hjj.1 hjj.2]
    · rw [b6, m_mk_out hn (by decide) (by decide)]
      clear hno e0 i0 b1 b2
      grind
    · intro y
      rw [m_hd_mk hn]
