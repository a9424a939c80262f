theorem b_succ {k : Nat} (h : k < 4) : nI k + 1 = nI (k + 1) := by
  rw [i_eq, i_add, nI_toInt (by omega), nI_toInt (by omega)]
  (simp only [ne_eq, i_lt, i_le, i_eq, i_add, i_sub, i_neg, i_mul, Int32.reduceToInt] at *; omega)
theorem b_nI {k : Nat} (h : k < 4) : 0 ≤ nI k ∧ nI k < 4 ∧ ¬ 4 ≤ nI k := by
  refine ⟨?_, ?_, ?_⟩
  · rw [i_le, nI_toInt (by omega)]; (simp only [ne_eq, i_lt, i_le, i_eq, i_add, i_sub, i_neg, i_mul, Int32.reduceToInt] at *; omega)
  · rw [i_lt, nI_toInt (by omega)]; (simp only [ne_eq, i_lt, i_le, i_eq, i_add, i_sub, i_neg, i_mul, Int32.reduceToInt] at *; omega)
  · rw [i_le, nI_toInt (by omega)]; (simp only [ne_eq, i_lt, i_le, i_eq, i_add, i_sub, i_neg, i_mul, Int32.reduceToInt] at *; omega)
theorem m_bs_yes {g : Int32 → Int32} {p : Int32} {n : Nat} (c : m_may g (nI n) p ∧ (m_bs g p n < 0 ∨ g (8 * nI n + p) < g (8 * m_bs g p n + p))) : m_bs g p (n + 1) = nI n := by
  rw [m_bs, if_pos c]
theorem m_bs_no {g : Int32 → Int32} {p : Int32} {n : Nat} (c : ¬ (m_may g (nI n) p ∧ (m_bs g p n < 0 ∨ g (8 * nI n + p) < g (8 * m_bs g p n + p)))) : m_bs g p (n + 1) = m_bs g p n := by
  rw [m_bs, if_neg c]
theorem m_lb13 {fu : Nat} {S : fd_S} {g : Int32 → Int32} {p : Int32} (hfu : 10000 ≤ fu) (h64 : 0 ≤ g 64 ∧ g 64 ≤ 6) (hG : m_GR g) (p0 : 0 ≤ p) (p1 : p < 8) : ∀ (n k : Nat), k ≤ 4 → 4 - k < n → zM_lookAtBest_13 fu n (fd_sg S g) p (m_bs g p k) (nI k) = some (m_be g p) := by
  intro n
  induction n with
  | zero => intro k _ h; omega
  | succ n ih =>
    intro k hk hn
    rw [zM_lookAtBest_13]
    by_cases ck : k = 4
    · subst ck
      rw [if_pos (by decide)]
      rfl
    have hq := b_nI (k := k) (by omega)
    have hy := b_8 hq.1 hq.2.1 p0 p1
    have hyi : 0 ≤ 8 * nI k + p ∧ 8 * nI k + p < 275 := ⟨hy.2.1, Int32.lt_trans hy.2.2 (by decide)⟩
    obtain ⟨r, er, hix⟩ := zM_recordOf_eq (S := S) (g := g) hfu h64 (8 * nI k + p)
    have hhd := m_ix_hd hG hix
    have next := ih (k + 1) (by omega) (by omega)
    simp only [fd_lt, sg_78, Int32.zero_add]
    rw [if_neg hq.2.2, er, Option.bind_some, if_pos hyi, b_succ (by omega)]
    have go : ¬ g (8 * nI k + p) < 0 → ¬ m_hd g (8 * nI k + p) → (if m_bs g p k < 0 then zM_lookAtBest_13 fu n (fd_sg S g) p (nI k) (nI (k + 1)) else if 0 ≤ 8 * nI k + p ∧ 8 * nI k + p < 275 then if 0 ≤ 8 * m_bs g p k + p ∧ 8 * m_bs g p k + p < 275 then if g (8 * m_bs g p k + p) ≤ g (8 * nI k + p) then zM_lookAtBest_13 fu n (fd_sg S g) p (m_bs g p k) (nI (k + 1)) else zM_lookAtBest_13 fu n (fd_sg S g) p (nI k) (nI (k + 1)) else none else none) = some (m_be g p) := by
      intro a1 a2
      have may : m_may g (nI k) p := ⟨Int32.not_lt.mp a1, a2⟩
      by_cases c : m_bs g p k < 0
      · rw [if_pos c, ← m_bs_yes ⟨may, Or.inl c⟩, next]
      · rw [if_neg c, if_pos hyi]
        rcases m_bs_rg g p k (by omega) with hb | hb
        · rw [hb] at c
          exact absurd (by decide) c
        · have h4 : m_bs g p k < 4 := by have := hb.2.1; clear ih hG hix next; rw [i_lt]; (simp only [ne_eq, i_lt, i_le, i_eq, i_add, i_sub, i_neg, i_mul, Int32.reduceToInt] at *; omega)
          have hx := b_8 hb.1 h4 p0 p1
          rw [if_pos ⟨hx.2.1, Int32.lt_trans hx.2.2 (by decide)⟩]
          by_cases c2 : g (8 * m_bs g p k + p) ≤ g (8 * nI k + p)
          · rw [if_pos c2, ← m_bs_no (n := k) (by rintro ⟨-, z | z⟩; exact c z; exact absurd c2 (Int32.not_le.mpr z)), next]
          · rw [if_neg c2, ← m_bs_yes ⟨may, Or.inr (Int32.not_le.mp c2)⟩, next]
    by_cases c1 : g (8 * nI k + p) < 0
    · rw [if_pos c1, if_pos True.intro, ← m_bs_no (n := k) (by rintro ⟨z, -⟩; exact absurd c1 (Int32.not_lt.mpr z.1)), next]
    · rw [if_neg c1]
      by_cases c2 : r < 0
      · rw [if_pos c2, if_neg (show ¬ (1 : Int32) = 0 by decide)]
        exact go c1 (fun z => absurd c2 (Int32.not_lt.mpr (hhd.mp z).1))
      · have hr : 0 ≤ r ∧ r < g 64 := by
          rcases hix with ⟨e, -⟩ | h
          · exact absurd (by rw [e]; decide) c2
          · exact ⟨h.1, h.2.1⟩
        have r6 : r < 6 := by clear hhd hix hG ih next go; (simp only [ne_eq, i_lt, i_le, i_eq, i_add, i_sub, i_neg, i_mul, Int32.reduceToInt] at *; omega)
        rw [if_neg c2, zM_isHeld_eq hr.1 r6, Option.bind_some]
        by_cases c3 : g (zM_at r 3) = 1
        · rw [if_pos c3, if_neg (show ¬ (1 : Int32) = 0 by decide), if_pos True.intro, ← m_bs_no (n := k) (by rintro ⟨z, -⟩; exact z.2 (hhd.mpr ⟨hr.1, c3⟩)), next]
        · rw [if_neg c3, if_pos rfl, if_neg (show ¬ (1 : Int32) = 0 by decide)]
          exact go c1 (fun z => c3 (hhd.mp z).2)
theorem m_rk_lt {b b' q e : Int32} (hq : 0 ≤ q ∧ q < 4) (he : 0 ≤ e ∧ e.toInt < q.toInt) (hb : 0 ≤ b ∧ b ≤ 9) (hb' : 0 ≤ b' ∧ b' ≤ 9) : b * 4 + e ≤ b' * 4 + q ↔ b ≤ b' := by
  have a : (b * 4).toInt = b.toInt * 4 := by (simp only [ne_eq, i_lt, i_le, i_eq, i_add, i_sub, i_neg, i_mul, Int32.reduceToInt] at *; omega)
  have a' : (b' * 4).toInt = b'.toInt * 4 := by (simp only [ne_eq, i_lt, i_le, i_eq, i_add, i_sub, i_neg, i_mul, Int32.reduceToInt] at *; omega)
  rw [i_le, i_le, i_add, i_add, a, a']
  (simp only [ne_eq, i_lt, i_le, i_eq, i_add, i_sub, i_neg, i_mul, Int32.reduceToInt] at *; omega)
theorem m_rk_fr {b q : Int32} (hq : 0 ≤ q ∧ q < 4) (hb : 0 ≤ b ∧ b ≤ 9) : ¬ b * 4 + q = -6 := by
  have a : (b * 4).toInt = b.toInt * 4 := by (simp only [ne_eq, i_lt, i_le, i_eq, i_add, i_sub, i_neg, i_mul, Int32.reduceToInt] at *; omega)
  rw [i_eq, i_add, a]
  (simp only [ne_eq, i_lt, i_le, i_eq, i_add, i_sub, i_neg, i_mul, Int32.reduceToInt] at *; omega)
theorem zS_isHeld_eq {fu : Nat} {S : fd_S} {g : Int32 → Int32} {r x : Int32} (hR : m_R S g) (hG : m_GR g) (hr : m_ix g r x (g 64)) : ∃ v, zS_isHeld S (m_fd S r) = some v ∧ (v = 0 ↔ ¬ m_hd g x) ∧ (v = 0 ∨ v = 1) := by
  have hhd := m_ix_hd hG hr
  unfold zS_isHeld m_fd fd_on
  rcases hr with ⟨e, -⟩ | ⟨r0, r1, -⟩
  · subst e
    rw [if_pos (by decide)]
    exact ⟨0, rfl, ⟨fun _ z => absurd (hhd.mp z).1 (by decide), fun _ => rfl⟩, Or.inl rfl⟩
  · have h64 := hR.2.2.1
    have r6 : r < 6 := by clear hR hG hhd; (simp only [ne_eq, i_lt, i_le, i_eq, i_add, i_sub, i_neg, i_mul, Int32.reduceToInt] at *; omega)
    have hv := (hR.2.2.2.1 r r0 r1).2.2.2.1
    have hg := (hG.1 r r0 r1).2.2.2.1
    unfold m_cV at hv
    rw [if_neg (Int32.not_lt.mpr r0)]
    dsimp only
    rw [if_pos (hR.1.rk r0 r6), hv]
    by_cases c : g (zM_at r 3) = 0
    · rw [if_pos c]
      refine ⟨0, rfl, ⟨fun _ z => ?_, fun _ => rfl⟩, Or.inl rfl⟩
      have := (hhd.mp z).2
      rw [c] at this
      exact absurd this (by decide)
    · rw [if_neg c]
      refine ⟨1, rfl, ⟨fun z => absurd z (by decide), fun z => absurd (hhd.mpr ⟨r0, ?_⟩) z⟩, Or.inr rfl⟩
      rcases hg with h | h
      · exact absurd h c
      · exact h
noncomputable def m_rkn (g : Int32 → Int32) (p : Int32) (k : Nat) : Int32 := if m_bs g p k < 0 then -6 else g (8 * m_bs g p k + p) * 4 + m_bs g p k
theorem m_fb5 {fu : Nat} {S : fd_S} {g : Int32 → Int32} {p : Int32} (hfu : 10000 ≤ fu) (hR : m_R S g) (hG : m_GR g) (hP : m_P g) (hQ : m_Q S g) (p0 : 0 ≤ p) (p1 : p < 8) : ∀ (n k : Nat), k ≤ 4 → 4 - k < n → zS_findBest_5 fu n S p (m_rkn g p k) (nI k) = some (m_rk (m_be g p) (m_bp g p)) := by
  intro n
  induction n with
  | zero => intro k _ h; omega
  | succ n ih =>
    intro k hk hn
    rw [zS_findBest_5]
    by_cases ck : k = 4
    · subst ck
      rw [if_pos (by decide)]
      unfold m_rkn m_rk m_bp
      change some (if m_be g p < 0 then -6 else g (8 * m_be g p + p) * 4 + m_be g p) = _
      split <;> rfl
    have hq := b_nI (k := k) (by omega)
    have hy := b_8 hq.1 hq.2.1 p0 p1
    have ey : zF_routeOf (nI k) p = 8 * nI k + p := by unfold zF_routeOf; rw [Int32.mul_comm]
    obtain ⟨r, er, hix⟩ := zM_recordOf_eq (S := S) (g := g) hfu hR.2.2.1 (8 * nI k + p)
    obtain ⟨v, ev, hv, hv2⟩ := zS_isHeld_eq (fu := fu) hR hG hix
    have ef := zQ_find_eq hfu hR hG hix
    have next := ih (k + 1) (by omega) (by omega)
    simp only [fd_lt, ey]
    rw [if_neg hq.2.2, if_pos hy.2, hQ _ hy.2.1 hy.2.2, b_succ (by omega)]
    have no : (¬ (m_may g (nI k) p ∧ (m_bs g p k < 0 ∨ g (8 * nI k + p) < g (8 * m_bs g p k + p)))) → zS_findBest_5 fu n S p (m_rkn g p k) (nI (k + 1)) = some (m_rk (m_be g p) (m_bp g p)) := by
      intro c
      rw [← next]
      unfold m_rkn
      rw [m_bs_no c]
    have yes : (m_may g (nI k) p ∧ (m_bs g p k < 0 ∨ g (8 * nI k + p) < g (8 * m_bs g p k + p))) → zS_findBest_5 fu n S p (g (8 * nI k + p) * 4 + nI k) (nI (k + 1)) = some (m_rk (m_be g p) (m_bp g p)) := by
      intro c
      rw [← next]
      unfold m_rkn
      rw [m_bs_yes c, if_neg (Int32.not_lt.mpr hq.1)]
    by_cases c1 : g (8 * nI k + p) = -6
    · rw [if_pos c1]
      exact no (fun z => absurd z.1.1 (by rw [c1]; decide))
    · rw [if_neg c1, ef, Option.bind_some, ev, Option.bind_some]
      have hb9 : 0 ≤ g (8 * nI k + p) ∧ g (8 * nI k + p) ≤ 9 := by
        rcases hP _ hy.2.1 hy.2.2 with h | h
        · exact absurd h c1
        · exact h
      have tail : (m_bs g p k < 0 ∨ g (8 * nI k + p) < g (8 * m_bs g p k + p)) → (if v = 0 then zS_findBest_5 fu n S p (g (8 * nI k + p) * 4 + nI k) (nI (k + 1)) else zS_findBest_5 fu n S p (m_rkn g p k) (nI (k + 1))) = some (m_rk (m_be g p) (m_bp g p)) := by
        intro h
        by_cases c : v = 0
        · rw [if_pos c]
          exact yes ⟨⟨hb9.1, hv.mp c⟩, h⟩
        · rw [if_neg c]
          exact no (fun z => c (hv.mpr z.1.2))
      by_cases c2 : m_bs g p k < 0
      · have e6 : m_rkn g p k = -6 := by unfold m_rkn; rw [if_pos c2]
        rw [if_pos e6]
        exact tail (Or.inl c2)
      · have e6 : m_rkn g p k = g (8 * m_bs g p k + p) * 4 + m_bs g p k := by unfold m_rkn; rw [if_neg c2]
        rcases m_bs_rg g p k (by omega) with hb | hb
        · rw [hb] at c2
          exact absurd (by decide) c2
        have h4 : m_bs g p k < 4 := by have := hb.2.1; clear ih hG hix next no yes tail; rw [i_lt]; (simp only [ne_eq, i_lt, i_le, i_eq, i_add, i_sub, i_neg, i_mul, Int32.reduceToInt] at *; omega)
        have hx := b_8 hb.1 h4 p0 p1
        have hf9 : 0 ≤ g (8 * m_bs g p k + p) ∧ g (8 * m_bs g p k + p) ≤ 9 := by
          rcases hP _ hx.2.1 hx.2.2 with h | h
          · exact absurd hb.2.2.1 (by rw [h]; decide)
          · exact h
        have hlt : 0 ≤ m_bs g p k ∧ (m_bs g p k).toInt < (nI k).toInt := ⟨hb.1, by rw [nI_toInt (by omega)]; exact hb.2.1⟩
        rw [if_neg (show ¬ m_rkn g p k = -6 by rw [e6]; exact m_rk_fr ⟨hb.1, h4⟩ hf9)]
        by_cases c3 : g (8 * m_bs g p k + p) ≤ g (8 * nI k + p)
        · rw [if_pos (show m_rkn g p k ≤ g (8 * nI k + p) * 4 + nI k by rw [e6]; exact (m_rk_lt ⟨hq.1, hq.2.1⟩ hlt hf9 hb9).mpr c3)]
          exact no (by rintro ⟨-, z | z⟩; exact c2 z; exact absurd c3 (Int32.not_le.mpr z))
        · rw [if_neg (show ¬ m_rkn g p k ≤ g (8 * nI k + p) * 4 + nI k by rw [e6]; exact fun z => c3 ((m_rk_lt ⟨hq.1, hq.2.1⟩ hlt hf9 hb9).mp z))]
          exact tail (Or.inr (Int32.not_le.mp c3))
theorem m_findBest {fu : Nat} {S : fd_S} {g : Int32 → Int32} {p : Int32} (hfu : 10000 ≤ fu) (hR : m_R S g) (hG : m_GR g) (hP : m_P g) (hQ : m_Q S g) (p0 : 0 ≤ p) (p1 : p < 8) : zS_findBest fu S p = some (m_rk (m_be g p) (m_bp g p)) := m_fb5 hfu hR hG hP hQ p0 p1 fu 0 (by omega) (by omega)
