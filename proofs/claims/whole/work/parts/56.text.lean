/-! ===== THE TEXT ===== -/
/-- the text of the component and of the reference -/
def m_TX (S S' : fd_S) : Prop := S 71 1 = S' 73 8 ∧ (0 ≤ S' 73 8 ∧ S' 73 8 ≤ 12) ∧ ∀ j : Int32, 0 ≤ j → j < S' 73 8 → S 72 j = S' 81 j
theorem m_say {S S' : fd_S} {x : Int32} (h : m_TX S S') : ∃ r S1 S1', zF_say S x = some (r, S1) ∧ zM_say S' x = some (r, S1') ∧ m_TX S1 S1' ∧ (∀ k : Nat, k ≠ 71 → k ≠ 72 → S1 k = S k) ∧ ∀ k : Nat, k ≠ 73 → k ≠ 81 → S1' k = S' k := by
  have h0 := h
  obtain ⟨h1, h2, h3⟩ := h
  unfold zF_say zM_say zT_append
  simp only [fd_lt]
  by_cases c : 33 ≤ x ∧ x ≤ 126
  · rw [if_neg (m_within1 c), if_neg (m_in1 c), h1]
    by_cases c2 : S' 73 8 = 12
    · rw [if_pos c2, if_neg (show ¬ S' 73 8 < 12 by rw [c2]; decide)]
      exact ⟨-4, S, S', rfl, rfl, h0, fun _ _ _ => rfl, fun _ _ _ => rfl⟩
    · have hl : S' 73 8 < 12 := by clear h0 h1 h3; (simp only [ne_eq, i_lt, i_le, i_eq, i_add, i_sub, i_neg, i_mul, Int32.reduceToInt] at *; omega)
      rw [if_neg c2, if_pos hl, if_pos ⟨h2.1, hl⟩, if_pos ⟨h2.1, hl⟩, Option.bind_some]
      unfold fd_pr
      dsimp only
      rw [if_neg (show ¬ (1 : Int32) = 0 by decide)]
      have e1 : fd_up S 72 (S' 73 8) x 71 1 = S' 73 8 := by rw [fd_up_ne (by decide), h1]
      have e2 : fd_up S' 81 (S' 73 8) x 73 8 = S' 73 8 := by rw [fd_up_ne (by decide)]
      rw [e1, e2]
      refine ⟨S' 73 8 + 1, _, _, by rw [fd_up_at, if_pos rfl], by rw [fd_up_at, if_pos rfl], ⟨?_, ?_, ?_⟩, ?_, ?_⟩
      · rw [fd_up_at, if_pos rfl, fd_up_at, if_pos rfl]
      · rw [fd_up_at, if_pos rfl]
        clear h0 h1 h3 e1 e2
        (simp only [ne_eq, i_lt, i_le, i_eq, i_add, i_sub, i_neg, i_mul, Int32.reduceToInt] at *; omega)
      · intro j j0 j1
        rw [fd_up_at, if_pos rfl] at j1
        rw [fd_up_ne (by decide), fd_up_at, fd_up_ne (by decide), fd_up_at]
        by_cases cj : j = S' 73 8
        · rw [if_pos cj, if_pos cj]
        · rw [if_neg cj, if_neg cj]
          exact h3 j j0 (by clear h0 h1 h3 e1 e2; (simp only [ne_eq, i_lt, i_le, i_eq, i_add, i_sub, i_neg, i_mul, Int32.reduceToInt] at *; omega))
      · intro k k1 k2
        rw [fd_up_ne k1, fd_up_ne k2]
      · intro k k1 k2
        rw [fd_up_ne k1, fd_up_ne k2]
  · rw [if_pos (m_within0 c), if_pos (m_in0 c)]
    exact ⟨-2, S, S', rfl, rfl, h0, fun _ _ _ => rfl, fun _ _ _ => rfl⟩
theorem m_wipe {S S' : fd_S} (h : m_TX S S') : ∃ r S1 S1', zF_wipe S = some (r, S1) ∧ zM_wipe S' = some (r, S1') ∧ m_TX S1 S1' ∧ (∀ k : Nat, k ≠ 71 → k ≠ 72 → S1 k = S k) ∧ ∀ k : Nat, k ≠ 73 → k ≠ 81 → S1' k = S' k := by
  obtain ⟨h1, h2, h3⟩ := h
  unfold zF_wipe zM_wipe zT_clear
  simp only [fd_lt, Option.bind_some]
  unfold fd_pr
  dsimp only
  refine ⟨S' 73 8, _, _, by rw [h1], rfl, ⟨?_, ?_, ?_⟩, ?_, ?_⟩
  · rw [fd_up_at, if_pos rfl, fd_up_at, if_pos rfl]
  · rw [fd_up_at, if_pos rfl]
    exact ⟨by decide, by decide⟩
  · intro j j0 j1
    rw [fd_up_at, if_pos rfl] at j1
    exact absurd j0 (Int32.not_le.mpr j1)
  · intro k k1 k2
    rw [fd_up_ne k1]
  · intro k k1 k2
    rw [fd_up_ne k1]
/-- a sign that may stand at a place of a text of a bound -/
def m_fit (s : Int32 → Int32) (w x : Int32) : Prop := (x < zM_size w ∧ s x = fd_sc (zT_nameOf w) x) ∨ (x = zM_size w ∧ s x = 61) ∨ (zM_size w < x ∧ x ≤ zM_size w + 5 ∧ 48 ≤ s x ∧ s x ≤ 57)
def m_ft (s : Int32 → Int32) (L w r : Int32) : Prop := (0 ≤ r ∧ r ≤ L) ∧ (∀ k : Int32, 0 ≤ k → k < r → m_fit s w k) ∧ (r = L ∨ ¬ m_fit s w r)
theorem m_ft_uniq {s : Int32 → Int32} {L w r r' : Int32} (h : m_ft s L w r) (h' : m_ft s L w r') : r = r' := by
  obtain ⟨a1, a2, a3⟩ := h
  obtain ⟨b1, b2, b3⟩ := h'
  by_cases c : r < r'
  · have f := b2 r a1.1 c
    rcases a3 with h | h
    · clear a2 b2 f b3
      (simp only [ne_eq, i_lt, i_le, i_eq, i_add, i_sub, i_neg, i_mul, Int32.reduceToInt] at *; omega)
    · exact absurd f h
  · by_cases c2 : r' < r
    · have f := a2 r' b1.1 c2
      rcases b3 with h | h
      · clear a2 b2 f a3
        (simp only [ne_eq, i_lt, i_le, i_eq, i_add, i_sub, i_neg, i_mul, Int32.reduceToInt] at *; omega)
      · exact absurd f h
    · clear a2 b2 a3 b3
      (simp only [ne_eq, i_lt, i_le, i_eq, i_add, i_sub, i_neg, i_mul, Int32.reduceToInt] at *; omega)
theorem m_size_rg (w : Int32) : 3 ≤ zM_size w ∧ zM_size w ≤ 4 := by
  unfold zM_size
  split <;> exact ⟨by decide, by decide⟩
theorem b_sl : ∀ a : Nat, a < 7 → fd_sl (zT_nameOf (nI a)) = zM_size (nI a) ∧ zT_nameOf (nI a) < 7 := by decide
theorem m_slz {w : Int32} (w0 : 0 ≤ w) (w7 : w < 7) : fd_sl (zT_nameOf w) = zM_size w ∧ zT_nameOf w < 7 := by
  obtain ⟨a, ha, rfl⟩ := m_nat (x := w) (M := 6) w0 (show w ≤ (6 : Int32) by (simp only [ne_eq, i_lt, i_le, i_eq, i_add, i_sub, i_neg, i_mul, Int32.reduceToInt] at *; omega)) (by decide)
  exact b_sl a (by omega)
theorem m_fig (s : Int32) : (zT_isFigure s = 0 ∧ ¬ (48 ≤ s ∧ s ≤ 57)) ∨ (¬ zT_isFigure s = 0 ∧ 48 ≤ s ∧ s ≤ 57) := by
  unfold zT_isFigure
  by_cases c1 : s < 48
  · left
    rw [if_pos c1]
    exact ⟨rfl, by (simp only [ne_eq, i_lt, i_le, i_eq, i_add, i_sub, i_neg, i_mul, Int32.reduceToInt] at *; omega)⟩
  · rw [if_neg c1]
    by_cases c2 : 57 < s
    · left
      rw [if_pos c2]
      exact ⟨rfl, by (simp only [ne_eq, i_lt, i_le, i_eq, i_add, i_sub, i_neg, i_mul, Int32.reduceToInt] at *; omega)⟩
    · right
      rw [if_neg c2]
      refine ⟨by decide, ?_⟩
      (simp only [ne_eq, i_lt, i_le, i_eq, i_add, i_sub, i_neg, i_mul, Int32.reduceToInt] at *; omega)
theorem m_fits {S : fd_S} {w x : Int32} (w0 : 0 ≤ w) (w7 : w < 7) (x0 : 0 ≤ x) (x12 : x < 12) : ∃ v, zT_fits S (zT_nameOf w) x = some v ∧ (v = 0 ↔ ¬ m_fit (S 72) w x) := by
  have hz := m_size_rg w
  unfold zT_fits
  rw [(m_slz w0 w7).1, if_pos (m_slz w0 w7).2]
  by_cases c1 : zM_size w ≤ x
  · rw [if_pos c1]
    by_cases c2 : x = zM_size w
    · rw [if_pos c2, if_pos ⟨x0, x12⟩]
      by_cases c3 : S 72 x = 61
      · rw [if_pos c3]
        exact ⟨1, rfl, ⟨fun z => absurd z (by decide), fun z => absurd (Or.inr (Or.inl ⟨c2, c3⟩)) z⟩⟩
      · rw [if_neg c3]
        refine ⟨0, rfl, ⟨fun _ => ?_, fun _ => rfl⟩⟩
        rintro (⟨h, -⟩ | ⟨-, h⟩ | ⟨h, -⟩)
        · exact absurd h (Int32.not_lt.mpr c1)
        · exact c3 h
        · rw [c2] at h
          exact absurd h (Int32.lt_irrefl)
    · rw [if_neg c2]
      by_cases c3 : zM_size w + 5 < x
      · rw [if_pos c3]
        refine ⟨0, rfl, ⟨fun _ => ?_, fun _ => rfl⟩⟩
        rintro (⟨h, -⟩ | ⟨h, -⟩ | ⟨-, h, -⟩)
        · exact absurd h (Int32.not_lt.mpr c1)
        · exact c2 h
        · exact absurd h (Int32.not_le.mpr c3)
      · rw [if_neg c3, if_pos ⟨x0, x12⟩]
        have hlt : zM_size w < x := by (simp only [ne_eq, i_lt, i_le, i_eq, i_add, i_sub, i_neg, i_mul, Int32.reduceToInt] at *; omega)
        rcases m_fig (S 72 x) with ⟨f1, f2⟩ | ⟨f1, f2⟩
        · rw [if_pos f1]
          refine ⟨0, rfl, ⟨fun _ => ?_, fun _ => rfl⟩⟩
          rintro (⟨h, -⟩ | ⟨h, -⟩ | ⟨-, -, h⟩)
          · exact absurd h (Int32.not_lt.mpr c1)
          · exact c2 h
          · exact f2 h
        · rw [if_neg f1]
          exact ⟨1, rfl, ⟨fun z => absurd z (by decide), fun z => absurd (Or.inr (Or.inr ⟨hlt, Int32.not_lt.mp c3, f2⟩)) z⟩⟩
  · have hlt := Int32.not_le.mp c1
    rw [if_neg c1, if_pos ⟨x0, x12⟩, if_pos ⟨x0, hlt⟩]
    by_cases c3 : S 72 x = fd_sc (zT_nameOf w) x
    · rw [if_pos c3]
      exact ⟨1, rfl, ⟨fun z => absurd z (by decide), fun z => absurd (Or.inl ⟨hlt, c3⟩) z⟩⟩
    · rw [if_neg c3]
      refine ⟨0, rfl, ⟨fun _ => ?_, fun _ => rfl⟩⟩
      rintro (⟨-, h⟩ | ⟨h, -⟩ | ⟨h, -⟩)
      · exact c3 h
      · rw [h] at hlt
        exact absurd hlt Int32.lt_irrefl
      · exact absurd (Int32.lt_trans h hlt) Int32.lt_irrefl
theorem m_fit_c {s s' : Int32 → Int32} {w x : Int32} (h : s x = s' x) : m_fit s w x ↔ m_fit s' w x := by
  unfold m_fit
  rw [h]
theorem m_fs2 {fu : Nat} {S S' : fd_S} {w : Int32} (h : m_TX S S') (w0 : 0 ≤ w) (w7 : w < 7) : ∀ (n : Nat) (x : Int32), m_ms (S' 73 8) x < n → 0 ≤ x → x ≤ S' 73 8 → (∀ k : Int32, 0 ≤ k → k < x → m_fit (S' 81) w k) → ∃ r, zT_fittingSigns_2 fu n S (zT_nameOf w) x = some r ∧ m_ft (S' 81) (S' 73 8) w r := by
  obtain ⟨h1, h2, h3⟩ := h
  intro n
  induction n with
  | zero => intro x h; omega
  | succ n ih =>
    intro x hn x0 x1 hx
    rw [zT_fittingSigns_2, h1]
    by_cases c : S' 73 8 ≤ x
    · rw [if_pos c]
      exact ⟨x, rfl, ⟨x0, x1⟩, hx, Or.inl (by clear h1 h3 hx ih; (simp only [ne_eq, i_lt, i_le, i_eq, i_add, i_sub, i_neg, i_mul, Int32.reduceToInt] at *; omega))⟩
    have hlt : x < S' 73 8 ∧ x < 12 ∧ 0 ≤ x + 1 ∧ x + 1 ≤ S' 73 8 := by clear h1 h3 hx ih; (simp only [ne_eq, i_lt, i_le, i_eq, i_add, i_sub, i_neg, i_mul, Int32.reduceToInt] at *; omega)
    have hms := m_ms_up c
    obtain ⟨v, v1, v2⟩ := m_fits (S := S) w0 w7 x0 hlt.2.1
    rw [m_fit_c (h3 x x0 hlt.1)] at v2
    rw [if_neg c, v1, Option.bind_some]
    by_cases cv : v = 0
    · rw [if_pos cv]
      exact ⟨x, rfl, ⟨x0, x1⟩, hx, Or.inr (v2.mp cv)⟩
    · rw [if_neg cv]
      refine ih (x + 1) (by omega) hlt.2.2.1 hlt.2.2.2 (fun k k0 k1 => ?_)
      by_cases ck : k = x
      · subst ck
        exact Decidable.byContradiction (dec := Classical.propDecidable _) (fun z => cv (v2.mpr z))
      · exact hx k k0 (by clear h1 h3 hx ih v1 v2; (simp only [ne_eq, i_lt, i_le, i_eq, i_add, i_sub, i_neg, i_mul, Int32.reduceToInt] at *; omega))
theorem m_fittingSigns {fu : Nat} {S S' : fd_S} {w : Int32} (hfu : 10000 ≤ fu) (h : m_TX S S') (w0 : 0 ≤ w) (w7 : w < 7) : ∃ r, zT_fittingSigns fu S (zT_nameOf w) = some r ∧ m_ft (S' 81) (S' 73 8) w r :=
  m_fs2 h w0 w7 fu 0 (m_ms_fu (by decide) (Int32.le_trans h.2.1.2 (by decide)) hfu) (by decide) h.2.1.1 (fun k k0 k1 => absurd k0 (Int32.not_le.mpr k1))
theorem m_f72 {fu : Nat} {S' : fd_S} {w : Int32} (h2 : 0 ≤ S' 73 8 ∧ S' 73 8 ≤ 12) : ∀ (n : Nat) (x : Int32), m_ms (S' 73 8) x < n → 0 ≤ x → x ≤ S' 73 8 → zM_size w < x → x ≤ zM_size w + 6 → (∀ k : Int32, 0 ≤ k → k < x → m_fit (S' 81) w k) → ∃ r, zM_fitting_72 fu n S' (zM_size w) x = some r ∧ m_ft (S' 81) (S' 73 8) w r := by
  have hz := m_size_rg w
  intro n
  induction n with
  | zero => intro x h; omega
  | succ n ih =>
    intro x hn x0 x1 xz xz2 hx
    rw [zM_fitting_72]
    by_cases c : S' 73 8 ≤ x
    · rw [if_pos c]
      exact ⟨x, rfl, ⟨x0, x1⟩, hx, Or.inl (by clear hx ih; (simp only [ne_eq, i_lt, i_le, i_eq, i_add, i_sub, i_neg, i_mul, Int32.reduceToInt] at *; omega))⟩
    rw [if_neg c]
    by_cases c2 : zM_size w + 6 ≤ x
    · rw [if_pos c2]
      refine ⟨x, rfl, ⟨x0, x1⟩, hx, Or.inr ?_⟩
      rintro (⟨h, -⟩ | ⟨h, -⟩ | ⟨-, h, -⟩) <;> (clear hx ih; (simp only [ne_eq, i_lt, i_le, i_eq, i_add, i_sub, i_neg, i_mul, Int32.reduceToInt] at *; omega))
    have hlt : x < S' 73 8 ∧ x < 12 ∧ 0 ≤ x + 1 ∧ x + 1 ≤ S' 73 8 ∧ zM_size w < x + 1 ∧ x + 1 ≤ zM_size w + 6 ∧ x ≤ zM_size w + 5 := by clear hx ih; (simp only [ne_eq, i_lt, i_le, i_eq, i_add, i_sub, i_neg, i_mul, Int32.reduceToInt] at *; omega)
    have hms := m_ms_up c
    simp only [fd_lt]
    rw [if_neg c2, if_pos ⟨x0, hlt.2.1⟩]
    change ∃ r, (if zT_isFigure (S' 81 x) = 0 then some x else _) = some r ∧ _
    rcases m_fig (S' 81 x) with ⟨f1, f2⟩ | ⟨f1, f2⟩
    · rw [if_pos f1]
      refine ⟨x, rfl, ⟨x0, x1⟩, hx, Or.inr ?_⟩
      rintro (⟨h, -⟩ | ⟨h, -⟩ | ⟨-, -, h⟩)
      · exact absurd (Int32.lt_trans h xz) Int32.lt_irrefl
      · rw [h] at xz
        exact absurd xz Int32.lt_irrefl
      · exact f2 h
    · rw [if_neg f1]
      refine ih (x + 1) (by omega) hlt.2.2.1 hlt.2.2.2.1 hlt.2.2.2.2.1 hlt.2.2.2.2.2.1 (fun k k0 k1 => ?_)
      by_cases ck : k = x
      · subst ck
        exact Or.inr (Or.inr ⟨xz, hlt.2.2.2.2.2.2, f2⟩)
      · exact hx k k0 (by clear hx ih; (simp only [ne_eq, i_lt, i_le, i_eq, i_add, i_sub, i_neg, i_mul, Int32.reduceToInt] at *; omega))
theorem m_f45 {fu : Nat} {S' : fd_S} {w x : Int32} (hfu : 10000 ≤ fu) (h2 : 0 ≤ S' 73 8 ∧ S' 73 8 ≤ 12) (x0 : 0 ≤ x) (x1 : x ≤ S' 73 8) (xz : x ≤ zM_size w) (hx : ∀ k : Int32, 0 ≤ k → k < x → m_fit (S' 81) w k) (hend : x = zM_size w ∨ x = S' 73 8 ∨ ¬ m_fit (S' 81) w x) : ∃ r, zM_fitting_45 fu S' (zM_size w) x = some r ∧ m_ft (S' 81) (S' 73 8) w r := by
  have hz := m_size_rg w
  unfold zM_fitting_45
  simp only [fd_lt]
  by_cases c1 : x = zM_size w
  · rw [if_pos c1]
    by_cases c2 : S' 73 8 ≤ x
    · rw [if_pos c2]
      exact ⟨x, rfl, ⟨x0, x1⟩, hx, Or.inl (by clear hx hend; (simp only [ne_eq, i_lt, i_le, i_eq, i_add, i_sub, i_neg, i_mul, Int32.reduceToInt] at *; omega))⟩
    have hlt : x < 12 ∧ x < S' 73 8 ∧ 0 ≤ x + 1 ∧ x + 1 ≤ S' 73 8 ∧ zM_size w < x + 1 ∧ x + 1 ≤ zM_size w + 6 := by clear hx hend; (simp only [ne_eq, i_lt, i_le, i_eq, i_add, i_sub, i_neg, i_mul, Int32.reduceToInt] at *; omega)
    rw [if_neg c2, if_pos ⟨x0, hlt.1⟩]
    by_cases c3 : S' 81 x = 61
    · rw [if_pos c3]
      refine m_f72 h2 fu (x + 1) (m_ms_fu hlt.2.2.1 (Int32.le_trans h2.2 (by decide)) hfu) hlt.2.2.1 hlt.2.2.2.1 hlt.2.2.2.2.1 hlt.2.2.2.2.2 (fun k k0 k1 => ?_)
      by_cases ck : k = x
      · subst ck
        exact Or.inr (Or.inl ⟨c1, c3⟩)
      · exact hx k k0 (by clear hx hend; (simp only [ne_eq, i_lt, i_le, i_eq, i_add, i_sub, i_neg, i_mul, Int32.reduceToInt] at *; omega))
    · rw [if_neg c3]
      refine ⟨x, rfl, ⟨x0, x1⟩, hx, Or.inr ?_⟩
      rintro (⟨h, -⟩ | ⟨-, h⟩ | ⟨h, -⟩)
      · rw [c1] at h
        exact absurd h Int32.lt_irrefl
      · exact c3 h
      · rw [c1] at h
        exact absurd h Int32.lt_irrefl
  · rw [if_neg c1]
    exact ⟨x, rfl, ⟨x0, x1⟩, hx, hend.elim (fun z => absurd z c1) id⟩
theorem m_f7 {fu : Nat} {S' : fd_S} {w : Int32} (hfu : 10000 ≤ fu) (hK : m_K S') (h2 : 0 ≤ S' 73 8 ∧ S' 73 8 ≤ 12) (w0 : 0 ≤ w) (w7 : w < 7) : ∀ (n : Nat) (x : Int32), m_ms (S' 73 8) x < n → 0 ≤ x → x ≤ S' 73 8 → x ≤ zM_size w → (∀ k : Int32, 0 ≤ k → k < x → m_fit (S' 81) w k) → ∃ r, zM_fitting_7 fu n S' w (zM_size w) x = some r ∧ m_ft (S' 81) (S' 73 8) w r := by
  have hz := m_size_rg w
  intro n
  induction n with
  | zero => intro x h; omega
  | succ n ih =>
    intro x hn x0 x1 xz hx
    rw [zM_fitting_7]
    by_cases c1 : S' 73 8 ≤ x
    · rw [if_pos c1]
      exact m_f45 hfu h2 x0 x1 xz hx (Or.inr (Or.inl (by clear hx ih hK; (simp only [ne_eq, i_lt, i_le, i_eq, i_add, i_sub, i_neg, i_mul, Int32.reduceToInt] at *; omega))))
    rw [if_neg c1]
    by_cases c2 : zM_size w ≤ x
    · rw [if_pos c2]
      exact m_f45 hfu h2 x0 x1 xz hx (Or.inl (by clear hx ih hK; (simp only [ne_eq, i_lt, i_le, i_eq, i_add, i_sub, i_neg, i_mul, Int32.reduceToInt] at *; omega)))
    have hlt : x < S' 73 8 ∧ x < 12 ∧ 0 ≤ x + 1 ∧ x + 1 ≤ S' 73 8 ∧ x < zM_size w ∧ x + 1 ≤ zM_size w := by clear hx ih hK; (simp only [ne_eq, i_lt, i_le, i_eq, i_add, i_sub, i_neg, i_mul, Int32.reduceToInt] at *; omega)
    have h4 : (4 * w).toInt = 4 * w.toInt := by clear hx ih hK; (simp only [ne_eq, i_lt, i_le, i_eq, i_add, i_sub, i_neg, i_mul, Int32.reduceToInt] at *; omega)
    have hin : 0 ≤ 4 * w + x ∧ 4 * w + x < 28 := by
      rw [i_le, i_lt, i_add, h4]
      clear hx ih hK
      (simp only [ne_eq, i_lt, i_le, i_eq, i_add, i_sub, i_neg, i_mul, Int32.reduceToInt] at *; omega)
    have hms := m_ms_up c1
    simp only [fd_lt]
    rw [if_neg c2, if_pos ⟨x0, hlt.2.1⟩, if_pos hin, hK.2.2 w x w0 w7 x0 hlt.2.2.2.2.1]
    by_cases c3 : S' 81 x = fd_sc (zT_nameOf w) x
    · rw [if_pos c3]
      refine ih (x + 1) (by omega) hlt.2.2.1 hlt.2.2.2.1 hlt.2.2.2.2.2 (fun k k0 k1 => ?_)
      by_cases ck : k = x
      · subst ck
        exact Or.inl ⟨hlt.2.2.2.2.1, c3⟩
      · exact hx k k0 (by clear hx ih hK; (simp only [ne_eq, i_lt, i_le, i_eq, i_add, i_sub, i_neg, i_mul, Int32.reduceToInt] at *; omega))
    · rw [if_neg c3]
      refine m_f45 hfu h2 x0 x1 xz hx (Or.inr (Or.inr ?_))
      rintro (⟨-, h⟩ | ⟨h, -⟩ | ⟨h, -⟩)
      · exact c3 h
      · exact absurd hlt.2.2.2.2.1 (by rw [h]; exact Int32.lt_irrefl)
      · exact absurd (Int32.lt_trans h hlt.2.2.2.2.1) Int32.lt_irrefl
theorem m_fitting {fu : Nat} {S' : fd_S} {w : Int32} (hfu : 10000 ≤ fu) (hK : m_K S') (h2 : 0 ≤ S' 73 8 ∧ S' 73 8 ≤ 12) (w0 : 0 ≤ w) (w7 : w < 7) : ∃ r, zM_fitting fu S' w = some r ∧ m_ft (S' 81) (S' 73 8) w r :=
  m_f7 hfu hK h2 w0 w7 fu 0 (m_ms_fu (by decide) (Int32.le_trans h2.2 (by decide)) hfu) (by decide) h2.1 (Int32.le_trans (by decide) (m_size_rg w).1) (fun k k0 k1 => absurd k0 (Int32.not_le.mpr k1))
