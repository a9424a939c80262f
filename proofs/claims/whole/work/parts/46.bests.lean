/-! ===== the best of a prefix ===== -/
theorem b_8 {q p : Int32} (q0 : 0 ≤ q) (q1 : q < 4) (p0 : 0 ≤ p) (p1 : p < 8) : (8 * q + p).toInt = 8 * q.toInt + p.toInt ∧ 0 ≤ 8 * q + p ∧ 8 * q + p < 32 := by
  have a : (8 * q).toInt = 8 * q.toInt := by (simp only [ne_eq, i_lt, i_le, i_eq, i_add, i_sub, i_neg, i_mul, Int32.reduceToInt] at *; omega)
  have b : (8 * q + p).toInt = 8 * q.toInt + p.toInt := by
    rw [i_add, a]
    (simp only [ne_eq, i_lt, i_le, i_eq, i_add, i_sub, i_neg, i_mul, Int32.reduceToInt] at *; omega)
  refine ⟨b, ?_, ?_⟩
  · rw [i_le, b]; (simp only [ne_eq, i_lt, i_le, i_eq, i_add, i_sub, i_neg, i_mul, Int32.reduceToInt] at *; omega)
  · rw [i_lt, b]; (simp only [ne_eq, i_lt, i_le, i_eq, i_add, i_sub, i_neg, i_mul, Int32.reduceToInt] at *; omega)
theorem b_3 {p c : Int32} (p0 : 0 ≤ p) (p1 : p < 8) (c0 : 0 ≤ c) (c1 : c < 3) : (39 + 3 * p + c).toInt = 39 + 3 * p.toInt + c.toInt ∧ 39 ≤ 39 + 3 * p + c ∧ 39 + 3 * p + c < 63 := by
  have a : (3 * p).toInt = 3 * p.toInt := by (simp only [ne_eq, i_lt, i_le, i_eq, i_add, i_sub, i_neg, i_mul, Int32.reduceToInt] at *; omega)
  have a2 : (39 + 3 * p).toInt = 39 + 3 * p.toInt := by
    rw [i_add, a]
    (simp only [ne_eq, i_lt, i_le, i_eq, i_add, i_sub, i_neg, i_mul, Int32.reduceToInt] at *; omega)
  have b : (39 + 3 * p + c).toInt = 39 + 3 * p.toInt + c.toInt := by
    rw [i_add, a2]
    (simp only [ne_eq, i_lt, i_le, i_eq, i_add, i_sub, i_neg, i_mul, Int32.reduceToInt] at *; omega)
  refine ⟨b, ?_, ?_⟩
  · rw [i_le, b]; (simp only [ne_eq, i_lt, i_le, i_eq, i_add, i_sub, i_neg, i_mul, Int32.reduceToInt] at *; omega)
  · rw [i_lt, b]; (simp only [ne_eq, i_lt, i_le, i_eq, i_add, i_sub, i_neg, i_mul, Int32.reduceToInt] at *; omega)
theorem b_3in {p c : Int32} (p0 : 0 ≤ p) (p1 : p < 8) (c0 : 0 ≤ c) (c1 : c < 3) : 0 ≤ 39 + 3 * p + c ∧ 39 + 3 * p + c < 275 := by
  have := (b_3 p0 p1 c0 c1).2
  exact ⟨Int32.le_trans (by decide) this.1, Int32.lt_trans this.2 (by decide)⟩
theorem b_3inj {p c p' c' : Int32} (p0 : 0 ≤ p) (p1 : p < 8) (c0 : 0 ≤ c) (c1 : c < 3) (p0' : 0 ≤ p') (p1' : p' < 8) (c0' : 0 ≤ c') (c1' : c' < 3) : 39 + 3 * p + c = 39 + 3 * p' + c' ↔ p = p' ∧ c = c' := by
  have h1 := (b_3 p0 p1 c0 c1).1
  have h2 := (b_3 p0' p1' c0' c1').1
  rw [i_eq, h1, h2, i_eq, i_eq]
  (simp only [ne_eq, i_lt, i_le, i_eq, i_add, i_sub, i_neg, i_mul, Int32.reduceToInt] at *; omega)
def m_may (g : Int32 → Int32) (q p : Int32) : Prop := 0 ≤ g (8 * q + p) ∧ ¬ m_hd g (8 * q + p)
noncomputable def m_bs (g : Int32 → Int32) (p : Int32) : Nat → Int32
  | 0 => -6
  | n + 1 => @ite Int32 (m_may g (nI n) p ∧ (m_bs g p n < 0 ∨ g (8 * nI n + p) < g (8 * m_bs g p n + p))) (Classical.propDecidable _) (nI n) (m_bs g p n)
noncomputable def m_be (g : Int32 → Int32) (p : Int32) : Int32 := m_bs g p 4
noncomputable def m_bp (g : Int32 → Int32) (p : Int32) : Int32 := if m_be g p < 0 then -6 else g (8 * m_be g p + p)
def m_P (g : Int32 → Int32) : Prop := ∀ x : Int32, 0 ≤ x → x < 32 → g x = -6 ∨ (0 ≤ g x ∧ g x ≤ 9)
def m_Q (S : fd_S) (g : Int32 → Int32) : Prop := ∀ x : Int32, 0 ≤ x → x < 32 → S 20 x = g x
def m_rk (e b : Int32) : Int32 := if e < 0 then -6 else b * 4 + e
theorem m_bs_rg (g : Int32 → Int32) (p : Int32) : ∀ n : Nat, n ≤ 4 → m_bs g p n = -6 ∨ (0 ≤ m_bs g p n ∧ (m_bs g p n).toInt < n ∧ m_may g (m_bs g p n) p) := by
  intro n
  induction n with
  | zero => intro _; exact Or.inl rfl
  | succ n ih =>
    intro hn
    rw [m_bs]
    split
    · next h =>
      refine Or.inr ⟨?_, ?_, h.1⟩
      · rw [i_le, nI_toInt (by omega)]
        (simp only [ne_eq, i_lt, i_le, i_eq, i_add, i_sub, i_neg, i_mul, Int32.reduceToInt] at *; omega)
      · rw [nI_toInt (by omega)]
        omega
    · rcases ih (by omega) with h | h
      · exact Or.inl h
      · exact Or.inr ⟨h.1, by omega, h.2.2⟩
theorem m_bs_congr {g g1 : Int32 → Int32} {p : Int32} (h : ∀ q : Int32, 0 ≤ q → q < 4 → g1 (8 * q + p) = g (8 * q + p) ∧ (m_hd g1 (8 * q + p) ↔ m_hd g (8 * q + p))) : ∀ n : Nat, n ≤ 4 → m_bs g1 p n = m_bs g p n := by
  intro n
  induction n with
  | zero => intro _; rfl
  | succ n ih =>
    intro hn
    have e := ih (by omega)
    have hq := h (nI n) (by rw [i_le, nI_toInt (by omega)]; (simp only [ne_eq, i_lt, i_le, i_eq, i_add, i_sub, i_neg, i_mul, Int32.reduceToInt] at *; omega)) (by rw [i_lt, nI_toInt (by omega)]; (simp only [ne_eq, i_lt, i_le, i_eq, i_add, i_sub, i_neg, i_mul, Int32.reduceToInt] at *; omega))
    have hb := m_bs_rg g p n (by omega)
    have ec : (m_may g1 (nI n) p ∧ (m_bs g p n < 0 ∨ g1 (8 * nI n + p) < g1 (8 * m_bs g p n + p))) ↔ (m_may g (nI n) p ∧ (m_bs g p n < 0 ∨ g (8 * nI n + p) < g (8 * m_bs g p n + p))) := by
      unfold m_may
      rw [hq.1, hq.2]
      rcases hb with hb | hb
      · have : m_bs g p n < 0 := by rw [hb]; decide
        simp only [this, true_or]
      · rw [(h (m_bs g p n) hb.1 (by have := hb.2.1; rw [i_lt]; (simp only [ne_eq, i_lt, i_le, i_eq, i_add, i_sub, i_neg, i_mul, Int32.reduceToInt] at *; omega))).1]
    rw [m_bs, m_bs, e]
    by_cases c : (m_may g (nI n) p ∧ (m_bs g p n < 0 ∨ g (8 * nI n + p) < g (8 * m_bs g p n + p)))
    · rw [if_pos c, if_pos (ec.mpr c)]
    · rw [if_neg c, if_neg (fun z => c (ec.mp z))]
theorem m_be_congr {g g1 : Int32 → Int32} {p : Int32} (h : ∀ q : Int32, 0 ≤ q → q < 4 → g1 (8 * q + p) = g (8 * q + p) ∧ (m_hd g1 (8 * q + p) ↔ m_hd g (8 * q + p))) : m_be g1 p = m_be g p ∧ m_bp g1 p = m_bp g p := by
  have e : m_be g1 p = m_be g p := m_bs_congr h 4 (by omega)
  refine ⟨e, ?_⟩
  unfold m_bp
  rw [e]
  have hb := m_bs_rg g p 4 (by omega)
  change m_be g p = -6 ∨ (0 ≤ m_be g p ∧ (m_be g p).toInt < _ ∧ _) at hb
  rcases hb with hb | hb
  · rw [hb, if_pos (by decide), if_pos (by decide)]
  · rw [(h (m_be g p) hb.1 (by have := hb.2.1; rw [i_lt]; (simp only [ne_eq, i_lt, i_le, i_eq, i_add, i_sub, i_neg, i_mul, Int32.reduceToInt] at *; omega))).1]
def m_wf (e b : Int32) : Prop := (e = -6 ∧ b = -6) ∨ ((0 ≤ e ∧ e < 4) ∧ 0 ≤ b ∧ b ≤ 9)
theorem m_be_wf {g : Int32 → Int32} {p : Int32} (hP : m_P g) (p0 : 0 ≤ p) (p1 : p < 8) : m_wf (m_be g p) (m_bp g p) := by
  have hb := m_bs_rg g p 4 (by omega)
  change m_be g p = -6 ∨ (0 ≤ m_be g p ∧ (m_be g p).toInt < _ ∧ _) at hb
  unfold m_bp
  rcases hb with hb | hb
  · rw [hb, if_pos (by decide)]
    exact Or.inl ⟨rfl, rfl⟩
  · have h4 : m_be g p < 4 := by have := hb.2.1; rw [i_lt]; (simp only [ne_eq, i_lt, i_le, i_eq, i_add, i_sub, i_neg, i_mul, Int32.reduceToInt] at *; omega)
    rw [if_neg (Int32.not_lt.mpr hb.1)]
    have hx := b_8 hb.1 h4 p0 p1
    refine Or.inr ⟨⟨hb.1, h4⟩, hb.2.2.1, ?_⟩
    rcases hP _ hx.2.1 hx.2.2 with h | h
    · have : 0 ≤ g (8 * m_be g p + p) := hb.2.2.1
      rw [h] at this
      exact absurd this (by decide)
    · exact h.2
theorem m_rk_inj {e b e' b' : Int32} (h : m_wf e b) (h' : m_wf e' b') : m_rk e b = m_rk e' b' ↔ e = e' ∧ b = b' := by
  unfold m_rk
  rcases h with ⟨rfl, rfl⟩ | ⟨he, hb⟩ <;> rcases h' with ⟨rfl, rfl⟩ | ⟨he', hb'⟩
  · simp
  · rw [if_pos (by decide), if_neg (by (simp only [ne_eq, i_lt, i_le, i_eq, i_add, i_sub, i_neg, i_mul, Int32.reduceToInt] at *; omega))]
    (simp only [ne_eq, i_lt, i_le, i_eq, i_add, i_sub, i_neg, i_mul, Int32.reduceToInt] at *; omega)
  · rw [if_neg (by (simp only [ne_eq, i_lt, i_le, i_eq, i_add, i_sub, i_neg, i_mul, Int32.reduceToInt] at *; omega)), if_pos (by decide)]
    (simp only [ne_eq, i_lt, i_le, i_eq, i_add, i_sub, i_neg, i_mul, Int32.reduceToInt] at *; omega)
  · rw [if_neg (by (simp only [ne_eq, i_lt, i_le, i_eq, i_add, i_sub, i_neg, i_mul, Int32.reduceToInt] at *; omega)), if_neg (by (simp only [ne_eq, i_lt, i_le, i_eq, i_add, i_sub, i_neg, i_mul, Int32.reduceToInt] at *; omega))]
    (simp only [ne_eq, i_lt, i_le, i_eq, i_add, i_sub, i_neg, i_mul, Int32.reduceToInt] at *; omega)
