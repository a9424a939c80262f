/-! ===== the store behind the constructors ===== -/
def k_f (k n : Nat) : Int32 :=
  if k = 2 ∨ k = 25 ∨ k = 48 then kc_first.getD n 0
  else if k = 4 ∨ k = 27 ∨ k = 50 then nI n
  else if k = 20 ∨ k = 43 ∨ k = 66 then kc_fl 32 (-6) (fun _ => 0) 32 n
  else if k = 21 ∨ k = 44 ∨ k = 67 then kc_fl 8 (-6) (fun _ => 0) 8 n
  else if k = 74 then ([65536, 60097, 55109, 50535, 46341, 42495, 38968, 35734] : List Int32).getD n 0
  else if k = 75 then ([104, 97, 108, 102, 115, 108, 111, 116, 103, 111, 110, 101, 115, 119, 97, 112, 111, 118, 101, 114, 98, 97, 99, 107, 116, 111, 112, 0] : List Int32).getD n 0
  else if k = 76 then ([4, 1, 0, 0, 100, 50, 100] : List Int32).getD n 0
  else if k = 77 then ([200, 50, 2000, 2000, 9999, 9999, 20000] : List Int32).getD n 0
  else if k = 78 then kM_g 8 n
  else 0
def k_S0 : fd_S := fun k j => k_f k j.toNatClampNeg
theorem k_rows {k : Nat} (hk : k = 4 ∨ k = 27 ∨ k = 50) {i : Int32} (i0 : 0 ≤ i) : k_S0 k i = i := by
  obtain ⟨n, hn, rfl⟩ := nI_of (Int32.not_lt.mpr i0)
  show k_f k (nI n).toNatClampNeg = nI n
  rw [nI_clamp hn]
  unfold k_f
  rw [if_neg (by omega), if_pos hk]
theorem k_mrows {S : fd_S} (h : ∀ i : Int32, 0 ≤ i → S 4 i = i) : m_rows S := by
  refine ⟨fun i i0 i6 => ?_, fun i j i0 i6 j0 j6 e => ?_⟩
  · rw [h i i0]
    exact ⟨i0, i6⟩
  · rw [h i i0, h j j0] at e
    exact e
theorem k_g64 : k_S0 78 64 = 0 := by decide
theorem k_no {i : Int32} (i0 : 0 ≤ i) (i1 : i < k_S0 78 64) : False := by
  rw [k_g64] at i1
  exact absurd i1 (Int32.not_lt.mpr i0)
theorem k_n1 : ∀ n : Nat, n < 7 → k_S0 2 (nI n) = k_S0 78 (32 + nI n) := by decide
theorem k_n2 : ∀ n : Nat, n < 6 → k_S0 78 (m_ll (nI n)) = 0 := by decide
theorem k_n3 : ∀ n : Nat, n < 32 → k_S0 20 (nI n) = -6 ∧ k_S0 78 (nI n) = -6 := by decide
theorem k_n4 : ∀ n : Nat, n < 8 → k_S0 21 (nI n) = -6 ∧ k_S0 22 (nI n) = 0 ∧ k_S0 78 (39 + 3 * nI n + 0) = -6 ∧ k_S0 78 (39 + 3 * nI n + 1) = -6 ∧ k_S0 78 (39 + 3 * nI n + 2) = 0 := by decide
theorem k_p {x : Int32} (x0 : 0 ≤ x) (x1 : x < 32) : k_S0 20 x = -6 ∧ k_S0 78 x = -6 := by
  obtain ⟨n, hn, rfl⟩ := m_nat (x := x) (M := 31) x0 (show x ≤ (31 : Int32) by (simp only [ne_eq, i_lt, i_le, i_eq, i_add, i_sub, i_neg, i_mul, Int32.reduceToInt] at *; omega)) (by decide)
  exact k_n3 n (by omega)
theorem k_b {p : Int32} (p0 : 0 ≤ p) (p1 : p < 8) : k_S0 21 p = -6 ∧ k_S0 22 p = 0 ∧ k_S0 78 (39 + 3 * p + 0) = -6 ∧ k_S0 78 (39 + 3 * p + 1) = -6 ∧ k_S0 78 (39 + 3 * p + 2) = 0 := by
  obtain ⟨n, hn, rfl⟩ := m_nat (x := p) (M := 7) p0 (show p ≤ (7 : Int32) by (simp only [ne_eq, i_lt, i_le, i_eq, i_add, i_sub, i_neg, i_mul, Int32.reduceToInt] at *; omega)) (by decide)
  exact k_n4 n (by omega)
theorem k_be {p : Int32} (p0 : 0 ≤ p) (p1 : p < 8) : m_be (k_S0 78) p = -6 := by
  have hb := m_bs_rg (k_S0 78) p 4 (by omega)
  change m_be (k_S0 78) p = -6 ∨ (0 ≤ m_be (k_S0 78) p ∧ (m_be (k_S0 78) p).toInt < _ ∧ m_may (k_S0 78) (m_be (k_S0 78) p) p) at hb
  rcases hb with hb | hb
  · exact hb
  · have h4 : m_be (k_S0 78) p < 4 := by have := hb.2.1; rw [i_lt]; (simp only [ne_eq, i_lt, i_le, i_eq, i_add, i_sub, i_neg, i_mul, Int32.reduceToInt] at *; omega)
    have hx := b_8 hb.1 h4 p0 p1
    have h1 := hb.2.2.1
    rw [(k_p hx.2.1 hx.2.2).2] at h1
    exact absurd h1 (by decide)
theorem k_St : m_St k_S0 (k_S0 78) := by
  refine ⟨⟨k_mrows (fun i i0 => k_rows (Or.inl rfl) i0), by decide, by decide, fun i i0 i1 => (k_no i0 i1).elim, fun i j i0 i1 => (k_no i0 i1).elim⟩, ?_, ?_, ?_, ?_, by decide, by decide, by decide, by decide, by decide, by decide⟩
  · intro i i0 i1
    obtain ⟨n, hn, rfl⟩ := m_nat (x := i) (M := 6) i0 (show i ≤ (6 : Int32) by (simp only [ne_eq, i_lt, i_le, i_eq, i_add, i_sub, i_neg, i_mul, Int32.reduceToInt] at *; omega)) (by decide)
    exact k_n1 n (by omega)
  · refine ⟨by decide, by decide, fun i i0 i6 => ?_⟩
    have e : k_S0 78 (m_ll i) = 0 := by
      obtain ⟨n, hn, rfl⟩ := m_nat (x := i) (M := 5) i0 (show i ≤ (5 : Int32) by (simp only [ne_eq, i_lt, i_le, i_eq, i_add, i_sub, i_neg, i_mul, Int32.reduceToInt] at *; omega)) (by decide)
      exact k_n2 n (by omega)
    rw [e]
    exact ⟨⟨by decide, by decide⟩, rfl, fun j j0 j1 => absurd j1 (Int32.not_lt.mpr j0)⟩
  · intro x x0 x1
    rw [(k_p x0 x1).1, (k_p x0 x1).2]
  · intro p p0 p1
    obtain ⟨h1, h2, h3, h4, h5⟩ := k_b p0 p1
    unfold m_T1
    rw [h1, h2, h3, h4, h5]
    exact ⟨by decide, rfl, Or.inl ⟨rfl, rfl⟩⟩
theorem k_GB : m_GB (k_S0 78) := by
  unfold m_GB
  decide
theorem k_Go : m_Go (k_S0 78) := by
  refine ⟨⟨fun i i0 i1 => (k_no i0 i1).elim, fun i j i0 i1 => (k_no i0 i1).elim⟩, k_GB, ?_, ?_, by decide⟩
  · intro x x0 x1
    exact Or.inl (k_p x0 x1).2
  · intro p p0 p1
    obtain ⟨h1, h2, h3, h4, h5⟩ := k_b p0 p1
    have e := k_be p0 p1
    refine ⟨by rw [h3, e], ?_⟩
    unfold m_bp
    rw [h4, e]
    rfl
theorem k_K1 : ∀ p : Nat, p < 8 → k_S0 74 (nI p) = nI (m_rowN p) := by decide
theorem k_K2 : ∀ n : Nat, n < 7 → k_S0 76 (nI n) = fd_tl fd_least (nI n) ∧ k_S0 77 (nI n) = fd_tl fd_most (nI n) := by decide
theorem k_K3 : ∀ a : Nat, a < 7 → ∀ b : Nat, b < 4 → nI b < zM_size (nI a) → k_S0 75 (4 * nI a + nI b) = fd_sc (zT_nameOf (nI a)) (nI b) := by decide
theorem k_K : m_K k_S0 := by
  refine ⟨k_K1, fun i i0 i1 => ?_, fun a b a0 a1 b0 b1 => ?_⟩
  · obtain ⟨n, hn, rfl⟩ := m_nat (x := i) (M := 6) i0 (show i ≤ (6 : Int32) by (simp only [ne_eq, i_lt, i_le, i_eq, i_add, i_sub, i_neg, i_mul, Int32.reduceToInt] at *; omega)) (by decide)
    exact k_K2 n (by omega)
  · have hz := m_size_rg a
    have b4 : b < 4 := by (simp only [ne_eq, i_lt, i_le, i_eq, i_add, i_sub, i_neg, i_mul, Int32.reduceToInt] at *; omega)
    obtain ⟨n, hn, rfl⟩ := m_nat (x := a) (M := 6) a0 (show a ≤ (6 : Int32) by clear hz b1; (simp only [ne_eq, i_lt, i_le, i_eq, i_add, i_sub, i_neg, i_mul, Int32.reduceToInt] at *; omega)) (by decide)
    obtain ⟨j, hj, rfl⟩ := m_nat (x := b) (M := 3) b0 (show b ≤ (3 : Int32) by clear hz b1; (simp only [ne_eq, i_lt, i_le, i_eq, i_add, i_sub, i_neg, i_mul, Int32.reduceToInt] at *; omega)) (by decide)
    exact k_K3 n (by omega) j (by omega) b1
theorem k_I0 : m_I k_S0 0 := by
  refine ⟨k_St, k_Go, ?_, k_K, ⟨by decide, ⟨by decide, by decide⟩, fun j j0 j1 => ?_⟩, ⟨by decide, by decide⟩, ⟨k_mrows (fun i i0 => ?_), k_mrows (fun i i0 => ?_)⟩, fun h => absurd (by decide) h, fun h => absurd (by decide) h⟩
  · unfold m_bd
    decide
  · rw [show k_S0 73 8 = 0 by decide] at j1
    exact absurd j1 (Int32.not_lt.mpr j0)
  · show k_S0 (23 + 4) i = i
    exact k_rows (Or.inr (Or.inl rfl)) i0
  · show k_S0 (46 + 4) i = i
    exact k_rows (Or.inr (Or.inr rfl)) i0
theorem k_hk : ∀ k : Nat, k < 82 → fd_kd k = 3 → k_S0 k 3 = 0 := by decide
theorem k_h0 : fd_h k_S0 := by
  intro k hk
  have h82 : k < 82 := by
    apply Nat.lt_of_not_le
    intro h
    unfold fd_kd at hk
    rw [List.getD_eq_getElem?_getD, List.getElem?_eq_none (by show 82 ≤ k; exact h)] at hk
    cases hk
  exact Or.inl (k_hk k h82 hk)
