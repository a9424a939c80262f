/-! ===== an event ===== -/
theorem b_rem : ∀ a : Nat, a < 4 → ∀ b : Nat, b < 8 → fd_rem (8 * nI a + nI b) 8 = nI b := by decide
theorem b_rem8 {a b : Int32} (a0 : 0 ≤ a) (a1 : a < 4) (b0 : 0 ≤ b) (b1 : b < 8) : fd_rem (8 * a + b) 8 = b := by
  obtain ⟨i, hi, rfl⟩ := m_nat (x := a) (M := 3) a0 (show a ≤ (3 : Int32) by (simp only [ne_eq, i_lt, i_le, i_eq, i_add, i_sub, i_neg, i_mul, Int32.reduceToInt] at *; omega)) (by decide)
  obtain ⟨j, hj, rfl⟩ := m_nat (x := b) (M := 7) b0 (show b ≤ (7 : Int32) by (simp only [ne_eq, i_lt, i_le, i_eq, i_add, i_sub, i_neg, i_mul, Int32.reduceToInt] at *; omega)) (by decide)
  exact b_rem i (by omega) j (by omega)
/-- a state of the component and one of the reference -/
abbrev m_St (S : fd_S) (g : Int32 → Int32) : Prop := m_R S g ∧ m_B S g ∧ m_L S g ∧ m_Q S g ∧ m_T S g ∧ S 0 6 = g 63 ∧ S 0 7 = g 65 ∧ S 0 8 = g 66 ∧ S 0 9 = g 67 ∧ S 0 10 = g 69 ∧ S 3 2 = g 68
theorem m_St.R {S : fd_S} {g : Int32 → Int32} (h : m_St S g) : m_R S g := h.1
theorem m_St.B {S : fd_S} {g : Int32 → Int32} (h : m_St S g) : m_B S g := h.2.1
theorem m_St.L {S : fd_S} {g : Int32 → Int32} (h : m_St S g) : m_L S g := h.2.2.1
theorem m_St.Q {S : fd_S} {g : Int32 → Int32} (h : m_St S g) : m_Q S g := h.2.2.2.1
theorem m_St.T {S : fd_S} {g : Int32 → Int32} (h : m_St S g) : m_T S g := h.2.2.2.2.1
theorem m_St.c6 {S : fd_S} {g : Int32 → Int32} (h : m_St S g) : S 0 6 = g 63 := h.2.2.2.2.2.1
theorem m_St.c7 {S : fd_S} {g : Int32 → Int32} (h : m_St S g) : S 0 7 = g 65 := h.2.2.2.2.2.2.1
theorem m_St.c8 {S : fd_S} {g : Int32 → Int32} (h : m_St S g) : S 0 8 = g 66 := h.2.2.2.2.2.2.2.1
theorem m_St.c9 {S : fd_S} {g : Int32 → Int32} (h : m_St S g) : S 0 9 = g 67 := h.2.2.2.2.2.2.2.2.1
theorem m_St.c10 {S : fd_S} {g : Int32 → Int32} (h : m_St S g) : S 0 10 = g 69 := h.2.2.2.2.2.2.2.2.2.1
theorem m_St.d2 {S : fd_S} {g : Int32 → Int32} (h : m_St S g) : S 3 2 = g 68 := h.2.2.2.2.2.2.2.2.2.2
/-- the reference's own laws -/
abbrev m_Go (g : Int32 → Int32) : Prop := m_GR g ∧ m_GB g ∧ m_P g ∧ m_Ok g ∧ 0 ≤ g 63
theorem m_Go.R {g : Int32 → Int32} (h : m_Go g) : m_GR g := h.1
theorem m_Go.B {g : Int32 → Int32} (h : m_Go g) : m_GB g := h.2.1
theorem m_Go.P {g : Int32 → Int32} (h : m_Go g) : m_P g := h.2.2.1
theorem m_Go.O {g : Int32 → Int32} (h : m_Go g) : m_Ok g := h.2.2.2.1
theorem m_Go.t {g : Int32 → Int32} (h : m_Go g) : 0 ≤ g 63 := h.2.2.2.2
theorem m_Ev_hd {g g2 : Int32 → Int32} {x w e : Int32} (h : m_Ev g g2 x w e) {y : Int32} (hy : y ≠ x) : m_hd g2 y ↔ m_hd g y := by
  rcases h with ⟨-, -, h⟩ | ⟨-, -, h⟩ | ⟨-, -, h⟩ | ⟨r, -, -, -, ⟨-, -, h⟩ | ⟨-, -, h⟩⟩
  · exact h y
  · exact h y
  · exact h y
  · exact h y
  · rw [h y]
    exact ⟨fun z => z.elim id (fun z => absurd z hy), Or.inl⟩
theorem m_happen {fu : Nat} {S S' : fd_S} {g : Int32 → Int32} {a b x path q w : Int32} (hfu : 10000 ≤ fu) (hS : m_St S g) (hg : m_Go g) (hK : m_K S') (ht : g 63 ≤ 500000) (a0 : 0 ≤ a) (a1 : a < 4) (b0 : 0 ≤ b) (b1 : b < 8) (hx : x = 8 * a + b) (hp : path = -6 ∨ (0 ≤ path ∧ path ≤ 9)) (hq : 0 ≤ q) (hw : w = if path = -6 then g 34 else if g x = -6 then 0 else g 35) :
    ∃ e S1 g2, zS_happen fu S x path q = some (e, S1) ∧ ((zM_meet fu (fd_sg S' (m_gc (m_gu g x path) x path)) x w q).bind fun q22 => (fd_pr q22 fun r21 S19 => ((zM_lookAtBest fu S19).bind fun S23 => (some (r21, S23))))) = some (e, fd_sg S' g2) ∧ m_St S1 g2 ∧ m_Go g2 ∧ g2 63 = g 63 ∧ g2 70 = g 70 + 1 ∧ ∀ k : Nat, 23 ≤ k → S1 k = S k := by
  have h64 := hS.R.2.2.1
  have hx32 : 0 ≤ x ∧ x < 32 := by rw [hx]; exact (b_8 a0 a1 b0 b1).2
  have hx2 : x ≠ 70 ∧ x ≠ 64 ∧ x ≠ 63 ∧ x < 131 := by clear hS hg hK hw hx; (simp only [ne_eq, i_lt, i_le, i_eq, i_add, i_sub, i_neg, i_mul, Int32.reduceToInt] at *; omega)
  generalize hg0 : m_gu g x path = g0
  have o0 : ∀ j : Int32, g0 j = if j = x then path else g j := fun j => by rw [← hg0]; rfl
  obtain ⟨hl, hgc⟩ := m_gc_ok (g := g0) (x := x) (path := path)
  generalize hc : m_gc g0 x path = gc at hl hgc ⊢
  have oc : ∀ j : Int32, j < 131 → j ≠ 70 → j ≠ x → gc j = g j := by
    intro j h1 h2 h3
    rw [hgc j h1, if_neg h2, o0, if_neg h3]
  have ocx : gc x = path := by rw [hgc x hx2.2.2.2, if_neg hx2.1, o0, if_pos rfl]
  have oc1 : ∀ j : Int32, 32 ≤ j → j < 131 → j ≠ 70 → gc j = g j := fun j h1 h2 h3 => oc j h2 h3 (by clear hS hg hK hw hx o0 hgc oc; (simp only [ne_eq, i_lt, i_le, i_eq, i_add, i_sub, i_neg, i_mul, Int32.reduceToInt] at *; omega))
  generalize hS5 : fd_up (fd_up S 20 x path) 0 7 (S 0 7 + 1) = S5
  have s5 : ∀ k : Nat, k ≠ 0 → k ≠ 20 → S5 k = S k := fun k h1 h2 => by rw [← hS5, fd_up_ne h1, fd_up_ne h2]
  have s50 : ∀ j : Int32, j ≠ 7 → S5 0 j = S 0 j := fun j hj => by rw [← hS5, fd_up_at, if_neg hj, fd_up_ne (by decide)]
  have s57 : S5 0 7 = S 0 7 + 1 := by rw [← hS5, fd_up_at, if_pos rfl]
  have s520 : ∀ j : Int32, S5 20 j = if j = x then path else S 20 j := fun j => by rw [← hS5, fd_up_ne (by decide), fd_up_at]
  have R5 : m_R S5 gc := m_R_congr hS.R (by rw [s5 3 (by decide) (by decide)]) (s5 4 (by decide) (by decide)) (fun k _ _ => s5 k (by omega) (by omega)) (oc1 _ (by decide) (by decide) (by decide)) (fun j h1 h2 => oc1 j (Int32.le_trans (by decide) h1) h2 (by clear hS hg hK hw hx o0 hgc oc oc1; (simp only [ne_eq, i_lt, i_le, i_eq, i_add, i_sub, i_neg, i_mul, Int32.reduceToInt] at *; omega)))
  have G5 : m_GR gc := m_GR_congr hg.R h64.2 (oc1 _ (by decide) (by decide) (by decide)) (by rw [oc1 _ (by decide) (by decide) (by decide)]; exact Int32.le_refl _) (fun j h1 h2 => oc1 j (Int32.le_trans (by decide) h1) h2 (by clear hS hg hK hw hx o0 hgc oc oc1; (simp only [ne_eq, i_lt, i_le, i_eq, i_add, i_sub, i_neg, i_mul, Int32.reduceToInt] at *; omega)))
  have B5 : m_B S5 gc := m_B_congr hS.B (s5 2 (by decide) (by decide)) (fun j h1 h2 => oc1 j h1 (Int32.lt_trans h2 (by decide)) (by clear hS hg hK hw hx o0 hgc oc oc1; (simp only [ne_eq, i_lt, i_le, i_eq, i_add, i_sub, i_neg, i_mul, Int32.reduceToInt] at *; omega)))
  have GB5 : m_GB gc := m_GB_congr hg.B (fun j h1 h2 => oc1 j h1 (Int32.lt_trans h2 (by decide)) (by clear hS hg hK hw hx o0 hgc oc oc1; (simp only [ne_eq, i_lt, i_le, i_eq, i_add, i_sub, i_neg, i_mul, Int32.reduceToInt] at *; omega)))
  have hw2 : 0 ≤ w ∧ w ≤ 2000 := by
    obtain ⟨-, -, b2, b3, -⟩ := hg.B
    rw [hw]
    repeat' split
    · exact b2
    · exact ⟨by decide, by decide⟩
    · exact b3
  have ew : zS_weigh S (S 20 x) path = w := by
    unfold zS_weigh
    rw [hS.Q x hx32.1 hx32.2, hS.B.e2, hS.B.e3, hw]
  have e63 : gc 63 = g 63 := oc1 _ (by decide) (by decide) (by decide)
  obtain ⟨e, S6, g6, m1, m2, R6, G6, k8, k9, k2, ⟨f6, f7, f10⟩, k65, fS, fg, hE⟩ := m_meet (S' := S') (x := x) (w := w) (q := q) hfu R5 G5 B5 GB5 hK (by rw [s50 _ (by decide), hS.c6, e63]) (by rw [s50 _ (by decide), hS.c8, oc1 _ (by decide) (by decide) (by decide)]) (by rw [s50 _ (by decide), hS.c9, oc1 _ (by decide) (by decide) (by decide)]) (by rw [s5 3 (by decide) (by decide), hS.d2, oc1 _ (by decide) (by decide) (by decide)]) (by rw [e63]; exact ⟨hg.t, ht⟩) hx32 hw2 hq hl
  have L6 : m_L S6 g0 := m_L_congr hS.L (by rw [fS 5 (by omega), s5 5 (by decide) (by decide)]) (by rw [fS 6 (by omega), s5 6 (by decide) (by decide)]) (by rw [fS 7 (by omega), s5 7 (by decide) (by decide)]) (by rw [o0, if_neg (Ne.symm hx2.1)]) (fun j hj => by rw [o0, if_neg (by clear hS hg hK hw hx o0 hgc oc oc1 fg hE R6 G6 R5 G5 B5 GB5; (simp only [ne_eq, i_lt, i_le, i_eq, i_add, i_sub, i_neg, i_mul, Int32.reduceToInt] at *; omega))])
  obtain ⟨S7, w1, w2, w3⟩ := m_writeEvent (path := path) hfu R6 G6 L6 hx32 hp (by rw [fS 20 (by omega), s520, if_pos rfl]) hw2 (by rw [hc, fg _ (by decide)]) (by rw [hc]; exact hE)
  have R7 := m_R_FL R6 w3
  have g6a : ∀ j : Int32, j < 64 → g6 j = if j = x then path else g j := by
    intro j hj
    rw [fg j (Or.inl hj)]
    by_cases cj : j = x
    · rw [if_pos cj, cj, ocx]
    · rw [if_neg cj, oc j (Int32.lt_trans hj (by decide)) (by clear hS hg hK hw hx o0 hgc oc oc1 fg hE R6 G6 R5 G5 B5 GB5; (simp only [ne_eq, i_lt, i_le, i_eq, i_add, i_sub, i_neg, i_mul, Int32.reduceToInt] at *; omega)) cj]
  have P6 : m_P g6 := by
    intro j j0 j1
    rw [g6a j (Int32.lt_trans j1 (by decide))]
    split
    · exact hp
    · exact hg.P j j0 j1
  have s7a : ∀ k : Nat, 20 ≤ k → S7 k = S5 k := fun k hk => by rw [w3 k (by omega) (by omega) (by omega), fS k (by omega)]
  have Q7 : m_Q S7 g6 := by
    intro j j0 j1
    rw [s7a 20 (by omega), s520, g6a j (Int32.lt_trans j1 (by decide)), hS.Q j j0 j1]
  have erem : fd_rem x 8 = b := by rw [hx]; exact b_rem8 a0 a1 b0 b1
  obtain ⟨S8, r1, r2, r3, r4, r5⟩ := m_refresh hfu R7 G6 P6 Q7 b0 b1
  obtain ⟨g7, l1, l2, l3⟩ := m_lookAtBest (S := S') hfu R6.2.2.1 G6
  have g7hi : ∀ j : Int32, 63 ≤ j → g7 j = g6 j := fun j hj => l2 j (Or.inr hj)
  have g7lo : ∀ j : Int32, j < 39 → g7 j = g6 j := fun j hj => l2 j (Or.inl hj)
  have hS7T : ∀ p : Int32, 0 ≤ p → p < 8 → m_T1 S7 g6 p := by
    intro p p0 p1
    have hT := hS.T p p0 p1
    have key : ∀ c : Int32, 0 ≤ c → c < 3 → g6 (39 + 3 * p + c) = g (39 + 3 * p + c) := by
      intro c c0 c1
      have := (b_3 p0 p1 c0 c1).2
      rw [g6a _ (Int32.lt_trans this.2 (by decide)), if_neg (by clear hS hg hK hw hx o0 hgc oc oc1 fg hE R6 G6 R5 G5 B5 GB5; (simp only [ne_eq, i_lt, i_le, i_eq, i_add, i_sub, i_neg, i_mul, Int32.reduceToInt] at *; omega))]
    unfold m_T1 at hT ⊢
    rw [key 0 (by decide) (by decide), key 1 (by decide) (by decide), key 2 (by decide) (by decide), s7a 21 (by omega), s7a 22 (by omega), s5 21 (by decide) (by decide), s5 22 (by decide) (by decide)]
    exact hT
  unfold zS_happen
  simp only [fd_lt]
  rw [if_pos hx32, if_pos hx32, ew, show fd_up S 20 x path 0 7 = S 0 7 by rw [fd_up_ne (by decide)], hS5, m1, m2, Option.bind_some, Option.bind_some]
  unfold fd_pr
  dsimp only
  rw [w1, Option.bind_some, erem, r1, Option.bind_some, l1, Option.bind_some]
  have s8 : ∀ k : Nat, k ≠ 5 → k ≠ 6 → k ≠ 7 → k ≠ 21 → k ≠ 22 → S8 k = S6 k := fun k h1 h2 h3 h4 h5 => by rw [r2 k h4 h5, w3 k h1 h2 h3]
  refine ⟨e, S8, g7, rfl, rfl, ?_, ?_, ?_, ?_, ?_⟩
  · refine ⟨?_, ?_, ?_, ?_, ?_, ?_, ?_, ?_, ?_, ?_, ?_⟩
    · exact m_R_congr R7 (by rw [r2 3 (by decide) (by decide)]) (r2 4 (by decide) (by decide)) (fun k _ _ => r2 k (by omega) (by omega)) (g7hi _ (by decide)) (fun j h1 _ => g7hi j (Int32.le_trans (by decide) h1))
    · refine m_B_congr hS.B (by rw [s8 2 (by decide) (by decide) (by decide) (by decide) (by decide), fS 2 (by omega), s5 2 (by decide) (by decide)]) (fun j h1 h2 => ?_)
      rw [g7lo j h2, g6a j (Int32.lt_trans h2 (by decide)), if_neg (by clear hS hg hK hw hx o0 hgc oc oc1 fg hE R6 G6 R5 G5 B5 GB5 l2 l3 g7hi g7lo; (simp only [ne_eq, i_lt, i_le, i_eq, i_add, i_sub, i_neg, i_mul, Int32.reduceToInt] at *; omega))]
    · exact m_L_congr w2 (r2 5 (by decide) (by decide)) (r2 6 (by decide) (by decide)) (r2 7 (by decide) (by decide)) (g7hi _ (by decide)) (fun j hj => g7hi j (Int32.le_trans (by decide) hj))
    · intro j j0 j1
      rw [r2 20 (by decide) (by decide), Q7 j j0 j1, g7lo j (Int32.lt_trans j1 (by decide))]
    · intro p p0 p1
      by_cases cp : p = b
      · subst cp
        exact m_T1_up P6 p0 p1 (hS7T p p0 p1) (l3 p p0 p1) r4 r5
      · refine m_T1_same (hS7T p p0 p1) (l3 p p0 p1) ?_ (r3 p cp).1 (r3 p cp).2
        have key : ∀ c : Int32, 0 ≤ c → c < 3 → g6 (39 + 3 * p + c) = g (39 + 3 * p + c) := by
          intro c c0 c1
          have := (b_3 p0 p1 c0 c1).2
          rw [g6a _ (Int32.lt_trans this.2 (by decide)), if_neg (by clear hS hg hK hw hx o0 hgc oc oc1 fg hE R6 G6 R5 G5 B5 GB5 l2 l3 g7hi g7lo; (simp only [ne_eq, i_lt, i_le, i_eq, i_add, i_sub, i_neg, i_mul, Int32.reduceToInt] at *; omega))]
        have hbe : m_be g6 p = m_be g p ∧ m_bp g6 p = m_bp g p := by
          refine m_be_congr (fun d d0 d1 => ?_)
          have h8 := b_8 d0 d1 p0 p1
          have hne : 8 * d + p ≠ x := by
            intro z
            apply cp
            have h1 := b_rem8 d0 d1 p0 p1
            rw [z, erem] at h1
            exact h1.symm
          refine ⟨?_, ?_⟩
          · rw [g6a _ (Int32.lt_trans h8.2.2 (by decide)), if_neg hne]
          · rw [m_Ev_hd hE hne]
            exact m_hd_lo h64.2 (oc1 _ (by decide) (by decide) (by decide)) (fun j h1 h2 => oc1 j (Int32.le_trans (by decide) h1) h2 (by clear hS hg hK hw hx o0 hgc oc oc1 fg hE R6 G6 R5 G5 B5 GB5 l2 l3 g7hi g7lo; (simp only [ne_eq, i_lt, i_le, i_eq, i_add, i_sub, i_neg, i_mul, Int32.reduceToInt] at *; omega))) _
        rw [key 0 (by decide) (by decide), key 1 (by decide) (by decide), hbe.1, hbe.2]
        exact hg.O p p0 p1
    · rw [s8 0 (by decide) (by decide) (by decide) (by decide) (by decide), f6, s50 _ (by decide), hS.c6, g7hi _ (by decide), fg _ (by decide), e63]
    · rw [s8 0 (by decide) (by decide) (by decide) (by decide) (by decide), f7, s57, hS.c7, g7hi _ (by decide), k65, oc1 _ (by decide) (by decide) (by decide)]
    · rw [s8 0 (by decide) (by decide) (by decide) (by decide) (by decide), k8, g7hi _ (by decide)]
    · rw [s8 0 (by decide) (by decide) (by decide) (by decide) (by decide), k9, g7hi _ (by decide)]
    · rw [s8 0 (by decide) (by decide) (by decide) (by decide) (by decide), f10, s50 _ (by decide), hS.c10, g7hi _ (by decide), fg _ (by decide), oc1 _ (by decide) (by decide) (by decide)]
    · rw [s8 3 (by decide) (by decide) (by decide) (by decide) (by decide), k2, g7hi _ (by decide)]
  · refine ⟨?_, ?_, ?_, ?_, ?_⟩
    · exact m_GR_congr G6 R6.2.2.1.2 (g7hi _ (by decide)) (by rw [g7hi _ (by decide)]; exact Int32.le_refl _) (fun j h1 _ => g7hi j (Int32.le_trans (by decide) h1))
    · refine m_GB_congr hg.B (fun j h1 h2 => ?_)
      rw [g7lo j h2, g6a j (Int32.lt_trans h2 (by decide)), if_neg (by clear hS hg hK hw hx o0 hgc oc oc1 fg hE R6 G6 R5 G5 B5 GB5 l2 l3 g7hi g7lo; (simp only [ne_eq, i_lt, i_le, i_eq, i_add, i_sub, i_neg, i_mul, Int32.reduceToInt] at *; omega))]
    · intro j j0 j1
      rw [g7lo j (Int32.lt_trans j1 (by decide))]
      exact P6 j j0 j1
    · exact m_Ok_up R6.2.2.1.2 l2 l3
    · rw [g7hi _ (by decide), fg _ (by decide), e63]
      exact hg.t
  · rw [g7hi _ (by decide), fg _ (by decide), e63]
  · rw [g7hi _ (by decide), fg _ (by decide), hgc _ (by decide), if_pos rfl, o0, if_neg (Ne.symm hx2.1)]
  · intro k hk
    rw [s8 k (by omega) (by omega) (by omega) (by omega) (by omega), fS k (by omega), s5 k (by omega) (by omega)]
