/-! ===== the bests are looked at ===== -/
theorem b_30in {p : Int32} (p0 : 0 ≤ p) (p1 : p < 8) : 0 ≤ 39 + 3 * p ∧ 39 + 3 * p < 275 := by
  have := b_3in p0 p1 (show (0 : Int32) ≤ 0 by decide) (by decide)
  rwa [Int32.add_zero] at this
def m_up1 (g g' : Int32 → Int32) (p e b : Int32) : Prop := g' (39 + 3 * p + 0) = e ∧ g' (39 + 3 * p + 1) = b ∧ g' (39 + 3 * p + 2) = if e = g (39 + 3 * p + 0) ∧ b = g (39 + 3 * p + 1) then g (39 + 3 * p + 2) else g (39 + 3 * p + 2) + 1
def m_no1 (g g' : Int32 → Int32) (p : Int32) : Prop := g' (39 + 3 * p + 0) = g (39 + 3 * p + 0) ∧ g' (39 + 3 * p + 1) = g (39 + 3 * p + 1) ∧ g' (39 + 3 * p + 2) = g (39 + 3 * p + 2)
theorem m_lb1 {g g1 : Int32 → Int32} {p e b : Int32} (p0 : 0 ≤ p) (p1 : p < 8) (hg : g1 = if e = g (39 + 3 * p) ∧ b = g (39 + 3 * p + 1) then g else m_gu (m_gu (m_gu g (39 + 3 * p) e) (39 + 3 * p + 1) b) (39 + 3 * p + 2) (g (39 + 3 * p + 2) + 1)) :
    (∀ j : Int32, j < 39 ∨ 63 ≤ j → g1 j = g j) ∧ m_up1 g g1 p e b ∧ ∀ p' : Int32, 0 ≤ p' → p' < 8 → p' ≠ p → m_no1 g g1 p' := by
  have a0 := b_3 p0 p1 (show (0 : Int32) ≤ 0 by decide) (by decide)
  have a1 := b_3 p0 p1 (show (0 : Int32) ≤ 1 by decide) (by decide)
  have a2 := b_3 p0 p1 (show (0 : Int32) ≤ 2 by decide) (by decide)
  unfold m_up1 m_no1
  rw [Int32.add_zero] at a0
  by_cases c : e = g (39 + 3 * p) ∧ b = g (39 + 3 * p + 1)
  · rw [if_pos c] at hg
    subst hg
    rw [Int32.add_zero]
    exact ⟨fun _ _ => rfl, ⟨c.1.symm, c.2.symm, by rw [if_pos c]⟩, fun _ _ _ _ => ⟨rfl, rfl, rfl⟩⟩
  · rw [if_neg c] at hg
    have at_ : ∀ j, g1 j = if j = 39 + 3 * p + 2 then g (39 + 3 * p + 2) + 1 else if j = 39 + 3 * p + 1 then b else if j = 39 + 3 * p then e else g j := by
      intro j
      rw [hg]
      rfl
    refine ⟨fun j hj => ?_, ⟨?_, ?_, ?_⟩, fun p' q0 q1 hp => ?_⟩
    · rw [at_, if_neg (by clear at_ hg c; (simp only [ne_eq, i_lt, i_le, i_eq, i_add, i_sub, i_neg, i_mul, Int32.reduceToInt] at *; omega)), if_neg (by clear at_ hg c; (simp only [ne_eq, i_lt, i_le, i_eq, i_add, i_sub, i_neg, i_mul, Int32.reduceToInt] at *; omega)), if_neg (by clear at_ hg c; (simp only [ne_eq, i_lt, i_le, i_eq, i_add, i_sub, i_neg, i_mul, Int32.reduceToInt] at *; omega))]
    · rw [Int32.add_zero, at_, if_neg, if_neg, if_pos rfl]
      · rw [i_eq, a0.1, a1.1]; clear at_ hg c a0 a1 a2; (simp only [ne_eq, i_lt, i_le, i_eq, i_add, i_sub, i_neg, i_mul, Int32.reduceToInt] at *; omega)
      · rw [i_eq, a0.1, a2.1]; clear at_ hg c a0 a1 a2; (simp only [ne_eq, i_lt, i_le, i_eq, i_add, i_sub, i_neg, i_mul, Int32.reduceToInt] at *; omega)
    · rw [at_, if_neg, if_pos rfl]
      · rw [i_eq, a1.1, a2.1]; clear at_ hg c a0 a1 a2; (simp only [ne_eq, i_lt, i_le, i_eq, i_add, i_sub, i_neg, i_mul, Int32.reduceToInt] at *; omega)
    · rw [at_, if_pos rfl, Int32.add_zero, if_neg c]
    · have key : ∀ c : Int32, 0 ≤ c → c < 3 → g1 (39 + 3 * p' + c) = g (39 + 3 * p' + c) := by
        intro c c0 c1
        have ne : ∀ d : Int32, 0 ≤ d → d < 3 → ¬ 39 + 3 * p' + c = 39 + 3 * p + d := fun d d0 d1 z => hp ((b_3inj q0 q1 c0 c1 p0 p1 d0 d1).mp z).1
        rw [at_, if_neg (ne 2 (by decide) (by decide)), if_neg (ne 1 (by decide) (by decide)), if_neg (by have := ne 0 (by decide) (by decide); rwa [Int32.add_zero (39 + 3 * p)] at this)]
      exact ⟨key 0 (by decide) (by decide), key 1 (by decide) (by decide), key 2 (by decide) (by decide)⟩
theorem m_be_lo {g g1 : Int32 → Int32} {p : Int32} (h64 : g 64 ≤ 6) (p0 : 0 ≤ p) (p1 : p < 8) (h : ∀ j : Int32, j < 39 ∨ 63 ≤ j → g1 j = g j) : m_be g1 p = m_be g p ∧ m_bp g1 p = m_bp g p := by
  refine m_be_congr (fun q q0 q1 => ?_)
  have hx := b_8 q0 q1 p0 p1
  exact ⟨h _ (Or.inl (Int32.lt_trans hx.2.2 (by decide))), m_hd_lo h64 (h _ (by decide)) (fun j j0 _ => h j (Or.inr (Int32.le_trans (by decide) j0))) _⟩
theorem m_lb2 {fu : Nat} {S : fd_S} {g : Int32 → Int32} (hfu : 10000 ≤ fu) (h64 : 0 ≤ g 64 ∧ g 64 ≤ 6) (hG : m_GR g) : ∀ (n : Nat) (x : Int32) (g1 : Int32 → Int32), m_ms 8 x < n → 0 ≤ x → x ≤ 8 → (∀ j : Int32, j < 39 ∨ 63 ≤ j → g1 j = g j) → (∀ p : Int32, 0 ≤ p → p < x → m_up1 g g1 p (m_be g p) (m_bp g p)) → (∀ p : Int32, x ≤ p → p < 8 → m_no1 g g1 p) →
    ∃ g', zM_lookAtBest_2 fu n (fd_sg S g1) x = some (fd_sg S g') ∧ (∀ j : Int32, j < 39 ∨ 63 ≤ j → g' j = g j) ∧ ∀ p : Int32, 0 ≤ p → p < 8 → m_up1 g g' p (m_be g p) (m_bp g p) := by
  intro n
  induction n with
  | zero => intro x g1 h; omega
  | succ n ih =>
    intro x g1 hn x0 x8 h1 h2 h3
    rw [zM_lookAtBest_2]
    by_cases c1 : 8 ≤ x
    · rw [if_pos c1]
      exact ⟨g1, rfl, h1, fun p p0 p1 => h2 p p0 (Int32.lt_of_lt_of_le p1 c1)⟩
    have hx : x < 8 ∧ 0 ≤ x + 1 ∧ x + 1 ≤ 8 := by clear h1 h2 h3 ih hG; (simp only [ne_eq, i_lt, i_le, i_eq, i_add, i_sub, i_neg, i_mul, Int32.reduceToInt] at *; omega)
    have e64 : g1 64 = g 64 := h1 _ (by decide)
    have G1 : m_GR g1 := m_GR_congr hG h64.2 e64 (by rw [h1 _ (by decide)]; exact Int32.le_refl _) (fun j j0 _ => h1 j (Or.inr (Int32.le_trans (by decide) j0)))
    have hbe := m_be_lo h64.2 x0 hx.1 h1
    have e13 := m_lb13 (S := S) (g := g1) (p := x) hfu (by rw [e64]; exact h64) G1 x0 hx.1 fu 0 (by omega) (by omega)
    change zM_lookAtBest_13 fu fu (fd_sg S g1) x (-6) 0 = _ at e13
    have i0 := b_30in x0 hx.1
    have i1 := b_3in x0 hx.1 (show (0 : Int32) ≤ 1 by decide) (by decide)
    have i2 := b_3in x0 hx.1 (show (0 : Int32) ≤ 2 by decide) (by decide)
    have a0 := b_3 x0 hx.1 (show (0 : Int32) ≤ 0 by decide) (by decide)
    have a1 := b_3 x0 hx.1 (show (0 : Int32) ≤ 1 by decide) (by decide)
    have a2 := b_3 x0 hx.1 (show (0 : Int32) ≤ 2 by decide) (by decide)
    rw [Int32.add_zero] at a0
    have n20 : ¬ 39 + 3 * x + 2 = 39 + 3 * x + 1 := by rw [i_eq, a1.1, a2.1]; clear ih h1 h2 h3 hG G1 hbe e13 i0 i1 i2 a0 a1 a2; (simp only [ne_eq, i_lt, i_le, i_eq, i_add, i_sub, i_neg, i_mul, Int32.reduceToInt] at *; omega)
    have n21 : ¬ 39 + 3 * x + 2 = 39 + 3 * x := by rw [i_eq, a0.1, a2.1]; clear ih h1 h2 h3 hG G1 hbe e13 i0 i1 i2 a0 a1 a2; (simp only [ne_eq, i_lt, i_le, i_eq, i_add, i_sub, i_neg, i_mul, Int32.reduceToInt] at *; omega)
    have hms := m_ms_up c1
    -- the step
    have step : ∀ (b : Int32) (g2 : Int32 → Int32), b = m_bp g1 x → (g2 = if m_be g1 x = g1 (39 + 3 * x) ∧ b = g1 (39 + 3 * x + 1) then g1 else m_gu (m_gu (m_gu g1 (39 + 3 * x) (m_be g1 x)) (39 + 3 * x + 1) b) (39 + 3 * x + 2) (g1 (39 + 3 * x + 2) + 1)) →
        ∃ g', zM_lookAtBest_2 fu n (fd_sg S g2) (x + 1) = some (fd_sg S g') ∧ (∀ j : Int32, j < 39 ∨ 63 ≤ j → g' j = g j) ∧ ∀ p : Int32, 0 ≤ p → p < 8 → m_up1 g g' p (m_be g p) (m_bp g p) := by
      intro b g2 hb hg2
      obtain ⟨s1, s2, s3⟩ := m_lb1 x0 hx.1 hg2
      have hno := h3 x (Int32.le_refl _) hx.1
      refine ih (x + 1) g2 (by omega) hx.2.1 hx.2.2 (fun j hj => by rw [s1 j hj, h1 j hj]) ?_ ?_
      · intro p p0 p1
        by_cases cp : p = x
        · subst cp
          unfold m_up1 at s2 ⊢
          unfold m_no1 at hno
          rw [hb, hbe.1, hbe.2, hno.1, hno.2.1, hno.2.2] at s2
          exact s2
        · have hpx : p < x := by clear ih h1 h2 h3 hG G1 hbe e13 s1 s2 s3 hno; (simp only [ne_eq, i_lt, i_le, i_eq, i_add, i_sub, i_neg, i_mul, Int32.reduceToInt] at *; omega)
          have u := h2 p p0 hpx
          have v := s3 p p0 (Int32.lt_trans hpx hx.1) cp
          unfold m_up1 at u ⊢
          unfold m_no1 at v
          rw [v.1, v.2.1, v.2.2]
          exact u
      · intro p p0 p1
        have hpx : x ≤ p ∧ p ≠ x ∧ 0 ≤ p := by clear ih h1 h2 h3 hG G1 hbe e13 s1 s2 s3 hno; (simp only [ne_eq, i_lt, i_le, i_eq, i_add, i_sub, i_neg, i_mul, Int32.reduceToInt] at *; omega)
        have u := h3 p hpx.1 p1
        have v := s3 p hpx.2.2 p1 hpx.2.1
        unfold m_no1 at u v ⊢
        rw [v.1, v.2.1, v.2.2]
        exact u
    have k2 : ∀ b : Int32, m_gu (m_gu g1 (39 + 3 * x) (m_be g1 x)) (39 + 3 * x + 1) b (39 + 3 * x + 2) = g1 (39 + 3 * x + 2) := by
      intro b
      unfold m_gu
      rw [if_neg n20, if_neg n21]
    rw [if_neg c1, e13, Option.bind_some]
    simp only [fd_lt, sg_78, sg_up, Int32.zero_add]
    simp only [if_pos i0, if_pos i1, if_pos i2, k2]
    by_cases ce : m_be g1 x < 0
    · rw [if_neg (Int32.not_le.mpr ce)]
      have ebp : (-6 : Int32) = m_bp g1 x := by unfold m_bp; rw [if_pos ce]
      have st := step (-6) _ ebp rfl
      by_cases d1 : m_be g1 x = g1 (39 + 3 * x)
      · by_cases d2 : -6 = g1 (39 + 3 * x + 1)
        · rw [if_pos ⟨d1, d2⟩] at st
          rw [if_pos d1, if_pos d2]
          exact st
        · rw [if_neg (fun z => d2 z.2)] at st
          rw [if_pos d1, if_neg d2]
          exact st
      · rw [if_neg (fun z => d1 z.1)] at st
        rw [if_neg d1]
        exact st
    · have hb := m_bs_rg g1 x 4 (by omega)
      change m_be g1 x = -6 ∨ (0 ≤ m_be g1 x ∧ (m_be g1 x).toInt < _ ∧ _) at hb
      have hb2 : 0 ≤ m_be g1 x ∧ m_be g1 x < 4 := by
        rcases hb with hb | hb
        · exact absurd (by rw [hb]; decide) ce
        · exact ⟨hb.1, by have := hb.2.1; clear ih h1 h2 h3 hG G1 hbe e13 step hb; rw [i_lt]; (simp only [ne_eq, i_lt, i_le, i_eq, i_add, i_sub, i_neg, i_mul, Int32.reduceToInt] at *; omega)⟩
      have h8 := b_8 hb2.1 hb2.2 x0 hx.1
      rw [if_pos hb2.1, if_pos ⟨h8.2.1, Int32.lt_trans h8.2.2 (by decide)⟩]
      have ebp : g1 (8 * m_be g1 x + x) = m_bp g1 x := by unfold m_bp; rw [if_neg ce]
      have st := step (g1 (8 * m_be g1 x + x)) _ ebp rfl
      by_cases d1 : m_be g1 x = g1 (39 + 3 * x)
      · by_cases d2 : g1 (8 * m_be g1 x + x) = g1 (39 + 3 * x + 1)
        · rw [if_pos ⟨d1, d2⟩] at st
          rw [if_pos d1, if_pos d2]
          exact st
        · rw [if_neg (fun z => d2 z.2)] at st
          rw [if_pos d1, if_neg d2]
          exact st
      · rw [if_neg (fun z => d1 z.1)] at st
        rw [if_neg d1]
        exact st
theorem m_lookAtBest {fu : Nat} {S : fd_S} {g : Int32 → Int32} (hfu : 10000 ≤ fu) (h64 : 0 ≤ g 64 ∧ g 64 ≤ 6) (hG : m_GR g) : ∃ g', zM_lookAtBest fu (fd_sg S g) = some (fd_sg S g') ∧ (∀ j : Int32, j < 39 ∨ 63 ≤ j → g' j = g j) ∧ ∀ p : Int32, 0 ≤ p → p < 8 → m_up1 g g' p (m_be g p) (m_bp g p) :=
  m_lb2 hfu h64 hG fu 0 g (m_ms_fu (by decide) (by decide) hfu) (by decide) (by decide) (fun _ _ => rfl) (fun p p0 p1 => absurd p1 (Int32.not_lt.mpr p0)) (fun _ _ _ => ⟨rfl, rfl, rfl⟩)
theorem m_refresh {fu : Nat} {S : fd_S} {g : Int32 → Int32} {p : Int32} (hfu : 10000 ≤ fu) (hR : m_R S g) (hG : m_GR g) (hP : m_P g) (hQ : m_Q S g) (p0 : 0 ≤ p) (p1 : p < 8) :
    ∃ S1, zS_refreshBest fu S p = some S1 ∧ (∀ k : Nat, k ≠ 21 → k ≠ 22 → S1 k = S k) ∧ (∀ p' : Int32, p' ≠ p → S1 21 p' = S 21 p' ∧ S1 22 p' = S 22 p') ∧ S1 21 p = m_rk (m_be g p) (m_bp g p) ∧ S1 22 p = if m_rk (m_be g p) (m_bp g p) = S 21 p then S 22 p else S 22 p + 1 := by
  unfold zS_refreshBest
  simp only [fd_lt]
  rw [m_findBest hfu hR hG hP hQ p0 p1, Option.bind_some, if_pos ⟨p0, p1⟩]
  by_cases c : m_rk (m_be g p) (m_bp g p) = S 21 p
  · rw [if_pos c]
    exact ⟨S, rfl, fun _ _ _ => rfl, fun _ _ => ⟨rfl, rfl⟩, c.symm, by rw [if_pos c]⟩
  · rw [if_neg c, if_pos ⟨p0, p1⟩, if_pos ⟨p0, p1⟩, if_pos ⟨p0, p1⟩]
    refine ⟨_, rfl, fun k h1 h2 => ?_, fun p' hp => ⟨?_, ?_⟩, ?_, ?_⟩
    · rw [fd_up_ne h2, fd_up_ne h1]
    · rw [fd_up_ne (by decide), fd_up_at, if_neg hp]
    · rw [fd_up_at, if_neg hp, fd_up_ne (by decide)]
    · rw [fd_up_ne (by decide), fd_up_at, if_pos rfl]
    · rw [fd_up_at, if_pos rfl, fd_up_ne (by decide), if_neg c]
/-- bests of the component and of the reference -/
def m_T1 (S : fd_S) (g : Int32 → Int32) (p : Int32) : Prop := S 21 p = m_rk (g (39 + 3 * p + 0)) (g (39 + 3 * p + 1)) ∧ S 22 p = g (39 + 3 * p + 2) ∧ m_wf (g (39 + 3 * p + 0)) (g (39 + 3 * p + 1))
def m_T (S : fd_S) (g : Int32 → Int32) : Prop := ∀ p : Int32, 0 ≤ p → p < 8 → m_T1 S g p
/-- the bests are what they should be -/
def m_Ok (g : Int32 → Int32) : Prop := ∀ p : Int32, 0 ≤ p → p < 8 → g (39 + 3 * p + 0) = m_be g p ∧ g (39 + 3 * p + 1) = m_bp g p
theorem m_T1_up {S S1 : fd_S} {g g' : Int32 → Int32} {p : Int32} (hP : m_P g) (p0 : 0 ≤ p) (p1 : p < 8) (hT : m_T1 S g p) (hu : m_up1 g g' p (m_be g p) (m_bp g p)) (h1 : S1 21 p = m_rk (m_be g p) (m_bp g p)) (h2 : S1 22 p = if m_rk (m_be g p) (m_bp g p) = S 21 p then S 22 p else S 22 p + 1) : m_T1 S1 g' p := by
  have hw := m_be_wf hP p0 p1
  unfold m_T1 at hT ⊢
  unfold m_up1 at hu
  refine ⟨by rw [h1, hu.1, hu.2.1], ?_, by rw [hu.1, hu.2.1]; exact hw⟩
  rw [h2, hu.2.2, hT.1, hT.2.1]
  by_cases c : m_be g p = g (39 + 3 * p + 0) ∧ m_bp g p = g (39 + 3 * p + 1)
  · rw [if_pos c, if_pos ((m_rk_inj hw hT.2.2).mpr c)]
  · rw [if_neg c, if_neg (fun z => c ((m_rk_inj hw hT.2.2).mp z))]
theorem m_T1_same {S S1 : fd_S} {g g' : Int32 → Int32} {p : Int32} (hT : m_T1 S g p) (hu : m_up1 g g' p (m_be g p) (m_bp g p)) (ho : g (39 + 3 * p + 0) = m_be g p ∧ g (39 + 3 * p + 1) = m_bp g p) (h1 : S1 21 p = S 21 p) (h2 : S1 22 p = S 22 p) : m_T1 S1 g' p := by
  unfold m_T1 at hT ⊢
  unfold m_up1 at hu
  rw [if_pos ⟨ho.1.symm, ho.2.symm⟩] at hu
  rw [h1, h2, hu.1, hu.2.1, hu.2.2, ← ho.1, ← ho.2]
  exact hT
theorem m_Ok_up {g g' : Int32 → Int32} (h64 : g 64 ≤ 6) (h : ∀ j : Int32, j < 39 ∨ 63 ≤ j → g' j = g j) (hu : ∀ p : Int32, 0 ≤ p → p < 8 → m_up1 g g' p (m_be g p) (m_bp g p)) : m_Ok g' := by
  intro p p0 p1
  have e := m_be_lo h64 p0 p1 h
  have u := hu p p0 p1
  exact ⟨by rw [u.1, e.1], by rw [u.2.1, e.2]⟩
