/-! ===== what is told ===== -/
def m_Y (c m : fd_S → Option Int32) : Prop := ∀ (S S' : fd_S) (g : Int32 → Int32), m_St S g → m_Go g → m_K S' → g 63 ≤ 400000 → (0 ≤ g 70 ∧ g 70 ≤ 1100000) → ∃ r, c S = some r ∧ m (fd_sg S' g) = some r
theorem m_bound {x : Int32} : m_Y (fun S => zF_bound S x) (fun S => zM_bound S x) := by
  intro S S' g hS hg hK ht h70
  dsimp only
  unfold zF_bound zM_bound
  by_cases c : 0 ≤ x ∧ x ≤ 6
  · have hx : x < 7 ∧ 0 ≤ 32 + x ∧ 32 + x < 275 := by clear hS hg hK; (simp only [ne_eq, i_lt, i_le, i_eq, i_add, i_sub, i_neg, i_mul, Int32.reduceToInt] at *; omega)
    rw [if_neg (m_within1 c), if_neg (m_in1 c), if_pos ⟨c.1, hx.1⟩, hS.B x c.1 hx.1, zM_bounded_eq x hx.2]
    exact ⟨_, rfl, rfl⟩
  · rw [if_pos (m_within0 c), if_pos (m_in0 c)]
    exact ⟨_, rfl, rfl⟩
theorem m_record {x : Int32} : m_Y (fun S => zF_record S x) (fun S => zM_record S x) := by
  intro S S' g hS hg hK ht h70
  dsimp only
  unfold zF_record zM_record
  have h64 := hS.R.2.2.1
  simp only [sg_78, fd_lt, m_rc]
  rw [hS.R.2.1]
  by_cases c : 0 ≤ x ∧ x ≤ g 64 - 1
  · have hx : x < g 64 ∧ x < 6 := by clear hS hg hK; (simp only [ne_eq, i_lt, i_le, i_eq, i_add, i_sub, i_neg, i_mul, Int32.reduceToInt] at *; omega)
    have hv := (hS.R.2.2.2.1 x c.1 hx.1).1
    unfold m_cV at hv
    rw [if_neg (m_within1 c), if_neg (m_in1 c), if_pos ⟨c.1, hx.2⟩, if_pos (m_at_in c.1 hx.2 (by decide) (by decide))]
    change ∃ r, (if fd_rk (m_rw S x) then some (S (m_rw S x) 0) else none) = some r ∧ _
    rw [if_pos (hS.R.1.rk c.1 hx.2), hv]
    exact ⟨_, rfl, rfl⟩
  · rw [if_pos (m_within0 c), if_pos (m_in0 c)]
    exact ⟨_, rfl, rfl⟩
theorem b_rk4 : ∀ b : Nat, b < 10 → ∀ e : Nat, e < 4 → fd_rem (nI b * 4 + nI e) 4 = nI e ∧ (nI b * 4 + nI e) / 4 = nI b := by decide
theorem m_best {x y : Int32} : m_Y (fun S => zF_best S x y) (fun S => zM_best S x y) := by
  intro S S' g hS hg hK ht h70
  dsimp only
  unfold zF_best zM_best
  by_cases c1 : ¬ (0 ≤ x ∧ x ≤ 7)
  · rw [if_pos (m_within0 c1), if_pos (m_in0 c1)]
    exact ⟨_, rfl, rfl⟩
  have c1 := Decidable.not_not.mp c1
  rw [if_neg (m_within1 c1), if_neg (m_in1 c1)]
  by_cases c2 : ¬ (0 ≤ y ∧ y ≤ 2)
  · rw [if_pos (m_within0 c2), if_pos (m_in0 c2)]
    exact ⟨_, rfl, rfl⟩
  have c2 := Decidable.not_not.mp c2
  have x8 : x < 8 ∧ y < 3 := by clear hS hg hK; (simp only [ne_eq, i_lt, i_le, i_eq, i_add, i_sub, i_neg, i_mul, Int32.reduceToInt] at *; omega)
  rw [if_neg (m_within1 c2), if_neg (m_in1 c2), if_pos (b_3in c1.1 x8.1 c2.1 x8.2), sg_78]
  have hT := hS.T x c1.1 x8.1
  unfold m_T1 at hT
  unfold zS_tellBest
  simp only [if_pos (show 0 ≤ x ∧ x < 8 from ⟨c1.1, x8.1⟩)]
  rw [hT.1, hT.2.1]
  by_cases y2 : y = 2
  · rw [if_pos y2, y2]
    exact ⟨_, rfl, rfl⟩
  rw [if_neg y2]
  rcases hT.2.2 with ⟨w1, w2⟩ | ⟨w1, w2⟩
  · rw [w1, w2, if_pos (by decide)]
    refine ⟨-6, rfl, ?_⟩
    by_cases y0 : y = 0
    · rw [y0, w1]
    · have y1 : y = 1 := by clear hS hg hK hT; (simp only [ne_eq, i_lt, i_le, i_eq, i_add, i_sub, i_neg, i_mul, Int32.reduceToInt] at *; omega)
      rw [y1, w2]
  · have hnr : ¬ m_rk (g (39 + 3 * x + 0)) (g (39 + 3 * x + 1)) = -6 := by
      unfold m_rk
      rw [if_neg (Int32.not_lt.mpr w1.1)]
      exact m_rk_fr w1 w2
    have er : m_rk (g (39 + 3 * x + 0)) (g (39 + 3 * x + 1)) = g (39 + 3 * x + 1) * 4 + g (39 + 3 * x + 0) := by
      unfold m_rk
      rw [if_neg (Int32.not_lt.mpr w1.1)]
    obtain ⟨e, he, ee⟩ := m_nat (x := g (39 + 3 * x + 0)) (M := 3) w1.1 (show g (39 + 3 * x + 0) ≤ (3 : Int32) by clear hS hg hK hT hnr er; (simp only [ne_eq, i_lt, i_le, i_eq, i_add, i_sub, i_neg, i_mul, Int32.reduceToInt] at *; omega)) (by decide)
    obtain ⟨b, hb, eb⟩ := m_nat (x := g (39 + 3 * x + 1)) (M := 9) w2.1 w2.2 (by decide)
    rw [if_neg hnr, er, ee, eb, (b_rk4 b (by omega) e (by omega)).1, (b_rk4 b (by omega) e (by omega)).2]
    by_cases y0 : y = 0
    · rw [if_pos y0, y0, ee]
      exact ⟨_, rfl, rfl⟩
    · have y1 : y = 1 := by clear hS hg hK hT hnr er ee eb; (simp only [ne_eq, i_lt, i_le, i_eq, i_add, i_sub, i_neg, i_mul, Int32.reduceToInt] at *; omega)
      rw [if_neg y0, y1, eb]
      exact ⟨_, rfl, rfl⟩
theorem m_lgLoop {fu : Nat} {S S' : fd_S} {g : Int32 → Int32} (hfu : 10000 ≤ fu) (hB : m_B S g) (hGB : m_GB g) (hK : m_K S') : ∀ (n : Nat) (x : Int32), m_ms 5001 x < n → 0 ≤ x → x ≤ 5001 → ∃ r, zF_longest_10 fu n S x = some r ∧ zM_longest_2 fu n (fd_sg S' g) x = some r := by
  intro n
  induction n with
  | zero => intro x h; omega
  | succ n ih =>
    intro x hn x0 x1
    rw [zF_longest_10, zM_longest_2]
    by_cases c : 5000 < x
    · rw [if_pos c, if_pos c]
      exact ⟨_, rfl, rfl⟩
    have hx : ¬ 5001 ≤ x ∧ 0 ≤ x + 1 ∧ x + 1 ≤ 5001 ∧ x ≤ 1000000 := by clear hB hGB hK ih; (simp only [ne_eq, i_lt, i_le, i_eq, i_add, i_sub, i_neg, i_mul, Int32.reduceToInt] at *; omega)
    have hms := m_ms_up hx.1
    have hb6 := hGB.2.2.2.2.2.2
    obtain ⟨P, p1, p2, -, -⟩ := m_less (S' := S') (v := g 38) (t := x) hfu hB.e0 hGB.1 hK.1 ⟨Int32.le_trans (by decide) hb6.1, hb6.2⟩ ⟨x0, hx.2.2.2⟩
    simp only [fd_lt, zM_bd6, zM_bd5, Option.bind_some]
    rw [if_neg c, if_neg c, hB.e6, hB.e5, p1, p2, Option.bind_some, Option.bind_some]
    by_cases cP : g 37 ≤ P
    · rw [if_pos cP, if_pos cP]
      exact ih (x + 1) (by omega) hx.2.1 hx.2.2.1
    · rw [if_neg cP, if_neg cP]
      exact ⟨_, rfl, rfl⟩
theorem m_longest {fu : Nat} (hfu : 10000 ≤ fu) : m_Y (fun S => zF_longest fu S) (fun S => zM_longest fu S) := by
  intro S S' g hS hg hK ht h70
  dsimp only
  unfold zF_longest zM_longest
  exact m_lgLoop hfu hS.B hg.B hK fu 0 (m_ms_fu (by decide) (by decide) hfu) (by decide) (by decide)
theorem m_whLoop {fu : Nat} {S S' : fd_S} {g : Int32 → Int32} {i : Int32} (hfu : 10000 ≤ fu) (hS : m_St S g) (hg : m_Go g) (hK : m_K S') (ht : g 63 ≤ 400000) (i0 : 0 ≤ i) (i1 : i < g 64) : ∀ (n : Nat) (d x : Int32), m_ms 5001 x < n → 1 ≤ x → x ≤ 5001 → ∃ r, zS_letGoAt_21 fu n S (m_rw S i) d x = some r ∧ zM_when_59 fu n (fd_sg S' g) i d (g 63 + x) = some r := by
  have ht0 := hg.t
  have hgr := hg.R.1 i i0 i1
  intro n
  induction n with
  | zero => intro d x h; omega
  | succ n ih =>
    intro d x hn x0 x1
    rw [zS_letGoAt_21, zM_when_59]
    simp only [fd_lt, sg_78]
    by_cases c : 5000 < x
    · rw [if_pos c, if_pos (by clear hS hg hK ih hgr; (simp only [ne_eq, i_lt, i_le, i_eq, i_add, i_sub, i_neg, i_mul, Int32.reduceToInt] at *; omega))]
      exact ⟨_, rfl, rfl⟩
    have hx : ¬ 5001 ≤ x ∧ 1 ≤ x + 1 ∧ x + 1 ≤ 5001 ∧ ¬ g 63 + 5000 < g 63 + x ∧ g 63 ≤ g 63 + x ∧ 0 ≤ g 63 + x ∧ g 63 + x ≤ 500000 ∧ g 63 + x ≤ 1000000 := by clear hS hg hK ih hgr; (simp only [ne_eq, i_lt, i_le, i_eq, i_add, i_sub, i_neg, i_mul, Int32.reduceToInt] at *; omega)
    have hms := m_ms_up hx.1
    have lk := m_looked (t := g 63 + x) hS.B hg.B
    obtain ⟨P, p1, p2, p3⟩ := m_below (S' := S') (t := g 63 + x) hfu hS.R hg.R hS.B hg.B hK i0 i1 (Int32.le_trans hgr.2.2.1.2 hx.2.2.2.2.1) hx.2.2.2.2.2.2.2
    obtain ⟨D, d1, d2⟩ := m_due (S' := S') (t := g 63 + x) hfu hS.R hg.R hS.B hg.B hK i0 i1 hx.2.2.2.2.2.1 (Int32.le_trans hgr.2.2.1.2 hx.2.2.2.2.1) hx.2.2.2.2.2.2.1
    rw [if_neg c, if_neg hx.2.2.2.1, hS.c6, lk.1, p1, p2, d1, d2, zM_bd1, zM_bd5]
    simp only [Option.bind_some]
    rw [if_pos lk.2, show g 63 + x + 1 = g 63 + (x + 1) from Int32.add_assoc _ _ _]
    have nx : ∀ e, ∃ r, zS_letGoAt_21 fu n S (m_rw S i) e (x + 1) = some r ∧ zM_when_59 fu n (fd_sg S' g) i e (g 63 + (x + 1)) = some r := fun e => ih e (x + 1) (by omega) hx.2.1 hx.2.2.1
    by_cases cd : g 63 + x < d
    · rw [if_pos cd]
      by_cases cl : fd_rem (g 63 + x) (g 33) = 0
      · rw [if_pos cl, if_pos cd]
        exact nx d
      · rw [if_neg cl]
        exact nx d
    · rw [if_neg cd]
      by_cases cl : fd_rem (g 63 + x) (g 33) = 0
      · rw [if_pos cl, if_neg (show ¬ (1 : Int32) = 0 by decide), if_pos cl, if_neg cd]
        by_cases cP : P < g 37
        · rw [if_pos cP, if_neg (show ¬ (1 : Int32) = 0 by decide), if_neg (Int32.not_le.mpr cP)]
          exact ⟨_, rfl, rfl⟩
        · rw [if_neg cP, if_pos rfl, if_pos (Int32.not_lt.mp cP)]
          exact nx D
      · rw [if_neg cl, if_pos rfl, if_neg cl]
        exact nx d
theorem m_when {fu : Nat} {a b : Int32} (hfu : 10000 ≤ fu) : m_Y (fun S => zF_when fu S a b) (fun S => zM_when fu S a b) := by
  intro S S' g hS hg hK ht h70
  dsimp only
  unfold zF_when zM_when
  rcases m_isRoute a b with ⟨h1, h2⟩ | ⟨h1, h2, ha, hb⟩
  · rw [if_pos h1, if_pos h2]
    exact ⟨_, rfl, rfl⟩
  have h64 := hS.R.2.2.1
  obtain ⟨r, er, hix⟩ := zM_recordOf_eq (S := S') (g := g) hfu h64 (8 * a + b)
  rw [if_neg h1, if_neg h2, m_routeOf, er, Option.bind_some, zQ_find_eq hfu hS.R hg.R hix, Option.bind_some]
  simp only [fd_lt, sg_78]
  unfold zS_letGoAt m_fd fd_on
  rcases hix with ⟨e, -⟩ | ⟨r0, r1, hr⟩
  · subst e
    rw [if_pos (by decide), if_pos (by decide)]
    exact ⟨_, rfl, rfl⟩
  · have r6 : r < 6 := by clear hS hg hK; (simp only [ne_eq, i_lt, i_le, i_eq, i_add, i_sub, i_neg, i_mul, Int32.reduceToInt] at *; omega)
    have hv := hS.R.2.2.2.1 r r0 r1
    have hgr := (hg.R.1 r r0 r1).2.2.2.1
    unfold m_cV at hv
    rw [if_neg (Int32.not_lt.mpr r0), if_neg (Int32.not_lt.mpr r0), zM_isHeld_eq r0 r6, Option.bind_some, if_pos (m_at_in r0 r6 (by decide) (by decide))]
    dsimp only
    simp only [fd_lt]
    rw [if_pos (hS.R.1.rk r0 r6), hv.2.2.2.1, hv.2.2.2.2.1]
    by_cases c0 : g (zM_at r 3) = 0
    · rw [if_pos c0, if_neg (show ¬ g (zM_at r 3) = 1 by rw [c0]; decide), if_pos rfl]
      exact ⟨_, rfl, rfl⟩
    · have c1 : g (zM_at r 3) = 1 := hgr.elim (fun z => absurd z c0) id
      rw [if_neg c0, if_pos c1, if_neg (show ¬ (1 : Int32) = 0 by decide)]
      obtain ⟨v, v1, v2⟩ := m_whLoop (S' := S') hfu hS hg hK ht r0 r1 fu (g (zM_at r 4)) 1 (m_ms_fu (by decide) (by decide) hfu) (by decide) (by decide)
      rw [v1, v2]
      exact ⟨_, rfl, rfl⟩
