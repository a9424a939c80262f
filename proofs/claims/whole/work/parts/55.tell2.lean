theorem m_later {fu : Nat} {a b t : Int32} (hfu : 10000 ≤ fu) : m_Y (fun S => zF_later fu S a b t) (fun S => zM_later fu S a b t) := by
  intro S S' g hS hg hK ht h70
  dsimp only
  unfold zF_later zM_later
  rcases m_isRoute a b with ⟨h1, h2⟩ | ⟨h1, h2, ha, hb⟩
  · rw [if_pos h1, if_pos h2]
    exact ⟨_, rfl, rfl⟩
  rw [if_neg h1, if_neg h2]
  by_cases c : ¬ (0 ≤ t ∧ t ≤ 2000)
  · rw [if_pos (m_within0 c), if_pos (m_in0 c)]
    exact ⟨_, rfl, rfl⟩
  have c := Decidable.not_not.mp c
  have h64 := hS.R.2.2.1
  have ht0 := hg.t
  obtain ⟨r, er, hix⟩ := zM_recordOf_eq (S := S') (g := g) hfu h64 (8 * a + b)
  rw [if_neg (m_within1 c), if_neg (m_in1 c), m_routeOf, er, Option.bind_some, zQ_find_eq hfu hS.R hg.R hix, Option.bind_some, sg_78, hS.c6]
  unfold m_fd
  rcases hix with ⟨e, -⟩ | ⟨r0, r1, hr⟩
  · subst e
    rw [if_pos (by decide), if_neg (by decide)]
    exact ⟨_, rfl, rfl⟩
  · have hgr := hg.R.1 r r0 r1
    have htt : g 63 ≤ g 63 + t ∧ g 63 + t ≤ 1000000 := by clear hS hg hK hgr; (simp only [ne_eq, i_lt, i_le, i_eq, i_add, i_sub, i_neg, i_mul, Int32.reduceToInt] at *; omega)
    obtain ⟨P, p1, p2, -, -⟩ := m_penaltyAt (S' := S') (t := g 63 + t) hfu hS.R hg.R hS.B.e0 hg.B hK r0 r1 (Int32.le_trans hgr.2.2.1.2 htt.1) htt.2
    rw [if_neg (Int32.not_lt.mpr r0), if_pos r0, p1, p2]
    exact ⟨_, rfl, rfl⟩
theorem m_route {fu : Nat} {a b w : Int32} (hfu : 10000 ≤ fu) : m_Y (fun S => zF_route fu S a b w) (fun S => zM_route fu S a b w) := by
  intro S S' g hS hg hK ht h70
  dsimp only
  unfold zF_route zM_route
  rcases m_isRoute a b with ⟨h1, h2⟩ | ⟨h1, h2, ha, hb⟩
  · rw [if_pos h1, if_pos h2]
    exact ⟨_, rfl, rfl⟩
  rw [if_neg h1, if_neg h2]
  by_cases c : ¬ (0 ≤ w ∧ w ≤ 6)
  · rw [if_pos (m_within0 c), if_pos (m_in0 c)]
    exact ⟨_, rfl, rfl⟩
  have c := Decidable.not_not.mp c
  have h64 := hS.R.2.2.1
  have ht0 := hg.t
  obtain ⟨r, er, hix⟩ := zM_recordOf_eq (S := S') (g := g) hfu h64 (8 * a + b)
  have hx := (b_8 ha.1 ha.2 hb.1 hb.2).2
  have hx2 : 0 ≤ 8 * a + b ∧ 8 * a + b < 275 := ⟨hx.1, Int32.lt_trans hx.2 (by decide)⟩
  simp only [fd_lt, sg_78, Int32.zero_add, m_routeOf]
  rw [if_neg (m_within1 c), if_neg (m_in1 c), er, Option.bind_some, zQ_find_eq hfu hS.R hg.R hix, Option.bind_some]
  by_cases c0 : w = 0
  · rw [if_pos c0, if_pos c0, if_pos hx, if_pos hx2, hS.Q _ hx.1 hx.2]
    exact ⟨_, rfl, rfl⟩
  rw [if_neg c0, if_neg c0]
  obtain ⟨v, ev, hv, hv2⟩ := zS_isHeld_eq (fu := fu) hS.R hg.R hix
  have hhd := m_ix_hd hg.R hix
  unfold zS_tellRecord m_fd fd_on
  unfold m_fd at ev
  rcases hix with ⟨e, -⟩ | ⟨r0, r1, hr⟩
  · subst e
    rw [if_pos (by decide)] at ev ⊢
    have v0 : v = 0 := hv.mpr (fun z => absurd (hhd.mp z).1 (by decide))
    dsimp only
    rw [ev, hS.c6, v0]
    simp only [Option.bind_some, if_neg (show ¬ (0 : Int32) ≤ -6 by decide), if_pos (show (-6 : Int32) < 0 by decide)]
    by_cases w1 : w = 1
    · simp only [if_pos w1]
      exact ⟨_, rfl, rfl⟩
    simp only [if_neg w1]
    by_cases w2 : w = 2
    · simp only [if_pos w2]
      exact ⟨_, rfl, rfl⟩
    simp only [if_neg w2]
    by_cases w3 : w = 3
    · simp only [if_pos w3]
      exact ⟨_, rfl, rfl⟩
    simp only [if_neg w3]
    by_cases w4 : w = 4
    · simp only [if_pos w4]
      exact ⟨_, rfl, rfl⟩
    simp only [if_neg w4]
    by_cases w5 : w = 5
    · simp only [if_pos w5]
      exact ⟨_, rfl, rfl⟩
    simp only [if_neg w5]
    exact ⟨_, rfl, rfl⟩
  · have r6 : r < 6 := by clear hS hg hK; (simp only [ne_eq, i_lt, i_le, i_eq, i_add, i_sub, i_neg, i_mul, Int32.reduceToInt] at *; omega)
    have hgr := hg.R.1 r r0 r1
    have hrv := hS.R.2.2.2.1 r r0 r1
    unfold m_cV at hrv
    obtain ⟨P, p1, p2, -, -⟩ := m_penaltyAt (S' := S') (t := g 63) hfu hS.R hg.R hS.B.e0 hg.B hK r0 r1 hgr.2.2.1.2 (Int32.le_trans ht (by decide))
    rw [if_neg (Int32.not_lt.mpr r0)] at ev ⊢
    have a1 := m_at_in r0 r6 (show (0 : Int32) ≤ 1 by decide) (by decide)
    have a2 := m_at_in r0 r6 (show (0 : Int32) ≤ 2 by decide) (by decide)
    have a4 := m_at_in r0 r6 (show (0 : Int32) ≤ 4 by decide) (by decide)
    have a5 := m_at_in r0 r6 (show (0 : Int32) ≤ 5 by decide) (by decide)
    dsimp only
    rw [ev, hS.c6, p1, p2, zM_isHeld_eq r0 r6, hrv.2.1, hrv.2.2.1, hrv.2.2.2.2.1, hrv.2.2.2.2.2]
    simp only [Option.bind_some, if_pos r0, if_neg (Int32.not_lt.mpr r0), if_pos a1, if_pos a2, if_pos a4, if_pos a5, if_pos (hS.R.1.rk r0 r6)]
    by_cases w1 : w = 1
    · simp only [if_pos w1]
      exact ⟨_, rfl, rfl⟩
    simp only [if_neg w1]
    have hvv : (v = 0 ∧ ¬ g (zM_at r 3) = 1) ∨ (v = 1 ∧ g (zM_at r 3) = 1) := by
      rcases hv2 with h | h
      · exact Or.inl ⟨h, fun z => hv.mp h (hhd.mpr ⟨r0, z⟩)⟩
      · refine Or.inr ⟨h, ?_⟩
        rcases hgr.2.2.2.1 with z | z
        · have : v = 0 := hv.mpr (fun y => absurd (hhd.mp y).2 (by rw [z]; decide))
          rw [h] at this
          exact absurd this (by decide)
        · exact z
    by_cases w2 : w = 2
    · simp only [if_pos w2]
      rcases hvv with ⟨e1, e2⟩ | ⟨e1, e2⟩
      · rw [e1, if_neg e2]
        exact ⟨_, rfl, rfl⟩
      · rw [e1, if_pos e2]
        exact ⟨_, rfl, rfl⟩
    simp only [if_neg w2]
    by_cases w3 : w = 3
    · simp only [if_pos w3]
      rcases hvv with ⟨e1, e2⟩ | ⟨e1, e2⟩
      · rw [e1, if_neg e2]
        exact ⟨_, rfl, rfl⟩
      · rw [e1, if_pos e2]
        exact ⟨_, rfl, rfl⟩
    simp only [if_neg w3]
    by_cases w4 : w = 4
    · simp only [if_pos w4]
      exact ⟨_, rfl, rfl⟩
    simp only [if_neg w4]
    by_cases w5 : w = 5
    · simp only [if_pos w5]
      exact ⟨_, rfl, rfl⟩
    simp only [if_neg w5]
    exact ⟨_, rfl, rfl⟩
theorem b_pp : ∀ v : Nat, v < 6 → ∀ i : Nat, i < 6 → fd_rem (nI v - nI i + 6) 6 = m_pp (nI v) (nI i) := by decide
theorem m_ln24 {fu : Nat} {S S' : fd_S} {g : Int32 → Int32} {i k : Int32} (hL : m_L S g) (i0 : 0 ≤ i) (i6 : i < 6) : ∃ r, (if k = -1 then (if 0 ≤ m_pp (S 5 2) i ∧ m_pp (S 5 2) i < 6 then some (S 7 (m_pp (S 5 2) i)) else none) else (if 0 ≤ m_pp (S 5 2) i ∧ m_pp (S 5 2) i < 6 then (if (zF_isWithin k 0 (S 7 (m_pp (S 5 2) i) - 1)) = 0 then some (-6) else (if 0 ≤ m_pp (S 5 2) i * 20 + k ∧ m_pp (S 5 2) i * 20 + k < 120 then some (S 6 (m_pp (S 5 2) i * 20 + k)) else none)) else none)) = some r ∧
    (if 0 ≤ 131 + 24 * i ∧ 131 + 24 * i < 275 then (if zM_in k (-1) (g (131 + 24 * i) - 1) = 0 then some (-6) else (if 0 ≤ zM_lineAt i k ∧ zM_lineAt i k < 275 then some (g (zM_lineAt i k)) else none)) else none) = some r := by
  obtain ⟨hv, h53, hi⟩ := hL
  have hpp := m_pp_rg hv.1 hv.2 i0 i6
  obtain ⟨l1, l2, l3⟩ := hi i i0 i6
  have hll := m_ll_num i0 i6
  have hlr : 0 ≤ m_ll i ∧ m_ll i < 275 := by
    rw [i_le, i_lt, hll]
    clear hi l1 l2 l3 hll
    (simp only [ne_eq, i_lt, i_le, i_eq, i_add, i_sub, i_neg, i_mul, Int32.reduceToInt] at *; omega)
  change ∃ r, _ ∧ (if 0 ≤ m_ll i ∧ m_ll i < 275 then (if zM_in k (-1) (g (m_ll i) - 1) = 0 then some (-6) else _) else none) = some r
  rw [if_pos hpp, if_pos hpp, if_pos hlr, l2]
  by_cases ck : k = -1
  · have e : zM_lineAt i (-1) = m_ll i := by
      unfold zM_lineAt m_ll
      rw [Int32.add_assoc, show (1 : Int32) + -1 = 0 by decide, Int32.add_zero]
    rw [if_pos ck, if_neg (m_in1 (by rw [ck]; clear hi l2 l3 hll hlr; (simp only [ne_eq, i_lt, i_le, i_eq, i_add, i_sub, i_neg, i_mul, Int32.reduceToInt] at *; omega))), ck, e, if_pos hlr]
    exact ⟨_, rfl, rfl⟩
  · rw [if_neg ck]
    by_cases c : 0 ≤ k ∧ k ≤ g (m_ll i) - 1
    · have hk : k < g (m_ll i) ∧ k ≤ 20 ∧ k ≤ 100 ∧ -1 ≤ k := by clear hi l2 l3 hll hlr; (simp only [ne_eq, i_lt, i_le, i_eq, i_add, i_sub, i_neg, i_mul, Int32.reduceToInt] at *; omega)
      have hla := m_la_num i0 i6 c.1 hk.2.2.1
      have h20 := m_20_num hpp.1 hpp.2 c.1 hk.2.1
      have k20 : k < 20 := by clear hi l2 l3 hll hlr hla h20; (simp only [ne_eq, i_lt, i_le, i_eq, i_add, i_sub, i_neg, i_mul, Int32.reduceToInt] at *; omega)
      have hlar : 0 ≤ zM_lineAt i k ∧ zM_lineAt i k < 275 := by
        rw [i_le, i_lt, hla]
        clear hi l1 l2 l3 hll hlr hla h20
        (simp only [ne_eq, i_lt, i_le, i_eq, i_add, i_sub, i_neg, i_mul, Int32.reduceToInt] at *; omega)
      have h20r : 0 ≤ m_pp (S 5 2) i * 20 + k ∧ m_pp (S 5 2) i * 20 + k < 120 := by
        rw [i_le, i_lt, h20]
        clear hi l1 l2 l3 hll hlr hla h20 hlar
        (simp only [ne_eq, i_lt, i_le, i_eq, i_add, i_sub, i_neg, i_mul, Int32.reduceToInt] at *; omega)
      rw [if_neg (m_within1 c), if_neg (m_in1 ⟨hk.2.2.2, c.2⟩), if_pos h20r, if_pos hlar, l3 k c.1 hk.1]
      exact ⟨_, rfl, rfl⟩
    · rw [if_pos (m_within0 c), if_pos (m_in0 (by clear hi l2 l3 hll hlr; (simp only [ne_eq, i_lt, i_le, i_eq, i_add, i_sub, i_neg, i_mul, Int32.reduceToInt] at *; omega)))]
      exact ⟨_, rfl, rfl⟩
theorem m_line {fu : Nat} {i k : Int32} : m_Y (fun S => zF_line S i k) (fun S => zM_line fu S i k) := by
  intro S S' g hS hg hK ht h70
  dsimp only
  unfold zF_line zL_tell zM_line zM_line_24
  have hL := hS.L
  obtain ⟨hv, h53, -⟩ := hL
  have emn : fd_min (S 5 3) 6 = if 6 ≤ g 70 then 6 else g 70 := by
    rw [h53]
    unfold fd_min
    by_cases c : 6 ≤ g 70
    · rw [if_pos c]
      by_cases c2 : 6 < g 70
      · rw [if_pos c2]
      · rw [if_neg c2]
        clear hS hg hK
        (simp only [ne_eq, i_lt, i_le, i_eq, i_add, i_sub, i_neg, i_mul, Int32.reduceToInt] at *; omega)
    · rw [if_neg c, if_neg (by clear hS hg hK; (simp only [ne_eq, i_lt, i_le, i_eq, i_add, i_sub, i_neg, i_mul, Int32.reduceToInt] at *; omega))]
  simp only [fd_lt, sg_78]
  rw [emn]
  generalize hN : (if 6 ≤ g 70 then 6 else g 70) = N
  have hN6 : 0 ≤ N ∧ N ≤ 6 := by
    rw [← hN]
    split
    · exact ⟨by decide, by decide⟩
    · clear hS hg hK
      (simp only [ne_eq, i_lt, i_le, i_eq, i_add, i_sub, i_neg, i_mul, Int32.reduceToInt] at *; omega)
  have goal : ∃ r, ((if zF_isWithin i 0 (N - 1) = 0 then some (-6) else (if k = -1 then (if 0 ≤ fd_rem (S 5 2 - i + 6) 6 ∧ fd_rem (S 5 2 - i + 6) 6 < 6 then some (S 7 (fd_rem (S 5 2 - i + 6) 6)) else none) else (if 0 ≤ fd_rem (S 5 2 - i + 6) 6 ∧ fd_rem (S 5 2 - i + 6) 6 < 6 then (if (zF_isWithin k 0 (S 7 (fd_rem (S 5 2 - i + 6) 6) - 1)) = 0 then some (-6) else (if 0 ≤ fd_rem (S 5 2 - i + 6) 6 * 20 + k ∧ fd_rem (S 5 2 - i + 6) 6 * 20 + k < 120 then some (S 6 (fd_rem (S 5 2 - i + 6) 6 * 20 + k)) else none)) else none))).bind fun r1 => some r1) = some r ∧ (if zM_in i 0 (N - 1) = 0 then some (-6) else (if 0 ≤ 131 + 24 * i ∧ 131 + 24 * i < 275 then (if zM_in k (-1) (g (131 + 24 * i) - 1) = 0 then some (-6) else (if 0 ≤ zM_lineAt i k ∧ zM_lineAt i k < 275 then some (g (zM_lineAt i k)) else none)) else none)) = some r := by
    by_cases c : 0 ≤ i ∧ i ≤ N - 1
    · have i6 : i < 6 := by clear hS hg hK hN emn; (simp only [ne_eq, i_lt, i_le, i_eq, i_add, i_sub, i_neg, i_mul, Int32.reduceToInt] at *; omega)
      have e : fd_rem (S 5 2 - i + 6) 6 = m_pp (S 5 2) i := by
        obtain ⟨v, hv2, ev⟩ := m_nat (x := S 5 2) (M := 5) hv.1 (show S 5 2 ≤ (5 : Int32) by clear hS hg hK hN emn; (simp only [ne_eq, i_lt, i_le, i_eq, i_add, i_sub, i_neg, i_mul, Int32.reduceToInt] at *; omega)) (by decide)
        obtain ⟨j, hj, ej⟩ := m_nat (x := i) (M := 5) c.1 (show i ≤ (5 : Int32) by clear hS hg hK hN emn; (simp only [ne_eq, i_lt, i_le, i_eq, i_add, i_sub, i_neg, i_mul, Int32.reduceToInt] at *; omega)) (by decide)
        rw [ev, ej]
        exact b_pp v (by omega) j (by omega)
      rw [if_neg (m_within1 c), if_neg (m_in1 c), e]
      obtain ⟨r, r1, r2⟩ := m_ln24 (fu := fu) (S' := S') (k := k) hS.L c.1 i6
      rw [r1, r2]
      exact ⟨r, rfl, rfl⟩
    · rw [if_pos (m_within0 c), if_pos (m_in0 c)]
      exact ⟨_, rfl, rfl⟩
  by_cases c : 6 ≤ g 70
  · rw [if_pos c] at hN ⊢
    subst hN
    exact goal
  · rw [if_neg c] at hN ⊢
    subst hN
    exact goal
theorem m_count {fu : Nat} {S S' : fd_S} {g : Int32 → Int32} {w : Int32} (hfu : 10000 ≤ fu) (hS : m_St S g) (hg : m_Go g) (hk0 : S 70 0 = S' 80 0) (hk1 : S 70 1 = S' 80 1) : ∃ r, zF_count fu S w = some r ∧ zM_count fu (fd_sg S' g) w = some r := by
  unfold zF_count zM_count zS_tellCount zF_keptImages
  simp only [sg_78]
  rw [sg_ne (k := 80) (by decide), hk0, hk1]
  obtain ⟨v, v1, v2⟩ := m_heldOnes (S' := S') hfu hS.R hg.R
  rw [v1, v2, hS.c6, hS.R.2.1, hS.c7, hS.c8, hS.c9, hS.d2, hS.c10, hS.L.2.1]
  by_cases c : 0 ≤ w ∧ w ≤ 9
  · rw [if_neg (m_within1 c)]
    by_cases w9 : w = 9
    · subst w9
      rw [if_pos rfl]
      simp only [if_neg (show ¬ (9 : Int32) = 0 by decide), if_neg (show ¬ (9 : Int32) = 1 by decide), if_neg (show ¬ (9 : Int32) = 2 by decide), if_neg (show ¬ (9 : Int32) = 3 by decide), if_neg (show ¬ (9 : Int32) = 4 by decide), if_neg (show ¬ (9 : Int32) = 5 by decide), if_neg (show ¬ (9 : Int32) = 6 by decide), if_neg (show ¬ (9 : Int32) = 7 by decide), if_neg (show ¬ (9 : Int32) = 8 by decide)]
      rw [if_pos True.intro]
      refine ⟨_, rfl, ?_⟩
      repeat' split
      all_goals rfl
    · rw [if_neg w9]
      by_cases w0 : w = 0
      · simp only [if_pos w0]; exact ⟨_, rfl, rfl⟩
      simp only [if_neg w0]
      by_cases w1 : w = 1
      · simp only [if_pos w1]; exact ⟨_, rfl, rfl⟩
      simp only [if_neg w1]
      by_cases w2 : w = 2
      · simp only [if_pos w2]; exact ⟨_, rfl, rfl⟩
      simp only [if_neg w2]
      by_cases w3 : w = 3
      · simp only [if_pos w3]; exact ⟨_, rfl, rfl⟩
      simp only [if_neg w3]
      by_cases w4 : w = 4
      · simp only [if_pos w4]; exact ⟨_, rfl, rfl⟩
      simp only [if_neg w4]
      by_cases w5 : w = 5
      · simp only [if_pos w5]; exact ⟨_, rfl, rfl⟩
      simp only [if_neg w5]
      by_cases w6 : w = 6
      · simp only [if_pos w6]; exact ⟨_, rfl, rfl⟩
      simp only [if_neg w6]
      by_cases w7 : w = 7
      · simp only [if_pos w7]; exact ⟨_, rfl, rfl⟩
      have w8 : w = 8 := by clear hS hg; (simp only [ne_eq, i_lt, i_le, i_eq, i_add, i_sub, i_neg, i_mul, Int32.reduceToInt] at *; omega)
      rw [if_neg w7, if_neg w7, if_pos w8]
      exact ⟨_, rfl, rfl⟩
  · rw [if_pos (m_within0 c)]
    have n : ¬ w = 0 ∧ ¬ w = 1 ∧ ¬ w = 2 ∧ ¬ w = 3 ∧ ¬ w = 4 ∧ ¬ w = 5 ∧ ¬ w = 6 ∧ ¬ w = 7 ∧ ¬ w = 8 ∧ ¬ w = 9 := by clear hS hg; (simp only [ne_eq, i_lt, i_le, i_eq, i_add, i_sub, i_neg, i_mul, Int32.reduceToInt] at *; omega)
    obtain ⟨n0, n1, n2, n3, n4, n5, n6, n7, n8, n9⟩ := n
    rw [if_neg n0, if_neg n1, if_neg n2, if_neg n3, if_neg n4, if_neg n5, if_neg n6, if_neg n7, if_neg n8, if_neg n9]
    exact ⟨_, rfl, rfl⟩
