/-! ===== a record is looked at ===== -/
abbrev m_Ph (S : fd_S) (g : Int32 → Int32) : Prop := m_R S g ∧ m_GR g ∧ m_B S g ∧ m_GB g ∧ m_L S g ∧ S 0 6 = g 63 ∧ S 0 10 = g 69 ∧ S 3 2 = g 68 ∧ (0 ≤ g 63 ∧ g 63 ≤ 500000)
abbrev m_PhF (S S1 : fd_S) (g g1 : Int32 → Int32) : Prop := (∀ k : Nat, (1 ≤ k ∧ k < 5) ∨ 20 ≤ k → S1 k = S k) ∧ (∀ j : Int32, j ≠ 10 → S1 0 j = S 0 j) ∧ (∀ j : Int32, j < 69 → g1 j = g j)
theorem m_lookAt {fu : Nat} {S S' : fd_S} {g : Int32 → Int32} {i : Int32} (hfu : 10000 ≤ fu) (hPh : m_Ph S g) (hK : m_K S') (i0 : 0 ≤ i) (i1 : i < g 64) :
    ∃ S1 g1, zS_lookAt fu S (m_rw S i) = some S1 ∧ (∀ n, zM_lookAtRecords_2 fu (n + 1) (fd_sg S' g) i = zM_lookAtRecords_2 fu n (fd_sg S' g1) (i + 1)) ∧ m_Ph S1 g1 ∧ m_PhF S S1 g g1 ∧ ((g1 69 = g 69 ∧ g1 70 = g 70 ∧ ∀ y, m_hd g1 y ↔ m_hd g y) ∨ (g1 69 = g 69 + 1 ∧ g1 70 = g 70 + 1)) := by
  have hPh0 := hPh
  obtain ⟨hR, hG, hB, hGB, hL, hT, hD, h2, ht⟩ := hPh
  have h64 := hR.2.2.1
  have i6 : i < 6 := by clear hR hG hB hGB hL hPh0 hK; (simp only [ne_eq, i_lt, i_le, i_eq, i_add, i_sub, i_neg, i_mul, Int32.reduceToInt] at *; omega)
  have hrk := hR.1.rk i0 i6
  have hrg := hR.1.rg i0 i6
  have hv := hR.2.2.2.1 i i0 i1
  have hgr := hG.1 i i0 i1
  unfold m_cV at hv
  unfold zS_lookAt
  simp only [fd_lt]
  rw [if_pos hrk, hv.2.2.2.1, hv.2.2.2.2.1, hT]
  have same : ∀ {c : Option fd_S}, c = some S → (∀ n, zM_lookAtRecords_2 fu (n + 1) (fd_sg S' g) i = zM_lookAtRecords_2 fu n (fd_sg S' g) (i + 1)) → ∃ S1 g1, c = some S1 ∧ (∀ n, zM_lookAtRecords_2 fu (n + 1) (fd_sg S' g) i = zM_lookAtRecords_2 fu n (fd_sg S' g1) (i + 1)) ∧ m_Ph S1 g1 ∧ m_PhF S S1 g g1 ∧ ((g1 69 = g 69 ∧ g1 70 = g 70 ∧ ∀ y, m_hd g1 y ↔ m_hd g y) ∨ (g1 69 = g 69 + 1 ∧ g1 70 = g 70 + 1)) := by
    intro c hc hm
    exact ⟨S, g, hc, hm, hPh0, ⟨fun _ _ => rfl, fun _ _ => rfl, fun _ _ => rfl⟩, Or.inl ⟨rfl, rfl, fun _ => Iff.rfl⟩⟩
  have unf : ∀ n, zM_lookAtRecords_2 fu (n + 1) (fd_sg S' g) i = if g (zM_at i 3) = 1 then (if g 63 < g (zM_at i 4) then zM_lookAtRecords_2 fu n (fd_sg S' g) (i + 1) else ((zM_penaltyAt fu (fd_sg S' g) i (g 63)).bind fun r24 => (if g 37 ≤ r24 then ((zM_dueAfter fu (fd_sg S' g) i (g 63)).bind fun r29 => zM_lookAtRecords_2 fu n (fd_sg S' (m_gu g (zM_at i 4) r29)) (i + 1)) else (zM_beginLine fu (fd_sg S' (m_gu (m_gu g (zM_at i 3) 0) 69 (g 69 + 1))) 82 (g (zM_at i 0))).bind fun S38 => (zM_write S38 64).bind fun S40 => (zM_writeNumber fu S40 (S40 78 63)).bind fun S42 => zM_lookAtRecords_2 fu n S42 (i + 1)))) else zM_lookAtRecords_2 fu n (fd_sg S' g) (i + 1) := by
    intro n
    have a0 := m_at_in i0 i6 (show (0 : Int32) ≤ 0 by decide) (by decide)
    have a3 := m_at_in i0 i6 (show (0 : Int32) ≤ 3 by decide) (by decide)
    have a4 := m_at_in i0 i6 (show (0 : Int32) ≤ 4 by decide) (by decide)
    have e69 : m_gu g (zM_at i 3) 0 69 = g 69 := m_gu_out i0 i6 (by decide) (by decide) (by decide)
    have e0 : m_gu (m_gu g (zM_at i 3) 0) 69 (g 69 + 1) (zM_at i 0) = g (zM_at i 0) := by
      have := m_at_rg i0 i6 (show (0 : Int32) ≤ 0 by decide) (by decide)
      unfold m_gu
      rw [if_neg (by clear hR hG hB hGB hL hPh0 hK same hv hgr; (simp only [ne_eq, i_lt, i_le, i_eq, i_add, i_sub, i_neg, i_mul, Int32.reduceToInt] at *; omega)), if_neg (fun z => absurd (m_at_inj i0 i6 (by decide) (by decide) i0 i6 (by decide) (by decide) z).2 (by decide))]
    rw [zM_lookAtRecords_2]
    simp only [fd_lt, sg_78, sg_up]
    rw [if_neg (Int32.not_le.mpr i1), zM_isHeld_eq i0 i6, Option.bind_some]
    by_cases c : g (zM_at i 3) = 1
    · rw [if_pos c, if_neg (show ¬ (1 : Int32) = 0 by decide), if_pos c]
      simp only [if_pos a0, if_pos a3, if_pos a4, zM_bd5, Option.bind_some, e69, e0]
    · rw [if_neg c, if_pos rfl, if_neg c]
  by_cases c0 : g (zM_at i 3) = 0
  · rw [if_pos c0]
    exact same rfl (fun n => by rw [unf, if_neg (show ¬ g (zM_at i 3) = 1 by rw [c0]; decide)])
  have c1 : g (zM_at i 3) = 1 := hgr.2.2.2.1.elim (fun z => absurd z c0) id
  rw [if_neg c0]
  by_cases cd : ¬ g (zM_at i 4) ≤ g 63
  · rw [if_neg cd]
    exact same rfl (fun n => by rw [unf, if_pos c1, if_pos (Int32.not_le.mp cd)])
  have cd := Decidable.not_not.mp cd
  rw [if_pos cd]
  obtain ⟨P, p1, p2, p3⟩ := m_below (S' := S') (t := g 63) hfu hR hG hB hGB hK i0 i1 hgr.2.2.1.2 (Int32.le_trans ht.2 (by decide))
  rw [p1, Option.bind_some]
  by_cases cP : P < g 37
  · -- it is let go
    rw [if_pos cP, if_neg (show ¬ (1 : Int32) = 0 by decide)]
    generalize hg8 : m_gu (m_gu g (zM_at i 3) 0) 69 (g 69 + 1) = g8
    have o8 : ∀ j : Int32, j ≠ 69 → (j < 71 ∨ 131 ≤ j) → g8 j = g j := by
      intro j h1 h2
      rw [← hg8, m_gu, if_neg h1, m_gu_out i0 i6 (by decide) (by decide) h2]
    have o869 : g8 69 = g 69 + 1 := by rw [← hg8, m_gu, if_pos rfl]
    have o8m : ∀ j : Int32, j ≠ 69 → g8 j = m_gu g (zM_at i 3) 0 j := by
      intro j h1
      rw [← hg8]
      unfold m_gu
      rw [if_neg h1]
    have k10 : fd_up S (m_rw S i) 3 0 0 10 = S 0 10 := by rw [fd_up_ne (by omega)]
    have k0 : fd_up (fd_up S (m_rw S i) 3 0) 0 10 (S 0 10 + 1) (m_rw S i) 0 = g (zM_at i 0) := by rw [fd_up_ne (by omega), fd_up_at, if_neg (by decide), hv.1]
    rw [k10, k0]
    generalize hS8 : fd_up (fd_up S (m_rw S i) 3 0) 0 10 (S 0 10 + 1) = S8
    have s8 : ∀ k : Nat, k ≠ 0 → k ≠ m_rw S i → S8 k = S k := fun k h1 h2 => by rw [← hS8, fd_up_ne h1, fd_up_ne h2]
    have s80 : ∀ j : Int32, S8 0 j = if j = 10 then S 0 10 + 1 else S 0 j := fun j => by rw [← hS8, fd_up_at, fd_up_ne (by omega)]
    have R8 : m_R S8 g8 := by
      have := m_R_fld (v := 0) hR i0 i1 3 (by decide)
      refine m_R_congr this (by rw [s8 3 (by decide) (by omega), fd_up_ne (by omega)]) (by rw [s8 4 (by decide) (by omega), fd_up_ne (by omega)]) (fun k h1 h2 => by rw [← hS8, fd_up_ne (by omega)]) (o8m _ (by decide)) (fun j h1 h2 => o8m j (by clear hR hG hB hGB hL hPh0 hK same hv hgr unf o8 o8m s8 s80 this; (simp only [ne_eq, i_lt, i_le, i_eq, i_add, i_sub, i_neg, i_mul, Int32.reduceToInt] at *; omega)))
    have G8 : m_GR g8 := by
      have := m_GR_fld (f := 3) (v := 0) h64 hG i0 i1 (by decide) (by decide) ⟨fun z => absurd z (by decide), fun z => absurd z (by decide), fun _ => Or.inl rfl, fun z => absurd z (by decide)⟩
      have q64 : m_gu g (zM_at i 3) 0 64 = g 64 := m_gu_out i0 i6 (by decide) (by decide) (by decide)
      refine m_GR_congr this (by rw [q64]; exact h64.2) (o8m _ (by decide)) (by rw [o8m _ (by decide)]; exact Int32.le_refl _) (fun j h1 h2 => o8m j (by clear hR hG hB hGB hL hPh0 hK same hv hgr unf o8 o8m s8 s80 this R8 q64; (simp only [ne_eq, i_lt, i_le, i_eq, i_add, i_sub, i_neg, i_mul, Int32.reduceToInt] at *; omega)))
    have L8 : m_L S8 g8 := m_L_congr hL (s8 5 (by decide) (by omega)) (s8 6 (by decide) (by omega)) (s8 7 (by decide) (by omega)) (o8 _ (by decide) (by decide)) (fun j hj => o8 j (by clear hR hG hB hGB hL hPh0 hK same hv hgr unf o8 o8m s8 s80 R8 G8; (simp only [ne_eq, i_lt, i_le, i_eq, i_add, i_sub, i_neg, i_mul, Int32.reduceToInt] at *; omega)) (Or.inr hj))
    generalize hx : g (zM_at i 0) = x at hgr hv k0 ⊢
    obtain ⟨S9, t1, t2, t3⟩ := m_begin (c := 82) (x := x) hfu L8 hgr.1
    obtain ⟨S11, u1, u2, u3⟩ := m_put (c := 64) t2 (by rw [m_bl_131]; decide)
    have q131 : m_wr (m_bl g8 82 x) 64 131 = 4 := by rw [m_wr_131, m_bl_131]; decide
    have t6 : g 63 < nI (10 ^ (5 + 1)) := Int32.lt_of_le_of_lt ht.2 (by decide)
    have q63 : m_wr (m_bl g8 82 x) 64 63 = g 63 := by rw [m_wr_lo (by rw [m_bl_131]; decide) (by decide), m_bl_lo (by decide), if_neg (by decide), o8 _ (by decide) (by decide)]
    have e06 : S11 0 6 = g 63 := by rw [u3 0 (by decide) (by decide), t3 0 (by decide) (by decide) (by decide), s80, if_neg (by decide), hT]
    obtain ⟨S13, v1, v2, v3⟩ := m_pn (x := g 63) 5 hfu (by decide) ht.1 t6 u2 (by rw [q131]; decide)
    rw [t1, Option.bind_some, u1, Option.bind_some, e06, v1, Option.bind_some]
    have f13 : m_FL S8 S13 := fun k h5 h6 h7 => by rw [v3 k h6 h7, u3 k h6 h7, t3 k h5 h6 h7]
    generalize hgE : m_wn (m_wr (m_bl g8 82 x) 64) (g 63) = gE at v2
    have oE : ∀ j : Int32, j < 131 → gE j = if j = 70 then g8 70 + 1 else g8 j := by
      intro j hj
      rw [← hgE, m_wn_lo 5 (by decide) ht.1 t6 (by rw [q131]; decide) hj, m_wr_lo (by rw [m_bl_131]; decide) hj, m_bl_lo hj]
    have oE1 : ∀ j : Int32, j < 131 → j ≠ 70 → gE j = g8 j := fun j h1 h2 => by rw [oE j h1, if_neg h2]
    refine ⟨S13, gE, rfl, ?_, ⟨?_, ?_, ?_, ?_, v2, ?_, ?_, ?_, ?_⟩, ⟨?_, ?_, ?_⟩, Or.inr ⟨?_, ?_⟩⟩
    · intro n
      rw [unf, if_pos c1, if_neg (Int32.not_lt.mpr cd), p2, Option.bind_some, if_neg (Int32.not_le.mpr cP), hg8, hx, zM_beginLine_eq hfu, Option.bind_some, zM_write_eq (by rw [m_bl_131]; decide), Option.bind_some, sg_78, q63, zM_writeNumber_eq 5 hfu (by decide) ht.1 t6 (by rw [q131]; decide) (by rw [q131]; decide), Option.bind_some, hgE]
    · exact m_R_congr (m_R_FL R8 f13) rfl rfl (fun _ _ _ => rfl) (oE1 _ (by decide) (by decide)) (fun j h1 h2 => oE1 j h2 (by clear hR hG hB hGB hL hPh0 hK same hv hgr unf o8 o8m s8 s80 R8 G8 L8 oE oE1 v2; (simp only [ne_eq, i_lt, i_le, i_eq, i_add, i_sub, i_neg, i_mul, Int32.reduceToInt] at *; omega)))
    · exact m_GR_congr G8 (by rw [o8 _ (by decide) (by decide)]; exact h64.2) (oE1 _ (by decide) (by decide)) (by rw [oE1 _ (by decide) (by decide)]; exact Int32.le_refl _) (fun j h1 h2 => oE1 j h2 (by clear hR hG hB hGB hL hPh0 hK same hv hgr unf o8 o8m s8 s80 R8 G8 L8 oE oE1 v2; (simp only [ne_eq, i_lt, i_le, i_eq, i_add, i_sub, i_neg, i_mul, Int32.reduceToInt] at *; omega)))
    · refine m_B_congr hB (by rw [f13 2 (by decide) (by decide) (by decide), s8 2 (by decide) (by omega)]) (fun j h1 h2 => ?_)
      rw [oE1 j (Int32.lt_trans h2 (by decide)) (by clear hR hG hB hGB hL hPh0 hK same hv hgr unf o8 o8m s8 s80 R8 G8 L8 oE oE1 v2; (simp only [ne_eq, i_lt, i_le, i_eq, i_add, i_sub, i_neg, i_mul, Int32.reduceToInt] at *; omega)), o8 j (by clear hR hG hB hGB hL hPh0 hK same hv hgr unf o8 o8m s8 s80 R8 G8 L8 oE oE1 v2; (simp only [ne_eq, i_lt, i_le, i_eq, i_add, i_sub, i_neg, i_mul, Int32.reduceToInt] at *; omega)) (Or.inl (Int32.lt_trans h2 (by decide)))]
    · refine m_GB_congr hGB (fun j h1 h2 => ?_)
      rw [oE1 j (Int32.lt_trans h2 (by decide)) (by clear hR hG hB hGB hL hPh0 hK same hv hgr unf o8 o8m s8 s80 R8 G8 L8 oE oE1 v2; (simp only [ne_eq, i_lt, i_le, i_eq, i_add, i_sub, i_neg, i_mul, Int32.reduceToInt] at *; omega)), o8 j (by clear hR hG hB hGB hL hPh0 hK same hv hgr unf o8 o8m s8 s80 R8 G8 L8 oE oE1 v2; (simp only [ne_eq, i_lt, i_le, i_eq, i_add, i_sub, i_neg, i_mul, Int32.reduceToInt] at *; omega)) (Or.inl (Int32.lt_trans h2 (by decide)))]
    · rw [f13 0 (by decide) (by decide) (by decide), s80, if_neg (by decide), hT, oE1 _ (by decide) (by decide), o8 _ (by decide) (by decide)]
    · rw [f13 0 (by decide) (by decide) (by decide), s80, if_pos rfl, hD, oE1 _ (by decide) (by decide), o869]
    · rw [f13 3 (by decide) (by decide) (by decide), s8 3 (by decide) (by omega), h2, oE1 _ (by decide) (by decide), o8 _ (by decide) (by decide)]
    · rw [oE1 _ (by decide) (by decide), o8 _ (by decide) (by decide)]
      exact ht
    · intro k hk
      rw [f13 k (by omega) (by omega) (by omega), s8 k (by omega) (by omega)]
    · intro j hj
      rw [f13 0 (by decide) (by decide) (by decide), s80, if_neg hj]
    · intro j hj
      rw [oE1 j (Int32.lt_trans hj (by decide)) (by clear hR hG hB hGB hL hPh0 hK same hv hgr unf o8 o8m s8 s80 R8 G8 L8 oE oE1 v2; (simp only [ne_eq, i_lt, i_le, i_eq, i_add, i_sub, i_neg, i_mul, Int32.reduceToInt] at *; omega)), o8 j (by clear hR hG hB hGB hL hPh0 hK same hv hgr unf o8 o8m s8 s80 R8 G8 L8 oE oE1 v2; (simp only [ne_eq, i_lt, i_le, i_eq, i_add, i_sub, i_neg, i_mul, Int32.reduceToInt] at *; omega)) (Or.inl (Int32.lt_trans hj (by decide)))]
    · rw [oE1 _ (by decide) (by decide), o869]
    · rw [oE _ (by decide), if_pos rfl, o8 _ (by decide) (by decide)]
  · -- its due is laid anew
    rw [if_neg cP, if_pos rfl]
    obtain ⟨d, d1, d2⟩ := m_due (S' := S') (t := g 63) hfu hR hG hB hGB hK i0 i1 ht.1 hgr.2.2.1.2 ht.2
    rw [d1, Option.bind_some]
    have oo : ∀ j : Int32, (j < 71 ∨ 131 ≤ j) → m_gu g (zM_at i 4) d j = g j := fun j hj => m_gu_out i0 i6 (by decide) (by decide) hj
    refine ⟨_, m_gu g (zM_at i 4) d, rfl, ?_, ⟨m_R_fld hR i0 i1 4 (by decide), ?_, ?_, ?_, ?_, ?_, ?_, ?_, ?_⟩, ⟨?_, ?_, ?_⟩, Or.inl ⟨?_, ?_, ?_⟩⟩
    · intro n
      rw [unf, if_pos c1, if_neg (Int32.not_lt.mpr cd), p2, Option.bind_some, if_pos (Int32.not_lt.mp cP), d2, Option.bind_some]
    · exact m_GR_fld h64 hG i0 i1 (by decide) (by decide) ⟨fun z => absurd z (by decide), fun z => absurd z (by decide), fun z => absurd z (by decide), fun z => absurd z (by decide)⟩
    · exact m_B_congr hB (by rw [fd_up_ne (by omega)]) (fun j h1 h2 => oo j (Or.inl (Int32.lt_trans h2 (by decide))))
    · exact m_GB_congr hGB (fun j h1 h2 => oo j (Or.inl (Int32.lt_trans h2 (by decide))))
    · exact m_L_congr hL (by rw [fd_up_ne (by omega)]) (by rw [fd_up_ne (by omega)]) (by rw [fd_up_ne (by omega)]) (oo _ (by decide)) (fun j hj => oo j (Or.inr hj))
    · rw [fd_up_ne (by omega), hT, oo _ (by decide)]
    · rw [fd_up_ne (by omega), hD, oo _ (by decide)]
    · rw [fd_up_ne (by omega), h2, oo _ (by decide)]
    · rw [oo _ (by decide)]
      exact ht
    · intro k hk
      rw [fd_up_ne (by omega)]
    · intro j hj
      rw [fd_up_ne (by omega)]
    · intro j hj
      exact oo j (Or.inl (Int32.lt_trans hj (by decide)))
    · exact oo _ (by decide)
    · exact oo _ (by decide)
    · refine m_hd_congr (oo _ (by decide)) (fun j j0 j1 => ?_)
      have j6 : j < 6 := by clear hR hG hB hGB hL hPh0 hK same hv hgr unf oo p1 p2 d1 d2; (simp only [ne_eq, i_lt, i_le, i_eq, i_add, i_sub, i_neg, i_mul, Int32.reduceToInt] at *; omega)
      rw [m_gu_at i0 i6 (by decide) (by decide) j0 j6 (by decide) (by decide), m_gu_at i0 i6 (by decide) (by decide) j0 j6 (by decide) (by decide), if_neg (fun z => absurd z.2 (by decide)), if_neg (fun z => absurd z.2 (by decide))]
      exact ⟨rfl, rfl⟩
