/-! ===== judge and meet ===== -/
theorem m_wr_hi {g g1 : Int32 → Int32} (h : ∀ j : Int32, 131 ≤ j → g1 j = g j) (c : Int32) : ∀ j : Int32, 131 ≤ j → m_wr g1 c j = m_wr g c j := by
  intro j hj
  unfold m_wr m_gu
  rw [h 131 (by decide), h j hj]
theorem m_wdn_hi {n : Nat} : ∀ (k : Nat) (g g1 : Int32 → Int32), (∀ j : Int32, 131 ≤ j → g1 j = g j) → ∀ j : Int32, 131 ≤ j → m_wdn g1 n k j = m_wdn g n k j := by
  intro k
  induction k with
  | zero => intro g g1 h; exact m_wr_hi h _
  | succ k ih => intro g g1 h; exact ih _ _ (m_wr_hi h _)
theorem m_wn_hi {g g1 : Int32 → Int32} (h : ∀ j : Int32, 131 ≤ j → g1 j = g j) (x : Int32) : ∀ j : Int32, 131 ≤ j → m_wn g1 x j = m_wn g x j := m_wdn_hi _ g g1 h
theorem m_gW_hi {g g1 : Int32 → Int32} (h : ∀ j : Int32, 131 ≤ j → g1 j = g j) (w F : Int32) : ∀ j : Int32, 131 ≤ j → m_gW g1 w F j = m_gW g w F j := m_wn_hi (m_wr_hi (m_wn_hi (m_wr_hi h _) _) _) _
/-- what an event does to records and lines, by how it ended -/
def m_Ev (g g2 : Int32 → Int32) (x w e : Int32) : Prop :=
  (e = 0 ∧ (∀ j : Int32, 131 ≤ j → g2 j = g j) ∧ ∀ y, m_hd g2 y ↔ m_hd g y) ∨
  (e = 1 ∧ (∀ j : Int32, 131 ≤ j → g2 j = m_wr g 126 j) ∧ ∀ y, m_hd g2 y ↔ m_hd g y) ∨
  (e = 2 ∧ (∀ j : Int32, 131 ≤ j → g2 j = m_wr g 63 j) ∧ ∀ y, m_hd g2 y ↔ m_hd g y) ∨
  (∃ r, 0 ≤ r ∧ r < g2 64 ∧ g2 (zM_at r 0) = x ∧ ((e = 3 ∧ (∀ j : Int32, 131 ≤ j → g2 j = m_gW g w (g2 (zM_at r 1)) j) ∧ ∀ y, m_hd g2 y ↔ m_hd g y) ∨ (e = 4 ∧ (∀ j : Int32, 131 ≤ j → g2 j = m_wr (m_gW g w (g2 (zM_at r 1))) 33 j) ∧ ∀ y, m_hd g2 y ↔ (m_hd g y ∨ y = x))))
theorem m_cnt {fu : Nat} {S S' : fd_S} {g : Int32 → Int32} {r w q : Int32} (hfu : 10000 ≤ fu) (hR : m_R S g) (hG : m_GR g) (hB : m_B S g) (hGB : m_GB g) (hK : m_K S') (hT : S 0 6 = g 63) (ht : 0 ≤ g 63 ∧ g 63 ≤ 500000) (r0 : 0 ≤ r) (r1 : r < g 64) (hw : 0 ≤ w ∧ w ≤ 2000) (hq : 0 ≤ q) (hl : 0 ≤ g 131 ∧ g 131 ≤ 5) :
    ∃ e S1 g2, zS_addTo fu S (m_rw S r) w q = some (e, S1) ∧
      ((zM_penaltyAt fu (fd_sg S' g) r (fd_sg S' g 78 63)).bind fun r11 => (fd_lt ((r11 + w)) fun y13 => ((zM_bounded (fd_sg S' g) (6 : Int32)).bind fun r14 => (if r14 ≤ y13 then ((zM_bounded (fd_sg S' g) (6 : Int32)).bind fun r17 => (zM_meet_142 fu (fd_sg S' g) w q r (zM_at r (1 : Int32)) r17)) else (zM_meet_142 fu (fd_sg S' g) w q r (zM_at r (1 : Int32)) y13))))) = some (e, fd_sg S' g2) ∧
      m_R S1 g2 ∧ m_GR g2 ∧ (∀ k : Nat, (k < 8 ∨ 20 ≤ k) → S1 k = S k) ∧ (∀ j : Int32, j < 71 → g2 j = g j) ∧ m_Ev g g2 (g (zM_at r 0)) w e := by
  obtain ⟨S3, g3, a1, a2, a3, a4, a5, a6, a7, a8⟩ := m_addHead (S' := S') hfu hR hG hB hGB hK hT ht r0 r1 hw hq
  have e64 : g3 64 = g 64 := a6 _ (by decide)
  have e63 : g3 63 = g 63 := a6 _ (by decide)
  have B3 : m_B S3 g3 := m_B_congr hB (a5 2 (by omega)) (fun j _ hj => a6 j (Or.inl (by clear a1 a2 a3 a4 a5 a6 a7 hR hG hB hGB; (simp only [ne_eq, i_lt, i_le, i_eq, i_add, i_sub, i_neg, i_mul, Int32.reduceToInt] at *; omega))))
  have GB3 : m_GB g3 := m_GB_congr hGB (fun j _ hj => a6 j (Or.inl (by clear a1 a2 a3 a4 a5 a6 a7 hR hG hB hGB; (simp only [ne_eq, i_lt, i_le, i_eq, i_add, i_sub, i_neg, i_mul, Int32.reduceToInt] at *; omega))))
  have rw3 : m_rw S3 r = m_rw S r := m_rw_c (a5 4 (by omega)) r
  obtain ⟨e, S5, g6, b1, b2, b3, b4, b5, b6, b7, b8, b9⟩ := m_tail (S' := S') hfu a3 a4 B3 GB3 hK (by rw [a5 0 (by omega), hT, e63]) (by rw [e63]; exact ht) r0 (by rw [e64]; exact r1) hw (by rw [a6 _ (by decide)]; exact hl)
  rw [rw3] at b1
  refine ⟨e, S5, g6, by rw [a1, b1], by rw [a2, b2], b3, b4, fun k hk => by rw [b5 k hk, a5 k hk], fun j hj => by rw [b6 j hj, a6 j (Or.inl hj)], ?_⟩
  have e646 : g6 64 = g 64 := by rw [b6 _ (by decide), e64]
  refine Or.inr (Or.inr (Or.inr ⟨r, r0, by rw [e646]; exact r1, by rw [b7, a8], ?_⟩))
  have hi : ∀ j : Int32, 131 ≤ j → g3 j = g j := fun j hj => a6 j (Or.inr hj)
  rcases b9 with ⟨c1, c2, c3⟩ | ⟨c1, c2, c3⟩
  · refine Or.inl ⟨c1, fun j hj => ?_, fun y => by rw [c3 y, a7 y]⟩
    rw [c2 j hj, b8, m_gW_hi hi _ _ j hj]
  · refine Or.inr ⟨c1, fun j hj => ?_, fun y => by rw [c3 y, a7 y, a8]⟩
    rw [c2 j hj, b8, m_wr_hi (m_gW_hi hi _ _) _ j hj]
theorem m_meet {fu : Nat} {S S' : fd_S} {g : Int32 → Int32} {x w q : Int32} (hfu : 10000 ≤ fu) (hR : m_R S g) (hG : m_GR g) (hB : m_B S g) (hGB : m_GB g) (hK : m_K S') (hT : S 0 6 = g 63) (h8 : S 0 8 = g 66) (h9 : S 0 9 = g 67) (h2 : S 3 2 = g 68) (ht : 0 ≤ g 63 ∧ g 63 ≤ 500000) (hx : 0 ≤ x ∧ x < 32) (hw : 0 ≤ w ∧ w ≤ 2000) (hq : 0 ≤ q) (hl : 0 ≤ g 131 ∧ g 131 ≤ 5) :
    ∃ e S1 g2, zS_judge fu S x w q = some (e, S1) ∧ zM_meet fu (fd_sg S' g) x w q = some (e, fd_sg S' g2) ∧ m_R S1 g2 ∧ m_GR g2 ∧ S1 0 8 = g2 66 ∧ S1 0 9 = g2 67 ∧ S1 3 2 = g2 68 ∧ (S1 0 6 = S 0 6 ∧ S1 0 7 = S 0 7 ∧ S1 0 10 = S 0 10) ∧ g2 65 = g 65 + 1 ∧
      (∀ k : Nat, (k = 1 ∨ k = 2 ∨ (5 ≤ k ∧ k < 8) ∨ 20 ≤ k) → S1 k = S k) ∧ (∀ j : Int32, (j < 64 ∨ j = 69 ∨ j = 70) → g2 j = g j) ∧ m_Ev g g2 x w e := by
  have h64 := hR.2.2.1
  generalize hg1 : m_gu g 65 (g 65 + 1) = g1
  have o1 : ∀ j : Int32, j ≠ 65 → g1 j = g j := by
    intro j hj
    rw [← hg1]
    unfold m_gu
    rw [if_neg hj]
  have e65 : g1 65 = g 65 + 1 := by rw [← hg1]; unfold m_gu; rw [if_pos rfl]
  have e64 : g1 64 = g 64 := o1 _ (by decide)
  have e63 : g1 63 = g 63 := o1 _ (by decide)
  have R1 : m_R S g1 := m_R_congr hR rfl rfl (fun _ _ _ => rfl) e64 (fun j h _ => o1 j (by clear hR hG hB hGB o1; (simp only [ne_eq, i_lt, i_le, i_eq, i_add, i_sub, i_neg, i_mul, Int32.reduceToInt] at *; omega)))
  have G1 : m_GR g1 := m_GR_congr hG h64.2 e64 (by rw [e63]; exact Int32.le_refl _) (fun j h _ => o1 j (by clear hR hG hB hGB o1 R1; (simp only [ne_eq, i_lt, i_le, i_eq, i_add, i_sub, i_neg, i_mul, Int32.reduceToInt] at *; omega)))
  have B1 : m_B S g1 := m_B_congr hB rfl (fun j _ h => o1 j (by clear hR hG hB hGB o1 R1 G1; (simp only [ne_eq, i_lt, i_le, i_eq, i_add, i_sub, i_neg, i_mul, Int32.reduceToInt] at *; omega)))
  have GB1 : m_GB g1 := m_GB_congr hGB (fun j _ h => o1 j (by clear hR hG hB hGB o1 R1 G1 B1; (simp only [ne_eq, i_lt, i_le, i_eq, i_add, i_sub, i_neg, i_mul, Int32.reduceToInt] at *; omega)))
  have hi1 : ∀ j : Int32, 131 ≤ j → g1 j = g j := fun j hj => o1 j (by clear hR hG hB hGB o1 R1 G1 B1 GB1; (simp only [ne_eq, i_lt, i_le, i_eq, i_add, i_sub, i_neg, i_mul, Int32.reduceToInt] at *; omega))
  have H1 : ∀ y, m_hd g1 y ↔ m_hd g y := fun y => m_hd_lo h64.2 e64 (fun j h _ => o1 j (by clear hR hG hB hGB o1 R1 G1 B1 GB1 hi1; (simp only [ne_eq, i_lt, i_le, i_eq, i_add, i_sub, i_neg, i_mul, Int32.reduceToInt] at *; omega))) y
  have E1 : ∀ {g2 : Int32 → Int32} {e : Int32}, m_Ev g1 g2 x w e → m_Ev g g2 x w e := by
    intro g2 e h
    rcases h with ⟨c1, c2, c3⟩ | ⟨c1, c2, c3⟩ | ⟨c1, c2, c3⟩ | ⟨r, r0, r1, c0, ⟨c1, c2, c3⟩ | ⟨c1, c2, c3⟩⟩
    · exact Or.inl ⟨c1, fun j hj => by rw [c2 j hj, hi1 j hj], fun y => by rw [c3 y, H1 y]⟩
    · exact Or.inr (Or.inl ⟨c1, fun j hj => by rw [c2 j hj, m_wr_hi hi1 _ j hj], fun y => by rw [c3 y, H1 y]⟩)
    · exact Or.inr (Or.inr (Or.inl ⟨c1, fun j hj => by rw [c2 j hj, m_wr_hi hi1 _ j hj], fun y => by rw [c3 y, H1 y]⟩))
    · exact Or.inr (Or.inr (Or.inr ⟨r, r0, r1, c0, Or.inl ⟨c1, fun j hj => by rw [c2 j hj, m_gW_hi hi1 _ _ j hj], fun y => by rw [c3 y, H1 y]⟩⟩))
    · exact Or.inr (Or.inr (Or.inr ⟨r, r0, r1, c0, Or.inr ⟨c1, fun j hj => by rw [c2 j hj, m_wr_hi (m_gW_hi hi1 _ _) _ j hj], fun y => by rw [c3 y, H1 y]⟩⟩))
  have l1 : 0 ≤ g1 131 ∧ g1 131 ≤ 5 := by rw [hi1 _ (by decide)]; exact hl
  have l1' : 0 ≤ g1 131 ∧ g1 131 ≤ 100 := ⟨l1.1, Int32.le_trans l1.2 (by decide)⟩
  obtain ⟨r, er, hix⟩ := zM_recordOf_eq (S := S') (g := g1) hfu (by rw [e64]; exact h64) x
  have ef := zQ_find_eq (x := x) hfu R1 G1 hix
  unfold zS_judge zM_meet
  simp only [fd_lt, sg_78, sg_up, hg1]
  rw [er, Option.bind_some]
  by_cases cw : w = 0
  · rw [if_pos cw, if_pos cw]
    exact ⟨0, S, g1, rfl, rfl, R1, G1, by rw [h8, o1 _ (by decide)], by rw [h9, o1 _ (by decide)], by rw [h2, o1 _ (by decide)], ⟨rfl, rfl, rfl⟩, e65, fun _ _ => rfl, fun j hj => o1 j (by clear hR hG hB hGB o1 R1 G1 B1 GB1 hi1 H1 E1 hix; (simp only [ne_eq, i_lt, i_le, i_eq, i_add, i_sub, i_neg, i_mul, Int32.reduceToInt] at *; omega)), E1 (Or.inl ⟨rfl, fun _ _ => rfl, fun _ => Iff.rfl⟩)⟩
  rw [if_neg cw, if_neg cw, ef, Option.bind_some]
  -- a counted event of a record that stands
  have cnt : ∀ {q' : Int32}, 0 ≤ q' → 0 ≤ r → r < g1 64 → g1 (zM_at r 0) = x → ∃ e S1 g2, ((zS_addTo fu S (m_rw S r) w q').bind fun q14 => (fd_pr q14 fun r13 S11 => (some (r13, S11)))) = some (e, S1) ∧ zM_meet_62 fu (fd_sg S' g1) x w q' = some (e, fd_sg S' g2) ∧ m_R S1 g2 ∧ m_GR g2 ∧ S1 0 8 = g2 66 ∧ S1 0 9 = g2 67 ∧ S1 3 2 = g2 68 ∧ (S1 0 6 = S 0 6 ∧ S1 0 7 = S 0 7 ∧ S1 0 10 = S 0 10) ∧ g2 65 = g 65 + 1 ∧ (∀ k : Nat, (k = 1 ∨ k = 2 ∨ (5 ≤ k ∧ k < 8) ∨ 20 ≤ k) → S1 k = S k) ∧ (∀ j : Int32, (j < 64 ∨ j = 69 ∨ j = 70) → g2 j = g j) ∧ m_Ev g g2 x w e := by
    intro q' hq' r0 r1 hrx
    obtain ⟨e, S1, g2, a1, a2, a3, a4, a5, a6, a7⟩ := m_cnt (S' := S') hfu R1 G1 B1 GB1 hK (by rw [hT, e63]) (by rw [e63]; exact ht) r0 r1 hw hq' l1
    rw [hrx] at a7
    refine ⟨e, S1, g2, by rw [a1]; rfl, ?_, a3, a4, ?_, ?_, ?_, ?_, ?_, fun k hk => a5 k (by omega), fun j hj => by rw [a6 j (by clear hR hG hB hGB o1 R1 G1 B1 GB1 hi1 H1 E1 hix a3 a4 a5 a6 a7; (simp only [ne_eq, i_lt, i_le, i_eq, i_add, i_sub, i_neg, i_mul, Int32.reduceToInt] at *; omega)), o1 j (by clear hR hG hB hGB o1 R1 G1 B1 GB1 hi1 H1 E1 hix a3 a4 a5 a6 a7; (simp only [ne_eq, i_lt, i_le, i_eq, i_add, i_sub, i_neg, i_mul, Int32.reduceToInt] at *; omega))], E1 a7⟩
    · unfold zM_meet_62 zM_makeRecord
      rw [er, Option.bind_some, if_neg (show ¬ r < 0 by clear hR hG hB hGB o1 R1 G1 B1 GB1 hi1 H1 E1 hix a3 a4 a5 a6 a7; (simp only [ne_eq, i_lt, i_le, i_eq, i_add, i_sub, i_neg, i_mul, Int32.reduceToInt] at *; omega)), Option.bind_some]
      unfold fd_pr
      dsimp only
      rw [if_pos r0, a2]
    · rw [a5 0 (by omega), h8, a6 _ (by decide), o1 _ (by decide)]
    · rw [a5 0 (by omega), h9, a6 _ (by decide), o1 _ (by decide)]
    · rw [a5 3 (by omega), h2, a6 _ (by decide), o1 _ (by decide)]
    · rw [a5 0 (by omega)]; exact ⟨rfl, rfl, rfl⟩
    · rw [a6 _ (by decide), e65]
  by_cases cr : r < 0
  · -- no record yet
    have hno : ∀ i : Int32, 0 ≤ i → i < g1 64 → ¬ g1 (zM_at i 0) = x := by
      rcases hix with ⟨-, h⟩ | ⟨a, -, -⟩
      · exact h
      · exact absurd cr (Int32.not_lt.mpr a)
    rw [if_pos cr, show m_fd S r = none by unfold m_fd; rw [if_pos cr]]
    unfold fd_on
    dsimp only
    rw [hT]
    rcases m_make (S' := S') (t := g 63) hfu R1 G1 (by rw [e63]) (by rw [e63]; exact ht.1) hx hno with ⟨a1, a2⟩ | ⟨S6, g6, r6, a1, a2, a3, a4, a5, a6, a7, a8, a9, a10, a11⟩
    · unfold zM_meet_62
      rw [a1, a2, Option.bind_some, Option.bind_some]
      unfold fd_pr
      simp only [fd_lt, sg_78, sg_up]
      rw [if_neg (show ¬ (0 : Int32) ≤ -6 by decide)]
      have o2 : ∀ j : Int32, j ≠ 67 → m_gu g1 67 (g1 67 + 1) j = g1 j := by
        intro j hj
        unfold m_gu
        rw [if_neg hj]
      have w2 : ∀ j : Int32, j < 131 → m_wr (m_gu g1 67 (g1 67 + 1)) 63 j = m_gu g1 67 (g1 67 + 1) j := fun j hj => m_wr_lo (by rw [o2 _ (by decide)]; exact l1') hj
      rw [zM_write_eq (by rw [o2 _ (by decide)]; exact l1'), Option.bind_some]
      have k67 : m_gu g1 67 (g1 67 + 1) 67 = g1 67 + 1 := by unfold m_gu; rw [if_pos rfl]
      refine ⟨2, _, _, rfl, rfl, ?_, ?_, ?_, ?_, ?_, ?_, ?_, ?_, ?_, E1 (Or.inr (Or.inr (Or.inl ⟨rfl, ?_, ?_⟩)))⟩
      · exact m_R_congr R1 (by rw [fd_up_ne (by decide)]) (by rw [fd_up_ne (by decide)]) (fun k h _ => by rw [fd_up_ne (by omega)]) (by rw [w2 _ (by decide), o2 _ (by decide)]) (fun j h h' => by rw [w2 j h', o2 j (by clear hR hG hB hGB o1 R1 G1 B1 GB1 hi1 H1 E1 hix a1 a2 hno cnt o2 w2; (simp only [ne_eq, i_lt, i_le, i_eq, i_add, i_sub, i_neg, i_mul, Int32.reduceToInt] at *; omega))])
      · exact m_GR_congr G1 (by rw [e64]; exact h64.2) (by rw [w2 _ (by decide), o2 _ (by decide)]) (by rw [w2 _ (by decide), o2 _ (by decide)]; exact Int32.le_refl _) (fun j h h' => by rw [w2 j h', o2 j (by clear hR hG hB hGB o1 R1 G1 B1 GB1 hi1 H1 E1 hix a1 a2 hno cnt o2 w2; (simp only [ne_eq, i_lt, i_le, i_eq, i_add, i_sub, i_neg, i_mul, Int32.reduceToInt] at *; omega))])
      · rw [fd_up_at, if_neg (by decide), h8, w2 _ (by decide), o2 _ (by decide), o1 _ (by decide)]
      · rw [fd_up_at, if_pos rfl, h9, w2 _ (by decide), k67, o1 _ (by decide)]
      · rw [fd_up_ne (by decide), h2, w2 _ (by decide), o2 _ (by decide), o1 _ (by decide)]
      · rw [fd_up_at, fd_up_at, fd_up_at, if_neg (by decide), if_neg (by decide), if_neg (by decide)]
        exact ⟨hT, rfl, rfl⟩
      · rw [w2 _ (by decide), o2 _ (by decide), e65]
      · intro k hk
        rw [fd_up_ne (by omega)]
      · intro j hj
        have hj2 : j < 131 ∧ j ≠ 67 ∧ j ≠ 65 := by clear hR hG hB hGB o1 R1 G1 B1 GB1 hi1 H1 E1 hix a1 a2 hno cnt o2 w2; (simp only [ne_eq, i_lt, i_le, i_eq, i_add, i_sub, i_neg, i_mul, Int32.reduceToInt] at *; omega)
        rw [w2 j hj2.1, o2 j hj2.2.1, o1 j hj2.2.2]
      · exact m_wr_hi (fun j hj => o2 j (by clear hR hG hB hGB o1 R1 G1 B1 GB1 hi1 H1 E1 hix a1 a2 hno cnt o2 w2; (simp only [ne_eq, i_lt, i_le, i_eq, i_add, i_sub, i_neg, i_mul, Int32.reduceToInt] at *; omega))) _
      · intro y
        exact m_hd_lo (by rw [e64]; exact h64.2) (by rw [w2 _ (by decide), o2 _ (by decide)]) (fun j h h' => by rw [w2 j h', o2 j (by clear hR hG hB hGB o1 R1 G1 B1 GB1 hi1 H1 E1 hix a1 a2 hno cnt o2 w2; (simp only [ne_eq, i_lt, i_le, i_eq, i_add, i_sub, i_neg, i_mul, Int32.reduceToInt] at *; omega))]) y
    · have f6 : ∀ j : Int32, (j < 64 ∨ (65 ≤ j ∧ j < 68) ∨ (69 ≤ j ∧ j < 71) ∨ 131 ≤ j) → g6 j = g1 j := a9
      have B6 : m_B S6 g6 := m_B_congr B1 (a8 2 (by omega)) (fun j _ hj => f6 j (Or.inl (by clear hR hG hB hGB o1 R1 G1 B1 GB1 hi1 H1 E1 hix a1 a2 hno cnt f6 a8 a9 a6 a7 a10 a11; (simp only [ne_eq, i_lt, i_le, i_eq, i_add, i_sub, i_neg, i_mul, Int32.reduceToInt] at *; omega))))
      have GB6 : m_GB g6 := m_GB_congr GB1 (fun j _ hj => f6 j (Or.inl (by clear hR hG hB hGB o1 R1 G1 B1 GB1 hi1 H1 E1 hix a1 a2 hno cnt f6 a8 a9 a6 a7 a10 a11 B6; (simp only [ne_eq, i_lt, i_le, i_eq, i_add, i_sub, i_neg, i_mul, Int32.reduceToInt] at *; omega))))
      obtain ⟨e, S1, g2, b1, b2, b3, b4, b5, b6, b7⟩ := m_cnt (S' := S') hfu a6 a7 B6 GB6 hK (by rw [a8 0 (by omega), hT, f6 _ (by decide), e63]) (by rw [f6 _ (by decide), e63]; exact ht) a3 a4 hw hq (by rw [f6 _ (by decide)]; exact l1)
      rw [a5] at b7
      unfold zM_meet_62
      rw [a1, a2, Option.bind_some, Option.bind_some]
      unfold fd_pr
      dsimp only
      rw [if_pos a3, b2, b1, Option.bind_some]
      refine ⟨e, S1, g2, rfl, rfl, b3, b4, ?_, ?_, ?_, ?_, ?_, ?_, ?_, E1 ?_⟩
      · rw [b5 0 (by omega), a8 0 (by omega), h8, b6 _ (by decide), f6 _ (by decide), o1 _ (by decide)]
      · rw [b5 0 (by omega), a8 0 (by omega), h9, b6 _ (by decide), f6 _ (by decide), o1 _ (by decide)]
      · rw [b5 3 (by omega), b6 _ (by decide)]
        rw [h2, o1 _ (by decide)] at a10
        clear hR hG hB hGB o1 R1 G1 B1 GB1 hi1 H1 E1 hix a1 a2 hno cnt f6 a8 a9 a6 a7 a11 B6 GB6 b1 b2 b3 b4 b5 b6 b7
        grind
      · rw [b5 0 (by omega), a8 0 (by omega)]; exact ⟨hT, rfl, rfl⟩
      · rw [b6 _ (by decide), f6 _ (by decide), e65]
      · intro k hk
        rw [b5 k (by omega), a8 k (by omega)]
      · intro j hj
        have hj2 : j < 71 ∧ (j < 64 ∨ (65 ≤ j ∧ j < 68) ∨ (69 ≤ j ∧ j < 71) ∨ 131 ≤ j) ∧ j ≠ 65 := by clear hR hG hB hGB o1 R1 G1 B1 GB1 hi1 H1 E1 hix a1 a2 hno cnt f6 a8 a9 a6 a7 a11 B6 GB6 b1 b2 b3 b4 b5 b6 b7; (simp only [ne_eq, i_lt, i_le, i_eq, i_add, i_sub, i_neg, i_mul, Int32.reduceToInt] at *; omega)
        rw [b6 j hj2.1, f6 j hj2.2.1, o1 j hj2.2.2]
      · have h6i : ∀ j : Int32, 131 ≤ j → g6 j = g1 j := fun j hj => f6 j (Or.inr (Or.inr (Or.inr hj)))
        rcases b7 with ⟨c1, c2, c3⟩ | ⟨c1, c2, c3⟩ | ⟨c1, c2, c3⟩ | ⟨r, r0, r1, c0, ⟨c1, c2, c3⟩ | ⟨c1, c2, c3⟩⟩
        · exact Or.inl ⟨c1, fun j hj => by rw [c2 j hj, h6i j hj], fun y => by rw [c3 y, a11 y]⟩
        · exact Or.inr (Or.inl ⟨c1, fun j hj => by rw [c2 j hj, m_wr_hi h6i _ j hj], fun y => by rw [c3 y, a11 y]⟩)
        · exact Or.inr (Or.inr (Or.inl ⟨c1, fun j hj => by rw [c2 j hj, m_wr_hi h6i _ j hj], fun y => by rw [c3 y, a11 y]⟩))
        · exact Or.inr (Or.inr (Or.inr ⟨r, r0, r1, c0, Or.inl ⟨c1, fun j hj => by rw [c2 j hj, m_gW_hi h6i _ _ j hj], fun y => by rw [c3 y, a11 y]⟩⟩))
        · exact Or.inr (Or.inr (Or.inr ⟨r, r0, r1, c0, Or.inr ⟨c1, fun j hj => by rw [c2 j hj, m_wr_hi (m_gW_hi h6i _ _) _ j hj], fun y => by rw [c3 y, a11 y]⟩⟩))
  · -- it has one
    have hrx : 0 ≤ r ∧ r < g1 64 ∧ g1 (zM_at r 0) = x := by
      rcases hix with ⟨e, -⟩ | h
      · exact absurd (by rw [e]; decide) cr
      · exact h
    have r6 : r < 6 := by have := hrx.2.1; rw [e64] at this; clear hR hG hB hGB o1 R1 G1 B1 GB1 hi1 H1 E1 hix cnt hrx; (simp only [ne_eq, i_lt, i_le, i_eq, i_add, i_sub, i_neg, i_mul, Int32.reduceToInt] at *; omega)
    rw [if_neg cr, show m_fd S r = some (m_rw S r) by unfold m_fd; rw [if_neg cr]]
    unfold fd_on
    dsimp only
    by_cases cq : q = 0
    · rw [if_pos cq, if_pos (show q ≤ 0 by rw [cq]; decide)]
      exact cnt hq hrx.1 hrx.2.1 hrx.2.2
    · obtain ⟨b, b1, b2, b3⟩ := m_hasCause (S' := S') (x := q) hfu R1 G1 hrx.1 hrx.2.1
      rw [if_neg cq, if_neg (show ¬ q ≤ 0 by clear hR hG hB hGB o1 R1 G1 B1 GB1 hi1 H1 E1 hix cnt hrx b1 b2; (simp only [ne_eq, i_lt, i_le, i_eq, i_add, i_sub, i_neg, i_mul, Int32.reduceToInt] at *; omega)), if_pos (R1.1.rk hrx.1 r6), b1, b2, Option.bind_some, Option.bind_some]
      by_cases cb : b = 0
      · rw [if_pos cb, if_pos cb]
        exact cnt hq hrx.1 hrx.2.1 hrx.2.2
      · rw [if_neg cb, if_neg cb]
        have o2 : ∀ j : Int32, j ≠ 66 → m_gu g1 66 (g1 66 + 1) j = g1 j := by
          intro j hj
          unfold m_gu
          rw [if_neg hj]
        have w2 : ∀ j : Int32, j < 131 → m_wr (m_gu g1 66 (g1 66 + 1)) 126 j = m_gu g1 66 (g1 66 + 1) j := fun j hj => m_wr_lo (by rw [o2 _ (by decide)]; exact l1') hj
        rw [zM_write_eq (by rw [o2 _ (by decide)]; exact l1'), Option.bind_some]
        have k66 : m_gu g1 66 (g1 66 + 1) 66 = g1 66 + 1 := by unfold m_gu; rw [if_pos rfl]
        refine ⟨1, _, _, rfl, rfl, ?_, ?_, ?_, ?_, ?_, ?_, ?_, ?_, ?_, E1 (Or.inr (Or.inl ⟨rfl, ?_, ?_⟩))⟩
        · exact m_R_congr R1 (by rw [fd_up_ne (by decide)]) (by rw [fd_up_ne (by decide)]) (fun k h _ => by rw [fd_up_ne (by omega)]) (by rw [w2 _ (by decide), o2 _ (by decide)]) (fun j h h' => by rw [w2 j h', o2 j (by clear hR hG hB hGB o1 R1 G1 B1 GB1 hi1 H1 E1 hix cnt o2 w2 hrx; (simp only [ne_eq, i_lt, i_le, i_eq, i_add, i_sub, i_neg, i_mul, Int32.reduceToInt] at *; omega))])
        · exact m_GR_congr G1 (by rw [e64]; exact h64.2) (by rw [w2 _ (by decide), o2 _ (by decide)]) (by rw [w2 _ (by decide), o2 _ (by decide)]; exact Int32.le_refl _) (fun j h h' => by rw [w2 j h', o2 j (by clear hR hG hB hGB o1 R1 G1 B1 GB1 hi1 H1 E1 hix cnt o2 w2 hrx; (simp only [ne_eq, i_lt, i_le, i_eq, i_add, i_sub, i_neg, i_mul, Int32.reduceToInt] at *; omega))])
        · rw [fd_up_at, if_pos rfl, h8, w2 _ (by decide), k66, o1 _ (by decide)]
        · rw [fd_up_at, if_neg (by decide), h9, w2 _ (by decide), o2 _ (by decide), o1 _ (by decide)]
        · rw [fd_up_ne (by decide), h2, w2 _ (by decide), o2 _ (by decide), o1 _ (by decide)]
        · rw [fd_up_at, fd_up_at, fd_up_at, if_neg (by decide), if_neg (by decide), if_neg (by decide)]
          exact ⟨rfl, rfl, rfl⟩
        · rw [w2 _ (by decide), o2 _ (by decide), e65]
        · intro k hk
          rw [fd_up_ne (by omega)]
        · intro j hj
          have hj2 : j < 131 ∧ j ≠ 66 ∧ j ≠ 65 := by clear hR hG hB hGB o1 R1 G1 B1 GB1 hi1 H1 E1 hix cnt o2 w2 hrx; (simp only [ne_eq, i_lt, i_le, i_eq, i_add, i_sub, i_neg, i_mul, Int32.reduceToInt] at *; omega)
          rw [w2 j hj2.1, o2 j hj2.2.1, o1 j hj2.2.2]
        · exact m_wr_hi (fun j hj => o2 j (by clear hR hG hB hGB o1 R1 G1 B1 GB1 hi1 H1 E1 hix cnt o2 w2 hrx; (simp only [ne_eq, i_lt, i_le, i_eq, i_add, i_sub, i_neg, i_mul, Int32.reduceToInt] at *; omega))) _
        · intro y
          exact m_hd_lo (by rw [e64]; exact h64.2) (by rw [w2 _ (by decide), o2 _ (by decide)]) (fun j h h' => by rw [w2 j h', o2 j (by clear hR hG hB hGB o1 R1 G1 B1 GB1 hi1 H1 E1 hix cnt o2 w2 hrx; (simp only [ne_eq, i_lt, i_le, i_eq, i_add, i_sub, i_neg, i_mul, Int32.reduceToInt] at *; omega))]) y
