/-! ===== what is written of a counted event, and whether it is held by this ===== -/
def m_gW (g : Int32 → Int32) (w F : Int32) : Int32 → Int32 := m_wn (m_wr (m_wn (m_wr g 43) w) 61) F
theorem m_gW_ok {g : Int32 → Int32} {w F : Int32} (h : 0 ≤ g 131 ∧ g 131 ≤ 5) (hw : 0 ≤ w ∧ w ≤ 2000) (hF : 0 ≤ F ∧ F ≤ 20000) :
    (0 ≤ m_wr g 43 131 ∧ m_wr g 43 131 ≤ 6) ∧ (0 ≤ m_wn (m_wr g 43) w 131 ∧ m_wn (m_wr g 43) w 131 ≤ 10) ∧ (0 ≤ m_wr (m_wn (m_wr g 43) w) 61 131 ∧ m_wr (m_wn (m_wr g 43) w) 61 131 ≤ 11) ∧ (0 ≤ m_gW g w F 131 ∧ m_gW g w F 131 ≤ 16) ∧ (w < nI (10 ^ (3 + 1)) ∧ F < nI (10 ^ (4 + 1))) := by
  have a1 : 0 ≤ m_wr g 43 131 ∧ m_wr g 43 131 ≤ 6 := by rw [m_wr_131]; (simp only [ne_eq, i_lt, i_le, i_eq, i_add, i_sub, i_neg, i_mul, Int32.reduceToInt] at *; omega)
  have hw' : w < nI (10 ^ (3 + 1)) := by rw [show nI (10 ^ (3 + 1)) = 10000 by decide]; clear a1; (simp only [ne_eq, i_lt, i_le, i_eq, i_add, i_sub, i_neg, i_mul, Int32.reduceToInt] at *; omega)
  have hF' : F < nI (10 ^ (4 + 1)) := by rw [show nI (10 ^ (4 + 1)) = 100000 by decide]; clear a1; (simp only [ne_eq, i_lt, i_le, i_eq, i_add, i_sub, i_neg, i_mul, Int32.reduceToInt] at *; omega)
  have a2 := m_wn_131 (g := m_wr g 43) 3 (by decide) hw.1 hw' ⟨a1.1, by clear hw' hF'; (simp only [ne_eq, i_lt, i_le, i_eq, i_add, i_sub, i_neg, i_mul, Int32.reduceToInt] at *; omega)⟩
  rw [show nI (3 + 1) = 4 by decide] at a2
  have a2' : 0 ≤ m_wn (m_wr g 43) w 131 ∧ m_wn (m_wr g 43) w 131 ≤ 10 := by clear hw' hF'; (simp only [ne_eq, i_lt, i_le, i_eq, i_add, i_sub, i_neg, i_mul, Int32.reduceToInt] at *; omega)
  have a3 : 0 ≤ m_wr (m_wn (m_wr g 43) w) 61 131 ∧ m_wr (m_wn (m_wr g 43) w) 61 131 ≤ 11 := by rw [m_wr_131]; clear hw' hF' a2; (simp only [ne_eq, i_lt, i_le, i_eq, i_add, i_sub, i_neg, i_mul, Int32.reduceToInt] at *; omega)
  have a4 := m_wn_131 (g := m_wr (m_wn (m_wr g 43) w) 61) 4 (by decide) hF.1 hF' ⟨a3.1, by clear hw' hF' a2; (simp only [ne_eq, i_lt, i_le, i_eq, i_add, i_sub, i_neg, i_mul, Int32.reduceToInt] at *; omega)⟩
  rw [show nI (4 + 1) = 5 by decide] at a4
  refine ⟨a1, a2', a3, ?_, hw', hF'⟩
  unfold m_gW
  clear hw' hF' a2
  (simp only [ne_eq, i_lt, i_le, i_eq, i_add, i_sub, i_neg, i_mul, Int32.reduceToInt] at *; omega)
theorem m_gW_lo {g : Int32 → Int32} {w F j : Int32} (h : 0 ≤ g 131 ∧ g 131 ≤ 5) (hw : 0 ≤ w ∧ w ≤ 2000) (hF : 0 ≤ F ∧ F ≤ 20000) (hj : j < 131) : m_gW g w F j = g j ∧ m_wr (m_wn (m_wr g 43) w) 61 j = g j := by
  obtain ⟨a1, a2, a3, a4, hw', hF'⟩ := m_gW_ok h hw hF
  have l : ∀ {v n : Int32}, 0 ≤ v ∧ v ≤ n → n ≤ 20 → 0 ≤ v ∧ v ≤ 20 := fun h1 h2 => ⟨h1.1, Int32.le_trans h1.2 h2⟩
  have l' : ∀ {v n : Int32}, 0 ≤ v ∧ v ≤ n → n ≤ 100 → 0 ≤ v ∧ v ≤ 100 := fun h1 h2 => ⟨h1.1, Int32.le_trans h1.2 h2⟩
  have e : m_wr (m_wn (m_wr g 43) w) 61 j = g j := by
    rw [m_wr_lo (l' a2 (by decide)) hj, m_wn_lo 3 (by decide) hw.1 hw' (l a1 (by decide)) hj, m_wr_lo (l' h (by decide)) hj]
  refine ⟨?_, e⟩
  unfold m_gW
  rw [m_wn_lo 4 (by decide) hF.1 hF' (l a3 (by decide)) hj, e]
/-- the component writes the same -/
theorem m_cW {fu : Nat} {S : fd_S} {g : Int32 → Int32} {w F : Int32} (hfu : 10000 ≤ fu) (hL : m_L S g) (h : 0 ≤ g 131 ∧ g 131 ≤ 5) (hw : 0 ≤ w ∧ w ≤ 2000) (hF : 0 ≤ F ∧ F ≤ 20000) :
    ∃ S1 S2 S3 S4, zL_put S 43 = some S1 ∧ zL_putNumber fu S1 w = some S2 ∧ zL_put S2 61 = some S3 ∧ zL_putNumber fu S3 F = some S4 ∧ m_L S4 (m_gW g w F) ∧ (∀ a : Nat, a ≠ 6 → a ≠ 7 → S3 a = S a ∧ S4 a = S a) := by
  obtain ⟨a1, a2, a3, a4, hw', hF'⟩ := m_gW_ok h hw hF
  obtain ⟨S1, s1, s2, s3⟩ := m_put (c := 43) hL (by clear hL; (simp only [ne_eq, i_lt, i_le, i_eq, i_add, i_sub, i_neg, i_mul, Int32.reduceToInt] at *; omega))
  obtain ⟨S2, t1, t2, t3⟩ := m_pn 3 hfu (by decide) hw.1 hw' s2 (by rw [show (20 : Int32) - nI (3 + 1) = 16 by decide]; exact Int32.le_trans a1.2 (by decide))
  obtain ⟨S3, u1, u2, u3⟩ := m_put (c := 61) t2 (Int32.lt_of_le_of_lt a2.2 (by decide))
  obtain ⟨S4, v1, v2, v3⟩ := m_pn 4 hfu (by decide) hF.1 hF' u2 (by rw [show (20 : Int32) - nI (4 + 1) = 15 by decide]; exact Int32.le_trans a3.2 (by decide))
  refine ⟨S1, S2, S3, S4, s1, t1, u1, v1, v2, fun a h6 h7 => ⟨?_, ?_⟩⟩
  · rw [u3 a h6 h7, t3 a h6 h7, s3 a h6 h7]
  · rw [v3 a h6 h7, u3 a h6 h7, t3 a h6 h7, s3 a h6 h7]
theorem m_hd_set {g g1 : Int32 → Int32} {r : Int32} (e64 : g1 64 = g 64) (r0 : 0 ≤ r) (r1 : r < g 64) (h0 : ∀ i : Int32, 0 ≤ i → i < g 64 → g1 (zM_at i 0) = g (zM_at i 0)) (h3 : ∀ i : Int32, 0 ≤ i → i < g 64 → i ≠ r → g1 (zM_at i 3) = g (zM_at i 3)) (hr : g1 (zM_at r 3) = 1) (y : Int32) : m_hd g1 y ↔ (m_hd g y ∨ y = g (zM_at r 0)) := by
  constructor
  · rintro ⟨i, i0, i1, a, b⟩
    rw [e64] at i1
    by_cases c : i = r
    · subst c
      right
      rw [← a, h0 i i0 i1]
    · left
      exact ⟨i, i0, i1, by rw [← h0 i i0 i1]; exact a, by rw [← h3 i i0 i1 c]; exact b⟩
  · rintro (⟨i, i0, i1, a, b⟩ | h)
    · refine ⟨i, i0, by rw [e64]; exact i1, by rw [h0 i i0 i1]; exact a, ?_⟩
      by_cases c : i = r
      · subst c; exact hr
      · rw [h3 i i0 i1 c]; exact b
    · exact ⟨r, r0, by rw [e64]; exact r1, by rw [h0 r r0 r1, h], hr⟩
theorem m_tail {fu : Nat} {S S' : fd_S} {g : Int32 → Int32} {r w : Int32} (hfu : 10000 ≤ fu) (hR : m_R S g) (hG : m_GR g) (hB : m_B S g) (hGB : m_GB g) (hK : m_K S') (hT : S 0 6 = g 63) (ht : 0 ≤ g 63 ∧ g 63 ≤ 500000) (r0 : 0 ≤ r) (r1 : r < g 64) (hw : 0 ≤ w ∧ w ≤ 2000) (hl : 0 ≤ g 131 ∧ g 131 ≤ 5) :
    ∃ e S5 g6, zS_addTo_45 fu S (m_rw S r) = some (e, S5) ∧ zM_meet_172 fu (fd_sg S' g) w r = some (e, fd_sg S' g6) ∧ m_R S5 g6 ∧ m_GR g6 ∧ (∀ k : Nat, (k < 8 ∨ 20 ≤ k) → S5 k = S k) ∧ (∀ j : Int32, j < 71 → g6 j = g j) ∧
      g6 (zM_at r 0) = g (zM_at r 0) ∧ g6 (zM_at r 1) = g (zM_at r 1) ∧
      ((e = 3 ∧ (∀ j : Int32, 131 ≤ j → g6 j = m_gW g w (g (zM_at r 1)) j) ∧ ∀ y, m_hd g6 y ↔ m_hd g y) ∨ (e = 4 ∧ (∀ j : Int32, 131 ≤ j → g6 j = m_wr (m_gW g w (g (zM_at r 1))) 33 j) ∧ ∀ y, m_hd g6 y ↔ (m_hd g y ∨ y = g (zM_at r 0)))) := by
  have h64 := hR.2.2.1
  have r6 : r < 6 := by clear hR hG hB hGB; (simp only [ne_eq, i_lt, i_le, i_eq, i_add, i_sub, i_neg, i_mul, Int32.reduceToInt] at *; omega)
  have hgr := hG.1 r r0 r1
  have hrk := hR.1.rk r0 r6
  have hrg := hR.1.rg r0 r6
  have hv := hR.2.2.2.1 r r0 r1
  unfold m_cV at hv
  have hin : ∀ f : Int32, 0 ≤ f → f < 10 → 0 ≤ zM_at r f ∧ zM_at r f < 275 := fun f f0 f1 => m_at_in r0 r6 f0 f1
  have hlo : ∀ f : Int32, 0 ≤ f → f < 10 → zM_at r f < 131 := fun f f0 f1 => (m_at_rg r0 r6 f0 f1).2
  have hF := hgr.2.1
  generalize hFe : g (zM_at r 1) = F at hF hv ⊢
  obtain ⟨a1, a2, a3, a4, hw', hF'⟩ := m_gW_ok hl hw hF
  have l' : ∀ {v n : Int32}, 0 ≤ v ∧ v ≤ n → n ≤ 100 → 0 ≤ v ∧ v ≤ 100 := fun h1 h2 => ⟨h1.1, Int32.le_trans h1.2 h2⟩
  have wlo : ∀ j : Int32, j < 131 → m_gW g w F j = g j := fun j hj => (m_gW_lo hl hw hF hj).1
  have e8 : m_wr (m_wn (m_wr g 43) w) 61 (zM_at r 1) = F := by rw [(m_gW_lo hl hw hF (hlo 1 (by decide) (by decide))).2, hFe]
  unfold zS_addTo_45 zM_meet_172
  rw [if_pos hrk, zM_write_eq (l' hl (by decide)), Option.bind_some, zM_writeNumber_eq 3 hfu (by decide) hw.1 hw' a1.1 (by rw [show (20 : Int32) - nI (3 + 1) = 16 by decide]; exact Int32.le_trans a1.2 (by decide)), Option.bind_some, zM_write_eq (l' a2 (by decide)), Option.bind_some, if_pos (hin 1 (by decide) (by decide)), sg_78, e8, zM_writeNumber_eq 4 hfu (by decide) hF.1 hF' a3.1 (by rw [show (20 : Int32) - nI (4 + 1) = 15 by decide]; exact Int32.le_trans a3.2 (by decide)), Option.bind_some, if_pos (hin 1 (by decide) (by decide)), zM_bounded_eq 4 (by decide), Option.bind_some]
  simp only [show m_wn (m_wr (m_wn (m_wr g 43) w) 61) F = m_gW g w F from rfl]
  rw [sg_78, wlo _ (hlo 1 (by decide) (by decide)), hFe, wlo _ (by decide), show (32 : Int32) + 4 = 36 by decide, hv.2.2.2.1, hv.2.1, hB.e4]
  -- what stands where nothing was written but lines
  have RW : m_R S (m_gW g w F) := m_R_congr hR rfl rfl (fun _ _ _ => rfl) (wlo _ (by decide)) (fun j _ hj => wlo j hj)
  have GW : m_GR (m_gW g w F) := m_GR_congr hG h64.2 (wlo _ (by decide)) (by rw [wlo _ (by decide)]; exact Int32.le_refl _) (fun j _ hj => wlo j hj)
  have HW : ∀ y, m_hd (m_gW g w F) y ↔ m_hd g y := fun y => m_hd_lo h64.2 (wlo _ (by decide)) (fun j _ hj => wlo j hj) y
  have none3 : ∃ e S5 g6, some ((3 : Int32), S) = some (e, S5) ∧ some ((3 : Int32), fd_sg S' (m_gW g w F)) = some (e, fd_sg S' g6) ∧ m_R S5 g6 ∧ m_GR g6 ∧ (∀ k : Nat, (k < 8 ∨ 20 ≤ k) → S5 k = S k) ∧ (∀ j : Int32, j < 71 → g6 j = g j) ∧ g6 (zM_at r 0) = g (zM_at r 0) ∧ g6 (zM_at r 1) = F ∧ ((e = 3 ∧ (∀ j : Int32, 131 ≤ j → g6 j = m_gW g w F j) ∧ ∀ y, m_hd g6 y ↔ m_hd g y) ∨ (e = 4 ∧ (∀ j : Int32, 131 ≤ j → g6 j = m_wr (m_gW g w F) 33 j) ∧ ∀ y, m_hd g6 y ↔ (m_hd g y ∨ y = g (zM_at r 0)))) :=
    ⟨3, S, m_gW g w F, rfl, rfl, RW, GW, fun _ _ => rfl, fun j hj => wlo j (by clear hR hG hB hGB hv hin hlo wlo RW GW HW; (simp only [ne_eq, i_lt, i_le, i_eq, i_add, i_sub, i_neg, i_mul, Int32.reduceToInt] at *; omega)), wlo _ (hlo 0 (by decide) (by decide)), by rw [wlo _ (hlo 1 (by decide) (by decide)), hFe], Or.inl ⟨rfl, fun _ _ => rfl, HW⟩⟩
  by_cases cO : F ≤ g 36
  · rw [if_pos cO, if_neg (show ¬ g 36 < F by clear hR hG hB hGB hv hin hlo wlo RW GW HW none3; (simp only [ne_eq, i_lt, i_le, i_eq, i_add, i_sub, i_neg, i_mul, Int32.reduceToInt] at *; omega))]
    by_cases ch : g (zM_at r 3) = 0
    · rw [if_pos ch]; exact none3
    · rw [if_neg ch]; exact none3
  · rw [if_neg cO, zM_isHeld_eq r0 r6, Option.bind_some, wlo _ (hlo 3 (by decide) (by decide))]
    rcases hgr.2.2.2.1 with ch | ch
    · rw [if_pos ch, if_pos (show g 36 < F by clear hR hG hB hGB hv hin hlo wlo RW GW HW none3; (simp only [ne_eq, i_lt, i_le, i_eq, i_add, i_sub, i_neg, i_mul, Int32.reduceToInt] at *; omega)), if_neg (show ¬ g (zM_at r 3) = 1 by rw [ch]; decide), if_pos rfl, if_pos (hin 3 (by decide) (by decide))]
      simp only [fd_lt, sg_up, sg_78]
      have e64W : m_gW g w F 64 = g 64 := wlo _ (by decide)
      have R1 := m_R_fld (v := 1) RW r0 (by rw [e64W]; exact r1) 3 (by decide)
      have G1 := m_GR_fld (v := 1) (by rw [e64W]; exact h64) GW r0 (by rw [e64W]; exact r1) (show 0 ≤ (3 : Int32) ∧ (3 : Int32) < 10 by decide) (by decide) ⟨fun h => absurd h (by decide), fun h => absurd h (by decide), fun _ => Or.inr rfl, fun h => absurd h (by decide)⟩
      have rw1 : m_rw (fd_up S (m_rw S r) 3 1) r = m_rw S r := m_rw_up (by omega) r
      have o1 : ∀ j : Int32, (j < 71 ∨ 131 ≤ j) → m_gu (m_gW g w F) (zM_at r 3) 1 j = m_gW g w F j := fun j hj => m_gu_out r0 r6 (by decide) (by decide) hj
      have B1 : m_B (fd_up S (m_rw S r) 3 1) (m_gu (m_gW g w F) (zM_at r 3) 1) := m_B_congr hB (fd_up_ne (by omega)) (fun j _ hj => by rw [o1 j (Or.inl (by clear hR hG hB hGB hv hin hlo wlo RW GW HW none3 R1 G1 o1; (simp only [ne_eq, i_lt, i_le, i_eq, i_add, i_sub, i_neg, i_mul, Int32.reduceToInt] at *; omega))), wlo j (by clear hR hG hB hGB hv hin hlo wlo RW GW HW none3 R1 G1 o1; (simp only [ne_eq, i_lt, i_le, i_eq, i_add, i_sub, i_neg, i_mul, Int32.reduceToInt] at *; omega))])
      have GB1 : m_GB (m_gu (m_gW g w F) (zM_at r 3) 1) := m_GB_congr hGB (fun j _ hj => by rw [o1 j (Or.inl (by clear hR hG hB hGB hv hin hlo wlo RW GW HW none3 R1 G1 o1 B1; (simp only [ne_eq, i_lt, i_le, i_eq, i_add, i_sub, i_neg, i_mul, Int32.reduceToInt] at *; omega))), wlo j (by clear hR hG hB hGB hv hin hlo wlo RW GW HW none3 R1 G1 o1 B1; (simp only [ne_eq, i_lt, i_le, i_eq, i_add, i_sub, i_neg, i_mul, Int32.reduceToInt] at *; omega))])
      have e641 : m_gu (m_gW g w F) (zM_at r 3) 1 64 = g 64 := by rw [o1 _ (by decide), e64W]
      have e631 : m_gu (m_gW g w F) (zM_at r 3) 1 63 = g 63 := by rw [o1 _ (by decide), wlo _ (by decide)]
      have h2 := (G1.1 r r0 (by rw [e641]; exact r1)).2.2.1
      rw [e631] at h2
      obtain ⟨d, d1, d2⟩ := m_due (S' := S') (t := g 63) hfu R1 G1 B1 GB1 hK r0 (by rw [e641]; exact r1) ht.1 h2.2 ht.2
      rw [rw1] at d1
      rw [fd_up_ne (show (0 : Nat) ≠ m_rw S r by omega), hT, d1, e631, d2, Option.bind_some, Option.bind_some, if_pos (hin 4 (by decide) (by decide))]
      have R2 := m_R_fld (v := d) R1 r0 (by rw [e641]; exact r1) 4 (by decide)
      rw [rw1] at R2
      have G2 := m_GR_fld (v := d) (by rw [e641]; exact h64) G1 r0 (by rw [e641]; exact r1) (show 0 ≤ (4 : Int32) ∧ (4 : Int32) < 10 by decide) (by decide) ⟨fun h => absurd h (by decide), fun h => absurd h (by decide), fun h => absurd h (by decide), fun h => absurd h (by decide)⟩
      generalize hg5 : m_gu (m_gu (m_gW g w F) (zM_at r 3) 1) (zM_at r 4) d = g5 at R2 G2 ⊢
      have o5 : ∀ j : Int32, (j < 71 ∨ 131 ≤ j) → g5 j = m_gW g w F j := by
        intro j hj
        rw [← hg5, m_gu_out r0 r6 (by decide) (by decide) hj, o1 j hj]
      have f5 : ∀ j f : Int32, 0 ≤ j → j < g 64 → 0 ≤ f → f < 10 → g5 (zM_at j f) = if j = r ∧ f = 4 then d else if j = r ∧ f = 3 then 1 else g (zM_at j f) := by
        intro j f j0 j1 f0 f1
        have j6 : j < 6 := by clear hR hG hB hGB hv hin hlo wlo RW GW HW none3 R1 G1 o1 B1 R2 G2 o5 GB1; (simp only [ne_eq, i_lt, i_le, i_eq, i_add, i_sub, i_neg, i_mul, Int32.reduceToInt] at *; omega)
        rw [← hg5, m_gu_at r0 r6 (by decide) (by decide) j0 j6 f0 f1, m_gu_at r0 r6 (by decide) (by decide) j0 j6 f0 f1, wlo _ (m_at_rg j0 j6 f0 f1).2]
      have l5 : g5 131 = m_gW g w F 131 := o5 _ (by decide)
      rw [zM_write_eq (by rw [l5]; exact l' a4 (by decide)), Option.bind_some]
      have wlo5 : ∀ j : Int32, j < 131 → m_wr g5 33 j = g5 j := fun j hj => m_wr_lo (by rw [l5]; exact l' a4 (by decide)) hj
      have e645 : g5 64 = g 64 := by rw [o5 _ (by decide), e64W]
      refine ⟨4, _, _, rfl, rfl, m_R_congr R2 rfl rfl (fun _ _ _ => rfl) (wlo5 _ (by decide)) (fun j _ hj => wlo5 j hj), m_GR_congr G2 (by rw [e645]; exact h64.2) (wlo5 _ (by decide)) (by rw [wlo5 _ (by decide)]; exact Int32.le_refl _) (fun j _ hj => wlo5 j hj), ?_, ?_, ?_, ?_, Or.inr ⟨rfl, ?_, ?_⟩⟩
      · intro k hk
        rw [fd_up_ne (by omega), fd_up_ne (by omega)]
      · intro j hj
        have hj1 : j < 131 := by clear hR hG hB hGB hv hin hlo wlo RW GW HW none3 R1 G1 o1 B1 R2 G2 o5 GB1 f5 wlo5; (simp only [ne_eq, i_lt, i_le, i_eq, i_add, i_sub, i_neg, i_mul, Int32.reduceToInt] at *; omega)
        rw [wlo5 j hj1, o5 j (Or.inl hj), wlo j hj1]
      · rw [wlo5 _ (hlo 0 (by decide) (by decide)), f5 r 0 r0 r1 (by decide) (by decide), if_neg (fun z => absurd z.2 (by decide)), if_neg (fun z => absurd z.2 (by decide))]
      · rw [wlo5 _ (hlo 1 (by decide) (by decide)), f5 r 1 r0 r1 (by decide) (by decide), if_neg (fun z => absurd z.2 (by decide)), if_neg (fun z => absurd z.2 (by decide)), hFe]
      · intro j hj
        unfold m_wr m_gu
        rw [l5, o5 j (Or.inr hj)]
      · intro y
        refine m_hd_set (by rw [wlo5 _ (by decide), e645]) r0 r1 (fun i i0 i1 => ?_) (fun i i0 i1 hi => ?_) ?_ y
        · have i6 : i < 6 := by clear hR hG hB hGB hv hin hlo wlo RW GW HW none3 R1 G1 o1 B1 R2 G2 o5 GB1 f5 wlo5; (simp only [ne_eq, i_lt, i_le, i_eq, i_add, i_sub, i_neg, i_mul, Int32.reduceToInt] at *; omega)
          rw [wlo5 _ (m_at_rg i0 i6 (by decide) (by decide)).2, f5 i 0 i0 i1 (by decide) (by decide), if_neg (fun z => absurd z.2 (by decide)), if_neg (fun z => absurd z.2 (by decide))]
        · have i6 : i < 6 := by clear hR hG hB hGB hv hin hlo wlo RW GW HW none3 R1 G1 o1 B1 R2 G2 o5 GB1 f5 wlo5; (simp only [ne_eq, i_lt, i_le, i_eq, i_add, i_sub, i_neg, i_mul, Int32.reduceToInt] at *; omega)
          rw [wlo5 _ (m_at_rg i0 i6 (by decide) (by decide)).2, f5 i 3 i0 i1 (by decide) (by decide), if_neg (fun z => hi z.1), if_neg (fun z => hi z.1)]
        · rw [wlo5 _ (hlo 3 (by decide) (by decide)), f5 r 3 r0 r1 (by decide) (by decide), if_neg (fun z => absurd z.2 (by decide)), if_pos ⟨rfl, rfl⟩]
    · rw [if_neg (show ¬ g (zM_at r 3) = 0 by rw [ch]; decide), if_pos ch, if_neg (show ¬ (1 : Int32) = 0 by decide)]
      exact none3
