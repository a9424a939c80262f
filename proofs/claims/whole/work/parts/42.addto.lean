/-! ===== a counted event ===== -/
theorem m_R_congr {S S1 : fd_S} {g g1 : Int32 → Int32} (h : m_R S g) (e3 : S1 3 1 = S 3 1) (e4 : S1 4 = S 4) (hS : ∀ k : Nat, 8 ≤ k → k < 20 → S1 k = S k) (e64 : g1 64 = g 64) (hg : ∀ j : Int32, 71 ≤ j → j < 131 → g1 j = g j) : m_R S1 g1 := by
  obtain ⟨hrow, h31, h64, hV, hC⟩ := h
  have erw : ∀ j, m_rw S1 j = m_rw S j := fun j => by unfold m_rw; rw [e4]
  refine ⟨by unfold m_rows; rw [e4]; exact hrow, by rw [e3, e64, h31], by rw [e64]; exact h64, ?_, ?_⟩
  · intro j j0 j1
    rw [e64] at j1
    have j6 : j < 6 := by clear hV hC hS hg; (simp only [ne_eq, i_lt, i_le, i_eq, i_add, i_sub, i_neg, i_mul, Int32.reduceToInt] at *; omega)
    have hr := hrow.rg j0 j6
    have hv := hV j j0 j1
    have a : ∀ f : Int32, 0 ≤ f → f < 10 → g1 (zM_at j f) = g (zM_at j f) := fun f f0 f1 => hg _ (m_at_rg j0 j6 f0 f1).1 (m_at_rg j0 j6 f0 f1).2
    unfold m_cV at hv ⊢
    rw [erw, hS _ (by omega) (by omega), a 0 (by decide) (by decide), a 1 (by decide) (by decide), a 2 (by decide) (by decide), a 3 (by decide) (by decide), a 4 (by decide) (by decide), a 5 (by decide) (by decide)]
    exact hv
  · intro j q j0 j1 q0 q4 q1
    rw [e64] at j1
    have j6 : j < 6 := by clear hV hC hS hg; (simp only [ne_eq, i_lt, i_le, i_eq, i_add, i_sub, i_neg, i_mul, Int32.reduceToInt] at *; omega)
    have hr := hrow.rg j0 j6
    have a : ∀ f : Int32, 0 ≤ f → f < 10 → g1 (zM_at j f) = g (zM_at j f) := fun f f0 f1 => hg _ (m_at_rg j0 j6 f0 f1).1 (m_at_rg j0 j6 f0 f1).2
    rw [a 5 (by decide) (by decide)] at q1
    have hc := hC j q j0 j1 q0 q4 q1
    have hq : 0 ≤ 6 + q ∧ 6 + q < 10 := by clear hV hC hS hg; (simp only [ne_eq, i_lt, i_le, i_eq, i_add, i_sub, i_neg, i_mul, Int32.reduceToInt] at *; omega)
    unfold m_cK at hc ⊢
    rw [erw, hS _ (by omega) (by omega), a _ hq.1 hq.2]
    exact hc
theorem m_GR_congr {g g1 : Int32 → Int32} (hG : m_GR g) (h64 : g 64 ≤ 6) (e64 : g1 64 = g 64) (e63 : g 63 ≤ g1 63) (hg : ∀ j : Int32, 71 ≤ j → j < 131 → g1 j = g j) : m_GR g1 := by
  have a : ∀ j f : Int32, 0 ≤ j → j < g 64 → 0 ≤ f → f < 10 → g1 (zM_at j f) = g (zM_at j f) := fun j f j0 j1 f0 f1 => by
    have j6 : j < 6 := by clear hG hg; (simp only [ne_eq, i_lt, i_le, i_eq, i_add, i_sub, i_neg, i_mul, Int32.reduceToInt] at *; omega)
    exact hg _ (m_at_rg j0 j6 f0 f1).1 (m_at_rg j0 j6 f0 f1).2
  refine ⟨fun j j0 j1 => ?_, fun j k j0 j1 k0 k1 => ?_⟩
  · rw [e64] at j1
    have hj := hG.1 j j0 j1
    rw [a j 0 j0 j1 (by decide) (by decide), a j 1 j0 j1 (by decide) (by decide), a j 2 j0 j1 (by decide) (by decide), a j 3 j0 j1 (by decide) (by decide), a j 5 j0 j1 (by decide) (by decide)]
    exact ⟨hj.1, hj.2.1, ⟨hj.2.2.1.1, Int32.le_trans hj.2.2.1.2 e63⟩, hj.2.2.2.1, hj.2.2.2.2⟩
  · rw [e64] at j1 k1
    rw [a j 0 j0 j1 (by decide) (by decide), a k 0 k0 k1 (by decide) (by decide)]
    exact hG.2 j k j0 j1 k0 k1
theorem m_hd_lo {g g1 : Int32 → Int32} (h64 : g 64 ≤ 6) (e64 : g1 64 = g 64) (hg : ∀ j : Int32, 71 ≤ j → j < 131 → g1 j = g j) (x : Int32) : m_hd g1 x ↔ m_hd g x := by
  refine m_hd_congr e64 (fun i i0 i1 => ?_) x
  have j6 : i < 6 := by clear hg; (simp only [ne_eq, i_lt, i_le, i_eq, i_add, i_sub, i_neg, i_mul, Int32.reduceToInt] at *; omega)
  exact ⟨hg _ (m_at_rg i0 j6 (by decide) (by decide)).1 (m_at_rg i0 j6 (by decide) (by decide)).2, hg _ (m_at_rg i0 j6 (by decide) (by decide)).1 (m_at_rg i0 j6 (by decide) (by decide)).2⟩
theorem m_B_congr {S S1 : fd_S} {g g1 : Int32 → Int32} (h : m_B S g) (e2 : S1 2 = S 2) (hg : ∀ j : Int32, 32 ≤ j → j < 39 → g1 j = g j) : m_B S1 g1 := by
  intro i i0 i7
  rw [e2, hg _ (by clear h hg; (simp only [ne_eq, i_lt, i_le, i_eq, i_add, i_sub, i_neg, i_mul, Int32.reduceToInt] at *; omega)) (by clear h hg; (simp only [ne_eq, i_lt, i_le, i_eq, i_add, i_sub, i_neg, i_mul, Int32.reduceToInt] at *; omega))]
  exact h i i0 i7
theorem m_GB_congr {g g1 : Int32 → Int32} (h : m_GB g) (hg : ∀ j : Int32, 32 ≤ j → j < 39 → g1 j = g j) : m_GB g1 := by
  unfold m_GB
  rw [hg 32 (by decide) (by decide), hg 33 (by decide) (by decide), hg 34 (by decide) (by decide), hg 35 (by decide) (by decide), hg 36 (by decide) (by decide), hg 37 (by decide) (by decide), hg 38 (by decide) (by decide)]
  exact h
theorem m_rw_c {S S1 : fd_S} (h : S1 4 = S 4) (r : Int32) : m_rw S1 r = m_rw S r := by unfold m_rw; rw [h]
theorem m_addHead {fu : Nat} {S S' : fd_S} {g : Int32 → Int32} {r w q : Int32} (hfu : 10000 ≤ fu) (hR : m_R S g) (hG : m_GR g) (hB : m_B S g) (hGB : m_GB g) (hK : m_K S') (hT : S 0 6 = g 63) (ht : 0 ≤ g 63 ∧ g 63 ≤ 500000) (r0 : 0 ≤ r) (r1 : r < g 64) (hw : 0 ≤ w ∧ w ≤ 2000) (hq : 0 ≤ q) :
    ∃ S3 g3, zS_addTo fu S (m_rw S r) w q = zS_addTo_45 fu S3 (m_rw S r) ∧
      ((zM_penaltyAt fu (fd_sg S' g) r (fd_sg S' g 78 63)).bind fun r11 => (fd_lt ((r11 + w)) fun y13 => ((zM_bounded (fd_sg S' g) (6 : Int32)).bind fun r14 => (if r14 ≤ y13 then ((zM_bounded (fd_sg S' g) (6 : Int32)).bind fun r17 => (zM_meet_142 fu (fd_sg S' g) w q r (zM_at r (1 : Int32)) r17)) else (zM_meet_142 fu (fd_sg S' g) w q r (zM_at r (1 : Int32)) y13))))) = zM_meet_172 fu (fd_sg S' g3) w r ∧
      m_R S3 g3 ∧ m_GR g3 ∧ (∀ k : Nat, (k < 8 ∨ 20 ≤ k) → S3 k = S k) ∧ (∀ j : Int32, (j < 71 ∨ 131 ≤ j) → g3 j = g j) ∧ (∀ y, m_hd g3 y ↔ m_hd g y) ∧ g3 (zM_at r 0) = g (zM_at r 0) := by
  have h64 := hR.2.2.1
  have r6 : r < 6 := by clear hR hG hB hGB; (simp only [ne_eq, i_lt, i_le, i_eq, i_add, i_sub, i_neg, i_mul, Int32.reduceToInt] at *; omega)
  have hgr := hG.1 r r0 r1
  have hrk := hR.1.rk r0 r6
  have hrg := hR.1.rg r0 r6
  have hin : ∀ f : Int32, 0 ≤ f → f < 10 → 0 ≤ zM_at r f ∧ zM_at r f < 275 := fun f f0 f1 => m_at_in r0 r6 f0 f1
  obtain ⟨P, p1, p2, p3, p4⟩ := m_penaltyAt (S' := S') (t := g 63) hfu hR hG hB.e0 hGB hK r0 r1 hgr.2.2.1.2 (by clear hR hG hB hGB hgr hin; (simp only [ne_eq, i_lt, i_le, i_eq, i_add, i_sub, i_neg, i_mul, Int32.reduceToInt] at *; omega))
  have htop := hGB.2.2.2.2.2.2
  generalize hF : fd_min (P + w) (g 38) = F
  have hFb : 0 ≤ F ∧ F ≤ 20000 := by
    rw [← hF]
    unfold fd_min
    clear hR hG hB hGB hgr hin
    split <;> (simp only [ne_eq, i_lt, i_le, i_eq, i_add, i_sub, i_neg, i_mul, Int32.reduceToInt] at *; omega)
  -- both put the same figure
  have eref : ((zM_penaltyAt fu (fd_sg S' g) r (fd_sg S' g 78 63)).bind fun r11 => (fd_lt ((r11 + w)) fun y13 => ((zM_bounded (fd_sg S' g) (6 : Int32)).bind fun r14 => (if r14 ≤ y13 then ((zM_bounded (fd_sg S' g) (6 : Int32)).bind fun r17 => (zM_meet_142 fu (fd_sg S' g) w q r (zM_at r (1 : Int32)) r17)) else (zM_meet_142 fu (fd_sg S' g) w q r (zM_at r (1 : Int32)) y13))))) = zM_meet_142 fu (fd_sg S' g) w q r (zM_at r 1) F := by
    rw [sg_78, p2]
    simp only [Option.bind_some, fd_lt, zM_bd6]
    rw [← hF]
    unfold fd_min
    by_cases c : g 38 ≤ P + w
    · rw [if_pos c]
      by_cases c2 : g 38 < P + w
      · rw [if_pos c2]
      · rw [if_neg c2]
        have : P + w = g 38 := by clear hR hG hB hGB hgr hin; (simp only [ne_eq, i_lt, i_le, i_eq, i_add, i_sub, i_neg, i_mul, Int32.reduceToInt] at *; omega)
        rw [this]
    · rw [if_neg c, if_neg (by clear hR hG hB hGB hgr hin; (simp only [ne_eq, i_lt, i_le, i_eq, i_add, i_sub, i_neg, i_mul, Int32.reduceToInt] at *; omega))]
  rw [eref]
  unfold zS_addTo zM_meet_142
  simp only [fd_lt, sg_78, sg_up]
  rw [hT, p1, Option.bind_some, if_pos hrk, hB.e6, hF, if_pos (hin 1 (by decide) (by decide)), if_pos (hin 2 (by decide) (by decide)), fd_up_ne (show (0 : Nat) ≠ m_rw S r by omega), hT, m_gu_out r0 r6 (by decide) (by decide) (by decide)]
  -- the two fields
  have R1 := m_R_fld (v := F) hR r0 r1 1 (by decide)
  have e64a : m_gu g (zM_at r 1) F 64 = g 64 := m_gu_out r0 r6 (by decide) (by decide) (by decide)
  have G1 := m_GR_fld (v := F) h64 hG r0 r1 (show 0 ≤ (1 : Int32) ∧ (1 : Int32) < 10 by decide) (by decide) ⟨fun _ => hFb, fun h => absurd h (by decide), fun h => absurd h (by decide), fun h => absurd h (by decide)⟩
  have rw1 : m_rw (fd_up S (m_rw S r) 1 F) r = m_rw S r := m_rw_up (by omega) r
  have R2 := m_R_fld (v := g 63) R1 r0 (by rw [e64a]; exact r1) 2 (by decide)
  rw [rw1] at R2
  have e63a : m_gu g (zM_at r 1) F 63 = g 63 := m_gu_out r0 r6 (by decide) (by decide) (by decide)
  have G2 := m_GR_fld (v := g 63) (by rw [e64a]; exact h64) G1 r0 (by rw [e64a]; exact r1) (show 0 ≤ (2 : Int32) ∧ (2 : Int32) < 10 by decide) (by decide) ⟨fun h => absurd h (by decide), fun _ => ⟨ht.1, by rw [e63a]; exact Int32.le_refl _⟩, fun h => absurd h (by decide), fun h => absurd h (by decide)⟩
  generalize hS2 : fd_up (fd_up S (m_rw S r) 1 F) (m_rw S r) 2 (g 63) = S2 at R2 ⊢
  generalize hg2 : m_gu (m_gu g (zM_at r 1) F) (zM_at r 2) (g 63) = g2 at R2 G2 ⊢
  have o2 : ∀ j : Int32, (j < 71 ∨ 131 ≤ j) → g2 j = g j := by
    intro j hj
    rw [← hg2, m_gu_out r0 r6 (by decide) (by decide) hj, m_gu_out r0 r6 (by decide) (by decide) hj]
  have c2 : ∀ k : Nat, (k < 8 ∨ 20 ≤ k) → S2 k = S k := by
    intro k hk
    rw [← hS2, fd_up_ne (by omega), fd_up_ne (by omega)]
  have f2 : ∀ j f : Int32, 0 ≤ j → j < g 64 → (f = 0 ∨ f = 3) → g2 (zM_at j f) = g (zM_at j f) := by
    intro j f j0 j1 hf
    have j6 : j < 6 := by clear hR hG hB hGB hgr hin R1 R2 G1 G2 o2 c2; (simp only [ne_eq, i_lt, i_le, i_eq, i_add, i_sub, i_neg, i_mul, Int32.reduceToInt] at *; omega)
    have ff : 0 ≤ f ∧ f < 10 ∧ f ≠ 1 ∧ f ≠ 2 := by clear hR hG hB hGB hgr hin R1 R2 G1 G2 o2 c2; (simp only [ne_eq, i_lt, i_le, i_eq, i_add, i_sub, i_neg, i_mul, Int32.reduceToInt] at *; omega)
    rw [← hg2, m_gu_at r0 r6 (by decide) (by decide) j0 j6 ff.1 ff.2.1, if_neg (fun z => ff.2.2.2 z.2), m_gu_at r0 r6 (by decide) (by decide) j0 j6 ff.1 ff.2.1, if_neg (fun z => ff.2.2.1 z.2)]
  have rw2 : m_rw S2 r = m_rw S r := m_rw_c (c2 4 (by omega)) r
  have e64 : g2 64 = g 64 := o2 _ (by decide)
  by_cases cq : q = 0
  · rw [if_pos cq, if_pos (by rw [cq]; decide)]
    refine ⟨S2, g2, rfl, rfl, R2, G2, c2, o2, fun y => ?_, f2 r 0 r0 r1 (Or.inl rfl)⟩
    exact m_hd_congr e64 (fun i i0 i1 => ⟨f2 i 0 i0 i1 (Or.inl rfl), f2 i 3 i0 i1 (Or.inr rfl)⟩) y
  · obtain ⟨S3, g3, a1, a2, a3, a4, a5, a6, a7⟩ := m_addCause (S' := S') (x := q) hfu R2 G2 r0 (by rw [e64]; exact r1)
    rw [rw2] at a1
    rw [if_neg cq, if_neg (by clear hR hG hB hGB hgr hin R1 R2 G1 G2 o2 c2 f2 a1 a2 a3 a4 a5 a6 a7; (simp only [ne_eq, i_lt, i_le, i_eq, i_add, i_sub, i_neg, i_mul, Int32.reduceToInt] at *; omega)), a1, a2, Option.bind_some, Option.bind_some]
    have f3 : ∀ j f : Int32, 0 ≤ j → j < g 64 → (f = 0 ∨ f = 3) → g3 (zM_at j f) = g (zM_at j f) := by
      intro j f j0 j1 hf
      have ff : 0 ≤ f ∧ f < 5 := by clear hR hG hB hGB hgr hin R1 R2 G1 G2 o2 c2 f2 a1 a2 a3 a4 a5 a6 a7; (simp only [ne_eq, i_lt, i_le, i_eq, i_add, i_sub, i_neg, i_mul, Int32.reduceToInt] at *; omega)
      rw [a7 j f j0 (by rw [e64]; exact j1) ff.1 ff.2, f2 j f j0 j1 hf]
    refine ⟨S3, g3, rfl, rfl, a3, a4, fun k hk => by rw [a5 k hk, c2 k hk], fun j hj => by rw [a6 j hj, o2 j hj], fun y => ?_, f3 r 0 r0 r1 (Or.inl rfl)⟩
    exact m_hd_congr (by rw [a6 _ (by decide), e64]) (fun i i0 i1 => ⟨f3 i 0 i0 i1 (Or.inl rfl), f3 i 3 i0 i1 (Or.inr rfl)⟩) y
