/-! ===== a tick ===== -/
theorem b_nIs {c : Nat} (h : c ≤ 100) (a : Int32) : a + 1 + nI c = a + nI (c + 1) := by
  have e : (1 : Int32) + nI c = nI (c + 1) := by
    rw [i_eq, i_add, nI_toInt (by omega), nI_toInt (by omega)]
    (simp only [ne_eq, i_lt, i_le, i_eq, i_add, i_sub, i_neg, i_mul, Int32.reduceToInt] at *; omega)
  rw [← e, Int32.add_assoc]
theorem m_lookLoop {fu : Nat} {S' : fd_S} (hfu : 10000 ≤ fu) (hK : m_K S') : ∀ (n : Nat) (S : fd_S) (g : Int32 → Int32) (i : Int32), m_ms (g 64) i < n → m_Ph S g → 0 ≤ i → i ≤ g 64 →
    ∃ S1 g1, ∃ c : Nat, (∀ b, zS_nextTick_29 fu n S b i = (zS_dropSmallOnes fu S1).bind fun S7 => (if (S7 0 10) = b then (some S7) else (zS_nextTick_73 fu fu S7 0))) ∧ zM_lookAtRecords_2 fu n (fd_sg S' g) i = zM_lookAtRecords_157 fu fu (fd_sg S' g1) (g1 64 - 1) ∧ m_Ph S1 g1 ∧ m_PhF S S1 g g1 ∧ c ≤ m_ms (g 64) i ∧ g1 69 = g 69 + nI c ∧ g1 70 = g 70 + nI c ∧ (c = 0 → ∀ y, m_hd g1 y ↔ m_hd g y) := by
  intro n
  induction n with
  | zero => intro S g i h; omega
  | succ n ih =>
    intro S g i hn hPh i0 i1
    have hR := hPh.1
    have h64 := hR.2.2.1
    by_cases ci : g 64 ≤ i
    · refine ⟨S, g, 0, ?_, ?_, hPh, ⟨fun _ _ => rfl, fun _ _ => rfl, fun _ _ => rfl⟩, by omega, by rw [show nI 0 = 0 from rfl, Int32.add_zero], by rw [show nI 0 = 0 from rfl, Int32.add_zero], fun _ _ => Iff.rfl⟩
      · intro b
        rw [zS_nextTick_29, hR.2.1, if_pos ci]
      · rw [zM_lookAtRecords_2]
        simp only [fd_lt, sg_78]
        rw [if_pos ci]
    · have il : i < g 64 ∧ i < 6 ∧ 0 ≤ i + 1 ∧ i + 1 ≤ g 64 := by clear hPh hR ih hK; (simp only [ne_eq, i_lt, i_le, i_eq, i_add, i_sub, i_neg, i_mul, Int32.reduceToInt] at *; omega)
      obtain ⟨S1, g1, a1, a2, a3, a4, a5⟩ := m_lookAt hfu hPh hK i0 il.1
      have e64 : g1 64 = g 64 := a4.2.2 _ (by decide)
      have hms := m_ms_up ci
      have hms6 : m_ms (g 64) i ≤ 6 := by
        unfold m_ms
        clear hPh hR ih hK a1 a2 a3 a4 a5 hn hms
        (simp only [ne_eq, i_lt, i_le, i_eq, i_add, i_sub, i_neg, i_mul, Int32.reduceToInt] at *; omega)
      obtain ⟨S2, g2, c, b1, b2, b3, b4, b5, b6, b60, b7⟩ := ih S1 g1 (i + 1) (by rw [e64]; omega) a3 il.2.2.1 (by rw [e64]; exact il.2.2.2)
      rw [e64] at b5
      have fr : m_PhF S S2 g g2 := ⟨fun k hk => by rw [b4.1 k hk, a4.1 k hk], fun j hj => by rw [b4.2.1 j hj, a4.2.1 j hj], fun j hj => by rw [b4.2.2 j hj, a4.2.2 j hj]⟩
      have hu : ∀ b, zS_nextTick_29 fu (n + 1) S b i = zS_nextTick_29 fu n S1 b (i + 1) := by
        intro b
        rw [zS_nextTick_29]
        simp only [fd_lt, m_rc]
        rw [hR.2.1, if_neg ci, if_pos ⟨i0, il.2.1⟩]
        change (zS_lookAt fu S (m_rw S i)).bind _ = _
        rw [a1, Option.bind_some]
      rcases a5 with ⟨d1, d10, d2⟩ | ⟨d1, d10⟩
      · refine ⟨S2, g2, c, fun b => by rw [hu, b1], by rw [a2, b2], b3, fr, by omega, by rw [b6, d1], by rw [b60, d10], fun z y => by rw [b7 z y, d2 y]⟩
      · refine ⟨S2, g2, c + 1, fun b => by rw [hu, b1], by rw [a2, b2], b3, fr, by omega, ?_, ?_, fun z => by omega⟩
        · rw [b6, d1]
          exact b_nIs (by omega) _
        · rw [b60, d10]
          exact b_nIs (by omega) _
theorem m_dropLoop {fu : Nat} {S' : fd_S} (hfu : 10000 ≤ fu) (hK : m_K S') : ∀ (n : Nat) (S : fd_S) (g : Int32 → Int32) (i : Int32), m_md 0 i < n → m_Ph S g → -1 ≤ i → i < g 64 →
    ∃ S1 g1, zS_dropSmallOnes_10 fu n S i = some S1 ∧ zM_lookAtRecords_157 fu n (fd_sg S' g) i = some (fd_sg S' g1) ∧ m_Ph S1 g1 ∧ (∀ k : Nat, k ≠ 3 → k ≠ 4 → S1 k = S k) ∧ (∀ j : Int32, (j < 71 ∨ 131 ≤ j) → j ≠ 64 → j ≠ 68 → g1 j = g j) ∧ ∀ y, m_hd g1 y ↔ m_hd g y := by
  intro n
  induction n with
  | zero => intro S g i h; omega
  | succ n ih =>
    intro S g i hn hPh im il
    have hPh0 := hPh
    obtain ⟨hR, hG, hB, hGB, hL, hT, hD, h2, ht⟩ := hPh
    have h64 := hR.2.2.1
    rw [zS_dropSmallOnes_10, zM_lookAtRecords_157]
    by_cases ci : i < 0
    · rw [if_pos ci, if_pos ci]
      exact ⟨S, g, rfl, rfl, hPh0, fun _ _ _ => rfl, fun _ _ _ _ => rfl, fun _ => Iff.rfl⟩
    have i0 : 0 ≤ i := Int32.not_lt.mp ci
    have i6 : i < 6 ∧ -1 ≤ i + -1 ∧ i + -1 < g 64 ∧ i + -1 < g 64 - 1 := by clear hR hG hB hGB hL hPh0 hK ih; (simp only [ne_eq, i_lt, i_le, i_eq, i_add, i_sub, i_neg, i_mul, Int32.reduceToInt] at *; omega)
    have h641 : 1 ≤ g 64 ∧ g 64 ≤ 6 := by clear hR hG hB hGB hL hPh0 hK ih; (simp only [ne_eq, i_lt, i_le, i_eq, i_add, i_sub, i_neg, i_mul, Int32.reduceToInt] at *; omega)
    have hms := m_md_dn ci (by decide)
    have hgr := hG.1 i i0 il
    have hv := (hR.2.2.2.1 i i0 il).2.2.2.1
    unfold m_cV at hv
    obtain ⟨P, p1, p2, p3⟩ := m_penaltyAt (S' := S') (t := g 63) hfu hR hG hB.e0 hGB hK i0 il hgr.2.2.1.2 (Int32.le_trans ht.2 (by decide))
    simp only [fd_lt, m_rc, sg_78]
    rw [if_neg ci, if_neg ci, if_pos ⟨i0, i6.1⟩]
    change ∃ S1 g1, (if fd_rk (m_rw S i) then (if (S (m_rw S i) 3) = 0 then ((zS_penaltyAt S (some (m_rw S i)) (S 0 6)).bind _) else _) else _) = _ ∧ _
    rw [if_pos (hR.1.rk i0 i6.1), hv, zM_isHeld_eq i0 i6.1, Option.bind_some, hT, p1, p2]
    simp only [Option.bind_some, zM_bd5, hB.e5]
    have next := ih S g (i + -1) (by omega) hPh0 i6.2.1 i6.2.2.1
    by_cases c0 : g (zM_at i 3) = 0
    · rw [if_pos c0, if_neg (show ¬ g (zM_at i 3) = 1 by rw [c0]; decide), if_pos rfl]
      by_cases cP : g 37 ≤ 2 * P
      · rw [if_pos cP, if_pos cP]
        exact next
      · rw [if_neg cP, if_neg cP]
        obtain ⟨S1, d1, d2, d3, d4, d5, d6⟩ := m_drop (S' := S') hfu hR hG i0 il
        rw [d1, d2, Option.bind_some, Option.bind_some]
        have o : ∀ j : Int32, (j < 71 ∨ 131 ≤ j) → j ≠ 64 → j ≠ 68 → m_rm g i j = g j := fun j h1 h2 h3 => m_rm_out h641 ⟨i0, i6.1⟩ h1 h2 h3
        have Ph1 : m_Ph S1 (m_rm g i) := by
          refine ⟨d3, d4, ?_, ?_, ?_, ?_, ?_, ?_, ?_⟩
          · exact m_B_congr hB (d5 2 (by decide) (by decide)) (fun j h1 h2 => o j (Or.inl (Int32.lt_trans h2 (by decide))) (by clear hR hG hB hGB hL hPh0 hK ih o next; (simp only [ne_eq, i_lt, i_le, i_eq, i_add, i_sub, i_neg, i_mul, Int32.reduceToInt] at *; omega)) (by clear hR hG hB hGB hL hPh0 hK ih o next; (simp only [ne_eq, i_lt, i_le, i_eq, i_add, i_sub, i_neg, i_mul, Int32.reduceToInt] at *; omega)))
          · exact m_GB_congr hGB (fun j h1 h2 => o j (Or.inl (Int32.lt_trans h2 (by decide))) (by clear hR hG hB hGB hL hPh0 hK ih o next; (simp only [ne_eq, i_lt, i_le, i_eq, i_add, i_sub, i_neg, i_mul, Int32.reduceToInt] at *; omega)) (by clear hR hG hB hGB hL hPh0 hK ih o next; (simp only [ne_eq, i_lt, i_le, i_eq, i_add, i_sub, i_neg, i_mul, Int32.reduceToInt] at *; omega)))
          · exact m_L_congr hL (d5 5 (by decide) (by decide)) (d5 6 (by decide) (by decide)) (d5 7 (by decide) (by decide)) (o _ (by decide) (by decide) (by decide)) (fun j hj => o j (Or.inr hj) (by clear hR hG hB hGB hL hPh0 hK ih o next; (simp only [ne_eq, i_lt, i_le, i_eq, i_add, i_sub, i_neg, i_mul, Int32.reduceToInt] at *; omega)) (by clear hR hG hB hGB hL hPh0 hK ih o next; (simp only [ne_eq, i_lt, i_le, i_eq, i_add, i_sub, i_neg, i_mul, Int32.reduceToInt] at *; omega)))
          · rw [d5 0 (by decide) (by decide), hT, o _ (by decide) (by decide) (by decide)]
          · rw [d5 0 (by decide) (by decide), hD, o _ (by decide) (by decide) (by decide)]
          · rw [d6, h2, m_rm_68 ⟨i0, i6.1⟩]
          · rw [o _ (by decide) (by decide) (by decide)]
            exact ht
        obtain ⟨S2, g2, b1, b2, b3, b4, b5, b6⟩ := ih S1 (m_rm g i) (i + -1) (by omega) Ph1 i6.2.1 (by rw [m_rm_64 ⟨i0, i6.1⟩]; exact i6.2.2.2)
        refine ⟨S2, g2, b1, b2, b3, fun k h1 h2 => by rw [b4 k h1 h2, d5 k h1 h2], fun j h1 h2 h3 => by rw [b5 j h1 h2 h3, o j h1 h2 h3], fun y => ?_⟩
        rw [b6 y]
        exact m_hd_rm h641 ⟨i0, il⟩ (by rw [c0]; decide) y
    · have c1 : g (zM_at i 3) = 1 := hgr.2.2.2.1.elim (fun z => absurd z c0) id
      rw [if_neg c0, if_pos c1, if_neg (show ¬ (1 : Int32) = 0 by decide)]
      exact next
theorem m_refreshAll {fu : Nat} {g : Int32 → Int32} {S0 : fd_S} (hfu : 10000 ≤ fu) (hG : m_GR g) (hP : m_P g) (hR : m_R S0 g) (hQ : m_Q S0 g) : ∀ (n : Nat) (S : fd_S) (x : Int32), m_ms 8 x < n → 0 ≤ x → x ≤ 8 → (∀ k : Nat, k ≠ 21 → k ≠ 22 → S k = S0 k) →
    (∀ p : Int32, 0 ≤ p → p < x → S 21 p = m_rk (m_be g p) (m_bp g p) ∧ S 22 p = if m_rk (m_be g p) (m_bp g p) = S0 21 p then S0 22 p else S0 22 p + 1) → (∀ p : Int32, x ≤ p → p < 8 → S 21 p = S0 21 p ∧ S 22 p = S0 22 p) →
    ∃ S1, zS_nextTick_73 fu n S x = some S1 ∧ (∀ k : Nat, k ≠ 21 → k ≠ 22 → S1 k = S0 k) ∧ ∀ p : Int32, 0 ≤ p → p < 8 → S1 21 p = m_rk (m_be g p) (m_bp g p) ∧ S1 22 p = if m_rk (m_be g p) (m_bp g p) = S0 21 p then S0 22 p else S0 22 p + 1 := by
  intro n
  induction n with
  | zero => intro S x h; omega
  | succ n ih =>
    intro S x hn x0 x8 h1 h2 h3
    rw [zS_nextTick_73]
    by_cases c1 : 8 ≤ x
    · rw [if_pos c1]
      exact ⟨S, rfl, h1, fun p p0 p1 => h2 p p0 (Int32.lt_of_lt_of_le p1 c1)⟩
    have hx : x < 8 ∧ 0 ≤ x + 1 ∧ x + 1 ≤ 8 := by clear h1 h2 h3 ih hG hP hR hQ; (simp only [ne_eq, i_lt, i_le, i_eq, i_add, i_sub, i_neg, i_mul, Int32.reduceToInt] at *; omega)
    have hms := m_ms_up c1
    have R1 : m_R S g := m_R_congr hR (by rw [h1 3 (by decide) (by decide)]) (h1 4 (by decide) (by decide)) (fun k _ _ => h1 k (by omega) (by omega)) rfl (fun _ _ _ => rfl)
    have Q1 : m_Q S g := fun j j0 j1 => by rw [h1 20 (by decide) (by decide), hQ j j0 j1]
    obtain ⟨S1, r1, r2, r3, r4, r5⟩ := m_refresh hfu R1 hG hP Q1 x0 hx.1
    simp only [fd_lt]
    rw [if_neg c1, r1, Option.bind_some]
    have h3x := h3 x (Int32.le_refl _) hx.1
    refine ih S1 (x + 1) (by omega) hx.2.1 hx.2.2 (fun k k1 k2 => by rw [r2 k k1 k2, h1 k k1 k2]) (fun p p0 p1 => ?_) (fun p p0 p1 => ?_)
    · by_cases cp : p = x
      · subst cp
        rw [h3x.1, h3x.2] at r5
        exact ⟨r4, r5⟩
      · have hpx : p < x := by clear h1 h2 h3 ih hG hP hR hQ R1 Q1 r1 r2 r3 r4 r5; (simp only [ne_eq, i_lt, i_le, i_eq, i_add, i_sub, i_neg, i_mul, Int32.reduceToInt] at *; omega)
        rw [(r3 p cp).1, (r3 p cp).2]
        exact h2 p p0 hpx
    · have hpx : x ≤ p ∧ p ≠ x := by clear h1 h2 h3 ih hG hP hR hQ R1 Q1 r1 r2 r3 r4 r5; (simp only [ne_eq, i_lt, i_le, i_eq, i_add, i_sub, i_neg, i_mul, Int32.reduceToInt] at *; omega)
      rw [(r3 p hpx.2).1, (r3 p hpx.2).2]
      exact h3 p hpx.1 p1
theorem m_looked {S : fd_S} {g : Int32 → Int32} {t : Int32} (hB : m_B S g) (hGB : m_GB g) : zS_isLookedAt S t = some (if fd_rem t (g 33) = 0 then 1 else 0) ∧ ¬ g 33 = 0 := by
  have hs := hGB.2.1
  have hmx : fd_max (S 2 1) 1 = g 33 := by
    unfold fd_max
    rw [hB.e1]
    clear hB hGB
    grind
  have hn : ¬ g 33 = 0 := by clear hB hGB; (simp only [ne_eq, i_lt, i_le, i_eq, i_add, i_sub, i_neg, i_mul, Int32.reduceToInt] at *; omega)
  unfold zS_isLookedAt
  rw [hmx, if_pos hn]
  refine ⟨?_, hn⟩
  split <;> rfl
theorem m_nextTick {fu : Nat} {S S' : fd_S} {g : Int32 → Int32} (hfu : 10000 ≤ fu) (hS : m_St S g) (hg : m_Go g) (hK : m_K S') (ht : g 63 ≤ 499999) :
    ∃ S1 g1, zS_nextTick fu S = some S1 ∧ (∀ (n : Nat) (x1 x2 : Int32), ¬ x1 ≤ x2 → zM_pass_16 fu (n + 1) (fd_sg S' g) x1 x2 = zM_pass_16 fu n (fd_sg S' g1) x1 (x2 + 1)) ∧ m_St S1 g1 ∧ m_Go g1 ∧ g1 63 = g 63 + 1 ∧ (∃ c : Nat, c ≤ 6 ∧ g1 70 = g 70 + nI c) ∧ ∀ k : Nat, 23 ≤ k → S1 k = S k := by
  have h64 := hS.R.2.2.1
  have ht0 := hg.t
  generalize hg1 : m_gu g 63 (g 63 + 1) = g1
  have o1 : ∀ j : Int32, j ≠ 63 → g1 j = g j := fun j hj => by rw [← hg1, m_gu, if_neg hj]
  have e63 : g1 63 = g 63 + 1 := by rw [← hg1, m_gu, if_pos rfl]
  have ht1 : g 63 ≤ g1 63 ∧ 0 ≤ g1 63 ∧ g1 63 ≤ 500000 := by rw [e63]; clear hS hg hK h64 hg1 o1 e63; (simp only [ne_eq, i_lt, i_le, i_eq, i_add, i_sub, i_neg, i_mul, Int32.reduceToInt] at *; omega)
  generalize hS1 : fd_up S 0 6 (S 0 6 + 1) = S1
  have s1 : ∀ k : Nat, k ≠ 0 → S1 k = S k := fun k hk => by rw [← hS1, fd_up_ne hk]
  have s10 : ∀ j : Int32, S1 0 j = if j = 6 then S 0 6 + 1 else S 0 j := fun j => by rw [← hS1, fd_up_at]
  have R1 : m_R S1 g1 := m_R_congr hS.R (by rw [s1 3 (by decide)]) (s1 4 (by decide)) (fun k _ _ => s1 k (by omega)) (o1 _ (by decide)) (fun j h1 h2 => o1 j (by clear hS hg hK o1; (simp only [ne_eq, i_lt, i_le, i_eq, i_add, i_sub, i_neg, i_mul, Int32.reduceToInt] at *; omega)))
  have G1 : m_GR g1 := m_GR_congr hg.R h64.2 (o1 _ (by decide)) ht1.1 (fun j h1 h2 => o1 j (by clear hS hg hK o1; (simp only [ne_eq, i_lt, i_le, i_eq, i_add, i_sub, i_neg, i_mul, Int32.reduceToInt] at *; omega)))
  have B1 : m_B S1 g1 := m_B_congr hS.B (s1 2 (by decide)) (fun j h1 h2 => o1 j (by clear hS hg hK o1; (simp only [ne_eq, i_lt, i_le, i_eq, i_add, i_sub, i_neg, i_mul, Int32.reduceToInt] at *; omega)))
  have GB1 : m_GB g1 := m_GB_congr hg.B (fun j h1 h2 => o1 j (by clear hS hg hK o1; (simp only [ne_eq, i_lt, i_le, i_eq, i_add, i_sub, i_neg, i_mul, Int32.reduceToInt] at *; omega)))
  have L1 : m_L S1 g1 := m_L_congr hS.L (s1 5 (by decide)) (s1 6 (by decide)) (s1 7 (by decide)) (o1 _ (by decide)) (fun j hj => o1 j (by clear hS hg hK o1; (simp only [ne_eq, i_lt, i_le, i_eq, i_add, i_sub, i_neg, i_mul, Int32.reduceToInt] at *; omega)))
  have Ph1 : m_Ph S1 g1 := ⟨R1, G1, B1, GB1, L1, by rw [s10, if_pos rfl, hS.c6, e63], by rw [s10, if_neg (by decide), hS.c10, o1 _ (by decide)], by rw [s1 3 (by decide), hS.d2, o1 _ (by decide)], ht1.2⟩
  have HD1 : ∀ y, m_hd g1 y ↔ m_hd g y := fun y => m_hd_lo h64.2 (o1 _ (by decide)) (fun j h1 h2 => o1 j (by clear hS hg hK o1; (simp only [ne_eq, i_lt, i_le, i_eq, i_add, i_sub, i_neg, i_mul, Int32.reduceToInt] at *; omega))) y
  have lk := m_looked (t := g1 63) B1 GB1
  have k06 : S1 0 6 = g1 63 := by rw [s10, if_pos rfl, hS.c6, e63]
  unfold zS_nextTick
  simp only [fd_lt]
  rw [hS1, k06, lk.1, Option.bind_some]
  have unf : ∀ (n : Nat) (x1 x2 : Int32), ¬ x1 ≤ x2 → zM_pass_16 fu (n + 1) (fd_sg S' g) x1 x2 = if fd_rem (g1 63) (g1 33) = 0 then ((zM_lookAtRecords fu (fd_sg S' g1)).bind fun S11 => ((zM_lookAtBest fu S11).bind fun S13 => zM_pass_16 fu n S13 x1 (x2 + 1))) else zM_pass_16 fu n (fd_sg S' g1) x1 (x2 + 1) := by
    intro n x1 x2 hx
    rw [zM_pass_16]
    simp only [fd_lt, sg_78, sg_up, hg1]
    rw [if_neg hx, zM_bd1, Option.bind_some, if_pos lk.2]
  have T1 : ∀ p : Int32, 0 ≤ p → p < 8 → ∀ c : Int32, 0 ≤ c → c < 3 → g1 (39 + 3 * p + c) = g (39 + 3 * p + c) := by
    intro p p0 p1 c c0 c1
    have := (b_3 p0 p1 c0 c1).2
    exact o1 _ (by clear hS hg hK o1 R1 G1 B1 GB1 L1 Ph1 lk unf HD1; (simp only [ne_eq, i_lt, i_le, i_eq, i_add, i_sub, i_neg, i_mul, Int32.reduceToInt] at *; omega))
  have be1 : ∀ p : Int32, 0 ≤ p → p < 8 → m_be g1 p = m_be g p ∧ m_bp g1 p = m_bp g p := by
    intro p p0 p1
    refine m_be_congr (fun q q0 q1 => ⟨?_, HD1 _⟩)
    have h8 := b_8 q0 q1 p0 p1
    exact o1 _ (by clear hS hg hK o1 R1 G1 B1 GB1 L1 Ph1 lk unf HD1; (simp only [ne_eq, i_lt, i_le, i_eq, i_add, i_sub, i_neg, i_mul, Int32.reduceToInt] at *; omega))
  have P1 : m_P g1 := fun x x0 x1 => by rw [o1 x (by clear hS hg hK o1 R1 G1 B1 GB1 L1 Ph1 lk unf HD1; (simp only [ne_eq, i_lt, i_le, i_eq, i_add, i_sub, i_neg, i_mul, Int32.reduceToInt] at *; omega))]; exact hg.P x x0 x1
  have Q1 : m_Q S1 g1 := fun x x0 x1 => by rw [s1 20 (by decide), hS.Q x x0 x1, o1 x (by clear hS hg hK o1 R1 G1 B1 GB1 L1 Ph1 lk unf HD1; (simp only [ne_eq, i_lt, i_le, i_eq, i_add, i_sub, i_neg, i_mul, Int32.reduceToInt] at *; omega))]
  by_cases cl : fd_rem (g1 63) (g1 33) = 0
  · rw [if_pos cl, if_neg (show ¬ (1 : Int32) = 0 by decide)]
    obtain ⟨S2, g2, c, a1, a2, a3, a4, a5, a6, a60, a7⟩ := m_lookLoop (S' := S') hfu hK fu S1 g1 0 (m_ms_fu (by decide) (Int32.le_trans R1.2.2.1.2 (by decide)) hfu) Ph1 (by decide) R1.2.2.1.1
    have hc6 : c ≤ 6 := by
      have := R1.2.2.1
      unfold m_ms at a5
      clear hS hg hK o1 R1 G1 B1 GB1 L1 Ph1 lk unf HD1 T1 be1 P1 Q1 a1 a2 a3 a4 a6 a7
      (simp only [ne_eq, i_lt, i_le, i_eq, i_add, i_sub, i_neg, i_mul, Int32.reduceToInt] at *; omega)
    have e64 : g2 64 = g1 64 := a4.2.2 _ (by decide)
    have h642 := a3.1.2.2.1
    obtain ⟨S3, g3, b1, b2, b3, b4, b5, b6⟩ := m_dropLoop (S' := S') hfu hK fu S2 g2 (g2 64 - 1) (by unfold m_md; clear hS hg hK o1 R1 G1 B1 GB1 L1 Ph1 lk unf HD1 T1 be1 P1 Q1 a1 a2 a3 a4 a6 a7; (simp only [ne_eq, i_lt, i_le, i_eq, i_add, i_sub, i_neg, i_mul, Int32.reduceToInt] at *; omega)) a3 (by clear hS hg hK o1 R1 G1 B1 GB1 L1 Ph1 lk unf HD1 T1 be1 P1 Q1 a1 a2 a3 a4 a6 a7; (simp only [ne_eq, i_lt, i_le, i_eq, i_add, i_sub, i_neg, i_mul, Int32.reduceToInt] at *; omega)) (by clear hS hg hK o1 R1 G1 B1 GB1 L1 Ph1 lk unf HD1 T1 be1 P1 Q1 a1 a2 a3 a4 a6 a7; (simp only [ne_eq, i_lt, i_le, i_eq, i_add, i_sub, i_neg, i_mul, Int32.reduceToInt] at *; omega))
    have ed : zS_dropSmallOnes fu S2 = some S3 := by
      unfold zS_dropSmallOnes
      simp only [fd_lt]
      rw [a3.1.2.1]
      exact b1
    have f3 : ∀ j : Int32, j < 64 → g3 j = g1 j := fun j hj => by
      rw [b5 j (Or.inl (Int32.lt_trans hj (by decide))) (by clear hS hg hK o1 R1 G1 B1 GB1 L1 Ph1 lk unf HD1 T1 be1 P1 Q1 a1 a2 a3 a4 a6 a7 b3 b5 b6; (simp only [ne_eq, i_lt, i_le, i_eq, i_add, i_sub, i_neg, i_mul, Int32.reduceToInt] at *; omega)) (by clear hS hg hK o1 R1 G1 B1 GB1 L1 Ph1 lk unf HD1 T1 be1 P1 Q1 a1 a2 a3 a4 a6 a7 b3 b5 b6; (simp only [ne_eq, i_lt, i_le, i_eq, i_add, i_sub, i_neg, i_mul, Int32.reduceToInt] at *; omega)), a4.2.2 j (Int32.lt_trans hj (by decide))]
    have f3c : ∀ j : Int32, 65 ≤ j → j < 68 → g3 j = g1 j := fun j h1 h2 => by
      rw [b5 j (Or.inl (Int32.lt_trans h2 (by decide))) (by clear hS hg hK o1 R1 G1 B1 GB1 L1 Ph1 lk unf HD1 T1 be1 P1 Q1 a1 a2 a3 a4 a6 a7 b3 b5 b6; (simp only [ne_eq, i_lt, i_le, i_eq, i_add, i_sub, i_neg, i_mul, Int32.reduceToInt] at *; omega)) (by clear hS hg hK o1 R1 G1 B1 GB1 L1 Ph1 lk unf HD1 T1 be1 P1 Q1 a1 a2 a3 a4 a6 a7 b3 b5 b6; (simp only [ne_eq, i_lt, i_le, i_eq, i_add, i_sub, i_neg, i_mul, Int32.reduceToInt] at *; omega)), a4.2.2 j (Int32.lt_trans h2 (by decide))]
    have s3 : ∀ k : Nat, 20 ≤ k → S3 k = S1 k := fun k hk => by rw [b4 k (by omega) (by omega), a4.1 k (Or.inr hk)]
    have s30 : ∀ j : Int32, j ≠ 10 → S3 0 j = S1 0 j := fun j hj => by rw [b4 0 (by decide) (by decide), a4.2.1 j hj]
    have P3 : m_P g3 := fun x x0 x1 => by rw [f3 x (Int32.lt_trans x1 (by decide))]; exact P1 x x0 x1
    have Q3 : m_Q S3 g3 := fun x x0 x1 => by rw [s3 20 (by omega), Q1 x x0 x1, f3 x (Int32.lt_trans x1 (by decide))]
    have T3 : m_T S3 g3 := by
      intro p p0 p1
      have hT := hS.T p p0 p1
      have key : ∀ c : Int32, 0 ≤ c → c < 3 → g3 (39 + 3 * p + c) = g (39 + 3 * p + c) := by
        intro c c0 c1
        have := (b_3 p0 p1 c0 c1).2
        rw [f3 _ (Int32.lt_trans this.2 (by decide)), T1 p p0 p1 c c0 c1]
      unfold m_T1 at hT ⊢
      rw [key 0 (by decide) (by decide), key 1 (by decide) (by decide), key 2 (by decide) (by decide), s3 21 (by omega), s3 22 (by omega), s1 21 (by decide), s1 22 (by decide)]
      exact hT
    obtain ⟨g4, l1, l2, l3⟩ := m_lookAtBest (S := S') hfu b3.1.2.2.1 b3.2.1
    have g4hi : ∀ j : Int32, 63 ≤ j → g4 j = g3 j := fun j hj => l2 j (Or.inr hj)
    have g4lo : ∀ j : Int32, j < 39 → g4 j = g3 j := fun j hj => l2 j (Or.inl hj)
    have hS310 : S3 0 10 = g1 69 + nI c := by rw [b3.2.2.2.2.2.2.1, b5 _ (by decide) (by decide) (by decide), a6]
    have hS110 : S1 0 10 = g1 69 := Ph1.2.2.2.2.2.2.1
    have fin : ∀ S4 : fd_S, (∀ k : Nat, k ≠ 21 → k ≠ 22 → S4 k = S3 k) → m_T S4 g4 → m_St S4 g4 ∧ m_Go g4 ∧ g4 63 = g 63 + 1 ∧ (∃ c : Nat, c ≤ 6 ∧ g4 70 = g 70 + nI c) ∧ ∀ k : Nat, 23 ≤ k → S4 k = S k := by
      intro S4 h4 hT4
      refine ⟨⟨?_, ?_, ?_, ?_, hT4, ?_, ?_, ?_, ?_, ?_, ?_⟩, ⟨?_, ?_, ?_, ?_, ?_⟩, ?_, ⟨c, hc6, ?_⟩, ?_⟩
      · exact m_R_congr b3.1 (by rw [h4 3 (by decide) (by decide)]) (h4 4 (by decide) (by decide)) (fun k _ _ => h4 k (by omega) (by omega)) (g4hi _ (by decide)) (fun j h1 _ => g4hi j (Int32.le_trans (by decide) h1))
      · exact m_B_congr b3.2.2.1 (h4 2 (by decide) (by decide)) (fun j h1 h2 => g4lo j h2)
      · exact m_L_congr b3.2.2.2.2.1 (h4 5 (by decide) (by decide)) (h4 6 (by decide) (by decide)) (h4 7 (by decide) (by decide)) (g4hi _ (by decide)) (fun j hj => g4hi j (Int32.le_trans (by decide) hj))
      · intro j j0 j1
        rw [h4 20 (by decide) (by decide), Q3 j j0 j1, g4lo j (Int32.lt_trans j1 (by decide))]
      · rw [h4 0 (by decide) (by decide), b3.2.2.2.2.2.1, g4hi _ (by decide)]
      · rw [h4 0 (by decide) (by decide), s30 _ (by decide), s10, if_neg (by decide), hS.c7, g4hi _ (by decide), f3c _ (by decide) (by decide), o1 _ (by decide)]
      · rw [h4 0 (by decide) (by decide), s30 _ (by decide), s10, if_neg (by decide), hS.c8, g4hi _ (by decide), f3c _ (by decide) (by decide), o1 _ (by decide)]
      · rw [h4 0 (by decide) (by decide), s30 _ (by decide), s10, if_neg (by decide), hS.c9, g4hi _ (by decide), f3c _ (by decide) (by decide), o1 _ (by decide)]
      · rw [h4 0 (by decide) (by decide), b3.2.2.2.2.2.2.1, g4hi _ (by decide)]
      · rw [h4 3 (by decide) (by decide), b3.2.2.2.2.2.2.2.1, g4hi _ (by decide)]
      · exact m_GR_congr b3.2.1 b3.1.2.2.1.2 (g4hi _ (by decide)) (by rw [g4hi _ (by decide)]; exact Int32.le_refl _) (fun j h1 _ => g4hi j (Int32.le_trans (by decide) h1))
      · exact m_GB_congr b3.2.2.2.1 (fun j h1 h2 => g4lo j h2)
      · intro j j0 j1
        rw [g4lo j (Int32.lt_trans j1 (by decide))]
        exact P3 j j0 j1
      · exact m_Ok_up b3.1.2.2.1.2 l2 l3
      · rw [g4hi _ (by decide), f3 _ (by decide)]
        exact ht1.2.1
      · rw [g4hi _ (by decide), f3 _ (by decide), e63]
      · rw [g4hi _ (by decide), b5 _ (by decide) (by decide) (by decide), a60, o1 _ (by decide)]
      · intro k hk
        rw [h4 k (by omega) (by omega), s3 k (by omega), s1 k (by omega)]
    have ref : ∀ (n : Nat) (x1 x2 : Int32), ¬ x1 ≤ x2 → zM_pass_16 fu (n + 1) (fd_sg S' g) x1 x2 = zM_pass_16 fu n (fd_sg S' g4) x1 (x2 + 1) := by
      intro n x1 x2 hx
      rw [unf n x1 x2 hx, if_pos cl]
      unfold zM_lookAtRecords
      rw [a2, b2, Option.bind_some, l1, Option.bind_some]
    rw [a1, ed, Option.bind_some]
    by_cases cc : c = 0
    · subst cc
      rw [if_pos (by rw [hS310, hS110, show nI 0 = 0 from rfl, Int32.add_zero])]
      refine ⟨S3, g4, rfl, ref, fin S3 (fun _ _ _ => rfl) (fun p p0 p1 => m_T1_same (T3 p p0 p1) (l3 p p0 p1) ?_ rfl rfl)⟩
      have hbe : m_be g3 p = m_be g1 p ∧ m_bp g3 p = m_bp g1 p := by
        refine m_be_congr (fun q q0 q1 => ⟨?_, by rw [b6 _, a7 rfl _]⟩)
        have h8 := b_8 q0 q1 p0 p1
        exact f3 _ (Int32.lt_trans h8.2.2 (by decide))
      have key : ∀ c : Int32, 0 ≤ c → c < 3 → g3 (39 + 3 * p + c) = g (39 + 3 * p + c) := by
        intro c c0 c1
        have := (b_3 p0 p1 c0 c1).2
        rw [f3 _ (Int32.lt_trans this.2 (by decide)), T1 p p0 p1 c c0 c1]
      rw [key 0 (by decide) (by decide), key 1 (by decide) (by decide), hbe.1, hbe.2, (be1 p p0 p1).1, (be1 p p0 p1).2]
      exact hg.O p p0 p1
    · rw [if_neg (show ¬ S3 0 10 = S1 0 10 by
        rw [hS310, hS110, i_eq, i_add, nI_toInt (by omega)]
        clear hS hg hK o1 R1 G1 B1 GB1 L1 Ph1 lk unf HD1 T1 be1 P1 Q1 a1 a2 a3 a4 a6 a7 b3 b5 b6 f3 f3c s3 s30 P3 Q3 T3 l2 l3 g4hi g4lo fin ref hS310 hS110 a60 ht ht0 ht1 h64 h642 e63 e64 cl s1 s10 b1 b2 b4 ed l1 a5 k06
        have := Int32.le_toInt (g1 69)
        have := Int32.toInt_lt (g1 69)
        omega)]
      obtain ⟨S4, q1, q2, q3⟩ := m_refreshAll hfu b3.2.1 P3 b3.1 Q3 fu S3 0 (m_ms_fu (by decide) (by decide) hfu) (by decide) (by decide) (fun _ _ _ => rfl) (fun p p0 p1 => absurd p1 (Int32.not_lt.mpr p0)) (fun _ _ _ => ⟨rfl, rfl⟩)
      exact ⟨S4, g4, q1, ref, fin S4 q2 (fun p p0 p1 => m_T1_up P3 p0 p1 (T3 p p0 p1) (l3 p p0 p1) (q3 p p0 p1).1 (q3 p p0 p1).2)⟩
  · rw [if_neg cl, if_pos rfl]
    refine ⟨S1, g1, rfl, fun n x1 x2 hx => by rw [unf n x1 x2 hx, if_neg cl], ⟨R1, B1, L1, Q1, ?_, k06, ?_, ?_, ?_, ?_, ?_⟩, ⟨G1, GB1, P1, ?_, ht1.2.1⟩, e63, ⟨0, by omega, by rw [o1 _ (by decide), show nI 0 = 0 from rfl, Int32.add_zero]⟩, fun k hk => s1 k (by omega)⟩
    · intro p p0 p1
      have hT := hS.T p p0 p1
      unfold m_T1 at hT ⊢
      rw [T1 p p0 p1 0 (by decide) (by decide), T1 p p0 p1 1 (by decide) (by decide), T1 p p0 p1 2 (by decide) (by decide), s1 21 (by decide), s1 22 (by decide)]
      exact hT
    · rw [s10, if_neg (by decide), hS.c7, o1 _ (by decide)]
    · rw [s10, if_neg (by decide), hS.c8, o1 _ (by decide)]
    · rw [s10, if_neg (by decide), hS.c9, o1 _ (by decide)]
    · rw [s10, if_neg (by decide), hS.c10, o1 _ (by decide)]
    · rw [s1 3 (by decide), hS.d2, o1 _ (by decide)]
    · intro p p0 p1
      rw [T1 p p0 p1 0 (by decide) (by decide), T1 p p0 p1 1 (by decide) (by decide), (be1 p p0 p1).1, (be1 p p0 p1).2]
      exact hg.O p p0 p1
