/-! ===== writeEvent ===== -/
def m_FL (S S1 : fd_S) : Prop := ∀ k : Nat, k ≠ 5 → k ≠ 6 → k ≠ 7 → S1 k = S k
theorem m_R_FL {S S1 : fd_S} {g : Int32 → Int32} (h : m_R S g) (hF : m_FL S S1) : m_R S1 g := m_R_congr h (by rw [hF 3 (by decide) (by decide) (by decide)]) (hF 4 (by decide) (by decide) (by decide)) (fun k _ _ => hF k (by omega) (by omega) (by omega)) rfl (fun _ _ _ => rfl)
theorem m_w83 {fu : Nat} {S : fd_S} {g g2 : Int32 → Int32} {x w e : Int32} (hfu : 10000 ≤ fu) (hR : m_R S g2) (hG : m_GR g2) (hL : m_L S g) (hl : 0 ≤ g 131 ∧ g 131 ≤ 5) (hw : 0 ≤ w ∧ w ≤ 2000) (e70 : g2 70 = g 70)
    (hE : (∃ r, 0 ≤ r ∧ r < g2 64 ∧ g2 (zM_at r 0) = x ∧ ((e = 3 ∧ (∀ j : Int32, 131 ≤ j → g2 j = m_gW g w (g2 (zM_at r 1)) j)) ∨ (e = 4 ∧ (∀ j : Int32, 131 ≤ j → g2 j = m_wr (m_gW g w (g2 (zM_at r 1))) 33 j)))) ∨ (e ≠ 3 ∧ e ≠ 4 ∧ ∀ j : Int32, 131 ≤ j → g2 j = g j)) :
    ∃ S1, zS_writeEvent_83 fu S x w e = some S1 ∧ m_L S1 g2 ∧ m_FL S S1 := by
  unfold zS_writeEvent_83
  rcases hE with ⟨r, r0, r1, hrx, hE⟩ | ⟨n3, n4, hE⟩
  · have h64 := hR.2.2.1
    have r6 : r < 6 := by clear hR hG hE hL; (simp only [ne_eq, i_lt, i_le, i_eq, i_add, i_sub, i_neg, i_mul, Int32.reduceToInt] at *; omega)
    have hgr := hG.1 r r0 r1
    rw [zQ_find_eq (r := r) hfu hR hG (Or.inr ⟨r0, r1, hrx⟩), Option.bind_some, show m_fd S r = some (m_rw S r) by unfold m_fd; rw [if_neg (by clear hR hG hE hL; (simp only [ne_eq, i_lt, i_le, i_eq, i_add, i_sub, i_neg, i_mul, Int32.reduceToInt] at *; omega))]]
    unfold fd_on zS_writeEvent_108
    dsimp only
    obtain ⟨S1, S2, S3, S4, s1, s2, s3, s4, s5, s6⟩ := m_cW (F := g2 (zM_at r 1)) hfu hL hl hw hgr.2.1
    have hrg := hR.1.rg r0 r6
    have hv := (hR.2.2.2.1 r r0 r1).2.1
    unfold m_cV at hv
    have ek : S3 (m_rw S r) 1 = g2 (zM_at r 1) := by rw [(s6 _ (by omega) (by omega)).1, hv]
    have a4 := (m_gW_ok hl hw hgr.2.1).2.2.2.1
    have chain : ((zL_put S 43).bind fun S16 => ((zL_putNumber fu S16 w).bind fun S18 => ((zL_put S18 61).bind fun S20 => (if fd_rk (m_rw S r) then ((zL_putNumber fu S20 (S20 (m_rw S r) 1)).bind fun S23 => (if e = 4 then ((zL_put S23 33).bind fun S26 => (some S26)) else (some S23))) else none)))) = (if e = 4 then ((zL_put S4 33).bind fun S26 => (some S26)) else (some S4)) := by
      rw [s1, Option.bind_some, s2, Option.bind_some, s3, Option.bind_some, if_pos (hR.1.rk r0 r6), ek, s4, Option.bind_some]
    rcases hE with ⟨c1, c2⟩ | ⟨c1, c2⟩
    · rw [if_pos c1, chain, if_neg (show ¬ e = 4 by rw [c1]; decide)]
      refine ⟨S4, rfl, m_L_congr s5 rfl rfl rfl (by rw [e70, (m_gW_lo hl hw hgr.2.1 (by decide)).1]) c2, fun k _ h6 h7 => (s6 k h6 h7).2⟩
    · rw [if_neg (show ¬ e = 3 by rw [c1]; decide), if_pos c1, chain, if_pos c1]
      obtain ⟨S5, t1, t2, t3⟩ := m_put (c := 33) s5 (by clear hR hG hL c2 s5; (simp only [ne_eq, i_lt, i_le, i_eq, i_add, i_sub, i_neg, i_mul, Int32.reduceToInt] at *; omega))
      rw [t1, Option.bind_some]
      refine ⟨S5, rfl, m_L_congr t2 rfl rfl rfl (by rw [e70, m_wr_lo ⟨a4.1, Int32.le_trans a4.2 (by decide)⟩ (by decide), (m_gW_lo hl hw hgr.2.1 (by decide)).1]) c2, fun k _ h6 h7 => by rw [t3 k h6 h7, (s6 k h6 h7).2]⟩
  · obtain ⟨r, er, hix⟩ := zM_recordOf_eq (S := S) (g := g2) hfu hR.2.2.1 x
    rw [zQ_find_eq hfu hR hG hix, Option.bind_some]
    refine ⟨S, ?_, m_L_congr hL rfl rfl rfl e70 hE, fun _ _ _ _ => rfl⟩
    cases m_fd S r with
    | none =>
      unfold fd_on
      dsimp only
      rw [if_neg n4]
    | some k =>
      unfold fd_on
      dsimp only
      rw [if_neg n3, if_neg n4, if_neg n4]
theorem m_wTail {fu : Nat} {S : fd_S} {g g2 : Int32 → Int32} {x w e : Int32} (hfu : 10000 ≤ fu) (hR : m_R S g2) (hG : m_GR g2) (hL : m_L S g) (hl : 0 ≤ g 131 ∧ g 131 ≤ 5) (hw : 0 ≤ w ∧ w ≤ 2000) (e70 : g2 70 = g 70) (hE : m_Ev g g2 x w e) :
    ∃ S1, (if e = 1 then ((zL_put S 126).bind fun S34 => (if e = 2 then ((zL_put S34 63).bind fun S37 => (zS_writeEvent_83 fu S37 x w e)) else (zS_writeEvent_83 fu S34 x w e))) else (if e = 2 then ((zL_put S 63).bind fun S32 => (zS_writeEvent_83 fu S32 x w e)) else (zS_writeEvent_83 fu S x w e))) = some S1 ∧ m_L S1 g2 ∧ m_FL S S1 := by
  have l20 : g 131 < 20 := by clear hR hG hL hE; (simp only [ne_eq, i_lt, i_le, i_eq, i_add, i_sub, i_neg, i_mul, Int32.reduceToInt] at *; omega)
  have sign : ∀ {c : Int32}, (∀ j : Int32, 131 ≤ j → g2 j = m_wr g c j) → e ≠ 3 → e ≠ 4 → ∃ S1, ((zL_put S c).bind fun S' => zS_writeEvent_83 fu S' x w e) = some S1 ∧ m_L S1 g2 ∧ m_FL S S1 := by
    intro c hc n3 n4
    obtain ⟨S2, t1, t2, t3⟩ := m_put (c := c) hL l20
    have t3' : m_FL S S2 := fun k _ h6 h7 => t3 k h6 h7
    have eL : m_L S2 g2 := m_L_congr t2 rfl rfl rfl (by rw [e70, m_wr_lo ⟨hl.1, Int32.le_trans hl.2 (by decide)⟩ (by decide)]) hc
    obtain ⟨r, er, hix⟩ := zM_recordOf_eq (S := S) (g := g2) hfu hR.2.2.1 x
    rw [t1, Option.bind_some]
    refine ⟨S2, ?_, eL, t3'⟩
    unfold zS_writeEvent_83
    rw [zQ_find_eq hfu (m_R_FL hR t3') hG hix, Option.bind_some]
    cases m_fd S2 r with
    | none =>
      unfold fd_on
      dsimp only
      rw [if_neg n4]
    | some k =>
      unfold fd_on
      dsimp only
      rw [if_neg n3, if_neg n4, if_neg n4]
  rcases hE with ⟨c1, c2, -⟩ | ⟨c1, c2, -⟩ | ⟨c1, c2, -⟩ | ⟨r, r0, r1, c0, ⟨c1, c2, -⟩ | ⟨c1, c2, -⟩⟩
  · rw [if_neg (show ¬ e = 1 by rw [c1]; decide), if_neg (show ¬ e = 2 by rw [c1]; decide)]
    exact m_w83 hfu hR hG hL hl hw e70 (Or.inr ⟨by rw [c1]; decide, by rw [c1]; decide, c2⟩)
  · rw [if_pos c1]
    simp only [if_neg (show ¬ e = 2 by rw [c1]; decide)]
    exact sign c2 (by rw [c1]; decide) (by rw [c1]; decide)
  · rw [if_neg (show ¬ e = 1 by rw [c1]; decide), if_pos c1]
    exact sign c2 (by rw [c1]; decide) (by rw [c1]; decide)
  · rw [if_neg (show ¬ e = 1 by rw [c1]; decide), if_neg (show ¬ e = 2 by rw [c1]; decide)]
    exact m_w83 hfu hR hG hL hl hw e70 (Or.inl ⟨r, r0, r1, c0, Or.inl ⟨c1, c2⟩⟩)
  · rw [if_neg (show ¬ e = 1 by rw [c1]; decide), if_neg (show ¬ e = 2 by rw [c1]; decide)]
    exact m_w83 hfu hR hG hL hl hw e70 (Or.inl ⟨r, r0, r1, c0, Or.inr ⟨c1, c2⟩⟩)
/-- the line's beginning, as the reference has it -/
def m_gc (g : Int32 → Int32) (x path : Int32) : Int32 → Int32 := if path = -6 then m_bl g 87 x else m_wr (m_wr (m_bl g 65 x) 58) (48 + path)
theorem m_gc_ok {g : Int32 → Int32} {x path : Int32} : (0 ≤ m_gc g x path 131 ∧ m_gc g x path 131 ≤ 5) ∧ ∀ j : Int32, j < 131 → m_gc g x path j = if j = 70 then g 70 + 1 else g j := by
  unfold m_gc
  split
  · exact ⟨by rw [m_bl_131]; decide, fun j hj => m_bl_lo hj⟩
  · refine ⟨by rw [m_wr_131, m_wr_131, m_bl_131]; decide, fun j hj => ?_⟩
    rw [m_wr_lo (by rw [m_wr_131, m_bl_131]; decide) hj, m_wr_lo (by rw [m_bl_131]; decide) hj, m_bl_lo hj]
theorem m_writeEvent {fu : Nat} {S : fd_S} {g g2 : Int32 → Int32} {x w e path : Int32} (hfu : 10000 ≤ fu) (hR : m_R S g2) (hG : m_GR g2) (hL : m_L S g) (hx : 0 ≤ x ∧ x < 32) (hp : path = -6 ∨ (0 ≤ path ∧ path ≤ 9)) (hS : S 20 x = path) (hw : 0 ≤ w ∧ w ≤ 2000) (e70 : g2 70 = m_gc g x path 70) (hE : m_Ev (m_gc g x path) g2 x w e) :
    ∃ S1, zS_writeEvent fu S x w e = some S1 ∧ m_L S1 g2 ∧ m_FL S S1 := by
  unfold zS_writeEvent
  simp only [fd_lt]
  rw [if_pos hx, hS]
  unfold zS_writeEvent_26
  have hl := (m_gc_ok (g := g) (x := x) (path := path)).1
  by_cases c : path = -6
  · have eg : m_gc g x path = m_bl g 87 x := by unfold m_gc; rw [if_pos c]
    rw [eg] at hl hE e70
    obtain ⟨S1, s1, s2, s3⟩ := m_begin (c := 87) hfu hL hx
    have s3' : m_FL S S1 := s3
    rw [if_pos c, s1, Option.bind_some, if_pos c]
    obtain ⟨S2, t1, t2, t3⟩ := m_wTail hfu (m_R_FL hR s3') hG s2 hl hw e70 hE
    exact ⟨S2, t1, t2, fun k h5 h6 h7 => by rw [t3 k h5 h6 h7, s3 k h5 h6 h7]⟩
  · have eg : m_gc g x path = m_wr (m_wr (m_bl g 65 x) 58) (48 + path) := by unfold m_gc; rw [if_neg c]
    rw [eg] at hl hE e70
    have hp' : 0 ≤ path ∧ path < 10 := by
      rcases hp with h | h
      · exact absurd h c
      · exact ⟨h.1, Int32.lt_of_le_of_lt h.2 (by decide)⟩
    obtain ⟨S1, s1, s2, s3⟩ := m_begin (c := 65) hfu hL hx
    obtain ⟨S2, t1, t2, t3⟩ := m_put (c := 58) s2 (by rw [m_bl_131]; decide)
    obtain ⟨S3, u1, u2, u3⟩ := m_num1 (x := path) hfu hp'.1 hp'.2 t2 (by rw [m_wr_131, m_bl_131]; decide)
    have s3' : m_FL S S3 := fun k h5 h6 h7 => by rw [u3 k h6 h7, t3 k h6 h7, s3 k h5 h6 h7]
    rw [if_neg c, s1, Option.bind_some, if_neg c, t1, Option.bind_some, u1, Option.bind_some]
    obtain ⟨S4, v1, v2, v3⟩ := m_wTail hfu (m_R_FL hR s3') hG u2 hl hw e70 hE
    exact ⟨S4, v1, v2, fun k h5 h6 h7 => by rw [v3 k h5 h6 h7, s3' k h5 h6 h7]⟩
