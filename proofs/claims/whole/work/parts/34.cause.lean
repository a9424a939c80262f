/-! ===== causes ===== -/
theorem m_hasCause_loop {fu : Nat} {S : fd_S} {g : Int32 → Int32} {i x : Int32} (hR : m_R S g) (hG : m_GR g) (h0 : 0 ≤ i) (h1 : i < g 64) :
    ∀ (n : Nat) (k : Int32), m_ms 4 k < n → 0 ≤ k → k ≤ g (zM_at i 5) → (∀ j, 0 ≤ j → j < k → ¬ g (zM_at i (6 + j)) = x) →
      ∃ b, zR_hasCause_2 fu n S (m_rw S i) x k = some b ∧ ((b = 0 ∧ ∀ j, 0 ≤ j → j < g (zM_at i 5) → ¬ g (zM_at i (6 + j)) = x) ∨ (b = 1 ∧ ∃ j, 0 ≤ j ∧ j < g (zM_at i 5) ∧ g (zM_at i (6 + j)) = x)) := by
  have h6 : i < 6 := by have := hR.2.2.1; grind
  have hk := hR.1.rk h0 h6
  have hv := hR.2.2.2.1 i h0 h1
  have hg := hG.1 i h0 h1
  unfold m_cV at hv
  intro n
  induction n with
  | zero => intro k h; omega
  | succ n ih =>
    intro k hn k0 k1 hno
    rw [zR_hasCause_2, if_pos hk, hv.2.2.2.2.2]
    by_cases c1 : g (zM_at i 5) ≤ k
    · rw [if_pos c1]
      have : k = g (zM_at i 5) := by grind
      exact ⟨0, rfl, Or.inl ⟨rfl, fun j j0 j1 => hno j j0 (by grind)⟩⟩
    · rw [if_neg c1, if_pos ⟨k0, by grind⟩]
      have hc := hR.2.2.2.2 i k h0 h1 k0 (by grind) (by grind)
      unfold m_cK at hc
      rw [hc]
      by_cases c2 : g (zM_at i (6 + k)) = x
      · rw [if_pos c2]
        exact ⟨1, rfl, Or.inr ⟨rfl, k, k0, by grind, c2⟩⟩
      · rw [if_neg c2]
        have hm := m_ms_up (N := 4) (x := k) (by grind)
        refine ih (k + 1) (by omega) (by grind) (by grind) (fun j j0 j1 => ?_)
        by_cases hj : j = k
        · rw [hj]; exact c2
        · exact hno j j0 (by grind)
def m_hc (g : Int32 → Int32) (i x b : Int32) : Prop := (b = 0 ∧ ∀ j, 0 ≤ j → j < g (zM_at i 5) → ¬ g (zM_at i (6 + j)) = x) ∨ (b = 1 ∧ ∃ j, 0 ≤ j ∧ j < g (zM_at i 5) ∧ g (zM_at i (6 + j)) = x)
theorem m_hc_uniq {g : Int32 → Int32} {i x b b' : Int32} (h : m_hc g i x b) (h' : m_hc g i x b') : b = b' := by
  rcases h with ⟨e, h⟩ | ⟨e, j, j0, j1, h⟩ <;> rcases h' with ⟨e', h'⟩ | ⟨e', j', j0', j1', h'⟩
  · rw [e, e']
  · exact absurd h' (h j' j0' j1')
  · exact absurd h (h' j j0 j1)
  · rw [e, e']
theorem m_isCounted_loop {fu : Nat} {S : fd_S} {g : Int32 → Int32} {i x : Int32} (hcc : 0 ≤ g (zM_at i 5) ∧ g (zM_at i 5) ≤ 4) (h0 : 0 ≤ i) (h6 : i < 6) :
    ∀ (n : Nat) (b k : Int32), m_ms 4 k < n → 0 ≤ k → k ≤ g (zM_at i 5) → ((b = 0 ∧ ∀ j, 0 ≤ j → j < k → ¬ g (zM_at i (6 + j)) = x) ∨ (b = 1 ∧ ∃ j, 0 ≤ j ∧ j < g (zM_at i 5) ∧ g (zM_at i (6 + j)) = x)) →
      ∃ b', zM_isCounted_5 fu n (fd_sg S g) i x b k = some b' ∧ m_hc g i x b' := by
  intro n
  induction n with
  | zero => intro b k h; omega
  | succ n ih =>
    intro b k hn k0 k1 hb
    rw [zM_isCounted_5]
    simp only [sg_78, fd_lt]
    rw [if_pos (m_at_in h0 h6 (by decide) (by decide))]
    by_cases c1 : g (zM_at i 5) ≤ k
    · rw [if_pos c1]
      have hk : k = g (zM_at i 5) := by grind
      rw [if_pos (by rcases hb with h | h; exact Or.inl h.1; exact Or.inr h.1)]
      refine ⟨b, rfl, ?_⟩
      rcases hb with ⟨e, h⟩ | h
      · exact Or.inl ⟨e, fun j j0 j1 => h j j0 (by grind)⟩
      · exact Or.inr h
    · rw [if_neg c1]
      have hm := m_ms_up (N := 4) (x := k) (by grind)
      rcases hb with ⟨e, h⟩ | ⟨e, h⟩
      · rw [if_pos e, if_pos (m_at_in h0 h6 (by grind) (by grind))]
        by_cases c2 : g (zM_at i (6 + k)) = x
        · rw [if_pos c2]
          exact ih 1 (k + 1) (by omega) (by grind) (by grind) (Or.inr ⟨rfl, k, k0, by grind, c2⟩)
        · rw [if_neg c2]
          refine ih 0 (k + 1) (by omega) (by grind) (by grind) (Or.inl ⟨rfl, fun j j0 j1 => ?_⟩)
          by_cases hj : j = k
          · rw [hj]; exact c2
          · exact h j j0 (by grind)
      · rw [if_neg (by rw [e]; decide)]
        exact ih 1 (k + 1) (by omega) (by grind) (by grind) (Or.inr ⟨rfl, h⟩)
theorem m_hasCause {fu : Nat} {S S' : fd_S} {g : Int32 → Int32} {i x : Int32} (hfu : 10000 ≤ fu) (hR : m_R S g) (hG : m_GR g) (h0 : 0 ≤ i) (h1 : i < g 64) :
    ∃ b, zR_hasCause fu S (m_rw S i) x = some b ∧ zM_isCounted fu (fd_sg S' g) i x = some b ∧ (b = 0 ∨ b = 1) := by
  have h6 : i < 6 := by have := hR.2.2.1; grind
  have hg := hG.1 i h0 h1
  obtain ⟨b, b1, b2⟩ := m_hasCause_loop (fu := fu) (x := x) hR hG h0 h1 fu 0 (m_ms_fu (by decide) (by decide) hfu) (by decide) hg.2.2.2.2.1 (fun j j0 j1 => by grind)
  obtain ⟨b', b1', b2'⟩ := m_isCounted_loop (fu := fu) (S := S') (x := x) hg.2.2.2.2 h0 h6 fu 0 0 (m_ms_fu (by decide) (by decide) hfu) (by decide) hg.2.2.2.2.1 (Or.inl ⟨rfl, fun j j0 j1 => by grind⟩)
  have := m_hc_uniq b2 b2'
  subst this
  exact ⟨b, b1, b1', by rcases b2 with h | h; exact Or.inl h.1; exact Or.inr h.1⟩
/-! how the component's views move -/
theorem m_rw_up {S : fd_S} {k : Nat} {j v : Int32} (h : k ≠ 4) (i : Int32) : m_rw (fd_up S k j v) i = m_rw S i := by
  unfold m_rw
  rw [fd_up_ne (Ne.symm h)]
theorem m_rows_up {S : fd_S} {k : Nat} {j v : Int32} (h : k ≠ 4) (hr : m_rows S) : m_rows (fd_up S k j v) := by
  unfold m_rows
  rw [fd_up_ne (Ne.symm h)]
  exact hr
theorem m_rw_cp {S : fd_S} {k k' : Nat} {a b c : Int32} (h : k' ≠ 4) (i : Int32) : m_rw (fd_cp S k k' a b c) i = m_rw S i := by
  unfold m_rw fd_cp
  rw [if_neg (Ne.symm h)]
theorem m_rows_cp {S : fd_S} {k k' : Nat} {a b c : Int32} (h : k' ≠ 4) (hr : m_rows S) : m_rows (fd_cp S k k' a b c) := by
  unfold m_rows fd_cp
  simp only [if_neg (Ne.symm h)]
  exact hr
/-- a field of the i-th record is written on both sides -/
theorem m_R_fld {S : fd_S} {g : Int32 → Int32} {i v : Int32} (hR : m_R S g) (h0 : 0 ≤ i) (h1 : i < g 64) (f : Int32) (hf : 0 ≤ f ∧ f ≤ 4) : m_R (fd_up S (m_rw S i) f v) (m_gu g (zM_at i f) v) := by
  have h6 : i < 6 := by have := hR.2.2.1; grind
  obtain ⟨hrow, h31, h64, hV, hC⟩ := hR
  have hrg := hrow.rg h0 h6
  have hat := m_at_rg h0 h6 hf.1 (show f < 10 by grind)
  have e64 : m_gu g (zM_at i f) v 64 = g 64 := by unfold m_gu; grind
  have hne : m_rw S i ≠ 4 := by omega
  refine ⟨m_rows_up hne hrow, ?_, ?_, ?_, ?_⟩
  · rw [e64, ← h31]
    unfold fd_up
    rw [if_neg (by omega)]
  · rw [e64]; exact h64
  · intro j j0 j1
    rw [e64] at j1
    have j6 : j < 6 := by grind
    have hv := hV j j0 j1
    have key : ∀ q q' : Int32, 0 ≤ q → q < 10 → (j = i → q = f → q' = f) → (j = i → q' = f → q = f) → m_cV S j q' = g (zM_at j q) → m_cV (fd_up S (m_rw S i) f v) j q' = m_gu g (zM_at i f) v (zM_at j q) := by
      intro q q' q0 q1 e1 e2 hq
      unfold m_cV at hq ⊢
      rw [m_rw_up hne]
      unfold fd_up m_gu
      by_cases hj : m_rw S j = m_rw S i
      · have := hrow.inj j0 j6 h0 h6 hj
        subst this
        rw [if_pos rfl]
        by_cases hqf : q' = f
        · have := e2 rfl hqf
          rw [if_pos hqf, if_pos (by rw [this])]
        · rw [if_neg hqf, if_neg (fun z => hqf (e1 rfl (m_at_inj j0 j6 q0 q1 h0 h6 hf.1 (by grind) z).2)), hq]
      · rw [if_neg hj, if_neg (fun z => hj (by rw [(m_at_inj j0 j6 q0 q1 h0 h6 hf.1 (by grind) z).1])), hq]
    exact ⟨key 0 0 (by decide) (by decide) (fun _ h => h) (fun _ h => h) hv.1, key 1 1 (by decide) (by decide) (fun _ h => h) (fun _ h => h) hv.2.1, key 2 2 (by decide) (by decide) (fun _ h => h) (fun _ h => h) hv.2.2.1, key 3 3 (by decide) (by decide) (fun _ h => h) (fun _ h => h) hv.2.2.2.1, key 4 4 (by decide) (by decide) (fun _ h => h) (fun _ h => h) hv.2.2.2.2.1, key 5 6 (by decide) (by decide) (fun _ h => by grind) (fun _ h => by grind) hv.2.2.2.2.2⟩
  · intro j q j0 j1 q0 hq4 q1
    rw [e64] at j1
    have j6 : j < 6 := by grind
    have e5 : m_gu g (zM_at i f) v (zM_at j 5) = g (zM_at j 5) := by
      unfold m_gu
      rw [if_neg (fun z => by have := (m_at_inj j0 j6 (by decide) (by decide) h0 h6 hf.1 (by grind) z).2; grind)]
    rw [e5] at q1
    have hc := hC j q j0 j1 q0 hq4 q1
    have hrj := hrow.rg j0 j6
    unfold m_cK at hc ⊢
    rw [m_rw_up hne, fd_up_ne (by omega), hc]
    unfold m_gu
    rw [if_neg (fun z => by have := (m_at_inj j0 j6 (show (0:Int32) ≤ 6 + q by grind) (by grind) h0 h6 hf.1 (by grind) z).2; grind)]
/-- the records' laws stay when a field takes a fitting number -/
theorem m_GR_fld {g : Int32 → Int32} {i f v : Int32} (h64 : 0 ≤ g 64 ∧ g 64 ≤ 6) (hG : m_GR g) (h0 : 0 ≤ i) (h1 : i < g 64) (hf : 0 ≤ f ∧ f < 10) (hfr : f ≠ 0) (hv : (f = 1 → 0 ≤ v ∧ v ≤ 20000) ∧ (f = 2 → 0 ≤ v ∧ v ≤ g 63) ∧ (f = 3 → v = 0 ∨ v = 1) ∧ (f = 5 → 0 ≤ v ∧ v ≤ 4)) : m_GR (m_gu g (zM_at i f) v) := by
  have h6 : i < 6 := by grind
  have hat := m_at_rg h0 h6 hf.1 hf.2
  have e64 : m_gu g (zM_at i f) v 64 = g 64 := by unfold m_gu; grind
  have e63 : m_gu g (zM_at i f) v 63 = g 63 := by unfold m_gu; grind
  have key : ∀ j q : Int32, 0 ≤ j → j < g 64 → 0 ≤ q → q < 10 → m_gu g (zM_at i f) v (zM_at j q) = if j = i ∧ q = f then v else g (zM_at j q) := by
    intro j q j0 j1 q0 q1
    unfold m_gu
    by_cases hj : zM_at j q = zM_at i f
    · have := m_at_inj j0 (by grind) q0 q1 h0 h6 hf.1 hf.2 hj
      rw [if_pos hj, if_pos this]
    · rw [if_neg hj, if_neg (by rintro ⟨a, b⟩; exact hj (by rw [a, b]))]
  refine ⟨fun j j0 j1 => ?_, fun j k j0 j1 k0 k1 => ?_⟩
  · rw [e64] at j1
    have hj := hG.1 j j0 j1
    rw [key j 0 j0 j1 (by decide) (by decide), key j 1 j0 j1 (by decide) (by decide), key j 2 j0 j1 (by decide) (by decide), key j 3 j0 j1 (by decide) (by decide), key j 5 j0 j1 (by decide) (by decide), e63]
    obtain ⟨v1, v2, v3, v5⟩ := hv
    refine ⟨?_, ?_, ?_, ?_, ?_⟩
    · rw [if_neg (by grind)]; exact hj.1
    · split
      · next h => exact v1 h.2.symm
      · exact hj.2.1
    · split
      · next h => exact v2 h.2.symm
      · exact hj.2.2.1
    · split
      · next h => exact v3 h.2.symm
      · exact hj.2.2.2.1
    · split
      · next h => exact v5 h.2.symm
      · exact hj.2.2.2.2
  · rw [e64] at j1 k1
    rw [key j 0 j0 j1 (by decide) (by decide), key k 0 k0 k1 (by decide) (by decide), if_neg (by grind), if_neg (by grind)]
    exact hG.2 j k j0 j1 k0 k1
