/-! ===== a record takes other contents ===== -/
def m_Fc (S S1 : fd_S) : Prop := ∀ k : Nat, (k < 3 ∨ (5 ≤ k ∧ k < 8) ∨ 20 ≤ k) → S1 k = S k
def m_Fg (g g1 : Int32 → Int32) : Prop := ∀ j : Int32, (j < 64 ∨ (65 ≤ j ∧ j < 68) ∨ (69 ≤ j ∧ j < 71) ∨ 131 ≤ j) → g1 j = g j
theorem m_R_rep {S S1 : fd_S} {g g1 : Int32 → Int32} {i : Int32} (hR : m_R S g) (h0 : 0 ≤ i) (h1 : i < g 64) (e4 : S1 4 = S 4) (e3 : S1 3 1 = S 3 1) (e64 : g1 64 = g 64)
    (hg : ∀ j f : Int32, 0 ≤ j → j < g 64 → j ≠ i → 0 ≤ f → f < 10 → g1 (zM_at j f) = g (zM_at j f))
    (hS : ∀ k : Nat, 8 ≤ k → k < 20 → k ≠ m_rw S i → k ≠ m_rw S i + 6 → S1 k = S k)
    (hi : S1 (m_rw S i) 0 = g1 (zM_at i 0) ∧ S1 (m_rw S i) 1 = g1 (zM_at i 1) ∧ S1 (m_rw S i) 2 = g1 (zM_at i 2) ∧ S1 (m_rw S i) 3 = g1 (zM_at i 3) ∧ S1 (m_rw S i) 4 = g1 (zM_at i 4) ∧ S1 (m_rw S i) 6 = g1 (zM_at i 5))
    (hc : ∀ q : Int32, 0 ≤ q → q < 4 → q < g1 (zM_at i 5) → S1 (m_rw S i + 6) q = g1 (zM_at i (6 + q))) : m_R S1 g1 := by
  obtain ⟨hrow, h31, h64, hV, hC⟩ := hR
  have h6 : i < 6 := by (simp only [ne_eq, i_lt, i_le, i_eq, i_add, i_sub, i_neg, i_mul, Int32.reduceToInt] at *; omega)
  have erw : ∀ j, m_rw S1 j = m_rw S j := fun j => by unfold m_rw; rw [e4]
  have hrow1 : m_rows S1 := by unfold m_rows; rw [e4]; exact hrow
  have hri := hrow.rg h0 h6
  refine ⟨hrow1, by rw [e3, e64, h31], by rw [e64]; exact h64, ?_, ?_⟩
  · intro j j0 j1
    rw [e64] at j1
    unfold m_cV
    rw [erw]
    by_cases hj : j = i
    · rw [hj]; exact hi
    · have j6 : j < 6 := by (simp only [ne_eq, i_lt, i_le, i_eq, i_add, i_sub, i_neg, i_mul, Int32.reduceToInt] at *; omega)
      have hrj := hrow.rg j0 j6
      have hne : m_rw S j ≠ m_rw S i := fun z => hj (hrow.inj j0 j6 h0 h6 z)
      have hv := hV j j0 j1
      unfold m_cV at hv
      rw [hS _ (by omega) (by omega) hne (by omega), hg j 0 j0 j1 hj (by decide) (by decide), hg j 1 j0 j1 hj (by decide) (by decide), hg j 2 j0 j1 hj (by decide) (by decide), hg j 3 j0 j1 hj (by decide) (by decide), hg j 4 j0 j1 hj (by decide) (by decide), hg j 5 j0 j1 hj (by decide) (by decide)]
      exact hv
  · intro j q j0 j1 q0 q4 q1
    rw [e64] at j1
    unfold m_cK
    rw [erw]
    by_cases hj : j = i
    · subst hj; exact hc q q0 q4 q1
    · have j6 : j < 6 := by (simp only [ne_eq, i_lt, i_le, i_eq, i_add, i_sub, i_neg, i_mul, Int32.reduceToInt] at *; omega)
      have hrj := hrow.rg j0 j6
      have hne : m_rw S j ≠ m_rw S i := fun z => hj (hrow.inj j0 j6 h0 h6 z)
      rw [hg j 5 j0 j1 hj (by decide) (by decide)] at q1
      have hcq := hC j q j0 j1 q0 q4 q1
      unfold m_cK at hcq
      rw [hS _ (by omega) (by omega) (by omega) (by omega), hg j _ j0 j1 hj (by (simp only [ne_eq, i_lt, i_le, i_eq, i_add, i_sub, i_neg, i_mul, Int32.reduceToInt] at *; omega)) (by (simp only [ne_eq, i_lt, i_le, i_eq, i_add, i_sub, i_neg, i_mul, Int32.reduceToInt] at *; omega))]
      exact hcq
theorem m_GR_rep {g g1 : Int32 → Int32} (hG : m_GR g) (e64 : g1 64 = g 64) (e63 : g1 63 = g 63) (hf : ∀ j f : Int32, 0 ≤ j → j < g 64 → 0 ≤ f → f < 4 → g1 (zM_at j f) = g (zM_at j f)) (hc : ∀ j : Int32, 0 ≤ j → j < g 64 → 0 ≤ g1 (zM_at j 5) ∧ g1 (zM_at j 5) ≤ 4) : m_GR g1 := by
  refine ⟨fun j j0 j1 => ?_, fun j k j0 j1 k0 k1 => ?_⟩
  · rw [e64] at j1
    have hj := hG.1 j j0 j1
    rw [hf j 0 j0 j1 (by decide) (by decide), hf j 1 j0 j1 (by decide) (by decide), hf j 2 j0 j1 (by decide) (by decide), hf j 3 j0 j1 (by decide) (by decide), e63]
    exact ⟨hj.1, hj.2.1, hj.2.2.1, hj.2.2.2.1, hc j j0 j1⟩
  · rw [e64] at j1 k1
    rw [hf j 0 j0 j1 (by decide) (by decide), hf k 0 k0 k1 (by decide) (by decide)]
    exact hG.2 j k j0 j1 k0 k1
theorem m_ac16 {fu : Nat} {S : fd_S} {g : Int32 → Int32} {i x : Int32} (h0 : 0 ≤ i) (h6 : i < 6) (n : Nat) : zM_addCause_16 fu (n + 4) (fd_sg S g) i x 1 = zM_addCause_64 fu (fd_sg S (m_gu (m_gu (m_gu (m_gu g (zM_at i 6) (g (zM_at i 7))) (zM_at i 7) (g (zM_at i 8))) (zM_at i 8) (g (zM_at i 9))) (zM_at i 5) 3)) i x := by
  have a : ∀ f : Int32, 0 ≤ f → f < 10 → 0 ≤ zM_at i f ∧ zM_at i f < 275 := fun f f0 f1 => m_at_in h0 h6 f0 f1
  rw [zM_addCause_16, if_neg (by decide), if_pos (a _ (by decide) (by decide)), if_pos (a _ (by decide) (by decide))]
  simp only [fd_lt, sg_78, sg_up]
  rw [zM_addCause_16, if_neg (by decide), if_pos (a _ (by decide) (by decide)), if_pos (a _ (by decide) (by decide))]
  simp only [fd_lt, sg_78, sg_up]
  rw [zM_addCause_16, if_neg (by decide), if_pos (a _ (by decide) (by decide)), if_pos (a _ (by decide) (by decide))]
  simp only [fd_lt, sg_78, sg_up]
  rw [zM_addCause_16, if_pos (by decide), if_pos (a _ (by decide) (by decide))]
  simp only [fd_lt, sg_78, sg_up]
  congr 2
  have e1 : (5 : Int32) + 1 = 6 := by decide
  have e2 : (5 : Int32) + 1 + 1 = 7 := by decide
  have e3 : (5 : Int32) + (1 + 1) = 7 := by decide
  have e4 : (5 : Int32) + (1 + 1) + 1 = 8 := by decide
  have e5 : (5 : Int32) + (1 + 1 + 1) = 8 := by decide
  have e6 : (5 : Int32) + (1 + 1 + 1) + 1 = 9 := by decide
  rw [e2, e4, e6, e1, e3, e5]
  have u1 : m_gu g (zM_at i 6) (g (zM_at i 7)) (zM_at i 8) = g (zM_at i 8) := by
    unfold m_gu
    rw [if_neg (fun z => by have := (m_at_inj h0 h6 (by decide) (by decide) h0 h6 (by decide) (by decide) z).2; revert this; decide)]
  have u2 : m_gu (m_gu g (zM_at i 6) (g (zM_at i 7))) (zM_at i 7) (g (zM_at i 8)) (zM_at i 9) = g (zM_at i 9) := by
    unfold m_gu
    rw [if_neg (fun z => by have := (m_at_inj h0 h6 (by decide) (by decide) h0 h6 (by decide) (by decide) z).2; revert this; decide), if_neg (fun z => by have := (m_at_inj h0 h6 (by decide) (by decide) h0 h6 (by decide) (by decide) z).2; revert this; decide)]
  rw [u1, u2]
theorem m_gu_at {g : Int32 → Int32} {i f j q v : Int32} (h0 : 0 ≤ i) (h6 : i < 6) (f0 : 0 ≤ f) (f1 : f < 10) (j0 : 0 ≤ j) (j6 : j < 6) (q0 : 0 ≤ q) (q1 : q < 10) : m_gu g (zM_at i f) v (zM_at j q) = if j = i ∧ q = f then v else g (zM_at j q) := by
  unfold m_gu
  by_cases hj : zM_at j q = zM_at i f
  · rw [if_pos hj, if_pos (m_at_inj j0 j6 q0 q1 h0 h6 f0 f1 hj)]
  · rw [if_neg hj, if_neg (by rintro ⟨a, b⟩; exact hj (by rw [a, b]))]
theorem m_gu_out {g : Int32 → Int32} {i f v j : Int32} (h0 : 0 ≤ i) (h6 : i < 6) (f0 : 0 ≤ f) (f1 : f < 10) (hj : j < 71 ∨ 131 ≤ j) : m_gu g (zM_at i f) v j = g j := by
  have := m_at_rg h0 h6 f0 f1
  unfold m_gu
  rw [if_neg (by (simp only [ne_eq, i_lt, i_le, i_eq, i_add, i_sub, i_neg, i_mul, Int32.reduceToInt] at *; omega))]
theorem m_ac64 {fu : Nat} {S : fd_S} {g : Int32 → Int32} {i x : Int32} (h0 : 0 ≤ i) (h6 : i < 6) (hc : 0 ≤ g (zM_at i 5) ∧ g (zM_at i 5) < 4) : zM_addCause_64 fu (fd_sg S g) i x = some (fd_sg S (m_gu (m_gu g (zM_at i 5) (g (zM_at i 5) + 1)) (zM_at i (6 + g (zM_at i 5))) x)) := by
  have a : ∀ f : Int32, 0 ≤ f → f < 10 → 0 ≤ zM_at i f ∧ zM_at i f < 275 := fun f f0 f1 => m_at_in h0 h6 f0 f1
  unfold zM_addCause_64
  rw [if_pos (a _ (by decide) (by decide)), if_pos (a _ (by decide) (by decide))]
  simp only [fd_lt, sg_78, sg_up]
  have e : m_gu g (zM_at i 5) (g (zM_at i 5) + 1) (zM_at i 5) = g (zM_at i 5) + 1 := by unfold m_gu; rw [if_pos rfl]
  rw [if_pos (a _ (by decide) (by decide)), e, show (5 : Int32) + (g (zM_at i 5) + 1) = 6 + g (zM_at i 5) by (simp only [ne_eq, i_lt, i_le, i_eq, i_add, i_sub, i_neg, i_mul, Int32.reduceToInt] at *; omega), if_pos (a _ (by (simp only [ne_eq, i_lt, i_le, i_eq, i_add, i_sub, i_neg, i_mul, Int32.reduceToInt] at *; omega)) (by (simp only [ne_eq, i_lt, i_le, i_eq, i_add, i_sub, i_neg, i_mul, Int32.reduceToInt] at *; omega)))]
theorem m_addCause {fu : Nat} {S S' : fd_S} {g : Int32 → Int32} {i x : Int32} (hfu : 10000 ≤ fu) (hR : m_R S g) (hG : m_GR g) (h0 : 0 ≤ i) (h1 : i < g 64) :
    ∃ S1 g1, zR_addCause S (m_rw S i) x = some S1 ∧ zM_addCause fu (fd_sg S' g) i x = some (fd_sg S' g1) ∧ m_R S1 g1 ∧ m_GR g1 ∧ (∀ k : Nat, (k < 8 ∨ 20 ≤ k) → S1 k = S k) ∧ (∀ j : Int32, (j < 71 ∨ 131 ≤ j) → g1 j = g j) ∧ (∀ j f : Int32, 0 ≤ j → j < g 64 → 0 ≤ f → f < 5 → g1 (zM_at j f) = g (zM_at j f)) := by
  have h6 : i < 6 := by have := hR.2.2.1; grind
  have hg := hG.1 i h0 h1
  have hrg := hR.1.rg h0 h6
  have hv := hR.2.2.2.1 i h0 h1
  unfold m_cV at hv
  have a : ∀ f : Int32, 0 ≤ f → f < 10 → 0 ≤ zM_at i f ∧ zM_at i f < 275 := fun f f0 f1 => m_at_in h0 h6 f0 f1
  have h64 := hR.2.2.1
  have hC := hR.2.2.2.2 i
  unfold zR_addCause zM_addCause
  rw [if_pos (hR.1.rk h0 h6), if_pos (a _ (by decide) (by decide)), sg_78, hv.2.2.2.2.2]
  by_cases c4 : g (zM_at i 5) = 4
  · rw [if_pos c4, if_pos (by rw [c4]; decide)]
    obtain ⟨n, hn⟩ : ∃ n, fu = n + 4 := ⟨fu - 4, by omega⟩
    have e16 := m_ac16 (fu := fu) (S := S') (g := g) (x := x) h0 h6 n
    rw [← hn] at e16
    generalize hg3 : m_gu (m_gu (m_gu (m_gu g (zM_at i 6) (g (zM_at i 7))) (zM_at i 7) (g (zM_at i 8))) (zM_at i 8) (g (zM_at i 9))) (zM_at i 5) 3 = g3 at e16
    have k3 : ∀ j q : Int32, 0 ≤ j → j < 6 → 0 ≤ q → q < 10 → g3 (zM_at j q) = if j = i ∧ q = 5 then 3 else if j = i ∧ q = 8 then g (zM_at i 9) else if j = i ∧ q = 7 then g (zM_at i 8) else if j = i ∧ q = 6 then g (zM_at i 7) else g (zM_at j q) := by
      intro j q j0 j6 q0 q1
      rw [← hg3, m_gu_at h0 h6 (by decide) (by decide) j0 j6 q0 q1, m_gu_at h0 h6 (by decide) (by decide) j0 j6 q0 q1, m_gu_at h0 h6 (by decide) (by decide) j0 j6 q0 q1, m_gu_at h0 h6 (by decide) (by decide) j0 j6 q0 q1]
    have o3 : ∀ j : Int32, j < 71 ∨ 131 ≤ j → g3 j = g j := by
      intro j hj
      rw [← hg3, m_gu_out h0 h6 (by decide) (by decide) hj, m_gu_out h0 h6 (by decide) (by decide) hj, m_gu_out h0 h6 (by decide) (by decide) hj, m_gu_out h0 h6 (by decide) (by decide) hj]
    have k35 : g3 (zM_at i 5) = 3 := by rw [k3 i 5 h0 h6 (by decide) (by decide), if_pos ⟨rfl, rfl⟩]
    have e64 := m_ac64 (fu := fu) (S := S') (g := g3) (x := x) h0 h6 (by rw [k35]; decide)
    rw [k35] at e64
    rw [e16, e64]
    simp only [fd_lt]
    refine ⟨_, _, rfl, rfl, ?_, ?_, ?_, ?_, ?_⟩
    · refine m_R_rep hR h0 h1 ?_ ?_ ?_ ?_ ?_ ?_ ?_
      · rw [fd_up_ne (by omega)]
        funext b
        unfold fd_cp
        rw [if_neg (by omega)]
      · rw [fd_up_ne (by omega)]
        unfold fd_cp
        rw [if_neg (by omega)]
      · rw [m_gu_out h0 h6 (by decide) (by decide) (by decide), m_gu_out h0 h6 (by decide) (by decide) (by decide), o3 _ (by decide)]
      · intro j f j0 j1 hj f0 f1
        rw [m_gu_at h0 h6 (by decide) (by decide) j0 (by (simp only [ne_eq, i_lt, i_le, i_eq, i_add, i_sub, i_neg, i_mul, Int32.reduceToInt] at *; omega)) f0 f1, if_neg (fun z => hj z.1), m_gu_at h0 h6 (by decide) (by decide) j0 (by (simp only [ne_eq, i_lt, i_le, i_eq, i_add, i_sub, i_neg, i_mul, Int32.reduceToInt] at *; omega)) f0 f1, if_neg (fun z => hj z.1), k3 j f j0 (by (simp only [ne_eq, i_lt, i_le, i_eq, i_add, i_sub, i_neg, i_mul, Int32.reduceToInt] at *; omega)) f0 f1, if_neg (fun z => hj z.1), if_neg (fun z => hj z.1), if_neg (fun z => hj z.1), if_neg (fun z => hj z.1)]
      · intro k k8 k20 hk1 hk2
        rw [fd_up_ne hk2]
        funext b
        unfold fd_cp
        rw [if_neg hk2]
      · have f1 : ∀ f : Int32, fd_up (fd_cp S (m_rw S i + 6) (m_rw S i + 6) 1 0 3) (m_rw S i + 6) 3 x (m_rw S i) f = S (m_rw S i) f := by
          intro f
          rw [fd_up_ne (by omega)]
          unfold fd_cp
          rw [if_neg (by omega)]
        have g4 : ∀ f : Int32, 0 ≤ f → f < 5 → m_gu (m_gu g3 (zM_at i 5) (3 + 1)) (zM_at i (6 + 3)) x (zM_at i f) = g (zM_at i f) := by
          intro f f0 f1
          rw [m_gu_at h0 h6 (by decide) (by decide) h0 h6 f0 (by (simp only [ne_eq, i_lt, i_le, i_eq, i_add, i_sub, i_neg, i_mul, Int32.reduceToInt] at *; omega)), if_neg (by (simp only [ne_eq, i_lt, i_le, i_eq, i_add, i_sub, i_neg, i_mul, Int32.reduceToInt] at *; omega)), m_gu_at h0 h6 (by decide) (by decide) h0 h6 f0 (by (simp only [ne_eq, i_lt, i_le, i_eq, i_add, i_sub, i_neg, i_mul, Int32.reduceToInt] at *; omega)), if_neg (by (simp only [ne_eq, i_lt, i_le, i_eq, i_add, i_sub, i_neg, i_mul, Int32.reduceToInt] at *; omega)), k3 i f h0 h6 f0 (by (simp only [ne_eq, i_lt, i_le, i_eq, i_add, i_sub, i_neg, i_mul, Int32.reduceToInt] at *; omega)), if_neg (by (simp only [ne_eq, i_lt, i_le, i_eq, i_add, i_sub, i_neg, i_mul, Int32.reduceToInt] at *; omega)), if_neg (by (simp only [ne_eq, i_lt, i_le, i_eq, i_add, i_sub, i_neg, i_mul, Int32.reduceToInt] at *; omega)), if_neg (by (simp only [ne_eq, i_lt, i_le, i_eq, i_add, i_sub, i_neg, i_mul, Int32.reduceToInt] at *; omega)), if_neg (by (simp only [ne_eq, i_lt, i_le, i_eq, i_add, i_sub, i_neg, i_mul, Int32.reduceToInt] at *; omega))]
        rw [f1, f1, f1, f1, f1, f1, g4 0 (by decide) (by decide), g4 1 (by decide) (by decide), g4 2 (by decide) (by decide), g4 3 (by decide) (by decide), g4 4 (by decide) (by decide)]
        refine ⟨hv.1, hv.2.1, hv.2.2.1, hv.2.2.2.1, hv.2.2.2.2.1, ?_⟩
        rw [hv.2.2.2.2.2, m_gu_at h0 h6 (by decide) (by decide) h0 h6 (by decide) (by decide), if_neg (by (simp only [ne_eq, i_lt, i_le, i_eq, i_add, i_sub, i_neg, i_mul, Int32.reduceToInt] at *; omega)), m_gu_at h0 h6 (by decide) (by decide) h0 h6 (by decide) (by decide), if_pos ⟨rfl, rfl⟩, c4]
        rfl
      · intro q q0 q4 _
        have hC2 := hC (q + 1) h0 h1
        unfold m_cK at hC2
        have hq : q = 0 ∨ q = 1 ∨ q = 2 ∨ q = 3 := by (simp only [ne_eq, i_lt, i_le, i_eq, i_add, i_sub, i_neg, i_mul, Int32.reduceToInt] at *; omega)
        have n5 : ∀ f : Int32, 6 ≤ f → f < 9 → m_gu (m_gu g3 (zM_at i 5) (3 + 1)) (zM_at i (6 + 3)) x (zM_at i f) = g (zM_at i (f + 1)) := by
          intro f f0 f1
          rw [m_gu_at h0 h6 (by decide) (by decide) h0 h6 (by (simp only [ne_eq, i_lt, i_le, i_eq, i_add, i_sub, i_neg, i_mul, Int32.reduceToInt] at *; omega)) (by (simp only [ne_eq, i_lt, i_le, i_eq, i_add, i_sub, i_neg, i_mul, Int32.reduceToInt] at *; omega)), if_neg (by (simp only [ne_eq, i_lt, i_le, i_eq, i_add, i_sub, i_neg, i_mul, Int32.reduceToInt] at *; omega)), m_gu_at h0 h6 (by decide) (by decide) h0 h6 (by (simp only [ne_eq, i_lt, i_le, i_eq, i_add, i_sub, i_neg, i_mul, Int32.reduceToInt] at *; omega)) (by (simp only [ne_eq, i_lt, i_le, i_eq, i_add, i_sub, i_neg, i_mul, Int32.reduceToInt] at *; omega)), if_neg (by (simp only [ne_eq, i_lt, i_le, i_eq, i_add, i_sub, i_neg, i_mul, Int32.reduceToInt] at *; omega)), k3 i f h0 h6 (by (simp only [ne_eq, i_lt, i_le, i_eq, i_add, i_sub, i_neg, i_mul, Int32.reduceToInt] at *; omega)) (by (simp only [ne_eq, i_lt, i_le, i_eq, i_add, i_sub, i_neg, i_mul, Int32.reduceToInt] at *; omega))]
          have : f = 6 ∨ f = 7 ∨ f = 8 := by (simp only [ne_eq, i_lt, i_le, i_eq, i_add, i_sub, i_neg, i_mul, Int32.reduceToInt] at *; omega)
          rcases this with rfl | rfl | rfl <;> simp <;> rfl
        rcases Int32.lt_or_le q 3 with c3 | c3
        · rw [n5 (6 + q) (by (simp only [ne_eq, i_lt, i_le, i_eq, i_add, i_sub, i_neg, i_mul, Int32.reduceToInt] at *; omega)) (by (simp only [ne_eq, i_lt, i_le, i_eq, i_add, i_sub, i_neg, i_mul, Int32.reduceToInt] at *; omega))]
          unfold fd_up fd_cp
          rw [if_pos rfl, if_neg (by (simp only [ne_eq, i_lt, i_le, i_eq, i_add, i_sub, i_neg, i_mul, Int32.reduceToInt] at *; omega)), if_pos rfl, if_pos (by (simp only [ne_eq, i_lt, i_le, i_eq, i_add, i_sub, i_neg, i_mul, Int32.reduceToInt] at *; omega))]
          rw [show (1 : Int32) + (q - 0) = q + 1 by (simp only [ne_eq, i_lt, i_le, i_eq, i_add, i_sub, i_neg, i_mul, Int32.reduceToInt] at *; omega), hC2 (by (simp only [ne_eq, i_lt, i_le, i_eq, i_add, i_sub, i_neg, i_mul, Int32.reduceToInt] at *; omega)) (by (simp only [ne_eq, i_lt, i_le, i_eq, i_add, i_sub, i_neg, i_mul, Int32.reduceToInt] at *; omega)) (by (simp only [ne_eq, i_lt, i_le, i_eq, i_add, i_sub, i_neg, i_mul, Int32.reduceToInt] at *; omega))]
          congr 2
          (simp only [ne_eq, i_lt, i_le, i_eq, i_add, i_sub, i_neg, i_mul, Int32.reduceToInt] at *; omega)
        · have : q = 3 := by (simp only [ne_eq, i_lt, i_le, i_eq, i_add, i_sub, i_neg, i_mul, Int32.reduceToInt] at *; omega)
          subst this
          unfold fd_up m_gu
          rw [if_pos rfl, if_pos rfl, if_pos rfl]
    · refine m_GR_rep hG ?_ ?_ ?_ ?_
      · rw [m_gu_out h0 h6 (by decide) (by decide) (by decide), m_gu_out h0 h6 (by decide) (by decide) (by decide), o3 _ (by decide)]
      · rw [m_gu_out h0 h6 (by decide) (by decide) (by decide), m_gu_out h0 h6 (by decide) (by decide) (by decide), o3 _ (by decide)]
      · intro j f j0 j1 f0 f1
        rw [m_gu_at h0 h6 (by decide) (by decide) j0 (by (simp only [ne_eq, i_lt, i_le, i_eq, i_add, i_sub, i_neg, i_mul, Int32.reduceToInt] at *; omega)) f0 (by (simp only [ne_eq, i_lt, i_le, i_eq, i_add, i_sub, i_neg, i_mul, Int32.reduceToInt] at *; omega)), if_neg (by (simp only [ne_eq, i_lt, i_le, i_eq, i_add, i_sub, i_neg, i_mul, Int32.reduceToInt] at *; omega)), m_gu_at h0 h6 (by decide) (by decide) j0 (by (simp only [ne_eq, i_lt, i_le, i_eq, i_add, i_sub, i_neg, i_mul, Int32.reduceToInt] at *; omega)) f0 (by (simp only [ne_eq, i_lt, i_le, i_eq, i_add, i_sub, i_neg, i_mul, Int32.reduceToInt] at *; omega)), if_neg (by (simp only [ne_eq, i_lt, i_le, i_eq, i_add, i_sub, i_neg, i_mul, Int32.reduceToInt] at *; omega)), k3 j f j0 (by (simp only [ne_eq, i_lt, i_le, i_eq, i_add, i_sub, i_neg, i_mul, Int32.reduceToInt] at *; omega)) f0 (by (simp only [ne_eq, i_lt, i_le, i_eq, i_add, i_sub, i_neg, i_mul, Int32.reduceToInt] at *; omega)), if_neg (by (simp only [ne_eq, i_lt, i_le, i_eq, i_add, i_sub, i_neg, i_mul, Int32.reduceToInt] at *; omega)), if_neg (by (simp only [ne_eq, i_lt, i_le, i_eq, i_add, i_sub, i_neg, i_mul, Int32.reduceToInt] at *; omega)), if_neg (by (simp only [ne_eq, i_lt, i_le, i_eq, i_add, i_sub, i_neg, i_mul, Int32.reduceToInt] at *; omega)), if_neg (by (simp only [ne_eq, i_lt, i_le, i_eq, i_add, i_sub, i_neg, i_mul, Int32.reduceToInt] at *; omega))]
      · intro j j0 j1
        have := (hG.1 j j0 j1).2.2.2.2
        rw [m_gu_at h0 h6 (by decide) (by decide) j0 (by (simp only [ne_eq, i_lt, i_le, i_eq, i_add, i_sub, i_neg, i_mul, Int32.reduceToInt] at *; omega)) (by decide) (by decide), if_neg (by (simp only [ne_eq, i_lt, i_le, i_eq, i_add, i_sub, i_neg, i_mul, Int32.reduceToInt] at *; omega)), m_gu_at h0 h6 (by decide) (by decide) j0 (by (simp only [ne_eq, i_lt, i_le, i_eq, i_add, i_sub, i_neg, i_mul, Int32.reduceToInt] at *; omega)) (by decide) (by decide), k3 j 5 j0 (by (simp only [ne_eq, i_lt, i_le, i_eq, i_add, i_sub, i_neg, i_mul, Int32.reduceToInt] at *; omega)) (by decide) (by decide)]
        (repeat' split) <;> (simp only [ne_eq, i_lt, i_le, i_eq, i_add, i_sub, i_neg, i_mul, Int32.reduceToInt] at *; omega)
    · intro k hk
      rw [fd_up_ne (by omega)]
      funext b
      unfold fd_cp
      rw [if_neg (by omega)]
    · intro j hj
      rw [m_gu_out h0 h6 (by decide) (by decide) hj, m_gu_out h0 h6 (by decide) (by decide) hj, o3 _ hj]
    · intro j f j0 j1 f0 f1
      have j6 : j < 6 := by clear hR hG hC k3 o3; (simp only [ne_eq, i_lt, i_le, i_eq, i_add, i_sub, i_neg, i_mul, Int32.reduceToInt] at *; omega)
      have f9 : f < 10 := by clear hR hG hC k3 o3; (simp only [ne_eq, i_lt, i_le, i_eq, i_add, i_sub, i_neg, i_mul, Int32.reduceToInt] at *; omega)
      have n9 : ¬ (j = i ∧ f = 6 + 3) := by clear hR hG hC k3 o3; (simp only [ne_eq, i_lt, i_le, i_eq, i_add, i_sub, i_neg, i_mul, Int32.reduceToInt] at *; omega)
      have n5 : ¬ (j = i ∧ f = 5) := by clear hR hG hC k3 o3; (simp only [ne_eq, i_lt, i_le, i_eq, i_add, i_sub, i_neg, i_mul, Int32.reduceToInt] at *; omega)
      have n8 : ¬ (j = i ∧ f = 8) := by clear hR hG hC k3 o3; (simp only [ne_eq, i_lt, i_le, i_eq, i_add, i_sub, i_neg, i_mul, Int32.reduceToInt] at *; omega)
      have n7 : ¬ (j = i ∧ f = 7) := by clear hR hG hC k3 o3; (simp only [ne_eq, i_lt, i_le, i_eq, i_add, i_sub, i_neg, i_mul, Int32.reduceToInt] at *; omega)
      have n6 : ¬ (j = i ∧ f = 6) := by clear hR hG hC k3 o3; (simp only [ne_eq, i_lt, i_le, i_eq, i_add, i_sub, i_neg, i_mul, Int32.reduceToInt] at *; omega)
      rw [m_gu_at h0 h6 (by decide) (by decide) j0 j6 f0 f9, if_neg n9, m_gu_at h0 h6 (by decide) (by decide) j0 j6 f0 f9, if_neg n5, k3 j f j0 j6 f0 f9, if_neg n5, if_neg n8, if_neg n7, if_neg n6]
  · have hcc : 0 ≤ g (zM_at i 5) ∧ g (zM_at i 5) < 4 := by have := hg.2.2.2.2; grind
    rw [if_neg c4, if_neg (by (simp only [ne_eq, i_lt, i_le, i_eq, i_add, i_sub, i_neg, i_mul, Int32.reduceToInt] at *; omega)), if_pos hcc, m_ac64 h0 h6 hcc]
    simp only [fd_lt]
    have es : fd_up S (m_rw S i + 6) (g (zM_at i 5)) x (m_rw S i) 6 = g (zM_at i 5) := by
      rw [fd_up_ne (by omega)]; exact hv.2.2.2.2.2
    rw [es]
    refine ⟨_, _, rfl, rfl, ?_, ?_, ?_, ?_, ?_⟩
    · refine m_R_rep hR h0 h1 ?_ ?_ ?_ ?_ ?_ ?_ ?_
      · rw [fd_up_ne (by omega), fd_up_ne (by omega)]
      · rw [fd_up_ne (by omega), fd_up_ne (by omega)]
      · rw [m_gu_out h0 h6 (by (simp only [ne_eq, i_lt, i_le, i_eq, i_add, i_sub, i_neg, i_mul, Int32.reduceToInt] at *; omega)) (by (simp only [ne_eq, i_lt, i_le, i_eq, i_add, i_sub, i_neg, i_mul, Int32.reduceToInt] at *; omega)) (by decide), m_gu_out h0 h6 (by decide) (by decide) (by decide)]
      · intro j f j0 j1 hj f0 f1
        rw [m_gu_at h0 h6 (by (simp only [ne_eq, i_lt, i_le, i_eq, i_add, i_sub, i_neg, i_mul, Int32.reduceToInt] at *; omega)) (by (simp only [ne_eq, i_lt, i_le, i_eq, i_add, i_sub, i_neg, i_mul, Int32.reduceToInt] at *; omega)) j0 (by (simp only [ne_eq, i_lt, i_le, i_eq, i_add, i_sub, i_neg, i_mul, Int32.reduceToInt] at *; omega)) f0 f1, if_neg (fun z => hj z.1), m_gu_at h0 h6 (by decide) (by decide) j0 (by (simp only [ne_eq, i_lt, i_le, i_eq, i_add, i_sub, i_neg, i_mul, Int32.reduceToInt] at *; omega)) f0 f1, if_neg (fun z => hj z.1)]
      · intro k k8 k20 hk1 hk2
        rw [fd_up_ne hk1, fd_up_ne hk2]
      · have f1 : ∀ f : Int32, f ≠ 6 → fd_up (fd_up S (m_rw S i + 6) (g (zM_at i 5)) x) (m_rw S i) 6 (g (zM_at i 5) + 1) (m_rw S i) f = S (m_rw S i) f := by
          intro f hf
          unfold fd_up
          rw [if_pos rfl, if_neg hf, if_neg (by omega)]
        have g4 : ∀ f : Int32, 0 ≤ f → f < 5 → m_gu (m_gu g (zM_at i 5) (g (zM_at i 5) + 1)) (zM_at i (6 + g (zM_at i 5))) x (zM_at i f) = g (zM_at i f) := by
          intro f f0 f1
          rw [m_gu_at h0 h6 (by (simp only [ne_eq, i_lt, i_le, i_eq, i_add, i_sub, i_neg, i_mul, Int32.reduceToInt] at *; omega)) (by (simp only [ne_eq, i_lt, i_le, i_eq, i_add, i_sub, i_neg, i_mul, Int32.reduceToInt] at *; omega)) h0 h6 f0 (by (simp only [ne_eq, i_lt, i_le, i_eq, i_add, i_sub, i_neg, i_mul, Int32.reduceToInt] at *; omega)), if_neg (by (simp only [ne_eq, i_lt, i_le, i_eq, i_add, i_sub, i_neg, i_mul, Int32.reduceToInt] at *; omega)), m_gu_at h0 h6 (by decide) (by decide) h0 h6 f0 (by (simp only [ne_eq, i_lt, i_le, i_eq, i_add, i_sub, i_neg, i_mul, Int32.reduceToInt] at *; omega)), if_neg (by (simp only [ne_eq, i_lt, i_le, i_eq, i_add, i_sub, i_neg, i_mul, Int32.reduceToInt] at *; omega))]
        rw [f1 0 (by decide), f1 1 (by decide), f1 2 (by decide), f1 3 (by decide), f1 4 (by decide), g4 0 (by decide) (by decide), g4 1 (by decide) (by decide), g4 2 (by decide) (by decide), g4 3 (by decide) (by decide), g4 4 (by decide) (by decide)]
        refine ⟨hv.1, hv.2.1, hv.2.2.1, hv.2.2.2.1, hv.2.2.2.2.1, ?_⟩
        rw [m_gu_at h0 h6 (by (simp only [ne_eq, i_lt, i_le, i_eq, i_add, i_sub, i_neg, i_mul, Int32.reduceToInt] at *; omega)) (by (simp only [ne_eq, i_lt, i_le, i_eq, i_add, i_sub, i_neg, i_mul, Int32.reduceToInt] at *; omega)) h0 h6 (by decide) (by decide), if_neg (by (simp only [ne_eq, i_lt, i_le, i_eq, i_add, i_sub, i_neg, i_mul, Int32.reduceToInt] at *; omega)), m_gu_at h0 h6 (by decide) (by decide) h0 h6 (by decide) (by decide), if_pos ⟨rfl, rfl⟩]
        unfold fd_up
        rw [if_pos rfl, if_pos rfl]
      · intro q q0 q4 q1
        have hC2 := hC q h0 h1 q0 q4
        unfold m_cK at hC2
        rw [m_gu_at h0 h6 (by (simp only [ne_eq, i_lt, i_le, i_eq, i_add, i_sub, i_neg, i_mul, Int32.reduceToInt] at *; omega)) (by (simp only [ne_eq, i_lt, i_le, i_eq, i_add, i_sub, i_neg, i_mul, Int32.reduceToInt] at *; omega)) h0 h6 (by decide) (by decide), if_neg (by (simp only [ne_eq, i_lt, i_le, i_eq, i_add, i_sub, i_neg, i_mul, Int32.reduceToInt] at *; omega)), m_gu_at h0 h6 (by decide) (by decide) h0 h6 (by decide) (by decide), if_pos ⟨rfl, rfl⟩] at q1
        rw [m_gu_at h0 h6 (by (simp only [ne_eq, i_lt, i_le, i_eq, i_add, i_sub, i_neg, i_mul, Int32.reduceToInt] at *; omega)) (by (simp only [ne_eq, i_lt, i_le, i_eq, i_add, i_sub, i_neg, i_mul, Int32.reduceToInt] at *; omega)) h0 h6 (by (simp only [ne_eq, i_lt, i_le, i_eq, i_add, i_sub, i_neg, i_mul, Int32.reduceToInt] at *; omega)) (by (simp only [ne_eq, i_lt, i_le, i_eq, i_add, i_sub, i_neg, i_mul, Int32.reduceToInt] at *; omega)), m_gu_at h0 h6 (by decide) (by decide) h0 h6 (by (simp only [ne_eq, i_lt, i_le, i_eq, i_add, i_sub, i_neg, i_mul, Int32.reduceToInt] at *; omega)) (by (simp only [ne_eq, i_lt, i_le, i_eq, i_add, i_sub, i_neg, i_mul, Int32.reduceToInt] at *; omega)), if_neg (by (simp only [ne_eq, i_lt, i_le, i_eq, i_add, i_sub, i_neg, i_mul, Int32.reduceToInt] at *; omega) : ¬ (i = i ∧ 6 + q = 5)), fd_up_ne (by omega)]
        unfold fd_up
        rw [if_pos rfl]
        by_cases hq : q = g (zM_at i 5)
        · rw [if_pos hq, if_pos ⟨rfl, by rw [hq]⟩]
        · rw [if_neg hq, if_neg (by (simp only [ne_eq, i_lt, i_le, i_eq, i_add, i_sub, i_neg, i_mul, Int32.reduceToInt] at *; omega)), hC2 (by (simp only [ne_eq, i_lt, i_le, i_eq, i_add, i_sub, i_neg, i_mul, Int32.reduceToInt] at *; omega))]
    · refine m_GR_rep hG ?_ ?_ ?_ ?_
      · rw [m_gu_out h0 h6 (by (simp only [ne_eq, i_lt, i_le, i_eq, i_add, i_sub, i_neg, i_mul, Int32.reduceToInt] at *; omega)) (by (simp only [ne_eq, i_lt, i_le, i_eq, i_add, i_sub, i_neg, i_mul, Int32.reduceToInt] at *; omega)) (by decide), m_gu_out h0 h6 (by decide) (by decide) (by decide)]
      · rw [m_gu_out h0 h6 (by (simp only [ne_eq, i_lt, i_le, i_eq, i_add, i_sub, i_neg, i_mul, Int32.reduceToInt] at *; omega)) (by (simp only [ne_eq, i_lt, i_le, i_eq, i_add, i_sub, i_neg, i_mul, Int32.reduceToInt] at *; omega)) (by decide), m_gu_out h0 h6 (by decide) (by decide) (by decide)]
      · intro j f j0 j1 f0 f1
        rw [m_gu_at h0 h6 (by (simp only [ne_eq, i_lt, i_le, i_eq, i_add, i_sub, i_neg, i_mul, Int32.reduceToInt] at *; omega)) (by (simp only [ne_eq, i_lt, i_le, i_eq, i_add, i_sub, i_neg, i_mul, Int32.reduceToInt] at *; omega)) j0 (by (simp only [ne_eq, i_lt, i_le, i_eq, i_add, i_sub, i_neg, i_mul, Int32.reduceToInt] at *; omega)) f0 (by (simp only [ne_eq, i_lt, i_le, i_eq, i_add, i_sub, i_neg, i_mul, Int32.reduceToInt] at *; omega)), if_neg (by (simp only [ne_eq, i_lt, i_le, i_eq, i_add, i_sub, i_neg, i_mul, Int32.reduceToInt] at *; omega)), m_gu_at h0 h6 (by decide) (by decide) j0 (by (simp only [ne_eq, i_lt, i_le, i_eq, i_add, i_sub, i_neg, i_mul, Int32.reduceToInt] at *; omega)) f0 (by (simp only [ne_eq, i_lt, i_le, i_eq, i_add, i_sub, i_neg, i_mul, Int32.reduceToInt] at *; omega)), if_neg (by (simp only [ne_eq, i_lt, i_le, i_eq, i_add, i_sub, i_neg, i_mul, Int32.reduceToInt] at *; omega))]
      · intro j j0 j1
        have := (hG.1 j j0 j1).2.2.2.2
        rw [m_gu_at h0 h6 (by (simp only [ne_eq, i_lt, i_le, i_eq, i_add, i_sub, i_neg, i_mul, Int32.reduceToInt] at *; omega)) (by (simp only [ne_eq, i_lt, i_le, i_eq, i_add, i_sub, i_neg, i_mul, Int32.reduceToInt] at *; omega)) j0 (by (simp only [ne_eq, i_lt, i_le, i_eq, i_add, i_sub, i_neg, i_mul, Int32.reduceToInt] at *; omega)) (by decide) (by decide), if_neg (by (simp only [ne_eq, i_lt, i_le, i_eq, i_add, i_sub, i_neg, i_mul, Int32.reduceToInt] at *; omega)), m_gu_at h0 h6 (by decide) (by decide) j0 (by (simp only [ne_eq, i_lt, i_le, i_eq, i_add, i_sub, i_neg, i_mul, Int32.reduceToInt] at *; omega)) (by decide) (by decide)]
        (repeat' split) <;> (simp only [ne_eq, i_lt, i_le, i_eq, i_add, i_sub, i_neg, i_mul, Int32.reduceToInt] at *; omega)
    · intro k hk
      rw [fd_up_ne (by omega), fd_up_ne (by omega)]
    · intro j hj
      rw [m_gu_out h0 h6 (by (simp only [ne_eq, i_lt, i_le, i_eq, i_add, i_sub, i_neg, i_mul, Int32.reduceToInt] at *; omega)) (by (simp only [ne_eq, i_lt, i_le, i_eq, i_add, i_sub, i_neg, i_mul, Int32.reduceToInt] at *; omega)) hj, m_gu_out h0 h6 (by decide) (by decide) hj]
    · intro j f j0 j1 f0 f1
      have j6 : j < 6 := by clear hR hG hC; (simp only [ne_eq, i_lt, i_le, i_eq, i_add, i_sub, i_neg, i_mul, Int32.reduceToInt] at *; omega)
      have f9 : f < 10 := by clear hR hG hC; (simp only [ne_eq, i_lt, i_le, i_eq, i_add, i_sub, i_neg, i_mul, Int32.reduceToInt] at *; omega)
      have n9 : ¬ (j = i ∧ f = 6 + g (zM_at i 5)) := by clear hR hG hC; (simp only [ne_eq, i_lt, i_le, i_eq, i_add, i_sub, i_neg, i_mul, Int32.reduceToInt] at *; omega)
      have n5 : ¬ (j = i ∧ f = 5) := by clear hR hG hC; (simp only [ne_eq, i_lt, i_le, i_eq, i_add, i_sub, i_neg, i_mul, Int32.reduceToInt] at *; omega)
      have c1 : 0 ≤ 6 + g (zM_at i 5) ∧ 6 + g (zM_at i 5) < 10 := by clear hR hG hC; (simp only [ne_eq, i_lt, i_le, i_eq, i_add, i_sub, i_neg, i_mul, Int32.reduceToInt] at *; omega)
      rw [m_gu_at h0 h6 c1.1 c1.2 j0 j6 f0 f9, if_neg n9, m_gu_at h0 h6 (by decide) (by decide) j0 j6 f0 f9, if_neg n5]
