/-! ===== plain arithmetic of places ===== -/
theorem m_at_nI (a c : Nat) : zM_at (nI a) (nI c) = nI (71 + 10 * a + c) := by
  unfold zM_at
  rw [show (71 : Int32) = nI 71 from rfl, show (10 : Int32) = nI 10 from rfl, pk_mul, nI_add, nI_add]
theorem m_at_lt {i f i' f' : Int32} (h0 : 0 ≤ i) (h6 : i' ≤ 6) (h : i < i') (f0 : 0 ≤ f) (f1 : f < 10) (g0 : 0 ≤ f') (g1 : f' < 10) : zM_at i f < zM_at i' f' := by
  obtain ⟨a, ha, rfl⟩ := m_nat (x := i) (M := 6) h0 (show i ≤ (6 : Int32) by (simp only [ne_eq, i_lt, i_le, i_eq, i_add, i_sub, i_neg, i_mul, Int32.reduceToInt] at *; omega)) (by decide)
  obtain ⟨b, hb, rfl⟩ := m_nat (x := i') (M := 6) (by (simp only [ne_eq, i_lt, i_le, i_eq, i_add, i_sub, i_neg, i_mul, Int32.reduceToInt] at *; omega)) h6 (by decide)
  obtain ⟨c, hc, rfl⟩ := m_nat (x := f) (M := 9) f0 (show f ≤ (9 : Int32) by (simp only [ne_eq, i_lt, i_le, i_eq, i_add, i_sub, i_neg, i_mul, Int32.reduceToInt] at *; omega)) (by decide)
  obtain ⟨d, hd, rfl⟩ := m_nat (x := f') (M := 9) g0 (show f' ≤ (9 : Int32) by (simp only [ne_eq, i_lt, i_le, i_eq, i_add, i_sub, i_neg, i_mul, Int32.reduceToInt] at *; omega)) (by decide)
  rw [nI_ltI (by omega) (by omega)] at h
  rw [m_at_nI, m_at_nI, nI_ltI (by omega) (by omega)]
  omega
theorem m_at_le {i f : Int32} (h0 : 0 ≤ i) (h6 : i ≤ 6) (f0 : 0 ≤ f) (f1 : f < 10) : zM_at i 0 ≤ zM_at i f := by
  obtain ⟨a, ha, rfl⟩ := m_nat (x := i) (M := 6) h0 h6 (by decide)
  obtain ⟨c, hc, rfl⟩ := m_nat (x := f) (M := 9) f0 (show f ≤ (9 : Int32) by (simp only [ne_eq, i_lt, i_le, i_eq, i_add, i_sub, i_neg, i_mul, Int32.reduceToInt] at *; omega)) (by decide)
  rw [show (0 : Int32) = nI 0 from rfl, m_at_nI, m_at_nI, nI_leI (by omega) (by omega)]
  omega
theorem m_at_s (i f : Int32) : zM_at i f + 10 = zM_at (i + 1) f := by
  unfold zM_at
  grind
theorem m_at_b {i : Int32} (h0 : 0 ≤ i) (h6 : i ≤ 6) : 71 ≤ zM_at i 0 ∧ zM_at i 0 ≤ 131 := by
  obtain ⟨a, ha, rfl⟩ := m_nat (x := i) (M := 6) h0 h6 (by decide)
  rw [show (0 : Int32) = nI 0 from rfl, m_at_nI, show (71 : Int32) = nI 71 from rfl, show (131 : Int32) = nI 131 from rfl, nI_leI (by omega) (by omega), nI_leI (by omega) (by omega)]
  omega
theorem fd_up_at (S : fd_S) (k : Nat) (j v b : Int32) : fd_up S k j v k b = if b = j then v else S k b := by
  unfold fd_up
  rw [if_pos rfl]
/-! ===== a record goes ===== -/
def m_sh (g : Int32 → Int32) (x N : Int32) : Int32 → Int32 := fun j => if x ≤ j ∧ j < N then g (j + 10) else g j
theorem m_remove_loop {fu : Nat} {S : fd_S} : ∀ (n : Nat) (g : Int32 → Int32) (x : Int32), m_ms (zM_at (g 64) 0) x < n → 0 ≤ g 64 → g 64 ≤ 5 → 71 ≤ x → zM_remove_28 fu n (fd_sg S g) x = some (fd_sg S (m_sh g x (zM_at (g 64) 0))) := by
  intro n
  induction n with
  | zero => intro g x h; omega
  | succ n ih =>
    intro g x hn h0 h5 hx
    have hN := m_at_b h0 (show g 64 ≤ 6 by (simp only [ne_eq, i_lt, i_le, i_eq, i_add, i_sub, i_neg, i_mul, Int32.reduceToInt] at *; omega))
    rw [zM_remove_28]
    simp only [sg_78, fd_lt, sg_up]
    by_cases c1 : zM_at (g 64) 0 ≤ x
    · rw [if_pos c1]
      congr 2
      funext j
      unfold m_sh
      rw [if_neg (by (simp only [ne_eq, i_lt, i_le, i_eq, i_add, i_sub, i_neg, i_mul, Int32.reduceToInt] at *; omega))]
    · rw [if_neg c1, if_pos (by (simp only [ne_eq, i_lt, i_le, i_eq, i_add, i_sub, i_neg, i_mul, Int32.reduceToInt] at *; omega)), if_pos (by (simp only [ne_eq, i_lt, i_le, i_eq, i_add, i_sub, i_neg, i_mul, Int32.reduceToInt] at *; omega))]
      have hm := m_ms_up c1
      have e64 : m_gu g x (g (x + 10)) 64 = g 64 := by unfold m_gu; rw [if_neg (by (simp only [ne_eq, i_lt, i_le, i_eq, i_add, i_sub, i_neg, i_mul, Int32.reduceToInt] at *; omega))]
      rw [ih (m_gu g x (g (x + 10))) (x + 1) (by rw [e64]; omega) (by rw [e64]; exact h0) (by rw [e64]; exact h5) (by (simp only [ne_eq, i_lt, i_le, i_eq, i_add, i_sub, i_neg, i_mul, Int32.reduceToInt] at *; omega)), e64]
      congr 2
      funext j
      unfold m_sh m_gu
      by_cases hj : x + 1 ≤ j ∧ j < zM_at (g 64) 0
      · rw [if_pos hj, if_neg (by (simp only [ne_eq, i_lt, i_le, i_eq, i_add, i_sub, i_neg, i_mul, Int32.reduceToInt] at *; omega)), if_pos (by (simp only [ne_eq, i_lt, i_le, i_eq, i_add, i_sub, i_neg, i_mul, Int32.reduceToInt] at *; omega))]
      · rw [if_neg hj]
        by_cases hjx : j = x
        · rw [if_pos hjx, if_pos (by (simp only [ne_eq, i_lt, i_le, i_eq, i_add, i_sub, i_neg, i_mul, Int32.reduceToInt] at *; omega)), hjx]
        · rw [if_neg hjx, if_neg (by (simp only [ne_eq, i_lt, i_le, i_eq, i_add, i_sub, i_neg, i_mul, Int32.reduceToInt] at *; omega))]
def m_rm (g : Int32 → Int32) (r : Int32) : Int32 → Int32 := m_sh (m_gu (m_gu g 64 (g 64 - 1)) 68 (g 68 + 1)) (zM_at r 0) (zM_at (g 64 - 1) 0)
theorem zM_remove_eq {fu : Nat} {S : fd_S} {g : Int32 → Int32} {r : Int32} (hfu : 10000 ≤ fu) (h64 : 1 ≤ g 64 ∧ g 64 ≤ 6) (hr : 0 ≤ r ∧ r < 6) : zM_remove fu (fd_sg S g) r = some (fd_sg S (m_rm g r)) := by
  unfold zM_remove
  simp only [fd_lt, sg_78, sg_up]
  have e68 : m_gu g 64 (g 64 - 1) 68 = g 68 := by unfold m_gu; rw [if_neg (by decide)]
  have e64 : m_gu (m_gu g 64 (g 64 - 1)) 68 (g 68 + 1) 64 = g 64 - 1 := by unfold m_gu; rw [if_neg (by decide), if_pos rfl]
  have hx : 71 ≤ zM_at r 0 := (m_at_rg hr.1 hr.2 (by decide) (by decide)).1
  have hN : zM_at (g 64 - 1) 0 ≤ 6000 := by have := (m_at_b (i := g 64 - 1) (by (simp only [ne_eq, i_lt, i_le, i_eq, i_add, i_sub, i_neg, i_mul, Int32.reduceToInt] at *; omega)) (by (simp only [ne_eq, i_lt, i_le, i_eq, i_add, i_sub, i_neg, i_mul, Int32.reduceToInt] at *; omega))).2; (simp only [ne_eq, i_lt, i_le, i_eq, i_add, i_sub, i_neg, i_mul, Int32.reduceToInt] at *; omega)
  rw [e68, m_remove_loop fu _ _ (by rw [e64]; exact m_ms_fu (by (simp only [ne_eq, i_lt, i_le, i_eq, i_add, i_sub, i_neg, i_mul, Int32.reduceToInt] at *; omega)) hN hfu) (by rw [e64]; (simp only [ne_eq, i_lt, i_le, i_eq, i_add, i_sub, i_neg, i_mul, Int32.reduceToInt] at *; omega)) (by rw [e64]; (simp only [ne_eq, i_lt, i_le, i_eq, i_add, i_sub, i_neg, i_mul, Int32.reduceToInt] at *; omega)) hx, e64]
  rfl
theorem m_rm_out {g : Int32 → Int32} {r j : Int32} (h64 : 1 ≤ g 64 ∧ g 64 ≤ 6) (hr : 0 ≤ r ∧ r < 6) (hj : j < 71 ∨ 131 ≤ j) (h1 : j ≠ 64) (h2 : j ≠ 68) : m_rm g r j = g j := by
  have hx : 71 ≤ zM_at r 0 := (m_at_rg hr.1 hr.2 (by decide) (by decide)).1
  have hN := (m_at_b (i := g 64 - 1) (by (simp only [ne_eq, i_lt, i_le, i_eq, i_add, i_sub, i_neg, i_mul, Int32.reduceToInt] at *; omega)) (by (simp only [ne_eq, i_lt, i_le, i_eq, i_add, i_sub, i_neg, i_mul, Int32.reduceToInt] at *; omega))).2
  unfold m_rm m_sh m_gu
  rw [if_neg (by (simp only [ne_eq, i_lt, i_le, i_eq, i_add, i_sub, i_neg, i_mul, Int32.reduceToInt] at *; omega)), if_neg h2, if_neg h1]
theorem m_rm_64 {g : Int32 → Int32} {r : Int32} (hr : 0 ≤ r ∧ r < 6) : m_rm g r 64 = g 64 - 1 := by
  have hx : 71 ≤ zM_at r 0 := (m_at_rg hr.1 hr.2 (by decide) (by decide)).1
  unfold m_rm m_sh m_gu
  rw [if_neg (by (simp only [ne_eq, i_lt, i_le, i_eq, i_add, i_sub, i_neg, i_mul, Int32.reduceToInt] at *; omega)), if_neg (by decide), if_pos rfl]
theorem m_rm_68 {g : Int32 → Int32} {r : Int32} (hr : 0 ≤ r ∧ r < 6) : m_rm g r 68 = g 68 + 1 := by
  have hx : 71 ≤ zM_at r 0 := (m_at_rg hr.1 hr.2 (by decide) (by decide)).1
  unfold m_rm m_sh m_gu
  rw [if_neg (by (simp only [ne_eq, i_lt, i_le, i_eq, i_add, i_sub, i_neg, i_mul, Int32.reduceToInt] at *; omega)), if_pos rfl]
theorem m_rm_at {g : Int32 → Int32} {r j f : Int32} (h64 : 1 ≤ g 64 ∧ g 64 ≤ 6) (hr : 0 ≤ r ∧ r < 6) (j0 : 0 ≤ j) (j1 : j < g 64 - 1) (f0 : 0 ≤ f) (f1 : f < 10) : m_rm g r (zM_at j f) = if j < r then g (zM_at j f) else g (zM_at (j + 1) f) := by
  have j6 : j < 5 := by (simp only [ne_eq, i_lt, i_le, i_eq, i_add, i_sub, i_neg, i_mul, Int32.reduceToInt] at *; omega)
  have hat := m_at_rg j0 (show j < 6 by (simp only [ne_eq, i_lt, i_le, i_eq, i_add, i_sub, i_neg, i_mul, Int32.reduceToInt] at *; omega)) f0 f1
  have hat2 := m_at_rg (show (0 : Int32) ≤ j + 1 by (simp only [ne_eq, i_lt, i_le, i_eq, i_add, i_sub, i_neg, i_mul, Int32.reduceToInt] at *; omega)) (show j + 1 < 6 by (simp only [ne_eq, i_lt, i_le, i_eq, i_add, i_sub, i_neg, i_mul, Int32.reduceToInt] at *; omega)) f0 f1
  have n1 := m_at_lt (i := j) (i' := g 64 - 1) (f' := 0) j0 (by (simp only [ne_eq, i_lt, i_le, i_eq, i_add, i_sub, i_neg, i_mul, Int32.reduceToInt] at *; omega)) j1 f0 f1 (by decide) (by decide)
  unfold m_rm m_sh m_gu
  by_cases c : j < r
  · have n2 := m_at_lt (f' := 0) j0 (Int32.le_of_lt hr.2) c f0 f1 (by decide) (by decide)
    rw [if_pos c, if_neg (fun z => by have := z.1; (simp only [ne_eq, i_lt, i_le, i_eq, i_add, i_sub, i_neg, i_mul, Int32.reduceToInt] at *; omega)), if_neg (by (simp only [ne_eq, i_lt, i_le, i_eq, i_add, i_sub, i_neg, i_mul, Int32.reduceToInt] at *; omega)), if_neg (by (simp only [ne_eq, i_lt, i_le, i_eq, i_add, i_sub, i_neg, i_mul, Int32.reduceToInt] at *; omega))]
  · have n2 : zM_at r 0 ≤ zM_at j f := by
      have h1 := m_at_le j0 (show j ≤ 6 by (simp only [ne_eq, i_lt, i_le, i_eq, i_add, i_sub, i_neg, i_mul, Int32.reduceToInt] at *; omega)) f0 f1
      rcases Int32.lt_or_le r j with h | h
      · have := m_at_lt (i := r) (i' := j) (f := 0) (f' := f) hr.1 (by (simp only [ne_eq, i_lt, i_le, i_eq, i_add, i_sub, i_neg, i_mul, Int32.reduceToInt] at *; omega)) h (by decide) (by decide) f0 f1
        exact Int32.le_of_lt this
      · have : r = j := by (simp only [ne_eq, i_lt, i_le, i_eq, i_add, i_sub, i_neg, i_mul, Int32.reduceToInt] at *; omega)
        rw [this]; exact h1
    rw [if_neg c, if_pos ⟨n2, n1⟩, m_at_s, if_neg (by (simp only [ne_eq, i_lt, i_le, i_eq, i_add, i_sub, i_neg, i_mul, Int32.reduceToInt] at *; omega)), if_neg (by (simp only [ne_eq, i_lt, i_le, i_eq, i_add, i_sub, i_neg, i_mul, Int32.reduceToInt] at *; omega))]
theorem m_nIcl {v : Int32} (h : 0 ≤ v) : nI (8 + v.toNatClampNeg - 8) = v := by
  rw [Nat.add_sub_cancel_left]
  have := fd_ix_of h
  unfold fd_ix at this
  have h1 : v.toNatClampNeg < 2147483648 := by
    have := Int32.toInt_lt v
    unfold Int32.toNatClampNeg
    omega
  rw [if_pos h1] at this
  exact this
theorem m_drop_loop {fu : Nat} {n v : Int32} (hn : 1 ≤ n ∧ n ≤ 6) (hv : 0 ≤ v ∧ v < 6) : ∀ (m : Nat) (S : fd_S) (x : Int32), m_ms (n - 1) x < m → S 3 1 = n → (∀ i : Int32, 0 ≤ i → i < 6 → 0 ≤ S 4 i ∧ S 4 i < 6) → 0 ≤ x → x ≤ n - 1 →
    ∃ S1, zQ_drop_24 fu m S (8 + v.toNatClampNeg) x = some S1 ∧ S1 3 1 = n - 1 ∧ S1 3 2 = S 3 2 + 1 ∧ (∀ a : Nat, a ≠ 3 → a ≠ 4 → S1 a = S a) ∧ ∀ b : Int32, 0 ≤ b → b < 6 → S1 4 b = if b < x then S 4 b else if b < n - 1 then S 4 (b + 1) else if b = n - 1 then v else S 4 b := by
  intro m
  induction m with
  | zero => intro S x h; omega
  | succ m ih =>
    intro S x hm h31 hrow x0 x1
    have hcv := m_cl hv.1 hv.2
    rw [zQ_drop_24]
    simp only [fd_lt, h31, m_rc]
    by_cases c1 : n - 1 ≤ x
    · rw [if_pos c1]
      have e1 : fd_up S 3 1 (n - 1) 3 1 = n - 1 := by unfold fd_up; rw [if_pos rfl, if_pos rfl]
      rw [e1, if_pos (by (simp only [ne_eq, i_lt, i_le, i_eq, i_add, i_sub, i_neg, i_mul, Int32.reduceToInt] at *; omega)), if_pos (by omega), m_nIcl hv.1]
      refine ⟨_, rfl, ?_, ?_, ?_, ?_⟩
      · unfold fd_up; simp
      · unfold fd_up; simp
      · intro a h3 h4
        rw [fd_up_ne h3, fd_up_ne h4, fd_up_ne h3]
      · intro b b0 b6
        rw [fd_up_ne (by decide), fd_up_at, fd_up_ne (by decide)]
        have hxn : x = n - 1 := by (simp only [ne_eq, i_lt, i_le, i_eq, i_add, i_sub, i_neg, i_mul, Int32.reduceToInt] at *; omega)
        rw [hxn]
        clear ih hrow
        by_cases hb : b = n - 1
        · have n1 : ¬ b < n - 1 := by (simp only [ne_eq, i_lt, i_le, i_eq, i_add, i_sub, i_neg, i_mul, Int32.reduceToInt] at *; omega)
          simp only [if_pos hb, if_neg n1]
        · simp only [if_neg hb]
          by_cases hbx : b < n - 1
          · simp only [if_pos hbx]
          · simp only [if_neg hbx]
    · have hx5 : 0 ≤ x + 1 ∧ x + 1 < 6 ∧ x < 6 ∧ x + 1 ≤ n - 1 := by (simp only [ne_eq, i_lt, i_le, i_eq, i_add, i_sub, i_neg, i_mul, Int32.reduceToInt] at *; omega)
      have hr1 := hrow (x + 1) hx5.1 hx5.2.1
      have hc1 := m_cl hr1.1 hr1.2
      rw [if_neg c1, if_pos ⟨hx5.1, hx5.2.1⟩, if_pos ⟨x0, hx5.2.2.1⟩, if_pos (by omega), m_nIcl hr1.1]
      have hms := m_ms_up c1
      obtain ⟨S1, s1, s2, s3, s4, s5⟩ := ih (fd_up S 4 x (S 4 (x + 1))) (x + 1) (by omega) (by rw [fd_up_ne (by decide)]; exact h31) (by
        intro i i0 i6
        rw [fd_up_at]
        split
        · exact hr1
        · exact hrow i i0 i6) hx5.1 hx5.2.2.2
      refine ⟨S1, s1, s2, by rw [s3, fd_up_ne (by decide)], fun a h3 h4 => by rw [s4 a h3 h4, fd_up_ne h4], fun b b0 b6 => ?_⟩
      rw [s5 b b0 b6, fd_up_at, fd_up_at]
      clear s5 s4 s3 s2 s1 ih hrow hr1 hc1 h31
      by_cases hb : b < x
      · rw [if_pos hb, if_pos (by (simp only [ne_eq, i_lt, i_le, i_eq, i_add, i_sub, i_neg, i_mul, Int32.reduceToInt] at *; omega)), if_neg (by (simp only [ne_eq, i_lt, i_le, i_eq, i_add, i_sub, i_neg, i_mul, Int32.reduceToInt] at *; omega))]
      · rw [if_neg hb]
        by_cases hbx : b = x
        · rw [if_pos (by (simp only [ne_eq, i_lt, i_le, i_eq, i_add, i_sub, i_neg, i_mul, Int32.reduceToInt] at *; omega)), if_pos hbx, if_pos (by (simp only [ne_eq, i_lt, i_le, i_eq, i_add, i_sub, i_neg, i_mul, Int32.reduceToInt] at *; omega)), hbx]
        · rw [if_neg (by (simp only [ne_eq, i_lt, i_le, i_eq, i_add, i_sub, i_neg, i_mul, Int32.reduceToInt] at *; omega))]
          by_cases hb2 : b < n - 1
          · rw [if_pos hb2, if_neg (by (simp only [ne_eq, i_lt, i_le, i_eq, i_add, i_sub, i_neg, i_mul, Int32.reduceToInt] at *; omega)), if_pos hb2]
          · rw [if_neg hb2, if_neg hb2]
            by_cases hb3 : b = n - 1
            · rw [if_pos hb3, if_pos hb3]
            · rw [if_neg hb3, if_neg hb3, if_neg hbx]
theorem m_within1 {a b c : Int32} (h : b ≤ a ∧ a ≤ c) : ¬ zF_isWithin a b c = 0 := by
  unfold zF_isWithin
  rw [if_neg (by (simp only [ne_eq, i_lt, i_le, i_eq, i_add, i_sub, i_neg, i_mul, Int32.reduceToInt] at *; omega)), if_neg (by (simp only [ne_eq, i_lt, i_le, i_eq, i_add, i_sub, i_neg, i_mul, Int32.reduceToInt] at *; omega))]
  decide
theorem m_within0 {a b c : Int32} (h : ¬ (b ≤ a ∧ a ≤ c)) : zF_isWithin a b c = 0 := by
  unfold zF_isWithin
  split
  · rfl
  · rw [if_pos (by (simp only [ne_eq, i_lt, i_le, i_eq, i_add, i_sub, i_neg, i_mul, Int32.reduceToInt] at *; omega))]
theorem zF_in (a b c : Int32) : zF_isWithin a b c = zM_in a b c := rfl
theorem m_rm_pm {g : Int32 → Int32} {r j f : Int32} (h64 : 1 ≤ g 64 ∧ g 64 ≤ 6) (hr : 0 ≤ r ∧ r < 6) (j0 : 0 ≤ j) (j1 : j < g 64 - 1) (f0 : 0 ≤ f) (f1 : f < 10) : m_rm g r (zM_at j f) = g (zM_at (m_pm (g 64) r j) f) := by
  rw [m_rm_at h64 hr j0 j1 f0 f1]
  unfold m_pm
  by_cases c : j < r
  · rw [if_pos c, if_pos c]
  · rw [if_neg c, if_neg c, if_pos j1]
theorem m_drop {fu : Nat} {S S' : fd_S} {g : Int32 → Int32} {r : Int32} (hfu : 10000 ≤ fu) (hR : m_R S g) (hG : m_GR g) (r0 : 0 ≤ r) (r1 : r < g 64) :
    ∃ S1, zQ_drop fu S r = some S1 ∧ zM_remove fu (fd_sg S' g) r = some (fd_sg S' (m_rm g r)) ∧ m_R S1 (m_rm g r) ∧ m_GR (m_rm g r) ∧ (∀ a : Nat, a ≠ 3 → a ≠ 4 → S1 a = S a) ∧ S1 3 2 = S 3 2 + 1 := by
  have h64 := hR.2.2.1
  have h31 := hR.2.1
  have h64' : 1 ≤ g 64 ∧ g 64 ≤ 6 := by (simp only [ne_eq, i_lt, i_le, i_eq, i_add, i_sub, i_neg, i_mul, Int32.reduceToInt] at *; omega)
  have hr6 : 0 ≤ r ∧ r < 6 := by (simp only [ne_eq, i_lt, i_le, i_eq, i_add, i_sub, i_neg, i_mul, Int32.reduceToInt] at *; omega)
  have hrn : 0 ≤ r ∧ r < g 64 := ⟨r0, r1⟩
  have hr9 : r ≤ g 64 - 1 ∧ g 64 - 1 ≤ 6000 ∧ (0 ≤ g 64 - 1 ∧ g 64 - 1 ≤ 6) := by (simp only [ne_eq, i_lt, i_le, i_eq, i_add, i_sub, i_neg, i_mul, Int32.reduceToInt] at *; omega)
  obtain ⟨hrow, -, -, hV, hC⟩ := hR
  have hrr := hrow.1 r hr6.1 hr6.2
  unfold zQ_drop
  simp only [fd_lt, h31, m_rc]
  rw [if_neg (m_within1 ⟨r0, hr9.1⟩), if_pos hr6]
  obtain ⟨S1, s1, s2, s3, s4, s5⟩ := m_drop_loop (fu := fu) h64' hrr fu S r (m_ms_fu r0 hr9.2.1 hfu) h31 hrow.1 r0 hr9.1
  have s5' : ∀ b : Int32, 0 ≤ b → b < 6 → S1 4 b = S 4 (m_pm (g 64) r b) := by
    intro b b0 b6
    rw [s5 b b0 b6]
    unfold m_pm
    split
    · rfl
    · split
      · rfl
      · split <;> rfl
  have hrow1 : m_rows S1 := by
    refine ⟨fun i i0 i6 => ?_, fun i j i0 i6 j0 j6 e => ?_⟩
    · rw [s5' i i0 i6]
      have := m_pm_rg h64' hrn i0 i6
      exact hrow.1 _ this.1 this.2
    · rw [s5' i i0 i6, s5' j j0 j6] at e
      have p1 := m_pm_rg h64' hrn i0 i6
      have p2 := m_pm_rg h64' hrn j0 j6
      exact m_pm_inj h64' hrn i0 i6 j0 j6 (hrow.2 _ _ p1.1 p1.2 p2.1 p2.2 e)
  have erw : ∀ j : Int32, 0 ≤ j → j < 6 → m_rw S1 j = m_rw S (m_pm (g 64) r j) := by
    intro j j0 j6
    unfold m_rw
    rw [s5' j j0 j6]
  have e64 := m_rm_64 (g := g) hr6
  have hcell : ∀ j : Int32, 0 ≤ j → j < 6 → S1 (m_rw S j) = S (m_rw S j) ∧ S1 (m_rw S j + 6) = S (m_rw S j + 6) := by
    intro j j0 j6
    have := hrow.rg j0 j6
    exact ⟨s4 _ (by omega) (by omega), s4 _ (by omega) (by omega)⟩
  refine ⟨S1, s1, zM_remove_eq hfu h64' hr6, ⟨hrow1, by rw [s2, e64], by rw [e64]; exact hr9.2.2, ?_, ?_⟩, ⟨?_, ?_⟩, s4, s3⟩
  · intro j j0 j1
    rw [e64] at j1
    have hj := m_pm_lo h64' hrn j0 j1
    have hv := hV _ hj.1 hj.2.1
    have h6 := m_pm_rg h64' hrn j0 hj.2.2
    unfold m_cV at hv ⊢
    rw [erw j j0 hj.2.2, (hcell _ h6.1 h6.2).1, m_rm_pm h64' hr6 j0 j1 (by decide) (by decide), m_rm_pm h64' hr6 j0 j1 (by decide) (by decide), m_rm_pm h64' hr6 j0 j1 (by decide) (by decide), m_rm_pm h64' hr6 j0 j1 (by decide) (by decide), m_rm_pm h64' hr6 j0 j1 (by decide) (by decide), m_rm_pm h64' hr6 j0 j1 (by decide) (by decide)]
    exact hv
  · intro j q j0 j1 q0 q4 q1
    rw [e64] at j1
    have hj := m_pm_lo h64' hrn j0 j1
    have h6 := m_pm_rg h64' hrn j0 hj.2.2
    rw [m_rm_pm h64' hr6 j0 j1 (by decide) (by decide)] at q1
    have hv := hC _ q hj.1 hj.2.1 q0 q4 q1
    have hq : 0 ≤ 6 + q ∧ 6 + q < 10 := by (simp only [ne_eq, i_lt, i_le, i_eq, i_add, i_sub, i_neg, i_mul, Int32.reduceToInt] at *; omega)
    unfold m_cK at hv ⊢
    rw [erw j j0 hj.2.2, (hcell _ h6.1 h6.2).2, m_rm_pm h64' hr6 j0 j1 hq.1 hq.2]
    exact hv
  · intro j j0 j1
    rw [e64] at j1
    have hj := m_pm_lo h64' hrn j0 j1
    have hv := hG.1 _ hj.1 hj.2.1
    rw [m_rm_pm h64' hr6 j0 j1 (by decide) (by decide), m_rm_pm h64' hr6 j0 j1 (by decide) (by decide), m_rm_pm h64' hr6 j0 j1 (by decide) (by decide), m_rm_pm h64' hr6 j0 j1 (by decide) (by decide), m_rm_pm h64' hr6 j0 j1 (by decide) (by decide), m_rm_out h64' hr6 (by decide) (by decide) (by decide)]
    exact hv
  · intro j k j0 j1 k0 k1 e
    rw [e64] at j1 k1
    have hj := m_pm_lo h64' hrn j0 j1
    have hk := m_pm_lo h64' hrn k0 k1
    rw [m_rm_pm h64' hr6 j0 j1 (by decide) (by decide), m_rm_pm h64' hr6 k0 k1 (by decide) (by decide)] at e
    exact m_pm_inj h64' hrn j0 hj.2.2 k0 hk.2.2 (hG.2 _ _ hj.1 hj.2.1 hk.1 hk.2.1 e)
