/-! ===== a record is made ===== -/
theorem zM_isHeld_eq {S : fd_S} {g : Int32 → Int32} {i : Int32} (h0 : 0 ≤ i) (h6 : i < 6) : zM_isHeld (fd_sg S g) i = some (if g (zM_at i 3) = 1 then 1 else 0) := by
  unfold zM_isHeld
  rw [if_pos (m_at_in h0 h6 (by decide) (by decide)), sg_78]
  split <;> rfl
def m_zr (g : Int32 → Int32) (lo hi : Int32) : Int32 → Int32 := fun j => if lo ≤ j ∧ j ≤ hi then 0 else g j
def m_mk (g : Int32 → Int32) (r : Int32) : Int32 → Int32 := m_gu (m_gu (m_zr (m_gu g 64 (g 64 + 1)) (zM_at (g 64) 0) (zM_at (g 64) 9)) (zM_at (g 64) 0) r) (zM_at (g 64) 2) (g 63)
theorem m_at_step {n x : Int32} : zM_at n (x + 1) = zM_at n x + 1 := by
  unfold zM_at
  grind
theorem m_at_num {n x : Int32} (n0 : 0 ≤ n) (n6 : n < 6) (x0 : 0 ≤ x) (x1 : x ≤ 10) : 71 ≤ zM_at n x ∧ zM_at n x ≤ 131 ∧ (zM_at n x).toInt = 71 + 10 * n.toInt + x.toInt := by
  obtain ⟨a, ha, rfl⟩ := m_nat (x := n) (M := 5) n0 (show n ≤ (5 : Int32) by (simp only [ne_eq, i_lt, i_le, i_eq, i_add, i_sub, i_neg, i_mul, Int32.reduceToInt] at *; omega)) (by decide)
  obtain ⟨c, hc, rfl⟩ := m_nat (x := x) (M := 10) x0 x1 (by decide)
  rw [m_at_nI, nI_toInt (by omega), nI_toInt (by omega), nI_toInt (by omega), show (71 : Int32) = nI 71 from rfl, show (131 : Int32) = nI 131 from rfl, nI_leI (by omega) (by omega), nI_leI (by omega) (by omega)]
  omega
theorem m_mk_def (g : Int32 → Int32) (r b : Int32) : m_mk g r b = if b = zM_at (g 64) 2 then g 63 else if b = zM_at (g 64) 0 then r else if zM_at (g 64) 0 ≤ b ∧ b ≤ zM_at (g 64) 9 then 0 else if b = 64 then g 64 + 1 else g b := rfl
theorem m_make_loop {fu : Nat} {S : fd_S} {r n : Int32} (n0 : 0 ≤ n) (n6 : n < 6) : ∀ (m : Nat) (g : Int32 → Int32) (x : Int32), m_ms 10 x < m → 0 ≤ x → x ≤ 10 →
    zM_makeRecord_81 fu m (fd_sg S g) r n x = some (n, fd_sg S (m_gu (m_gu (m_zr g (zM_at n x) (zM_at n 9)) (zM_at n 0) r) (zM_at n 2) (g 63))) := by
  intro m
  induction m with
  | zero => intro g x h; omega
  | succ m ih =>
    intro g x hm x0 x1
    rw [zM_makeRecord_81]
    simp only [fd_lt, sg_78, sg_up]
    have a0 := m_at_num n0 n6 (show (0 : Int32) ≤ 0 by decide) (by decide)
    have a9 := m_at_num n0 n6 (show (0 : Int32) ≤ 9 by decide) (by decide)
    have ax := m_at_num n0 n6 x0 x1
    by_cases c1 : 10 ≤ x
    · rw [if_pos c1, if_pos (m_at_in n0 n6 (by decide) (by decide)), if_pos (m_at_in n0 n6 (by decide) (by decide))]
      have e1 : m_gu g (zM_at n 0) r 63 = g 63 := by
        unfold m_gu
        rw [if_neg (by clear ih; (simp only [ne_eq, i_lt, i_le, i_eq, i_add, i_sub, i_neg, i_mul, Int32.reduceToInt] at *; omega))]
      have e2 : m_zr g (zM_at n x) (zM_at n 9) = g := by
        funext j
        unfold m_zr
        rw [if_neg (by clear ih; (simp only [ne_eq, i_lt, i_le, i_eq, i_add, i_sub, i_neg, i_mul, Int32.reduceToInt] at *; omega))]
      rw [e1, e2]
    · have hx : 0 ≤ x + 1 ∧ x + 1 ≤ 10 ∧ x < 10 := by clear ih; (simp only [ne_eq, i_lt, i_le, i_eq, i_add, i_sub, i_neg, i_mul, Int32.reduceToInt] at *; omega)
      have hms := m_ms_up c1
      rw [if_neg c1, if_pos (m_at_in n0 n6 x0 hx.2.2), ih _ (x + 1) (by omega) hx.1 hx.2.1]
      have e1 : m_gu g (zM_at n x) 0 63 = g 63 := by
        unfold m_gu
        rw [if_neg (by clear ih; (simp only [ne_eq, i_lt, i_le, i_eq, i_add, i_sub, i_neg, i_mul, Int32.reduceToInt] at *; omega))]
      have e2 : m_zr (m_gu g (zM_at n x) 0) (zM_at n (x + 1)) (zM_at n 9) = m_zr g (zM_at n x) (zM_at n 9) := by
        funext j
        rw [m_at_step]
        unfold m_zr m_gu
        clear ih
        by_cases hj : j = zM_at n x
        · rw [if_neg (by (simp only [ne_eq, i_lt, i_le, i_eq, i_add, i_sub, i_neg, i_mul, Int32.reduceToInt] at *; omega)), if_pos hj, if_pos (by (simp only [ne_eq, i_lt, i_le, i_eq, i_add, i_sub, i_neg, i_mul, Int32.reduceToInt] at *; omega))]
        · by_cases hj2 : zM_at n x + 1 ≤ j ∧ j ≤ zM_at n 9
          · rw [if_pos hj2, if_pos (by (simp only [ne_eq, i_lt, i_le, i_eq, i_add, i_sub, i_neg, i_mul, Int32.reduceToInt] at *; omega))]
          · rw [if_neg hj2, if_neg hj, if_neg (by (simp only [ne_eq, i_lt, i_le, i_eq, i_add, i_sub, i_neg, i_mul, Int32.reduceToInt] at *; omega))]
      rw [e1, e2]
theorem zM_makeRecord_60_eq {fu : Nat} {S : fd_S} {g : Int32 → Int32} {r : Int32} (hfu : 10000 ≤ fu) (h64 : 0 ≤ g 64 ∧ g 64 < 6) : zM_makeRecord_60 fu (fd_sg S g) r = some (g 64, fd_sg S (m_mk g r)) := by
  unfold zM_makeRecord_60
  simp only [fd_lt, sg_78, sg_up]
  rw [m_make_loop h64.1 h64.2 fu _ 0 (m_ms_fu (by decide) (by decide) hfu) (by decide) (by decide)]
  rfl
theorem m_mk_at {g : Int32 → Int32} {r j f : Int32} (h64 : 0 ≤ g 64 ∧ g 64 < 6) (j0 : 0 ≤ j) (j6 : j < 6) (f0 : 0 ≤ f) (f1 : f < 10) : m_mk g r (zM_at j f) = if j = g 64 then (if f = 2 then g 63 else if f = 0 then r else 0) else g (zM_at j f) := by
  have a0 := m_at_num h64.1 h64.2 (show (0 : Int32) ≤ 0 by decide) (by decide)
  have a2 := m_at_num h64.1 h64.2 (show (0 : Int32) ≤ 2 by decide) (by decide)
  have a9 := m_at_num h64.1 h64.2 (show (0 : Int32) ≤ 9 by decide) (by decide)
  have aj := m_at_num j0 j6 f0 (show f ≤ 10 by (simp only [ne_eq, i_lt, i_le, i_eq, i_add, i_sub, i_neg, i_mul, Int32.reduceToInt] at *; omega))
  rw [m_mk_def]
  by_cases c : j = g 64
  · rw [if_pos c]
    subst c
    by_cases c2 : f = 2
    · subst c2
      rw [if_pos rfl, if_pos rfl]
    · rw [if_neg c2, if_neg (by (simp only [ne_eq, i_lt, i_le, i_eq, i_add, i_sub, i_neg, i_mul, Int32.reduceToInt] at *; omega))]
      by_cases c0 : f = 0
      · subst c0
        rw [if_pos rfl, if_pos rfl]
      · rw [if_neg c0, if_neg (by (simp only [ne_eq, i_lt, i_le, i_eq, i_add, i_sub, i_neg, i_mul, Int32.reduceToInt] at *; omega)), if_pos (by (simp only [ne_eq, i_lt, i_le, i_eq, i_add, i_sub, i_neg, i_mul, Int32.reduceToInt] at *; omega))]
  · rw [if_neg c, if_neg (by (simp only [ne_eq, i_lt, i_le, i_eq, i_add, i_sub, i_neg, i_mul, Int32.reduceToInt] at *; omega)), if_neg (by (simp only [ne_eq, i_lt, i_le, i_eq, i_add, i_sub, i_neg, i_mul, Int32.reduceToInt] at *; omega)), if_neg (by (simp only [ne_eq, i_lt, i_le, i_eq, i_add, i_sub, i_neg, i_mul, Int32.reduceToInt] at *; omega)), if_neg (by (simp only [ne_eq, i_lt, i_le, i_eq, i_add, i_sub, i_neg, i_mul, Int32.reduceToInt] at *; omega))]
theorem m_mk_out {g : Int32 → Int32} {r j : Int32} (h64 : 0 ≤ g 64 ∧ g 64 < 6) (hj : j < 71 ∨ 131 ≤ j) (h4 : j ≠ 64) : m_mk g r j = g j := by
  have a0 := m_at_num h64.1 h64.2 (show (0 : Int32) ≤ 0 by decide) (by decide)
  have a2 := m_at_num h64.1 h64.2 (show (0 : Int32) ≤ 2 by decide) (by decide)
  have a9 := m_at_num h64.1 h64.2 (show (0 : Int32) ≤ 9 by decide) (by decide)
  rw [m_mk_def]
  rw [if_neg (by (simp only [ne_eq, i_lt, i_le, i_eq, i_add, i_sub, i_neg, i_mul, Int32.reduceToInt] at *; omega)), if_neg (by (simp only [ne_eq, i_lt, i_le, i_eq, i_add, i_sub, i_neg, i_mul, Int32.reduceToInt] at *; omega)), if_neg (by (simp only [ne_eq, i_lt, i_le, i_eq, i_add, i_sub, i_neg, i_mul, Int32.reduceToInt] at *; omega)), if_neg h4]
theorem m_mk_64 {g : Int32 → Int32} {r : Int32} (h64 : 0 ≤ g 64 ∧ g 64 < 6) : m_mk g r 64 = g 64 + 1 := by
  have a0 := m_at_num h64.1 h64.2 (show (0 : Int32) ≤ 0 by decide) (by decide)
  have a2 := m_at_num h64.1 h64.2 (show (0 : Int32) ≤ 2 by decide) (by decide)
  have a9 := m_at_num h64.1 h64.2 (show (0 : Int32) ≤ 9 by decide) (by decide)
  rw [m_mk_def]
  rw [if_neg (by (simp only [ne_eq, i_lt, i_le, i_eq, i_add, i_sub, i_neg, i_mul, Int32.reduceToInt] at *; omega)), if_neg (by (simp only [ne_eq, i_lt, i_le, i_eq, i_add, i_sub, i_neg, i_mul, Int32.reduceToInt] at *; omega)), if_neg (by (simp only [ne_eq, i_lt, i_le, i_eq, i_add, i_sub, i_neg, i_mul, Int32.reduceToInt] at *; omega)), if_pos rfl]
theorem m_make18 {fu : Nat} {S S' : fd_S} {g : Int32 → Int32} {r t : Int32} (hfu : 10000 ≤ fu) (hR : m_R S g) (hG : m_GR g) (h6 : g 64 < 6) (ht : t = g 63) (ht0 : 0 ≤ g 63) (hr : 0 ≤ r ∧ r < 32) (hno : ∀ i : Int32, 0 ≤ i → i < g 64 → ¬ g (zM_at i 0) = r) :
    ∃ S1, zQ_make_18 fu S r t = some (some (m_rw S (g 64)), S1) ∧ zM_makeRecord_60 fu (fd_sg S' g) r = some (g 64, fd_sg S' (m_mk g r)) ∧ m_R S1 (m_mk g r) ∧ m_GR (m_mk g r) ∧ m_Fc S S1 ∧ S1 3 2 = S 3 2 ∧ S1 4 = S 4 := by
  have h64 := hR.2.2.1
  have h31 := hR.2.1
  have hn : 0 ≤ g 64 ∧ g 64 < 6 := ⟨h64.1, h6⟩
  obtain ⟨hrow, -, -, hV, hC⟩ := hR
  have hrk := hrow.rk hn.1 hn.2
  have hrg := hrow.rg hn.1 hn.2
  have hrw : (8 + (S 4 (g 64)).toNatClampNeg) = m_rw S (g 64) := rfl
  unfold zQ_make_18 zR_begin
  simp only [fd_lt, h31, m_rc, hrw]
  rw [if_pos hn, if_pos hrk, if_pos hrk]
  simp only [Option.bind_some]
  have e64 := m_mk_64 (r := r) hn
  have hb : 0 ≤ g 64 + 1 ∧ g 64 + 1 ≤ 6 := by clear hV hC hG hno; (simp only [ne_eq, i_lt, i_le, i_eq, i_add, i_sub, i_neg, i_mul, Int32.reduceToInt] at *; omega)
  refine ⟨_, rfl, zM_makeRecord_60_eq hfu hn, ⟨?_, ?_, by rw [e64]; exact hb, ?_, ?_⟩, ⟨?_, ?_⟩, ?_, ?_, ?_⟩
  · repeat (refine m_rows_up (by omega) ?_)
    exact hrow
  · rw [e64]
    repeat rw [fd_up_ne (show 3 ≠ m_rw S (g 64) by omega)]
    rw [fd_up_at, if_pos rfl]
  · intro j j0 j1
    rw [e64] at j1
    have j6 : j < 6 := by clear hV hC hG hno; (simp only [ne_eq, i_lt, i_le, i_eq, i_add, i_sub, i_neg, i_mul, Int32.reduceToInt] at *; omega)
    unfold m_cV
    repeat rw [m_rw_up (by omega)]
    rw [m_mk_at hn j0 j6 (by decide) (by decide), m_mk_at hn j0 j6 (by decide) (by decide), m_mk_at hn j0 j6 (by decide) (by decide), m_mk_at hn j0 j6 (by decide) (by decide), m_mk_at hn j0 j6 (by decide) (by decide), m_mk_at hn j0 j6 (by decide) (by decide)]
    by_cases c : j = g 64
    · rw [c]
      simp [fd_up, ht]
    · have hne : m_rw S j ≠ m_rw S (g 64) := fun z => c (hrow.inj j0 j6 hn.1 hn.2 z)
      have hrj := hrow.rg j0 j6
      repeat rw [fd_up_ne hne]
      rw [fd_up_ne (by omega)]
      simp only [if_neg c]
      exact hV j j0 (by clear hV hC hG hno; (simp only [ne_eq, i_lt, i_le, i_eq, i_add, i_sub, i_neg, i_mul, Int32.reduceToInt] at *; omega))
  · intro j q j0 j1 q0 q4 q1
    rw [e64] at j1
    have j6 : j < 6 := by clear hV hC hG hno; (simp only [ne_eq, i_lt, i_le, i_eq, i_add, i_sub, i_neg, i_mul, Int32.reduceToInt] at *; omega)
    have hq : 0 ≤ 6 + q ∧ 6 + q < 10 := by clear hV hC hG hno; (simp only [ne_eq, i_lt, i_le, i_eq, i_add, i_sub, i_neg, i_mul, Int32.reduceToInt] at *; omega)
    rw [m_mk_at hn j0 j6 (by decide) (by decide)] at q1
    rw [m_mk_at hn j0 j6 hq.1 hq.2]
    by_cases c : j = g 64
    · rw [if_pos c, if_neg (by decide), if_neg (by decide)] at q1
      exact absurd q1 (by clear hV hC hG hno; (simp only [ne_eq, i_lt, i_le, i_eq, i_add, i_sub, i_neg, i_mul, Int32.reduceToInt] at *; omega))
    · rw [if_neg c] at q1 ⊢
      have hne : m_rw S j ≠ m_rw S (g 64) := fun z => c (hrow.inj j0 j6 hn.1 hn.2 z)
      have hrj := hrow.rg j0 j6
      have hc := hC j q j0 (by clear hV hC hG hno; (simp only [ne_eq, i_lt, i_le, i_eq, i_add, i_sub, i_neg, i_mul, Int32.reduceToInt] at *; omega)) q0 q4 q1
      unfold m_cK at hc ⊢
      repeat rw [m_rw_up (by omega)]
      repeat rw [fd_up_ne (show m_rw S j + 6 ≠ m_rw S (g 64) by omega)]
      rw [fd_up_ne (by omega)]
      exact hc
  · intro j j0 j1
    rw [e64] at j1
    have j6 : j < 6 := by clear hV hC hG hno; (simp only [ne_eq, i_lt, i_le, i_eq, i_add, i_sub, i_neg, i_mul, Int32.reduceToInt] at *; omega)
    rw [m_mk_at hn j0 j6 (by decide) (by decide), m_mk_at hn j0 j6 (by decide) (by decide), m_mk_at hn j0 j6 (by decide) (by decide), m_mk_at hn j0 j6 (by decide) (by decide), m_mk_at hn j0 j6 (by decide) (by decide), m_mk_out hn (by decide) (by decide)]
    by_cases c : j = g 64
    · simp only [if_pos c]
      refine ⟨by simpa using hr, by simp, ?_, by simp, by simp⟩
      simp only [if_true]
      exact ⟨ht0, Int32.le_refl _⟩
    · simp only [if_neg c]
      exact hG.1 j j0 (by clear hV hC hG hno; (simp only [ne_eq, i_lt, i_le, i_eq, i_add, i_sub, i_neg, i_mul, Int32.reduceToInt] at *; omega))
  · intro j k j0 j1 k0 k1
    rw [e64] at j1 k1
    have j6 : j < 6 := by clear hV hC hG hno; (simp only [ne_eq, i_lt, i_le, i_eq, i_add, i_sub, i_neg, i_mul, Int32.reduceToInt] at *; omega)
    have k6 : k < 6 := by clear hV hC hG hno; (simp only [ne_eq, i_lt, i_le, i_eq, i_add, i_sub, i_neg, i_mul, Int32.reduceToInt] at *; omega)
    rw [m_mk_at hn j0 j6 (by decide) (by decide), m_mk_at hn k0 k6 (by decide) (by decide)]
    by_cases c : j = g 64
    · by_cases d : k = g 64
      · intro _; rw [c, d]
      · simp only [if_pos c, if_neg d]
        intro e
        exact absurd e.symm (by simpa using hno k k0 (by clear hV hC hG hno; (simp only [ne_eq, i_lt, i_le, i_eq, i_add, i_sub, i_neg, i_mul, Int32.reduceToInt] at *; omega)))
    · by_cases d : k = g 64
      · simp only [if_neg c, if_pos d]
        intro e
        exact absurd e (by simpa using hno j j0 (by clear hV hC hG hno; (simp only [ne_eq, i_lt, i_le, i_eq, i_add, i_sub, i_neg, i_mul, Int32.reduceToInt] at *; omega)))
      · simp only [if_neg c, if_neg d]
        exact hG.2 j k j0 (by clear hV hC hG hno; (simp only [ne_eq, i_lt, i_le, i_eq, i_add, i_sub, i_neg, i_mul, Int32.reduceToInt] at *; omega)) k0 (by clear hV hC hG hno; (simp only [ne_eq, i_lt, i_le, i_eq, i_add, i_sub, i_neg, i_mul, Int32.reduceToInt] at *; omega))
  · intro k hk
    repeat rw [fd_up_ne (show k ≠ m_rw S (g 64) by omega)]
    rw [fd_up_ne (by omega)]
  · repeat rw [fd_up_ne (show 3 ≠ m_rw S (g 64) by omega)]
    rw [fd_up_at, if_neg (by decide)]
  · repeat rw [fd_up_ne (show 4 ≠ m_rw S (g 64) by omega)]
    rw [fd_up_ne (by decide)]
