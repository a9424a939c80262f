/-! ===== bounds, penalties, due ===== -/
def m_B (S : fd_S) (g : Int32 → Int32) : Prop := ∀ i : Int32, 0 ≤ i → i < 7 → S 2 i = g (32 + i)
def m_GB (g : Int32 → Int32) : Prop := (4 ≤ g 32 ∧ g 32 ≤ 200) ∧ (1 ≤ g 33 ∧ g 33 ≤ 50) ∧ (0 ≤ g 34 ∧ g 34 ≤ 2000) ∧ (0 ≤ g 35 ∧ g 35 ≤ 2000) ∧ (100 ≤ g 36 ∧ g 36 ≤ 9999) ∧ (50 ≤ g 37 ∧ g 37 ≤ 9999) ∧ (100 ≤ g 38 ∧ g 38 ≤ 20000)
/-- what the reference's tables hold -/
def m_K (S : fd_S) : Prop := (∀ p, p < 8 → S 74 (nI p) = nI (m_rowN p)) ∧ (∀ i : Int32, 0 ≤ i → i < 7 → S 76 i = fd_tl fd_least i ∧ S 77 i = fd_tl fd_most i) ∧ (∀ w j : Int32, 0 ≤ w → w < 7 → 0 ≤ j → j < zM_size w → S 75 (4 * w + j) = fd_sc (zT_nameOf w) j)
theorem m_B.e0 {S : fd_S} {g : Int32 → Int32} (h : m_B S g) : S 2 0 = g 32 := h 0 (by decide) (by decide)
theorem m_B.e1 {S : fd_S} {g : Int32 → Int32} (h : m_B S g) : S 2 1 = g 33 := h 1 (by decide) (by decide)
theorem m_B.e2 {S : fd_S} {g : Int32 → Int32} (h : m_B S g) : S 2 2 = g 34 := h 2 (by decide) (by decide)
theorem m_B.e3 {S : fd_S} {g : Int32 → Int32} (h : m_B S g) : S 2 3 = g 35 := h 3 (by decide) (by decide)
theorem m_B.e4 {S : fd_S} {g : Int32 → Int32} (h : m_B S g) : S 2 4 = g 36 := h 4 (by decide) (by decide)
theorem m_B.e5 {S : fd_S} {g : Int32 → Int32} (h : m_B S g) : S 2 5 = g 37 := h 5 (by decide) (by decide)
theorem m_B.e6 {S : fd_S} {g : Int32 → Int32} (h : m_B S g) : S 2 6 = g 38 := h 6 (by decide) (by decide)
theorem zM_bounded_eq {S : fd_S} {g : Int32 → Int32} (i : Int32) (h : 0 ≤ 32 + i ∧ 32 + i < 275) : zM_bounded (fd_sg S g) i = some (g (32 + i)) := by
  unfold zM_bounded
  rw [if_pos h, sg_78]
theorem zM_bd1 {S : fd_S} {g : Int32 → Int32} : zM_bounded (fd_sg S g) 1 = some (g 33) := zM_bounded_eq 1 (by decide)
theorem zM_bd2 {S : fd_S} {g : Int32 → Int32} : zM_bounded (fd_sg S g) 2 = some (g 34) := zM_bounded_eq 2 (by decide)
theorem zM_bd3 {S : fd_S} {g : Int32 → Int32} : zM_bounded (fd_sg S g) 3 = some (g 35) := zM_bounded_eq 3 (by decide)
theorem zM_bd4 {S : fd_S} {g : Int32 → Int32} : zM_bounded (fd_sg S g) 4 = some (g 36) := zM_bounded_eq 4 (by decide)
theorem zM_bd5 {S : fd_S} {g : Int32 → Int32} : zM_bounded (fd_sg S g) 5 = some (g 37) := zM_bounded_eq 5 (by decide)
theorem zM_bd6 {S : fd_S} {g : Int32 → Int32} : zM_bounded (fd_sg S g) 6 = some (g 38) := zM_bounded_eq 6 (by decide)
theorem m_nat {x : Int32} {M : Nat} (h0 : 0 ≤ x) (h : x ≤ nI M) (hM : M < 2 ^ 31) : ∃ n : Nat, n ≤ M ∧ x = nI n := by
  obtain ⟨n, hn, rfl⟩ := nI_of (Int32.not_lt.mpr h0)
  exact ⟨n, (nI_leI hn hM).mp h, rfl⟩
/-- LESSENED, both ways -/
theorem m_less {fu : Nat} {S S' : fd_S} {g : Int32 → Int32} {v t : Int32} (hfu : 10000 ≤ fu) (h0 : S 2 0 = g 32) (hg : 4 ≤ g 32 ∧ g 32 ≤ 200) (hK : ∀ p, p < 8 → S' 74 (nI p) = nI (m_rowN p)) (hv : 0 ≤ v ∧ v ≤ 20000) (ht : 0 ≤ t ∧ t ≤ 1000000) :
    ∃ P, zB_lessened S v t = some P ∧ zM_lessened fu (fd_sg S' g) v t = some P ∧ 0 ≤ P ∧ P ≤ v := by
  obtain ⟨h, hh, e1⟩ := m_nat (x := g 32) (M := 200) (by grind) hg.2 (by decide)
  obtain ⟨a, ha, rfl⟩ := m_nat (x := v) (M := 20000) hv.1 hv.2 (by decide)
  obtain ⟨c, hc, rfl⟩ := m_nat (x := t) (M := 1000000) ht.1 ht.2 (by decide)
  have h4 : 4 ≤ h := by
    have := hg.1
    rw [e1, show (4 : Int32) = nI 4 from rfl, nI_leI (by decide) (by omega)] at this
    exact this
  have hle := m_les_le h a c
  refine ⟨nI (m_les h a c), zB_lessened_eq (h0.trans e1) h4 hh ha (by omega), zM_lessened_eq (by omega) (fun p hp => by rw [sg_ne (by decide)]; exact hK p hp) (by rw [sg_78]; exact e1) h4 hh ha (by omega), nI_pos' (by omega), nI_le hle (by omega)⟩
theorem m_pen {fu : Nat} {S S' : fd_S} {g : Int32 → Int32} {i t : Int32} (hfu : 10000 ≤ fu) (hR : m_R S g) (hG : m_GR g) (hB : S 2 0 = g 32) (hGB : m_GB g) (hK : m_K S') (h0 : 0 ≤ i) (h1 : i < g 64) (ht : g (zM_at i 2) ≤ t) (ht2 : t ≤ 1000000) :
    ∃ P, zB_lessened S (S (m_rw S i) 1) (t - S (m_rw S i) 2) = some P ∧ zM_penaltyAt fu (fd_sg S' g) i t = some P ∧ 0 ≤ P ∧ P ≤ 20000 := by
  have hg := hG.1 i h0 h1
  have h6 : i < 6 := by have := hR.2.2.1; grind
  have hv := hR.2.2.2.1 i h0 h1
  unfold m_cV at hv
  rw [hv.2.1, hv.2.2.1]
  obtain ⟨P, p1, p2, p3, p4⟩ := m_less (v := g (zM_at i 1)) (t := t - g (zM_at i 2)) hfu hB hGB.1 hK.1 ⟨hg.2.1.1, hg.2.1.2⟩ (by have := hg.2.2.1; grind)
  refine ⟨P, p1, ?_, p3, by grind⟩
  unfold zM_penaltyAt
  rw [if_pos (m_at_in h0 h6 (by decide) (by decide)), if_pos (m_at_in h0 h6 (by decide) (by decide)), sg_78, sg_78, p2]
  rfl
theorem m_penaltyAt {fu : Nat} {S S' : fd_S} {g : Int32 → Int32} {i t : Int32} (hfu : 10000 ≤ fu) (hR : m_R S g) (hG : m_GR g) (hB : S 2 0 = g 32) (hGB : m_GB g) (hK : m_K S') (h0 : 0 ≤ i) (h1 : i < g 64) (ht : g (zM_at i 2) ≤ t) (ht2 : t ≤ 1000000) :
    ∃ P, zS_penaltyAt S (some (m_rw S i)) t = some P ∧ zM_penaltyAt fu (fd_sg S' g) i t = some P ∧ 0 ≤ P ∧ P ≤ 20000 := by
  obtain ⟨P, p1, p2, p3⟩ := m_pen hfu hR hG hB hGB hK h0 h1 ht ht2
  refine ⟨P, ?_, p2, p3⟩
  have h6 : i < 6 := by have := hR.2.2.1; grind
  unfold zS_penaltyAt fd_on
  dsimp only
  rw [if_pos (hR.1.rk h0 h6), p1]
  rfl
theorem m_below {fu : Nat} {S S' : fd_S} {g : Int32 → Int32} {i t : Int32} (hfu : 10000 ≤ fu) (hR : m_R S g) (hG : m_GR g) (hB : m_B S g) (hGB : m_GB g) (hK : m_K S') (h0 : 0 ≤ i) (h1 : i < g 64) (ht : g (zM_at i 2) ≤ t) (ht2 : t ≤ 1000000) :
    ∃ P, zS_isBelowBack S (m_rw S i) t = some (if P < g 37 then 1 else 0) ∧ zM_penaltyAt fu (fd_sg S' g) i t = some P ∧ 0 ≤ P ∧ P ≤ 20000 := by
  obtain ⟨P, p1, p2, p3⟩ := m_pen hfu hR hG hB.e0 hGB hK h0 h1 ht ht2
  refine ⟨P, ?_, p2, p3⟩
  have h6 : i < 6 := by have := hR.2.2.1; grind
  unfold zS_isBelowBack
  rw [if_pos (hR.1.rk h0 h6), p1, Option.bind_some, hB.e5]
  by_cases c : g 37 ≤ P
  · rw [if_pos c, if_neg (by grind)]
  · rw [if_neg c, if_pos (by grind)]
theorem m_due_loop {fu : Nat} {S S' : fd_S} {g : Int32 → Int32} {i : Int32} (hfu : 10000 ≤ fu) (hR : m_R S g) (hG : m_GR g) (hB : m_B S g) (hGB : m_GB g) (hK : m_K S') (h0 : 0 ≤ i) (h1 : i < g 64) :
    ∀ (n : Nat) (L k : Int32), m_ms 8 k < n → 0 ≤ k → k ≤ 7 → g (zM_at i 2) ≤ L + g 33 → 0 ≤ L → L ≤ 500000 + 50 * k → ∃ d, zS_dueAfter_24 fu n S (m_rw S i) (g 33) L k = some d ∧ zM_dueAfter_18 fu n (fd_sg S' g) i (g 33) (L + g 33) k = some d := by
  intro n
  induction n with
  | zero => intro L k h; omega
  | succ n ih =>
    intro L k hn k0 k7 hL hL0 hL2
    have hs := hGB.2.1
    rw [zS_dueAfter_24, zM_dueAfter_18]
    simp only [fd_lt]
    obtain ⟨P, p1, p2, p3⟩ := m_below (t := L + g 33) hfu hR hG hB hGB hK h0 h1 hL (by grind)
    have hm := m_ms_up (N := 8) (x := k) (by grind)
    rw [if_neg (by grind), p1, p2, zM_bd5]
    simp only [Option.bind_some]
    by_cases c7 : 7 ≤ k
    · rw [if_pos c7]
      refine ⟨L + g 33, ?_, rfl⟩
      by_cases cP : P < g 37
      · rw [if_pos cP, if_neg (by decide)]
      · rw [if_neg cP, if_pos rfl]
        obtain ⟨n, rfl⟩ : ∃ n', n = n' + 1 := ⟨n - 1, by omega⟩
        rw [zS_dueAfter_24, if_pos (by grind)]
    · rw [if_neg c7]
      by_cases cP : P < g 37
      · rw [if_pos cP, if_pos cP, if_neg (by decide)]
        exact ⟨_, rfl, rfl⟩
      · rw [if_neg cP, if_neg cP, if_pos rfl]
        exact ih (L + g 33) (k + 1) (by omega) (by grind) (by grind) (by grind) (by grind) (by grind)
theorem m_divle {x y : Int32} (hx : 0 ≤ x) (hy : 1 ≤ y) (hx2 : x ≤ 1000000) (hy2 : y ≤ 1000000) : 0 ≤ x / y * y ∧ x / y * y ≤ x ∧ x < x / y * y + y ∧ 0 ≤ x / y ∧ x / y ≤ x := by
  obtain ⟨a, ha, rfl⟩ := m_nat (x := x) (M := 1000000) hx hx2 (by decide)
  obtain ⟨b, hb, rfl⟩ := m_nat (x := y) (M := 1000000) (by grind) hy2 (by decide)
  have hb1 : 1 ≤ b := by
    rw [show (1 : Int32) = nI 1 from rfl, nI_leI (by decide) (by omega)] at hy
    exact hy
  have h1 : a / b * b ≤ a := Nat.div_mul_le_self a b
  have h2 : a < a / b * b + b := by
    have := Nat.lt_div_mul_add (a := a) (b := b) (by omega)
    omega
  have h3 : a / b ≤ a := Nat.div_le_self _ _
  rw [pk_div (by omega) (by omega) (by omega), pk_mul]
  exact ⟨nI_pos' (by omega), nI_le h1 (by omega), by rw [nI_add]; exact nI_lt h2 (by omega), nI_pos' (by omega), nI_le h3 (by omega)⟩
theorem m_due {fu : Nat} {S S' : fd_S} {g : Int32 → Int32} {i t : Int32} (hfu : 10000 ≤ fu) (hR : m_R S g) (hG : m_GR g) (hB : m_B S g) (hGB : m_GB g) (hK : m_K S') (h0 : 0 ≤ i) (h1 : i < g 64) (ht0 : 0 ≤ t) (ht : g (zM_at i 2) ≤ t) (ht2 : t ≤ 500000) :
    ∃ d, zS_dueAfter fu S (m_rw S i) t = some d ∧ zM_dueAfter fu (fd_sg S' g) i t = some d := by
  unfold zS_dueAfter zM_dueAfter
  have hs := hGB.2.1
  have hmx : fd_max (S 2 1) 1 = g 33 := by
    unfold fd_max
    rw [hB.e1]
    grind
  simp only [fd_lt, hmx, zM_bd1, Option.bind_some]
  rw [if_pos (by grind), if_pos (by grind)]
  have hd := m_divle (x := t) (y := g 33) ht0 hs.1 (by grind) (by grind)
  have e : t - fd_rem t (g 33) = t / g 33 * g 33 := by
    unfold fd_rem
    grind
  rw [e]
  exact m_due_loop hfu hR hG hB hGB hK h0 h1 fu _ 0 (m_ms_fu (by decide) (by decide) hfu) (by decide) (by decide) (by grind) (by grind) (by grind)
