/-! ===== LESSENED ===== -/
def m_rowN (p : Nat) : Nat := [65536, 60097, 55109, 50535, 46341, 42495, 38968, 35734].getD p 0
def m_les (h v t : Nat) : Nat := (v / 2 ^ (t / h)) * m_rowN (8 * (t % h) / h) / 65536
theorem m_row_le (p : Nat) : m_rowN p ≤ 65536 := by
  have h : ∀ x ∈ [65536, 60097, 55109, 50535, 46341, 42495, 38968, 35734], x ≤ 65536 := by decide
  unfold m_rowN
  rw [List.getD_eq_getElem?_getD]
  cases hk : ([65536, 60097, 55109, 50535, 46341, 42495, 38968, 35734] : List Nat)[p]? with
  | none => simp
  | some x => exact h x (List.mem_of_getElem? hk)
theorem m_les_le (h v t : Nat) : m_les h v t ≤ v := by
  unfold m_les
  have h1 : v / 2 ^ (t / h) ≤ v := Nat.div_le_self _ _
  have h2 := m_row_le (8 * (t % h) / h)
  apply Nat.div_le_of_le_mul
  calc v / 2 ^ (t / h) * m_rowN (8 * (t % h) / h) ≤ v * 65536 := Nat.mul_le_mul h1 h2
    _ = 65536 * v := Nat.mul_comm _ _
theorem m_tlrow : ∀ p, p < 8 → fd_tl fd_row (nI p) = nI (m_rowN p) := by decide
theorem m_sl : ∀ n, n < 32 → ((nI n &&& 31).toBitVec.smod 32).toNat = n := by decide
theorem m_pl {t h : Nat} (hh : 0 < h) : 8 * (t % h) / h < 8 := by
  have := Nat.mod_lt t hh
  exact Nat.div_lt_of_lt_mul (by omega)
theorem m_pow0 {a q : Nat} (ha : a ≤ 20000) (hq : 15 ≤ q) : a / 2 ^ q = 0 := by
  apply Nat.div_eq_of_lt
  calc a < 2 ^ 15 := by omega
    _ ≤ 2 ^ q := Nat.pow_le_pow_right (by decide) hq
theorem m_rem {a d : Nat} (ha : a < 2 ^ 31) (h0 : 0 < d) (hd : d < 2 ^ 31) : fd_rem (nI a) (nI d) = nI (a % d) := pk_rem ha h0 hd
theorem m_8 (n : Nat) : (8 : Int32) * nI n = nI (8 * n) := by
  rw [show (8 : Int32) = nI 8 from rfl, pk_mul]
theorem zB_lessened_eq {S : fd_S} {h a c : Nat} (hh : S 2 0 = nI h) (h4 : 4 ≤ h) (h200 : h ≤ 200) (ha : a ≤ 20000) (hc : c < 2 ^ 20) : zB_lessened S (nI a) (nI c) = some (nI (m_les h a c)) := by
  unfold zB_lessened
  simp only [fd_lt, hh]
  have hp := m_pl (t := c) (h := h) (by omega)
  have hmod := Nat.mod_lt c (show 0 < h by omega)
  have hq : c / h < 2 ^ 20 := Nat.lt_of_le_of_lt (Nat.div_le_self _ _) hc
  have e0 : ¬ nI h = 0 := nI_ne0 (by omega) (by omega)
  rw [if_neg (by rw [show (1 : Int32) = nI 1 from rfl]; exact nI_nlt (by omega) (by omega)), if_pos (nI_pos' (by omega)), if_pos e0, pk_div (by omega) (by omega) (by omega)]
  by_cases c1 : c / h ≤ 30
  · rw [if_pos (by rw [show (30 : Int32) = nI 30 from rfl]; exact nI_le c1 (by omega)), if_pos e0, if_pos e0, m_rem (by omega) (by omega) (by omega), m_8, pk_div (by omega) (by omega) (by omega), if_pos ⟨nI_pos' (by omega), by rw [show (8 : Int32) = nI 8 from rfl]; exact nI_lt hp (by omega)⟩, m_tlrow _ hp, pk_shrN (by omega) _ (c / h) (m_sl _ (by omega))]
    have h1 : a / 2 ^ (c / h) ≤ a := Nat.div_le_self _ _
    have h2 := m_row_le (8 * (c % h) / h)
    have h3 : a / 2 ^ (c / h) * m_rowN (8 * (c % h) / h) ≤ 20000 * 65536 := Nat.mul_le_mul (by omega) h2
    rw [nI_l (by omega), nI_l (by omega), lN_mul, show (65536 : Int64) = lN 65536 from rfl, pk_lDiv (by omega) (by omega) (by omega), lN_i]
    rfl
  · rw [if_neg (by rw [show (30 : Int32) = nI 30 from rfl]; exact nI_ge (by omega) (by omega))]
    unfold m_les
    rw [m_pow0 ha (by omega)]
    simp [nI]
theorem zM_lessened_37_eq {fu : Nat} {S : fd_S} {h v c : Nat} (hr : ∀ p, p < 8 → S 74 (nI p) = nI (m_rowN p)) (h4 : 4 ≤ h) (h200 : h ≤ 200) (hv : v ≤ 20000) (hc : c < 2 ^ 20) : zM_lessened_37 fu S (nI c) (nI h) (nI v) = some (nI (v * m_rowN (8 * (c % h) / h) / 65536)) := by
  unfold zM_lessened_37
  have hp := m_pl (t := c) (h := h) (by omega)
  have hmod := Nat.mod_lt c (show 0 < h by omega)
  have e0 : ¬ nI h = 0 := nI_ne0 (by omega) (by omega)
  have h2 := m_row_le (8 * (c % h) / h)
  have h3 : v * m_rowN (8 * (c % h) / h) ≤ 20000 * 65536 := Nat.mul_le_mul (by omega) h2
  rw [if_pos e0, if_pos e0, m_rem (by omega) (by omega) (by omega), m_8, pk_div (by omega) (by omega) (by omega), if_pos ⟨nI_pos' (by omega), by rw [show (8 : Int32) = nI 8 from rfl]; exact nI_lt hp (by omega)⟩, hr _ hp, pk_mul, show (65536 : Int32) = nI 65536 from rfl, pk_div (by omega) (by omega) (by omega)]
theorem zM_lessened_12_eq {fu : Nat} {S : fd_S} {h a c : Nat} (hr : ∀ p, p < 8 → S 74 (nI p) = nI (m_rowN p)) (h4 : 4 ≤ h) (h200 : h ≤ 200) (ha : a ≤ 20000) (hc : c < 2 ^ 20) : ∀ (m k n : Nat), k + m = 16 → m < n → k ≤ c / h → zM_lessened_12 fu n S (nI c) (nI h) (nI (a / 2 ^ k)) (nI k) = some (nI (m_les h a c)) := by
  have e0 : ¬ nI h = 0 := nI_ne0 (by omega) (by omega)
  have hq : c / h < 2 ^ 20 := Nat.lt_of_le_of_lt (Nat.div_le_self _ _) hc
  intro m
  induction m with
  | zero =>
    intro k n hk hn hkq
    obtain ⟨n, rfl⟩ : ∃ n', n = n' + 1 := ⟨n - 1, by omega⟩
    rw [zM_lessened_12, if_pos e0, pk_div (by omega) (by omega) (by omega), m_pow0 ha (by omega)]
    have e1 := zM_lessened_37_eq (fu := fu) (v := 0) hr h4 h200 (by omega) hc
    have e2 : m_les h a c = 0 * m_rowN (8 * (c % h) / h) / 65536 := by
      unfold m_les
      rw [m_pow0 ha (by omega)]
    rw [e2, e1]
    split
    · rfl
    · rw [if_pos (by decide)]
  | succ m ih =>
    intro k n hk hn hkq
    obtain ⟨n, rfl⟩ : ∃ n', n = n' + 1 := ⟨n - 1, by omega⟩
    have hle : a / 2 ^ k ≤ a := Nat.div_le_self _ _
    rw [zM_lessened_12, if_pos e0, pk_div (by omega) (by omega) (by omega)]
    by_cases c1 : c / h ≤ k
    · rw [if_pos (nI_le c1 (by omega)), zM_lessened_37_eq hr h4 h200 (by omega) hc]
      have : k = c / h := by omega
      subst this
      rfl
    · rw [if_neg (nI_ge (by omega) (by omega))]
      by_cases c2 : a / 2 ^ k = 0
      · rw [if_pos (by rw [c2]; decide), zM_lessened_37_eq hr h4 h200 (by omega) hc, c2]
        unfold m_les
        have h5 : a / 2 ^ (c / h) = 0 := by
          have h6 : a / 2 ^ (c / h) ≤ a / 2 ^ k := Nat.div_le_div_left (Nat.pow_le_pow_right (by decide) hkq) (Nat.two_pow_pos k)
          rw [c2] at h6
          exact Nat.le_zero.mp h6
        rw [h5]
      · rw [if_neg (nI_nle (Nat.pos_of_ne_zero c2) (by omega))]
        simp only [fd_lt]
        rw [show (2 : Int32) = nI 2 from rfl, pk_div (by omega) (by omega) (by omega), nI_1, Nat.div_div_eq_div_mul, ← Nat.pow_succ]
        exact ih (k + 1) n (by omega) (by omega) (by omega)
theorem zM_lessened_eq {fu : Nat} {S : fd_S} {h a c : Nat} (hfu : 20 ≤ fu) (hr : ∀ p, p < 8 → S 74 (nI p) = nI (m_rowN p)) (hh : S 78 32 = nI h) (h4 : 4 ≤ h) (h200 : h ≤ 200) (ha : a ≤ 20000) (hc : c < 2 ^ 20) : zM_lessened fu S (nI a) (nI c) = some (nI (m_les h a c)) := by
  unfold zM_lessened zM_bounded
  rw [if_pos (by decide)]
  have := zM_lessened_12_eq (fu := fu) hr h4 h200 ha hc 16 0 fu (by omega) (by omega) (Nat.zero_le _)
  simp only [Option.bind_some]
  rw [show (32 : Int32) + 0 = 32 from rfl, hh]
  rw [Nat.pow_zero, Nat.div_one] at this
  exact this
