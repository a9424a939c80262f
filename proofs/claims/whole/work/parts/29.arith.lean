/-! ===== Int32 for omega ===== -/
theorem i_lt {a b : Int32} : a < b ↔ a.toInt < b.toInt := Int32.lt_iff_toInt_lt
theorem i_le {a b : Int32} : a ≤ b ↔ a.toInt ≤ b.toInt := Int32.le_iff_toInt_le
theorem i_eq {a b : Int32} : a = b ↔ a.toInt = b.toInt := Int32.toInt_inj.symm
theorem i_bm (x : Int) : x.bmod (2 ^ 32) = (x + 2147483648) % 4294967296 - 2147483648 := by
  rw [Int.bmod_def]
  split <;> omega
theorem i_add (a b : Int32) : (a + b).toInt = (a.toInt + b.toInt + 2147483648) % 4294967296 - 2147483648 := by rw [Int32.toInt_add, i_bm]
theorem i_sub (a b : Int32) : (a - b).toInt = (a.toInt - b.toInt + 2147483648) % 4294967296 - 2147483648 := by rw [Int32.toInt_sub, i_bm]
theorem i_mul (a b : Int32) : (a * b).toInt = (a.toInt * b.toInt + 2147483648) % 4294967296 - 2147483648 := by rw [Int32.toInt_mul, i_bm]
theorem i_neg (a : Int32) : (-a).toInt = (-a.toInt + 2147483648) % 4294967296 - 2147483648 := by rw [Int32.toInt_neg, i_bm]
theorem ar_t1 {x n : Int32} (hn : 1 ≤ n ∧ n ≤ 6) (c1 : ¬ n - 1 ≤ x) (x0 : 0 ≤ x) : 0 ≤ x + 1 ∧ x + 1 < 6 ∧ x < 6 ∧ x + 1 ≤ n - 1 := by
  simp only [i_lt, i_le, i_eq, i_add, i_sub, Int32.reduceToInt] at *
  omega
def m_pm (n r b : Int32) : Int32 := if b < r then b else if b < n - 1 then b + 1 else if b = n - 1 then r else b
theorem m_pm_rg {n r b : Int32} (hn : 1 ≤ n ∧ n ≤ 6) (hr : 0 ≤ r ∧ r < n) (b0 : 0 ≤ b) (b6 : b < 6) : 0 ≤ m_pm n r b ∧ m_pm n r b < 6 := by
  unfold m_pm
  repeat' split
  all_goals simp only [i_lt, i_le, i_eq, i_add, i_sub, Int32.reduceToInt] at *
  all_goals omega
theorem m_pm_inj {n r b c : Int32} (hn : 1 ≤ n ∧ n ≤ 6) (hr : 0 ≤ r ∧ r < n) (b0 : 0 ≤ b) (b6 : b < 6) (c0 : 0 ≤ c) (c6 : c < 6) (h : m_pm n r b = m_pm n r c) : b = c := by
  unfold m_pm at h
  repeat' split at h
  all_goals simp only [i_lt, i_le, i_eq, i_add, i_sub, Int32.reduceToInt] at *
  all_goals omega
theorem m_pm_lo {n r j : Int32} (hn : 1 ≤ n ∧ n ≤ 6) (hr : 0 ≤ r ∧ r < n) (j0 : 0 ≤ j) (j1 : j < n - 1) : 0 ≤ m_pm n r j ∧ m_pm n r j < n ∧ j < 6 := by
  unfold m_pm
  repeat' split
  all_goals simp only [i_lt, i_le, i_eq, i_add, i_sub, Int32.reduceToInt] at *
  all_goals omega
