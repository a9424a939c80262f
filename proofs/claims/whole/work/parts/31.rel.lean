/-! ===== the reference's row of numbers, the component's records ===== -/
def fd_sg (S : fd_S) (g : Int32 → Int32) : fd_S := fun a b => if a = 78 then g b else S a b
def m_gu (g : Int32 → Int32) (j v : Int32) : Int32 → Int32 := fun b => if b = j then v else g b
theorem sg_78 (S : fd_S) (g : Int32 → Int32) (j : Int32) : fd_sg S g 78 j = g j := by
  unfold fd_sg
  exact if_pos rfl
theorem sg_ne {S : fd_S} {g : Int32 → Int32} {k : Nat} (h : k ≠ 78) : fd_sg S g k = S k := by
  funext b
  simp [fd_sg, h]
theorem sg_up (S : fd_S) (g : Int32 → Int32) (j v : Int32) : fd_up (fd_sg S g) 78 j v = fd_sg S (m_gu g j v) := by
  funext a b
  unfold fd_up fd_sg m_gu
  split <;> rfl
theorem sg_self (S : fd_S) : fd_sg S (S 78) = S := by
  funext a b
  unfold fd_sg
  split
  · next h => rw [h]
  · rfl
def m_ms (N x : Int32) : Nat := (N.toInt - x.toInt).toNat
def m_md (L x : Int32) : Nat := (x.toInt - L.toInt + 1).toNat
theorem m_toInt_succ {x N : Int32} (h : ¬ N ≤ x) : (x + 1).toInt = x.toInt + 1 := by
  have h1 := Int32.toInt_lt N
  have h2 : x.toInt < N.toInt := by
    have := Int32.not_le.mp h
    exact Int32.lt_iff_toInt_lt.mp this
  have h3 := Int32.le_toInt x
  rw [Int32.toInt_add]
  have : (1 : Int32).toInt = 1 := by decide
  rw [this]
  apply Int.bmod_eq_of_le <;> omega
theorem m_toInt_pred {x L : Int32} (h : ¬ x < L) (hL : 0 ≤ L) : (x + (-1)).toInt = x.toInt - 1 := by
  have h1 := Int32.toInt_lt x
  have h2 : L.toInt ≤ x.toInt := Int32.le_iff_toInt_le.mp (Int32.not_lt.mp h)
  have h3 : (0 : Int) ≤ L.toInt := by simpa using Int32.le_iff_toInt_le.mp hL
  rw [Int32.toInt_add]
  have : (-1 : Int32).toInt = -1 := by decide
  rw [this]
  apply Int.bmod_eq_of_le <;> omega
theorem m_ms_up {N x : Int32} (h : ¬ N ≤ x) : m_ms N (x + 1) < m_ms N x := by
  unfold m_ms
  rw [m_toInt_succ h]
  have h2 : x.toInt < N.toInt := Int32.lt_iff_toInt_lt.mp (Int32.not_le.mp h)
  omega
theorem m_md_dn {L x : Int32} (h : ¬ x < L) (hL : 0 ≤ L) : m_md L (x + (-1)) < m_md L x := by
  unfold m_md
  rw [m_toInt_pred h hL]
  have h2 : L.toInt ≤ x.toInt := Int32.le_iff_toInt_le.mp (Int32.not_lt.mp h)
  omega
theorem m_ms_fu {N x : Int32} {fu : Nat} (h0 : 0 ≤ x) (hN : N ≤ 6000) (hf : 10000 ≤ fu) : m_ms N x < fu := by
  unfold m_ms
  have h1 : (0 : Int) ≤ x.toInt := by simpa using Int32.le_iff_toInt_le.mp h0
  have h2 : N.toInt ≤ 6000 := Int32.le_iff_toInt_le.mp hN
  omega
theorem m_md_fu {L x : Int32} {fu : Nat} (h0 : 0 ≤ L) (hN : x ≤ 6000) (hf : 10000 ≤ fu) : m_md L x < fu := by
  unfold m_md
  have h1 : (0 : Int) ≤ L.toInt := by simpa using Int32.le_iff_toInt_le.mp h0
  have h2 : x.toInt ≤ 6000 := Int32.le_iff_toInt_le.mp hN
  omega
theorem m_at_in {i f : Int32} (h0 : 0 ≤ i) (h1 : i < 6) (h2 : 0 ≤ f) (h3 : f < 10) : 0 ≤ zM_at i f ∧ zM_at i f < 275 := by
  unfold zM_at
  grind
theorem m_at_rg {i f : Int32} (h0 : 0 ≤ i) (h1 : i < 6) (h2 : 0 ≤ f) (h3 : f < 10) : 71 ≤ zM_at i f ∧ zM_at i f < 131 := by
  unfold zM_at
  grind
theorem m_at_inj {i f i' f' : Int32} (h0 : 0 ≤ i) (h1 : i < 6) (h2 : 0 ≤ f) (h3 : f < 10) (g0 : 0 ≤ i') (g1 : i' < 6) (g2 : 0 ≤ f') (g3 : f' < 10) (h : zM_at i f = zM_at i' f') : i = i' ∧ f = f' := by
  unfold zM_at at h
  grind
/-- the cell of the i-th record -/
def m_rw (S : fd_S) (i : Int32) : Nat := 8 + (S 4 i).toNatClampNeg
theorem m_rc (v : Int32) : fd_rc 4 v = 8 + v.toNatClampNeg := by
  unfold fd_rc
  omega
def m_cV (S : fd_S) (i f : Int32) : Int32 := S (m_rw S i) f
def m_cK (S : fd_S) (i j : Int32) : Int32 := S (m_rw S i + 6) j
def m_rows (S : fd_S) : Prop := (∀ i : Int32, 0 ≤ i → i < 6 → 0 ≤ S 4 i ∧ S 4 i < 6) ∧ ∀ i j : Int32, 0 ≤ i → i < 6 → 0 ≤ j → j < 6 → S 4 i = S 4 j → i = j
theorem m_cl {x : Int32} (h0 : 0 ≤ x) (h6 : x < 6) : x.toNatClampNeg < 6 := by
  have h1 : x.toInt < 6 := Int32.lt_iff_toInt_lt.mp h6
  unfold Int32.toNatClampNeg
  omega
theorem m_cl_inj {x y : Int32} (h0 : 0 ≤ x) (h1 : 0 ≤ y) (h : x.toNatClampNeg = y.toNatClampNeg) : x = y := by
  rw [← fd_ix_of h0, ← fd_ix_of h1, h]
theorem m_rows.rg {S : fd_S} (h : m_rows S) {i : Int32} (h0 : 0 ≤ i) (h1 : i < 6) : 8 ≤ m_rw S i ∧ m_rw S i < 14 := by
  have := h.1 i h0 h1
  have := m_cl this.1 this.2
  unfold m_rw
  omega
theorem m_rows.rk {S : fd_S} (h : m_rows S) {i : Int32} (h0 : 0 ≤ i) (h1 : i < 6) : fd_rk (m_rw S i) := by
  have := h.rg h0 h1
  refine ⟨by omega, by omega, by omega⟩
theorem m_rows.inj {S : fd_S} (h : m_rows S) {i j : Int32} (h0 : 0 ≤ i) (h1 : i < 6) (g0 : 0 ≤ j) (g1 : j < 6) (e : m_rw S i = m_rw S j) : i = j := by
  refine h.2 i j h0 h1 g0 g1 (m_cl_inj (h.1 i h0 h1).1 (h.1 j g0 g1).1 ?_)
  unfold m_rw at e
  omega
/-- the records of the component and of the reference -/
def m_R (S : fd_S) (g : Int32 → Int32) : Prop :=
  m_rows S ∧ S 3 1 = g 64 ∧ (0 ≤ g 64 ∧ g 64 ≤ 6) ∧
  (∀ i : Int32, 0 ≤ i → i < g 64 → m_cV S i 0 = g (zM_at i 0) ∧ m_cV S i 1 = g (zM_at i 1) ∧ m_cV S i 2 = g (zM_at i 2) ∧ m_cV S i 3 = g (zM_at i 3) ∧ m_cV S i 4 = g (zM_at i 4) ∧ m_cV S i 6 = g (zM_at i 5)) ∧
  (∀ i j : Int32, 0 ≤ i → i < g 64 → 0 ≤ j → j < 4 → j < g (zM_at i 5) → m_cK S i j = g (zM_at i (6 + j)))
/-- the records' own laws -/
def m_GR (g : Int32 → Int32) : Prop :=
  (∀ i : Int32, 0 ≤ i → i < g 64 → (0 ≤ g (zM_at i 0) ∧ g (zM_at i 0) < 32) ∧ (0 ≤ g (zM_at i 1) ∧ g (zM_at i 1) ≤ 20000) ∧ (0 ≤ g (zM_at i 2) ∧ g (zM_at i 2) ≤ g 63) ∧ (g (zM_at i 3) = 0 ∨ g (zM_at i 3) = 1) ∧ (0 ≤ g (zM_at i 5) ∧ g (zM_at i 5) ≤ 4)) ∧
  (∀ i j : Int32, 0 ≤ i → i < g 64 → 0 ≤ j → j < g 64 → g (zM_at i 0) = g (zM_at j 0) → i = j)
