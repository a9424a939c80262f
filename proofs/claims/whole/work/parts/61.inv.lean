/-! ===== what holds between two calls ===== -/
def m_bd (g : Int32 → Int32) (n : Nat) : Prop := (g 63).toInt ≤ 200 * (n : Int) ∧ (0 ≤ (g 70).toInt ∧ (g 70).toInt ≤ 2000 * (n : Int))
def m_ig (S : fd_S) (w : Int32) : Int32 → Int32 := fun j => S 79 (275 * w + j)
def m_Im (S : fd_S) (b : Nat) (w : Int32) (n : Nat) : Prop := m_St (m_vw S b) (m_ig S w) ∧ m_Go (m_ig S w) ∧ m_bd (m_ig S w) n
def m_I (S : fd_S) (n : Nat) : Prop := m_St S (S 78) ∧ m_Go (S 78) ∧ m_bd (S 78) n ∧ m_K S ∧ m_TX S S ∧ (S 70 0 = S 80 0 ∧ S 70 1 = S 80 1) ∧ (m_rows (m_vw S 23) ∧ m_rows (m_vw S 46)) ∧ (¬ S 80 0 = 0 → m_Im S 23 0 n) ∧ (¬ S 80 1 = 0 → m_Im S 46 1 n)
theorem m_bd_up {g : Int32 → Int32} {n n' : Nat} (h : m_bd g n) (hn : n ≤ n') : m_bd g n' := by
  unfold m_bd at h ⊢
  omega
theorem m_bd_c {g g1 : Int32 → Int32} {n n' : Nat} (h : m_bd g n) (hn : n ≤ n') (e3 : g1 63 = g 63) (e7 : g1 70 = g 70) : m_bd g1 n' := by
  unfold m_bd at h ⊢
  rw [e3, e7]
  omega
theorem m_Im_c {S T : fd_S} {b : Nat} {w : Int32} {n n' : Nat} (h : m_Im S b w n) (e : ∀ k : Nat, b ≤ k → k < b + 23 → T k = S k) (e79 : ∀ j : Int32, 0 ≤ j → j < 275 → T 79 (275 * w + j) = S 79 (275 * w + j)) (hn : n ≤ n') : m_Im T b w n' := by
  refine ⟨m_St_S (S := m_vw S b) (m_St_g h.1 e79) (fun k hk => ?_), m_Go_g h.1.R.2.2.1.2 h.2.1 e79, m_bd_c h.2.2 hn (e79 _ (by decide) (by decide)) (e79 _ (by decide) (by decide))⟩
  show T (b + k) = S (b + k)
  exact e _ (by omega) (by omega)
theorem m_K_c {S T : fd_S} (h : m_K S) (e : ∀ k : Nat, 74 ≤ k → k < 78 → T k = S k) : m_K T := by
  unfold m_K at h ⊢
  rw [e 74 (by omega) (by omega), e 75 (by omega) (by omega), e 76 (by omega) (by omega), e 77 (by omega) (by omega)]
  exact h
theorem m_TX_c {S S' T T' : fd_S} (h : m_TX S S') (e1 : T 71 = S 71) (e2 : T 72 = S 72) (e3 : T' 73 = S' 73) (e4 : T' 81 = S' 81) : m_TX T T' := by
  unfold m_TX at h ⊢
  rw [e1, e2, e3, e4]
  exact h
theorem m_I_keep {S T : fd_S} {n : Nat} (h : m_I S n) (hS : m_St T (T 78)) (hg : m_Go (T 78)) (hb : m_bd (T 78) (n + 1)) (hx : m_TX T T) (e : ∀ k : Nat, (23 ≤ k ∧ k < 69) ∨ k = 70 ∨ (74 ≤ k ∧ k < 78) ∨ k = 79 ∨ k = 80 → T k = S k) : m_I T (n + 1) := by
  obtain ⟨-, -, -, hK, -, hk, hr, i0, i1⟩ := h
  refine ⟨hS, hg, hb, m_K_c hK (fun k h1 h2 => e k (by omega)), hx, ?_, ⟨m_rows_c hr.1 ?_, m_rows_c hr.2 ?_⟩, ?_, ?_⟩
  · rw [e 70 (by omega), e 80 (by omega)]
    exact hk
  · show T (23 + 4) = S (23 + 4)
    exact e _ (by omega)
  · show T (46 + 4) = S (46 + 4)
    exact e _ (by omega)
  · rw [e 80 (by omega)]
    intro c
    exact m_Im_c (i0 c) (fun k h1 h2 => e k (by omega)) (fun j _ _ => by rw [e 79 (by omega)]) (by omega)
  · rw [e 80 (by omega)]
    intro c
    exact m_Im_c (i1 c) (fun k h1 h2 => e k (by omega)) (fun j _ _ => by rw [e 79 (by omega)]) (by omega)
theorem m_I_up {S : fd_S} {n : Nat} (h : m_I S n) : m_I S (n + 1) := m_I_keep h h.1 h.2.1 (m_bd_up h.2.2.1 (by omega)) h.2.2.2.2.1 (fun _ _ => rfl)
def m_ok (c m : fd_S → Option (Int32 × fd_S)) : Prop := ∀ (S : fd_S) (n : Nat), n < 512 → m_I S n → fd_h S → ∃ r S1 S2, c S = some (r, S1) ∧ m S1 = some (r, S2) ∧ m_I S2 (n + 1)
def m_okY (c m : fd_S → Option Int32) : Prop := ∀ (S : fd_S) (n : Nat), n < 512 → m_I S n → ∃ r, c S = some r ∧ m S = some r
theorem m_bd_n {g : Int32 → Int32} {n : Nat} (h : m_bd g n) (hn : n < 512) : g 63 ≤ 400000 ∧ 0 ≤ g 70 ∧ g 70 ≤ 1100000 := by
  unfold m_bd at h
  have a : (400000 : Int32).toInt = 400000 := by decide
  have b : (1100000 : Int32).toInt = 1100000 := by decide
  have c : (0 : Int32).toInt = 0 := by decide
  rw [i_le, i_le, i_le, a, b, c]
  omega
theorem m_okY_Y {c m : fd_S → Option Int32} (h : m_Y c m) : m_okY c m := by
  intro S n hn I
  have hb := m_bd_n I.2.2.1 hn
  obtain ⟨r, a, b⟩ := h S S (S 78) I.1 I.2.1 I.2.2.2.1 hb.1 hb.2
  rw [sg_self] at b
  exact ⟨r, a, b⟩
theorem m_ok_X {c m : fd_S → Option (Int32 × fd_S)} (h : m_X c m) : m_ok c m := by
  intro S n hn I hh
  have hb := m_bd_n I.2.2.1 hn
  obtain ⟨r, S1, g2, a1, -, -, -, -, -, a7⟩ := h S S (S 78) I.1 I.2.1 I.2.2.2.1 hb.1 hb.2
  obtain ⟨r', S1', g2, b1, b2, b3, b4, b5, b6, b7⟩ := h S S1 (S 78) I.1 I.2.1 (m_K_c I.2.2.2.1 (fun k h1 h2 => a7 k (by omega))) hb.1 hb.2
  rw [a1] at b1
  cases b1
  have e : fd_sg S1 (S 78) = S1 := by
    rw [← a7 78 (by omega)]
    exact sg_self S1
  rw [e] at b2
  have e78 : fd_sg S1 g2 78 = g2 := funext (fun j => sg_78 S1 g2 j)
  have ek : ∀ k : Nat, 23 ≤ k → k ≠ 78 → fd_sg S1 g2 k = S k := fun k h1 h2 => by rw [sg_ne h2, a7 k h1]
  refine ⟨r, S1, fd_sg S1 g2, a1, b2, m_I_keep I ?_ ?_ ?_ ?_ ?_⟩
  · rw [e78]
    exact m_St_S b3 (fun k hk => sg_ne (by omega))
  · rw [e78]
    exact b4
  · rw [e78]
    have := I.2.2.1
    unfold m_bd at this ⊢
    omega
  · exact m_TX_c I.2.2.2.2.1 (ek 71 (by omega) (by omega)) (ek 72 (by omega) (by omega)) (ek 73 (by omega) (by omega)) (ek 81 (by omega) (by omega))
  · intro k hk
    exact ek k (by omega) (by omega)
theorem m_ok_say {x : Int32} : m_ok (fun S => zF_say S x) (fun S => zM_say S x) := by
  intro S n hn I hh
  obtain ⟨r, S1, -, a1, -, -, a4, -⟩ := m_say (x := x) I.2.2.2.2.1
  obtain ⟨r', S1', S2, b1, b2, b3, b4, b5⟩ := m_say (S' := S1) (x := x) (m_TX_c I.2.2.2.2.1 rfl rfl (a4 73 (by decide) (by decide)) (a4 81 (by decide) (by decide)))
  rw [a1] at b1
  cases b1
  have ek : ∀ k : Nat, k ≠ 71 → k ≠ 72 → k ≠ 73 → k ≠ 81 → S2 k = S k := fun k h1 h2 h3 h4 => by rw [b5 k h3 h4, a4 k h1 h2]
  have e78 := ek 78 (by decide) (by decide) (by decide) (by decide)
  refine ⟨r, S1, S2, a1, b2, m_I_keep I ?_ ?_ ?_ ?_ ?_⟩
  · rw [e78]
    exact m_St_S I.1 (fun k hk => ek k (by omega) (by omega) (by omega) (by omega))
  · rw [e78]
    exact I.2.1
  · rw [e78]
    exact m_bd_up I.2.2.1 (by omega)
  · exact m_TX_c b3 (b5 71 (by decide) (by decide)) (b5 72 (by decide) (by decide)) rfl rfl
  · intro k hk
    exact ek k (by omega) (by omega) (by omega) (by omega)
theorem m_ok_wipe : m_ok (fun S => zF_wipe S) (fun S => zM_wipe S) := by
  intro S n hn I hh
  obtain ⟨r, S1, -, a1, -, -, a4, -⟩ := m_wipe I.2.2.2.2.1
  obtain ⟨r', S1', S2, b1, b2, b3, b4, b5⟩ := m_wipe (S' := S1) (m_TX_c I.2.2.2.2.1 rfl rfl (a4 73 (by decide) (by decide)) (a4 81 (by decide) (by decide)))
  rw [a1] at b1
  cases b1
  have ek : ∀ k : Nat, k ≠ 71 → k ≠ 72 → k ≠ 73 → k ≠ 81 → S2 k = S k := fun k h1 h2 h3 h4 => by rw [b5 k h3 h4, a4 k h1 h2]
  have e78 := ek 78 (by decide) (by decide) (by decide) (by decide)
  refine ⟨r, S1, S2, a1, b2, m_I_keep I ?_ ?_ ?_ ?_ ?_⟩
  · rw [e78]
    exact m_St_S I.1 (fun k hk => ek k (by omega) (by omega) (by omega) (by omega))
  · rw [e78]
    exact I.2.1
  · rw [e78]
    exact m_bd_up I.2.2.1 (by omega)
  · exact m_TX_c b3 (b5 71 (by decide) (by decide)) (b5 72 (by decide) (by decide)) rfl rfl
  · intro k hk
    exact ek k (by omega) (by omega) (by omega) (by omega)
theorem m_ok_set {fu : Nat} (hfu : 10000 ≤ fu) : m_ok (fun S => zF_set fu S) (fun S => zM_set fu S) := by
  intro S n hn I hh
  obtain ⟨r, S1, -, a1, -, -, -, -, -, -, a4, -⟩ := m_set hfu I.2.2.2.2.1 I.2.2.2.1 I.1 I.2.1
  have x78 := a4 78 (by decide) (by decide)
  obtain ⟨r', S1', S2, b1, b2, b3, b4, b5, b6, b7, b8, b9⟩ := m_set (S := S) (S' := S1) hfu (m_TX_c I.2.2.2.2.1 rfl rfl (a4 73 (by decide) (by decide)) (a4 81 (by decide) (by decide))) (m_K_c I.2.2.2.1 (fun k h1 h2 => a4 k (by omega) (by omega))) (by rw [x78]; exact I.1) (by rw [x78]; exact I.2.1)
  rw [a1] at b1
  cases b1
  have ek : ∀ k : Nat, k ≠ 71 → k ≠ 2 → k ≠ 73 → k ≠ 78 → S2 k = S k := fun k h1 h2 h3 h4 => by rw [b9 k h3 h4, a4 k h1 h2]
  refine ⟨r, S1, S2, a1, b2, m_I_keep I ?_ b5 ?_ ?_ ?_⟩
  · exact m_St_S b4 (fun k hk => b9 k (by omega) (by omega))
  · exact m_bd_c I.2.2.1 (by omega) (by rw [b6, x78]) (by rw [b7, x78])
  · exact m_TX_c b3 (b9 71 (by decide) (by decide)) (b9 72 (by decide) (by decide)) rfl rfl
  · intro k hk
    exact ek k (by omega) (by omega) (by omega) (by omega)
theorem m_ok_fault {fu : Nat} (hfu : 10000 ≤ fu) : m_okY (fun S => zF_fault fu S) (fun S => zM_fault fu S) := fun S _ _ I => m_fault hfu I.2.2.2.2.1 I.2.2.2.1
theorem m_ok_count {fu : Nat} {w : Int32} (hfu : 10000 ≤ fu) : m_okY (fun S => zF_count fu S w) (fun S => zM_count fu S w) := by
  intro S n hn I
  obtain ⟨r, a, b⟩ := m_count (S' := S) (w := w) hfu I.1 I.2.1 I.2.2.2.2.2.1.1 I.2.2.2.2.2.1.2
  rw [sg_self] at b
  exact ⟨r, a, b⟩
theorem m_01 {x : Int32} (h : 0 ≤ x ∧ x ≤ 1) : x = 0 ∨ x = 1 := by (simp only [ne_eq, i_lt, i_le, i_eq, i_add, i_sub, i_neg, i_mul, Int32.reduceToInt] at *; omega)
theorem m_ok_image {fu : Nat} {w : Int32} (hfu : 10000 ≤ fu) : m_ok (fun S => zF_image fu S w) (fun S => zM_image fu S w) := by
  intro S n hn I hh
  dsimp only
  unfold zF_image zM_image
  by_cases c : ¬ (0 ≤ w ∧ w ≤ 1)
  · simp only [if_pos (m_within0 c), if_pos (m_in0 c)]
    exact ⟨_, _, _, rfl, rfl, m_I_up I⟩
  have c := Decidable.not_not.mp c
  have hw := m_01 c
  have hw2 : 0 ≤ w ∧ w < 2 := by rcases hw with rfl | rfl <;> decide
  simp only [if_neg (m_within1 c), if_neg (m_in1 c)]
  obtain ⟨hS, hg, hb, hK, hx, hk, hr, i0, i1⟩ := I
  generalize hbb : zF_imageOf w = b
  have hst : fd_st b := by rw [← hbb]; exact zF_imageOf_st w
  have hbw : (w = 0 ∧ b = 23) ∨ (w = 1 ∧ b = 46) := by
    rcases hw with rfl | rfl
    · left; exact ⟨rfl, hbb.symm⟩
    · right; exact ⟨rfl, hbb.symm⟩
  have hb0 : b ≠ 0 := by omega
  have rb : m_rows (m_vw S b) := by
    rcases hbw with ⟨-, e⟩ | ⟨-, e⟩
    · rw [e]; exact hr.1
    · rw [e]; exact hr.2
  obtain ⟨T, t1, t2, t3, t4⟩ := m_copy (fu := fu) hfu hst (Or.inl rfl) hb0 hh rb (by rw [m_vw0]; exact hS.R.1)
  rw [m_vw0] at t3
  simp only [fd_lt]
  rw [t1, Option.bind_some, if_pos hw2]
  obtain ⟨T1, eT1⟩ : ∃ x, x = fd_up T 70 w 1 := ⟨_, rfl⟩
  have f1 : ∀ k : Nat, k ≠ 70 → T1 k = T k := fun k h => by rw [eT1, fd_up_ne h]
  have f1b : ∀ j : Int32, T1 70 j = if j = w then 1 else S 70 j := fun j => by rw [eT1, fd_up_at, t4 70 (by omega)]
  have fS : ∀ k : Nat, k ≠ 70 → ¬ (b ≤ k ∧ k < b + 23) → T1 k = S k := fun k h1 h2 => by rw [f1 k h1, t4 k h2]
  rw [← eT1]
  obtain ⟨T2, u1, u2, u3, u4, u5⟩ := m_im14 (fu := fu) (S := T1) hw fu T1 0 (m_ms_fu (by decide) (by decide) hfu) (by decide) (by decide) (fun _ _ => rfl) (fun j j0 j1 => absurd j1 (Int32.not_lt.mpr j0)) (fun _ _ _ _ _ _ => rfl)
  have e78 : T2 78 = S 78 := by rw [u2 78 (by decide) (by decide), fS 78 (by decide) (by omega)]
  have gS : ∀ k : Nat, k ≠ 70 → k ≠ 79 → k ≠ 80 → ¬ (b ≤ k ∧ k < b + 23) → T2 k = S k := fun k h1 h2 h3 h4 => by rw [u2 k h2 h3, fS k h1 h4]
  have o79 : ∀ w' : Int32, (w' = 0 ∨ w' = 1) → w' ≠ w → ∀ j : Int32, 0 ≤ j → j < 275 → T2 79 (275 * w' + j) = S 79 (275 * w' + j) := fun w' h1 h2 j j0 j1 => by rw [u4 w' j h1 h2 j0 j1, fS 79 (by decide) (by omega)]
  have hIm : m_Im T2 b w (n + 1) := by
    have hg79 : ∀ j : Int32, 0 ≤ j → j < 275 → m_ig T2 w j = S 78 j := fun j j0 j1 => by
      show T2 79 (275 * w + j) = S 78 j
      rw [u3 j j0 j1, fS 78 (by decide) (by omega)]
    have h1 : m_St (m_vw T b) (S 78) := m_St_copy hS t3 t2
    refine ⟨m_St_S (m_St_g h1 hg79) (fun k hk => ?_), m_Go_g hS.R.2.2.1.2 hg hg79, m_bd_c hb (by omega) (hg79 _ (by decide) (by decide)) (hg79 _ (by decide) (by decide))⟩
    show T2 (b + k) = T (b + k)
    rw [u2 _ (by omega) (by omega), f1 _ (by omega)]
  refine ⟨1, T1, T2, rfl, u1, ?_⟩
  refine ⟨?_, ?_, ?_, m_K_c hK (fun k h1 h2 => gS k (by omega) (by omega) (by omega) (by omega)), m_TX_c hx (gS 71 (by omega) (by omega) (by omega) (by omega)) (gS 72 (by omega) (by omega) (by omega) (by omega)) (gS 73 (by omega) (by omega) (by omega) (by omega)) (gS 81 (by omega) (by omega) (by omega) (by omega)), ⟨?_, ?_⟩, ⟨?_, ?_⟩, ?_, ?_⟩
  · rw [e78]
    exact m_St_S hS (fun k hk => gS k (by omega) (by omega) (by omega) (by omega))
  · rw [e78]
    exact hg
  · rw [e78]
    exact m_bd_up hb (by omega)
  · rw [u5, u2 70 (by decide) (by decide), f1b, hk.1, fS 80 (by decide) (by omega)]
  · rw [u5, u2 70 (by decide) (by decide), f1b, hk.2, fS 80 (by decide) (by omega)]
  · rcases hbw with ⟨-, e⟩ | ⟨-, e⟩
    · refine m_rows_c (S := m_vw T 23) (e ▸ t2) (show T2 (23 + 4) = T (23 + 4) from ?_)
      rw [u2 _ (by omega) (by omega), f1 _ (by omega)]
    · exact m_rows_c hr.1 (gS (23 + 4) (by omega) (by omega) (by omega) (by omega))
  · rcases hbw with ⟨-, e⟩ | ⟨-, e⟩
    · exact m_rows_c hr.2 (gS (46 + 4) (by omega) (by omega) (by omega) (by omega))
    · refine m_rows_c (S := m_vw T 46) (e ▸ t2) (show T2 (46 + 4) = T (46 + 4) from ?_)
      rw [u2 _ (by omega) (by omega), f1 _ (by omega)]
  · intro hz
    rcases hbw with ⟨e1, e2⟩ | ⟨e1, e2⟩
    · rw [← e1, ← e2]
      exact hIm
    · rw [u5, if_neg (by rw [e1]; decide), fS 80 (by decide) (by omega)] at hz
      exact m_Im_c (i0 hz) (fun k h1 h2 => gS k (by omega) (by omega) (by omega) (by omega)) (o79 0 (Or.inl rfl) (by rw [e1]; decide)) (by omega)
  · intro hz
    rcases hbw with ⟨e1, e2⟩ | ⟨e1, e2⟩
    · rw [u5, if_neg (by rw [e1]; decide), fS 80 (by decide) (by omega)] at hz
      exact m_Im_c (i1 hz) (fun k h1 h2 => gS k (by omega) (by omega) (by omega) (by omega)) (o79 1 (Or.inr rfl) (by rw [e1]; decide)) (by omega)
    · rw [← e1, ← e2]
      exact hIm
theorem m_ok_restore {fu : Nat} {w : Int32} (hfu : 10000 ≤ fu) : m_ok (fun S => zF_restore fu S w) (fun S => zM_restore fu S w) := by
  intro S n hn I hh
  dsimp only
  unfold zF_restore zM_restore
  by_cases c : ¬ (0 ≤ w ∧ w ≤ 1)
  · simp only [if_pos (m_within0 c), if_pos (m_in0 c)]
    exact ⟨_, _, _, rfl, rfl, m_I_up I⟩
  have c := Decidable.not_not.mp c
  have hw := m_01 c
  have hw2 : 0 ≤ w ∧ w < 2 := by rcases hw with rfl | rfl <;> decide
  simp only [if_neg (m_within1 c), if_neg (m_in1 c), if_pos hw2]
  have hk : S 70 w = S 80 w := by
    rcases hw with rfl | rfl
    · exact I.2.2.2.2.2.1.1
    · exact I.2.2.2.2.2.1.2
  by_cases cz : S 80 w = 0
  · rw [if_pos (hk.trans cz)]
    refine ⟨-3, S, S, rfl, ?_, m_I_up I⟩
    rw [if_pos cz]
  have I' := I
  obtain ⟨hS, hg, hb, hK, hx, -, hr, i0, i1⟩ := I
  rw [if_neg (by rw [hk]; exact cz)]
  generalize hbb : zF_imageOf w = b
  have hst : fd_st b := by rw [← hbb]; exact zF_imageOf_st w
  have hbw : (w = 0 ∧ b = 23) ∨ (w = 1 ∧ b = 46) := by
    rcases hw with rfl | rfl
    · left; exact ⟨rfl, hbb.symm⟩
    · right; exact ⟨rfl, hbb.symm⟩
  have hb0 : b ≠ 0 := by omega
  have rb : m_rows (m_vw S b) := by
    rcases hbw with ⟨-, e⟩ | ⟨-, e⟩
    · rw [e]; exact hr.1
    · rw [e]; exact hr.2
  have hIm : m_Im S b w n := by
    rcases hbw with ⟨e1, e2⟩ | ⟨e1, e2⟩
    · rw [e1, e2]; exact i0 (fun z => cz (by rw [e1]; exact z))
    · rw [e1, e2]; exact i1 (fun z => cz (by rw [e1]; exact z))
  obtain ⟨T, t1, t2, t3, t4⟩ := m_copy (fu := fu) hfu (Or.inl rfl) hst (Ne.symm hb0) hh (by rw [m_vw0]; exact hS.R.1) rb
  rw [m_vw0] at t2 t3
  rw [t1, Option.bind_some]
  obtain ⟨T2, u1, u2, u3⟩ := m_re26 (fu := fu) (S := T) hw fu T 0 (m_ms_fu (by decide) (by decide) hfu) (by decide) (by decide) (fun _ _ => rfl) (fun j j0 j1 => absurd j1 (Int32.not_lt.mpr j0))
  have hg78 : ∀ j : Int32, 0 ≤ j → j < 275 → T2 78 j = m_ig S w j := fun j j0 j1 => by
    rw [u3 j j0 j1, t4 79 (by omega)]
    rfl
  have ek : ∀ k : Nat, 23 ≤ k → k ≠ 78 → T2 k = S k := fun k h1 h2 => by rw [u2 k h2, t4 k (by omega)]
  refine ⟨1, T, T2, rfl, ?_, m_I_keep I' ?_ ?_ ?_ ?_ ?_⟩
  · rw [t4 80 (by omega), if_neg cz]
    exact u1
  · exact m_St_S (m_St_g (m_St_copy hIm.1 t3 t2) hg78) (fun k hk => u2 k (by omega))
  · exact m_Go_g hIm.1.R.2.2.1.2 hIm.2.1 hg78
  · exact m_bd_c hIm.2.2 (by omega) (hg78 _ (by decide) (by decide)) (hg78 _ (by decide) (by decide))
  · exact m_TX_c hx (ek 71 (by omega) (by omega)) (ek 72 (by omega) (by omega)) (ek 73 (by omega) (by omega)) (ek 81 (by omega) (by omega))
  · intro k hk
    exact ek k (by omega) (by omega)
