/-! ===== images: a State's cells seen from its first one ===== -/
def m_vw (S : fd_S) (b : Nat) : fd_S := fun a j => S (b + a) j
theorem m_vw0 (S : fd_S) : m_vw S 0 = S := by
  funext a j
  simp [m_vw]
theorem fd_cp_ne {S : fd_S} {k k' q : Nat} {a b n : Int32} (h : q ≠ k') : fd_cp S k k' a b n q = S q := by
  funext j
  unfold fd_cp
  rw [if_neg h]
theorem fd_cp_0 {S : fd_S} {k k' : Nat} {n j : Int32} (j0 : 0 ≤ j) (j1 : j < n) : fd_cp S k k' 0 0 n k' j = S k j := by
  unfold fd_cp
  rw [if_pos rfl, Int32.zero_add, if_pos ⟨j0, j1⟩, Int32.zero_add, Int32.sub_zero]
theorem m_L_g {S : fd_S} {g g1 : Int32 → Int32} (h : m_L S g) (hg : ∀ j : Int32, 0 ≤ j → j < 275 → g1 j = g j) : m_L S g1 := by
  unfold m_L
  rw [hg 70 (by decide) (by decide)]
  refine ⟨h.1, h.2.1, fun i i0 i6 => ?_⟩
  have hi := h.2.2 i i0 i6
  have hl := m_ll_num i0 i6
  have e1 : g1 (m_ll i) = g (m_ll i) := hg _ (by clear hi h hg; (simp only [ne_eq, i_lt, i_le, i_eq, i_add, i_sub, i_neg, i_mul, Int32.reduceToInt] at *; omega)) (by clear hi h hg; (simp only [ne_eq, i_lt, i_le, i_eq, i_add, i_sub, i_neg, i_mul, Int32.reduceToInt] at *; omega))
  rw [e1]
  refine ⟨hi.1, hi.2.1, fun j j0 j1 => ?_⟩
  have hj : j ≤ 20 ∧ j ≤ 100 := by have := hi.1; clear hi h hg hl; (simp only [ne_eq, i_lt, i_le, i_eq, i_add, i_sub, i_neg, i_mul, Int32.reduceToInt] at *; omega)
  have ha := m_la_num i0 i6 j0 hj.2
  rw [hg _ (by clear hi h hg; (simp only [ne_eq, i_lt, i_le, i_eq, i_add, i_sub, i_neg, i_mul, Int32.reduceToInt] at *; omega)) (by have := hj.1; clear hi h hg; (simp only [ne_eq, i_lt, i_le, i_eq, i_add, i_sub, i_neg, i_mul, Int32.reduceToInt] at *; omega))]
  exact hi.2.2 j j0 j1
theorem m_St_g {S : fd_S} {g g1 : Int32 → Int32} (h : m_St S g) (hg : ∀ j : Int32, 0 ≤ j → j < 275 → g1 j = g j) : m_St S g1 := by
  refine ⟨?_, ?_, m_L_g h.L hg, ?_, ?_, ?_, ?_, ?_, ?_, ?_, ?_⟩
  · exact m_R_congr h.R rfl rfl (fun _ _ _ => rfl) (hg _ (by decide) (by decide)) (fun j h1 h2 => hg j (Int32.le_trans (by decide) h1) (Int32.lt_trans h2 (by decide)))
  · exact m_B_congr h.B rfl (fun j h1 h2 => hg j (Int32.le_trans (by decide) h1) (Int32.lt_trans h2 (by decide)))
  · intro x x0 x1
    rw [h.Q x x0 x1, hg x x0 (Int32.lt_trans x1 (by decide))]
  · intro p p0 p1
    have key : ∀ c : Int32, 0 ≤ c → c < 3 → g1 (39 + 3 * p + c) = g (39 + 3 * p + c) := fun c c0 c1 => hg _ (b_3in p0 p1 c0 c1).1 (b_3in p0 p1 c0 c1).2
    have hT := h.T p p0 p1
    unfold m_T1 at hT ⊢
    rw [key 0 (by decide) (by decide), key 1 (by decide) (by decide), key 2 (by decide) (by decide)]
    exact hT
  · rw [hg _ (by decide) (by decide)]; exact h.c6
  · rw [hg _ (by decide) (by decide)]; exact h.c7
  · rw [hg _ (by decide) (by decide)]; exact h.c8
  · rw [hg _ (by decide) (by decide)]; exact h.c9
  · rw [hg _ (by decide) (by decide)]; exact h.c10
  · rw [hg _ (by decide) (by decide)]; exact h.d2
theorem m_Go_g {g g1 : Int32 → Int32} (h64 : g 64 ≤ 6) (h : m_Go g) (hg : ∀ j : Int32, 0 ≤ j → j < 275 → g1 j = g j) : m_Go g1 := by
  have e64 := hg 64 (by decide) (by decide)
  have e63 := hg 63 (by decide) (by decide)
  have hm : ∀ j : Int32, 71 ≤ j → j < 131 → g1 j = g j := fun j h1 h2 => hg j (Int32.le_trans (by decide) h1) (Int32.lt_trans h2 (by decide))
  refine ⟨m_GR_congr h.R h64 e64 (by rw [e63]; exact Int32.le_refl _) hm, m_GB_congr h.B (fun j h1 h2 => hg j (Int32.le_trans (by decide) h1) (Int32.lt_trans h2 (by decide))), ?_, ?_, by rw [e63]; exact h.t⟩
  · intro x x0 x1
    rw [hg x x0 (Int32.lt_trans x1 (by decide))]
    exact h.P x x0 x1
  · intro p p0 p1
    have key : ∀ c : Int32, 0 ≤ c → c < 3 → g1 (39 + 3 * p + c) = g (39 + 3 * p + c) := fun c c0 c1 => hg _ (b_3in p0 p1 c0 c1).1 (b_3in p0 p1 c0 c1).2
    have hbe : m_be g1 p = m_be g p ∧ m_bp g1 p = m_bp g p := by
      refine m_be_congr (fun d d0 d1 => ?_)
      have h8 := b_8 d0 d1 p0 p1
      exact ⟨hg _ h8.2.1 (Int32.lt_trans h8.2.2 (by decide)), m_hd_lo h64 e64 hm _⟩
    rw [key 0 (by decide) (by decide), key 1 (by decide) (by decide), hbe.1, hbe.2]
    exact h.O p p0 p1
theorem m_St_S {S S1 : fd_S} {g : Int32 → Int32} (h : m_St S g) (e : ∀ k : Nat, k < 23 → S1 k = S k) : m_St S1 g := by
  refine ⟨m_R_congr h.R (by rw [e 3 (by decide)]) (e 4 (by decide)) (fun k _ _ => e k (by omega)) rfl (fun _ _ _ => rfl), m_B_congr h.B (e 2 (by decide)) (fun _ _ _ => rfl), m_L_congr h.L (e 5 (by decide)) (e 6 (by decide)) (e 7 (by decide)) rfl (fun _ _ => rfl), ?_, ?_, ?_, ?_, ?_, ?_, ?_, ?_⟩
  · intro x x0 x1
    rw [e 20 (by decide)]
    exact h.Q x x0 x1
  · intro p p0 p1
    have hT := h.T p p0 p1
    unfold m_T1 at hT ⊢
    rw [e 21 (by decide), e 22 (by decide)]
    exact hT
  · rw [e 0 (by decide)]; exact h.c6
  · rw [e 0 (by decide)]; exact h.c7
  · rw [e 0 (by decide)]; exact h.c8
  · rw [e 0 (by decide)]; exact h.c9
  · rw [e 0 (by decide)]; exact h.c10
  · rw [e 3 (by decide)]; exact h.d2
/-! a copy -/
def m_cf (A B : fd_S) (i : Int32) : Prop := (m_cV A i 0 = m_cV B i 0 ∧ m_cV A i 1 = m_cV B i 1 ∧ m_cV A i 2 = m_cV B i 2 ∧ m_cV A i 3 = m_cV B i 3 ∧ m_cV A i 4 = m_cV B i 4 ∧ m_cV A i 6 = m_cV B i 6) ∧ ∀ j : Int32, 0 ≤ j → j < 4 → m_cK A i j = m_cK B i j
def m_Cp (A B : fd_S) : Prop := (∀ i : Int32, 0 ≤ i → i < 7 → A 2 i = B 2 i) ∧ (∀ i : Int32, 0 ≤ i → i < 6 → m_cf A B i) ∧ (A 3 1 = B 3 1 ∧ A 3 2 = B 3 2) ∧
  ((∀ j : Int32, 0 ≤ j → j < 120 → A 6 j = B 6 j) ∧ (∀ j : Int32, 0 ≤ j → j < 6 → A 7 j = B 7 j) ∧ A 5 2 = B 5 2 ∧ A 5 3 = B 5 3) ∧
  ((∀ j : Int32, 0 ≤ j → j < 32 → A 20 j = B 20 j) ∧ (∀ j : Int32, 0 ≤ j → j < 8 → A 21 j = B 21 j) ∧ (∀ j : Int32, 0 ≤ j → j < 8 → A 22 j = B 22 j)) ∧
  (A 0 6 = B 0 6 ∧ A 0 7 = B 0 7 ∧ A 0 8 = B 0 8 ∧ A 0 9 = B 0 9 ∧ A 0 10 = B 0 10)
theorem m_St_copy {A B : fd_S} {g : Int32 → Int32} (h : m_St B g) (hc : m_Cp A B) (hr : m_rows A) : m_St A g := by
  obtain ⟨c2, cR, ⟨c31, c32⟩, ⟨c6, c7, c52, c53⟩, ⟨c20, c21, c22⟩, ⟨f6, f7, f8, f9, f10⟩⟩ := hc
  have h64 := h.R.2.2.1
  refine ⟨⟨hr, c31.trans h.R.2.1, h64, ?_, ?_⟩, ?_, ?_, ?_, ?_, f6.trans h.c6, f7.trans h.c7, f8.trans h.c8, f9.trans h.c9, f10.trans h.c10, c32.trans h.d2⟩
  · intro i i0 i1
    have i6 : i < 6 := by clear h c2 cR c6 c7 c20 c21 c22; (simp only [ne_eq, i_lt, i_le, i_eq, i_add, i_sub, i_neg, i_mul, Int32.reduceToInt] at *; omega)
    obtain ⟨⟨a0, a1, a2, a3, a4, a6⟩, -⟩ := cR i i0 i6
    rw [a0, a1, a2, a3, a4, a6]
    exact h.R.2.2.2.1 i i0 i1
  · intro i j i0 i1 j0 j4 j1
    have i6 : i < 6 := by clear h c2 cR c6 c7 c20 c21 c22; (simp only [ne_eq, i_lt, i_le, i_eq, i_add, i_sub, i_neg, i_mul, Int32.reduceToInt] at *; omega)
    rw [(cR i i0 i6).2 j j0 j4]
    exact h.R.2.2.2.2 i j i0 i1 j0 j4 j1
  · intro i i0 i1
    rw [c2 i i0 i1]
    exact h.B i i0 i1
  · obtain ⟨hv, h53, hi⟩ := h.L
    unfold m_L
    rw [c52, c53]
    refine ⟨hv, h53, fun i i0 i6 => ?_⟩
    have hpp := m_pp_rg hv.1 hv.2 i0 i6
    obtain ⟨l1, l2, l3⟩ := hi i i0 i6
    rw [c7 _ hpp.1 hpp.2]
    refine ⟨l1, l2, fun j j0 j1 => ?_⟩
    have hj : j ≤ 20 ∧ j < 20 := by clear h c2 cR c6 c7 c20 c21 c22 hi l2 l3; (simp only [ne_eq, i_lt, i_le, i_eq, i_add, i_sub, i_neg, i_mul, Int32.reduceToInt] at *; omega)
    have h20 := m_20_num hpp.1 hpp.2 j0 hj.1
    have h20r : 0 ≤ m_pp (B 5 2) i * 20 + j ∧ m_pp (B 5 2) i * 20 + j < 120 := by
      rw [i_le, i_lt, h20]
      have := hj.2
      clear h c2 cR c6 c7 c20 c21 c22 hi l1 l2 l3 h20 hj hv
      (simp only [ne_eq, i_lt, i_le, i_eq, i_add, i_sub, i_neg, i_mul, Int32.reduceToInt] at *; omega)
    rw [c6 _ h20r.1 h20r.2]
    exact l3 j j0 j1
  · intro x x0 x1
    rw [c20 x x0 x1]
    exact h.Q x x0 x1
  · intro p p0 p1
    have hT := h.T p p0 p1
    unfold m_T1 at hT ⊢
    rw [c21 p p0 p1, c22 p p0 p1]
    exact hT
theorem zR_copy {S : fd_S} {k0 k1 : Nat} (hH : fd_h S) (h0 : fd_rk k0) (h1 : fd_rk k1) (hne : k0 / 23 ≠ k1 / 23) :
    ∃ T, zR_copyFrom S k0 k1 = some T ∧ fd_h T ∧ (∀ k : Nat, k ≠ k0 → k ≠ k0 + 6 → T k = S k) ∧ (T k0 0 = S k1 0 ∧ T k0 1 = S k1 1 ∧ T k0 2 = S k1 2 ∧ T k0 3 = S k1 3 ∧ T k0 4 = S k1 4 ∧ T k0 6 = S k1 6) ∧ ∀ j : Int32, 0 ≤ j → j < 4 → T (k0 + 6) j = S (k1 + 6) j := by
  have n1 : k1 ≠ k0 := fun z => hne (by rw [z])
  have n2 : k1 ≠ k0 + 6 := by have := h0.2; omega
  have n3 : k1 + 6 ≠ k0 := by have := h1.2; omega
  have n4 : k0 ≠ k0 + 6 := by omega
  have hb := hH k1 (fd_rk3 h1)
  unfold zR_copyFrom
  simp only [fd_lt]
  rw [if_pos h1, if_pos h0]
  simp only [fd_up_ne n1, fd_cp_ne n2]
  rw [if_pos hb]
  have ha : ∀ j : Int32, 0 ≤ j → j < 4 → fd_cp (fd_up (fd_up (fd_up (fd_up (fd_up S k0 0 (S k1 0)) k0 1 (S k1 1)) k0 2 (S k1 2)) k0 3 (S k1 3)) k0 4 (S k1 4)) (k1 + 6) (k0 + 6) 0 0 4 (k0 + 6) j = S (k1 + 6) j := by
    intro j j0 j1
    rw [fd_cp_0 j0 j1]
    simp only [fd_up_ne n3]
  have hk3 : ∀ f v : Int32, fd_up (fd_cp (fd_up (fd_up (fd_up (fd_up (fd_up S k0 0 (S k1 0)) k0 1 (S k1 1)) k0 2 (S k1 2)) k0 3 (S k1 3)) k0 4 (S k1 4)) (k1 + 6) (k0 + 6) 0 0 4) k0 6 v k0 f = if f = 6 then v else if f = 4 then S k1 4 else if f = 3 then S k1 3 else if f = 2 then S k1 2 else if f = 1 then S k1 1 else if f = 0 then S k1 0 else S k0 f := by
    intro f v
    rw [fd_up_at, fd_cp_ne n4, fd_up_at, fd_up_at, fd_up_at, fd_up_at, fd_up_at]
  refine ⟨_, rfl, ?_, ?_, ⟨?_, ?_, ?_, ?_, ?_, ?_⟩, ?_⟩
  · intro k hk
    by_cases e : k = k0
    · rw [e, hk3]
      exact hb
    · rw [fd_up_ne e, fd_cp_ne (fun z => by rw [z, fd_rk4 h0] at hk; cases hk), fd_up_ne e, fd_up_ne e, fd_up_ne e, fd_up_ne e, fd_up_ne e]
      exact hH k hk
  · intro k e1 e2
    rw [fd_up_ne e1, fd_cp_ne e2, fd_up_ne e1, fd_up_ne e1, fd_up_ne e1, fd_up_ne e1, fd_up_ne e1]
  · rw [hk3]; rfl
  · rw [hk3]; rfl
  · rw [hk3]; rfl
  · rw [hk3]; rfl
  · rw [hk3]; rfl
  · rw [hk3]; rfl
  · intro j j0 j1
    rw [fd_up_ne (Ne.symm n4)]
    exact ha j j0 j1
theorem m_rcu {u : Nat} (hu : fd_st u) (x : Int32) : fd_rc (u + 4) x = u + (8 + x.toNatClampNeg) := by
  unfold fd_rc
  rcases hu with rfl | rfl | rfl <;> omega
theorem m_rku {S : fd_S} {u : Nat} (hu : fd_st u) (h : m_rows (m_vw S u)) {i : Int32} (i0 : 0 ≤ i) (i6 : i < 6) : fd_rk (u + m_rw (m_vw S u) i) ∧ (u + m_rw (m_vw S u) i) / 23 = u / 23 := by
  have := h.rg i0 i6
  rcases hu with rfl | rfl | rfl <;> refine ⟨⟨by omega, by omega, by omega⟩, by omega⟩
theorem m_stne {u v : Nat} (hu : fd_st u) (hv : fd_st v) (h : u ≠ v) : u / 23 ≠ v / 23 ∧ (u + 23 ≤ v ∨ v + 23 ≤ u) := by
  rcases hu with rfl | rfl | rfl <;> rcases hv with rfl | rfl | rfl <;> first | exact absurd rfl h | (refine ⟨by decide, ?_⟩; omega)
theorem m_cpQ {fu : Nat} {S : fd_S} {u v : Nat} (hu : fd_st u) (hv : fd_st v) (huv : u ≠ v) (ru : m_rows (m_vw S u)) (rv : m_rows (m_vw S v)) : ∀ (n : Nat) (T : fd_S) (x : Int32), m_ms 6 x < n → 0 ≤ x → x ≤ 6 → fd_h T → (∀ k : Nat, ¬ (u + 8 ≤ k ∧ k < u + 20) → T k = S k) → (∀ i : Int32, 0 ≤ i → i < x → m_cf (m_vw T u) (m_vw S v) i) →
    ∃ T', zQ_copyFrom_2 u v fu n T x = some T' ∧ fd_h T' ∧ (∀ k : Nat, ¬ (u + 8 ≤ k ∧ k < u + 20) → k ≠ u + 3 → T' k = S k) ∧ (T' (u + 3) 1 = S (v + 3) 1 ∧ T' (u + 3) 2 = S (v + 3) 2) ∧ ∀ i : Int32, 0 ≤ i → i < 6 → m_cf (m_vw T' u) (m_vw S v) i := by
  have hd := (m_stne hu hv huv).2
  intro n
  induction n with
  | zero => intro T x h; exact absurd h (Nat.not_lt_zero _)
  | succ n ih =>
    intro T x hm x0 x6 hH hF hI
    rw [zQ_copyFrom_2]
    simp only [fd_lt]
    by_cases c : 6 ≤ x
    · rw [if_pos c]
      have ex : x = 6 := by clear hI hF hm; (simp only [ne_eq, i_lt, i_le, i_eq, i_add, i_sub, i_neg, i_mul, Int32.reduceToInt] at *; omega)
      subst ex
      have n3 : fd_kd (u + 3) ≠ 3 := by rcases hu with rfl | rfl | rfl <;> decide
      refine ⟨_, rfl, fd_h_up (fd_h_up hH (Or.inl n3)) (Or.inl n3), ?_, ⟨?_, ?_⟩, ?_⟩
      · intro k h1 h2
        rw [fd_up_ne h2, fd_up_ne h2]
        exact hF k h1
      · rw [fd_up_at, if_neg (by decide), fd_up_at, if_pos rfl, hF _ (by omega)]
      · rw [fd_up_at, if_pos rfl, fd_up_ne (by omega), hF _ (by omega)]
      · intro i i0 i6
        have := hI i i0 i6
        have e4 : ∀ (a b : Int32), fd_up (fd_up T (u + 3) 1 a) (u + 3) 2 b (u + 4) = T (u + 4) := fun a b => by rw [fd_up_ne (by omega), fd_up_ne (by omega)]
        have rg := ru.rg i0 i6
        have er : ∀ (a b : Int32), m_rw (m_vw (fd_up (fd_up T (u + 3) 1 a) (u + 3) 2 b) u) i = m_rw (m_vw S u) i := fun a b => by
          unfold m_rw m_vw
          rw [e4, hF _ (by omega)]
        have er2 : m_rw (m_vw T u) i = m_rw (m_vw S u) i := by
          unfold m_rw m_vw
          rw [hF _ (by omega)]
        unfold m_cf m_cV m_cK at this ⊢
        rw [er]
        rw [er2] at this
        unfold m_vw at this rg ⊢
        rw [fd_up_ne (by omega), fd_up_ne (by omega), fd_up_ne (by omega), fd_up_ne (by omega)]
        exact this
    · rw [if_neg c]
      have hx : 0 ≤ x ∧ x < 6 := ⟨x0, Int32.not_le.mp c⟩
      rw [if_pos hx, if_pos hx, m_rcu hu, m_rcu hv]
      have e4 : T (u + 4) = S (u + 4) := hF _ (by omega)
      have e4v : T (v + 4) = S (v + 4) := hF _ (by omega)
      have k5 := m_rku hu ru hx.1 hx.2
      have k7 := m_rku hv rv hx.1 hx.2
      have rgu := ru.rg hx.1 hx.2
      have rgv := rv.rg hx.1 hx.2
      have eu : u + (8 + (T (u + 4) x).toNatClampNeg) = u + m_rw (m_vw S u) x := by rw [e4]; rfl
      have ev : v + (8 + (T (v + 4) x).toNatClampNeg) = v + m_rw (m_vw S v) x := by rw [e4v]; rfl
      rw [eu, ev, if_pos k5.1]
      obtain ⟨T1, t1, tH, tF, tV, tK⟩ := zR_copy hH k5.1 k7.1 (by rw [k5.2, k7.2]; exact (m_stne hu hv huv).1)
      rw [t1, Option.bind_some]
      have hF1 : ∀ k : Nat, ¬ (u + 8 ≤ k ∧ k < u + 20) → T1 k = S k := by
        intro k hk
        rw [tF k (by omega) (by omega)]
        exact hF k hk
      have erx : ∀ i : Int32, m_rw (m_vw T1 u) i = m_rw (m_vw S u) i := fun i => by
        unfold m_rw m_vw
        rw [hF1 _ (by omega)]
      refine ih T1 (x + 1) ?_ ?_ ?_ tH hF1 ?_
      · have := m_ms_up c
        omega
      · clear hI hF hF1 ih tF tK; (simp only [ne_eq, i_lt, i_le, i_eq, i_add, i_sub, i_neg, i_mul, Int32.reduceToInt] at *; omega)
      · clear hI hF hF1 ih tF tK; (simp only [ne_eq, i_lt, i_le, i_eq, i_add, i_sub, i_neg, i_mul, Int32.reduceToInt] at *; omega)
      · intro i i0 i1
        by_cases ei : i = x
        · subst ei
          have v1 : T (v + m_rw (m_vw S v) i) = S (v + m_rw (m_vw S v) i) := hF _ (by omega)
          have v2 : T (v + m_rw (m_vw S v) i + 6) = S (v + m_rw (m_vw S v) i + 6) := hF _ (by omega)
          rw [v1] at tV
          unfold m_cf m_cV m_cK
          rw [erx]
          refine ⟨tV, fun j j0 j4 => ?_⟩
          have := tK j j0 j4
          rw [v2] at this
          exact this
        · have i6 : i < 6 ∧ i < x := by clear hI hF hF1 ih tF tK; (simp only [ne_eq, i_lt, i_le, i_eq, i_add, i_sub, i_neg, i_mul, Int32.reduceToInt] at *; omega)
          have rgi := ru.rg i0 i6.1
          have hne : m_rw (m_vw S u) i ≠ m_rw (m_vw S u) x := fun z => ei (ru.inj i0 i6.1 hx.1 hx.2 z)
          have := hI i i0 i6.2
          have er2 : m_rw (m_vw T u) i = m_rw (m_vw S u) i := by
            unfold m_rw m_vw
            rw [hF _ (by omega)]
          unfold m_cf m_cV m_cK at this ⊢
          rw [erx]
          rw [er2] at this
          have w1 : T1 (u + m_rw (m_vw S u) i) = T (u + m_rw (m_vw S u) i) := tF _ (by omega) (by omega)
          have w2 : T1 (u + (m_rw (m_vw S u) i + 6)) = T (u + (m_rw (m_vw S u) i + 6)) := tF _ (by omega) (by omega)
          have w3 : m_vw T1 u (m_rw (m_vw S u) i) = m_vw T u (m_rw (m_vw S u) i) := by funext j; show T1 _ j = T _ j; rw [w1]
          have w4 : m_vw T1 u (m_rw (m_vw S u) i + 6) = m_vw T u (m_rw (m_vw S u) i + 6) := by funext j; show T1 _ j = T _ j; rw [w2]
          rw [w3, w4]
          exact this
