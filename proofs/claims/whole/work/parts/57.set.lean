/-! ===== which bound a text tells ===== -/
def m_tl (s : Int32 → Int32) (L w : Int32) : Prop := zM_size w + 1 < L ∧ m_ft s L w L
theorem m_tl_k {s : Int32 → Int32} {L w : Int32} (h : m_tl s L w) {k : Int32} (k0 : 0 ≤ k) (k1 : k < L) : m_fit s w k := h.2.2.1 k k0 k1
def m_rq (w : Nat) (k : Nat) : Int32 := if nI k < zM_size (nI w) then fd_sc (zT_nameOf (nI w)) (nI k) else 61
theorem b_rq : ∀ w : Nat, w < 7 → ∀ v : Nat, v < 7 → m_rq w 0 = m_rq v 0 ∧ m_rq w 1 = m_rq v 1 ∧ m_rq w 2 = m_rq v 2 ∧ m_rq w 3 = m_rq v 3 → w = v := by decide
theorem m_tl_rq {s : Int32 → Int32} {L : Int32} {w k : Nat} (hL : L ≤ 12) (hw : w < 7) (h : m_tl s L (nI w)) (hk : k < 4) : s (nI k) = m_rq w k := by
  have hz := m_size_rg (nI w)
  have hl := h.1
  have ek := nI_toInt (n := k) (by omega)
  have k0 : 0 ≤ nI k ∧ nI k < L ∧ nI k ≤ zM_size (nI w) := by
    clear h
    refine ⟨?_, ?_, ?_⟩
    · rw [i_le, ek]; (simp only [ne_eq, i_lt, i_le, i_eq, i_add, i_sub, i_neg, i_mul, Int32.reduceToInt] at *; omega)
    · rw [i_lt, ek]; (simp only [ne_eq, i_lt, i_le, i_eq, i_add, i_sub, i_neg, i_mul, Int32.reduceToInt] at *; omega)
    · rw [i_le, ek]; (simp only [ne_eq, i_lt, i_le, i_eq, i_add, i_sub, i_neg, i_mul, Int32.reduceToInt] at *; omega)
  unfold m_rq
  rcases m_tl_k h k0.1 k0.2.1 with ⟨a, b⟩ | ⟨a, b⟩ | ⟨a, -⟩
  · rw [if_pos a]
    exact b
  · rw [if_neg (by rw [a]; exact Int32.lt_irrefl)]
    exact b
  · exact absurd a (Int32.not_lt.mpr k0.2.2)
theorem m_tl_uniq {s : Int32 → Int32} {L w v : Int32} (hL : L ≤ 12) (w0 : 0 ≤ w) (w7 : w < 7) (v0 : 0 ≤ v) (v7 : v < 7) (h : m_tl s L w) (h' : m_tl s L v) : w = v := by
  obtain ⟨a, ha, rfl⟩ := m_nat (x := w) (M := 6) w0 (show w ≤ (6 : Int32) by clear h; (simp only [ne_eq, i_lt, i_le, i_eq, i_add, i_sub, i_neg, i_mul, Int32.reduceToInt] at *; omega)) (by decide)
  obtain ⟨b, hb, rfl⟩ := m_nat (x := v) (M := 6) v0 (show v ≤ (6 : Int32) by clear h h'; (simp only [ne_eq, i_lt, i_le, i_eq, i_add, i_sub, i_neg, i_mul, Int32.reduceToInt] at *; omega)) (by decide)
  have key : ∀ k : Nat, k < 4 → m_rq a k = m_rq b k := fun k hk => by rw [← m_tl_rq hL (by omega) h hk, ← m_tl_rq hL (by omega) h' hk]
  rw [b_rq a (by omega) b (by omega) ⟨key 0 (by omega), key 1 (by omega), key 2 (by omega), key 3 (by omega)⟩]
def m_td (s : Int32 → Int32) (L t : Int32) : Prop := (t = -6 ∧ ∀ w : Int32, 0 ≤ w → w < 7 → ¬ m_tl s L w) ∨ (0 ≤ t ∧ t < 7 ∧ m_tl s L t)
theorem m_td_uniq {s : Int32 → Int32} {L t t' : Int32} (hL : L ≤ 12) (h : m_td s L t) (h' : m_td s L t') : t = t' := by
  rcases h with ⟨a, b⟩ | ⟨a, b, c⟩ <;> rcases h' with ⟨a', b'⟩ | ⟨a', b', c'⟩
  · rw [a, a']
  · exact absurd c' (b t' a' b')
  · exact absurd c (b' t a b)
  · exact m_tl_uniq hL a b a' b' c c'
theorem m_tells {fu : Nat} {S S' : fd_S} {w : Int32} (hfu : 10000 ≤ fu) (h : m_TX S S') (w0 : 0 ≤ w) (w7 : w < 7) : ∃ v, zT_tells fu S (zT_nameOf w) = some v ∧ (v = 0 ↔ ¬ m_tl (S' 81) (S' 73 8) w) := by
  obtain ⟨r, r1, r2⟩ := m_fittingSigns hfu h w0 w7
  unfold zT_tells
  rw [if_pos (m_slz w0 w7).2, (m_slz w0 w7).1, h.1, r1, Option.bind_some]
  by_cases c : S' 73 8 ≤ zM_size w + 1
  · rw [if_pos c]
    exact ⟨0, rfl, ⟨fun _ z => absurd z.1 (Int32.not_lt.mpr c), fun _ => rfl⟩⟩
  · rw [if_neg c]
    by_cases c2 : r = S' 73 8
    · rw [if_pos c2]
      refine ⟨1, rfl, ⟨fun z => absurd z (by decide), fun z => absurd ⟨Int32.not_le.mp c, ?_⟩ z⟩⟩
      rw [c2] at r2
      exact r2
    · rw [if_neg c2]
      exact ⟨0, rfl, ⟨fun _ z => c2 (m_ft_uniq r2 z.2), fun _ => rfl⟩⟩
theorem m_tb2 {fu : Nat} {S S' : fd_S} (hfu : 10000 ≤ fu) (h : m_TX S S') : ∀ (n : Nat) (x : Int32), m_ms 7 x < n → 0 ≤ x → x ≤ 7 → (∀ w : Int32, 0 ≤ w → w < x → ¬ m_tl (S' 81) (S' 73 8) w) → ∃ t, zT_toldBound_2 fu n S x = some t ∧ m_td (S' 81) (S' 73 8) t := by
  intro n
  induction n with
  | zero => intro x h; omega
  | succ n ih =>
    intro x hn x0 x1 hx
    rw [zT_toldBound_2]
    by_cases c : 7 ≤ x
    · rw [if_pos c]
      exact ⟨-6, rfl, Or.inl ⟨rfl, fun w w0 w1 => hx w w0 (Int32.lt_of_lt_of_le w1 c)⟩⟩
    have hlt : x < 7 ∧ 0 ≤ x + 1 ∧ x + 1 ≤ 7 := by clear h hx ih; (simp only [ne_eq, i_lt, i_le, i_eq, i_add, i_sub, i_neg, i_mul, Int32.reduceToInt] at *; omega)
    have hms := m_ms_up c
    obtain ⟨v, v1, v2⟩ := m_tells hfu h x0 hlt.1
    simp only [fd_lt]
    rw [if_neg c, v1, Option.bind_some]
    by_cases cv : v = 0
    · rw [if_pos cv]
      refine ih (x + 1) (by omega) hlt.2.1 hlt.2.2 (fun w w0 w1 => ?_)
      by_cases cw : w = x
      · rw [cw]
        exact v2.mp cv
      · exact hx w w0 (by clear h hx ih v1 v2; (simp only [ne_eq, i_lt, i_le, i_eq, i_add, i_sub, i_neg, i_mul, Int32.reduceToInt] at *; omega))
    · rw [if_neg cv]
      exact ⟨x, rfl, Or.inr ⟨x0, hlt.1, Decidable.byContradiction (dec := Classical.propDecidable _) (fun z => cv (v2.mpr z))⟩⟩
theorem m_toldBound {fu : Nat} {S S' : fd_S} (hfu : 10000 ≤ fu) (h : m_TX S S') : ∃ t, zT_toldBound fu S = some t ∧ m_td (S' 81) (S' 73 8) t :=
  m_tb2 hfu h fu 0 (m_ms_fu (by decide) (by decide) hfu) (by decide) (by decide) (fun w w0 w1 => absurd w0 (Int32.not_le.mpr w1))
theorem m_t5 {fu : Nat} {S' : fd_S} (hfu : 10000 ≤ fu) (hK : m_K S') (h2 : 0 ≤ S' 73 8 ∧ S' 73 8 ≤ 12) : ∀ (n : Nat) (t x : Int32), m_ms 7 x < n → 0 ≤ x → x ≤ 7 → ((t = -6 ∧ ∀ w : Int32, 0 ≤ w → w < x → ¬ m_tl (S' 81) (S' 73 8) w) ∨ (0 ≤ t ∧ t < 7 ∧ m_tl (S' 81) (S' 73 8) t)) → ∃ t', zM_told_5 fu n S' t x = some t' ∧ m_td (S' 81) (S' 73 8) t' := by
  intro n
  induction n with
  | zero => intro t x h; omega
  | succ n ih =>
    intro t x hn x0 x1 hx
    rw [zM_told_5]
    by_cases c : 7 ≤ x
    · rw [if_pos c]
      refine ⟨t, rfl, ?_⟩
      rcases hx with ⟨a, b⟩ | b
      · exact Or.inl ⟨a, fun w w0 w1 => b w w0 (Int32.lt_of_lt_of_le w1 c)⟩
      · exact Or.inr b
    have hlt : x < 7 ∧ 0 ≤ x + 1 ∧ x + 1 ≤ 7 := by clear hK hx ih; (simp only [ne_eq, i_lt, i_le, i_eq, i_add, i_sub, i_neg, i_mul, Int32.reduceToInt] at *; omega)
    have hms := m_ms_up c
    obtain ⟨r, r1, r2⟩ := m_fitting hfu hK h2 x0 hlt.1
    simp only [fd_lt]
    have no : ¬ m_tl (S' 81) (S' 73 8) x → ∃ t', zM_told_5 fu n S' t (x + 1) = some t' ∧ m_td (S' 81) (S' 73 8) t' := by
      intro hn
      refine ih t (x + 1) (by omega) hlt.2.1 hlt.2.2 ?_
      rcases hx with ⟨a, b⟩ | b
      · refine Or.inl ⟨a, fun w w0 w1 => ?_⟩
        by_cases cw : w = x
        · rw [cw]
          exact hn
        · exact b w w0 (by clear hK ih r1 r2 b hn; (simp only [ne_eq, i_lt, i_le, i_eq, i_add, i_sub, i_neg, i_mul, Int32.reduceToInt] at *; omega))
      · exact Or.inr b
    rw [if_neg c]
    by_cases c1 : S' 73 8 ≤ zM_size x + 1
    · rw [if_pos c1]
      exact no (fun z => absurd z.1 (Int32.not_lt.mpr c1))
    · rw [if_neg c1, r1, Option.bind_some]
      by_cases c2 : r = S' 73 8
      · rw [if_pos c2]
        rw [c2] at r2
        exact ih x (x + 1) (by omega) hlt.2.1 hlt.2.2 (Or.inr ⟨x0, hlt.1, Int32.not_le.mp c1, r2⟩)
      · rw [if_neg c2]
        exact no (fun z => c2 (m_ft_uniq r2 z.2))
theorem m_told {fu : Nat} {S' : fd_S} (hfu : 10000 ≤ fu) (hK : m_K S') (h2 : 0 ≤ S' 73 8 ∧ S' 73 8 ≤ 12) : ∃ t, zM_told fu S' = some t ∧ m_td (S' 81) (S' 73 8) t :=
  m_t5 hfu hK h2 fu (-6) 0 (m_ms_fu (by decide) (by decide) hfu) (by decide) (by decide) (Or.inl ⟨rfl, fun w w0 w1 => absurd w0 (Int32.not_le.mpr w1)⟩)
theorem m_ffLoop {fu : Nat} {S S' : fd_S} (hfu : 10000 ≤ fu) (h : m_TX S S') (hK : m_K S') {t : Int32} (et : zM_told fu S' = some t) : ∀ (n : Nat) (v x : Int32), m_ms 7 x < n → 0 ≤ x → x ≤ 7 → ∃ r, zT_findFault_16 fu n S v x = some r ∧ zM_faultNow_4 fu n S' v x = some (if t < 0 then r else -6) := by
  intro n
  induction n with
  | zero => intro v x h; omega
  | succ n ih =>
    intro v x hn x0 x1
    rw [zT_findFault_16, zM_faultNow_4]
    by_cases c : 7 ≤ x
    · rw [if_pos c, if_pos c, et, Option.bind_some]
      refine ⟨v, rfl, ?_⟩
      split <;> rfl
    have hlt : x < 7 ∧ 0 ≤ x + 1 ∧ x + 1 ≤ 7 := by clear hK h ih; (simp only [ne_eq, i_lt, i_le, i_eq, i_add, i_sub, i_neg, i_mul, Int32.reduceToInt] at *; omega)
    have hms := m_ms_up c
    obtain ⟨r, r1, r2⟩ := m_fittingSigns hfu h x0 hlt.1
    obtain ⟨r', r1', r2'⟩ := m_fitting hfu hK h.2.1 x0 hlt.1
    have e := m_ft_uniq r2 r2'
    subst e
    simp only [fd_lt]
    rw [if_neg c, if_neg c, r1, r1', Option.bind_some, Option.bind_some, Option.bind_some]
    have em : fd_max v r = if r ≤ v then v else r := by
      unfold fd_max
      by_cases cv : r ≤ v
      · rw [if_pos cv, if_neg (Int32.not_lt.mpr cv)]
      · rw [if_neg cv, if_pos (Int32.not_le.mp cv)]
    rw [em]
    by_cases cv : r ≤ v
    · rw [if_pos cv, if_pos cv]
      exact ih v (x + 1) (by omega) hlt.2.1 hlt.2.2
    · rw [if_neg cv, if_neg cv]
      exact ih r (x + 1) (by omega) hlt.2.1 hlt.2.2
theorem m_fault {fu : Nat} {S S' : fd_S} (hfu : 10000 ≤ fu) (h : m_TX S S') (hK : m_K S') : ∃ r, zF_fault fu S = some r ∧ zM_fault fu S' = some r := by
  obtain ⟨t, t1, t2⟩ := m_toldBound hfu h
  obtain ⟨t', t1', t2'⟩ := m_told hfu hK h.2.1
  have e := m_td_uniq h.2.1.2 t2 t2'
  subst e
  obtain ⟨r, r1, r2⟩ := m_ffLoop hfu h hK t1' fu 0 0 (m_ms_fu (by decide) (by decide) hfu) (by decide) (by decide)
  unfold zF_fault zM_fault zT_findFault zM_faultNow
  rw [t1, r1, r2, Option.bind_some, Option.bind_some]
  rcases t2 with ⟨a, -⟩ | ⟨a, -, -⟩
  · rw [if_pos a, if_pos (show t < 0 by rw [a]; decide)]
    exact ⟨r, rfl, rfl⟩
  · rw [if_neg (show ¬ t = -6 by clear t1 t1' t2' r1 r2 h hK; (simp only [ne_eq, i_lt, i_le, i_eq, i_add, i_sub, i_neg, i_mul, Int32.reduceToInt] at *; omega)), if_neg (Int32.not_lt.mpr a)]
    exact ⟨-6, rfl, rfl⟩
theorem b_letter : ∀ w : Nat, w < 7 → ∀ k : Nat, k < 4 → nI k < zM_size (nI w) → zT_isFigure (fd_sc (zT_nameOf (nI w)) (nI k)) = 0 := by decide
theorem m_nofig {s : Int32 → Int32} {w k : Int32} (w0 : 0 ≤ w) (w7 : w < 7) (k0 : 0 ≤ k) (k1 : k ≤ zM_size w) (h : m_fit s w k) : zT_isFigure (s k) = 0 := by
  have hz := m_size_rg w
  rcases h with ⟨a, b⟩ | ⟨a, b⟩ | ⟨a, -⟩
  · rw [b]
    obtain ⟨c, hc, rfl⟩ := m_nat (x := w) (M := 6) w0 (show w ≤ (6 : Int32) by clear a b; (simp only [ne_eq, i_lt, i_le, i_eq, i_add, i_sub, i_neg, i_mul, Int32.reduceToInt] at *; omega)) (by decide)
    obtain ⟨d, hd, rfl⟩ := m_nat (x := k) (M := 3) k0 (show k ≤ (3 : Int32) by clear b; (simp only [ne_eq, i_lt, i_le, i_eq, i_add, i_sub, i_neg, i_mul, Int32.reduceToInt] at *; omega)) (by decide)
    exact b_letter c (by omega) d (by omega) a
  · rw [b]
    decide
  · exact absurd a (Int32.not_lt.mpr k1)
theorem m_tn_a {fu : Nat} {S S' : fd_S} {w : Int32} (h : m_TX S S') (w0 : 0 ≤ w) (w7 : w < 7) (ht : m_tl (S' 81) (S' 73 8) w) : ∀ (m n : Nat) (x : Int32), m_ms (zM_size w + 1) x = m → 0 ≤ x → x ≤ zM_size w + 1 → zT_toldNumber_4 fu (m + n) S 0 x = zT_toldNumber_4 fu n S 0 (zM_size w + 1) := by
  have hz := m_size_rg w
  have hl := ht.1
  have h12 := h.2.1
  intro m
  induction m with
  | zero =>
    intro n x hm x0 x1
    have : x = zM_size w + 1 := by
      unfold m_ms at hm
      clear h ht
      (simp only [ne_eq, i_lt, i_le, i_eq, i_add, i_sub, i_neg, i_mul, Int32.reduceToInt] at *; omega)
    rw [this, Nat.zero_add]
  | succ m ih =>
    intro n x hm x0 x1
    have hlt : ¬ zM_size w + 1 ≤ x ∧ x ≤ zM_size w ∧ ¬ S' 73 8 ≤ x ∧ x < S' 73 8 ∧ x < 12 ∧ 0 ≤ x + 1 ∧ x + 1 ≤ zM_size w + 1 := by
      unfold m_ms at hm
      clear h ht ih
      (simp only [ne_eq, i_lt, i_le, i_eq, i_add, i_sub, i_neg, i_mul, Int32.reduceToInt] at *; omega)
    have hms : m_ms (zM_size w + 1) (x + 1) = m := by
      have e := m_toInt_succ hlt.1
      unfold m_ms at hm ⊢
      rw [e]
      omega
    rw [show m + 1 + n = m + n + 1 by omega, zT_toldNumber_4, h.1]
    simp only [fd_lt]
    rw [if_neg hlt.2.2.1, if_pos ⟨x0, hlt.2.2.2.2.1⟩, h.2.2 x x0 hlt.2.2.2.1, if_pos (m_nofig w0 w7 x0 hlt.2.1 (m_tl_k ht x0 hlt.2.2.2.1))]
    exact ih n (x + 1) hms hlt.2.2.2.2.2.1 hlt.2.2.2.2.2.2
theorem m_tn_b {fu : Nat} {S S' : fd_S} {w : Int32} (h : m_TX S S') (w0 : 0 ≤ w) (w7 : w < 7) (ht : m_tl (S' 81) (S' 73 8) w) : ∀ (n n' : Nat) (v x : Int32), m_ms (S' 73 8) x < n → m_ms (S' 73 8) x < n' → zM_size w + 1 ≤ x → x ≤ S' 73 8 → ∃ N, zT_toldNumber_4 fu n S v x = some N ∧ zM_set_21 fu n' S' w v x = zM_set_21 fu 1 S' w N (S' 73 8) := by
  have hz := m_size_rg w
  have h12 := h.2.1
  intro n
  induction n with
  | zero => intro n' v x h; omega
  | succ n ih =>
    intro n' v x hn hn' xz x1
    rw [zT_toldNumber_4, h.1]
    obtain ⟨m, rfl⟩ : ∃ m, n' = m + 1 := ⟨n' - 1, by omega⟩
    by_cases c : S' 73 8 ≤ x
    · rw [if_pos c]
      refine ⟨v, rfl, ?_⟩
      have e : x = S' 73 8 := by clear h ht ih; (simp only [ne_eq, i_lt, i_le, i_eq, i_add, i_sub, i_neg, i_mul, Int32.reduceToInt] at *; omega)
      rw [zM_set_21, zM_set_21, if_pos c, if_pos (Int32.le_refl _)]
    have hlt : 0 ≤ x ∧ x < S' 73 8 ∧ x < 12 ∧ zM_size w + 1 ≤ x + 1 ∧ x + 1 ≤ S' 73 8 ∧ zM_size w < x := by clear h ht ih; (simp only [ne_eq, i_lt, i_le, i_eq, i_add, i_sub, i_neg, i_mul, Int32.reduceToInt] at *; omega)
    have hms := m_ms_up c
    have hf : ¬ zT_isFigure (S' 81 x) = 0 := by
      rcases m_tl_k ht hlt.1 hlt.2.1 with ⟨a, -⟩ | ⟨a, -⟩ | ⟨-, -, a⟩
      · exact absurd (Int32.lt_trans a hlt.2.2.2.2.2) Int32.lt_irrefl
      · exact absurd hlt.2.2.2.2.2 (by rw [a]; exact Int32.lt_irrefl)
      · rcases m_fig (S' 81 x) with ⟨-, z⟩ | ⟨z, -⟩
        · exact absurd a z
        · exact z
    rw [zM_set_21]
    simp only [fd_lt]
    have hr : 0 ≤ x ∧ x < 12 := ⟨hlt.1, hlt.2.2.1⟩
    simp only [if_neg c, if_pos hr]
    rw [h.2.2 x hlt.1 hlt.2.1, if_neg hf, Int32.mul_comm v 10]
    exact ih m _ (x + 1) (by omega) (by omega) hlt.2.2.2.1 hlt.2.2.2.2.1
theorem m_GB_set {g : Int32 → Int32} {w n : Int32} (hg : m_GB g) (w0 : 0 ≤ w) (w7 : w < 7) (hn : fd_tl fd_least w ≤ n ∧ n ≤ fd_tl fd_most w) : m_GB (m_gu g (32 + w) n) := by
  obtain ⟨a, ha, rfl⟩ := m_nat (x := w) (M := 6) w0 (show w ≤ (6 : Int32) by clear hg hn; (simp only [ne_eq, i_lt, i_le, i_eq, i_add, i_sub, i_neg, i_mul, Int32.reduceToInt] at *; omega)) (by decide)
  have ha7 : a = 0 ∨ a = 1 ∨ a = 2 ∨ a = 3 ∨ a = 4 ∨ a = 5 ∨ a = 6 := by omega
  obtain ⟨g0, g1, g2, g3, g4, g5, g6⟩ := hg
  unfold m_GB m_gu
  rcases ha7 with rfl | rfl | rfl | rfl | rfl | rfl | rfl
  · exact ⟨hn, g1, g2, g3, g4, g5, g6⟩
  · exact ⟨g0, hn, g2, g3, g4, g5, g6⟩
  · exact ⟨g0, g1, hn, g3, g4, g5, g6⟩
  · exact ⟨g0, g1, g2, hn, g4, g5, g6⟩
  · exact ⟨g0, g1, g2, g3, hn, g5, g6⟩
  · exact ⟨g0, g1, g2, g3, g4, hn, g6⟩
  · exact ⟨g0, g1, g2, g3, g4, g5, hn⟩
theorem m_set {fu : Nat} {S S' : fd_S} (hfu : 10000 ≤ fu) (h : m_TX S S') (hK : m_K S') (hS : m_St S (S' 78)) (hg : m_Go (S' 78)) :
    ∃ r S1 S1', zF_set fu S = some (r, S1) ∧ zM_set fu S' = some (r, S1') ∧ m_TX S1 S1' ∧ m_St S1 (S1' 78) ∧ m_Go (S1' 78) ∧ S1' 78 63 = S' 78 63 ∧ S1' 78 70 = S' 78 70 ∧ (∀ k : Nat, k ≠ 71 → k ≠ 2 → S1 k = S k) ∧ ∀ k : Nat, k ≠ 73 → k ≠ 78 → S1' k = S' k := by
  obtain ⟨t, t1, t2⟩ := m_toldBound hfu h
  obtain ⟨t', t1', t2'⟩ := m_told hfu hK h.2.1
  have e := m_td_uniq h.2.1.2 t2 t2'
  subst e
  unfold zF_set zM_set
  rw [t1, t1', Option.bind_some, Option.bind_some]
  rcases t2 with ⟨a, -⟩ | ⟨a, b, ht⟩
  · rw [if_pos a, if_neg (show ¬ 0 ≤ t by rw [a]; decide)]
    exact ⟨-7, S, S', rfl, rfl, h, hS, hg, rfl, rfl, fun _ _ _ => rfl, fun _ _ _ => rfl⟩
  · have hz := m_size_rg t
    have hl := ht.1
    have h12 := h.2.1
    have hzz : zM_size t + 1 ≤ S' 73 8 ∧ 0 ≤ zM_size t + 1 ∧ zM_size t + 1 ≤ 6000 := by clear h hK hS hg t1 t1' t2' ht; (simp only [ne_eq, i_lt, i_le, i_eq, i_add, i_sub, i_neg, i_mul, Int32.reduceToInt] at *; omega)
    have hm1 := m_ms_fu (N := S' 73 8) hzz.2.1 (Int32.le_trans h12.2 (by decide)) hfu
    have hm0 : m_ms (zM_size t + 1) 0 ≤ 100 := by
      unfold m_ms
      clear h hK hS hg t1 t1' t2' ht hm1
      (simp only [ne_eq, i_lt, i_le, i_eq, i_add, i_sub, i_neg, i_mul, Int32.reduceToInt] at *; omega)
    have hm12 : m_ms (S' 73 8) (zM_size t + 1) ≤ 100 := by
      unfold m_ms
      clear h hK hS hg t1 t1' t2' ht hm1 hm0
      (simp only [ne_eq, i_lt, i_le, i_eq, i_add, i_sub, i_neg, i_mul, Int32.reduceToInt] at *; omega)
    obtain ⟨N, n1, n2⟩ := m_tn_b (fu := fu) h a b ht (fu - m_ms (zM_size t + 1) 0) fu 0 (zM_size t + 1) (by omega) hm1 (Int32.le_refl _) hzz.1
    have ea := m_tn_a (fu := fu) h a b ht _ (fu - m_ms (zM_size t + 1) 0) 0 rfl (by decide) hzz.2.1
    rw [show m_ms (zM_size t + 1) 0 + (fu - m_ms (zM_size t + 1) 0) = fu by omega, n1] at ea
    have eN : zT_toldNumber fu S = some N := ea
    have hr : 0 ≤ t ∧ t < 7 := ⟨a, b⟩
    simp only [fd_lt]
    rw [if_neg (show ¬ t = -6 by clear h hK hS hg t1 t1' t2' ht; (simp only [ne_eq, i_lt, i_le, i_eq, i_add, i_sub, i_neg, i_mul, Int32.reduceToInt] at *; omega)), eN, Option.bind_some, if_pos a, n2, zM_set_21]
    simp only [fd_lt, if_pos hr, if_pos (Int32.le_refl (S' 73 8))]
    have hk := hK.2.1 t a b
    rw [hk.1, hk.2]
    by_cases c : fd_tl fd_least t ≤ N ∧ N ≤ fd_tl fd_most t
    · rw [if_neg (m_within1 c), if_neg (m_in1 c)]
      have h32 : 0 ≤ 32 + t ∧ 32 + t < 275 := by clear h hK hS hg t1 t1' t2' ht hk c; (simp only [ne_eq, i_lt, i_le, i_eq, i_add, i_sub, i_neg, i_mul, Int32.reduceToInt] at *; omega)
      have h32b : 32 ≤ 32 + t ∧ 32 + t < 39 := by clear h hK hS hg t1 t1' t2' ht hk c; (simp only [ne_eq, i_lt, i_le, i_eq, i_add, i_sub, i_neg, i_mul, Int32.reduceToInt] at *; omega)
      have ebd : zM_bounded S' t = some (S' 78 (32 + t)) := by
        unfold zM_bounded
        rw [if_pos h32]
      unfold zT_clear zB_replace
      simp only [fd_lt, if_pos hr, Option.bind_some, ebd, if_pos h32]
      unfold fd_pr
      dsimp only
      have hs : S' 78 (32 + t) = S 2 t := (hS.B t a b).symm
      have oo : ∀ j : Int32, j < 32 ∨ 39 ≤ j → fd_up (fd_up S' 78 (32 + t) N) 73 8 0 78 j = S' 78 j := by
        intro j hj
        rw [fd_up_ne (by decide), fd_up_at, if_neg (by clear h hK hS hg t1 t1' t2' ht hk c; (simp only [ne_eq, i_lt, i_le, i_eq, i_add, i_sub, i_neg, i_mul, Int32.reduceToInt] at *; omega))]
      have o2 : ∀ j : Int32, fd_up (fd_up S' 78 (32 + t) N) 73 8 0 78 j = m_gu (S' 78) (32 + t) N j := by
        intro j
        rw [fd_up_ne (by decide), fd_up_at, m_gu]
      have s2 : ∀ k : Nat, k ≠ 71 → k ≠ 2 → fd_up (fd_up S 71 1 0) 2 t N k = S k := fun k k1 k2 => by rw [fd_up_ne k2, fd_up_ne k1]
      have h64 := hS.R.2.2.1
      refine ⟨S 2 t, _, _, by rw [fd_up_ne (by decide)], by rw [hs], ⟨?_, ?_, ?_⟩, ⟨?_, ?_, ?_, ?_, ?_, ?_, ?_, ?_, ?_, ?_, ?_⟩, ⟨?_, ?_, ?_, ?_, ?_⟩, oo _ (by decide), oo _ (by decide), s2, ?_⟩
      · rw [fd_up_ne (by decide), fd_up_at, if_pos rfl, fd_up_at, if_pos rfl]
      · rw [fd_up_at, if_pos rfl]
        exact ⟨by decide, by decide⟩
      · intro j j0 j1
        rw [fd_up_at, if_pos rfl] at j1
        exact absurd j0 (Int32.not_le.mpr j1)
      · exact m_R_congr hS.R (by rw [s2 3 (by decide) (by decide)]) (s2 4 (by decide) (by decide)) (fun k _ _ => s2 k (by omega) (by omega)) (oo _ (by decide)) (fun j h1 h2 => oo j (Or.inr (Int32.le_trans (by decide) h1)))
      · intro i i0 i1
        rw [o2, fd_up_at, m_gu]
        by_cases ci : i = t
        · rw [if_pos ci, if_pos (by rw [ci])]
        · rw [if_neg ci, if_neg (by clear h hK hS hg t1 t1' t2' ht hk c oo o2 s2; (simp only [ne_eq, i_lt, i_le, i_eq, i_add, i_sub, i_neg, i_mul, Int32.reduceToInt] at *; omega)), fd_up_ne (by decide), hS.B i i0 i1]
      · exact m_L_congr hS.L (s2 5 (by decide) (by decide)) (s2 6 (by decide) (by decide)) (s2 7 (by decide) (by decide)) (oo _ (by decide)) (fun j hj => oo j (Or.inr (Int32.le_trans (by decide) hj)))
      · intro j j0 j1
        rw [s2 20 (by decide) (by decide), hS.Q j j0 j1, oo j (Or.inl j1)]
      · intro p p0 p1
        have hT := hS.T p p0 p1
        have key : ∀ c : Int32, 0 ≤ c → c < 3 → fd_up (fd_up S' 78 (32 + t) N) 73 8 0 78 (39 + 3 * p + c) = S' 78 (39 + 3 * p + c) := by
          intro c c0 c1
          exact oo _ (Or.inr (b_3 p0 p1 c0 c1).2.1)
        unfold m_T1 at hT ⊢
        rw [key 0 (by decide) (by decide), key 1 (by decide) (by decide), key 2 (by decide) (by decide), s2 21 (by decide) (by decide), s2 22 (by decide) (by decide)]
        exact hT
      · rw [s2 0 (by decide) (by decide), hS.c6, oo _ (by decide)]
      · rw [s2 0 (by decide) (by decide), hS.c7, oo _ (by decide)]
      · rw [s2 0 (by decide) (by decide), hS.c8, oo _ (by decide)]
      · rw [s2 0 (by decide) (by decide), hS.c9, oo _ (by decide)]
      · rw [s2 0 (by decide) (by decide), hS.c10, oo _ (by decide)]
      · rw [s2 3 (by decide) (by decide), hS.d2, oo _ (by decide)]
      · exact m_GR_congr hg.R h64.2 (oo _ (by decide)) (by rw [oo _ (by decide)]; exact Int32.le_refl _) (fun j h1 h2 => oo j (Or.inr (Int32.le_trans (by decide) h1)))
      · have := m_GB_set hg.B a b c
        exact m_GB_congr this (fun j _ _ => o2 j)
      · intro j j0 j1
        rw [oo j (Or.inl j1)]
        exact hg.P j j0 j1
      · intro p p0 p1
        have hbe : m_be (fd_up (fd_up S' 78 (32 + t) N) 73 8 0 78) p = m_be (S' 78) p ∧ m_bp (fd_up (fd_up S' 78 (32 + t) N) 73 8 0 78) p = m_bp (S' 78) p := by
          refine m_be_congr (fun q q0 q1 => ⟨?_, ?_⟩)
          · exact oo _ (Or.inl (b_8 q0 q1 p0 p1).2.2)
          · exact m_hd_lo h64.2 (oo _ (by decide)) (fun j h1 h2 => oo j (Or.inr (Int32.le_trans (by decide) h1))) _
        rw [hbe.1, hbe.2, oo _ (Or.inr (b_3 p0 p1 (by decide) (by decide)).2.1), oo _ (Or.inr (b_3 p0 p1 (by decide) (by decide)).2.1)]
        exact hg.O p p0 p1
      · rw [oo _ (by decide)]
        exact hg.t
      · intro k k1 k2
        rw [fd_up_ne k1, fd_up_ne k2]
    · rw [if_pos (m_within0 c), if_pos (m_in0 c)]
      exact ⟨-2, S, S', rfl, rfl, h, hS, hg, rfl, rfl, fun _ _ _ => rfl, fun _ _ _ => rfl⟩
