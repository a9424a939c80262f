section LWC
variable {p : Program} {l : Launch} {e : Env} {s : State} {m : MethodId} {b : Nat} {below : List Frame} {meth : Method} {c : Code} {E : fd_E} {L n : Nat} {xs : Nat → Int32} {cells slots : Nat} {Q : State → Prop} {x : Int32} {S : fd_S} {H : Heap} {locs : List Loc} {ls : Array Slot}
set_option maxHeartbeats 4000000 in
set_option maxRecDepth 100000 in
theorem lc_0 (B : lw_B p s m c b L xs E) (hc : cells ≤ room_1.cells ∧ slots ≤ room_1.slots) (h5 : 5 * n + 5 ≤ L) (hL : L ≤ 2560) (ex : x = nI (5 * n)) (I : m_I S n) (hH : fd_H E S s H locs) (hl : lv_has ls 4 [(0, .ref b), (1, .ref (E.2.2 69)), (2, .ref (E.2.2 73)), (3, .int x)]) (kn : ∀ (S2 : fd_S) (H : Heap) (locs : List Loc), m_I S2 (n + 1) → fd_H E S2 s H locs → W p l e room_1 s m #[Value.ref b] below meth c H locs cells slots Q (F0 m 614 ls [])) : W p l e room_1 s m #[Value.ref b] below meth c H locs cells slots Q (F0 m 120 ls []) := by
  obtain ⟨C, hX, hbl, hbA⟩ := B
  have hx := C.1
  have hb := C.2.1
  have hi1 : vp_in (x + 1) L := lw_in ex (k := 1) rfl (by omega) hL
  obtain ⟨r, S1, S2, e1, e2, I2⟩ := m_ok_say (x := xs (x + 1).toNatClampNeg) S n (by omega) I hH.2.2.2
  refine lv_aload_n hx hb dL_law_120 rfl (lv_at hl 1 rfl) ?_
  refine lv_aload_n hx hb dL_law_121 rfl (lv_at hl 0 rfl) ?_
  refine lv_iload_n hx hb dL_law_122 rfl (lv_at hl 3 rfl) ?_
  refine lv_iconst (v := (1 : Int32)) hx hb dL_law_123 (by decide) ?_
  refine lv_iadd hx hb dL_law_124 ?_
  refine va_sld hx hb hX hbl hbA hH.2.2.1 hi1 dL_law_125 ?_
  refine fd_callV1 69 6 [.int (xs (x + 1).toNatClampNeg)] C hl.1 hH (cF_say l E S _ e1) wL_13 (by decide) rfl (by decide) rfl ⟨rfl, rfl, Nat.le_of_ble_eq_true rfl, Nat.le_of_ble_eq_true rfl⟩ rfl rfl (Nat.le_of_ble_eq_true rfl) hc dL_law_126 (fun H locs hH => ?_)
  refine lv_aload_n hx hb dL_law_129 rfl (lv_at hl 2 rfl) ?_
  refine lv_aload_n hx hb dL_law_130 rfl (lv_at hl 0 rfl) ?_
  refine lv_iload_n hx hb dL_law_131 rfl (lv_at hl 3 rfl) ?_
  refine lv_iconst (v := (1 : Int32)) hx hb dL_law_132 (by decide) ?_
  refine lv_iadd hx hb dL_law_133 ?_
  refine va_sld hx hb hX hbl hbA hH.2.2.1 hi1 dL_law_134 ?_
  refine fd_callV1 73 7 [.int (xs (x + 1).toNatClampNeg)] C hl.1 hH (cM_say l E S1 _ e2) wL_17 (by decide) rfl (by decide) rfl ⟨rfl, rfl, Nat.le_of_ble_eq_true rfl, Nat.le_of_ble_eq_true rfl⟩ rfl rfl (Nat.le_of_ble_eq_true rfl) hc dL_law_135 (fun H locs hH => ?_)
  refine lv_icmp_eq (tgt := 614) hx hb dL_law_138 (by decide) (fun _ => ?_) (fun c1 => absurd rfl c1)
  exact kn S2 _ _ I2 hH
set_option maxHeartbeats 4000000 in
set_option maxRecDepth 100000 in
theorem lc_1 (B : lw_B p s m c b L xs E) (hc : cells ≤ room_1.cells ∧ slots ≤ room_1.slots) (h5 : 5 * n + 5 ≤ L) (hL : L ≤ 2560) (ex : x = nI (5 * n)) (I : m_I S n) (hH : fd_H E S s H locs) (hl : lv_has ls 4 [(0, .ref b), (1, .ref (E.2.2 69)), (2, .ref (E.2.2 73)), (3, .int x)]) (kn : ∀ (S2 : fd_S) (H : Heap) (locs : List Loc), m_I S2 (n + 1) → fd_H E S2 s H locs → W p l e room_1 s m #[Value.ref b] below meth c H locs cells slots Q (F0 m 614 ls [])) : W p l e room_1 s m #[Value.ref b] below meth c H locs cells slots Q (F0 m 143 ls []) := by
  obtain ⟨C, hX, hbl, hbA⟩ := B
  have hx := C.1
  have hb := C.2.1
  obtain ⟨r, S1, S2, e1, e2, I2⟩ := m_ok_wipe S n (by omega) I hH.2.2.2
  refine lv_aload_n hx hb dL_law_143 rfl (lv_at hl 1 rfl) ?_
  refine fd_callV1 69 6 [] C hl.1 hH (cF_wipe l E S e1) wL_18 (by decide) rfl (by decide) rfl ⟨rfl, rfl, Nat.le_of_ble_eq_true rfl, Nat.le_of_ble_eq_true rfl⟩ rfl rfl (Nat.le_of_ble_eq_true rfl) hc dL_law_144 (fun H locs hH => ?_)
  refine lv_aload_n hx hb dL_law_147 rfl (lv_at hl 2 rfl) ?_
  refine fd_callV1 73 7 [] C hl.1 hH (cM_wipe l E S1 e2) wL_22 (by decide) rfl (by decide) rfl ⟨rfl, rfl, Nat.le_of_ble_eq_true rfl, Nat.le_of_ble_eq_true rfl⟩ rfl rfl (Nat.le_of_ble_eq_true rfl) hc dL_law_148 (fun H locs hH => ?_)
  refine lv_icmp_eq (tgt := 614) hx hb dL_law_151 (by decide) (fun _ => ?_) (fun c1 => absurd rfl c1)
  exact kn S2 _ _ I2 hH
set_option maxHeartbeats 4000000 in
set_option maxRecDepth 100000 in
theorem lc_2 (B : lw_B p s m c b L xs E) (hc : cells ≤ room_1.cells ∧ slots ≤ room_1.slots) (h5 : 5 * n + 5 ≤ L) (hL : L ≤ 2560) (ex : x = nI (5 * n)) (I : m_I S n) (hH : fd_H E S s H locs) (hl : lv_has ls 4 [(0, .ref b), (1, .ref (E.2.2 69)), (2, .ref (E.2.2 73)), (3, .int x)]) (kn : ∀ (S2 : fd_S) (H : Heap) (locs : List Loc), m_I S2 (n + 1) → fd_H E S2 s H locs → W p l e room_1 s m #[Value.ref b] below meth c H locs cells slots Q (F0 m 614 ls [])) : W p l e room_1 s m #[Value.ref b] below meth c H locs cells slots Q (F0 m 156 ls []) := by
  obtain ⟨C, hX, hbl, hbA⟩ := B
  have hx := C.1
  have hb := C.2.1
  obtain ⟨r, e1, e2⟩ := m_ok_fault (fu := 10000) (Nat.le_refl _) S n (by omega) I
  refine lv_aload_n hx hb dL_law_156 rfl (lv_at hl 1 rfl) ?_
  refine fd_callV1 69 6 [] C hl.1 hH (cF_fault l E 10000 S e1) wL_23 (by decide) rfl (by decide) rfl ⟨rfl, rfl, Nat.le_of_ble_eq_true rfl, Nat.le_of_ble_eq_true rfl⟩ rfl rfl (Nat.le_of_ble_eq_true rfl) hc dL_law_157 (fun H locs hH => ?_)
  refine lv_aload_n hx hb dL_law_160 rfl (lv_at hl 2 rfl) ?_
  refine fd_callV1 73 7 [] C hl.1 hH (cM_fault l E 10000 S e2) wL_26 (by decide) rfl (by decide) rfl ⟨rfl, rfl, Nat.le_of_ble_eq_true rfl, Nat.le_of_ble_eq_true rfl⟩ rfl rfl (Nat.le_of_ble_eq_true rfl) hc dL_law_161 (fun H locs hH => ?_)
  refine lv_icmp_eq (tgt := 614) hx hb dL_law_164 (by decide) (fun _ => ?_) (fun c1 => absurd rfl c1)
  exact kn S _ _ (m_I_up I) hH
set_option maxHeartbeats 4000000 in
set_option maxRecDepth 100000 in
theorem lc_3 (B : lw_B p s m c b L xs E) (hc : cells ≤ room_1.cells ∧ slots ≤ room_1.slots) (h5 : 5 * n + 5 ≤ L) (hL : L ≤ 2560) (ex : x = nI (5 * n)) (I : m_I S n) (hH : fd_H E S s H locs) (hl : lv_has ls 4 [(0, .ref b), (1, .ref (E.2.2 69)), (2, .ref (E.2.2 73)), (3, .int x)]) (kn : ∀ (S2 : fd_S) (H : Heap) (locs : List Loc), m_I S2 (n + 1) → fd_H E S2 s H locs → W p l e room_1 s m #[Value.ref b] below meth c H locs cells slots Q (F0 m 614 ls [])) : W p l e room_1 s m #[Value.ref b] below meth c H locs cells slots Q (F0 m 169 ls []) := by
  obtain ⟨C, hX, hbl, hbA⟩ := B
  have hx := C.1
  have hb := C.2.1
  obtain ⟨r, S1, S2, e1, e2, I2⟩ := m_ok_set (fu := 10000) (Nat.le_refl _) S n (by omega) I hH.2.2.2
  refine lv_aload_n hx hb dL_law_169 rfl (lv_at hl 1 rfl) ?_
  refine fd_callV1 69 6 [] C hl.1 hH (cF_set l E 10000 S e1) wL_27 (by decide) rfl (by decide) rfl ⟨rfl, rfl, Nat.le_of_ble_eq_true rfl, Nat.le_of_ble_eq_true rfl⟩ rfl rfl (Nat.le_of_ble_eq_true rfl) hc dL_law_170 (fun H locs hH => ?_)
  refine lv_aload_n hx hb dL_law_173 rfl (lv_at hl 2 rfl) ?_
  refine fd_callV1 73 7 [] C hl.1 hH (cM_set l E 10000 S1 e2) wL_30 (by decide) rfl (by decide) rfl ⟨rfl, rfl, Nat.le_of_ble_eq_true rfl, Nat.le_of_ble_eq_true rfl⟩ rfl rfl (Nat.le_of_ble_eq_true rfl) hc dL_law_174 (fun H locs hH => ?_)
  refine lv_icmp_eq (tgt := 614) hx hb dL_law_177 (by decide) (fun _ => ?_) (fun c1 => absurd rfl c1)
  exact kn S2 _ _ I2 hH
set_option maxHeartbeats 4000000 in
set_option maxRecDepth 100000 in
theorem lc_4 (B : lw_B p s m c b L xs E) (hc : cells ≤ room_1.cells ∧ slots ≤ room_1.slots) (h5 : 5 * n + 5 ≤ L) (hL : L ≤ 2560) (ex : x = nI (5 * n)) (I : m_I S n) (hH : fd_H E S s H locs) (hl : lv_has ls 4 [(0, .ref b), (1, .ref (E.2.2 69)), (2, .ref (E.2.2 73)), (3, .int x)]) (kn : ∀ (S2 : fd_S) (H : Heap) (locs : List Loc), m_I S2 (n + 1) → fd_H E S2 s H locs → W p l e room_1 s m #[Value.ref b] below meth c H locs cells slots Q (F0 m 614 ls [])) : W p l e room_1 s m #[Value.ref b] below meth c H locs cells slots Q (F0 m 182 ls []) := by
  obtain ⟨C, hX, hbl, hbA⟩ := B
  have hx := C.1
  have hb := C.2.1
  have hi1 : vp_in (x + 1) L := lw_in ex (k := 1) rfl (by omega) hL
  obtain ⟨r, e1, e2⟩ := m_okY_Y (m_bound (x := xs (x + 1).toNatClampNeg)) S n (by omega) I
  refine lv_aload_n hx hb dL_law_182 rfl (lv_at hl 1 rfl) ?_
  refine lv_aload_n hx hb dL_law_183 rfl (lv_at hl 0 rfl) ?_
  refine lv_iload_n hx hb dL_law_184 rfl (lv_at hl 3 rfl) ?_
  refine lv_iconst (v := (1 : Int32)) hx hb dL_law_185 (by decide) ?_
  refine lv_iadd hx hb dL_law_186 ?_
  refine va_sld hx hb hX hbl hbA hH.2.2.1 hi1 dL_law_187 ?_
  refine fd_callV1 69 6 [.int (xs (x + 1).toNatClampNeg)] C hl.1 hH (cF_bound l E S _ e1) wL_31 (by decide) rfl (by decide) rfl ⟨rfl, rfl, Nat.le_of_ble_eq_true rfl, Nat.le_of_ble_eq_true rfl⟩ rfl rfl (Nat.le_of_ble_eq_true rfl) hc dL_law_188 (fun H locs hH => ?_)
  refine lv_aload_n hx hb dL_law_191 rfl (lv_at hl 2 rfl) ?_
  refine lv_aload_n hx hb dL_law_192 rfl (lv_at hl 0 rfl) ?_
  refine lv_iload_n hx hb dL_law_193 rfl (lv_at hl 3 rfl) ?_
  refine lv_iconst (v := (1 : Int32)) hx hb dL_law_194 (by decide) ?_
  refine lv_iadd hx hb dL_law_195 ?_
  refine va_sld hx hb hX hbl hbA hH.2.2.1 hi1 dL_law_196 ?_
  refine fd_callV1 73 7 [.int (xs (x + 1).toNatClampNeg)] C hl.1 hH (cM_bound l E S _ e2) wL_34 (by decide) rfl (by decide) rfl ⟨rfl, rfl, Nat.le_of_ble_eq_true rfl, Nat.le_of_ble_eq_true rfl⟩ rfl rfl (Nat.le_of_ble_eq_true rfl) hc dL_law_197 (fun H locs hH => ?_)
  refine lv_icmp_eq (tgt := 614) hx hb dL_law_200 (by decide) (fun _ => ?_) (fun c1 => absurd rfl c1)
  exact kn S _ _ (m_I_up I) hH
set_option maxHeartbeats 4000000 in
set_option maxRecDepth 100000 in
theorem lc_5 (B : lw_B p s m c b L xs E) (hc : cells ≤ room_1.cells ∧ slots ≤ room_1.slots) (h5 : 5 * n + 5 ≤ L) (hL : L ≤ 2560) (ex : x = nI (5 * n)) (I : m_I S n) (hH : fd_H E S s H locs) (hl : lv_has ls 4 [(0, .ref b), (1, .ref (E.2.2 69)), (2, .ref (E.2.2 73)), (3, .int x)]) (kn : ∀ (S2 : fd_S) (H : Heap) (locs : List Loc), m_I S2 (n + 1) → fd_H E S2 s H locs → W p l e room_1 s m #[Value.ref b] below meth c H locs cells slots Q (F0 m 614 ls [])) : W p l e room_1 s m #[Value.ref b] below meth c H locs cells slots Q (F0 m 205 ls []) := by
  obtain ⟨C, hX, hbl, hbA⟩ := B
  have hx := C.1
  have hb := C.2.1
  have hi1 : vp_in (x + 1) L := lw_in ex (k := 1) rfl (by omega) hL
  have hi2 : vp_in (x + 2) L := lw_in ex (k := 2) rfl (by omega) hL
  have hi3 : vp_in (x + 3) L := lw_in ex (k := 3) rfl (by omega) hL
  have hi4 : vp_in (x + 4) L := lw_in ex (k := 4) rfl (by omega) hL
  obtain ⟨r, S1, S2, e1, e2, I2⟩ := m_ok_X (m_announce (fu := 10000) (a := xs (x + 1).toNatClampNeg) (b := xs (x + 2).toNatClampNeg) (p := xs (x + 3).toNatClampNeg) (q := xs (x + 4).toNatClampNeg) (Nat.le_refl _)) S n (by omega) I hH.2.2.2
  refine lv_aload_n hx hb dL_law_205 rfl (lv_at hl 1 rfl) ?_
  refine lv_aload_n hx hb dL_law_206 rfl (lv_at hl 0 rfl) ?_
  refine lv_iload_n hx hb dL_law_207 rfl (lv_at hl 3 rfl) ?_
  refine lv_iconst (v := (1 : Int32)) hx hb dL_law_208 (by decide) ?_
  refine lv_iadd hx hb dL_law_209 ?_
  refine va_sld hx hb hX hbl hbA hH.2.2.1 hi1 dL_law_210 ?_
  refine lv_aload_n hx hb dL_law_211 rfl (lv_at hl 0 rfl) ?_
  refine lv_iload_n hx hb dL_law_212 rfl (lv_at hl 3 rfl) ?_
  refine lv_iconst (v := (2 : Int32)) hx hb dL_law_213 (by decide) ?_
  refine lv_iadd hx hb dL_law_214 ?_
  refine va_sld hx hb hX hbl hbA hH.2.2.1 hi2 dL_law_215 ?_
  refine lv_aload_n hx hb dL_law_216 rfl (lv_at hl 0 rfl) ?_
  refine lv_iload_n hx hb dL_law_217 rfl (lv_at hl 3 rfl) ?_
  refine lv_iconst (v := (3 : Int32)) hx hb dL_law_218 (by decide) ?_
  refine lv_iadd hx hb dL_law_219 ?_
  refine va_sld hx hb hX hbl hbA hH.2.2.1 hi3 dL_law_220 ?_
  refine lv_aload_n hx hb dL_law_221 rfl (lv_at hl 0 rfl) ?_
  refine lv_iload_n hx hb dL_law_222 rfl (lv_at hl 3 rfl) ?_
  refine lv_iconst (v := (4 : Int32)) hx hb dL_law_223 (by decide) ?_
  refine lv_iadd hx hb dL_law_224 ?_
  refine va_sld hx hb hX hbl hbA hH.2.2.1 hi4 dL_law_225 ?_
  refine fd_callV1 69 6 [.int (xs (x + 1).toNatClampNeg), .int (xs (x + 2).toNatClampNeg), .int (xs (x + 3).toNatClampNeg), .int (xs (x + 4).toNatClampNeg)] C hl.1 hH (cF_announce l E 10000 S _ _ _ _ e1) wL_35 (by decide) rfl (by decide) rfl ⟨rfl, rfl, Nat.le_of_ble_eq_true rfl, Nat.le_of_ble_eq_true rfl⟩ rfl rfl (Nat.le_of_ble_eq_true rfl) hc dL_law_226 (fun H locs hH => ?_)
  refine lv_aload_n hx hb dL_law_229 rfl (lv_at hl 2 rfl) ?_
  refine lv_aload_n hx hb dL_law_230 rfl (lv_at hl 0 rfl) ?_
  refine lv_iload_n hx hb dL_law_231 rfl (lv_at hl 3 rfl) ?_
  refine lv_iconst (v := (1 : Int32)) hx hb dL_law_232 (by decide) ?_
  refine lv_iadd hx hb dL_law_233 ?_
  refine va_sld hx hb hX hbl hbA hH.2.2.1 hi1 dL_law_234 ?_
  refine lv_aload_n hx hb dL_law_235 rfl (lv_at hl 0 rfl) ?_
  refine lv_iload_n hx hb dL_law_236 rfl (lv_at hl 3 rfl) ?_
  refine lv_iconst (v := (2 : Int32)) hx hb dL_law_237 (by decide) ?_
  refine lv_iadd hx hb dL_law_238 ?_
  refine va_sld hx hb hX hbl hbA hH.2.2.1 hi2 dL_law_239 ?_
  refine lv_aload_n hx hb dL_law_240 rfl (lv_at hl 0 rfl) ?_
  refine lv_iload_n hx hb dL_law_241 rfl (lv_at hl 3 rfl) ?_
  refine lv_iconst (v := (3 : Int32)) hx hb dL_law_242 (by decide) ?_
  refine lv_iadd hx hb dL_law_243 ?_
  refine va_sld hx hb hX hbl hbA hH.2.2.1 hi3 dL_law_244 ?_
  refine lv_aload_n hx hb dL_law_245 rfl (lv_at hl 0 rfl) ?_
  refine lv_iload_n hx hb dL_law_246 rfl (lv_at hl 3 rfl) ?_
  refine lv_iconst (v := (4 : Int32)) hx hb dL_law_247 (by decide) ?_
  refine lv_iadd hx hb dL_law_248 ?_
  refine va_sld hx hb hX hbl hbA hH.2.2.1 hi4 dL_law_249 ?_
  refine fd_callV1 73 7 [.int (xs (x + 1).toNatClampNeg), .int (xs (x + 2).toNatClampNeg), .int (xs (x + 3).toNatClampNeg), .int (xs (x + 4).toNatClampNeg)] C hl.1 hH (cM_announce l E 10000 S1 _ _ _ _ e2) wL_39 (by decide) rfl (by decide) rfl ⟨rfl, rfl, Nat.le_of_ble_eq_true rfl, Nat.le_of_ble_eq_true rfl⟩ rfl rfl (Nat.le_of_ble_eq_true rfl) hc dL_law_250 (fun H locs hH => ?_)
  refine lv_icmp_eq (tgt := 614) hx hb dL_law_253 (by decide) (fun _ => ?_) (fun c1 => absurd rfl c1)
  exact kn S2 _ _ I2 hH
set_option maxHeartbeats 4000000 in
set_option maxRecDepth 100000 in
theorem lc_6 (B : lw_B p s m c b L xs E) (hc : cells ≤ room_1.cells ∧ slots ≤ room_1.slots) (h5 : 5 * n + 5 ≤ L) (hL : L ≤ 2560) (ex : x = nI (5 * n)) (I : m_I S n) (hH : fd_H E S s H locs) (hl : lv_has ls 4 [(0, .ref b), (1, .ref (E.2.2 69)), (2, .ref (E.2.2 73)), (3, .int x)]) (kn : ∀ (S2 : fd_S) (H : Heap) (locs : List Loc), m_I S2 (n + 1) → fd_H E S2 s H locs → W p l e room_1 s m #[Value.ref b] below meth c H locs cells slots Q (F0 m 614 ls [])) : W p l e room_1 s m #[Value.ref b] below meth c H locs cells slots Q (F0 m 258 ls []) := by
  obtain ⟨C, hX, hbl, hbA⟩ := B
  have hx := C.1
  have hb := C.2.1
  have hi1 : vp_in (x + 1) L := lw_in ex (k := 1) rfl (by omega) hL
  have hi2 : vp_in (x + 2) L := lw_in ex (k := 2) rfl (by omega) hL
  have hi3 : vp_in (x + 3) L := lw_in ex (k := 3) rfl (by omega) hL
  obtain ⟨r, S1, S2, e1, e2, I2⟩ := m_ok_X (m_withdraw (fu := 10000) (a := xs (x + 1).toNatClampNeg) (b := xs (x + 2).toNatClampNeg) (q := xs (x + 3).toNatClampNeg) (Nat.le_refl _)) S n (by omega) I hH.2.2.2
  refine lv_aload_n hx hb dL_law_258 rfl (lv_at hl 1 rfl) ?_
  refine lv_aload_n hx hb dL_law_259 rfl (lv_at hl 0 rfl) ?_
  refine lv_iload_n hx hb dL_law_260 rfl (lv_at hl 3 rfl) ?_
  refine lv_iconst (v := (1 : Int32)) hx hb dL_law_261 (by decide) ?_
  refine lv_iadd hx hb dL_law_262 ?_
  refine va_sld hx hb hX hbl hbA hH.2.2.1 hi1 dL_law_263 ?_
  refine lv_aload_n hx hb dL_law_264 rfl (lv_at hl 0 rfl) ?_
  refine lv_iload_n hx hb dL_law_265 rfl (lv_at hl 3 rfl) ?_
  refine lv_iconst (v := (2 : Int32)) hx hb dL_law_266 (by decide) ?_
  refine lv_iadd hx hb dL_law_267 ?_
  refine va_sld hx hb hX hbl hbA hH.2.2.1 hi2 dL_law_268 ?_
  refine lv_aload_n hx hb dL_law_269 rfl (lv_at hl 0 rfl) ?_
  refine lv_iload_n hx hb dL_law_270 rfl (lv_at hl 3 rfl) ?_
  refine lv_iconst (v := (3 : Int32)) hx hb dL_law_271 (by decide) ?_
  refine lv_iadd hx hb dL_law_272 ?_
  refine va_sld hx hb hX hbl hbA hH.2.2.1 hi3 dL_law_273 ?_
  refine fd_callV1 69 6 [.int (xs (x + 1).toNatClampNeg), .int (xs (x + 2).toNatClampNeg), .int (xs (x + 3).toNatClampNeg)] C hl.1 hH (cF_withdraw l E 10000 S _ _ _ e1) wL_40 (by decide) rfl (by decide) rfl ⟨rfl, rfl, Nat.le_of_ble_eq_true rfl, Nat.le_of_ble_eq_true rfl⟩ rfl rfl (Nat.le_of_ble_eq_true rfl) hc dL_law_274 (fun H locs hH => ?_)
  refine lv_aload_n hx hb dL_law_277 rfl (lv_at hl 2 rfl) ?_
  refine lv_aload_n hx hb dL_law_278 rfl (lv_at hl 0 rfl) ?_
  refine lv_iload_n hx hb dL_law_279 rfl (lv_at hl 3 rfl) ?_
  refine lv_iconst (v := (1 : Int32)) hx hb dL_law_280 (by decide) ?_
  refine lv_iadd hx hb dL_law_281 ?_
  refine va_sld hx hb hX hbl hbA hH.2.2.1 hi1 dL_law_282 ?_
  refine lv_aload_n hx hb dL_law_283 rfl (lv_at hl 0 rfl) ?_
  refine lv_iload_n hx hb dL_law_284 rfl (lv_at hl 3 rfl) ?_
  refine lv_iconst (v := (2 : Int32)) hx hb dL_law_285 (by decide) ?_
  refine lv_iadd hx hb dL_law_286 ?_
  refine va_sld hx hb hX hbl hbA hH.2.2.1 hi2 dL_law_287 ?_
  refine lv_aload_n hx hb dL_law_288 rfl (lv_at hl 0 rfl) ?_
  refine lv_iload_n hx hb dL_law_289 rfl (lv_at hl 3 rfl) ?_
  refine lv_iconst (v := (3 : Int32)) hx hb dL_law_290 (by decide) ?_
  refine lv_iadd hx hb dL_law_291 ?_
  refine va_sld hx hb hX hbl hbA hH.2.2.1 hi3 dL_law_292 ?_
  refine fd_callV1 73 7 [.int (xs (x + 1).toNatClampNeg), .int (xs (x + 2).toNatClampNeg), .int (xs (x + 3).toNatClampNeg)] C hl.1 hH (cM_withdraw l E 10000 S1 _ _ _ e2) wL_44 (by decide) rfl (by decide) rfl ⟨rfl, rfl, Nat.le_of_ble_eq_true rfl, Nat.le_of_ble_eq_true rfl⟩ rfl rfl (Nat.le_of_ble_eq_true rfl) hc dL_law_293 (fun H locs hH => ?_)
  refine lv_icmp_eq (tgt := 614) hx hb dL_law_296 (by decide) (fun _ => ?_) (fun c1 => absurd rfl c1)
  exact kn S2 _ _ I2 hH
set_option maxHeartbeats 4000000 in
set_option maxRecDepth 100000 in
theorem lc_7 (B : lw_B p s m c b L xs E) (hc : cells ≤ room_1.cells ∧ slots ≤ room_1.slots) (h5 : 5 * n + 5 ≤ L) (hL : L ≤ 2560) (ex : x = nI (5 * n)) (I : m_I S n) (hH : fd_H E S s H locs) (hl : lv_has ls 4 [(0, .ref b), (1, .ref (E.2.2 69)), (2, .ref (E.2.2 73)), (3, .int x)]) (kn : ∀ (S2 : fd_S) (H : Heap) (locs : List Loc), m_I S2 (n + 1) → fd_H E S2 s H locs → W p l e room_1 s m #[Value.ref b] below meth c H locs cells slots Q (F0 m 614 ls [])) : W p l e room_1 s m #[Value.ref b] below meth c H locs cells slots Q (F0 m 301 ls []) := by
  obtain ⟨C, hX, hbl, hbA⟩ := B
  have hx := C.1
  have hb := C.2.1
  have hi1 : vp_in (x + 1) L := lw_in ex (k := 1) rfl (by omega) hL
  obtain ⟨r, S1, S2, e1, e2, I2⟩ := m_ok_X (m_pass (fu := 10000) (x := xs (x + 1).toNatClampNeg) (Nat.le_refl _)) S n (by omega) I hH.2.2.2
  refine lv_aload_n hx hb dL_law_301 rfl (lv_at hl 1 rfl) ?_
  refine lv_aload_n hx hb dL_law_302 rfl (lv_at hl 0 rfl) ?_
  refine lv_iload_n hx hb dL_law_303 rfl (lv_at hl 3 rfl) ?_
  refine lv_iconst (v := (1 : Int32)) hx hb dL_law_304 (by decide) ?_
  refine lv_iadd hx hb dL_law_305 ?_
  refine va_sld hx hb hX hbl hbA hH.2.2.1 hi1 dL_law_306 ?_
  refine fd_callV1 69 6 [.int (xs (x + 1).toNatClampNeg)] C hl.1 hH (cF_pass l E 10000 S _ e1) wL_45 (by decide) rfl (by decide) rfl ⟨rfl, rfl, Nat.le_of_ble_eq_true rfl, Nat.le_of_ble_eq_true rfl⟩ rfl rfl (Nat.le_of_ble_eq_true rfl) hc dL_law_307 (fun H locs hH => ?_)
  refine lv_aload_n hx hb dL_law_310 rfl (lv_at hl 2 rfl) ?_
  refine lv_aload_n hx hb dL_law_311 rfl (lv_at hl 0 rfl) ?_
  refine lv_iload_n hx hb dL_law_312 rfl (lv_at hl 3 rfl) ?_
  refine lv_iconst (v := (1 : Int32)) hx hb dL_law_313 (by decide) ?_
  refine lv_iadd hx hb dL_law_314 ?_
  refine va_sld hx hb hX hbl hbA hH.2.2.1 hi1 dL_law_315 ?_
  refine fd_callV1 73 7 [.int (xs (x + 1).toNatClampNeg)] C hl.1 hH (cM_pass l E 10000 S1 _ e2) wL_48 (by decide) rfl (by decide) rfl ⟨rfl, rfl, Nat.le_of_ble_eq_true rfl, Nat.le_of_ble_eq_true rfl⟩ rfl rfl (Nat.le_of_ble_eq_true rfl) hc dL_law_316 (fun H locs hH => ?_)
  refine lv_icmp_eq (tgt := 614) hx hb dL_law_319 (by decide) (fun _ => ?_) (fun c1 => absurd rfl c1)
  exact kn S2 _ _ I2 hH
set_option maxHeartbeats 4000000 in
set_option maxRecDepth 100000 in
theorem lc_8 (B : lw_B p s m c b L xs E) (hc : cells ≤ room_1.cells ∧ slots ≤ room_1.slots) (h5 : 5 * n + 5 ≤ L) (hL : L ≤ 2560) (ex : x = nI (5 * n)) (I : m_I S n) (hH : fd_H E S s H locs) (hl : lv_has ls 4 [(0, .ref b), (1, .ref (E.2.2 69)), (2, .ref (E.2.2 73)), (3, .int x)]) (kn : ∀ (S2 : fd_S) (H : Heap) (locs : List Loc), m_I S2 (n + 1) → fd_H E S2 s H locs → W p l e room_1 s m #[Value.ref b] below meth c H locs cells slots Q (F0 m 614 ls [])) : W p l e room_1 s m #[Value.ref b] below meth c H locs cells slots Q (F0 m 324 ls []) := by
  obtain ⟨C, hX, hbl, hbA⟩ := B
  have hx := C.1
  have hb := C.2.1
  have hi1 : vp_in (x + 1) L := lw_in ex (k := 1) rfl (by omega) hL
  have hi2 : vp_in (x + 2) L := lw_in ex (k := 2) rfl (by omega) hL
  have hi3 : vp_in (x + 3) L := lw_in ex (k := 3) rfl (by omega) hL
  obtain ⟨r, e1, e2⟩ := m_okY_Y (m_route (fu := 10000) (a := xs (x + 1).toNatClampNeg) (b := xs (x + 2).toNatClampNeg) (w := xs (x + 3).toNatClampNeg) (Nat.le_refl _)) S n (by omega) I
  refine lv_aload_n hx hb dL_law_324 rfl (lv_at hl 1 rfl) ?_
  refine lv_aload_n hx hb dL_law_325 rfl (lv_at hl 0 rfl) ?_
  refine lv_iload_n hx hb dL_law_326 rfl (lv_at hl 3 rfl) ?_
  refine lv_iconst (v := (1 : Int32)) hx hb dL_law_327 (by decide) ?_
  refine lv_iadd hx hb dL_law_328 ?_
  refine va_sld hx hb hX hbl hbA hH.2.2.1 hi1 dL_law_329 ?_
  refine lv_aload_n hx hb dL_law_330 rfl (lv_at hl 0 rfl) ?_
  refine lv_iload_n hx hb dL_law_331 rfl (lv_at hl 3 rfl) ?_
  refine lv_iconst (v := (2 : Int32)) hx hb dL_law_332 (by decide) ?_
  refine lv_iadd hx hb dL_law_333 ?_
  refine va_sld hx hb hX hbl hbA hH.2.2.1 hi2 dL_law_334 ?_
  refine lv_aload_n hx hb dL_law_335 rfl (lv_at hl 0 rfl) ?_
  refine lv_iload_n hx hb dL_law_336 rfl (lv_at hl 3 rfl) ?_
  refine lv_iconst (v := (3 : Int32)) hx hb dL_law_337 (by decide) ?_
  refine lv_iadd hx hb dL_law_338 ?_
  refine va_sld hx hb hX hbl hbA hH.2.2.1 hi3 dL_law_339 ?_
  refine fd_callV1 69 6 [.int (xs (x + 1).toNatClampNeg), .int (xs (x + 2).toNatClampNeg), .int (xs (x + 3).toNatClampNeg)] C hl.1 hH (cF_route l E 10000 S _ _ _ e1) wL_49 (by decide) rfl (by decide) rfl ⟨rfl, rfl, Nat.le_of_ble_eq_true rfl, Nat.le_of_ble_eq_true rfl⟩ rfl rfl (Nat.le_of_ble_eq_true rfl) hc dL_law_340 (fun H locs hH => ?_)
  refine lv_aload_n hx hb dL_law_343 rfl (lv_at hl 2 rfl) ?_
  refine lv_aload_n hx hb dL_law_344 rfl (lv_at hl 0 rfl) ?_
  refine lv_iload_n hx hb dL_law_345 rfl (lv_at hl 3 rfl) ?_
  refine lv_iconst (v := (1 : Int32)) hx hb dL_law_346 (by decide) ?_
  refine lv_iadd hx hb dL_law_347 ?_
  refine va_sld hx hb hX hbl hbA hH.2.2.1 hi1 dL_law_348 ?_
  refine lv_aload_n hx hb dL_law_349 rfl (lv_at hl 0 rfl) ?_
  refine lv_iload_n hx hb dL_law_350 rfl (lv_at hl 3 rfl) ?_
  refine lv_iconst (v := (2 : Int32)) hx hb dL_law_351 (by decide) ?_
  refine lv_iadd hx hb dL_law_352 ?_
  refine va_sld hx hb hX hbl hbA hH.2.2.1 hi2 dL_law_353 ?_
  refine lv_aload_n hx hb dL_law_354 rfl (lv_at hl 0 rfl) ?_
  refine lv_iload_n hx hb dL_law_355 rfl (lv_at hl 3 rfl) ?_
  refine lv_iconst (v := (3 : Int32)) hx hb dL_law_356 (by decide) ?_
  refine lv_iadd hx hb dL_law_357 ?_
  refine va_sld hx hb hX hbl hbA hH.2.2.1 hi3 dL_law_358 ?_
  refine fd_callV1 73 7 [.int (xs (x + 1).toNatClampNeg), .int (xs (x + 2).toNatClampNeg), .int (xs (x + 3).toNatClampNeg)] C hl.1 hH (cM_route l E 10000 S _ _ _ e2) wL_52 (by decide) rfl (by decide) rfl ⟨rfl, rfl, Nat.le_of_ble_eq_true rfl, Nat.le_of_ble_eq_true rfl⟩ rfl rfl (Nat.le_of_ble_eq_true rfl) hc dL_law_359 (fun H locs hH => ?_)
  refine lv_icmp_eq (tgt := 614) hx hb dL_law_362 (by decide) (fun _ => ?_) (fun c1 => absurd rfl c1)
  exact kn S _ _ (m_I_up I) hH
set_option maxHeartbeats 4000000 in
set_option maxRecDepth 100000 in
theorem lc_9 (B : lw_B p s m c b L xs E) (hc : cells ≤ room_1.cells ∧ slots ≤ room_1.slots) (h5 : 5 * n + 5 ≤ L) (hL : L ≤ 2560) (ex : x = nI (5 * n)) (I : m_I S n) (hH : fd_H E S s H locs) (hl : lv_has ls 4 [(0, .ref b), (1, .ref (E.2.2 69)), (2, .ref (E.2.2 73)), (3, .int x)]) (kn : ∀ (S2 : fd_S) (H : Heap) (locs : List Loc), m_I S2 (n + 1) → fd_H E S2 s H locs → W p l e room_1 s m #[Value.ref b] below meth c H locs cells slots Q (F0 m 614 ls [])) : W p l e room_1 s m #[Value.ref b] below meth c H locs cells slots Q (F0 m 367 ls []) := by
  obtain ⟨C, hX, hbl, hbA⟩ := B
  have hx := C.1
  have hb := C.2.1
  have hi1 : vp_in (x + 1) L := lw_in ex (k := 1) rfl (by omega) hL
  have hi2 : vp_in (x + 2) L := lw_in ex (k := 2) rfl (by omega) hL
  have hi3 : vp_in (x + 3) L := lw_in ex (k := 3) rfl (by omega) hL
  obtain ⟨r, e1, e2⟩ := m_okY_Y (m_later (fu := 10000) (a := xs (x + 1).toNatClampNeg) (b := xs (x + 2).toNatClampNeg) (t := xs (x + 3).toNatClampNeg) (Nat.le_refl _)) S n (by omega) I
  refine lv_aload_n hx hb dL_law_367 rfl (lv_at hl 1 rfl) ?_
  refine lv_aload_n hx hb dL_law_368 rfl (lv_at hl 0 rfl) ?_
  refine lv_iload_n hx hb dL_law_369 rfl (lv_at hl 3 rfl) ?_
  refine lv_iconst (v := (1 : Int32)) hx hb dL_law_370 (by decide) ?_
  refine lv_iadd hx hb dL_law_371 ?_
  refine va_sld hx hb hX hbl hbA hH.2.2.1 hi1 dL_law_372 ?_
  refine lv_aload_n hx hb dL_law_373 rfl (lv_at hl 0 rfl) ?_
  refine lv_iload_n hx hb dL_law_374 rfl (lv_at hl 3 rfl) ?_
  refine lv_iconst (v := (2 : Int32)) hx hb dL_law_375 (by decide) ?_
  refine lv_iadd hx hb dL_law_376 ?_
  refine va_sld hx hb hX hbl hbA hH.2.2.1 hi2 dL_law_377 ?_
  refine lv_aload_n hx hb dL_law_378 rfl (lv_at hl 0 rfl) ?_
  refine lv_iload_n hx hb dL_law_379 rfl (lv_at hl 3 rfl) ?_
  refine lv_iconst (v := (3 : Int32)) hx hb dL_law_380 (by decide) ?_
  refine lv_iadd hx hb dL_law_381 ?_
  refine va_sld hx hb hX hbl hbA hH.2.2.1 hi3 dL_law_382 ?_
  refine fd_callV1 69 6 [.int (xs (x + 1).toNatClampNeg), .int (xs (x + 2).toNatClampNeg), .int (xs (x + 3).toNatClampNeg)] C hl.1 hH (cF_later l E 10000 S _ _ _ e1) wL_53 (by decide) rfl (by decide) rfl ⟨rfl, rfl, Nat.le_of_ble_eq_true rfl, Nat.le_of_ble_eq_true rfl⟩ rfl rfl (Nat.le_of_ble_eq_true rfl) hc dL_law_383 (fun H locs hH => ?_)
  refine lv_aload_n hx hb dL_law_386 rfl (lv_at hl 2 rfl) ?_
  refine lv_aload_n hx hb dL_law_387 rfl (lv_at hl 0 rfl) ?_
  refine lv_iload_n hx hb dL_law_388 rfl (lv_at hl 3 rfl) ?_
  refine lv_iconst (v := (1 : Int32)) hx hb dL_law_389 (by decide) ?_
  refine lv_iadd hx hb dL_law_390 ?_
  refine va_sld hx hb hX hbl hbA hH.2.2.1 hi1 dL_law_391 ?_
  refine lv_aload_n hx hb dL_law_392 rfl (lv_at hl 0 rfl) ?_
  refine lv_iload_n hx hb dL_law_393 rfl (lv_at hl 3 rfl) ?_
  refine lv_iconst (v := (2 : Int32)) hx hb dL_law_394 (by decide) ?_
  refine lv_iadd hx hb dL_law_395 ?_
  refine va_sld hx hb hX hbl hbA hH.2.2.1 hi2 dL_law_396 ?_
  refine lv_aload_n hx hb dL_law_397 rfl (lv_at hl 0 rfl) ?_
  refine lv_iload_n hx hb dL_law_398 rfl (lv_at hl 3 rfl) ?_
  refine lv_iconst (v := (3 : Int32)) hx hb dL_law_399 (by decide) ?_
  refine lv_iadd hx hb dL_law_400 ?_
  refine va_sld hx hb hX hbl hbA hH.2.2.1 hi3 dL_law_401 ?_
  refine fd_callV1 73 7 [.int (xs (x + 1).toNatClampNeg), .int (xs (x + 2).toNatClampNeg), .int (xs (x + 3).toNatClampNeg)] C hl.1 hH (cM_later l E 10000 S _ _ _ e2) wL_56 (by decide) rfl (by decide) rfl ⟨rfl, rfl, Nat.le_of_ble_eq_true rfl, Nat.le_of_ble_eq_true rfl⟩ rfl rfl (Nat.le_of_ble_eq_true rfl) hc dL_law_402 (fun H locs hH => ?_)
  refine lv_icmp_eq (tgt := 614) hx hb dL_law_405 (by decide) (fun _ => ?_) (fun c1 => absurd rfl c1)
  exact kn S _ _ (m_I_up I) hH
set_option maxHeartbeats 4000000 in
set_option maxRecDepth 100000 in
theorem lc_10 (B : lw_B p s m c b L xs E) (hc : cells ≤ room_1.cells ∧ slots ≤ room_1.slots) (h5 : 5 * n + 5 ≤ L) (hL : L ≤ 2560) (ex : x = nI (5 * n)) (I : m_I S n) (hH : fd_H E S s H locs) (hl : lv_has ls 4 [(0, .ref b), (1, .ref (E.2.2 69)), (2, .ref (E.2.2 73)), (3, .int x)]) (kn : ∀ (S2 : fd_S) (H : Heap) (locs : List Loc), m_I S2 (n + 1) → fd_H E S2 s H locs → W p l e room_1 s m #[Value.ref b] below meth c H locs cells slots Q (F0 m 614 ls [])) : W p l e room_1 s m #[Value.ref b] below meth c H locs cells slots Q (F0 m 410 ls []) := by
  obtain ⟨C, hX, hbl, hbA⟩ := B
  have hx := C.1
  have hb := C.2.1
  have hi1 : vp_in (x + 1) L := lw_in ex (k := 1) rfl (by omega) hL
  have hi2 : vp_in (x + 2) L := lw_in ex (k := 2) rfl (by omega) hL
  obtain ⟨r, e1, e2⟩ := m_okY_Y (m_when (fu := 10000) (a := xs (x + 1).toNatClampNeg) (b := xs (x + 2).toNatClampNeg) (Nat.le_refl _)) S n (by omega) I
  refine lv_aload_n hx hb dL_law_410 rfl (lv_at hl 1 rfl) ?_
  refine lv_aload_n hx hb dL_law_411 rfl (lv_at hl 0 rfl) ?_
  refine lv_iload_n hx hb dL_law_412 rfl (lv_at hl 3 rfl) ?_
  refine lv_iconst (v := (1 : Int32)) hx hb dL_law_413 (by decide) ?_
  refine lv_iadd hx hb dL_law_414 ?_
  refine va_sld hx hb hX hbl hbA hH.2.2.1 hi1 dL_law_415 ?_
  refine lv_aload_n hx hb dL_law_416 rfl (lv_at hl 0 rfl) ?_
  refine lv_iload_n hx hb dL_law_417 rfl (lv_at hl 3 rfl) ?_
  refine lv_iconst (v := (2 : Int32)) hx hb dL_law_418 (by decide) ?_
  refine lv_iadd hx hb dL_law_419 ?_
  refine va_sld hx hb hX hbl hbA hH.2.2.1 hi2 dL_law_420 ?_
  refine fd_callV1 69 6 [.int (xs (x + 1).toNatClampNeg), .int (xs (x + 2).toNatClampNeg)] C hl.1 hH (cF_when l E 10000 S _ _ e1) wL_57 (by decide) rfl (by decide) rfl ⟨rfl, rfl, Nat.le_of_ble_eq_true rfl, Nat.le_of_ble_eq_true rfl⟩ rfl rfl (Nat.le_of_ble_eq_true rfl) hc dL_law_421 (fun H locs hH => ?_)
  refine lv_aload_n hx hb dL_law_424 rfl (lv_at hl 2 rfl) ?_
  refine lv_aload_n hx hb dL_law_425 rfl (lv_at hl 0 rfl) ?_
  refine lv_iload_n hx hb dL_law_426 rfl (lv_at hl 3 rfl) ?_
  refine lv_iconst (v := (1 : Int32)) hx hb dL_law_427 (by decide) ?_
  refine lv_iadd hx hb dL_law_428 ?_
  refine va_sld hx hb hX hbl hbA hH.2.2.1 hi1 dL_law_429 ?_
  refine lv_aload_n hx hb dL_law_430 rfl (lv_at hl 0 rfl) ?_
  refine lv_iload_n hx hb dL_law_431 rfl (lv_at hl 3 rfl) ?_
  refine lv_iconst (v := (2 : Int32)) hx hb dL_law_432 (by decide) ?_
  refine lv_iadd hx hb dL_law_433 ?_
  refine va_sld hx hb hX hbl hbA hH.2.2.1 hi2 dL_law_434 ?_
  refine fd_callV1 73 7 [.int (xs (x + 1).toNatClampNeg), .int (xs (x + 2).toNatClampNeg)] C hl.1 hH (cM_when l E 10000 S _ _ e2) wL_61 (by decide) rfl (by decide) rfl ⟨rfl, rfl, Nat.le_of_ble_eq_true rfl, Nat.le_of_ble_eq_true rfl⟩ rfl rfl (Nat.le_of_ble_eq_true rfl) hc dL_law_435 (fun H locs hH => ?_)
  refine lv_icmp_eq (tgt := 614) hx hb dL_law_438 (by decide) (fun _ => ?_) (fun c1 => absurd rfl c1)
  exact kn S _ _ (m_I_up I) hH
set_option maxHeartbeats 4000000 in
set_option maxRecDepth 100000 in
theorem lc_11 (B : lw_B p s m c b L xs E) (hc : cells ≤ room_1.cells ∧ slots ≤ room_1.slots) (h5 : 5 * n + 5 ≤ L) (hL : L ≤ 2560) (ex : x = nI (5 * n)) (I : m_I S n) (hH : fd_H E S s H locs) (hl : lv_has ls 4 [(0, .ref b), (1, .ref (E.2.2 69)), (2, .ref (E.2.2 73)), (3, .int x)]) (kn : ∀ (S2 : fd_S) (H : Heap) (locs : List Loc), m_I S2 (n + 1) → fd_H E S2 s H locs → W p l e room_1 s m #[Value.ref b] below meth c H locs cells slots Q (F0 m 614 ls [])) : W p l e room_1 s m #[Value.ref b] below meth c H locs cells slots Q (F0 m 443 ls []) := by
  obtain ⟨C, hX, hbl, hbA⟩ := B
  have hx := C.1
  have hb := C.2.1
  obtain ⟨r, e1, e2⟩ := m_okY_Y (m_longest (fu := 10000) (Nat.le_refl _)) S n (by omega) I
  refine lv_aload_n hx hb dL_law_443 rfl (lv_at hl 1 rfl) ?_
  refine fd_callV1 69 6 [] C hl.1 hH (cF_longest l E 10000 S e1) wL_62 (by decide) rfl (by decide) rfl ⟨rfl, rfl, Nat.le_of_ble_eq_true rfl, Nat.le_of_ble_eq_true rfl⟩ rfl rfl (Nat.le_of_ble_eq_true rfl) hc dL_law_444 (fun H locs hH => ?_)
  refine lv_aload_n hx hb dL_law_447 rfl (lv_at hl 2 rfl) ?_
  refine fd_callV1 73 7 [] C hl.1 hH (cM_longest l E 10000 S e2) wL_65 (by decide) rfl (by decide) rfl ⟨rfl, rfl, Nat.le_of_ble_eq_true rfl, Nat.le_of_ble_eq_true rfl⟩ rfl rfl (Nat.le_of_ble_eq_true rfl) hc dL_law_448 (fun H locs hH => ?_)
  refine lv_icmp_eq (tgt := 614) hx hb dL_law_451 (by decide) (fun _ => ?_) (fun c1 => absurd rfl c1)
  exact kn S _ _ (m_I_up I) hH
set_option maxHeartbeats 4000000 in
set_option maxRecDepth 100000 in
theorem lc_12 (B : lw_B p s m c b L xs E) (hc : cells ≤ room_1.cells ∧ slots ≤ room_1.slots) (h5 : 5 * n + 5 ≤ L) (hL : L ≤ 2560) (ex : x = nI (5 * n)) (I : m_I S n) (hH : fd_H E S s H locs) (hl : lv_has ls 4 [(0, .ref b), (1, .ref (E.2.2 69)), (2, .ref (E.2.2 73)), (3, .int x)]) (kn : ∀ (S2 : fd_S) (H : Heap) (locs : List Loc), m_I S2 (n + 1) → fd_H E S2 s H locs → W p l e room_1 s m #[Value.ref b] below meth c H locs cells slots Q (F0 m 614 ls [])) : W p l e room_1 s m #[Value.ref b] below meth c H locs cells slots Q (F0 m 456 ls []) := by
  obtain ⟨C, hX, hbl, hbA⟩ := B
  have hx := C.1
  have hb := C.2.1
  have hi1 : vp_in (x + 1) L := lw_in ex (k := 1) rfl (by omega) hL
  have hi2 : vp_in (x + 2) L := lw_in ex (k := 2) rfl (by omega) hL
  obtain ⟨r, e1, e2⟩ := m_okY_Y (m_best (x := xs (x + 1).toNatClampNeg) (y := xs (x + 2).toNatClampNeg)) S n (by omega) I
  refine lv_aload_n hx hb dL_law_456 rfl (lv_at hl 1 rfl) ?_
  refine lv_aload_n hx hb dL_law_457 rfl (lv_at hl 0 rfl) ?_
  refine lv_iload_n hx hb dL_law_458 rfl (lv_at hl 3 rfl) ?_
  refine lv_iconst (v := (1 : Int32)) hx hb dL_law_459 (by decide) ?_
  refine lv_iadd hx hb dL_law_460 ?_
  refine va_sld hx hb hX hbl hbA hH.2.2.1 hi1 dL_law_461 ?_
  refine lv_aload_n hx hb dL_law_462 rfl (lv_at hl 0 rfl) ?_
  refine lv_iload_n hx hb dL_law_463 rfl (lv_at hl 3 rfl) ?_
  refine lv_iconst (v := (2 : Int32)) hx hb dL_law_464 (by decide) ?_
  refine lv_iadd hx hb dL_law_465 ?_
  refine va_sld hx hb hX hbl hbA hH.2.2.1 hi2 dL_law_466 ?_
  refine fd_callV1 69 6 [.int (xs (x + 1).toNatClampNeg), .int (xs (x + 2).toNatClampNeg)] C hl.1 hH (cF_best l E S _ _ e1) wL_66 (by decide) rfl (by decide) rfl ⟨rfl, rfl, Nat.le_of_ble_eq_true rfl, Nat.le_of_ble_eq_true rfl⟩ rfl rfl (Nat.le_of_ble_eq_true rfl) hc dL_law_467 (fun H locs hH => ?_)
  refine lv_aload_n hx hb dL_law_470 rfl (lv_at hl 2 rfl) ?_
  refine lv_aload_n hx hb dL_law_471 rfl (lv_at hl 0 rfl) ?_
  refine lv_iload_n hx hb dL_law_472 rfl (lv_at hl 3 rfl) ?_
  refine lv_iconst (v := (1 : Int32)) hx hb dL_law_473 (by decide) ?_
  refine lv_iadd hx hb dL_law_474 ?_
  refine va_sld hx hb hX hbl hbA hH.2.2.1 hi1 dL_law_475 ?_
  refine lv_aload_n hx hb dL_law_476 rfl (lv_at hl 0 rfl) ?_
  refine lv_iload_n hx hb dL_law_477 rfl (lv_at hl 3 rfl) ?_
  refine lv_iconst (v := (2 : Int32)) hx hb dL_law_478 (by decide) ?_
  refine lv_iadd hx hb dL_law_479 ?_
  refine va_sld hx hb hX hbl hbA hH.2.2.1 hi2 dL_law_480 ?_
  refine fd_callV1 73 7 [.int (xs (x + 1).toNatClampNeg), .int (xs (x + 2).toNatClampNeg)] C hl.1 hH (cM_best l E S _ _ e2) wL_69 (by decide) rfl (by decide) rfl ⟨rfl, rfl, Nat.le_of_ble_eq_true rfl, Nat.le_of_ble_eq_true rfl⟩ rfl rfl (Nat.le_of_ble_eq_true rfl) hc dL_law_481 (fun H locs hH => ?_)
  refine lv_icmp_eq (tgt := 614) hx hb dL_law_484 (by decide) (fun _ => ?_) (fun c1 => absurd rfl c1)
  exact kn S _ _ (m_I_up I) hH
set_option maxHeartbeats 4000000 in
set_option maxRecDepth 100000 in
theorem lc_13 (B : lw_B p s m c b L xs E) (hc : cells ≤ room_1.cells ∧ slots ≤ room_1.slots) (h5 : 5 * n + 5 ≤ L) (hL : L ≤ 2560) (ex : x = nI (5 * n)) (I : m_I S n) (hH : fd_H E S s H locs) (hl : lv_has ls 4 [(0, .ref b), (1, .ref (E.2.2 69)), (2, .ref (E.2.2 73)), (3, .int x)]) (kn : ∀ (S2 : fd_S) (H : Heap) (locs : List Loc), m_I S2 (n + 1) → fd_H E S2 s H locs → W p l e room_1 s m #[Value.ref b] below meth c H locs cells slots Q (F0 m 614 ls [])) : W p l e room_1 s m #[Value.ref b] below meth c H locs cells slots Q (F0 m 489 ls []) := by
  obtain ⟨C, hX, hbl, hbA⟩ := B
  have hx := C.1
  have hb := C.2.1
  have hi1 : vp_in (x + 1) L := lw_in ex (k := 1) rfl (by omega) hL
  obtain ⟨r, e1, e2⟩ := m_okY_Y (m_record (x := xs (x + 1).toNatClampNeg)) S n (by omega) I
  refine lv_aload_n hx hb dL_law_489 rfl (lv_at hl 1 rfl) ?_
  refine lv_aload_n hx hb dL_law_490 rfl (lv_at hl 0 rfl) ?_
  refine lv_iload_n hx hb dL_law_491 rfl (lv_at hl 3 rfl) ?_
  refine lv_iconst (v := (1 : Int32)) hx hb dL_law_492 (by decide) ?_
  refine lv_iadd hx hb dL_law_493 ?_
  refine va_sld hx hb hX hbl hbA hH.2.2.1 hi1 dL_law_494 ?_
  refine fd_callV1 69 6 [.int (xs (x + 1).toNatClampNeg)] C hl.1 hH (cF_record l E S _ e1) wL_70 (by decide) rfl (by decide) rfl ⟨rfl, rfl, Nat.le_of_ble_eq_true rfl, Nat.le_of_ble_eq_true rfl⟩ rfl rfl (Nat.le_of_ble_eq_true rfl) hc dL_law_495 (fun H locs hH => ?_)
  refine lv_aload_n hx hb dL_law_498 rfl (lv_at hl 2 rfl) ?_
  refine lv_aload_n hx hb dL_law_499 rfl (lv_at hl 0 rfl) ?_
  refine lv_iload_n hx hb dL_law_500 rfl (lv_at hl 3 rfl) ?_
  refine lv_iconst (v := (1 : Int32)) hx hb dL_law_501 (by decide) ?_
  refine lv_iadd hx hb dL_law_502 ?_
  refine va_sld hx hb hX hbl hbA hH.2.2.1 hi1 dL_law_503 ?_
  refine fd_callV1 73 7 [.int (xs (x + 1).toNatClampNeg)] C hl.1 hH (cM_record l E S _ e2) wL_73 (by decide) rfl (by decide) rfl ⟨rfl, rfl, Nat.le_of_ble_eq_true rfl, Nat.le_of_ble_eq_true rfl⟩ rfl rfl (Nat.le_of_ble_eq_true rfl) hc dL_law_504 (fun H locs hH => ?_)
  refine lv_icmp_eq (tgt := 614) hx hb dL_law_507 (by decide) (fun _ => ?_) (fun c1 => absurd rfl c1)
  exact kn S _ _ (m_I_up I) hH
set_option maxHeartbeats 4000000 in
set_option maxRecDepth 100000 in
theorem lc_14 (B : lw_B p s m c b L xs E) (hc : cells ≤ room_1.cells ∧ slots ≤ room_1.slots) (h5 : 5 * n + 5 ≤ L) (hL : L ≤ 2560) (ex : x = nI (5 * n)) (I : m_I S n) (hH : fd_H E S s H locs) (hl : lv_has ls 4 [(0, .ref b), (1, .ref (E.2.2 69)), (2, .ref (E.2.2 73)), (3, .int x)]) (kn : ∀ (S2 : fd_S) (H : Heap) (locs : List Loc), m_I S2 (n + 1) → fd_H E S2 s H locs → W p l e room_1 s m #[Value.ref b] below meth c H locs cells slots Q (F0 m 614 ls [])) : W p l e room_1 s m #[Value.ref b] below meth c H locs cells slots Q (F0 m 512 ls []) := by
  obtain ⟨C, hX, hbl, hbA⟩ := B
  have hx := C.1
  have hb := C.2.1
  have hi1 : vp_in (x + 1) L := lw_in ex (k := 1) rfl (by omega) hL
  have hi2 : vp_in (x + 2) L := lw_in ex (k := 2) rfl (by omega) hL
  obtain ⟨r, e1, e2⟩ := m_okY_Y (m_line (fu := 10000) (i := xs (x + 1).toNatClampNeg) (k := xs (x + 2).toNatClampNeg)) S n (by omega) I
  refine lv_aload_n hx hb dL_law_512 rfl (lv_at hl 1 rfl) ?_
  refine lv_aload_n hx hb dL_law_513 rfl (lv_at hl 0 rfl) ?_
  refine lv_iload_n hx hb dL_law_514 rfl (lv_at hl 3 rfl) ?_
  refine lv_iconst (v := (1 : Int32)) hx hb dL_law_515 (by decide) ?_
  refine lv_iadd hx hb dL_law_516 ?_
  refine va_sld hx hb hX hbl hbA hH.2.2.1 hi1 dL_law_517 ?_
  refine lv_aload_n hx hb dL_law_518 rfl (lv_at hl 0 rfl) ?_
  refine lv_iload_n hx hb dL_law_519 rfl (lv_at hl 3 rfl) ?_
  refine lv_iconst (v := (2 : Int32)) hx hb dL_law_520 (by decide) ?_
  refine lv_iadd hx hb dL_law_521 ?_
  refine va_sld hx hb hX hbl hbA hH.2.2.1 hi2 dL_law_522 ?_
  refine fd_callV1 69 6 [.int (xs (x + 1).toNatClampNeg), .int (xs (x + 2).toNatClampNeg)] C hl.1 hH (cF_line l E S _ _ e1) wL_74 (by decide) rfl (by decide) rfl ⟨rfl, rfl, Nat.le_of_ble_eq_true rfl, Nat.le_of_ble_eq_true rfl⟩ rfl rfl (Nat.le_of_ble_eq_true rfl) hc dL_law_523 (fun H locs hH => ?_)
  refine lv_aload_n hx hb dL_law_526 rfl (lv_at hl 2 rfl) ?_
  refine lv_aload_n hx hb dL_law_527 rfl (lv_at hl 0 rfl) ?_
  refine lv_iload_n hx hb dL_law_528 rfl (lv_at hl 3 rfl) ?_
  refine lv_iconst (v := (1 : Int32)) hx hb dL_law_529 (by decide) ?_
  refine lv_iadd hx hb dL_law_530 ?_
  refine va_sld hx hb hX hbl hbA hH.2.2.1 hi1 dL_law_531 ?_
  refine lv_aload_n hx hb dL_law_532 rfl (lv_at hl 0 rfl) ?_
  refine lv_iload_n hx hb dL_law_533 rfl (lv_at hl 3 rfl) ?_
  refine lv_iconst (v := (2 : Int32)) hx hb dL_law_534 (by decide) ?_
  refine lv_iadd hx hb dL_law_535 ?_
  refine va_sld hx hb hX hbl hbA hH.2.2.1 hi2 dL_law_536 ?_
  refine fd_callV1 73 7 [.int (xs (x + 1).toNatClampNeg), .int (xs (x + 2).toNatClampNeg)] C hl.1 hH (cM_line l E 10000 S _ _ e2) wL_77 (by decide) rfl (by decide) rfl ⟨rfl, rfl, Nat.le_of_ble_eq_true rfl, Nat.le_of_ble_eq_true rfl⟩ rfl rfl (Nat.le_of_ble_eq_true rfl) hc dL_law_537 (fun H locs hH => ?_)
  refine lv_icmp_eq (tgt := 614) hx hb dL_law_540 (by decide) (fun _ => ?_) (fun c1 => absurd rfl c1)
  exact kn S _ _ (m_I_up I) hH
set_option maxHeartbeats 4000000 in
set_option maxRecDepth 100000 in
theorem lc_15 (B : lw_B p s m c b L xs E) (hc : cells ≤ room_1.cells ∧ slots ≤ room_1.slots) (h5 : 5 * n + 5 ≤ L) (hL : L ≤ 2560) (ex : x = nI (5 * n)) (I : m_I S n) (hH : fd_H E S s H locs) (hl : lv_has ls 4 [(0, .ref b), (1, .ref (E.2.2 69)), (2, .ref (E.2.2 73)), (3, .int x)]) (kn : ∀ (S2 : fd_S) (H : Heap) (locs : List Loc), m_I S2 (n + 1) → fd_H E S2 s H locs → W p l e room_1 s m #[Value.ref b] below meth c H locs cells slots Q (F0 m 614 ls [])) : W p l e room_1 s m #[Value.ref b] below meth c H locs cells slots Q (F0 m 545 ls []) := by
  obtain ⟨C, hX, hbl, hbA⟩ := B
  have hx := C.1
  have hb := C.2.1
  have hi1 : vp_in (x + 1) L := lw_in ex (k := 1) rfl (by omega) hL
  obtain ⟨r, e1, e2⟩ := m_ok_count (fu := 10000) (w := xs (x + 1).toNatClampNeg) (Nat.le_refl _) S n (by omega) I
  refine lv_aload_n hx hb dL_law_545 rfl (lv_at hl 1 rfl) ?_
  refine lv_aload_n hx hb dL_law_546 rfl (lv_at hl 0 rfl) ?_
  refine lv_iload_n hx hb dL_law_547 rfl (lv_at hl 3 rfl) ?_
  refine lv_iconst (v := (1 : Int32)) hx hb dL_law_548 (by decide) ?_
  refine lv_iadd hx hb dL_law_549 ?_
  refine va_sld hx hb hX hbl hbA hH.2.2.1 hi1 dL_law_550 ?_
  refine fd_callV1 69 6 [.int (xs (x + 1).toNatClampNeg)] C hl.1 hH (cF_count l E 10000 S _ e1) wL_78 (by decide) rfl (by decide) rfl ⟨rfl, rfl, Nat.le_of_ble_eq_true rfl, Nat.le_of_ble_eq_true rfl⟩ rfl rfl (Nat.le_of_ble_eq_true rfl) hc dL_law_551 (fun H locs hH => ?_)
  refine lv_aload_n hx hb dL_law_554 rfl (lv_at hl 2 rfl) ?_
  refine lv_aload_n hx hb dL_law_555 rfl (lv_at hl 0 rfl) ?_
  refine lv_iload_n hx hb dL_law_556 rfl (lv_at hl 3 rfl) ?_
  refine lv_iconst (v := (1 : Int32)) hx hb dL_law_557 (by decide) ?_
  refine lv_iadd hx hb dL_law_558 ?_
  refine va_sld hx hb hX hbl hbA hH.2.2.1 hi1 dL_law_559 ?_
  refine fd_callV1 73 7 [.int (xs (x + 1).toNatClampNeg)] C hl.1 hH (cM_count l E 10000 S _ e2) wL_81 (by decide) rfl (by decide) rfl ⟨rfl, rfl, Nat.le_of_ble_eq_true rfl, Nat.le_of_ble_eq_true rfl⟩ rfl rfl (Nat.le_of_ble_eq_true rfl) hc dL_law_560 (fun H locs hH => ?_)
  refine lv_icmp_eq (tgt := 614) hx hb dL_law_563 (by decide) (fun _ => ?_) (fun c1 => absurd rfl c1)
  exact kn S _ _ (m_I_up I) hH
set_option maxHeartbeats 4000000 in
set_option maxRecDepth 100000 in
theorem lc_16 (B : lw_B p s m c b L xs E) (hc : cells ≤ room_1.cells ∧ slots ≤ room_1.slots) (h5 : 5 * n + 5 ≤ L) (hL : L ≤ 2560) (ex : x = nI (5 * n)) (I : m_I S n) (hH : fd_H E S s H locs) (hl : lv_has ls 4 [(0, .ref b), (1, .ref (E.2.2 69)), (2, .ref (E.2.2 73)), (3, .int x)]) (kn : ∀ (S2 : fd_S) (H : Heap) (locs : List Loc), m_I S2 (n + 1) → fd_H E S2 s H locs → W p l e room_1 s m #[Value.ref b] below meth c H locs cells slots Q (F0 m 614 ls [])) : W p l e room_1 s m #[Value.ref b] below meth c H locs cells slots Q (F0 m 568 ls []) := by
  obtain ⟨C, hX, hbl, hbA⟩ := B
  have hx := C.1
  have hb := C.2.1
  have hi1 : vp_in (x + 1) L := lw_in ex (k := 1) rfl (by omega) hL
  obtain ⟨r, S1, S2, e1, e2, I2⟩ := m_ok_image (fu := 10000) (w := xs (x + 1).toNatClampNeg) (Nat.le_refl _) S n (by omega) I hH.2.2.2
  refine lv_aload_n hx hb dL_law_568 rfl (lv_at hl 1 rfl) ?_
  refine lv_aload_n hx hb dL_law_569 rfl (lv_at hl 0 rfl) ?_
  refine lv_iload_n hx hb dL_law_570 rfl (lv_at hl 3 rfl) ?_
  refine lv_iconst (v := (1 : Int32)) hx hb dL_law_571 (by decide) ?_
  refine lv_iadd hx hb dL_law_572 ?_
  refine va_sld hx hb hX hbl hbA hH.2.2.1 hi1 dL_law_573 ?_
  refine fd_callV1 69 6 [.int (xs (x + 1).toNatClampNeg)] C hl.1 hH (cF_image l E 10000 S _ e1) wL_82 (by decide) rfl (by decide) rfl ⟨rfl, rfl, Nat.le_of_ble_eq_true rfl, Nat.le_of_ble_eq_true rfl⟩ rfl rfl (Nat.le_of_ble_eq_true rfl) hc dL_law_574 (fun H locs hH => ?_)
  refine lv_aload_n hx hb dL_law_577 rfl (lv_at hl 2 rfl) ?_
  refine lv_aload_n hx hb dL_law_578 rfl (lv_at hl 0 rfl) ?_
  refine lv_iload_n hx hb dL_law_579 rfl (lv_at hl 3 rfl) ?_
  refine lv_iconst (v := (1 : Int32)) hx hb dL_law_580 (by decide) ?_
  refine lv_iadd hx hb dL_law_581 ?_
  refine va_sld hx hb hX hbl hbA hH.2.2.1 hi1 dL_law_582 ?_
  refine fd_callV1 73 7 [.int (xs (x + 1).toNatClampNeg)] C hl.1 hH (cM_image l E 10000 S1 _ e2) wL_85 (by decide) rfl (by decide) rfl ⟨rfl, rfl, Nat.le_of_ble_eq_true rfl, Nat.le_of_ble_eq_true rfl⟩ rfl rfl (Nat.le_of_ble_eq_true rfl) hc dL_law_583 (fun H locs hH => ?_)
  refine lv_icmp_eq (tgt := 614) hx hb dL_law_586 (by decide) (fun _ => ?_) (fun c1 => absurd rfl c1)
  exact kn S2 _ _ I2 hH
set_option maxHeartbeats 4000000 in
set_option maxRecDepth 100000 in
theorem lc_17 (B : lw_B p s m c b L xs E) (hc : cells ≤ room_1.cells ∧ slots ≤ room_1.slots) (h5 : 5 * n + 5 ≤ L) (hL : L ≤ 2560) (ex : x = nI (5 * n)) (I : m_I S n) (hH : fd_H E S s H locs) (hl : lv_has ls 4 [(0, .ref b), (1, .ref (E.2.2 69)), (2, .ref (E.2.2 73)), (3, .int x)]) (kn : ∀ (S2 : fd_S) (H : Heap) (locs : List Loc), m_I S2 (n + 1) → fd_H E S2 s H locs → W p l e room_1 s m #[Value.ref b] below meth c H locs cells slots Q (F0 m 614 ls [])) : W p l e room_1 s m #[Value.ref b] below meth c H locs cells slots Q (F0 m 591 ls []) := by
  obtain ⟨C, hX, hbl, hbA⟩ := B
  have hx := C.1
  have hb := C.2.1
  have hi1 : vp_in (x + 1) L := lw_in ex (k := 1) rfl (by omega) hL
  obtain ⟨r, S1, S2, e1, e2, I2⟩ := m_ok_restore (fu := 10000) (w := xs (x + 1).toNatClampNeg) (Nat.le_refl _) S n (by omega) I hH.2.2.2
  refine lv_aload_n hx hb dL_law_591 rfl (lv_at hl 1 rfl) ?_
  refine lv_aload_n hx hb dL_law_592 rfl (lv_at hl 0 rfl) ?_
  refine lv_iload_n hx hb dL_law_593 rfl (lv_at hl 3 rfl) ?_
  refine lv_iconst (v := (1 : Int32)) hx hb dL_law_594 (by decide) ?_
  refine lv_iadd hx hb dL_law_595 ?_
  refine va_sld hx hb hX hbl hbA hH.2.2.1 hi1 dL_law_596 ?_
  refine fd_callV1 69 6 [.int (xs (x + 1).toNatClampNeg)] C hl.1 hH (cF_restore l E 10000 S _ e1) wL_86 (by decide) rfl (by decide) rfl ⟨rfl, rfl, Nat.le_of_ble_eq_true rfl, Nat.le_of_ble_eq_true rfl⟩ rfl rfl (Nat.le_of_ble_eq_true rfl) hc dL_law_597 (fun H locs hH => ?_)
  refine lv_aload_n hx hb dL_law_600 rfl (lv_at hl 2 rfl) ?_
  refine lv_aload_n hx hb dL_law_601 rfl (lv_at hl 0 rfl) ?_
  refine lv_iload_n hx hb dL_law_602 rfl (lv_at hl 3 rfl) ?_
  refine lv_iconst (v := (1 : Int32)) hx hb dL_law_603 (by decide) ?_
  refine lv_iadd hx hb dL_law_604 ?_
  refine va_sld hx hb hX hbl hbA hH.2.2.1 hi1 dL_law_605 ?_
  refine fd_callV1 73 7 [.int (xs (x + 1).toNatClampNeg)] C hl.1 hH (cM_restore l E 10000 S1 _ e2) wL_89 (by decide) rfl (by decide) rfl ⟨rfl, rfl, Nat.le_of_ble_eq_true rfl, Nat.le_of_ble_eq_true rfl⟩ rfl rfl (Nat.le_of_ble_eq_true rfl) hc dL_law_606 (fun H locs hH => ?_)
  refine lv_icmp_eq (tgt := 614) hx hb dL_law_609 (by decide) (fun _ => ?_) (fun c1 => absurd rfl c1)
  exact kn S2 _ _ I2 hH
end LWC
