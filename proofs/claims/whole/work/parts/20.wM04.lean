theorem dX7_lookAtRecords_0 : decode cX7_lookAtRecords 0 = .ok (.iconst 0, 1) := by decide +kernel
theorem dX7_lookAtRecords_1 : decode cX7_lookAtRecords 1 = .ok (.istore_n 1, 1) := by decide +kernel
theorem dX7_lookAtRecords_2 : decode cX7_lookAtRecords 2 = .ok (.iload_n 1, 1) := by decide +kernel
theorem dX7_lookAtRecords_3 : decode cX7_lookAtRecords 3 = .ok (.aload_n 0, 1) := by decide +kernel
theorem dX7_lookAtRecords_4 : decode cX7_lookAtRecords 4 = .ok (.getfield 30, 3) := by decide +kernel
theorem dX7_lookAtRecords_7 : decode cX7_lookAtRecords 7 = .ok (.bipush 64, 2) := by decide +kernel
theorem dX7_lookAtRecords_9 : decode cX7_lookAtRecords 9 = .ok (.iaload, 1) := by decide +kernel
theorem dX7_lookAtRecords_10 : decode cX7_lookAtRecords 10 = .ok (.if_icmp .ge 137, 3) := by decide +kernel
theorem dX7_lookAtRecords_13 : decode cX7_lookAtRecords 13 = .ok (.aload_n 0, 1) := by decide +kernel
theorem dX7_lookAtRecords_14 : decode cX7_lookAtRecords 14 = .ok (.iload_n 1, 1) := by decide +kernel
theorem dX7_lookAtRecords_15 : decode cX7_lookAtRecords 15 = .ok (.invokevirtual 85, 3) := by decide +kernel
theorem dX7_lookAtRecords_18 : decode cX7_lookAtRecords 18 = .ok (.ifCond .eq 123, 3) := by decide +kernel
theorem dX7_lookAtRecords_21 : decode cX7_lookAtRecords 21 = .ok (.aload_n 0, 1) := by decide +kernel
theorem dX7_lookAtRecords_22 : decode cX7_lookAtRecords 22 = .ok (.getfield 30, 3) := by decide +kernel
theorem dX7_lookAtRecords_25 : decode cX7_lookAtRecords 25 = .ok (.iload_n 1, 1) := by decide +kernel
theorem dX7_lookAtRecords_26 : decode cX7_lookAtRecords 26 = .ok (.iconst 4, 1) := by decide +kernel
theorem dX7_lookAtRecords_27 : decode cX7_lookAtRecords 27 = .ok (.invokestatic 72, 3) := by decide +kernel
theorem dX7_lookAtRecords_30 : decode cX7_lookAtRecords 30 = .ok (.iaload, 1) := by decide +kernel
theorem dX7_lookAtRecords_31 : decode cX7_lookAtRecords 31 = .ok (.aload_n 0, 1) := by decide +kernel
theorem dX7_lookAtRecords_32 : decode cX7_lookAtRecords 32 = .ok (.getfield 30, 3) := by decide +kernel
theorem dX7_lookAtRecords_35 : decode cX7_lookAtRecords 35 = .ok (.bipush 63, 2) := by decide +kernel
theorem dX7_lookAtRecords_37 : decode cX7_lookAtRecords 37 = .ok (.iaload, 1) := by decide +kernel
theorem dX7_lookAtRecords_38 : decode cX7_lookAtRecords 38 = .ok (.if_icmp .gt 103, 3) := by decide +kernel
theorem dX7_lookAtRecords_41 : decode cX7_lookAtRecords 41 = .ok (.aload_n 0, 1) := by decide +kernel
theorem dX7_lookAtRecords_42 : decode cX7_lookAtRecords 42 = .ok (.iload_n 1, 1) := by decide +kernel
theorem dX7_lookAtRecords_43 : decode cX7_lookAtRecords 43 = .ok (.aload_n 0, 1) := by decide +kernel
theorem dX7_lookAtRecords_44 : decode cX7_lookAtRecords 44 = .ok (.getfield 30, 3) := by decide +kernel
theorem dX7_lookAtRecords_47 : decode cX7_lookAtRecords 47 = .ok (.bipush 63, 2) := by decide +kernel
theorem dX7_lookAtRecords_49 : decode cX7_lookAtRecords 49 = .ok (.iaload, 1) := by decide +kernel
theorem dX7_lookAtRecords_50 : decode cX7_lookAtRecords 50 = .ok (.invokevirtual 79, 3) := by decide +kernel
theorem dX7_lookAtRecords_53 : decode cX7_lookAtRecords 53 = .ok (.aload_n 0, 1) := by decide +kernel
theorem dX7_lookAtRecords_54 : decode cX7_lookAtRecords 54 = .ok (.iconst 5, 1) := by decide +kernel
theorem dX7_lookAtRecords_55 : decode cX7_lookAtRecords 55 = .ok (.invokevirtual 69, 3) := by decide +kernel
theorem dX7_lookAtRecords_58 : decode cX7_lookAtRecords 58 = .ok (.if_icmp .ge 61, 3) := by decide +kernel
theorem dX7_lookAtRecords_61 : decode cX7_lookAtRecords 61 = .ok (.aload_n 0, 1) := by decide +kernel
theorem dX7_lookAtRecords_62 : decode cX7_lookAtRecords 62 = .ok (.getfield 30, 3) := by decide +kernel
theorem dX7_lookAtRecords_65 : decode cX7_lookAtRecords 65 = .ok (.iload_n 1, 1) := by decide +kernel
theorem dX7_lookAtRecords_66 : decode cX7_lookAtRecords 66 = .ok (.iconst 3, 1) := by decide +kernel
theorem dX7_lookAtRecords_67 : decode cX7_lookAtRecords 67 = .ok (.invokestatic 72, 3) := by decide +kernel
theorem dX7_lookAtRecords_70 : decode cX7_lookAtRecords 70 = .ok (.iconst 0, 1) := by decide +kernel
theorem dX7_lookAtRecords_71 : decode cX7_lookAtRecords 71 = .ok (.iastore, 1) := by decide +kernel
theorem dX7_lookAtRecords_72 : decode cX7_lookAtRecords 72 = .ok (.aload_n 0, 1) := by decide +kernel
theorem dX7_lookAtRecords_73 : decode cX7_lookAtRecords 73 = .ok (.getfield 30, 3) := by decide +kernel
theorem dX7_lookAtRecords_76 : decode cX7_lookAtRecords 76 = .ok (.bipush 69, 2) := by decide +kernel
theorem dX7_lookAtRecords_78 : decode cX7_lookAtRecords 78 = .ok (.dup2, 1) := by decide +kernel
theorem dX7_lookAtRecords_79 : decode cX7_lookAtRecords 79 = .ok (.iaload, 1) := by decide +kernel
theorem dX7_lookAtRecords_80 : decode cX7_lookAtRecords 80 = .ok (.iconst 1, 1) := by decide +kernel
theorem dX7_lookAtRecords_81 : decode cX7_lookAtRecords 81 = .ok (.iadd, 1) := by decide +kernel
theorem dX7_lookAtRecords_82 : decode cX7_lookAtRecords 82 = .ok (.iastore, 1) := by decide +kernel
theorem dX7_lookAtRecords_83 : decode cX7_lookAtRecords 83 = .ok (.aload_n 0, 1) := by decide +kernel
theorem dX7_lookAtRecords_84 : decode cX7_lookAtRecords 84 = .ok (.bipush 82, 2) := by decide +kernel
theorem dX7_lookAtRecords_86 : decode cX7_lookAtRecords 86 = .ok (.aload_n 0, 1) := by decide +kernel
theorem dX7_lookAtRecords_87 : decode cX7_lookAtRecords 87 = .ok (.getfield 30, 3) := by decide +kernel
theorem dX7_lookAtRecords_90 : decode cX7_lookAtRecords 90 = .ok (.iload_n 1, 1) := by decide +kernel
theorem dX7_lookAtRecords_91 : decode cX7_lookAtRecords 91 = .ok (.iconst 0, 1) := by decide +kernel
theorem dX7_lookAtRecords_92 : decode cX7_lookAtRecords 92 = .ok (.invokestatic 72, 3) := by decide +kernel
theorem dX7_lookAtRecords_95 : decode cX7_lookAtRecords 95 = .ok (.iaload, 1) := by decide +kernel
theorem dX7_lookAtRecords_96 : decode cX7_lookAtRecords 96 = .ok (.invokevirtual 118, 3) := by decide +kernel
theorem dX7_lookAtRecords_99 : decode cX7_lookAtRecords 99 = .ok (.aload_n 0, 1) := by decide +kernel
theorem dX7_lookAtRecords_100 : decode cX7_lookAtRecords 100 = .ok (.bipush 64, 2) := by decide +kernel
theorem dX7_lookAtRecords_102 : decode cX7_lookAtRecords 102 = .ok (.invokevirtual 95, 3) := by decide +kernel
theorem dX7_lookAtRecords_105 : decode cX7_lookAtRecords 105 = .ok (.aload_n 0, 1) := by decide +kernel
theorem dX7_lookAtRecords_106 : decode cX7_lookAtRecords 106 = .ok (.aload_n 0, 1) := by decide +kernel
theorem dX7_lookAtRecords_107 : decode cX7_lookAtRecords 107 = .ok (.getfield 30, 3) := by decide +kernel
theorem dX7_lookAtRecords_110 : decode cX7_lookAtRecords 110 = .ok (.bipush 63, 2) := by decide +kernel
theorem dX7_lookAtRecords_112 : decode cX7_lookAtRecords 112 = .ok (.iaload, 1) := by decide +kernel
theorem dX7_lookAtRecords_113 : decode cX7_lookAtRecords 113 = .ok (.invokevirtual 109, 3) := by decide +kernel
theorem dX7_lookAtRecords_116 : decode cX7_lookAtRecords 116 = .ok (.goto 25, 3) := by decide +kernel
theorem dX7_lookAtRecords_119 : decode cX7_lookAtRecords 119 = .ok (.aload_n 0, 1) := by decide +kernel
theorem dX7_lookAtRecords_120 : decode cX7_lookAtRecords 120 = .ok (.getfield 30, 3) := by decide +kernel
theorem dX7_lookAtRecords_123 : decode cX7_lookAtRecords 123 = .ok (.iload_n 1, 1) := by decide +kernel
theorem dX7_lookAtRecords_124 : decode cX7_lookAtRecords 124 = .ok (.iconst 4, 1) := by decide +kernel
theorem dX7_lookAtRecords_125 : decode cX7_lookAtRecords 125 = .ok (.invokestatic 72, 3) := by decide +kernel
theorem dX7_lookAtRecords_128 : decode cX7_lookAtRecords 128 = .ok (.aload_n 0, 1) := by decide +kernel
theorem dX7_lookAtRecords_129 : decode cX7_lookAtRecords 129 = .ok (.iload_n 1, 1) := by decide +kernel
theorem dX7_lookAtRecords_130 : decode cX7_lookAtRecords 130 = .ok (.aload_n 0, 1) := by decide +kernel
theorem dX7_lookAtRecords_131 : decode cX7_lookAtRecords 131 = .ok (.getfield 30, 3) := by decide +kernel
theorem dX7_lookAtRecords_134 : decode cX7_lookAtRecords 134 = .ok (.bipush 63, 2) := by decide +kernel
theorem dX7_lookAtRecords_136 : decode cX7_lookAtRecords 136 = .ok (.iaload, 1) := by decide +kernel
theorem dX7_lookAtRecords_137 : decode cX7_lookAtRecords 137 = .ok (.invokevirtual 112, 3) := by decide +kernel
theorem dX7_lookAtRecords_140 : decode cX7_lookAtRecords 140 = .ok (.iastore, 1) := by decide +kernel
theorem dX7_lookAtRecords_141 : decode cX7_lookAtRecords 141 = .ok (.iinc 1 1, 3) := by decide +kernel
theorem dX7_lookAtRecords_144 : decode cX7_lookAtRecords 144 = .ok (.goto (-142), 3) := by decide +kernel
theorem dX7_lookAtRecords_147 : decode cX7_lookAtRecords 147 = .ok (.aload_n 0, 1) := by decide +kernel
theorem dX7_lookAtRecords_148 : decode cX7_lookAtRecords 148 = .ok (.getfield 30, 3) := by decide +kernel
theorem dX7_lookAtRecords_151 : decode cX7_lookAtRecords 151 = .ok (.bipush 64, 2) := by decide +kernel
theorem dX7_lookAtRecords_153 : decode cX7_lookAtRecords 153 = .ok (.iaload, 1) := by decide +kernel
theorem dX7_lookAtRecords_154 : decode cX7_lookAtRecords 154 = .ok (.iconst 1, 1) := by decide +kernel
theorem dX7_lookAtRecords_155 : decode cX7_lookAtRecords 155 = .ok (.isub, 1) := by decide +kernel
theorem dX7_lookAtRecords_156 : decode cX7_lookAtRecords 156 = .ok (.istore_n 1, 1) := by decide +kernel
theorem dX7_lookAtRecords_157 : decode cX7_lookAtRecords 157 = .ok (.iload_n 1, 1) := by decide +kernel
theorem dX7_lookAtRecords_158 : decode cX7_lookAtRecords 158 = .ok (.ifCond .lt 44, 3) := by decide +kernel
theorem dX7_lookAtRecords_161 : decode cX7_lookAtRecords 161 = .ok (.aload_n 0, 1) := by decide +kernel
theorem dX7_lookAtRecords_162 : decode cX7_lookAtRecords 162 = .ok (.iload_n 1, 1) := by decide +kernel
theorem dX7_lookAtRecords_163 : decode cX7_lookAtRecords 163 = .ok (.invokevirtual 85, 3) := by decide +kernel
theorem dX7_lookAtRecords_166 : decode cX7_lookAtRecords 166 = .ok (.ifCond .ne 30, 3) := by decide +kernel
theorem dX7_lookAtRecords_169 : decode cX7_lookAtRecords 169 = .ok (.iconst 2, 1) := by decide +kernel
theorem dX7_lookAtRecords_170 : decode cX7_lookAtRecords 170 = .ok (.aload_n 0, 1) := by decide +kernel
theorem dX7_lookAtRecords_171 : decode cX7_lookAtRecords 171 = .ok (.iload_n 1, 1) := by decide +kernel
theorem dX7_lookAtRecords_172 : decode cX7_lookAtRecords 172 = .ok (.aload_n 0, 1) := by decide +kernel
theorem dX7_lookAtRecords_173 : decode cX7_lookAtRecords 173 = .ok (.getfield 30, 3) := by decide +kernel
theorem dX7_lookAtRecords_176 : decode cX7_lookAtRecords 176 = .ok (.bipush 63, 2) := by decide +kernel
theorem dX7_lookAtRecords_178 : decode cX7_lookAtRecords 178 = .ok (.iaload, 1) := by decide +kernel
theorem dX7_lookAtRecords_179 : decode cX7_lookAtRecords 179 = .ok (.invokevirtual 79, 3) := by decide +kernel
theorem dX7_lookAtRecords_182 : decode cX7_lookAtRecords 182 = .ok (.imul, 1) := by decide +kernel
theorem dX7_lookAtRecords_183 : decode cX7_lookAtRecords 183 = .ok (.aload_n 0, 1) := by decide +kernel
theorem dX7_lookAtRecords_184 : decode cX7_lookAtRecords 184 = .ok (.iconst 5, 1) := by decide +kernel
theorem dX7_lookAtRecords_185 : decode cX7_lookAtRecords 185 = .ok (.invokevirtual 69, 3) := by decide +kernel
theorem dX7_lookAtRecords_188 : decode cX7_lookAtRecords 188 = .ok (.if_icmp .ge 8, 3) := by decide +kernel
theorem dX7_lookAtRecords_191 : decode cX7_lookAtRecords 191 = .ok (.aload_n 0, 1) := by decide +kernel
theorem dX7_lookAtRecords_192 : decode cX7_lookAtRecords 192 = .ok (.iload_n 1, 1) := by decide +kernel
theorem dX7_lookAtRecords_193 : decode cX7_lookAtRecords 193 = .ok (.invokevirtual 88, 3) := by decide +kernel
theorem dX7_lookAtRecords_196 : decode cX7_lookAtRecords 196 = .ok (.iinc 1 (-1), 3) := by decide +kernel
theorem dX7_lookAtRecords_199 : decode cX7_lookAtRecords 199 = .ok (.goto (-42), 3) := by decide +kernel
theorem dX7_lookAtRecords_202 : decode cX7_lookAtRecords 202 = .ok (.return_, 1) := by decide +kernel
set_option maxHeartbeats 4000000 in
set_option maxRecDepth 100000 in
theorem wM_lookAtRecords_157 {p : Program} {l : Launch} {e : Env} {s : State} {m : MethodId} {args : Array Value} {below : List Frame} {meth : Method} {c : Code} {E : fd_E} (C : fd_C p s m args c yX7_lookAtRecords.cls cX7_lookAtRecords 2 E) (hr : meth.sig.returnType = none) (hlk : meth.locks = false) (fu : Nat) {S0 : fd_S} : ∀ (n : Nat) (S : fd_S) (x1 : Int32) (H : Heap) (locs : List Loc) (ls : Array Slot), zM_lookAtRecords_157 fu n S x1 = some S0 → fd_H E S s H locs → lv_has ls 2 [(0, .ref (E.2.2 73)), (1, .int x1)] → W p l e (fd_rm 4 93) s m args below meth c H locs 0 0 (MQ below (fd_Q E none S0) args s 0 0 (fd_A E)) (F0 m 157 ls []) := by
  have hx := C.1
  have hb := C.2.1
  intro n
  induction n with
  | zero =>
    intro S x1 H locs ls hf
    rw [zM_lookAtRecords_157] at hf
    cases hf
  | succ n ih =>
    intro S x1 H locs ls hf hH hl
    rw [zM_lookAtRecords_157] at hf
    refine lv_iload_n hx hb dX7_lookAtRecords_157 rfl (lv_at hl 1 rfl) ?_
    refine lv_if_lt (tgt := 202) hx hb dX7_lookAtRecords_158 (by decide) (fun c3 => ?_) (fun c3 => ?_)
    · have hf := fd_ifp c3 hf
      cases hf
      exact fd_vret C hr hlk hH dX7_lookAtRecords_202
    · have hf := fd_ifn c3 hf
      refine lv_aload_n hx hb dX7_lookAtRecords_161 rfl (lv_at hl 0 rfl) ?_
      refine lv_iload_n hx hb dX7_lookAtRecords_162 rfl (lv_at hl 1 rfl) ?_
      obtain ⟨r4, e5, hf⟩ := fd_bnd hf
      refine fd_callV1 73 7 [.int x1] C hl.1 hH (cM_isHeld l E S x1 e5) wm_X7_85 (by decide) rfl (by decide) rfl ⟨rfl, rfl, Nat.le_of_ble_eq_true rfl, Nat.le_of_ble_eq_true rfl⟩ rfl rfl (Nat.le_of_ble_eq_true rfl) ⟨Nat.le_refl _, Nat.le_refl _⟩ dX7_lookAtRecords_163 (fun H locs hH => ?_)
      refine lv_if_ne (tgt := 196) hx hb dX7_lookAtRecords_166 (by decide) (fun c6 => ?_) (fun c6 => ?_)
      · have hf := fd_ifn c6 hf
        obtain ⟨y7, ey7, hf⟩ := fd_ltS hf
        refine lv_iinc (v := y7) (lv' := [(1, .int y7), (0, .ref (E.2.2 73))]) hx hb dX7_lookAtRecords_196 hl (k := 1) rfl (by rw [ey7]; rfl) (by decide) rfl (fun ls hl => ?_)
        refine lv_goto (tgt := 157) hx hb dX7_lookAtRecords_199 (by decide) ?_
        exact ih S y7 _ _ _ hf hH (lv_sub hl [1, 0] rfl)
      · have hf := fd_ifp c6 hf
        refine lv_iconst (v := (2 : Int32)) hx hb dX7_lookAtRecords_169 (by decide) ?_
        refine lv_aload_n hx hb dX7_lookAtRecords_170 rfl (lv_at hl 0 rfl) ?_
        refine lv_iload_n hx hb dX7_lookAtRecords_171 rfl (lv_at hl 1 rfl) ?_
        refine lv_aload_n hx hb dX7_lookAtRecords_172 rfl (lv_at hl 0 rfl) ?_
        refine fd_get 73 7 4 C hH (by decide) rfl (by decide) (by decide) wf_X7_30 (v := .ref (E.2.2 78)) rfl dX7_lookAtRecords_173 ?_
        refine lv_bipush (v := (63 : Int32)) hx hb dX7_lookAtRecords_176 (by decide) ?_
        refine fd_iald 78 (275 : Int32) C hH (by decide) rfl rfl (by decide) dX7_lookAtRecords_178 ?_
        obtain ⟨r8, e9, hf⟩ := fd_bnd hf
        refine fd_callV1 73 7 [.int x1, .int (S 78 (63 : Int32))] C hl.1 hH (cM_penaltyAt l E fu S x1 (S 78 (63 : Int32)) e9) wm_X7_79 (by decide) rfl (by decide) rfl ⟨rfl, rfl, Nat.le_of_ble_eq_true rfl, Nat.le_of_ble_eq_true rfl⟩ rfl rfl (Nat.le_of_ble_eq_true rfl) ⟨Nat.le_refl _, Nat.le_refl _⟩ dX7_lookAtRecords_179 (fun H locs hH => ?_)
        refine lv_imul hx hb dX7_lookAtRecords_182 ?_
        refine lv_aload_n hx hb dX7_lookAtRecords_183 rfl (lv_at hl 0 rfl) ?_
        refine lv_iconst (v := (5 : Int32)) hx hb dX7_lookAtRecords_184 (by decide) ?_
        obtain ⟨r10, e11, hf⟩ := fd_bnd hf
        refine fd_callV1 73 7 [.int (5 : Int32)] C hl.1 hH (cM_bounded l E S (5 : Int32) e11) wm_X7_69 (by decide) rfl (by decide) rfl ⟨rfl, rfl, Nat.le_of_ble_eq_true rfl, Nat.le_of_ble_eq_true rfl⟩ rfl rfl (Nat.le_of_ble_eq_true rfl) ⟨Nat.le_refl _, Nat.le_refl _⟩ dX7_lookAtRecords_185 (fun H locs hH => ?_)
        refine lv_icmp_ge (tgt := 196) hx hb dX7_lookAtRecords_188 (by decide) (fun c12 => ?_) (fun c12 => ?_)
        · have hf := fd_ifp c12 hf
          obtain ⟨y13, ey13, hf⟩ := fd_ltS hf
          refine lv_iinc (v := y13) (lv' := [(1, .int y13), (0, .ref (E.2.2 73))]) hx hb dX7_lookAtRecords_196 hl (k := 1) rfl (by rw [ey13]; rfl) (by decide) rfl (fun ls hl => ?_)
          refine lv_goto (tgt := 157) hx hb dX7_lookAtRecords_199 (by decide) ?_
          exact ih S y13 _ _ _ hf hH (lv_sub hl [1, 0] rfl)
        · have hf := fd_ifn c12 hf
          refine lv_aload_n hx hb dX7_lookAtRecords_191 rfl (lv_at hl 0 rfl) ?_
          refine lv_iload_n hx hb dX7_lookAtRecords_192 rfl (lv_at hl 1 rfl) ?_
          obtain ⟨S14, e15, hf⟩ := fd_bnd hf
          refine fd_callV0 73 7 [.int x1] C hl.1 hH (cM_remove l E fu S x1 e15) wm_X7_88 (by decide) rfl (by decide) rfl ⟨rfl, rfl, Nat.le_of_ble_eq_true rfl, Nat.le_of_ble_eq_true rfl⟩ rfl rfl (Nat.le_of_ble_eq_true rfl) ⟨Nat.le_refl _, Nat.le_refl _⟩ dX7_lookAtRecords_193 (fun H locs hH => ?_)
          obtain ⟨y16, ey16, hf⟩ := fd_ltS hf
          refine lv_iinc (v := y16) (lv' := [(1, .int y16), (0, .ref (E.2.2 73))]) hx hb dX7_lookAtRecords_196 hl (k := 1) rfl (by rw [ey16]; rfl) (by decide) rfl (fun ls hl => ?_)
          refine lv_goto (tgt := 157) hx hb dX7_lookAtRecords_199 (by decide) ?_
          exact ih S14 y16 _ _ _ hf hH (lv_sub hl [1, 0] rfl)
set_option maxHeartbeats 4000000 in
set_option maxRecDepth 100000 in
theorem wM_lookAtRecords_2 {p : Program} {l : Launch} {e : Env} {s : State} {m : MethodId} {args : Array Value} {below : List Frame} {meth : Method} {c : Code} {E : fd_E} (C : fd_C p s m args c yX7_lookAtRecords.cls cX7_lookAtRecords 2 E) (hr : meth.sig.returnType = none) (hlk : meth.locks = false) (fu : Nat) {S0 : fd_S} : ∀ (n : Nat) (S : fd_S) (x1 : Int32) (H : Heap) (locs : List Loc) (ls : Array Slot), zM_lookAtRecords_2 fu n S x1 = some S0 → fd_H E S s H locs → lv_has ls 2 [(0, .ref (E.2.2 73)), (1, .int x1)] → W p l e (fd_rm 4 93) s m args below meth c H locs 0 0 (MQ below (fd_Q E none S0) args s 0 0 (fd_A E)) (F0 m 2 ls []) := by
  have hx := C.1
  have hb := C.2.1
  intro n
  induction n with
  | zero =>
    intro S x1 H locs ls hf
    rw [zM_lookAtRecords_2] at hf
    cases hf
  | succ n ih =>
    intro S x1 H locs ls hf hH hl
    rw [zM_lookAtRecords_2] at hf
    refine lv_iload_n hx hb dX7_lookAtRecords_2 rfl (lv_at hl 1 rfl) ?_
    refine lv_aload_n hx hb dX7_lookAtRecords_3 rfl (lv_at hl 0 rfl) ?_
    refine fd_get 73 7 4 C hH (by decide) rfl (by decide) (by decide) wf_X7_30 (v := .ref (E.2.2 78)) rfl dX7_lookAtRecords_4 ?_
    refine lv_bipush (v := (64 : Int32)) hx hb dX7_lookAtRecords_7 (by decide) ?_
    refine fd_iald 78 (275 : Int32) C hH (by decide) rfl rfl (by decide) dX7_lookAtRecords_9 ?_
    refine lv_icmp_ge (tgt := 147) hx hb dX7_lookAtRecords_10 (by decide) (fun c1 => ?_) (fun c1 => ?_)
    · have hf := fd_ifp c1 hf
      refine lv_aload_n hx hb dX7_lookAtRecords_147 rfl (lv_at hl 0 rfl) ?_
      refine fd_get 73 7 4 C hH (by decide) rfl (by decide) (by decide) wf_X7_30 (v := .ref (E.2.2 78)) rfl dX7_lookAtRecords_148 ?_
      refine lv_bipush (v := (64 : Int32)) hx hb dX7_lookAtRecords_151 (by decide) ?_
      refine fd_iald 78 (275 : Int32) C hH (by decide) rfl rfl (by decide) dX7_lookAtRecords_153 ?_
      refine lv_iconst (v := (1 : Int32)) hx hb dX7_lookAtRecords_154 (by decide) ?_
      refine lv_isub hx hb dX7_lookAtRecords_155 ?_
      refine lv_topi (fun y2 ey2 => ?_)
      have hf := fd_ltN ey2 hf
      refine lv_istore_n (lv' := [(1, .int y2), (0, .ref (E.2.2 73))]) hx hb dX7_lookAtRecords_156 rfl hl (by decide) rfl (fun ls hl => ?_)
      exact wM_lookAtRecords_157 C hr hlk fu fu S y2 _ _ _ hf hH (lv_sub hl [1, 0] rfl)
    · have hf := fd_ifn c1 hf
      refine lv_aload_n hx hb dX7_lookAtRecords_13 rfl (lv_at hl 0 rfl) ?_
      refine lv_iload_n hx hb dX7_lookAtRecords_14 rfl (lv_at hl 1 rfl) ?_
      obtain ⟨r17, e18, hf⟩ := fd_bnd hf
      refine fd_callV1 73 7 [.int x1] C hl.1 hH (cM_isHeld l E S x1 e18) wm_X7_85 (by decide) rfl (by decide) rfl ⟨rfl, rfl, Nat.le_of_ble_eq_true rfl, Nat.le_of_ble_eq_true rfl⟩ rfl rfl (Nat.le_of_ble_eq_true rfl) ⟨Nat.le_refl _, Nat.le_refl _⟩ dX7_lookAtRecords_15 (fun H locs hH => ?_)
      refine lv_if_eq (tgt := 141) hx hb dX7_lookAtRecords_18 (by decide) (fun c19 => ?_) (fun c19 => ?_)
      · have hf := fd_ifp c19 hf
        obtain ⟨y20, ey20, hf⟩ := fd_ltS hf
        refine lv_iinc (v := y20) (lv' := [(1, .int y20), (0, .ref (E.2.2 73))]) hx hb dX7_lookAtRecords_141 hl (k := 1) rfl (by rw [ey20]; rfl) (by decide) rfl (fun ls hl => ?_)
        refine lv_goto (tgt := 2) hx hb dX7_lookAtRecords_144 (by decide) ?_
        exact ih S y20 _ _ _ hf hH (lv_sub hl [1, 0] rfl)
      · have hf := fd_ifn c19 hf
        refine lv_aload_n hx hb dX7_lookAtRecords_21 rfl (lv_at hl 0 rfl) ?_
        refine fd_get 73 7 4 C hH (by decide) rfl (by decide) (by decide) wf_X7_30 (v := .ref (E.2.2 78)) rfl dX7_lookAtRecords_22 ?_
        refine lv_iload_n hx hb dX7_lookAtRecords_25 rfl (lv_at hl 1 rfl) ?_
        refine lv_iconst (v := (4 : Int32)) hx hb dX7_lookAtRecords_26 (by decide) ?_
        refine fd_callS1 [.int x1, .int (4 : Int32)] C hl.1 hH (cM_at l E S x1 (4 : Int32)) wm_X7_72 ⟨rfl, rfl, Nat.le_of_ble_eq_true rfl, Nat.le_of_ble_eq_true rfl⟩ rfl rfl (Nat.le_of_ble_eq_true rfl) ⟨Nat.le_refl _, Nat.le_refl _⟩ dX7_lookAtRecords_27 (fun H locs hH => ?_)
        obtain ⟨g21, hf⟩ := fd_grd hf
        refine fd_iald 78 (275 : Int32) C hH (by decide) rfl rfl g21 dX7_lookAtRecords_30 ?_
        refine lv_aload_n hx hb dX7_lookAtRecords_31 rfl (lv_at hl 0 rfl) ?_
        refine fd_get 73 7 4 C hH (by decide) rfl (by decide) (by decide) wf_X7_30 (v := .ref (E.2.2 78)) rfl dX7_lookAtRecords_32 ?_
        refine lv_bipush (v := (63 : Int32)) hx hb dX7_lookAtRecords_35 (by decide) ?_
        refine fd_iald 78 (275 : Int32) C hH (by decide) rfl rfl (by decide) dX7_lookAtRecords_37 ?_
        refine lv_icmp_gt (tgt := 141) hx hb dX7_lookAtRecords_38 (by decide) (fun c22 => ?_) (fun c22 => ?_)
        · have hf := fd_ifp c22 hf
          obtain ⟨y23, ey23, hf⟩ := fd_ltS hf
          refine lv_iinc (v := y23) (lv' := [(1, .int y23), (0, .ref (E.2.2 73))]) hx hb dX7_lookAtRecords_141 hl (k := 1) rfl (by rw [ey23]; rfl) (by decide) rfl (fun ls hl => ?_)
          refine lv_goto (tgt := 2) hx hb dX7_lookAtRecords_144 (by decide) ?_
          exact ih S y23 _ _ _ hf hH (lv_sub hl [1, 0] rfl)
        · have hf := fd_ifn c22 hf
          refine lv_aload_n hx hb dX7_lookAtRecords_41 rfl (lv_at hl 0 rfl) ?_
          refine lv_iload_n hx hb dX7_lookAtRecords_42 rfl (lv_at hl 1 rfl) ?_
          refine lv_aload_n hx hb dX7_lookAtRecords_43 rfl (lv_at hl 0 rfl) ?_
          refine fd_get 73 7 4 C hH (by decide) rfl (by decide) (by decide) wf_X7_30 (v := .ref (E.2.2 78)) rfl dX7_lookAtRecords_44 ?_
          refine lv_bipush (v := (63 : Int32)) hx hb dX7_lookAtRecords_47 (by decide) ?_
          refine fd_iald 78 (275 : Int32) C hH (by decide) rfl rfl (by decide) dX7_lookAtRecords_49 ?_
          obtain ⟨r24, e25, hf⟩ := fd_bnd hf
          refine fd_callV1 73 7 [.int x1, .int (S 78 (63 : Int32))] C hl.1 hH (cM_penaltyAt l E fu S x1 (S 78 (63 : Int32)) e25) wm_X7_79 (by decide) rfl (by decide) rfl ⟨rfl, rfl, Nat.le_of_ble_eq_true rfl, Nat.le_of_ble_eq_true rfl⟩ rfl rfl (Nat.le_of_ble_eq_true rfl) ⟨Nat.le_refl _, Nat.le_refl _⟩ dX7_lookAtRecords_50 (fun H locs hH => ?_)
          refine lv_aload_n hx hb dX7_lookAtRecords_53 rfl (lv_at hl 0 rfl) ?_
          refine lv_iconst (v := (5 : Int32)) hx hb dX7_lookAtRecords_54 (by decide) ?_
          obtain ⟨r26, e27, hf⟩ := fd_bnd hf
          refine fd_callV1 73 7 [.int (5 : Int32)] C hl.1 hH (cM_bounded l E S (5 : Int32) e27) wm_X7_69 (by decide) rfl (by decide) rfl ⟨rfl, rfl, Nat.le_of_ble_eq_true rfl, Nat.le_of_ble_eq_true rfl⟩ rfl rfl (Nat.le_of_ble_eq_true rfl) ⟨Nat.le_refl _, Nat.le_refl _⟩ dX7_lookAtRecords_55 (fun H locs hH => ?_)
          refine lv_icmp_ge (tgt := 119) hx hb dX7_lookAtRecords_58 (by decide) (fun c28 => ?_) (fun c28 => ?_)
          · have hf := fd_ifp c28 hf
            refine lv_aload_n hx hb dX7_lookAtRecords_119 rfl (lv_at hl 0 rfl) ?_
            refine fd_get 73 7 4 C hH (by decide) rfl (by decide) (by decide) wf_X7_30 (v := .ref (E.2.2 78)) rfl dX7_lookAtRecords_120 ?_
            refine lv_iload_n hx hb dX7_lookAtRecords_123 rfl (lv_at hl 1 rfl) ?_
            refine lv_iconst (v := (4 : Int32)) hx hb dX7_lookAtRecords_124 (by decide) ?_
            refine fd_callS1 [.int x1, .int (4 : Int32)] C hl.1 hH (cM_at l E S x1 (4 : Int32)) wm_X7_72 ⟨rfl, rfl, Nat.le_of_ble_eq_true rfl, Nat.le_of_ble_eq_true rfl⟩ rfl rfl (Nat.le_of_ble_eq_true rfl) ⟨Nat.le_refl _, Nat.le_refl _⟩ dX7_lookAtRecords_125 (fun H locs hH => ?_)
            refine lv_aload_n hx hb dX7_lookAtRecords_128 rfl (lv_at hl 0 rfl) ?_
            refine lv_iload_n hx hb dX7_lookAtRecords_129 rfl (lv_at hl 1 rfl) ?_
            refine lv_aload_n hx hb dX7_lookAtRecords_130 rfl (lv_at hl 0 rfl) ?_
            refine fd_get 73 7 4 C hH (by decide) rfl (by decide) (by decide) wf_X7_30 (v := .ref (E.2.2 78)) rfl dX7_lookAtRecords_131 ?_
            refine lv_bipush (v := (63 : Int32)) hx hb dX7_lookAtRecords_134 (by decide) ?_
            refine fd_iald 78 (275 : Int32) C hH (by decide) rfl rfl (by decide) dX7_lookAtRecords_136 ?_
            obtain ⟨r29, e30, hf⟩ := fd_bnd hf
            refine fd_callV1 73 7 [.int x1, .int (S 78 (63 : Int32))] C hl.1 hH (cM_dueAfter l E fu S x1 (S 78 (63 : Int32)) e30) wm_X7_112 (by decide) rfl (by decide) rfl ⟨rfl, rfl, Nat.le_of_ble_eq_true rfl, Nat.le_of_ble_eq_true rfl⟩ rfl rfl (Nat.le_of_ble_eq_true rfl) ⟨Nat.le_refl _, Nat.le_refl _⟩ dX7_lookAtRecords_137 (fun H locs hH => ?_)
            obtain ⟨g31, hf⟩ := fd_grd hf
            refine fd_iast 78 (275 : Int32) C hH (by decide) rfl rfl g31 dX7_lookAtRecords_140 (fun H locs hH => ?_)
            obtain ⟨S32, eS32, hf⟩ := fd_ltS hf
            rw [← eS32] at hH
            obtain ⟨y33, ey33, hf⟩ := fd_ltS hf
            refine lv_iinc (v := y33) (lv' := [(1, .int y33), (0, .ref (E.2.2 73))]) hx hb dX7_lookAtRecords_141 hl (k := 1) rfl (by rw [ey33]; rfl) (by decide) rfl (fun ls hl => ?_)
            refine lv_goto (tgt := 2) hx hb dX7_lookAtRecords_144 (by decide) ?_
            exact ih S32 y33 _ _ _ hf hH (lv_sub hl [1, 0] rfl)
          · have hf := fd_ifn c28 hf
            refine lv_aload_n hx hb dX7_lookAtRecords_61 rfl (lv_at hl 0 rfl) ?_
            refine fd_get 73 7 4 C hH (by decide) rfl (by decide) (by decide) wf_X7_30 (v := .ref (E.2.2 78)) rfl dX7_lookAtRecords_62 ?_
            refine lv_iload_n hx hb dX7_lookAtRecords_65 rfl (lv_at hl 1 rfl) ?_
            refine lv_iconst (v := (3 : Int32)) hx hb dX7_lookAtRecords_66 (by decide) ?_
            refine fd_callS1 [.int x1, .int (3 : Int32)] C hl.1 hH (cM_at l E S x1 (3 : Int32)) wm_X7_72 ⟨rfl, rfl, Nat.le_of_ble_eq_true rfl, Nat.le_of_ble_eq_true rfl⟩ rfl rfl (Nat.le_of_ble_eq_true rfl) ⟨Nat.le_refl _, Nat.le_refl _⟩ dX7_lookAtRecords_67 (fun H locs hH => ?_)
            refine lv_iconst (v := (0 : Int32)) hx hb dX7_lookAtRecords_70 (by decide) ?_
            obtain ⟨g34, hf⟩ := fd_grd hf
            refine fd_iast 78 (275 : Int32) C hH (by decide) rfl rfl g34 dX7_lookAtRecords_71 (fun H locs hH => ?_)
            obtain ⟨S35, eS35, hf⟩ := fd_ltS hf
            rw [← eS35] at hH
            refine lv_aload_n hx hb dX7_lookAtRecords_72 rfl (lv_at hl 0 rfl) ?_
            refine fd_get 73 7 4 C hH (by decide) rfl (by decide) (by decide) wf_X7_30 (v := .ref (E.2.2 78)) rfl dX7_lookAtRecords_73 ?_
            refine lv_bipush (v := (69 : Int32)) hx hb dX7_lookAtRecords_76 (by decide) ?_
            refine lv_dup2_11 hx hb dX7_lookAtRecords_78 rfl rfl ?_
            refine fd_iald 78 (275 : Int32) C hH (by decide) rfl rfl (by decide) dX7_lookAtRecords_79 ?_
            refine lv_iconst (v := (1 : Int32)) hx hb dX7_lookAtRecords_80 (by decide) ?_
            refine lv_iadd hx hb dX7_lookAtRecords_81 ?_
            refine fd_iast 78 (275 : Int32) C hH (by decide) rfl rfl (by decide) dX7_lookAtRecords_82 (fun H locs hH => ?_)
            obtain ⟨S36, eS36, hf⟩ := fd_ltS hf
            rw [← eS36] at hH
            refine lv_aload_n hx hb dX7_lookAtRecords_83 rfl (lv_at hl 0 rfl) ?_
            refine lv_bipush (v := (82 : Int32)) hx hb dX7_lookAtRecords_84 (by decide) ?_
            refine lv_aload_n hx hb dX7_lookAtRecords_86 rfl (lv_at hl 0 rfl) ?_
            refine fd_get 73 7 4 C hH (by decide) rfl (by decide) (by decide) wf_X7_30 (v := .ref (E.2.2 78)) rfl dX7_lookAtRecords_87 ?_
            refine lv_iload_n hx hb dX7_lookAtRecords_90 rfl (lv_at hl 1 rfl) ?_
            refine lv_iconst (v := (0 : Int32)) hx hb dX7_lookAtRecords_91 (by decide) ?_
            refine fd_callS1 [.int x1, .int (0 : Int32)] C hl.1 hH (cM_at l E S36 x1 (0 : Int32)) wm_X7_72 ⟨rfl, rfl, Nat.le_of_ble_eq_true rfl, Nat.le_of_ble_eq_true rfl⟩ rfl rfl (Nat.le_of_ble_eq_true rfl) ⟨Nat.le_refl _, Nat.le_refl _⟩ dX7_lookAtRecords_92 (fun H locs hH => ?_)
            obtain ⟨g37, hf⟩ := fd_grd hf
            refine fd_iald 78 (275 : Int32) C hH (by decide) rfl rfl g37 dX7_lookAtRecords_95 ?_
            obtain ⟨S38, e39, hf⟩ := fd_bnd hf
            refine fd_callV0 73 7 [.int (82 : Int32), .int (S36 78 (zM_at x1 (0 : Int32)))] C hl.1 hH (cM_beginLine l E fu S36 (82 : Int32) (S36 78 (zM_at x1 (0 : Int32))) e39) wm_X7_118 (by decide) rfl (by decide) rfl ⟨rfl, rfl, Nat.le_of_ble_eq_true rfl, Nat.le_of_ble_eq_true rfl⟩ rfl rfl (Nat.le_of_ble_eq_true rfl) ⟨Nat.le_refl _, Nat.le_refl _⟩ dX7_lookAtRecords_96 (fun H locs hH => ?_)
            refine lv_aload_n hx hb dX7_lookAtRecords_99 rfl (lv_at hl 0 rfl) ?_
            refine lv_bipush (v := (64 : Int32)) hx hb dX7_lookAtRecords_100 (by decide) ?_
            obtain ⟨S40, e41, hf⟩ := fd_bnd hf
            refine fd_callV0 73 7 [.int (64 : Int32)] C hl.1 hH (cM_write l E S38 (64 : Int32) e41) wm_X7_95 (by decide) rfl (by decide) rfl ⟨rfl, rfl, Nat.le_of_ble_eq_true rfl, Nat.le_of_ble_eq_true rfl⟩ rfl rfl (Nat.le_of_ble_eq_true rfl) ⟨Nat.le_refl _, Nat.le_refl _⟩ dX7_lookAtRecords_102 (fun H locs hH => ?_)
            refine lv_aload_n hx hb dX7_lookAtRecords_105 rfl (lv_at hl 0 rfl) ?_
            refine lv_aload_n hx hb dX7_lookAtRecords_106 rfl (lv_at hl 0 rfl) ?_
            refine fd_get 73 7 4 C hH (by decide) rfl (by decide) (by decide) wf_X7_30 (v := .ref (E.2.2 78)) rfl dX7_lookAtRecords_107 ?_
            refine lv_bipush (v := (63 : Int32)) hx hb dX7_lookAtRecords_110 (by decide) ?_
            refine fd_iald 78 (275 : Int32) C hH (by decide) rfl rfl (by decide) dX7_lookAtRecords_112 ?_
            obtain ⟨S42, e43, hf⟩ := fd_bnd hf
            refine fd_callV0 73 7 [.int (S40 78 (63 : Int32))] C hl.1 hH (cM_writeNumber l E fu S40 (S40 78 (63 : Int32)) e43) wm_X7_109 (by decide) rfl (by decide) rfl ⟨rfl, rfl, Nat.le_of_ble_eq_true rfl, Nat.le_of_ble_eq_true rfl⟩ rfl rfl (Nat.le_of_ble_eq_true rfl) ⟨Nat.le_refl _, Nat.le_refl _⟩ dX7_lookAtRecords_113 (fun H locs hH => ?_)
            refine lv_goto (tgt := 141) hx hb dX7_lookAtRecords_116 (by decide) ?_
            obtain ⟨y44, ey44, hf⟩ := fd_ltS hf
            refine lv_iinc (v := y44) (lv' := [(1, .int y44), (0, .ref (E.2.2 73))]) hx hb dX7_lookAtRecords_141 hl (k := 1) rfl (by rw [ey44]; rfl) (by decide) rfl (fun ls hl => ?_)
            refine lv_goto (tgt := 2) hx hb dX7_lookAtRecords_144 (by decide) ?_
            exact ih S42 y44 _ _ _ hf hH (lv_sub hl [1, 0] rfl)
set_option maxHeartbeats 4000000 in
set_option maxRecDepth 100000 in
theorem cM_lookAtRecords (l : Launch) (E : fd_E) (fu : Nat) (S : fd_S) {S0 : fd_S} (hf : zM_lookAtRecords fu S = some S0) : fd_Ct l yX7_lookAtRecords cX7_lookAtRecords 2 none (fd_rm 4 93) E S [.ref (E.2.2 73)] none S0 := by
  unfold zM_lookAtRecords at hf
  refine fd_Ct_of (by decide +kernel) (Nat.le_of_ble_eq_true rfl) ?_
  intro p e s m below meth c ls C hr hlk hH hl
  have hx := C.1
  have hb := C.2.1
  have hl : lv_has ls 2 [(0, .ref (E.2.2 73))] := hl
  refine lv_iconst (v := (0 : Int32)) hx hb dX7_lookAtRecords_0 (by decide) ?_
  refine lv_istore_n (lv' := [(1, .int (0 : Int32)), (0, .ref (E.2.2 73))]) hx hb dX7_lookAtRecords_1 rfl hl (by decide) rfl (fun ls hl => ?_)
  exact wM_lookAtRecords_2 C hr hlk fu fu S (0 : Int32) _ _ _ hf hH (lv_sub hl [1, 0] rfl)
theorem dX7_heldOnes_0 : decode cX7_heldOnes 0 = .ok (.iconst 0, 1) := by decide +kernel
theorem dX7_heldOnes_1 : decode cX7_heldOnes 1 = .ok (.istore_n 1, 1) := by decide +kernel
theorem dX7_heldOnes_2 : decode cX7_heldOnes 2 = .ok (.iconst 0, 1) := by decide +kernel
theorem dX7_heldOnes_3 : decode cX7_heldOnes 3 = .ok (.istore_n 2, 1) := by decide +kernel
theorem dX7_heldOnes_4 : decode cX7_heldOnes 4 = .ok (.iload_n 2, 1) := by decide +kernel
theorem dX7_heldOnes_5 : decode cX7_heldOnes 5 = .ok (.aload_n 0, 1) := by decide +kernel
theorem dX7_heldOnes_6 : decode cX7_heldOnes 6 = .ok (.getfield 30, 3) := by decide +kernel
theorem dX7_heldOnes_9 : decode cX7_heldOnes 9 = .ok (.bipush 64, 2) := by decide +kernel
theorem dX7_heldOnes_11 : decode cX7_heldOnes 11 = .ok (.iaload, 1) := by decide +kernel
theorem dX7_heldOnes_12 : decode cX7_heldOnes 12 = .ok (.if_icmp .ge 25, 3) := by decide +kernel
theorem dX7_heldOnes_15 : decode cX7_heldOnes 15 = .ok (.iload_n 1, 1) := by decide +kernel
theorem dX7_heldOnes_16 : decode cX7_heldOnes 16 = .ok (.aload_n 0, 1) := by decide +kernel
theorem dX7_heldOnes_17 : decode cX7_heldOnes 17 = .ok (.iload_n 2, 1) := by decide +kernel
theorem dX7_heldOnes_18 : decode cX7_heldOnes 18 = .ok (.invokevirtual 85, 3) := by decide +kernel
theorem dX7_heldOnes_21 : decode cX7_heldOnes 21 = .ok (.ifCond .eq 7, 3) := by decide +kernel
theorem dX7_heldOnes_24 : decode cX7_heldOnes 24 = .ok (.iconst 1, 1) := by decide +kernel
theorem dX7_heldOnes_25 : decode cX7_heldOnes 25 = .ok (.goto 4, 3) := by decide +kernel
theorem dX7_heldOnes_28 : decode cX7_heldOnes 28 = .ok (.iconst 0, 1) := by decide +kernel
theorem dX7_heldOnes_29 : decode cX7_heldOnes 29 = .ok (.iadd, 1) := by decide +kernel
theorem dX7_heldOnes_30 : decode cX7_heldOnes 30 = .ok (.istore_n 1, 1) := by decide +kernel
theorem dX7_heldOnes_31 : decode cX7_heldOnes 31 = .ok (.iinc 2 1, 3) := by decide +kernel
theorem dX7_heldOnes_34 : decode cX7_heldOnes 34 = .ok (.goto (-30), 3) := by decide +kernel
theorem dX7_heldOnes_37 : decode cX7_heldOnes 37 = .ok (.iload_n 1, 1) := by decide +kernel
theorem dX7_heldOnes_38 : decode cX7_heldOnes 38 = .ok (.ireturn, 1) := by decide +kernel
set_option maxHeartbeats 4000000 in
set_option maxRecDepth 100000 in
theorem wM_heldOnes_4 {p : Program} {l : Launch} {e : Env} {s : State} {m : MethodId} {args : Array Value} {below : List Frame} {meth : Method} {c : Code} {E : fd_E} (C : fd_C p s m args c yX7_heldOnes.cls cX7_heldOnes 3 E) (hr : meth.sig.returnType = (some .int)) (hlk : meth.locks = false) (fu : Nat) {r0 : Int32} : ∀ (n : Nat) (S : fd_S) (x1 : Int32) (x2 : Int32) (H : Heap) (locs : List Loc) (ls : Array Slot), zM_heldOnes_4 fu n S x1 x2 = some r0 → fd_H E S s H locs → lv_has ls 3 [(0, .ref (E.2.2 73)), (1, .int x1), (2, .int x2)] → W p l e (fd_rm 2 42) s m args below meth c H locs 0 0 (MQ below (fd_Q E (some (.int r0)) S) args s 0 0 (fd_A E)) (F0 m 4 ls []) := by
  have hx := C.1
  have hb := C.2.1
  intro n
  induction n with
  | zero =>
    intro S x1 x2 H locs ls hf
    rw [zM_heldOnes_4] at hf
    cases hf
  | succ n ih =>
    intro S x1 x2 H locs ls hf hH hl
    rw [zM_heldOnes_4] at hf
    refine lv_iload_n hx hb dX7_heldOnes_4 rfl (lv_at hl 2 rfl) ?_
    refine lv_aload_n hx hb dX7_heldOnes_5 rfl (lv_at hl 0 rfl) ?_
    refine fd_get 73 7 4 C hH (by decide) rfl (by decide) (by decide) wf_X7_30 (v := .ref (E.2.2 78)) rfl dX7_heldOnes_6 ?_
    refine lv_bipush (v := (64 : Int32)) hx hb dX7_heldOnes_9 (by decide) ?_
    refine fd_iald 78 (275 : Int32) C hH (by decide) rfl rfl (by decide) dX7_heldOnes_11 ?_
    refine lv_icmp_ge (tgt := 37) hx hb dX7_heldOnes_12 (by decide) (fun c1 => ?_) (fun c1 => ?_)
    · have hf := fd_ifp c1 hf
      refine lv_iload_n hx hb dX7_heldOnes_37 rfl (lv_at hl 1 rfl) ?_
      cases hf
      exact fd_iret C hr hlk hH dX7_heldOnes_38
    · have hf := fd_ifn c1 hf
      refine lv_iload_n hx hb dX7_heldOnes_15 rfl (lv_at hl 1 rfl) ?_
      refine lv_aload_n hx hb dX7_heldOnes_16 rfl (lv_at hl 0 rfl) ?_
      refine lv_iload_n hx hb dX7_heldOnes_17 rfl (lv_at hl 2 rfl) ?_
      obtain ⟨r2, e3, hf⟩ := fd_bnd hf
      refine fd_callV1 73 7 [.int x2] C hl.1 hH (cM_isHeld l E S x2 e3) wm_X7_85 (by decide) rfl (by decide) rfl ⟨rfl, rfl, Nat.le_of_ble_eq_true rfl, Nat.le_of_ble_eq_true rfl⟩ rfl rfl (Nat.le_of_ble_eq_true rfl) ⟨Nat.le_refl _, Nat.le_refl _⟩ dX7_heldOnes_18 (fun H locs hH => ?_)
      refine lv_if_eq (tgt := 28) hx hb dX7_heldOnes_21 (by decide) (fun c4 => ?_) (fun c4 => ?_)
      · have hf := fd_ifp c4 hf
        refine lv_iconst (v := (0 : Int32)) hx hb dX7_heldOnes_28 (by decide) ?_
        refine lv_iadd hx hb dX7_heldOnes_29 ?_
        refine lv_topi (fun y5 ey5 => ?_)
        have hf := fd_ltN ey5 hf
        refine lv_istore_n (lv' := [(1, .int y5), (0, .ref (E.2.2 73)), (2, .int x2)]) hx hb dX7_heldOnes_30 rfl hl (by decide) rfl (fun ls hl => ?_)
        obtain ⟨y6, ey6, hf⟩ := fd_ltS hf
        refine lv_iinc (v := y6) (lv' := [(2, .int y6), (1, .int y5), (0, .ref (E.2.2 73))]) hx hb dX7_heldOnes_31 hl (k := 2) rfl (by rw [ey6]; rfl) (by decide) rfl (fun ls hl => ?_)
        refine lv_goto (tgt := 4) hx hb dX7_heldOnes_34 (by decide) ?_
        exact ih S y5 y6 _ _ _ hf hH (lv_sub hl [2, 1, 0] rfl)
      · have hf := fd_ifn c4 hf
        refine lv_iconst (v := (1 : Int32)) hx hb dX7_heldOnes_24 (by decide) ?_
        refine lv_goto (tgt := 29) hx hb dX7_heldOnes_25 (by decide) ?_
        refine lv_iadd hx hb dX7_heldOnes_29 ?_
        refine lv_topi (fun y7 ey7 => ?_)
        have hf := fd_ltN ey7 hf
        refine lv_istore_n (lv' := [(1, .int y7), (0, .ref (E.2.2 73)), (2, .int x2)]) hx hb dX7_heldOnes_30 rfl hl (by decide) rfl (fun ls hl => ?_)
        obtain ⟨y8, ey8, hf⟩ := fd_ltS hf
        refine lv_iinc (v := y8) (lv' := [(2, .int y8), (1, .int y7), (0, .ref (E.2.2 73))]) hx hb dX7_heldOnes_31 hl (k := 2) rfl (by rw [ey8]; rfl) (by decide) rfl (fun ls hl => ?_)
        refine lv_goto (tgt := 4) hx hb dX7_heldOnes_34 (by decide) ?_
        exact ih S y7 y8 _ _ _ hf hH (lv_sub hl [2, 1, 0] rfl)
set_option maxHeartbeats 4000000 in
set_option maxRecDepth 100000 in
theorem cM_heldOnes (l : Launch) (E : fd_E) (fu : Nat) (S : fd_S) {r0 : Int32} (hf : zM_heldOnes fu S = some r0) : fd_Ct l yX7_heldOnes cX7_heldOnes 3 (some .int) (fd_rm 2 42) E S [.ref (E.2.2 73)] (some (.int r0)) S := by
  unfold zM_heldOnes at hf
  refine fd_Ct_of (by decide +kernel) (Nat.le_of_ble_eq_true rfl) ?_
  intro p e s m below meth c ls C hr hlk hH hl
  have hx := C.1
  have hb := C.2.1
  have hl : lv_has ls 3 [(0, .ref (E.2.2 73))] := hl
  refine lv_iconst (v := (0 : Int32)) hx hb dX7_heldOnes_0 (by decide) ?_
  refine lv_istore_n (lv' := [(1, .int (0 : Int32)), (0, .ref (E.2.2 73))]) hx hb dX7_heldOnes_1 rfl hl (by decide) rfl (fun ls hl => ?_)
  refine lv_iconst (v := (0 : Int32)) hx hb dX7_heldOnes_2 (by decide) ?_
  refine lv_istore_n (lv' := [(2, .int (0 : Int32)), (1, .int (0 : Int32)), (0, .ref (E.2.2 73))]) hx hb dX7_heldOnes_3 rfl hl (by decide) rfl (fun ls hl => ?_)
  exact wM_heldOnes_4 C hr hlk fu fu S (0 : Int32) (0 : Int32) _ _ _ hf hH (lv_sub hl [2, 1, 0] rfl)
theorem dX7_pass_0 : decode cX7_pass 0 = .ok (.iload_n 1, 1) := by decide +kernel
theorem dX7_pass_1 : decode cX7_pass 1 = .ok (.iconst 1, 1) := by decide +kernel
theorem dX7_pass_2 : decode cX7_pass 2 = .ok (.sipush 200, 3) := by decide +kernel
theorem dX7_pass_5 : decode cX7_pass 5 = .ok (.invokestatic 43, 3) := by decide +kernel
theorem dX7_pass_8 : decode cX7_pass 8 = .ok (.ifCond .ne 6, 3) := by decide +kernel
theorem dX7_pass_11 : decode cX7_pass 11 = .ok (.bipush (-2), 2) := by decide +kernel
theorem dX7_pass_13 : decode cX7_pass 13 = .ok (.ireturn, 1) := by decide +kernel
theorem dX7_pass_14 : decode cX7_pass 14 = .ok (.iconst 0, 1) := by decide +kernel
theorem dX7_pass_15 : decode cX7_pass 15 = .ok (.istore_n 2, 1) := by decide +kernel
theorem dX7_pass_16 : decode cX7_pass 16 = .ok (.iload_n 2, 1) := by decide +kernel
theorem dX7_pass_17 : decode cX7_pass 17 = .ok (.iload_n 1, 1) := by decide +kernel
theorem dX7_pass_18 : decode cX7_pass 18 = .ok (.if_icmp .ge 44, 3) := by decide +kernel
theorem dX7_pass_21 : decode cX7_pass 21 = .ok (.aload_n 0, 1) := by decide +kernel
theorem dX7_pass_22 : decode cX7_pass 22 = .ok (.getfield 30, 3) := by decide +kernel
theorem dX7_pass_25 : decode cX7_pass 25 = .ok (.bipush 63, 2) := by decide +kernel
theorem dX7_pass_27 : decode cX7_pass 27 = .ok (.dup2, 1) := by decide +kernel
theorem dX7_pass_28 : decode cX7_pass 28 = .ok (.iaload, 1) := by decide +kernel
theorem dX7_pass_29 : decode cX7_pass 29 = .ok (.iconst 1, 1) := by decide +kernel
theorem dX7_pass_30 : decode cX7_pass 30 = .ok (.iadd, 1) := by decide +kernel
theorem dX7_pass_31 : decode cX7_pass 31 = .ok (.iastore, 1) := by decide +kernel
theorem dX7_pass_32 : decode cX7_pass 32 = .ok (.aload_n 0, 1) := by decide +kernel
theorem dX7_pass_33 : decode cX7_pass 33 = .ok (.getfield 30, 3) := by decide +kernel
theorem dX7_pass_36 : decode cX7_pass 36 = .ok (.bipush 63, 2) := by decide +kernel
theorem dX7_pass_38 : decode cX7_pass 38 = .ok (.iaload, 1) := by decide +kernel
theorem dX7_pass_39 : decode cX7_pass 39 = .ok (.aload_n 0, 1) := by decide +kernel
theorem dX7_pass_40 : decode cX7_pass 40 = .ok (.iconst 1, 1) := by decide +kernel
theorem dX7_pass_41 : decode cX7_pass 41 = .ok (.invokevirtual 69, 3) := by decide +kernel
theorem dX7_pass_44 : decode cX7_pass 44 = .ok (.irem, 1) := by decide +kernel
theorem dX7_pass_45 : decode cX7_pass 45 = .ok (.ifCond .ne 11, 3) := by decide +kernel
theorem dX7_pass_48 : decode cX7_pass 48 = .ok (.aload_n 0, 1) := by decide +kernel
theorem dX7_pass_49 : decode cX7_pass 49 = .ok (.invokevirtual 128, 3) := by decide +kernel
theorem dX7_pass_52 : decode cX7_pass 52 = .ok (.aload_n 0, 1) := by decide +kernel
theorem dX7_pass_53 : decode cX7_pass 53 = .ok (.invokevirtual 125, 3) := by decide +kernel
theorem dX7_pass_56 : decode cX7_pass 56 = .ok (.iinc 2 1, 3) := by decide +kernel
theorem dX7_pass_59 : decode cX7_pass 59 = .ok (.goto (-43), 3) := by decide +kernel
theorem dX7_pass_62 : decode cX7_pass 62 = .ok (.aload_n 0, 1) := by decide +kernel
theorem dX7_pass_63 : decode cX7_pass 63 = .ok (.invokevirtual 131, 3) := by decide +kernel
theorem dX7_pass_66 : decode cX7_pass 66 = .ok (.ireturn, 1) := by decide +kernel
set_option maxHeartbeats 4000000 in
set_option maxRecDepth 100000 in
theorem wM_pass_16 {p : Program} {l : Launch} {e : Env} {s : State} {m : MethodId} {args : Array Value} {below : List Frame} {meth : Method} {c : Code} {E : fd_E} (C : fd_C p s m args c yX7_pass.cls cX7_pass 3 E) (hr : meth.sig.returnType = (some .int)) (hlk : meth.locks = false) (fu : Nat) {r0 : Int32} {S0 : fd_S} : ∀ (n : Nat) (S : fd_S) (x1 : Int32) (x2 : Int32) (H : Heap) (locs : List Loc) (ls : Array Slot), zM_pass_16 fu n S x1 x2 = some (r0, S0) → fd_H E S s H locs → lv_has ls 3 [(0, .ref (E.2.2 73)), (1, .int x1), (2, .int x2)] → W p l e (fd_rm 5 114) s m args below meth c H locs 0 0 (MQ below (fd_Q E (some (.int r0)) S0) args s 0 0 (fd_A E)) (F0 m 16 ls []) := by
  have hx := C.1
  have hb := C.2.1
  intro n
  induction n with
  | zero =>
    intro S x1 x2 H locs ls hf
    rw [zM_pass_16] at hf
    cases hf
  | succ n ih =>
    intro S x1 x2 H locs ls hf hH hl
    rw [zM_pass_16] at hf
    refine lv_iload_n hx hb dX7_pass_16 rfl (lv_at hl 2 rfl) ?_
    refine lv_iload_n hx hb dX7_pass_17 rfl (lv_at hl 1 rfl) ?_
    refine lv_icmp_ge (tgt := 62) hx hb dX7_pass_18 (by decide) (fun c2 => ?_) (fun c2 => ?_)
    · have hf := fd_ifp c2 hf
      refine lv_aload_n hx hb dX7_pass_62 rfl (lv_at hl 0 rfl) ?_
      obtain ⟨r3, e4, hf⟩ := fd_bnd hf
      refine fd_callV1 73 7 [] C hl.1 hH (cM_heldOnes l E fu S e4) wm_X7_131 (by decide) rfl (by decide) rfl ⟨rfl, rfl, Nat.le_of_ble_eq_true rfl, Nat.le_of_ble_eq_true rfl⟩ rfl rfl (Nat.le_of_ble_eq_true rfl) ⟨Nat.le_refl _, Nat.le_refl _⟩ dX7_pass_63 (fun H locs hH => ?_)
      cases hf
      exact fd_iret C hr hlk hH dX7_pass_66
    · have hf := fd_ifn c2 hf
      refine lv_aload_n hx hb dX7_pass_21 rfl (lv_at hl 0 rfl) ?_
      refine fd_get 73 7 4 C hH (by decide) rfl (by decide) (by decide) wf_X7_30 (v := .ref (E.2.2 78)) rfl dX7_pass_22 ?_
      refine lv_bipush (v := (63 : Int32)) hx hb dX7_pass_25 (by decide) ?_
      refine lv_dup2_11 hx hb dX7_pass_27 rfl rfl ?_
      refine fd_iald 78 (275 : Int32) C hH (by decide) rfl rfl (by decide) dX7_pass_28 ?_
      refine lv_iconst (v := (1 : Int32)) hx hb dX7_pass_29 (by decide) ?_
      refine lv_iadd hx hb dX7_pass_30 ?_
      refine fd_iast 78 (275 : Int32) C hH (by decide) rfl rfl (by decide) dX7_pass_31 (fun H locs hH => ?_)
      obtain ⟨S5, eS5, hf⟩ := fd_ltS hf
      rw [← eS5] at hH
      refine lv_aload_n hx hb dX7_pass_32 rfl (lv_at hl 0 rfl) ?_
      refine fd_get 73 7 4 C hH (by decide) rfl (by decide) (by decide) wf_X7_30 (v := .ref (E.2.2 78)) rfl dX7_pass_33 ?_
      refine lv_bipush (v := (63 : Int32)) hx hb dX7_pass_36 (by decide) ?_
      refine fd_iald 78 (275 : Int32) C hH (by decide) rfl rfl (by decide) dX7_pass_38 ?_
      refine lv_aload_n hx hb dX7_pass_39 rfl (lv_at hl 0 rfl) ?_
      refine lv_iconst (v := (1 : Int32)) hx hb dX7_pass_40 (by decide) ?_
      obtain ⟨r6, e7, hf⟩ := fd_bnd hf
      refine fd_callV1 73 7 [.int (1 : Int32)] C hl.1 hH (cM_bounded l E S5 (1 : Int32) e7) wm_X7_69 (by decide) rfl (by decide) rfl ⟨rfl, rfl, Nat.le_of_ble_eq_true rfl, Nat.le_of_ble_eq_true rfl⟩ rfl rfl (Nat.le_of_ble_eq_true rfl) ⟨Nat.le_refl _, Nat.le_refl _⟩ dX7_pass_41 (fun H locs hH => ?_)
      obtain ⟨g8, hf⟩ := fd_grd hf
      refine fd_irem hx hb dX7_pass_44 g8 ?_
      refine lv_if_ne (tgt := 56) hx hb dX7_pass_45 (by decide) (fun c9 => ?_) (fun c9 => ?_)
      · have hf := fd_ifn c9 hf
        obtain ⟨y10, ey10, hf⟩ := fd_ltS hf
        refine lv_iinc (v := y10) (lv' := [(2, .int y10), (0, .ref (E.2.2 73)), (1, .int x1)]) hx hb dX7_pass_56 hl (k := 2) rfl (by rw [ey10]; rfl) (by decide) rfl (fun ls hl => ?_)
        refine lv_goto (tgt := 16) hx hb dX7_pass_59 (by decide) ?_
        exact ih S5 x1 y10 _ _ _ hf hH (lv_sub hl [1, 2, 0] rfl)
      · have hf := fd_ifp c9 hf
        refine lv_aload_n hx hb dX7_pass_48 rfl (lv_at hl 0 rfl) ?_
        obtain ⟨S11, e12, hf⟩ := fd_bnd hf
        refine fd_callV0 73 7 [] C hl.1 hH (cM_lookAtRecords l E fu S5 e12) wm_X7_128 (by decide) rfl (by decide) rfl ⟨rfl, rfl, Nat.le_of_ble_eq_true rfl, Nat.le_of_ble_eq_true rfl⟩ rfl rfl (Nat.le_of_ble_eq_true rfl) ⟨Nat.le_refl _, Nat.le_refl _⟩ dX7_pass_49 (fun H locs hH => ?_)
        refine lv_aload_n hx hb dX7_pass_52 rfl (lv_at hl 0 rfl) ?_
        obtain ⟨S13, e14, hf⟩ := fd_bnd hf
        refine fd_callV0 73 7 [] C hl.1 hH (cM_lookAtBest l E fu S11 e14) wm_X7_125 (by decide) rfl (by decide) rfl ⟨rfl, rfl, Nat.le_of_ble_eq_true rfl, Nat.le_of_ble_eq_true rfl⟩ rfl rfl (Nat.le_of_ble_eq_true rfl) ⟨Nat.le_refl _, Nat.le_refl _⟩ dX7_pass_53 (fun H locs hH => ?_)
        obtain ⟨y15, ey15, hf⟩ := fd_ltS hf
        refine lv_iinc (v := y15) (lv' := [(2, .int y15), (0, .ref (E.2.2 73)), (1, .int x1)]) hx hb dX7_pass_56 hl (k := 2) rfl (by rw [ey15]; rfl) (by decide) rfl (fun ls hl => ?_)
        refine lv_goto (tgt := 16) hx hb dX7_pass_59 (by decide) ?_
        exact ih S13 x1 y15 _ _ _ hf hH (lv_sub hl [1, 2, 0] rfl)
set_option maxHeartbeats 4000000 in
set_option maxRecDepth 100000 in
theorem cM_pass (l : Launch) (E : fd_E) (fu : Nat) (S : fd_S) (x1 : Int32) {r0 : Int32} {S0 : fd_S} (hf : zM_pass fu S x1 = some (r0, S0)) : fd_Ct l yX7_pass cX7_pass 3 (some .int) (fd_rm 5 114) E S [.ref (E.2.2 73), .int x1] (some (.int r0)) S0 := by
  unfold zM_pass at hf
  refine fd_Ct_of (by decide +kernel) (Nat.le_of_ble_eq_true rfl) ?_
  intro p e s m below meth c ls C hr hlk hH hl
  have hx := C.1
  have hb := C.2.1
  have hl : lv_has ls 3 [(0, .ref (E.2.2 73)), (1, .int x1)] := hl
  refine lv_iload_n hx hb dX7_pass_0 rfl (lv_at hl 1 rfl) ?_
  refine lv_iconst (v := (1 : Int32)) hx hb dX7_pass_1 (by decide) ?_
  refine lv_sipush (v := (200 : Int32)) hx hb dX7_pass_2 (by decide) ?_
  refine fd_callS1 [.int x1, .int (1 : Int32), .int (200 : Int32)] C hl.1 hH (cM_in l E S x1 (1 : Int32) (200 : Int32)) wm_X7_43 ⟨rfl, rfl, Nat.le_of_ble_eq_true rfl, Nat.le_of_ble_eq_true rfl⟩ rfl rfl (Nat.le_of_ble_eq_true rfl) ⟨Nat.le_refl _, Nat.le_refl _⟩ dX7_pass_5 (fun H locs hH => ?_)
  refine lv_if_ne (tgt := 14) hx hb dX7_pass_8 (by decide) (fun c1 => ?_) (fun c1 => ?_)
  · have hf := fd_ifn c1 hf
    refine lv_iconst (v := (0 : Int32)) hx hb dX7_pass_14 (by decide) ?_
    refine lv_istore_n (lv' := [(2, .int (0 : Int32)), (0, .ref (E.2.2 73)), (1, .int x1)]) hx hb dX7_pass_15 rfl hl (by decide) rfl (fun ls hl => ?_)
    exact wM_pass_16 C hr hlk fu fu S x1 (0 : Int32) _ _ _ hf hH (lv_sub hl [1, 2, 0] rfl)
  · have hf := fd_ifp c1 hf
    refine lv_bipush (v := (-2 : Int32)) hx hb dX7_pass_11 (by decide) ?_
    cases hf
    exact fd_iret C hr hlk hH dX7_pass_13
theorem dX7_route_0 : decode cX7_route 0 = .ok (.iload_n 1, 1) := by decide +kernel
theorem dX7_route_1 : decode cX7_route 1 = .ok (.iload_n 2, 1) := by decide +kernel
theorem dX7_route_2 : decode cX7_route 2 = .ok (.invokestatic 115, 3) := by decide +kernel
theorem dX7_route_5 : decode cX7_route 5 = .ok (.ifCond .ne 5, 3) := by decide +kernel
theorem dX7_route_8 : decode cX7_route 8 = .ok (.iconst (-1), 1) := by decide +kernel
theorem dX7_route_9 : decode cX7_route 9 = .ok (.ireturn, 1) := by decide +kernel
theorem dX7_route_10 : decode cX7_route 10 = .ok (.iload_n 3, 1) := by decide +kernel
theorem dX7_route_11 : decode cX7_route 11 = .ok (.iconst 0, 1) := by decide +kernel
theorem dX7_route_12 : decode cX7_route 12 = .ok (.bipush 6, 2) := by decide +kernel
theorem dX7_route_14 : decode cX7_route 14 = .ok (.invokestatic 43, 3) := by decide +kernel
theorem dX7_route_17 : decode cX7_route 17 = .ok (.ifCond .ne 6, 3) := by decide +kernel
theorem dX7_route_20 : decode cX7_route 20 = .ok (.bipush (-2), 2) := by decide +kernel
theorem dX7_route_22 : decode cX7_route 22 = .ok (.ireturn, 1) := by decide +kernel
theorem dX7_route_23 : decode cX7_route 23 = .ok (.aload_n 0, 1) := by decide +kernel
theorem dX7_route_24 : decode cX7_route 24 = .ok (.bipush 8, 2) := by decide +kernel
theorem dX7_route_26 : decode cX7_route 26 = .ok (.iload_n 1, 1) := by decide +kernel
theorem dX7_route_27 : decode cX7_route 27 = .ok (.imul, 1) := by decide +kernel
theorem dX7_route_28 : decode cX7_route 28 = .ok (.iload_n 2, 1) := by decide +kernel
theorem dX7_route_29 : decode cX7_route 29 = .ok (.iadd, 1) := by decide +kernel
theorem dX7_route_30 : decode cX7_route 30 = .ok (.invokevirtual 82, 3) := by decide +kernel
theorem dX7_route_33 : decode cX7_route 33 = .ok (.istore 4, 2) := by decide +kernel
theorem dX7_route_35 : decode cX7_route 35 = .ok (.iload_n 3, 1) := by decide +kernel
theorem dX7_route_36 : decode cX7_route 36 = .ok (.tableswitch 172 0 5 #[40, 54, 77, 97, 128, 150], 40) := by decide +kernel
theorem dX7_route_76 : decode cX7_route 76 = .ok (.aload_n 0, 1) := by decide +kernel
theorem dX7_route_77 : decode cX7_route 77 = .ok (.getfield 30, 3) := by decide +kernel
theorem dX7_route_80 : decode cX7_route 80 = .ok (.iconst 0, 1) := by decide +kernel
theorem dX7_route_81 : decode cX7_route 81 = .ok (.bipush 8, 2) := by decide +kernel
theorem dX7_route_83 : decode cX7_route 83 = .ok (.iload_n 1, 1) := by decide +kernel
theorem dX7_route_84 : decode cX7_route 84 = .ok (.imul, 1) := by decide +kernel
theorem dX7_route_85 : decode cX7_route 85 = .ok (.iadd, 1) := by decide +kernel
theorem dX7_route_86 : decode cX7_route 86 = .ok (.iload_n 2, 1) := by decide +kernel
theorem dX7_route_87 : decode cX7_route 87 = .ok (.iadd, 1) := by decide +kernel
theorem dX7_route_88 : decode cX7_route 88 = .ok (.iaload, 1) := by decide +kernel
theorem dX7_route_89 : decode cX7_route 89 = .ok (.ireturn, 1) := by decide +kernel
theorem dX7_route_90 : decode cX7_route 90 = .ok (.iload 4, 2) := by decide +kernel
theorem dX7_route_92 : decode cX7_route 92 = .ok (.ifCond .ge 7, 3) := by decide +kernel
theorem dX7_route_95 : decode cX7_route 95 = .ok (.iconst 0, 1) := by decide +kernel
theorem dX7_route_96 : decode cX7_route 96 = .ok (.goto 16, 3) := by decide +kernel
theorem dX7_route_99 : decode cX7_route 99 = .ok (.aload_n 0, 1) := by decide +kernel
theorem dX7_route_100 : decode cX7_route 100 = .ok (.iload 4, 2) := by decide +kernel
theorem dX7_route_102 : decode cX7_route 102 = .ok (.aload_n 0, 1) := by decide +kernel
theorem dX7_route_103 : decode cX7_route 103 = .ok (.getfield 30, 3) := by decide +kernel
theorem dX7_route_106 : decode cX7_route 106 = .ok (.bipush 63, 2) := by decide +kernel
theorem dX7_route_108 : decode cX7_route 108 = .ok (.iaload, 1) := by decide +kernel
theorem dX7_route_109 : decode cX7_route 109 = .ok (.invokevirtual 79, 3) := by decide +kernel
theorem dX7_route_112 : decode cX7_route 112 = .ok (.ireturn, 1) := by decide +kernel
theorem dX7_route_113 : decode cX7_route 113 = .ok (.iload 4, 2) := by decide +kernel
theorem dX7_route_115 : decode cX7_route 115 = .ok (.ifCond .lt 16, 3) := by decide +kernel
theorem dX7_route_118 : decode cX7_route 118 = .ok (.aload_n 0, 1) := by decide +kernel
theorem dX7_route_119 : decode cX7_route 119 = .ok (.iload 4, 2) := by decide +kernel
theorem dX7_route_121 : decode cX7_route 121 = .ok (.invokevirtual 85, 3) := by decide +kernel
theorem dX7_route_124 : decode cX7_route 124 = .ok (.ifCond .eq 7, 3) := by decide +kernel
theorem dX7_route_127 : decode cX7_route 127 = .ok (.iconst 1, 1) := by decide +kernel
theorem dX7_route_128 : decode cX7_route 128 = .ok (.goto 4, 3) := by decide +kernel
theorem dX7_route_131 : decode cX7_route 131 = .ok (.iconst 0, 1) := by decide +kernel
theorem dX7_route_132 : decode cX7_route 132 = .ok (.ireturn, 1) := by decide +kernel
theorem dX7_route_133 : decode cX7_route 133 = .ok (.iload 4, 2) := by decide +kernel
theorem dX7_route_135 : decode cX7_route 135 = .ok (.ifCond .lt 26, 3) := by decide +kernel
theorem dX7_route_138 : decode cX7_route 138 = .ok (.aload_n 0, 1) := by decide +kernel
theorem dX7_route_139 : decode cX7_route 139 = .ok (.iload 4, 2) := by decide +kernel
theorem dX7_route_141 : decode cX7_route 141 = .ok (.invokevirtual 85, 3) := by decide +kernel
theorem dX7_route_144 : decode cX7_route 144 = .ok (.ifCond .eq 17, 3) := by decide +kernel
theorem dX7_route_147 : decode cX7_route 147 = .ok (.aload_n 0, 1) := by decide +kernel
theorem dX7_route_148 : decode cX7_route 148 = .ok (.getfield 30, 3) := by decide +kernel
theorem dX7_route_151 : decode cX7_route 151 = .ok (.iload 4, 2) := by decide +kernel
theorem dX7_route_153 : decode cX7_route 153 = .ok (.iconst 4, 1) := by decide +kernel
theorem dX7_route_154 : decode cX7_route 154 = .ok (.invokestatic 72, 3) := by decide +kernel
theorem dX7_route_157 : decode cX7_route 157 = .ok (.iaload, 1) := by decide +kernel
theorem dX7_route_158 : decode cX7_route 158 = .ok (.goto 5, 3) := by decide +kernel
theorem dX7_route_161 : decode cX7_route 161 = .ok (.bipush (-6), 2) := by decide +kernel
theorem dX7_route_163 : decode cX7_route 163 = .ok (.ireturn, 1) := by decide +kernel
theorem dX7_route_164 : decode cX7_route 164 = .ok (.iload 4, 2) := by decide +kernel
theorem dX7_route_166 : decode cX7_route 166 = .ok (.ifCond .ge 8, 3) := by decide +kernel
theorem dX7_route_169 : decode cX7_route 169 = .ok (.bipush (-6), 2) := by decide +kernel
theorem dX7_route_171 : decode cX7_route 171 = .ok (.goto 14, 3) := by decide +kernel
theorem dX7_route_174 : decode cX7_route 174 = .ok (.aload_n 0, 1) := by decide +kernel
theorem dX7_route_175 : decode cX7_route 175 = .ok (.getfield 30, 3) := by decide +kernel
theorem dX7_route_178 : decode cX7_route 178 = .ok (.iload 4, 2) := by decide +kernel
theorem dX7_route_180 : decode cX7_route 180 = .ok (.iconst 1, 1) := by decide +kernel
theorem dX7_route_181 : decode cX7_route 181 = .ok (.invokestatic 72, 3) := by decide +kernel
theorem dX7_route_184 : decode cX7_route 184 = .ok (.iaload, 1) := by decide +kernel
theorem dX7_route_185 : decode cX7_route 185 = .ok (.ireturn, 1) := by decide +kernel
theorem dX7_route_186 : decode cX7_route 186 = .ok (.iload 4, 2) := by decide +kernel
theorem dX7_route_188 : decode cX7_route 188 = .ok (.ifCond .ge 8, 3) := by decide +kernel
theorem dX7_route_191 : decode cX7_route 191 = .ok (.bipush (-6), 2) := by decide +kernel
theorem dX7_route_193 : decode cX7_route 193 = .ok (.goto 14, 3) := by decide +kernel
theorem dX7_route_196 : decode cX7_route 196 = .ok (.aload_n 0, 1) := by decide +kernel
theorem dX7_route_197 : decode cX7_route 197 = .ok (.getfield 30, 3) := by decide +kernel
theorem dX7_route_200 : decode cX7_route 200 = .ok (.iload 4, 2) := by decide +kernel
theorem dX7_route_202 : decode cX7_route 202 = .ok (.iconst 2, 1) := by decide +kernel
theorem dX7_route_203 : decode cX7_route 203 = .ok (.invokestatic 72, 3) := by decide +kernel
theorem dX7_route_206 : decode cX7_route 206 = .ok (.iaload, 1) := by decide +kernel
theorem dX7_route_207 : decode cX7_route 207 = .ok (.ireturn, 1) := by decide +kernel
theorem dX7_route_208 : decode cX7_route 208 = .ok (.iload 4, 2) := by decide +kernel
theorem dX7_route_210 : decode cX7_route 210 = .ok (.ifCond .ge 7, 3) := by decide +kernel
theorem dX7_route_213 : decode cX7_route 213 = .ok (.iconst 0, 1) := by decide +kernel
theorem dX7_route_214 : decode cX7_route 214 = .ok (.goto 14, 3) := by decide +kernel
theorem dX7_route_217 : decode cX7_route 217 = .ok (.aload_n 0, 1) := by decide +kernel
theorem dX7_route_218 : decode cX7_route 218 = .ok (.getfield 30, 3) := by decide +kernel
theorem dX7_route_221 : decode cX7_route 221 = .ok (.iload 4, 2) := by decide +kernel
theorem dX7_route_223 : decode cX7_route 223 = .ok (.iconst 5, 1) := by decide +kernel
theorem dX7_route_224 : decode cX7_route 224 = .ok (.invokestatic 72, 3) := by decide +kernel
theorem dX7_route_227 : decode cX7_route 227 = .ok (.iaload, 1) := by decide +kernel
theorem dX7_route_228 : decode cX7_route 228 = .ok (.ireturn, 1) := by decide +kernel
set_option maxHeartbeats 4000000 in
set_option maxRecDepth 100000 in
theorem cM_route (l : Launch) (E : fd_E) (fu : Nat) (S : fd_S) (x1 : Int32) (x2 : Int32) (x3 : Int32) {r0 : Int32} (hf : zM_route fu S x1 x2 x3 = some r0) : fd_Ct l yX7_route cX7_route 5 (some .int) (fd_rm 3 68) E S [.ref (E.2.2 73), .int x1, .int x2, .int x3] (some (.int r0)) S := by
  unfold zM_route at hf
  refine fd_Ct_of (by decide +kernel) (Nat.le_of_ble_eq_true rfl) ?_
  intro p e s m below meth c ls C hr hlk hH hl
  have hx := C.1
  have hb := C.2.1
  have hl : lv_has ls 5 [(0, .ref (E.2.2 73)), (1, .int x1), (2, .int x2), (3, .int x3)] := hl
  refine lv_iload_n hx hb dX7_route_0 rfl (lv_at hl 1 rfl) ?_
  refine lv_iload_n hx hb dX7_route_1 rfl (lv_at hl 2 rfl) ?_
  refine fd_callS1 [.int x1, .int x2] C hl.1 hH (cM_isRoute l E S x1 x2) wm_X7_115 ⟨rfl, rfl, Nat.le_of_ble_eq_true rfl, Nat.le_of_ble_eq_true rfl⟩ rfl rfl (Nat.le_of_ble_eq_true rfl) ⟨Nat.le_refl _, Nat.le_refl _⟩ dX7_route_2 (fun H locs hH => ?_)
  refine lv_if_ne (tgt := 10) hx hb dX7_route_5 (by decide) (fun c1 => ?_) (fun c1 => ?_)
  · have hf := fd_ifn c1 hf
    refine lv_iload_n hx hb dX7_route_10 rfl (lv_at hl 3 rfl) ?_
    refine lv_iconst (v := (0 : Int32)) hx hb dX7_route_11 (by decide) ?_
    refine lv_bipush (v := (6 : Int32)) hx hb dX7_route_12 (by decide) ?_
    refine fd_callS1 [.int x3, .int (0 : Int32), .int (6 : Int32)] C hl.1 hH (cM_in l E S x3 (0 : Int32) (6 : Int32)) wm_X7_43 ⟨rfl, rfl, Nat.le_of_ble_eq_true rfl, Nat.le_of_ble_eq_true rfl⟩ rfl rfl (Nat.le_of_ble_eq_true rfl) ⟨Nat.le_refl _, Nat.le_refl _⟩ dX7_route_14 (fun H locs hH => ?_)
    refine lv_if_ne (tgt := 23) hx hb dX7_route_17 (by decide) (fun c2 => ?_) (fun c2 => ?_)
    · have hf := fd_ifn c2 hf
      refine lv_aload_n hx hb dX7_route_23 rfl (lv_at hl 0 rfl) ?_
      refine lv_bipush (v := (8 : Int32)) hx hb dX7_route_24 (by decide) ?_
      refine lv_iload_n hx hb dX7_route_26 rfl (lv_at hl 1 rfl) ?_
      refine lv_imul hx hb dX7_route_27 ?_
      refine lv_iload_n hx hb dX7_route_28 rfl (lv_at hl 2 rfl) ?_
      refine lv_iadd hx hb dX7_route_29 ?_
      obtain ⟨r3, e4, hf⟩ := fd_bnd hf
      refine fd_callV1 73 7 [.int (((8 : Int32) * x1) + x2)] C hl.1 hH (cM_recordOf l E fu S (((8 : Int32) * x1) + x2) e4) wm_X7_82 (by decide) rfl (by decide) rfl ⟨rfl, rfl, Nat.le_of_ble_eq_true rfl, Nat.le_of_ble_eq_true rfl⟩ rfl rfl (Nat.le_of_ble_eq_true rfl) ⟨Nat.le_refl _, Nat.le_refl _⟩ dX7_route_30 (fun H locs hH => ?_)
      refine lv_istore (lv' := [(4, .int r3), (0, .ref (E.2.2 73)), (1, .int x1), (2, .int x2), (3, .int x3)]) hx hb dX7_route_33 hl (by decide) rfl (fun ls hl => ?_)
      refine lv_iload_n hx hb dX7_route_35 rfl (lv_at hl 4 rfl) ?_
      by_cases c5 : x3 = (0 : Int32)
      · have hf := fd_ifp c5 hf
        refine lv_tableIn (off := 40) (tgt := 76) hx hb dX7_route_36 (by rw [c5]; decide) (by rw [c5]; decide) (by rw [c5]; rfl) (by decide) ?_
        refine lv_aload_n hx hb dX7_route_76 rfl (lv_at hl 1 rfl) ?_
        refine fd_get 73 7 4 C hH (by decide) rfl (by decide) (by decide) wf_X7_30 (v := .ref (E.2.2 78)) rfl dX7_route_77 ?_
        refine lv_iconst (v := (0 : Int32)) hx hb dX7_route_80 (by decide) ?_
        refine lv_bipush (v := (8 : Int32)) hx hb dX7_route_81 (by decide) ?_
        refine lv_iload_n hx hb dX7_route_83 rfl (lv_at hl 2 rfl) ?_
        refine lv_imul hx hb dX7_route_84 ?_
        refine lv_iadd hx hb dX7_route_85 ?_
        refine lv_iload_n hx hb dX7_route_86 rfl (lv_at hl 3 rfl) ?_
        refine lv_iadd hx hb dX7_route_87 ?_
        obtain ⟨g6, hf⟩ := fd_grd hf
        refine fd_iald 78 (275 : Int32) C hH (by decide) rfl rfl g6 dX7_route_88 ?_
        cases hf
        exact fd_iret C hr hlk hH dX7_route_89
      · have hf := fd_ifn c5 hf
        by_cases c7 : x3 = (1 : Int32)
        · have hf := fd_ifp c7 hf
          refine lv_tableIn (off := 54) (tgt := 90) hx hb dX7_route_36 (by rw [c7]; decide) (by rw [c7]; decide) (by rw [c7]; rfl) (by decide) ?_
          refine lv_iload hx hb dX7_route_90 (lv_at hl 0 rfl) ?_
          refine lv_if_ge (tgt := 99) hx hb dX7_route_92 (by decide) (fun c8 => ?_) (fun c8 => ?_)
          · have hf := fd_ifp c8 hf
            refine lv_aload_n hx hb dX7_route_99 rfl (lv_at hl 1 rfl) ?_
            refine lv_iload hx hb dX7_route_100 (lv_at hl 0 rfl) ?_
            refine lv_aload_n hx hb dX7_route_102 rfl (lv_at hl 1 rfl) ?_
            refine fd_get 73 7 4 C hH (by decide) rfl (by decide) (by decide) wf_X7_30 (v := .ref (E.2.2 78)) rfl dX7_route_103 ?_
            refine lv_bipush (v := (63 : Int32)) hx hb dX7_route_106 (by decide) ?_
            refine fd_iald 78 (275 : Int32) C hH (by decide) rfl rfl (by decide) dX7_route_108 ?_
            obtain ⟨r9, e10, hf⟩ := fd_bnd hf
            refine fd_callV1 73 7 [.int r3, .int (S 78 (63 : Int32))] C hl.1 hH (cM_penaltyAt l E fu S r3 (S 78 (63 : Int32)) e10) wm_X7_79 (by decide) rfl (by decide) rfl ⟨rfl, rfl, Nat.le_of_ble_eq_true rfl, Nat.le_of_ble_eq_true rfl⟩ rfl rfl (Nat.le_of_ble_eq_true rfl) ⟨Nat.le_refl _, Nat.le_refl _⟩ dX7_route_109 (fun H locs hH => ?_)
            cases hf
            exact fd_iret C hr hlk hH dX7_route_112
          · have hf := fd_ifn c8 hf
            refine lv_iconst (v := (0 : Int32)) hx hb dX7_route_95 (by decide) ?_
            refine lv_goto (tgt := 112) hx hb dX7_route_96 (by decide) ?_
            cases hf
            exact fd_iret C hr hlk hH dX7_route_112
        · have hf := fd_ifn c7 hf
          by_cases c11 : x3 = (2 : Int32)
          · have hf := fd_ifp c11 hf
            refine lv_tableIn (off := 77) (tgt := 113) hx hb dX7_route_36 (by rw [c11]; decide) (by rw [c11]; decide) (by rw [c11]; rfl) (by decide) ?_
            refine lv_iload hx hb dX7_route_113 (lv_at hl 0 rfl) ?_
            refine lv_if_lt (tgt := 131) hx hb dX7_route_115 (by decide) (fun c12 => ?_) (fun c12 => ?_)
            · have hf := fd_ifp c12 hf
              refine lv_iconst (v := (0 : Int32)) hx hb dX7_route_131 (by decide) ?_
              cases hf
              exact fd_iret C hr hlk hH dX7_route_132
            · have hf := fd_ifn c12 hf
              refine lv_aload_n hx hb dX7_route_118 rfl (lv_at hl 1 rfl) ?_
              refine lv_iload hx hb dX7_route_119 (lv_at hl 0 rfl) ?_
              obtain ⟨r13, e14, hf⟩ := fd_bnd hf
              refine fd_callV1 73 7 [.int r3] C hl.1 hH (cM_isHeld l E S r3 e14) wm_X7_85 (by decide) rfl (by decide) rfl ⟨rfl, rfl, Nat.le_of_ble_eq_true rfl, Nat.le_of_ble_eq_true rfl⟩ rfl rfl (Nat.le_of_ble_eq_true rfl) ⟨Nat.le_refl _, Nat.le_refl _⟩ dX7_route_121 (fun H locs hH => ?_)
              refine lv_if_eq (tgt := 131) hx hb dX7_route_124 (by decide) (fun c15 => ?_) (fun c15 => ?_)
              · have hf := fd_ifp c15 hf
                refine lv_iconst (v := (0 : Int32)) hx hb dX7_route_131 (by decide) ?_
                cases hf
                exact fd_iret C hr hlk hH dX7_route_132
              · have hf := fd_ifn c15 hf
                refine lv_iconst (v := (1 : Int32)) hx hb dX7_route_127 (by decide) ?_
                refine lv_goto (tgt := 132) hx hb dX7_route_128 (by decide) ?_
                cases hf
                exact fd_iret C hr hlk hH dX7_route_132
          · have hf := fd_ifn c11 hf
            by_cases c16 : x3 = (3 : Int32)
            · have hf := fd_ifp c16 hf
              refine lv_tableIn (off := 97) (tgt := 133) hx hb dX7_route_36 (by rw [c16]; decide) (by rw [c16]; decide) (by rw [c16]; rfl) (by decide) ?_
              refine lv_iload hx hb dX7_route_133 (lv_at hl 0 rfl) ?_
              refine lv_if_lt (tgt := 161) hx hb dX7_route_135 (by decide) (fun c17 => ?_) (fun c17 => ?_)
              · have hf := fd_ifp c17 hf
                refine lv_bipush (v := (-6 : Int32)) hx hb dX7_route_161 (by decide) ?_
                cases hf
                exact fd_iret C hr hlk hH dX7_route_163
              · have hf := fd_ifn c17 hf
                refine lv_aload_n hx hb dX7_route_138 rfl (lv_at hl 1 rfl) ?_
                refine lv_iload hx hb dX7_route_139 (lv_at hl 0 rfl) ?_
                obtain ⟨r18, e19, hf⟩ := fd_bnd hf
                refine fd_callV1 73 7 [.int r3] C hl.1 hH (cM_isHeld l E S r3 e19) wm_X7_85 (by decide) rfl (by decide) rfl ⟨rfl, rfl, Nat.le_of_ble_eq_true rfl, Nat.le_of_ble_eq_true rfl⟩ rfl rfl (Nat.le_of_ble_eq_true rfl) ⟨Nat.le_refl _, Nat.le_refl _⟩ dX7_route_141 (fun H locs hH => ?_)
                refine lv_if_eq (tgt := 161) hx hb dX7_route_144 (by decide) (fun c20 => ?_) (fun c20 => ?_)
                · have hf := fd_ifp c20 hf
                  refine lv_bipush (v := (-6 : Int32)) hx hb dX7_route_161 (by decide) ?_
                  cases hf
                  exact fd_iret C hr hlk hH dX7_route_163
                · have hf := fd_ifn c20 hf
                  refine lv_aload_n hx hb dX7_route_147 rfl (lv_at hl 1 rfl) ?_
                  refine fd_get 73 7 4 C hH (by decide) rfl (by decide) (by decide) wf_X7_30 (v := .ref (E.2.2 78)) rfl dX7_route_148 ?_
                  refine lv_iload hx hb dX7_route_151 (lv_at hl 0 rfl) ?_
                  refine lv_iconst (v := (4 : Int32)) hx hb dX7_route_153 (by decide) ?_
                  refine fd_callS1 [.int r3, .int (4 : Int32)] C hl.1 hH (cM_at l E S r3 (4 : Int32)) wm_X7_72 ⟨rfl, rfl, Nat.le_of_ble_eq_true rfl, Nat.le_of_ble_eq_true rfl⟩ rfl rfl (Nat.le_of_ble_eq_true rfl) ⟨Nat.le_refl _, Nat.le_refl _⟩ dX7_route_154 (fun H locs hH => ?_)
                  obtain ⟨g21, hf⟩ := fd_grd hf
                  refine fd_iald 78 (275 : Int32) C hH (by decide) rfl rfl g21 dX7_route_157 ?_
                  refine lv_goto (tgt := 163) hx hb dX7_route_158 (by decide) ?_
                  cases hf
                  exact fd_iret C hr hlk hH dX7_route_163
            · have hf := fd_ifn c16 hf
              by_cases c22 : x3 = (4 : Int32)
              · have hf := fd_ifp c22 hf
                refine lv_tableIn (off := 128) (tgt := 164) hx hb dX7_route_36 (by rw [c22]; decide) (by rw [c22]; decide) (by rw [c22]; rfl) (by decide) ?_
                refine lv_iload hx hb dX7_route_164 (lv_at hl 0 rfl) ?_
                refine lv_if_ge (tgt := 174) hx hb dX7_route_166 (by decide) (fun c23 => ?_) (fun c23 => ?_)
                · have hf := fd_ifp c23 hf
                  refine lv_aload_n hx hb dX7_route_174 rfl (lv_at hl 1 rfl) ?_
                  refine fd_get 73 7 4 C hH (by decide) rfl (by decide) (by decide) wf_X7_30 (v := .ref (E.2.2 78)) rfl dX7_route_175 ?_
                  refine lv_iload hx hb dX7_route_178 (lv_at hl 0 rfl) ?_
                  refine lv_iconst (v := (1 : Int32)) hx hb dX7_route_180 (by decide) ?_
                  refine fd_callS1 [.int r3, .int (1 : Int32)] C hl.1 hH (cM_at l E S r3 (1 : Int32)) wm_X7_72 ⟨rfl, rfl, Nat.le_of_ble_eq_true rfl, Nat.le_of_ble_eq_true rfl⟩ rfl rfl (Nat.le_of_ble_eq_true rfl) ⟨Nat.le_refl _, Nat.le_refl _⟩ dX7_route_181 (fun H locs hH => ?_)
                  obtain ⟨g24, hf⟩ := fd_grd hf
                  refine fd_iald 78 (275 : Int32) C hH (by decide) rfl rfl g24 dX7_route_184 ?_
                  cases hf
                  exact fd_iret C hr hlk hH dX7_route_185
                · have hf := fd_ifn c23 hf
                  refine lv_bipush (v := (-6 : Int32)) hx hb dX7_route_169 (by decide) ?_
                  refine lv_goto (tgt := 185) hx hb dX7_route_171 (by decide) ?_
                  cases hf
                  exact fd_iret C hr hlk hH dX7_route_185
              · have hf := fd_ifn c22 hf
                by_cases c25 : x3 = (5 : Int32)
                · have hf := fd_ifp c25 hf
                  refine lv_tableIn (off := 150) (tgt := 186) hx hb dX7_route_36 (by rw [c25]; decide) (by rw [c25]; decide) (by rw [c25]; rfl) (by decide) ?_
                  refine lv_iload hx hb dX7_route_186 (lv_at hl 0 rfl) ?_
                  refine lv_if_ge (tgt := 196) hx hb dX7_route_188 (by decide) (fun c26 => ?_) (fun c26 => ?_)
                  · have hf := fd_ifp c26 hf
                    refine lv_aload_n hx hb dX7_route_196 rfl (lv_at hl 1 rfl) ?_
                    refine fd_get 73 7 4 C hH (by decide) rfl (by decide) (by decide) wf_X7_30 (v := .ref (E.2.2 78)) rfl dX7_route_197 ?_
                    refine lv_iload hx hb dX7_route_200 (lv_at hl 0 rfl) ?_
                    refine lv_iconst (v := (2 : Int32)) hx hb dX7_route_202 (by decide) ?_
                    refine fd_callS1 [.int r3, .int (2 : Int32)] C hl.1 hH (cM_at l E S r3 (2 : Int32)) wm_X7_72 ⟨rfl, rfl, Nat.le_of_ble_eq_true rfl, Nat.le_of_ble_eq_true rfl⟩ rfl rfl (Nat.le_of_ble_eq_true rfl) ⟨Nat.le_refl _, Nat.le_refl _⟩ dX7_route_203 (fun H locs hH => ?_)
                    obtain ⟨g27, hf⟩ := fd_grd hf
                    refine fd_iald 78 (275 : Int32) C hH (by decide) rfl rfl g27 dX7_route_206 ?_
                    cases hf
                    exact fd_iret C hr hlk hH dX7_route_207
                  · have hf := fd_ifn c26 hf
                    refine lv_bipush (v := (-6 : Int32)) hx hb dX7_route_191 (by decide) ?_
                    refine lv_goto (tgt := 207) hx hb dX7_route_193 (by decide) ?_
                    cases hf
                    exact fd_iret C hr hlk hH dX7_route_207
                · have hf := fd_ifn c25 hf
                  refine lv_tableOut (tgt := 208) hx hb dX7_route_36 (by have hc5 := fd_ne (0 : Int32) (z := 0) (by decide) c5; have hc7 := fd_ne (1 : Int32) (z := 1) (by decide) c7; have hc11 := fd_ne (2 : Int32) (z := 2) (by decide) c11; have hc16 := fd_ne (3 : Int32) (z := 3) (by decide) c16; have hc22 := fd_ne (4 : Int32) (z := 4) (by decide) c22; have hc25 := fd_ne (5 : Int32) (z := 5) (by decide) c25; omega) (by decide) ?_
                  refine lv_iload hx hb dX7_route_208 (lv_at hl 0 rfl) ?_
                  refine lv_if_ge (tgt := 217) hx hb dX7_route_210 (by decide) (fun c28 => ?_) (fun c28 => ?_)
                  · have hf := fd_ifp c28 hf
                    refine lv_aload_n hx hb dX7_route_217 rfl (lv_at hl 1 rfl) ?_
                    refine fd_get 73 7 4 C hH (by decide) rfl (by decide) (by decide) wf_X7_30 (v := .ref (E.2.2 78)) rfl dX7_route_218 ?_
                    refine lv_iload hx hb dX7_route_221 (lv_at hl 0 rfl) ?_
                    refine lv_iconst (v := (5 : Int32)) hx hb dX7_route_223 (by decide) ?_
                    refine fd_callS1 [.int r3, .int (5 : Int32)] C hl.1 hH (cM_at l E S r3 (5 : Int32)) wm_X7_72 ⟨rfl, rfl, Nat.le_of_ble_eq_true rfl, Nat.le_of_ble_eq_true rfl⟩ rfl rfl (Nat.le_of_ble_eq_true rfl) ⟨Nat.le_refl _, Nat.le_refl _⟩ dX7_route_224 (fun H locs hH => ?_)
                    obtain ⟨g29, hf⟩ := fd_grd hf
                    refine fd_iald 78 (275 : Int32) C hH (by decide) rfl rfl g29 dX7_route_227 ?_
                    cases hf
                    exact fd_iret C hr hlk hH dX7_route_228
                  · have hf := fd_ifn c28 hf
                    refine lv_iconst (v := (0 : Int32)) hx hb dX7_route_213 (by decide) ?_
                    refine lv_goto (tgt := 228) hx hb dX7_route_214 (by decide) ?_
                    cases hf
                    exact fd_iret C hr hlk hH dX7_route_228
    · have hf := fd_ifp c2 hf
      refine lv_bipush (v := (-2 : Int32)) hx hb dX7_route_20 (by decide) ?_
      cases hf
      exact fd_iret C hr hlk hH dX7_route_22
  · have hf := fd_ifp c1 hf
    refine lv_iconst (v := (-1 : Int32)) hx hb dX7_route_8 (by decide) ?_
    cases hf
    exact fd_iret C hr hlk hH dX7_route_9
